/-! The two Fairs change places: cells 3 to 22 and 24 to 43 change their numbers -/
def pi1 (c : Nat) : Nat := if 3 ≤ c ∧ c ≤ 22 then c + 21 else if 24 ≤ c ∧ c ≤ 43 then c - 21 else c
theorem pi1_2 (c : Nat) : pi1 (pi1 c) = c := by
  unfold pi1
  by_cases h1 : 3 ≤ c ∧ c ≤ 22
  · rw [if_pos h1, if_neg (by omega), if_pos (by omega)]
    omega
  · rw [if_neg h1]
    by_cases h2 : 24 ≤ c ∧ c ≤ 43
    · rw [if_pos h2, if_pos (by omega)]
      omega
    · rw [if_neg h2, if_neg h1, if_neg h2]
theorem pi1_b {c : Nat} (h : 44 ≤ c) : pi1 c = c := by
  unfold pi1
  rw [if_neg (by omega), if_neg (by omega)]
theorem SH_pi (c : Nat) : SH[pi1 c]? = SH[c]? := by
  by_cases h : c < 44
  · have : ∀ c, c < 44 → SH[pi1 c]? = SH[c]? := by decide +kernel
    exact this c h
  · rw [pi1_b (by omega)]
def ph (h : xHp) : xHp := (h.1, fun c => h.2.1 (pi1 c), fun c => h.2.2.1 (pi1 c), fun c k => (h.2.2.2 (pi1 c) k).map pi1)
theorem xcv_pi (al : Nat → Nat) (v : Value) : xcv (fun i => al (pi1 i)) (xcv pi1 v) = xcv al v := by
  cases v <;> simp [xcv, pi1_2]
theorem xcv_pi2 (al : Nat → Nat) (v : Value) : xcv al (xcv pi1 v) = xcv (fun i => al (pi1 i)) v := by
  cases v <;> simp [xcv]
theorem opt_pi (al : Nat → Nat) (o : Option Nat) : (o.map pi1).map (fun i => al (pi1 i)) = o.map al := by
  cases o <;> simp [pi1_2]
theorem xfv_pi (al : Nat → Nat) (h : xHp) (c ci : Nat) : xfv (fun i => al (pi1 i)) (ph h) c ci = xfv al h (pi1 c) ci := by
  funext k
  unfold xfv ph
  simp only [opt_pi]
theorem xcell_pi (ka : Nat → ClassId) (al : Nat → Nat) (h : xHp) (c t n : Nat) : xcell ka (fun i => al (pi1 i)) (ph h) c t n = xcell ka al h (pi1 c) t n := by
  unfold xcell
  rw [xfv_pi]
  unfold ph
  simp only [opt_pi]
theorem xws_pi {ka : Nat → ClassId} {al : Nat → Nat} {h : xHp} (hs : h.1 = SH) (c : Nat) : (xws ka (fun i => al (pi1 i)) (ph h))[c]? = (xws ka al h)[pi1 c]? := by
  unfold xws
  rw [List.getElem?_mapIdx, List.getElem?_mapIdx]
  have e : (ph h).1 = SH := hs
  rw [e, hs, SH_pi]
  simp only [xcell_pi]
theorem xWd_pi {D : va_G} {ka : Nat → ClassId} {al : Nat → Nat} {A : Nat → Prop} {h : xHp} {H : Heap} (hs : h.1 = SH) (hW : xWd false D ka al A h H) : xWd false D ka (fun i => al (pi1 i)) A (ph h) H := by
  refine ⟨fun k q hq => hW.1 (pi1 k) q ((xws_pi hs k).symm.trans hq), ⟨fun i j p q hi hj e => ?_, fun k q hq => hW.2.1.2 (pi1 k) q ((xws_pi hs k).symm.trans hq)⟩, fun z => by cases z⟩
  have := hW.2.1.1 (pi1 i) (pi1 j) p q ((xws_pi hs i).symm.trans hi) ((xws_pi hs j).symm.trans hj) e
  rw [← pi1_2 i, this, pi1_2]
theorem xWd_pb {D : va_G} {ka : Nat → ClassId} {al : Nat → Nat} {A : Nat → Prop} {h : xHp} {H : Heap} (hs : h.1 = SH) (hW : xWd false D ka (fun i => al (pi1 i)) A h H) : xWd false D ka al A (ph h) H := by
  have k := xWd_pi hs hW
  have e : (fun i => (fun i => al (pi1 i)) (pi1 i)) = al := by
    funext i
    show al (pi1 (pi1 i)) = al i
    rw [pi1_2]
  rw [e] at k
  exact k
theorem xFx_pi {al : Nat → Nat} {A : Nat → Prop} {U : State} {H : Heap} (h : xFx al A U H) : xFx (fun i => al (pi1 i)) A U H := by
  obtain ⟨h1, h2, h3, h4, h5, h6⟩ := h
  refine ⟨h1, fun i q hi => ?_, h3, h4, ?_, h6⟩
  · have := h2 i q hi
    unfold xS1 at this ⊢
    simp only [pi1_b (show 44 ≤ 5000 + i by omega), pi1_b (show 44 ≤ 6000 + i by omega)]
    exact this
  · simp only [pi1_b (show 44 ≤ 4998 by omega)]
    exact h5
theorem xl_pi {al : Nat → Nat} {ls : List (Option Value)} {lsA : Array Slot} {nL : Nat} (h : lv_has lsA nL (xl al ls)) : lv_has lsA nL (xl (fun i => al (pi1 i)) (ls.map (Option.map (xcv pi1)))) := by
  refine xl_sub h (fun q hq => ?_)
  obtain ⟨i, w⟩ := q
  obtain ⟨v, e1, e2⟩ := xl_mem.mp hq
  rw [List.getElem?_map] at e1
  refine xl_mem.mpr ?_
  cases hz : ls[i]? with
  | none => rw [hz] at e1; cases e1
  | some o =>
    rw [hz] at e1
    cases o with
    | none => cases e1
    | some v0 =>
      simp only [Option.map_some, Option.some.injEq] at e1
      refine ⟨v0, rfl, ?_⟩
      rw [e2, ← e1, xcv_pi]
theorem xW_imp {p : Program} {l : Launch} {e : Env} {R : Room} {s : State} {m : MethodId} {args : Array Value} {below : List Frame} {meth : Method} {c : Code} {H : Heap} {locs : List Loc} {cells slots mc ms : Nat} {free : Addr → Prop} {g : JFrame} {Qc Qc' : Array Value → State → Outcome → State → Prop} {XC XC' : String → State → State → Prop} (hq : ∀ o t, Qc args s o t → Qc' args s o t) (hx : ∀ E t, XC E s t → XC' E s t)
    (k : W p l e R s m args below meth c H locs cells slots (vx_MQ below Qc XC args s mc ms free) g) : W p l e R s m args below meth c H locs cells slots (vx_MQ below Qc' XC' args s mc ms free) g := by
  intro T hT X
  obtain ⟨t, a1, o, b1, b2, b3⟩ := k T hT X
  refine ⟨t, a1, o, b1, b2, ?_⟩
  rcases b3 with ⟨b3, b4⟩ | ⟨q, z0, E, ce, L, b5, b6⟩
  · exact Or.inl ⟨hq o t b3, b4⟩
  · exact Or.inr ⟨q, z0, E, ce, L, hx E t b5, b6⟩
/-- go on under the other numbers -/
theorem x_ren {M : xM} {dp kc ks pc : Nat} {ls : List (Option Value)} {st : List Value} {h : xHp} {Q Q' : xPost} {X X' : Nat → xHp → Prop} (hs : h.1 = SH) (hq : ∀ v h', Q' v h' → h'.1 = SH ∧ Q (v.map (xcv pi1)) (ph h')) (hx : ∀ k h', X' k h' → h'.1 = SH ∧ X k (ph h')) (k : Ex M false dp kc ks pc (ls.map (Option.map (xcv pi1))) (st.map (xcv pi1)) (ph h) Q' X') : Ex M false dp kc ks pc ls st h Q X := by
  intro hg p l e R s m args below meth c D ka al A H locs cells slots mc ms lsA C R0 B hW hS hl
  obtain ⟨c1, c2, c3, c4, c5, c6, c7, c8, c9, c10, c11⟩ := C
  have k1 := k hg p l e R s m args below meth c D ka (fun i => al (pi1 i)) A H locs cells slots mc ms lsA ⟨c1, c2, c3, c4, c5, c6, c7, c8, c9, xFx_pi c10, c11⟩ R0 B (xWd_pi hs hW) hS (xl_pi hl)
  have est : (st.map (xcv pi1)).map (xcv (fun i => al (pi1 i))) = st.map (xcv al) := by
    rw [List.map_map]
    refine List.map_congr_left (fun v _ => xcv_pi al v)
  rw [est] at k1
  refine xW_imp ?_ ?_ k1
  · rintro o t ⟨⟨v, h1, e1, e2, e3, e4⟩, e5⟩
    obtain ⟨f1, f2⟩ := hq v h1 e2
    refine ⟨⟨v.map (xcv pi1), ph h1, ?_, f2, xWd_pb f1 e3, e4⟩, e5⟩
    rw [e1, Option.map_map]
    cases v with
    | none => rfl
    | some v => exact congrArg (fun z => Outcome.returned (some z)) (xcv_pi2 al v).symm
  · rintro E t ⟨⟨k, h1, e1, e2, e3, e4⟩, e5⟩
    obtain ⟨f1, f2⟩ := hx k h1 e2
    exact ⟨⟨k, ph h1, e1, f2, xWd_pb f1 e3, e4⟩, e5⟩
/-- the world behind the swap, and back -/
def R1 (c k : Nat) : Option Nat := if c = 23 ∧ k = 0 then some 3 else if c = 1 ∧ k = 2 then some 24 else R0 c k
theorem xr2_far : ∀ (l : List (Option Nat)) (k : Nat), l.length ≤ k → xr2 l k = none
  | [], _, _ => rfl
  | _ :: l, 0, h => by simp at h
  | _ :: l, k + 1, h => xr2_far l k (by simpa using h)
theorem xr1_far : ∀ (l : List (List (Option Nat))) (k : Nat), l.length ≤ k → xr1 l k = []
  | [], _, _ => rfl
  | _ :: l, 0, h => by simp at h
  | _ :: l, k + 1, h => xr1_far l k (by simpa using h)
theorem RT_len : ∀ c, c < 146 → (xr1 RT c).length ≤ 70 := by decide +kernel
theorem R0_far {c k : Nat} (h : 146 ≤ c ∨ 70 ≤ k) : R0 c k = none := by
  unfold R0
  by_cases hc : c < 146
  · exact xr2_far _ _ (Nat.le_trans (RT_len c hc) (by omega))
  · rw [xr1_far RT c (Nat.le_trans (by decide +kernel : RT.length ≤ 146) (by omega))]
    rfl
theorem R1_pi (c k : Nat) : (R1 (pi1 c) k).map pi1 = R0 c k := by
  by_cases h : c < 146 ∧ k < 70
  · have : ∀ c, c < 146 → ∀ k, k < 70 → (R1 (pi1 c) k).map pi1 = R0 c k := by decide +kernel
    exact this c h.1 k h.2
  · have p : 146 ≤ pi1 c ∨ 70 ≤ k := by
      by_cases hk : 70 ≤ k
      · exact Or.inr hk
      · left
        rw [pi1_b (by omega)]
        omega
    have e : R1 (pi1 c) k = R0 (pi1 c) k := by
      unfold R1
      rw [if_neg (by omega), if_neg (by omega)]
    rw [e, R0_far p, R0_far (by omega)]
    rfl
/-- behind the swap, under the other numbers, it is the world again -/
theorem ph_1 (d : Nat → Nat → Int32) (L : Nat → Nat → Int64) : ph (SH, d, L, R1) = W0 (fun c => d (pi1 c)) (fun c => L (pi1 c)) := by
  unfold ph W0
  simp only [R1_pi]
theorem ph_2 (h : xHp) : ph (ph h) = h := by
  obtain ⟨s, d, L, R⟩ := h
  unfold ph
  simp only [pi1_2]
  have e : (fun c k => ((R c k).map pi1).map pi1) = R := by
    funext c k
    cases R c k <;> simp [pi1_2]
  rw [e]
theorem R1_eq : up2 (up2 R0 23 0 (some 3)) 1 2 (some 24) = R1 := by
  funext c k
  unfold R1 up2
  by_cases h1 : c = 1
  · subst h1
    by_cases h2 : k = 2
    · simp [h2]
    · simp [h2]
  · by_cases h3 : c = 23
    · subst h3
      by_cases h2 : k = 0
      · simp [h2]
      · simp [h2]
    · simp [h1, h3]
