/-! THE MODEL reads an EXPR: what stands before each step -/
def pmB (b : Nat) : Nat → Nat := if b = 17 then pmT else pmC
def loB (b : Nat) : Nat := if b = 17 then 0 else 4
def hiB (b : Nat) : Nat := if b = 17 then 5 else 8
def opW (t : Int32) : Int32 := if t = 0 then 14 else opM t
theorem cod_app {pm : Nat → Nat} : ∀ (A B : List Int32), cod pm (A ++ B) = cod pm A ++ cod pm B
  | [], B => rfl
  | t :: A, B => by
    show ctM pm t ++ cod pm (A ++ B) = (ctM pm t ++ cod pm A) ++ cod pm B
    rw [cod_app A B, List.append_assoc]
theorem ct_op {pm : Nat → Nat} {t : Int32} (h : t ≤ -11) : ctM pm t = [opM t] := by
  unfold ctM
  rw [if_neg (Int32.not_lt.mpr h)]
theorem cod_ops {pm : Nat → Nat} : ∀ (V : List Int32), (∀ t ∈ V, t ≤ -11) → cod pm V = V.map opM
  | [], _ => rfl
  | t :: V, h => by
    show ctM pm t ++ cod pm V = opM t :: V.map opM
    rw [ct_op (h t List.mem_cons_self), cod_ops V (fun q hq => h q (List.mem_cons_of_mem _ hq))]
    rfl
theorem rdp_drp {l : Nat} : ∀ (W C : List Int32), (∀ t ∈ W, t = 0 ∨ t ≤ -11) → ∃ V W', drp l C W = (C ++ V, W') ∧ rdp l (W.map opW) = (V.map opM, W'.map opW) ∧ (∀ t ∈ V, t ≤ -11) ∧ V.length + W'.length = W.length ∧ ∀ t ∈ W', t ∈ W
  | [], C, _ => ⟨[], [], by rw [List.append_nil]; rfl, rfl, fun _ h => absurd h List.not_mem_nil, rfl, fun _ h => h⟩
  | t :: W, C, h => by
    have ht := h t List.mem_cons_self
    by_cases h0 : t = 0
    · refine ⟨[], t :: W, ?_, ?_, fun _ h => (by cases h), (by simp), fun _ h => h⟩
      · rw [drp, if_pos h0, List.append_nil]
      · show rdp l (opW t :: W.map opW) = _
        rw [rdp, if_pos (by unfold opW; rw [if_pos h0]; decide)]
        rfl
    · have ht' : t ≤ -11 := ht.resolve_left h0
      have e : opW t = opM t := by unfold opW; rw [if_neg h0]
      by_cases hl : l ≤ str t
      · obtain ⟨V, W', a1, a2, a3, a4, a5⟩ := rdp_drp W (C ++ [t]) (fun q hq => h q (List.mem_cons_of_mem _ hq))
        refine ⟨t :: V, W', ?_, ?_, ?_, ?_, fun q hq => List.mem_cons_of_mem _ (a5 q hq)⟩
        · rw [drp, if_neg h0, if_pos hl, a1, List.append_assoc]
          rfl
        · show rdp l (opW t :: W.map opW) = _
          rw [rdp, e, if_neg (opM_14 t), sth_opM, if_pos hl, a2]
          rfl
        · intro q hq
          rcases List.mem_cons.mp hq with z | z
          · rw [z]; exact ht'
          · exact a3 q z
        · simp only [List.length_cons]
          omega
      · refine ⟨[], t :: W, ?_, ?_, fun _ h => (by cases h), (by simp), fun _ h => h⟩
        · rw [drp, if_neg h0, if_neg hl, List.append_nil]
        · show rdp l (opW t :: W.map opW) = _
          rw [rdp, e, if_neg (opM_14 t), sth_opM, if_neg hl]
          rw [← e]
          rfl
theorem opn_any : ∀ (W : List Int32), ((W.map opW).any (fun x => decide ((14 : Int32) ≤ x))) = decide ((0 : Int32) ∈ W)
  | [] => rfl
  | t :: W => by
    rw [List.map_cons, List.any_cons, opn_any W]
    by_cases h0 : t = 0
    · subst h0
      rw [decide_eq_true (show (0 : Int32) ∈ 0 :: W from List.mem_cons_self)]
      rfl
    · have e : opW t = opM t := by unfold opW; rw [if_neg h0]
      rw [e, decide_eq_false (opM_14 t), Bool.false_or]
      by_cases hm : (0 : Int32) ∈ W
      · rw [decide_eq_true hm, decide_eq_true (List.mem_cons_of_mem _ hm)]
      · rw [decide_eq_false hm, decide_eq_false (fun z => (List.mem_cons.mp z).elim (fun y => h0 y.symm) hm)]
/-- how many parentheses are open -/
def zc : List Int32 → Nat
  | [] => 0
  | t :: W => if t = 0 then zc W + 1 else zc W
def GS (d : Nat → Nat → Int32) (b at0 : Nat) (C W : List Int32) (ts : List Bool) : Prop := d 112 12 = nI 0 ∧ (d 112 28 = nI (at0 + (cod (pmB b) C).length) ∧ ∀ (i : Nat) (t : Int32), (cod (pmB b) C)[i]? = some t → d 125 (at0 + i) = t) ∧ WA d (W.map opW) ∧ (∀ t ∈ W, t = 0 ∨ t ≤ -11) ∧ (d 112 32 = nI ts.length ∧ ∀ (i : Nat) (q : Bool), ts.reverse[i]? = some q → d 127 (i + 1) = bI q) ∧ ts.length ≤ 6 ∧ d 112 29 = nI (loB b) ∧ d 112 30 = nI (hiB b)
def BD (at0 b : Nat) (C W : List Int32) (l : List Tk) : Prop := at0 + (cod (pmB b) C).length + W.length + 2 * l.length ≤ 1400 ∧ W.length + l.length ≤ 701
def BS (d : Nat → Nat → Int32) (at0 : Nat) (f : Nat × Nat) : Prop := (d 112 12 = nI f.1 ∧ d 112 13 = nI f.2 ∧ 1 ≤ f.1 ∧ f.1 ≤ 5 ∧ f.2 ≤ 700) ∧ ∃ m X, d 112 28 = nI m ∧ WA d X ∧ at0 ≤ m ∧ m + X.length ≤ 1398 ∧ X.length ≤ 900
def EF (at0 : Nat) (d d' : Nat → Nat → Int32) : Prop := (∀ c, c ≠ 112 → c ≠ 125 → c ≠ 126 → c ≠ 127 → d' c = d c) ∧ (∀ k, k < 12 ∨ k = 14 ∨ k = 15 ∨ (22 ≤ k ∧ k < 28) ∨ 32 < k → d' 112 k = d 112 k) ∧ ∀ i, i < at0 → d' 125 i = d 125 i
theorem EF_rfl {at0 : Nat} {d : Nat → Nat → Int32} : EF at0 d d := ⟨fun _ _ _ _ _ => rfl, fun _ _ => rfl, fun _ _ => rfl⟩
theorem EF_tr {at0 : Nat} {d d' d'' : Nat → Nat → Int32} (h : EF at0 d d') (h' : EF at0 d' d'') : EF at0 d d'' := ⟨fun c a1 a2 a3 a4 => (h'.1 c a1 a2 a3 a4).trans (h.1 c a1 a2 a3 a4), fun k a => (h'.2.1 k a).trans (h.2.1 k a), fun i a => (h'.2.2 i a).trans (h.2.2 i a)⟩
theorem EF_MF {at0 : Nat} {d d' : Nat → Nat → Int32} (h : MF d d') : EF at0 d d' := ⟨fun c a1 _ _ _ => h.1 c a1, fun k a => h.2 k (by omega), fun i _ => congrFun (h.1 125 (by decide)) i⟩
theorem EF_f {at0 : Nat} {d d' : Nat → Nat → Int32} {k : Nat} {x : Int32} (h : EF at0 d d') (hk : k = 12 ∨ k = 13 ∨ (28 ≤ k ∧ k ≤ 32)) : EF at0 d (up2 d' 112 k x) := by
  refine ⟨fun c a1 a2 a3 a4 => (up2_ne a1).trans (h.1 c a1 a2 a3 a4), fun j a => ?_, fun i a => ?_⟩
  · rw [up2_k (by omega)]
    exact h.2.1 j a
  · rw [up2_ne (by decide)]
    exact h.2.2 i a
theorem EF_c {at0 : Nat} {d d' : Nat → Nat → Int32} {c k : Nat} {x : Int32} (h : EF at0 d d') (hc : (c = 125 ∧ at0 ≤ k) ∨ c = 126 ∨ c = 127) : EF at0 d (up2 d' c k x) := by
  refine ⟨fun q a1 a2 a3 a4 => (up2_ne (by omega)).trans (h.1 q a1 a2 a3 a4), fun j a => ?_, fun i a => ?_⟩
  · rw [up2_ne (by omega)]
    exact h.2.1 j a
  · rcases hc with ⟨rfl, z⟩ | z | z
    · rw [up2_k (by omega)]
      exact h.2.2 i a
    · rw [up2_ne (by omega)]
      exact h.2.2 i a
    · rw [up2_ne (by omega)]
      exact h.2.2 i a
theorem EF_DF {at0 m : Nat} {d d' : Nat → Nat → Int32} (h : DF m d d') (hm : at0 ≤ m) : EF at0 d d' := ⟨fun c a1 a2 _ _ => h.1 c a1 a2, fun k a => h.2.1 k (by omega) (by omega), fun i a => h.2.2 i (by omega)⟩
theorem MXs_e {d d' : Nat → Nat → Int32} {L : Nat → Nat → Int64} {T : Nat → Nat} {n s : Nat} (H : MXs d L T n s) (h1 : d' 118 = d 118) (h2 : ∀ k, 13 ≤ k → k ≤ 21 → d' 112 k = d 112 k) : MXs d' L T n s := by
  obtain ⟨⟨a1, a2, a0⟩, a3, a4, a5, a6, a7, a8, a9⟩ := H
  refine ⟨⟨(h2 15 (by decide) (by decide)).trans a1, fun j hj => ?_, (h2 13 (by decide) (by decide)).trans a0⟩, (h2 16 (by decide) (by decide)).trans a3, (h2 18 (by decide) (by decide)).trans a4, (h2 19 (by decide) (by decide)).trans a5, (h2 17 (by decide) (by decide)).trans a6, (h2 20 (by decide) (by decide)).trans a7, (h2 21 (by decide) (by decide)).trans a8, a9⟩
  rw [h1]
  exact a2 j hj
theorem MT_e {d d' : Nat → Nat → Int32} {L : Nat → Nat → Int64} {T : Nat → Nat} {n : Nat} {l : List Tk} (H : MT d L T n l) (h1 : d' 118 = d 118) (h2 : ∀ k, 13 ≤ k → k ≤ 21 → d' 112 k = d 112 k) : MT d' L T n l := by
  obtain ⟨i, hi, e, hx⟩ := H
  exact ⟨i, hi, e, MXs_e hx h1 h2⟩
theorem MT_f1 {d : Nat → Nat → Int32} {L : Nat → Nat → Int64} {T : Nat → Nat} {n k : Nat} {x : Int32} {l : List Tk} (H : MT d L T n l) (hk : k < 13 ∨ 21 < k) : MT (up2 d 112 k x) L T n l := MT_e H (up2_ne (by decide)) (fun j h1 h2 => up2_k (by omega))
theorem MT_c1 {d : Nat → Nat → Int32} {L : Nat → Nat → Int64} {T : Nat → Nat} {n c k : Nat} {x : Int32} {l : List Tk} (H : MT d L T n l) (hc : c ≠ 112 ∧ c ≠ 118) : MT (up2 d c k x) L T n l := MT_e H (up2_ne (fun z => hc.2 z.symm)) (fun j h1 h2 => congrFun (up2_ne (fun z => hc.1 z.symm)) j)
theorem MT_DF {d d' : Nat → Nat → Int32} {L : Nat → Nat → Int64} {T : Nat → Nat} {n m : Nat} {l : List Tk} (H : MT d L T n l) (h : DF m d d') : MT d' L T n l := MT_e H (h.1 118 (by decide) (by decide)) (fun k a b => h.2.1 k (by omega) (by omega))
section
variable {d d' : Nat → Nat → Int32} {b at0 : Nat} {C W : List Int32} {ts : List Bool}
theorem GS_MF (H : GS d b at0 C W ts) (h : MF d d') : GS d' b at0 C W ts := by
  unfold GS WA at H ⊢
  rw [h.2 12 (by decide), h.2 28 (by decide), h.2 31 (by decide), h.2 32 (by decide), h.2 29 (by decide), h.2 30 (by decide), h.1 125 (by decide), h.1 126 (by decide), h.1 127 (by decide)]
  exact H
theorem GS_push (H : GS d b at0 C W ts) {t : Int32} (ht : t = 0 ∨ t ≤ -11) : GS (up2 (up2 d 126 W.length (opW t)) 112 31 (nI (W.length + 1))) b at0 C (t :: W) ts := by
  obtain ⟨a1, ⟨a2, a3⟩, a4, a5, ⟨a6, a7⟩, a8, a9, a10⟩ := H
  have w := WA_pu a4 (opW t)
  rw [List.length_map] at w
  refine ⟨a1, ⟨a2, fun i q hi => a3 i q hi⟩, w, fun q hq => ?_, ⟨a6, fun i q hi => a7 i q hi⟩, a8, a9, a10⟩
  rcases List.mem_cons.mp hq with z | z
  · rw [z]; exact ht
  · exact a5 q z
theorem GS_code (H : GS d b at0 C W ts) {m : Nat} (hm : m = at0 + (cod (pmB b) C).length) {t x y : Int32} (ht : ctM (pmB b) t = [x, y]) : GS (up2 (up2 (up2 (up2 d 125 m x) 112 28 (nI (m + 1))) 125 (m + 1) y) 112 28 (nI (m + 1 + 1))) b at0 (C ++ [t]) W ts := by
  obtain ⟨a1, ⟨a2, a3⟩, a4, a5, ⟨a6, a7⟩, a8, a9, a10⟩ := H
  have e : cod (pmB b) (C ++ [t]) = cod (pmB b) C ++ [x, y] := by
    rw [cod_app]
    show cod (pmB b) C ++ (ctM (pmB b) t ++ []) = _
    rw [ht]
    rfl
  refine ⟨a1, ⟨?_, fun i q hi => ?_⟩, ⟨a4.1, fun i q hi => a4.2 i q hi⟩, a5, ⟨a6, fun i q hi => a7 i q hi⟩, a8, a9, a10⟩
  · rw [e, up2_eq, List.length_append]
    show nI (m + 1 + 1) = nI (at0 + ((cod (pmB b) C).length + 2))
    congr 1
    omega
  · rw [e] at hi
    show (if at0 + i = m + 1 then y else if at0 + i = m then x else d 125 (at0 + i)) = q
    have hl := (List.getElem?_eq_some_iff.mp hi).1
    simp only [List.length_append, List.length_cons, List.length_nil] at hl
    by_cases h1 : i = (cod (pmB b) C).length + 1
    · rw [if_pos (by omega)]
      rw [h1, List.getElem?_append_right (by omega), show (cod (pmB b) C).length + 1 - (cod (pmB b) C).length = 1 by omega] at hi
      exact Option.some.inj hi
    · rw [if_neg (by omega)]
      by_cases h2 : i = (cod (pmB b) C).length
      · rw [if_pos (by omega)]
        rw [h2, List.getElem?_append_right (by omega), Nat.sub_self] at hi
        exact Option.some.inj hi
      · rw [if_neg (by omega)]
        rw [List.getElem?_append_left (by omega)] at hi
        exact a3 i q hi
theorem GS_drop (H : GS d b at0 C W ts) {l : Nat} (h : DF (at0 + (cod (pmB b) C).length) d d') (h1 : WA d' (rdp l (W.map opW)).2) (h2 : d' 112 28 = nI (at0 + (cod (pmB b) C).length + (rdp l (W.map opW)).1.length)) (h3 : ∀ (i : Nat) (x : Int32), (rdp l (W.map opW)).1[i]? = some x → d' 125 (at0 + (cod (pmB b) C).length + i) = x) : GS d' b at0 (drp l C W).1 (drp l C W).2 ts ∧ (cod (pmB b) (drp l C W).1).length + (drp l C W).2.length = (cod (pmB b) C).length + W.length := by
  obtain ⟨a1, ⟨a2, a3⟩, a4, a5, ⟨a6, a7⟩, a8, a9, a10⟩ := H
  obtain ⟨V, W', e1, e2, e3, e4, e5⟩ := rdp_drp (l := l) W C a5
  rw [e2] at h1 h2 h3
  rw [e1]
  have ec : cod (pmB b) (C ++ V) = cod (pmB b) C ++ V.map opM := by rw [cod_app, cod_ops V e3]
  simp only [List.length_map] at h2
  refine ⟨⟨(h.2.1 12 (by decide) (by decide)).trans a1, ⟨?_, fun i q hi => ?_⟩, h1, fun t ht => a5 t (e5 t ht), ⟨(h.2.1 32 (by decide) (by decide)).trans a6, fun i q hi => ?_⟩, a8, (h.2.1 29 (by decide) (by decide)).trans a9, (h.2.1 30 (by decide) (by decide)).trans a10⟩, ?_⟩
  · show d' 112 28 = nI (at0 + (cod (pmB b) (C ++ V)).length)
    rw [ec, h2, List.length_append, List.length_map, Nat.add_assoc]
  · have hi' : (cod (pmB b) (C ++ V))[i]? = some q := hi
    rw [ec] at hi'
    by_cases hc : i < (cod (pmB b) C).length
    · rw [List.getElem?_append_left hc] at hi'
      rw [h.2.2 (at0 + i) (by omega)]
      exact a3 i q hi'
    · rw [List.getElem?_append_right (by omega)] at hi'
      have := h3 (i - (cod (pmB b) C).length) q hi'
      rw [show at0 + (cod (pmB b) C).length + (i - (cod (pmB b) C).length) = at0 + i by omega] at this
      exact this
  · rw [h.1 127 (by decide) (by decide)]
    exact a7 i q hi
  · show (cod (pmB b) (C ++ V)).length + W'.length = _
    rw [ec, List.length_append, List.length_map]
    omega
theorem GS_deep (H : GS d b at0 C W ts) (hl : ts.length < 6) : GS (up2 (up2 d 112 32 (nI (ts.length + 1))) 127 (ts.length + 1) 0) b at0 C W (false :: ts) := by
  obtain ⟨a1, ⟨a2, a3⟩, a4, a5, ⟨a6, a7⟩, a8, a9, a10⟩ := H
  refine ⟨a1, ⟨a2, fun i q hi => a3 i q hi⟩, ⟨a4.1, fun i q hi => a4.2 i q hi⟩, a5, ⟨rfl, fun i q hi => ?_⟩, (by simp only [List.length_cons]; omega), a9, a10⟩
  show (if i + 1 = ts.length + 1 then 0 else d 127 (i + 1)) = bI q
  rw [List.reverse_cons] at hi
  by_cases e : i = ts.length
  · rw [if_pos (by omega)]
    rw [e, List.getElem?_append_right (by rw [List.length_reverse]; exact Nat.le_refl _), List.length_reverse, Nat.sub_self] at hi
    rw [← Option.some.inj hi]
    rfl
  · rw [if_neg (by omega)]
    have h2 := (List.getElem?_eq_some_iff.mp hi).1
    simp only [List.length_append, List.length_reverse, List.length_cons, List.length_nil] at h2
    rw [List.getElem?_append_left (by rw [List.length_reverse]; omega)] at hi
    exact a7 i q hi
theorem GS_test {q : Bool} (H : GS d b at0 C W (q :: ts)) (p : Bool) : GS (up2 d 127 (ts.length + 1) (bI p)) b at0 C W (p :: ts) := by
  obtain ⟨a1, ⟨a2, a3⟩, a4, a5, ⟨a6, a7⟩, a8, a9, a10⟩ := H
  refine ⟨a1, ⟨a2, fun i q hi => a3 i q hi⟩, ⟨a4.1, fun i q hi => a4.2 i q hi⟩, a5, ⟨a6, fun i q hi => ?_⟩, a8, a9, a10⟩
  show (if i + 1 = ts.length + 1 then bI p else d 127 (i + 1)) = bI q
  rw [List.reverse_cons] at hi
  by_cases e : i = ts.length
  · rw [if_pos (by omega)]
    rw [e, List.getElem?_append_right (by rw [List.length_reverse]; exact Nat.le_refl _), List.length_reverse, Nat.sub_self] at hi
    rw [← Option.some.inj hi]
  · rw [if_neg (by omega)]
    have h2 := (List.getElem?_eq_some_iff.mp hi).1
    simp only [List.length_append, List.length_reverse, List.length_cons, List.length_nil] at h2
    rw [List.getElem?_append_left (by rw [List.length_reverse]; omega)] at hi
    refine a7 i q ?_
    rw [List.reverse_cons, List.getElem?_append_left (by rw [List.length_reverse]; omega)]
    exact hi
theorem GS_tq {q : Bool} (H : GS d b at0 C W (q :: ts)) : d 112 32 = nI (ts.length + 1) ∧ d 127 (ts.length + 1) = bI q ∧ ts.length + 1 ≤ 6 := by
  obtain ⟨a1, ⟨a2, a3⟩, a4, a5, ⟨a6, a7⟩, a8, a9, a10⟩ := H
  refine ⟨a6, a7 ts.length q ?_, a8⟩
  rw [List.reverse_cons, List.getElem?_append_right (by rw [List.length_reverse]; exact Nat.le_refl _), List.length_reverse, Nat.sub_self]
  rfl
theorem GS_close {q : Bool} {t : Int32} (H : GS d b at0 C (t :: W) (q :: ts)) : GS (up2 (up2 d 112 31 (nI W.length)) 112 32 (nI ts.length)) b at0 C W ts := by
  obtain ⟨a1, ⟨a2, a3⟩, a4, a5, ⟨a6, a7⟩, a8, a9, a10⟩ := H
  refine ⟨a1, ⟨a2, fun i q hi => a3 i q hi⟩, ?_, fun q hq => a5 q (List.mem_cons_of_mem _ hq), ⟨rfl, fun i q hi => ?_⟩, (by simp only [List.length_cons] at a8; omega), a9, a10⟩
  · refine WA_tl (x := opW t) a4 ?_ rfl
    rw [List.length_map]
    rfl
  · refine a7 i q ?_
    have hl := (List.getElem?_eq_some_iff.mp hi).1
    rw [List.reverse_cons, List.getElem?_append_left hl]
    exact hi
/-- a fault is set -/
theorem BS_of (H : GS d b at0 C W ts) {l : List Tk} (B : BD at0 b C W l) {e : Nat} (he : 1 ≤ l.length) (hm : d' 112 28 = nI (at0 + (cod (pmB b) C).length + e)) (hx : e + 2 ≤ 2 * l.length) (h31 : d' 112 31 = d 112 31) (h126 : d' 126 = d 126) {f s : Nat} (h12 : d' 112 12 = nI f) (h13 : d' 112 13 = nI s) (h1 : 1 ≤ f) (h5 : f ≤ 5) (hs : s ≤ 700) : BS d' at0 (f, s) := by
  refine ⟨⟨h12, h13, h1, h5, hs⟩, _, W.map opW, hm, WA_c H.2.2.1 h31 h126, by omega, ?_, ?_⟩
  · rw [List.length_map]
    have := B.1
    omega
  · rw [List.length_map]
    have := B.2
    omega
theorem B2 (H : GS d b at0 C W ts) {l : List Tk} (B : BD at0 b C W l) (he : 2 ≤ l.length) {m : Nat} (hm : at0 + (cod (pmB b) C).length = m) {f s : Nat} (h1 : 1 ≤ f) (h5 : f ≤ 5) (hs : s ≤ 700) (x y : Int32) : EF at0 d (up2 (up2 (up2 (up2 (up2 (up2 d 112 12 (nI f)) 112 13 (nI s)) 125 m x) 112 28 (nI (m + 1))) 125 (m + 1) y) 112 28 (nI (m + 1 + 1))) ∧ BS (up2 (up2 (up2 (up2 (up2 (up2 d 112 12 (nI f)) 112 13 (nI s)) 125 m x) 112 28 (nI (m + 1))) 125 (m + 1) y) 112 28 (nI (m + 1 + 1))) at0 (f, s) := by
  refine ⟨EF_f (EF_c (EF_f (EF_c (EF_f (EF_f EF_rfl (by omega)) (by omega)) (Or.inl ⟨rfl, by omega⟩)) (by omega)) (Or.inl ⟨rfl, by omega⟩)) (by omega), ?_⟩
  have q12 : up2 (up2 (up2 (up2 (up2 (up2 d 112 12 (nI f)) 112 13 (nI s)) 125 m x) 112 28 (nI (m + 1))) 125 (m + 1) y) 112 28 (nI (m + 1 + 1)) 112 12 = nI f := rfl
  have q13 : up2 (up2 (up2 (up2 (up2 (up2 d 112 12 (nI f)) 112 13 (nI s)) 125 m x) 112 28 (nI (m + 1))) 125 (m + 1) y) 112 28 (nI (m + 1 + 1)) 112 13 = nI s := rfl
  have q28 : up2 (up2 (up2 (up2 (up2 (up2 d 112 12 (nI f)) 112 13 (nI s)) 125 m x) 112 28 (nI (m + 1))) 125 (m + 1) y) 112 28 (nI (m + 1 + 1)) 112 28 = nI (at0 + (cod (pmB b) C).length + 2) := by rw [up2_eq, hm]
  have q31 : up2 (up2 (up2 (up2 (up2 (up2 d 112 12 (nI f)) 112 13 (nI s)) 125 m x) 112 28 (nI (m + 1))) 125 (m + 1) y) 112 28 (nI (m + 1 + 1)) 112 31 = d 112 31 := rfl
  have q126 : up2 (up2 (up2 (up2 (up2 (up2 d 112 12 (nI f)) 112 13 (nI s)) 125 m x) 112 28 (nI (m + 1))) 125 (m + 1) y) 112 28 (nI (m + 1 + 1)) 126 = d 126 := rfl
  exact BS_of H B (by omega) q28 (by omega) q31 q126 q12 q13 h1 h5 hs
theorem B0 (H : GS d b at0 C W ts) {l : List Tk} (B : BD at0 b C W l) (he : 1 ≤ l.length) {f s : Nat} (h1 : 1 ≤ f) (h5 : f ≤ 5) (hs : s ≤ 700) : EF at0 d (up2 (up2 d 112 12 (nI f)) 112 13 (nI s)) ∧ BS (up2 (up2 d 112 12 (nI f)) 112 13 (nI s)) at0 (f, s) := by
  refine ⟨EF_f (EF_f EF_rfl (by omega)) (by omega), ?_⟩
  have q12 : up2 (up2 d 112 12 (nI f)) 112 13 (nI s) 112 12 = nI f := rfl
  have q13 : up2 (up2 d 112 12 (nI f)) 112 13 (nI s) 112 13 = nI s := rfl
  have q28 : up2 (up2 d 112 12 (nI f)) 112 13 (nI s) 112 28 = nI (at0 + (cod (pmB b) C).length + 0) := H.2.1.1
  exact BS_of H B he q28 (by omega) rfl rfl q12 q13 h1 h5 hs
end
theorem vx_rng {b v : Nat} (hb : b = 17 ∨ b = 20) : (match vxB b v with | some t => loB b ≤ v ∧ v ≤ hiB b ∧ ctM (pmB b) t = [2, nI v] | none => ¬ (loB b ≤ v ∧ v ≤ hiB b)) := by
  rcases hb with rfl | rfl
  · show (match vxT v with | some t => 0 ≤ v ∧ v ≤ 5 ∧ ctM pmT t = [2, nI v] | none => ¬ (0 ≤ v ∧ v ≤ 5))
    rcases (by omega : v = 0 ∨ v = 1 ∨ v = 2 ∨ v = 3 ∨ v = 4 ∨ v = 5 ∨ 6 ≤ v) with rfl | rfl | rfl | rfl | rfl | rfl | h
    · exact (show 0 ≤ 0 ∧ 0 ≤ 5 ∧ ctM pmT (-1) = [2, nI 0] by decide)
    · exact (show 0 ≤ 1 ∧ 1 ≤ 5 ∧ ctM pmT (-3) = [2, nI 1] by decide)
    · exact (show 0 ≤ 2 ∧ 2 ≤ 5 ∧ ctM pmT (-4) = [2, nI 2] by decide)
    · exact (show 0 ≤ 3 ∧ 3 ≤ 5 ∧ ctM pmT (-5) = [2, nI 3] by decide)
    · exact (show 0 ≤ 4 ∧ 4 ≤ 5 ∧ ctM pmT (-2) = [2, nI 4] by decide)
    · exact (show 0 ≤ 5 ∧ 5 ≤ 5 ∧ ctM pmT (-6) = [2, nI 5] by decide)
    · have e : vxT v = none := by
        unfold vxT
        rw [if_neg (by omega), if_neg (by omega), if_neg (by omega), if_neg (by omega), if_neg (by omega), if_neg (by omega)]
      rw [e]
      show ¬ (0 ≤ v ∧ v ≤ 5)
      omega
  · show (match vxC v with | some t => 4 ≤ v ∧ v ≤ 8 ∧ ctM pmC t = [2, nI v] | none => ¬ (4 ≤ v ∧ v ≤ 8))
    rcases (by omega : v = 4 ∨ v = 5 ∨ v = 6 ∨ v = 7 ∨ v = 8 ∨ v < 4 ∨ 8 < v) with rfl | rfl | rfl | rfl | rfl | h | h
    · exact (show 4 ≤ 4 ∧ 4 ≤ 8 ∧ ctM pmC (-3) = [2, nI 4] by decide)
    · exact (show 4 ≤ 5 ∧ 5 ≤ 8 ∧ ctM pmC (-5) = [2, nI 5] by decide)
    · exact (show 4 ≤ 6 ∧ 6 ≤ 8 ∧ ctM pmC (-1) = [2, nI 6] by decide)
    · exact (show 4 ≤ 7 ∧ 7 ≤ 8 ∧ ctM pmC (-2) = [2, nI 7] by decide)
    · exact (show 4 ≤ 8 ∧ 8 ≤ 8 ∧ ctM pmC (-4) = [2, nI 8] by decide)
    · have e : vxC v = none := by
        unfold vxC
        rw [if_neg (by omega), if_neg (by omega), if_neg (by omega), if_neg (by omega), if_neg (by omega)]
      rw [e]
      show ¬ (4 ≤ v ∧ v ≤ 8)
      omega
    · have e : vxC v = none := by
        unfold vxC
        rw [if_neg (by omega), if_neg (by omega), if_neg (by omega), if_neg (by omega), if_neg (by omega)]
      rw [e]
      show ¬ (4 ≤ v ∧ v ≤ 8)
      omega
theorem MT_2 {d : Nat → Nat → Int32} {L : Nat → Nat → Int64} {T : Nat → Nat} {n s k v : Nat} {r : List Tk} (H : MT d L T n ((s, k, v) :: r)) (hk : ¬ k = 0) : 1 ≤ r.length := by
  obtain ⟨h1, h2, h3, h4, h5⟩ := MT_hd H
  obtain ⟨h6, h7⟩ := h5 hk
  rw [h7, TL_eq (tE_sp h6).2]
  simp only [List.length_cons]
  omega
abbrev qO (b at0 : Nat) (T : Nat → Nat) (n : Nat) (d : Nat → Nat → Int32) (L : Nat → Nat → Int64) (l : List Tk) (md : Nat) (C W : List Int32) (ts : List Bool) : xPost := fun r h => r = none ∧ ∃ d' L', h = W0 d' L' ∧ EF at0 d d' ∧ ML L L' ∧ ((∃ f, BS d' at0 f ∧ run (vxB b) l md C W ts = .inl f) ∨ (∃ l' C' W' ts', MT d' L' T n l' ∧ GS d' b at0 C' W' ts' ∧ BD at0 b C' W' l' ∧ zc W' + 1 = ts'.length ∧ l'.length < l.length ∧ run (vxB b) l md C W ts = run (vxB b) l' 0 C' W' ts'))
section
variable (d : Nat → Nat → Int32) (L : Nat → Nat → Int64) {T : Nat → Nat} {n b at0 : Nat}
set_option maxRecDepth 100000 in
set_option maxHeartbeats 1600000 in
theorem k_partB {f : Nat} (h : d 112 12 = nI f) (h1 : 1 ≤ f) (h5 : f ≤ 5) : Cn mX12_part false 2 0 0 [.ref 112] (W0 d L) (fun r h => r = none ∧ h = W0 d L) := by
  refine Cn.intro gX12_part rfl (Nat.le_of_ble_eq_true rfl) rfl ?_
  repeat refine x_s rfl rfl ?_
  refine x_cv (k_isGood d L h h5) rfl rfl rfl (by decide) rfl (by decide) rfl (Nat.le_of_ble_eq_true rfl) (by decide) (by decide) (by decide) ?_
  rintro _ _ ⟨rfl, rfl⟩
  rw [decide_eq_false (by omega)]
  refine x_br rfl rfl (fun c => absurd c (fun z => z rfl)) (fun c => ?_)
  exact x_vret rfl rfl ⟨rfl, rfl⟩
set_option maxRecDepth 100000 in
set_option maxHeartbeats 1600000 in
theorem k_part (hn : n ≤ 700) (hT : ∀ j, T j < 256) (hb : b = 17 ∨ b = 20) {s k v : Nat} {r : List Tk} {C W : List Int32} {ts : List Bool} (H : MT d L T n ((s, k, v) :: r)) (G : GS d b at0 C W ts) (B : BD at0 b C W ((s, k, v) :: r)) (hts : zc W + 1 = ts.length) (hk : ¬ k = 40) : Cn mX12_part false 4 0 0 [.ref 112] (W0 d L) (qO b at0 T n d L ((s, k, v) :: r) 1 C W ts) := by
  obtain ⟨f1, f2, f3, f4, f5, e, f6, f7, f8, ch, f9, f10, f11⟩ := MT_f H
  have sl := srt_le k
  have g12 := G.1
  have b1 := B.1
  have b2 := B.2
  simp only [List.length_cons] at b1 b2
  have g28 := G.2.1.1
  generalize hm : at0 + (cod (pmB b) C).length = m at g28 b1
  have badR : ∀ (d1 : Nat → Nat → Int32) (f : Nat), 1 ≤ f → f ≤ 5 → d1 112 12 = nI f → EF at0 d d1 → BS d1 at0 (f, s) → run (vxB b) ((s, k, v) :: r) 1 C W ts = .inl (f, s) → ∀ o, Ex mX12_part false 4 0 0 97 [some (.ref 112), o] [] (W0 d1 L) (qO b at0 T n d L ((s, k, v) :: r) 1 C W ts) nX := by
    intro d1 f h1 h5 h12 E1 B1 hr o
    repeat refine x_s rfl rfl ?_
    refine x_cv (k_isGood d1 L h12 h5) rfl rfl rfl (by decide) rfl (by decide) rfl (Nat.le_of_ble_eq_true rfl) (by decide) (by decide) (by decide) ?_
    rintro _ _ ⟨rfl, rfl⟩
    rw [decide_eq_false (by omega)]
    refine x_br rfl rfl (fun c => ?_) (fun c => absurd c (fun z => z rfl))
    exact x_vret rfl rfl ⟨rfl, d1, L, rfl, E1, ML_rfl, Or.inl ⟨(f, s), B1, hr⟩⟩
  have goodR : ∀ (t x y : Int32), ctM (pmB b) t = [x, y] → ¬ k = 0 → run (vxB b) ((s, k, v) :: r) 1 C W ts = run (vxB b) r 0 (C ++ [t]) W ts → ∀ o, Ex mX12_part false 4 0 0 97 [some (.ref 112), o] [] (W0 (up2 (up2 (up2 (up2 d 125 m x) 112 28 (nI (m + 1))) 125 (m + 1) y) 112 28 (nI (m + 1 + 1))) L) (qO b at0 T n d L ((s, k, v) :: r) 1 C W ts) nX := by
    intro t x y ht hk0 hr o
    have G1 := GS_code G hm.symm ht
    have E1 : EF at0 d (up2 (up2 (up2 (up2 d 125 m x) 112 28 (nI (m + 1))) 125 (m + 1) y) 112 28 (nI (m + 1 + 1))) := EF_f (EF_c (EF_f (EF_c EF_rfl (Or.inl ⟨rfl, by omega⟩)) (by omega)) (Or.inl ⟨rfl, by omega⟩)) (by omega)
    have M1 : MT (up2 (up2 (up2 (up2 d 125 m x) 112 28 (nI (m + 1))) 125 (m + 1) y) 112 28 (nI (m + 1 + 1))) L T n ((s, k, v) :: r) := MT_f1 (MT_c1 (MT_f1 (MT_c1 H (by decide)) (by omega)) (by decide)) (by omega)
    generalize up2 (up2 (up2 (up2 d 125 m x) 112 28 (nI (m + 1))) 125 (m + 1) y) 112 28 (nI (m + 1 + 1)) = d1 at G1 E1 M1 ⊢
    repeat refine x_s rfl rfl ?_
    refine x_cv (k_isGood d1 L G1.1 (by decide)) rfl rfl rfl (by decide) rfl (by decide) rfl (Nat.le_of_ble_eq_true rfl) (by decide) (by decide) (by decide) ?_
    rintro _ _ ⟨rfl, rfl⟩
    refine x_br rfl rfl (fun c => absurd c (by decide)) (fun c => ?_)
    repeat refine x_s rfl rfl ?_
    refine x_cv (k_goes d1 L hn hT M1 hk0) rfl rfl rfl (by decide) rfl (by decide) rfl (Nat.le_of_ble_eq_true rfl) (by decide) (by decide) (by decide) ?_
    rintro _ _ ⟨rfl, d2, L2, rfl, F2, l2, M2⟩
    refine x_vret rfl rfl ⟨rfl, d2, L2, rfl, EF_tr E1 (EF_MF F2), l2, Or.inr ⟨r, C ++ [t], W, ts, M2, GS_MF G1 F2, ⟨?_, by omega⟩, hts, by simp only [List.length_cons]; omega, hr⟩⟩
    rw [cod_app, List.length_append]
    show at0 + ((cod (pmB b) C).length + (ctM (pmB b) t ++ []).length) + W.length + 2 * r.length ≤ 1400
    rw [ht]
    show at0 + ((cod (pmB b) C).length + 2) + W.length + 2 * r.length ≤ 1400
    omega
  refine Cn.intro gX12_part rfl (Nat.le_of_ble_eq_true rfl) rfl ?_
  repeat refine x_s rfl rfl ?_
  refine x_cv (k_isGood d L g12 (by decide)) rfl rfl rfl (by decide) rfl (by decide) rfl (Nat.le_of_ble_eq_true rfl) (by decide) (by decide) (by decide) ?_
  rintro _ _ ⟨rfl, rfl⟩
  refine x_br rfl rfl (fun c => ?_) (fun c => absurd c (fun z => absurd z (by decide)))
  repeat refine x_s rfl rfl ?_
  rw [f2]
  by_cases h2 : k = 2
  · subst h2
    have r1 := MT_2 H (by decide)
    refine x_br rfl rfl (fun c => absurd c (fun z => z rfl)) (fun c => ?_)
    repeat refine x_s rfl rfl ?_
    rw [f6]
    rcases f8 rfl with ⟨a1, rfl⟩ | ⟨a1, a2, a3⟩
    · refine x_br rfl rfl (fun c => absurd c (fun z => absurd z (nI_ge (b := e) (a := 4) a1 (by omega)))) (fun c => ?_)
      repeat refine x_s rfl rfl ?_
      refine x_cv (k_wrong d L g12 _) rfl rfl rfl (by decide) rfl (by decide) rfl (Nat.le_of_ble_eq_true rfl) (by decide) (by decide) (by decide) ?_
      rintro _ _ ⟨rfl, rfl⟩
      rw [f1]
      repeat refine x_s rfl rfl ?_
      refine x_cv (k_puts (up2 (up2 d 112 12 2) 112 13 (nI s)) L (m := m) g28 (by omega) _) rfl rfl rfl (by decide) rfl (by decide) rfl (Nat.le_of_ble_eq_true rfl) (by decide) (by decide) (by decide) ?_
      rintro _ _ ⟨rfl, rfl⟩
      repeat refine x_s rfl rfl ?_
      refine x_cv (k_puts (up2 (up2 (up2 (up2 d 112 12 2) 112 13 (nI s)) 125 m 1) 112 28 (nI (m + 1))) L (m := m + 1) rfl (by omega) _) rfl rfl rfl (by decide) rfl (by decide) rfl (Nat.le_of_ble_eq_true rfl) (by decide) (by decide) (by decide) ?_
      rintro _ _ ⟨rfl, rfl⟩
      iterate 1 refine x_s rfl rfl ?_
      obtain ⟨E1, B1⟩ := B2 G B (by simp only [List.length_cons]; omega) hm (f := 2) (s := s) (by decide) (by decide) (by omega) 1 (d 112 20)
      refine badR _ 2 (by decide) (by decide) B1.1.1 E1 B1 ?_ _
      rw [run, if_neg (by omega), if_neg (by decide), if_pos rfl, if_pos rfl]
    · refine x_br rfl rfl (fun c => ?_) (fun c => absurd c (fun z => absurd (nI_le (a := e) (b := 4) a1 (by decide)) z))
      repeat refine x_s rfl rfl ?_
      refine x_cv (k_puts d L (m := m) g28 (by omega) _) rfl rfl rfl (by decide) rfl (by decide) rfl (Nat.le_of_ble_eq_true rfl) (by decide) (by decide) (by decide) ?_
      rintro _ _ ⟨rfl, rfl⟩
      repeat refine x_s rfl rfl ?_
      rw [show up2 (up2 d 125 m 1) 112 28 (nI (m + 1)) 112 20 = nI v from a3]
      refine x_cv (k_puts (up2 (up2 d 125 m 1) 112 28 (nI (m + 1))) L (m := m + 1) rfl (by omega) _) rfl rfl rfl (by decide) rfl (by decide) rfl (Nat.le_of_ble_eq_true rfl) (by decide) (by decide) (by decide) ?_
      rintro _ _ ⟨rfl, rfl⟩
      iterate 1 refine x_s rfl rfl ?_
      refine goodR (nI v) 1 (nI v) ?_ (by decide) ?_ _
      · unfold ctM
        rw [if_pos (by rw [ilt, nI_tI (by omega)]; have : (-11 : Int32).toInt = -11 := rfl; omega), if_pos (nI_pos' (by omega))]
      · rw [run, if_neg (by omega), if_neg (by decide), if_pos rfl, if_neg (by omega)]
  refine x_br rfl rfl (fun c => ?_) (fun c => absurd c (fun z => h2 ((srt_e (by omega)).mp ((nI_eq (by omega) (by decide)).mp z))))
  repeat refine x_s rfl rfl ?_
  rw [f2]
  by_cases h1 : k = 1
  · subst h1
    have r1 := MT_2 H (by decide)
    refine x_br rfl rfl (fun c => absurd c (fun z => z rfl)) (fun c => ?_)
    repeat refine x_s rfl rfl ?_
    refine x_cv (k_knownWord d L hT hn H) rfl rfl rfl (by decide) rfl (by decide) rfl (Nat.le_of_ble_eq_true rfl) (by decide) (by decide) (by decide) ?_
    rintro _ _ ⟨rfl, rfl⟩
    obtain ⟨-, -, -, b4, -⟩ := MT_hd H
    have vl : v ≤ 17 := by
      obtain ⟨-, -, b3, b4, b5⟩ := MT_hd H
      rw [b4]
      unfold tV
      rw [← b3, if_neg (by decide), if_pos rfl]
      exact fx_le _ _
    have lo : loB b ≤ 4 ∧ hiB b ≤ 8 := by rcases hb with rfl | rfl <;> decide
    have at74 : ¬ (loB b ≤ v ∧ v ≤ hiB b) → Ex mX12_part false 4 0 0 74 [some (.ref 112), some (.int (kwI 1 v))] [] (W0 d L) (qO b at0 T n d L ((s, 1, v) :: r) 1 C W ts) nX := by
      intro hv
      have hx := vx_rng (v := v) hb
      have hx0 : vxB b v = none := by
        cases q : vxB b v with
        | none => rfl
        | some t =>
          rw [q] at hx
          exact absurd ⟨hx.1, hx.2.1⟩ hv
      repeat refine x_s rfl rfl ?_
      refine x_cv (k_wrong d L g12 _) rfl rfl rfl (by decide) rfl (by decide) rfl (Nat.le_of_ble_eq_true rfl) (by decide) (by decide) (by decide) ?_
      rintro _ _ ⟨rfl, rfl⟩
      rw [f1]
      repeat refine x_s rfl rfl ?_
      refine x_cv (k_puts (up2 (up2 d 112 12 3) 112 13 (nI s)) L (m := m) g28 (by omega) _) rfl rfl rfl (by decide) rfl (by decide) rfl (Nat.le_of_ble_eq_true rfl) (by decide) (by decide) (by decide) ?_
      rintro _ _ ⟨rfl, rfl⟩
      repeat refine x_s rfl rfl ?_
      refine x_cv (k_puts (up2 (up2 (up2 (up2 d 112 12 3) 112 13 (nI s)) 125 m 2) 112 28 (nI (m + 1))) L (m := m + 1) rfl (by omega) _) rfl rfl rfl (by decide) rfl (by decide) rfl (Nat.le_of_ble_eq_true rfl) (by decide) (by decide) (by decide) ?_
      rintro _ _ ⟨rfl, rfl⟩
      iterate 1 refine x_s rfl rfl ?_
      obtain ⟨E1, B1⟩ := B2 G B (by simp only [List.length_cons]; omega) hm (f := 3) (s := s) (by decide) (by decide) (by omega) 2 (kwI 1 v)
      refine badR _ 3 (by decide) (by decide) B1.1.1 E1 B1 ?_ _
      rw [run, if_neg (by omega), if_neg (by decide), if_neg (by decide), if_pos rfl, hx0]
    repeat refine x_s rfl rfl ?_
    rw [G.2.2.2.2.2.2.1]
    by_cases h17 : v < 17
    rotate_left
    · have ek : kwI 1 v = -1 := by
        unfold kwI
        rw [if_neg (fun z => h17 z.2)]
      rw [ek] at at74 ⊢
      refine x_br rfl rfl (fun c => ?_) (fun c => absurd c (fun z => z (by rw [ilt, nI_tI (by omega)]; have : (-1 : Int32).toInt = -1 := rfl; omega)))
      exact at74 (by omega)
    have ek : kwI 1 v = nI v := by
      unfold kwI
      rw [if_pos ⟨rfl, h17⟩]
    rw [ek] at at74 ⊢
    by_cases h3 : v < loB b
    · refine x_br rfl rfl (fun c => ?_) (fun c => absurd c (fun z => z (nI_lt h3 (by omega))))
      exact at74 (by omega)
    refine x_br rfl rfl (fun c => absurd c (fun z => absurd z (Int32.not_lt.mpr (nI_le (by omega) (by omega))))) (fun c => ?_)
    repeat refine x_s rfl rfl ?_
    rw [G.2.2.2.2.2.2.2]
    by_cases h4 : v ≤ hiB b
    rotate_left
    · refine x_br rfl rfl (fun c => absurd c (fun z => absurd z (nI_ge (by omega) (by omega)))) (fun c => ?_)
      exact at74 (by omega)
    refine x_br rfl rfl (fun c => ?_) (fun c => absurd c (fun z => absurd (nI_le h4 (by omega)) z))
    have hx := vx_rng (v := v) hb
    cases q : vxB b v with
    | none =>
      rw [q] at hx
      exact absurd ⟨by omega, h4⟩ hx
    | some t =>
      rw [q] at hx
      repeat refine x_s rfl rfl ?_
      refine x_cv (k_puts d L (m := m) g28 (by omega) _) rfl rfl rfl (by decide) rfl (by decide) rfl (Nat.le_of_ble_eq_true rfl) (by decide) (by decide) (by decide) ?_
      rintro _ _ ⟨rfl, rfl⟩
      repeat refine x_s rfl rfl ?_
      refine x_cv (k_puts (up2 (up2 d 125 m 2) 112 28 (nI (m + 1))) L (m := m + 1) rfl (by omega) _) rfl rfl rfl (by decide) rfl (by decide) rfl (Nat.le_of_ble_eq_true rfl) (by decide) (by decide) (by decide) ?_
      rintro _ _ ⟨rfl, rfl⟩
      iterate 1 refine x_s rfl rfl ?_
      refine goodR t 2 (nI v) hx.2.2 (by decide) ?_ _
      rw [run, if_neg (by omega), if_neg (by decide), if_neg (by decide), if_pos rfl, q]
  refine x_br rfl rfl (fun c => ?_) (fun c => absurd c (fun z => h1 ((srt_e (by omega)).mp ((nI_eq (by omega) (by decide)).mp z))))
  repeat refine x_s rfl rfl ?_
  refine x_cv (k_wrong d L g12 _) rfl rfl rfl (by decide) rfl (by decide) rfl (Nat.le_of_ble_eq_true rfl) (by decide) (by decide) (by decide) ?_
  rintro _ _ ⟨rfl, rfl⟩
  rw [f1]
  obtain ⟨E1, B1⟩ := B0 G B (by simp) (f := 1) (s := s) (by decide) (by decide) (by omega)
  refine badR _ 1 (by decide) (by decide) B1.1.1 E1 B1 ?_ _
  rw [run, if_neg (by omega), if_neg hk, if_neg h2, if_neg h1]
end
