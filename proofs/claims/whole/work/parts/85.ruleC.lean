/-! THE COMPONENT reads rules -/
section
variable {M : xM} {fr : Bool} {dp kc ks pc nx tgt a b : Nat} {off : Int} {li : Int32} {ll : Int64} {ls : List (Option Value)} {st : List Value} {h : xHp} {Q : xPost} {X : Nat → xHp → Prop} {qa qb : Nat × Nat}
theorem x_acne (hf : xft M.2.2.2.2.2 pc = some (nx, .if_acmp .ne off, [tgt], li, ll)) (ha : xsh h.1 a = some qa) (hb : xsh h.1 b = some qb) (kt : ¬ a = b → Ex M fr dp kc ks tgt ls st h Q X) (kf : a = b → Ex M fr dp kc ks nx ls st h Q X) : Ex M fr dp kc ks pc ls (.ref b :: .ref a :: st) h Q X := by
  intro hg p l e R s m args below meth c D ka al A H locs cells slots mc ms lsA C R0 B hW hS hl
  obtain ⟨hd, rfl, hr⟩ := xft_dec hg.1 hf rfl
  have ht : (pc : Int) + off = (tgt : Int) := by simpa [xres, xtg] using hr
  have inj : al a = al b → a = b := fun z => hW.2.1.1 a b _ _ (xws_get (xsh_get ha)) (xws_get (xsh_get hb)) z
  refine lv_acmp_ne (rx := some (al a)) (ry := some (al b)) C.1 C.2.1 hd ht (fun z => ?_) (fun z => ?_)
  · exact kt (fun y => z (by rw [y])) hg p l e R s m args below meth c D ka al A H locs cells slots mc ms lsA C R0 B hW hS hl
  · exact kf (inj (Option.some.inj z)) hg p l e R s m args below meth c D ka al A H locs cells slots mc ms lsA C R0 B hW hS hl
end
def nmF (lo hi k v : Nat) : Nat := if k = 2 then (if lo ≤ v ∧ v ≤ hi then 0 else 2) else 1
/-- the rule in the draft, as far as it is read -/
def RC (d : Nat → Nat → Int32) (b : Nat) (C : List Int32) : Prop := d b 0 = nI C.length ∧ ∀ (i : Nat) (t : Int32), C[i]? = some t → d (b + 1) i = t
def RJ (d : Nat → Nat → Int32) (b : Nat) : Prop := ∃ m, m ≤ 700 ∧ d b 0 = nI m
def PF (b : Nat) (d d' : Nat → Nat → Int32) : Prop := (∀ c, c ≠ 1 → c ≠ b → c ≠ b + 1 → d' c = d c) ∧ ∀ k, k ≠ 3 → k ≠ 4 → k ≠ 6 → k ≠ 7 → k ≠ 8 → k ≠ 9 → d' 1 k = d 1 k
def FT (d : Nat → Nat → Int32) (f : Nat × Nat) : Prop := d 1 3 = nI f.1 ∧ d 1 4 = nI f.2 ∧ 1 ≤ f.1 ∧ f.1 ≤ 5 ∧ f.2 ≤ 700
theorem PF_rfl {b : Nat} {d : Nat → Nat → Int32} : PF b d d := ⟨fun _ _ _ _ => rfl, fun _ _ _ _ _ _ _ => rfl⟩
theorem PF_tr {b : Nat} {d d' d'' : Nat → Nat → Int32} (h : PF b d d') (h' : PF b d' d'') : PF b d d'' := ⟨fun c h1 h2 h3 => (h'.1 c h1 h2 h3).trans (h.1 c h1 h2 h3), fun k a1 a2 a3 a4 a5 a6 => (h'.2 k a1 a2 a3 a4 a5 a6).trans (h.2 k a1 a2 a3 a4 a5 a6)⟩
theorem PF_LF {b : Nat} {d d' : Nat → Nat → Int32} (h : LF d d') : PF b d d' := ⟨fun c h1 _ _ => h.1 c h1, fun k _ _ a3 a4 a5 a6 => h.2 k a3 a4 a5 a6⟩
theorem PF_fl {b : Nat} {d d' : Nat → Nat → Int32} {x y : Int32} (h : PF b d d') : PF b d (up2 (up2 d' 1 3 x) 1 4 y) := by
  refine ⟨fun c h1 h2 h3 => ?_, fun k a1 a2 a3 a4 a5 a6 => ?_⟩
  · rw [up2_ne h1, up2_ne h1]
    exact h.1 c h1 h2 h3
  · rw [up2_k a2, up2_k a1]
    exact h.2 k a1 a2 a3 a4 a5 a6
theorem RC_LF {b : Nat} {d d' : Nat → Nat → Int32} {C : List Int32} (hb : b = 17 ∨ b = 20) (H : RC d b C) (h : LF d d') : RC d' b C := by
  unfold RC at H ⊢
  rw [h.1 b (by omega), h.1 (b + 1) (by omega)]
  exact H
theorem RJ_RC {b : Nat} {d : Nat → Nat → Int32} {C : List Int32} (H : RC d b C) (h : C.length ≤ 700) : RJ d b := ⟨_, h, H.1⟩
theorem SH_b {b : Nat} (hb : b = 17 ∨ b = 20) : xsh SH b = some (6, 3) := by
  rcases hb with rfl | rfl <;> rfl
section
variable (d : Nat → Nat → Int32) (L : Nat → Nat → Int64) {T : Nat → Nat} {n : Nat}
set_option maxRecDepth 100000 in
set_option maxHeartbeats 1600000 in
theorem c_refuse (x : Int32) : Cn mX5_refuse false 1 0 0 [.ref 1, .int x] (W0 d L) (fun r h => r = some (.int 0) ∧ h = W0 (up2 (up2 d 1 3 x) 1 4 (d 1 7)) L) := by
  refine Cn.intro gX5_refuse rfl (Nat.le_of_ble_eq_true rfl) rfl ?_
  repeat refine x_s rfl rfl ?_
  refine x_put rfl rfl (by decide) rfl ⟨rfl, rfl⟩ (Or.inl rfl) ?_
  repeat refine x_s rfl rfl ?_
  refine x_put rfl rfl (by decide) rfl ⟨rfl, rfl⟩ (Or.inl rfl) ?_
  repeat refine x_s rfl rfl ?_
  exact x_iret rfl rfl rfl ⟨rfl, rfl⟩
set_option maxRecDepth 100000 in
set_option maxHeartbeats 1600000 in
theorem c_isNumber {s k v lo hi : Nat} {r : List Tk} (hn : n ≤ 700) (hhi : hi ≤ 9999) (hlo : lo ≤ 9999) (H : LT d T n ((s, k, v) :: r)) : Cn mX5_isNumber false 2 0 0 [.ref 1, .int (nI lo), .int (nI hi)] (W0 d L) (fun q h => (nmF lo hi k v = 0 ∧ q = some (.int 1) ∧ h = W0 d L) ∨ (1 ≤ nmF lo hi k v ∧ nmF lo hi k v ≤ 2 ∧ q = some (.int 0) ∧ h = W0 (up2 (up2 d 1 3 (nI (nmF lo hi k v))) 1 4 (nI s)) L)) := by
  obtain ⟨t1, t2, t3, t4, e, t5, t6, t7, t8⟩ := LT_f H
  refine Cn.intro gX5_isNumber rfl (Nat.le_of_ble_eq_true rfl) rfl ?_
  repeat refine x_s rfl rfl ?_
  rw [t2]
  by_cases hk : k = 2
  rotate_left
  · refine x_br rfl rfl (fun c => absurd c (fun z => hk ((nI_eq (by omega) (by decide)).mp z))) (fun c => ?_)
    repeat refine x_s rfl rfl ?_
    refine x_cv (c_refuse d L _) rfl rfl rfl (by decide) rfl (by decide) rfl (Nat.le_of_ble_eq_true rfl) (by decide) (by decide) (by decide) ?_
    rintro _ _ ⟨rfl, rfl⟩
    rw [t1]
    have e1 : nmF lo hi k v = 1 := by
      unfold nmF
      rw [if_neg hk]
    rw [e1]
    exact x_iret rfl rfl rfl (Or.inr ⟨by decide, by decide, rfl, rfl⟩)
  rw [hk]
  refine x_br rfl rfl (fun c => ?_) (fun c => absurd c (fun z => z rfl))
  have at43 : ¬ (lo ≤ v ∧ v ≤ hi) → Ex mX5_isNumber false 2 0 0 43 [some (.ref 1), some (.int (nI lo)), some (.int (nI hi))] [] (W0 d L) (fun q h => (nmF lo hi 2 v = 0 ∧ q = some (.int 1) ∧ h = W0 d L) ∨ (1 ≤ nmF lo hi 2 v ∧ nmF lo hi 2 v ≤ 2 ∧ q = some (.int 0) ∧ h = W0 (up2 (up2 d 1 3 (nI (nmF lo hi 2 v))) 1 4 (nI s)) L)) nX := by
    intro hv
    repeat refine x_s rfl rfl ?_
    refine x_cv (c_refuse d L _) rfl rfl rfl (by decide) rfl (by decide) rfl (Nat.le_of_ble_eq_true rfl) (by decide) (by decide) (by decide) ?_
    rintro _ _ ⟨rfl, rfl⟩
    rw [t1]
    have e1 : nmF lo hi 2 v = 2 := by
      unfold nmF
      rw [if_pos rfl, if_neg hv]
    rw [e1]
    exact x_iret rfl rfl rfl (Or.inr ⟨by decide, by decide, rfl, rfl⟩)
  repeat refine x_s rfl rfl ?_
  rw [t5, t1, nI_s t6 (by omega)]
  rcases t8 hk with ⟨a1, a2⟩ | ⟨a1, a2, a3⟩
  · refine x_br rfl rfl (fun c => ?_) (fun c => absurd c (fun z => z (nI_lt (a := 4) a1 (by omega))))
    exact at43 (by omega)
  refine x_br rfl rfl (fun c => absurd c (fun z => absurd z (Int32.not_lt.mpr (nI_le (b := 4) a1 (by decide))))) (fun c => ?_)
  repeat refine x_s rfl rfl ?_
  rw [a3]
  by_cases h1 : v < lo
  · refine x_br rfl rfl (fun c => ?_) (fun c => absurd c (fun z => z (nI_lt h1 (by omega))))
    exact at43 (by omega)
  refine x_br rfl rfl (fun c => absurd c (fun z => absurd z (Int32.not_lt.mpr (nI_le (by omega) (by omega))))) (fun c => ?_)
  repeat refine x_s rfl rfl ?_
  rw [a3]
  by_cases h2 : v ≤ hi
  · refine x_br rfl rfl (fun c => ?_) (fun c => absurd c (fun z => z (nI_le h2 (by omega))))
    repeat refine x_s rfl rfl ?_
    refine x_iret rfl rfl rfl (Or.inl ⟨?_, rfl, rfl⟩)
    unfold nmF
    rw [if_pos rfl, if_pos (by omega)]
  · refine x_br rfl rfl (fun c => absurd c (fun z => absurd z (nI_ge (by omega) (by omega)))) (fun c => ?_)
    exact at43 (by omega)
set_option maxRecDepth 100000 in
set_option maxHeartbeats 1600000 in
theorem c_taken {s v : Nat} {r : List Tk} (hn : n ≤ 700) (hT : ∀ j, T j < 256) (hv : v ≤ 9999) (H : LT d T n ((s, 2, v) :: r)) : Cn mX5_taken false 3 0 0 [.ref 1] (W0 d L) (fun q h => q = some (.int (nI v)) ∧ ∃ d', h = W0 d' L ∧ LF d d' ∧ LT d' T n r) := by
  obtain ⟨t1, t2, t3, t4, e, t5, t6, t7, t8⟩ := LT_f H
  have e9 : d 1 9 = nI v := by
    rcases t8 rfl with ⟨a1, a2⟩ | ⟨a1, a2, a3⟩
    · omega
    · exact a3
  refine Cn.intro gX5_taken rfl (Nat.le_of_ble_eq_true rfl) rfl ?_
  repeat refine x_s rfl rfl ?_
  rw [e9]
  refine x_cv (c_advance d L hn hT H (by decide)) rfl rfl rfl (by decide) rfl (by decide) rfl (Nat.le_of_ble_eq_true rfl) (by decide) (by decide) (by decide) ?_
  rintro _ _ ⟨rfl, d1, rfl, F1, H1⟩
  repeat refine x_s rfl rfl ?_
  exact x_iret rfl rfl rfl ⟨rfl, d1, rfl, F1, H1⟩
set_option maxRecDepth 100000 in
set_option maxHeartbeats 1600000 in
theorem c_readSign {s k v b : Nat} {r : List Tk} (hn : n ≤ 700) (hT : ∀ j, T j < 256) (hb : 0 < b ∧ b ≤ 100) (H : LT d T n ((s, k, v) :: r)) : Cn mX5_readSign false 3 0 0 [.ref 1, .int (nI b)] (W0 d L) (fun q h => (k = b ∧ q = some (.int 1) ∧ ∃ d', h = W0 d' L ∧ LF d d' ∧ LT d' T n r) ∨ (¬ k = b ∧ q = some (.int 0) ∧ h = W0 (up2 (up2 d 1 3 (nI 1)) 1 4 (nI s)) L)) := by
  obtain ⟨t1, t2, t3, t4, e, t5, t6, t7, t8⟩ := LT_f H
  refine Cn.intro gX5_readSign rfl (Nat.le_of_ble_eq_true rfl) rfl ?_
  repeat refine x_s rfl rfl ?_
  rw [t2]
  by_cases hk : k = b
  · refine x_br rfl rfl (fun c => ?_) (fun c => absurd c (fun z => z (congrArg nI hk)))
    repeat refine x_s rfl rfl ?_
    refine x_cv (c_advance d L hn hT H (by omega)) rfl rfl rfl (by decide) rfl (by decide) rfl (Nat.le_of_ble_eq_true rfl) (by decide) (by decide) (by decide) ?_
    rintro _ _ ⟨rfl, d1, rfl, F1, H1⟩
    repeat refine x_s rfl rfl ?_
    exact x_iret rfl rfl rfl (Or.inl ⟨hk, rfl, d1, rfl, F1, H1⟩)
  · refine x_br rfl rfl (fun c => absurd c (fun z => hk ((nI_eq (by omega) (by omega)).mp z))) (fun c => ?_)
    repeat refine x_s rfl rfl ?_
    refine x_cv (c_refuse d L _) rfl rfl rfl (by decide) rfl (by decide) rfl (Nat.le_of_ble_eq_true rfl) (by decide) (by decide) (by decide) ?_
    rintro _ _ ⟨rfl, rfl⟩
    rw [t1]
    exact x_iret rfl rfl rfl (Or.inr ⟨hk, rfl, rfl⟩)
set_option maxRecDepth 100000 in
set_option maxHeartbeats 1600000 in
theorem c_radd17 {C : List Int32} (H : RC d 17 C) (hl : C.length < 700) (x : Int32) : Cn mX6_add false 1 0 0 [.ref 17, .int x] (W0 d L) (fun q h => q = none ∧ ∃ d', h = W0 d' L ∧ (∀ c, c ≠ 17 → c ≠ 18 → d' c = d c) ∧ RC d' 17 (C ++ [x])) := by
  refine Cn.intro gX6_add rfl (Nat.le_of_ble_eq_true rfl) rfl ?_
  repeat refine x_s rfl rfl ?_
  rw [H.1]
  refine x_br rfl rfl (fun c => absurd c (nI_ge (b := 700) hl (by decide))) (fun c => ?_)
  repeat refine x_s rfl rfl ?_
  refine x_iast rfl rfl (k := C.length) (H.1) (by omega) (by decide) rfl ?_
  repeat refine x_s rfl rfl ?_
  refine x_put rfl rfl (by decide) rfl ⟨rfl, rfl⟩ (Or.inl rfl) ?_
  refine x_vret rfl rfl ⟨rfl, _, rfl, fun c h1 h2 => ?_, ?_, fun i t hi => ?_⟩
  · rw [up2_ne h1, up2_ne h2]
  · rw [List.length_append]
    exact (show d 17 0 + 1 = _ by rw [H.1, nI_1]; rfl)
  · show (if i = C.length then x else d 18 i) = t
    by_cases e : i = C.length
    · rw [if_pos e]
      rw [e, List.getElem?_append_right (Nat.le_refl _), Nat.sub_self] at hi
      exact Option.some.inj hi
    · rw [if_neg e]
      have hi2 : i < C.length := by
        have := (List.getElem?_eq_some_iff.mp hi).1
        simp only [List.length_append, List.length_cons, List.length_nil] at this
        omega
      rw [List.getElem?_append_left hi2] at hi
      exact H.2 i t hi
set_option maxRecDepth 100000 in
set_option maxHeartbeats 1600000 in
theorem c_raddJ17 (H : RJ d 17) (x : Int32) : Cn mX6_add false 1 0 0 [.ref 17, .int x] (W0 d L) (fun q h => q = none ∧ ∃ d', h = W0 d' L ∧ (∀ c, c ≠ 17 → c ≠ 18 → d' c = d c) ∧ RJ d' 17) := by
  obtain ⟨m, hm, h0⟩ := H
  refine Cn.intro gX6_add rfl (Nat.le_of_ble_eq_true rfl) rfl ?_
  repeat refine x_s rfl rfl ?_
  rw [h0]
  rcases Nat.lt_or_ge m 700 with h | h
  · refine x_br rfl rfl (fun c => absurd c (nI_ge (b := 700) h (by decide))) (fun c => ?_)
    repeat refine x_s rfl rfl ?_
    refine x_iast rfl rfl (k := m) (h0) (by omega) (by decide) rfl ?_
    repeat refine x_s rfl rfl ?_
    refine x_put rfl rfl (by decide) rfl ⟨rfl, rfl⟩ (Or.inl rfl) ?_
    refine x_vret rfl rfl ⟨rfl, _, rfl, fun c h1 h2 => ?_, m + 1, by omega, ?_⟩
    · rw [up2_ne h1, up2_ne h2]
    · exact (show d 17 0 + 1 = _ by rw [h0, nI_1])
  · refine x_br rfl rfl (fun c => ?_) (fun c => absurd c (fun z => z (nI_le (a := 700) h (by omega))))
    exact x_vret rfl rfl ⟨rfl, d, rfl, fun _ _ _ => rfl, m, hm, h0⟩
set_option maxRecDepth 100000 in
set_option maxHeartbeats 1600000 in
theorem c_radd20 {C : List Int32} (H : RC d 20 C) (hl : C.length < 700) (x : Int32) : Cn mX6_add false 1 0 0 [.ref 20, .int x] (W0 d L) (fun q h => q = none ∧ ∃ d', h = W0 d' L ∧ (∀ c, c ≠ 20 → c ≠ 21 → d' c = d c) ∧ RC d' 20 (C ++ [x])) := by
  refine Cn.intro gX6_add rfl (Nat.le_of_ble_eq_true rfl) rfl ?_
  repeat refine x_s rfl rfl ?_
  rw [H.1]
  refine x_br rfl rfl (fun c => absurd c (nI_ge (b := 700) hl (by decide))) (fun c => ?_)
  repeat refine x_s rfl rfl ?_
  refine x_iast rfl rfl (k := C.length) (H.1) (by omega) (by decide) rfl ?_
  repeat refine x_s rfl rfl ?_
  refine x_put rfl rfl (by decide) rfl ⟨rfl, rfl⟩ (Or.inl rfl) ?_
  refine x_vret rfl rfl ⟨rfl, _, rfl, fun c h1 h2 => ?_, ?_, fun i t hi => ?_⟩
  · rw [up2_ne h1, up2_ne h2]
  · rw [List.length_append]
    exact (show d 20 0 + 1 = _ by rw [H.1, nI_1]; rfl)
  · show (if i = C.length then x else d 21 i) = t
    by_cases e : i = C.length
    · rw [if_pos e]
      rw [e, List.getElem?_append_right (Nat.le_refl _), Nat.sub_self] at hi
      exact Option.some.inj hi
    · rw [if_neg e]
      have hi2 : i < C.length := by
        have := (List.getElem?_eq_some_iff.mp hi).1
        simp only [List.length_append, List.length_cons, List.length_nil] at this
        omega
      rw [List.getElem?_append_left hi2] at hi
      exact H.2 i t hi
set_option maxRecDepth 100000 in
set_option maxHeartbeats 1600000 in
theorem c_raddJ20 (H : RJ d 20) (x : Int32) : Cn mX6_add false 1 0 0 [.ref 20, .int x] (W0 d L) (fun q h => q = none ∧ ∃ d', h = W0 d' L ∧ (∀ c, c ≠ 20 → c ≠ 21 → d' c = d c) ∧ RJ d' 20) := by
  obtain ⟨m, hm, h0⟩ := H
  refine Cn.intro gX6_add rfl (Nat.le_of_ble_eq_true rfl) rfl ?_
  repeat refine x_s rfl rfl ?_
  rw [h0]
  rcases Nat.lt_or_ge m 700 with h | h
  · refine x_br rfl rfl (fun c => absurd c (nI_ge (b := 700) h (by decide))) (fun c => ?_)
    repeat refine x_s rfl rfl ?_
    refine x_iast rfl rfl (k := m) (h0) (by omega) (by decide) rfl ?_
    repeat refine x_s rfl rfl ?_
    refine x_put rfl rfl (by decide) rfl ⟨rfl, rfl⟩ (Or.inl rfl) ?_
    refine x_vret rfl rfl ⟨rfl, _, rfl, fun c h1 h2 => ?_, m + 1, by omega, ?_⟩
    · rw [up2_ne h1, up2_ne h2]
    · exact (show d 20 0 + 1 = _ by rw [h0, nI_1])
  · refine x_br rfl rfl (fun c => ?_) (fun c => absurd c (fun z => z (nI_le (a := 700) h (by omega))))
    exact x_vret rfl rfl ⟨rfl, d, rfl, fun _ _ _ => rfl, m, hm, h0⟩
theorem c_radd {b : Nat} (hb : b = 17 ∨ b = 20) {C : List Int32} (H : RC d b C) (hl : C.length < 700) (x : Int32) : Cn mX6_add false 1 0 0 [.ref b, .int x] (W0 d L) (fun q h => q = none ∧ ∃ d', h = W0 d' L ∧ (∀ c, c ≠ b → c ≠ b + 1 → d' c = d c) ∧ RC d' b (C ++ [x])) := by
  rcases hb with rfl | rfl
  · exact c_radd17 d L H hl x
  · exact c_radd20 d L H hl x
theorem c_raddJ {b : Nat} (hb : b = 17 ∨ b = 20) (H : RJ d b) (x : Int32) : Cn mX6_add false 1 0 0 [.ref b, .int x] (W0 d L) (fun q h => q = none ∧ ∃ d', h = W0 d' L ∧ (∀ c, c ≠ b → c ≠ b + 1 → d' c = d c) ∧ RJ d' b) := by
  rcases hb with rfl | rfl
  · exact c_raddJ17 d L H x
  · exact c_raddJ20 d L H x
/-- what a word is as a value of a rule -/
def vxT (v : Nat) : Option Int32 := if v = 0 then some (-1) else if v = 4 then some (-2) else if v = 1 then some (-3) else if v = 2 then some (-4) else if v = 3 then some (-5) else if v = 5 then some (-6) else none
def vxC (v : Nat) : Option Int32 := if v = 6 then some (-1) else if v = 7 then some (-2) else if v = 4 then some (-3) else if v = 8 then some (-4) else if v = 5 then some (-5) else none
def vxB (b : Nat) : Nat → Option Int32 := if b = 17 then vxT else vxC
def nvB (b : Nat) : Nat := if b = 17 then 6 else 5
def vI (o : Option Int32) : Int32 := match o with
  | some t => -1 - t
  | none => -1
set_option maxRecDepth 100000 in
set_option maxHeartbeats 1600000 in
theorem c_turnsValue {s v : Nat} {r : List Tk} (hn : n ≤ 700) (hT : ∀ j, T j < 256) (H : LT d T n ((s, 1, v) :: r)) : Cn mX5_turnsValue false 7 0 0 [.ref 1] (W0 d L) (qP d L (vI (vxT v))) := by
  refine Cn.intro gX5_turnsValue rfl (Nat.le_of_ble_eq_true rfl) rfl ?_
  repeat refine x_s rfl rfl ?_
  refine x_cv (c_isK d L (q := 6) (a := 0) (by decide) hn hT H) rfl rfl rfl (by decide) rfl (by decide) rfl (Nat.le_of_ble_eq_true rfl) (by decide) (by decide) (by decide) ?_
  rintro _ _ ⟨rfl, rfl⟩
  by_cases h0 : v = 0
  · rw [decide_eq_true h0]
    refine x_br rfl rfl (fun c => absurd c (by decide)) (fun c => ?_)
    repeat refine x_s rfl rfl ?_
    refine x_iret rfl rfl rfl ⟨congrArg (fun z => some (Value.int z)) ?_, rfl⟩
    subst h0
    rfl
  rw [decide_eq_false h0]
  refine x_br rfl rfl (fun c => ?_) (fun c => absurd c (fun z => z rfl))
  repeat refine x_s rfl rfl ?_
  refine x_cv (c_isK d L (q := 7) (a := 4) (by decide) hn hT H) rfl rfl rfl (by decide) rfl (by decide) rfl (Nat.le_of_ble_eq_true rfl) (by decide) (by decide) (by decide) ?_
  rintro _ _ ⟨rfl, rfl⟩
  by_cases h1 : v = 4
  · rw [decide_eq_true h1]
    refine x_br rfl rfl (fun c => absurd c (by decide)) (fun c => ?_)
    repeat refine x_s rfl rfl ?_
    refine x_iret rfl rfl rfl ⟨congrArg (fun z => some (Value.int z)) ?_, rfl⟩
    subst h1
    rfl
  rw [decide_eq_false h1]
  refine x_br rfl rfl (fun c => ?_) (fun c => absurd c (fun z => z rfl))
  repeat refine x_s rfl rfl ?_
  refine x_cv (c_isK d L (q := 8) (a := 1) (by decide) hn hT H) rfl rfl rfl (by decide) rfl (by decide) rfl (Nat.le_of_ble_eq_true rfl) (by decide) (by decide) (by decide) ?_
  rintro _ _ ⟨rfl, rfl⟩
  by_cases h2 : v = 1
  · rw [decide_eq_true h2]
    refine x_br rfl rfl (fun c => absurd c (by decide)) (fun c => ?_)
    repeat refine x_s rfl rfl ?_
    refine x_iret rfl rfl rfl ⟨congrArg (fun z => some (Value.int z)) ?_, rfl⟩
    subst h2
    rfl
  rw [decide_eq_false h2]
  refine x_br rfl rfl (fun c => ?_) (fun c => absurd c (fun z => z rfl))
  repeat refine x_s rfl rfl ?_
  refine x_cv (c_isK d L (q := 9) (a := 2) (by decide) hn hT H) rfl rfl rfl (by decide) rfl (by decide) rfl (Nat.le_of_ble_eq_true rfl) (by decide) (by decide) (by decide) ?_
  rintro _ _ ⟨rfl, rfl⟩
  by_cases h3 : v = 2
  · rw [decide_eq_true h3]
    refine x_br rfl rfl (fun c => absurd c (by decide)) (fun c => ?_)
    repeat refine x_s rfl rfl ?_
    refine x_iret rfl rfl rfl ⟨congrArg (fun z => some (Value.int z)) ?_, rfl⟩
    subst h3
    rfl
  rw [decide_eq_false h3]
  refine x_br rfl rfl (fun c => ?_) (fun c => absurd c (fun z => z rfl))
  repeat refine x_s rfl rfl ?_
  refine x_cv (c_isK d L (q := 10) (a := 3) (by decide) hn hT H) rfl rfl rfl (by decide) rfl (by decide) rfl (Nat.le_of_ble_eq_true rfl) (by decide) (by decide) (by decide) ?_
  rintro _ _ ⟨rfl, rfl⟩
  by_cases h4 : v = 3
  · rw [decide_eq_true h4]
    refine x_br rfl rfl (fun c => absurd c (by decide)) (fun c => ?_)
    repeat refine x_s rfl rfl ?_
    refine x_iret rfl rfl rfl ⟨congrArg (fun z => some (Value.int z)) ?_, rfl⟩
    subst h4
    rfl
  rw [decide_eq_false h4]
  refine x_br rfl rfl (fun c => ?_) (fun c => absurd c (fun z => z rfl))
  repeat refine x_s rfl rfl ?_
  refine x_cv (c_isK d L (q := 11) (a := 5) (by decide) hn hT H) rfl rfl rfl (by decide) rfl (by decide) rfl (Nat.le_of_ble_eq_true rfl) (by decide) (by decide) (by decide) ?_
  rintro _ _ ⟨rfl, rfl⟩
  by_cases h5 : v = 5
  · rw [decide_eq_true h5]
    refine x_br rfl rfl (fun c => absurd c (by decide)) (fun c => ?_)
    repeat refine x_s rfl rfl ?_
    refine x_iret rfl rfl rfl ⟨congrArg (fun z => some (Value.int z)) ?_, rfl⟩
    subst h5
    rfl
  rw [decide_eq_false h5]
  refine x_br rfl rfl (fun c => ?_) (fun c => absurd c (fun z => z rfl))
  repeat refine x_s rfl rfl ?_
  refine x_iret rfl rfl rfl ⟨congrArg (fun z => some (Value.int z)) ?_, rfl⟩
  unfold vxT
  rw [if_neg h0, if_neg h1, if_neg h2, if_neg h3, if_neg h4, if_neg h5]
  rfl
set_option maxRecDepth 100000 in
set_option maxHeartbeats 1600000 in
theorem c_courtValue {s v : Nat} {r : List Tk} (hn : n ≤ 700) (hT : ∀ j, T j < 256) (H : LT d T n ((s, 1, v) :: r)) : Cn mX5_courtValue false 7 0 0 [.ref 1] (W0 d L) (qP d L (vI (vxC v))) := by
  refine Cn.intro gX5_courtValue rfl (Nat.le_of_ble_eq_true rfl) rfl ?_
  repeat refine x_s rfl rfl ?_
  refine x_cv (c_isK d L (q := 12) (a := 6) (by decide) hn hT H) rfl rfl rfl (by decide) rfl (by decide) rfl (Nat.le_of_ble_eq_true rfl) (by decide) (by decide) (by decide) ?_
  rintro _ _ ⟨rfl, rfl⟩
  by_cases h0 : v = 6
  · rw [decide_eq_true h0]
    refine x_br rfl rfl (fun c => absurd c (by decide)) (fun c => ?_)
    repeat refine x_s rfl rfl ?_
    refine x_iret rfl rfl rfl ⟨congrArg (fun z => some (Value.int z)) ?_, rfl⟩
    subst h0
    rfl
  rw [decide_eq_false h0]
  refine x_br rfl rfl (fun c => ?_) (fun c => absurd c (fun z => z rfl))
  repeat refine x_s rfl rfl ?_
  refine x_cv (c_isK d L (q := 13) (a := 7) (by decide) hn hT H) rfl rfl rfl (by decide) rfl (by decide) rfl (Nat.le_of_ble_eq_true rfl) (by decide) (by decide) (by decide) ?_
  rintro _ _ ⟨rfl, rfl⟩
  by_cases h1 : v = 7
  · rw [decide_eq_true h1]
    refine x_br rfl rfl (fun c => absurd c (by decide)) (fun c => ?_)
    repeat refine x_s rfl rfl ?_
    refine x_iret rfl rfl rfl ⟨congrArg (fun z => some (Value.int z)) ?_, rfl⟩
    subst h1
    rfl
  rw [decide_eq_false h1]
  refine x_br rfl rfl (fun c => ?_) (fun c => absurd c (fun z => z rfl))
  repeat refine x_s rfl rfl ?_
  refine x_cv (c_isK d L (q := 7) (a := 4) (by decide) hn hT H) rfl rfl rfl (by decide) rfl (by decide) rfl (Nat.le_of_ble_eq_true rfl) (by decide) (by decide) (by decide) ?_
  rintro _ _ ⟨rfl, rfl⟩
  by_cases h2 : v = 4
  · rw [decide_eq_true h2]
    refine x_br rfl rfl (fun c => absurd c (by decide)) (fun c => ?_)
    repeat refine x_s rfl rfl ?_
    refine x_iret rfl rfl rfl ⟨congrArg (fun z => some (Value.int z)) ?_, rfl⟩
    subst h2
    rfl
  rw [decide_eq_false h2]
  refine x_br rfl rfl (fun c => ?_) (fun c => absurd c (fun z => z rfl))
  repeat refine x_s rfl rfl ?_
  refine x_cv (c_isK d L (q := 14) (a := 8) (by decide) hn hT H) rfl rfl rfl (by decide) rfl (by decide) rfl (Nat.le_of_ble_eq_true rfl) (by decide) (by decide) (by decide) ?_
  rintro _ _ ⟨rfl, rfl⟩
  by_cases h3 : v = 8
  · rw [decide_eq_true h3]
    refine x_br rfl rfl (fun c => absurd c (by decide)) (fun c => ?_)
    repeat refine x_s rfl rfl ?_
    refine x_iret rfl rfl rfl ⟨congrArg (fun z => some (Value.int z)) ?_, rfl⟩
    subst h3
    rfl
  rw [decide_eq_false h3]
  refine x_br rfl rfl (fun c => ?_) (fun c => absurd c (fun z => z rfl))
  repeat refine x_s rfl rfl ?_
  refine x_cv (c_isK d L (q := 11) (a := 5) (by decide) hn hT H) rfl rfl rfl (by decide) rfl (by decide) rfl (Nat.le_of_ble_eq_true rfl) (by decide) (by decide) (by decide) ?_
  rintro _ _ ⟨rfl, rfl⟩
  by_cases h4 : v = 5
  · rw [decide_eq_true h4]
    refine x_br rfl rfl (fun c => absurd c (by decide)) (fun c => ?_)
    repeat refine x_s rfl rfl ?_
    refine x_iret rfl rfl rfl ⟨congrArg (fun z => some (Value.int z)) ?_, rfl⟩
    subst h4
    rfl
  rw [decide_eq_false h4]
  refine x_br rfl rfl (fun c => ?_) (fun c => absurd c (fun z => z rfl))
  repeat refine x_s rfl rfl ?_
  refine x_iret rfl rfl rfl ⟨congrArg (fun z => some (Value.int z)) ?_, rfl⟩
  unfold vxC
  rw [if_neg h0, if_neg h1, if_neg h2, if_neg h3, if_neg h4]
  rfl
theorem vx_ok {b v : Nat} (hb : b = 17 ∨ b = 20) {t : Int32} (h : vxB b v = some t) : -11 < t ∧ okT (nvB b) [t] = true ∧ ¬ -1 - t = -1 ∧ -1 - (-1 - t) = t := by
  rcases hb with rfl | rfl
  · have h' : vxT v = some t := h
    unfold vxT at h'
    split at h'
    · cases h'; decide
    split at h'
    · cases h'; decide
    split at h'
    · cases h'; decide
    split at h'
    · cases h'; decide
    split at h'
    · cases h'; decide
    split at h'
    · cases h'; decide
    · cases h'
  · have h' : vxC v = some t := h
    unfold vxC at h'
    split at h'
    · cases h'; decide
    split at h'
    · cases h'; decide
    split at h'
    · cases h'; decide
    split at h'
    · cases h'; decide
    split at h'
    · cases h'; decide
    · cases h'
end
