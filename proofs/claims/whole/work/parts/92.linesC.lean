/-! THE COMPONENT reads lines -/
def RD (d : Nat → Nat → Int32) (b : Nat) (g : Option (List Int32)) : Prop := match g with
  | none => d b 0 = nI 0
  | some E => RC d b E
def HD (d : Nat → Nat → Int32) (D : Dr) : Prop := d 4 0 = nI (D.1 0 0) ∧ d 8 0 = nI (D.1 4 0) ∧ d 13 0 = nI (D.1 9 0) ∧ (∀ p, p < D.1 0 0 → d 5 p = nI (D.1 1 p) ∧ d 6 p = nI (D.1 2 p) ∧ d 7 p = nI (D.1 3 p)) ∧ (∀ m, m < D.1 4 0 → d 9 m = nI (D.1 5 m) ∧ d 10 m = nI (D.1 6 m) ∧ d 11 m = nI (D.1 7 m) ∧ d 12 m = nI (D.1 8 m)) ∧ (∀ s, s < D.1 9 0 → d 14 s = nI (D.1 10 s) ∧ d 15 s = nI (D.1 11 s) ∧ d 16 s = nI (D.1 12 s)) ∧ RD d 17 D.2.1 ∧ RD d 20 D.2.2
def LN (d d' : Nat → Nat → Int32) : Prop := (∀ c, c ≠ 1 → (c < 4 ∨ 22 < c) → d' c = d c) ∧ ∀ k, k ≠ 3 → k ≠ 4 → k < 6 → d' 1 k = d 1 k
theorem LN_rfl {d : Nat → Nat → Int32} : LN d d := ⟨fun _ _ _ => rfl, fun _ _ _ _ => rfl⟩
theorem LN_tr {d d' d'' : Nat → Nat → Int32} (h : LN d d') (h' : LN d' d'') : LN d d'' := ⟨fun c h1 h2 => (h'.1 c h1 h2).trans (h.1 c h1 h2), fun k a1 a2 a3 => (h'.2 k a1 a2 a3).trans (h.2 k a1 a2 a3)⟩
theorem LN_LF {d d' : Nat → Nat → Int32} (h : LF d d') : LN d d' := ⟨fun c h1 _ => h.1 c h1, fun k _ _ a3 => h.2 k (by omega) (by omega) (by omega) (by omega)⟩
theorem LN_PF {b : Nat} {d d' : Nat → Nat → Int32} (hb : b = 17 ∨ b = 20) (h : PF b d d') : LN d d' := ⟨fun c h1 h2 => h.1 c h1 (by omega) (by omega), fun k a1 a2 a3 => h.2 k a1 a2 (by omega) (by omega) (by omega) (by omega)⟩
theorem LN_fl {d d' : Nat → Nat → Int32} {x y : Int32} (h : LN d d') : LN d (up2 (up2 d' 1 3 x) 1 4 y) := by
  refine ⟨fun c h1 h2 => ?_, fun k a1 a2 a3 => ?_⟩
  · rw [up2_ne h1, up2_ne h1]
    exact h.1 c h1 h2
  · rw [up2_k a2, up2_k a1]
    exact h.2 k a1 a2 a3
theorem LN_c {d d' : Nat → Nat → Int32} {c k : Nat} {x : Int32} (h : LN d d') (hc : 4 ≤ c ∧ c ≤ 22) : LN d (up2 d' c k x) := by
  refine ⟨fun q h1 h2 => ?_, fun j a1 a2 a3 => ?_⟩
  · rw [up2_ne (by omega)]
    exact h.1 q h1 h2
  · rw [up2_ne (by omega)]
    exact h.2 j a1 a2 a3
theorem HD_e {d d' : Nat → Nat → Int32} {D : Dr} (H : HD d D) (h : ∀ c, 4 ≤ c → c ≤ 22 → d' c = d c) : HD d' D := by
  unfold HD at H ⊢
  have e : ∀ b g, b = 17 ∨ b = 20 → RD d b g → RD d' b g := by
    intro b g hb hr
    cases g with
    | none =>
      show d' b 0 = nI 0
      rw [h b (by omega) (by omega)]
      exact hr
    | some E =>
      have hr' : RC d b E := hr
      show RC d' b E
      unfold RC at hr' ⊢
      rw [h b (by omega) (by omega), h (b + 1) (by omega) (by omega)]
      exact hr'
  obtain ⟨a1, a2, a3, a4, a5, a6, a7, a8⟩ := H
  rw [h 4 (by decide) (by decide), h 5 (by decide) (by decide), h 6 (by decide) (by decide), h 7 (by decide) (by decide), h 8 (by decide) (by decide), h 9 (by decide) (by decide), h 10 (by decide) (by decide), h 11 (by decide) (by decide), h 12 (by decide) (by decide), h 13 (by decide) (by decide), h 14 (by decide) (by decide), h 15 (by decide) (by decide), h 16 (by decide) (by decide)]
  exact ⟨a1, a2, a3, a4, a5, a6, e 17 _ (Or.inl rfl) a7, e 20 _ (Or.inr rfl) a8⟩
theorem HD_LF {d d' : Nat → Nat → Int32} {D : Dr} (H : HD d D) (h : LF d d') : HD d' D := HD_e H (fun c h1 h2 => h.1 c (by omega))
theorem HD_P {d : Nat → Nat → Int32} {D : Dr} (H : HD d D) (x y z : Nat) : HD (up2 (up2 (up2 (up2 d 5 (D.1 0 0) (nI x)) 6 (D.1 0 0) (nI y)) 7 (D.1 0 0) (nI z)) 4 0 (nI (D.1 0 0 + 1))) (addP D.1 x y z, D.2) := by
  obtain ⟨a1, a2, a3, a4, a5, a6, a7, a8⟩ := H
  refine ⟨rfl, a2, a3, fun p hp => ?_, fun m hm => a5 m hm, fun s hs => a6 s hs, ?_, ?_⟩
  · have hp' : p < D.1 0 0 + 1 := hp
    show (if p = D.1 0 0 then nI x else d 5 p) = nI (if p = D.1 0 0 then x else D.1 1 p) ∧ (if p = D.1 0 0 then nI y else d 6 p) = nI (if p = D.1 0 0 then y else D.1 2 p) ∧ (if p = D.1 0 0 then nI z else d 7 p) = nI (if p = D.1 0 0 then z else D.1 3 p)
    by_cases e : p = D.1 0 0
    · simp [e]
    · simp only [if_neg e]
      exact a4 p (by omega)
  · show RD _ 17 D.2.1
    cases q : D.2.1 with
    | none => rw [q] at a7; exact a7
    | some E => rw [q] at a7; exact ⟨a7.1, fun i t hi => a7.2 i t hi⟩
  · show RD _ 20 D.2.2
    cases q : D.2.2 with
    | none => rw [q] at a8; exact a8
    | some E => rw [q] at a8; exact ⟨a8.1, fun i t hi => a8.2 i t hi⟩
theorem HD_N {d : Nat → Nat → Int32} {D : Dr} (H : HD d D) (x y z u : Nat) : HD (up2 (up2 (up2 (up2 (up2 d 9 (D.1 4 0) (nI x)) 10 (D.1 4 0) (nI y)) 11 (D.1 4 0) (nI z)) 12 (D.1 4 0) (nI u)) 8 0 (nI (D.1 4 0 + 1))) (addN D.1 x y z u, D.2) := by
  obtain ⟨a1, a2, a3, a4, a5, a6, a7, a8⟩ := H
  refine ⟨a1, rfl, a3, fun p hp => a4 p hp, fun m hm => ?_, fun s hs => a6 s hs, ?_, ?_⟩
  · have hm' : m < D.1 4 0 + 1 := hm
    show (if m = D.1 4 0 then nI x else d 9 m) = nI (if m = D.1 4 0 then x else D.1 5 m) ∧ (if m = D.1 4 0 then nI y else d 10 m) = nI (if m = D.1 4 0 then y else D.1 6 m) ∧ (if m = D.1 4 0 then nI z else d 11 m) = nI (if m = D.1 4 0 then z else D.1 7 m) ∧ (if m = D.1 4 0 then nI u else d 12 m) = nI (if m = D.1 4 0 then u else D.1 8 m)
    by_cases e : m = D.1 4 0
    · simp [e]
    · simp only [if_neg e]
      exact a5 m (by omega)
  · show RD _ 17 D.2.1
    cases q : D.2.1 with
    | none => rw [q] at a7; exact a7
    | some E => rw [q] at a7; exact ⟨a7.1, fun i t hi => a7.2 i t hi⟩
  · show RD _ 20 D.2.2
    cases q : D.2.2 with
    | none => rw [q] at a8; exact a8
    | some E => rw [q] at a8; exact ⟨a8.1, fun i t hi => a8.2 i t hi⟩
theorem HD_S {d : Nat → Nat → Int32} {D : Dr} (H : HD d D) (x y z : Nat) : HD (up2 (up2 (up2 (up2 d 14 (D.1 9 0) (nI x)) 15 (D.1 9 0) (nI y)) 16 (D.1 9 0) (nI z)) 13 0 (nI (D.1 9 0 + 1))) (tl D.1 x y z, D.2) := by
  obtain ⟨a1, a2, a3, a4, a5, a6, a7, a8⟩ := H
  refine ⟨a1, a2, rfl, fun p hp => a4 p hp, fun m hm => a5 m hm, fun s hs => ?_, ?_, ?_⟩
  · have hs' : s < D.1 9 0 + 1 := hs
    show (if s = D.1 9 0 then nI x else d 14 s) = nI (if s = D.1 9 0 then x else D.1 10 s) ∧ (if s = D.1 9 0 then nI y else d 15 s) = nI (if s = D.1 9 0 then y else D.1 11 s) ∧ (if s = D.1 9 0 then nI z else d 16 s) = nI (if s = D.1 9 0 then z else D.1 12 s)
    by_cases e : s = D.1 9 0
    · simp [e]
    · simp only [if_neg e]
      exact a6 s (by omega)
  · show RD _ 17 D.2.1
    cases q : D.2.1 with
    | none => rw [q] at a7; exact a7
    | some E => rw [q] at a7; exact ⟨a7.1, fun i t hi => a7.2 i t hi⟩
  · show RD _ 20 D.2.2
    cases q : D.2.2 with
    | none => rw [q] at a8; exact a8
    | some E => rw [q] at a8; exact ⟨a8.1, fun i t hi => a8.2 i t hi⟩
abbrev qL (T : Nat → Nat) (n : Nat) (d : Nat → Nat → Int32) (L : Nat → Nat → Int64) (res : LR) : xPost := fun q h => ∃ d', h = W0 d' L ∧ LN d d' ∧ ((q = some (.int 0) ∧ ∃ f, FT d' f ∧ res = .inl f) ∨ (q = some (.int 1) ∧ ∃ l' D', LT d' T n l' ∧ HD d' D' ∧ DG D' ∧ d' 1 3 = d 1 3 ∧ res = .inr (l', D')))
section
variable (d : Nat → Nat → Int32) (L : Nat → Nat → Int64) {T : Nat → Nat} {n : Nat}
set_option maxRecDepth 100000 in
set_option maxHeartbeats 1600000 in
theorem c_padd {m : Nat} (h0 : d 4 0 = nI m) (hm : m < 10) (x y z : Int32) : Cn mX4_add false 1 0 0 [.ref 4, .int x, .int y, .int z] (W0 d L) (fun q h => q = none ∧ h = W0 (up2 (up2 (up2 (up2 d 5 m x) 6 m y) 7 m z) 4 0 (nI (m + 1))) L) := by
  refine Cn.intro gX4_add rfl (Nat.le_of_ble_eq_true rfl) rfl ?_
  repeat refine x_s rfl rfl ?_
  rw [h0]
  refine x_br rfl rfl (fun c => absurd c (nI_ge (b := 10) hm (by decide))) (fun c => ?_)
  repeat refine x_s rfl rfl ?_
  refine x_iast rfl rfl (k := m) (h0) (by omega) (by decide) rfl ?_
  repeat refine x_s rfl rfl ?_
  refine x_iast rfl rfl (k := m) (h0) (by omega) (by decide) rfl ?_
  repeat refine x_s rfl rfl ?_
  refine x_iast rfl rfl (k := m) (h0) (by omega) (by decide) rfl ?_
  repeat refine x_s rfl rfl ?_
  refine x_put rfl rfl (by decide) rfl ⟨rfl, rfl⟩ (Or.inl rfl) ?_
  have e : d 4 0 + 1 = nI (m + 1) := by rw [h0, nI_1]
  rw [← e]
  exact x_vret rfl rfl ⟨rfl, rfl⟩
set_option maxRecDepth 100000 in
set_option maxHeartbeats 1600000 in
theorem c_nadd {m : Nat} (h0 : d 8 0 = nI m) (hm : m < 6) (x y z u : Int32) : Cn mX3_add false 1 0 0 [.ref 8, .int x, .int y, .int z, .int u] (W0 d L) (fun q h => q = none ∧ h = W0 (up2 (up2 (up2 (up2 (up2 d 9 m x) 10 m y) 11 m z) 12 m u) 8 0 (nI (m + 1))) L) := by
  refine Cn.intro gX3_add rfl (Nat.le_of_ble_eq_true rfl) rfl ?_
  repeat refine x_s rfl rfl ?_
  rw [h0]
  refine x_br rfl rfl (fun c => absurd c (nI_ge (b := 6) hm (by decide))) (fun c => ?_)
  repeat refine x_s rfl rfl ?_
  refine x_iast rfl rfl (k := m) (h0) (by omega) (by decide) rfl ?_
  repeat refine x_s rfl rfl ?_
  refine x_iast rfl rfl (k := m) (h0) (by omega) (by decide) rfl ?_
  repeat refine x_s rfl rfl ?_
  refine x_iast rfl rfl (k := m) (h0) (by omega) (by decide) rfl ?_
  repeat refine x_s rfl rfl ?_
  refine x_iast rfl rfl (k := m) (h0) (by omega) (by decide) rfl ?_
  repeat refine x_s rfl rfl ?_
  refine x_put rfl rfl (by decide) rfl ⟨rfl, rfl⟩ (Or.inl rfl) ?_
  have e : d 8 0 + 1 = nI (m + 1) := by rw [h0, nI_1]
  rw [← e]
  exact x_vret rfl rfl ⟨rfl, rfl⟩
set_option maxRecDepth 100000 in
set_option maxHeartbeats 1600000 in
theorem c_sadd {m : Nat} (h0 : d 13 0 = nI m) (hm : m < 16) (x y z : Int32) : Cn mX7_add false 1 0 0 [.ref 13, .int x, .int y, .int z] (W0 d L) (fun q h => q = none ∧ h = W0 (up2 (up2 (up2 (up2 d 14 m x) 15 m y) 16 m z) 13 0 (nI (m + 1))) L) := by
  refine Cn.intro gX7_add rfl (Nat.le_of_ble_eq_true rfl) rfl ?_
  repeat refine x_s rfl rfl ?_
  rw [h0]
  refine x_br rfl rfl (fun c => absurd c (nI_ge (b := 16) hm (by decide))) (fun c => ?_)
  repeat refine x_s rfl rfl ?_
  refine x_iast rfl rfl (k := m) (h0) (by omega) (by decide) rfl ?_
  repeat refine x_s rfl rfl ?_
  refine x_iast rfl rfl (k := m) (h0) (by omega) (by decide) rfl ?_
  repeat refine x_s rfl rfl ?_
  refine x_iast rfl rfl (k := m) (h0) (by omega) (by decide) rfl ?_
  repeat refine x_s rfl rfl ?_
  refine x_put rfl rfl (by decide) rfl ⟨rfl, rfl⟩ (Or.inl rfl) ?_
  have e : d 13 0 + 1 = nI (m + 1) := by rw [h0, nI_1]
  rw [← e]
  exact x_vret rfl rfl ⟨rfl, rfl⟩
set_option maxRecDepth 100000 in
set_option maxHeartbeats 1600000 in
theorem c_free5 {s k v x cnt : Nat} {r : List Tk} {fx fy : Nat → Nat} (hn : n ≤ 700) (hc : cnt ≤ 10) (hx : x ≤ 40) (hf : ∀ i, i < cnt → (d 5 i = nI (fx i) ∧ d 6 i = nI (fy i)) ∧ fx i ≤ 40 ∧ fy i ≤ 40) (H : LT d T n ((s, k, v) :: r)) : Cn mX5_isFreePlace false 3 0 0 [.ref 1, .ref 5, .ref 6, .int (nI cnt), .int (nI x)] (W0 d L) (fun q h => (nmF 0 40 k v = 0 ∧ aF (fun i => decide (fx i = x) && decide (fy i = v)) cnt = false ∧ q = some (.int 1) ∧ h = W0 d L) ∨ (1 ≤ nmF 0 40 k v ∧ q = some (.int 0) ∧ h = W0 (up2 (up2 d 1 3 (nI (nmF 0 40 k v))) 1 4 (nI s)) L) ∨ (nmF 0 40 k v = 0 ∧ aF (fun i => decide (fx i = x) && decide (fy i = v)) cnt = true ∧ q = some (.int 0) ∧ h = W0 (up2 (up2 d 1 3 (nI 4)) 1 4 (nI s)) L)) := by
  obtain ⟨t1, t2, t3, t4, e, t5, t6, t7, t8⟩ := LT_f H
  refine Cn.intro gX5_isFreePlace rfl (Nat.le_of_ble_eq_true rfl) rfl ?_
  repeat refine x_s rfl rfl ?_
  refine x_cv (c_isNumber d L (lo := 0) (hi := 40) hn (by decide) (by decide) H) rfl rfl rfl (by decide) rfl (by decide) rfl (Nat.le_of_ble_eq_true rfl) (by decide) (by decide) (by decide) ?_
  rintro rv _ hq
  rcases hq with ⟨e1, rfl, rfl⟩ | ⟨e1, e2, rfl, rfl⟩
  rotate_left
  · refine x_br rfl rfl (fun c => absurd c (fun z => z rfl)) (fun c => ?_)
    repeat refine x_s rfl rfl ?_
    exact x_iret rfl rfl rfl (Or.inr (Or.inl ⟨e1, rfl, rfl⟩))
  refine x_br rfl rfl (fun c => ?_) (fun c => absurd c (fun z => absurd z (by decide)))
  obtain ⟨hk, -, hv⟩ := nmF_0 e1
  have e9 : d 1 9 = nI v := by
    rcases t8 hk with ⟨a1, a2⟩ | ⟨a1, a2, a3⟩
    · omega
    · exact a3
  have lp : ∀ i, i ≤ cnt → aF (fun i => decide (fx i = x) && decide (fy i = v)) i = false → Ex mX5_isFreePlace false 3 0 0 15 [some (.ref 1), some (.ref 5), some (.ref 6), some (.int (nI cnt)), some (.int (nI x)), some (.int (nI i))] [] (W0 d L) (fun q h => (nmF 0 40 k v = 0 ∧ aF (fun i => decide (fx i = x) && decide (fy i = v)) cnt = false ∧ q = some (.int 1) ∧ h = W0 d L) ∨ (1 ≤ nmF 0 40 k v ∧ q = some (.int 0) ∧ h = W0 (up2 (up2 d 1 3 (nI (nmF 0 40 k v))) 1 4 (nI s)) L) ∨ (nmF 0 40 k v = 0 ∧ aF (fun i => decide (fx i = x) && decide (fy i = v)) cnt = true ∧ q = some (.int 0) ∧ h = W0 (up2 (up2 d 1 3 (nI 4)) 1 4 (nI s)) L)) nX := by
    refine x_down _ ?_ ?_
    · intro ha
      repeat refine x_s rfl rfl ?_
      refine x_br rfl rfl (fun c => ?_) (fun c => absurd c (fun z => z (Int32.le_refl _)))
      repeat refine x_s rfl rfl ?_
      exact x_iret rfl rfl rfl (Or.inl ⟨e1, ha, rfl, rfl⟩)
    · intro i hi ih ha
      obtain ⟨⟨g1, g2⟩, g3, g4⟩ := hf i hi
      have next : (decide (fx i = x) && decide (fy i = v)) = false → aF (fun i => decide (fx i = x) && decide (fy i = v)) (i + 1) = false := fun z => by
        rw [aF, ha, Bool.false_or]
        exact z
      repeat refine x_s rfl rfl ?_
      refine x_br rfl rfl (fun c => absurd c (nI_ge hi (by omega))) (fun c => ?_)
      repeat refine x_s rfl rfl ?_
      refine x_br rfl rfl (fun c => absurd c (nI_ge (b := 10) (by omega) (by decide))) (fun c => ?_)
      repeat refine x_s rfl rfl ?_
      refine x_br rfl rfl (fun c => absurd c (nI_ge (b := 10) (by omega) (by decide))) (fun c => ?_)
      repeat refine x_s rfl rfl ?_
      refine x_ald rfl rfl rfl (k := i) (rfl) (by omega) (by decide) rfl ?_
      rw [g1]
      repeat refine x_s rfl rfl ?_
      by_cases h1 : fx i = x
      rotate_left
      · refine x_br rfl rfl (fun c => ?_) (fun c => absurd c (fun z => h1 ((nI_eq (by omega) (by omega)).mp z)))
        iterate 2 refine x_s rfl rfl ?_
        rw [nI_1]
        exact ih (next (by rw [decide_eq_false h1]; rfl))
      refine x_br rfl rfl (fun c => absurd c (fun z => z (congrArg nI h1))) (fun c => ?_)
      repeat refine x_s rfl rfl ?_
      refine x_ald rfl rfl rfl (k := i) (rfl) (by omega) (by decide) rfl ?_
      rw [g2]
      repeat refine x_s rfl rfl ?_
      rw [e9]
      by_cases h2 : fy i = v
      rotate_left
      · refine x_br rfl rfl (fun c => ?_) (fun c => absurd c (fun z => h2 ((nI_eq (by omega) (by omega)).mp z)))
        iterate 2 refine x_s rfl rfl ?_
        rw [nI_1]
        exact ih (next (by rw [decide_eq_false h2, Bool.and_false]))
      refine x_br rfl rfl (fun c => absurd c (fun z => z (congrArg nI h2))) (fun c => ?_)
      repeat refine x_s rfl rfl ?_
      refine x_cv (c_refuse d L _) rfl rfl rfl (by decide) rfl (by decide) rfl (Nat.le_of_ble_eq_true rfl) (by decide) (by decide) (by decide) ?_
      rintro _ _ ⟨rfl, rfl⟩
      rw [t1]
      exact x_iret rfl rfl rfl (Or.inr (Or.inr ⟨e1, aF_iff.mpr ⟨i, hi, by rw [decide_eq_true h1, decide_eq_true h2]; rfl⟩, rfl, rfl⟩))
  iterate 2 refine x_s rfl rfl ?_
  exact lp 0 (Nat.zero_le _) rfl
set_option maxRecDepth 100000 in
set_option maxHeartbeats 1600000 in
theorem c_free9 {s k v x cnt : Nat} {r : List Tk} {fx fy : Nat → Nat} (hn : n ≤ 700) (hc : cnt ≤ 6) (hx : x ≤ 40) (hf : ∀ i, i < cnt → (d 9 i = nI (fx i) ∧ d 10 i = nI (fy i)) ∧ fx i ≤ 40 ∧ fy i ≤ 40) (H : LT d T n ((s, k, v) :: r)) : Cn mX5_isFreePlace false 3 0 0 [.ref 1, .ref 9, .ref 10, .int (nI cnt), .int (nI x)] (W0 d L) (fun q h => (nmF 0 40 k v = 0 ∧ aF (fun i => decide (fx i = x) && decide (fy i = v)) cnt = false ∧ q = some (.int 1) ∧ h = W0 d L) ∨ (1 ≤ nmF 0 40 k v ∧ q = some (.int 0) ∧ h = W0 (up2 (up2 d 1 3 (nI (nmF 0 40 k v))) 1 4 (nI s)) L) ∨ (nmF 0 40 k v = 0 ∧ aF (fun i => decide (fx i = x) && decide (fy i = v)) cnt = true ∧ q = some (.int 0) ∧ h = W0 (up2 (up2 d 1 3 (nI 4)) 1 4 (nI s)) L)) := by
  obtain ⟨t1, t2, t3, t4, e, t5, t6, t7, t8⟩ := LT_f H
  refine Cn.intro gX5_isFreePlace rfl (Nat.le_of_ble_eq_true rfl) rfl ?_
  repeat refine x_s rfl rfl ?_
  refine x_cv (c_isNumber d L (lo := 0) (hi := 40) hn (by decide) (by decide) H) rfl rfl rfl (by decide) rfl (by decide) rfl (Nat.le_of_ble_eq_true rfl) (by decide) (by decide) (by decide) ?_
  rintro rv _ hq
  rcases hq with ⟨e1, rfl, rfl⟩ | ⟨e1, e2, rfl, rfl⟩
  rotate_left
  · refine x_br rfl rfl (fun c => absurd c (fun z => z rfl)) (fun c => ?_)
    repeat refine x_s rfl rfl ?_
    exact x_iret rfl rfl rfl (Or.inr (Or.inl ⟨e1, rfl, rfl⟩))
  refine x_br rfl rfl (fun c => ?_) (fun c => absurd c (fun z => absurd z (by decide)))
  obtain ⟨hk, -, hv⟩ := nmF_0 e1
  have e9 : d 1 9 = nI v := by
    rcases t8 hk with ⟨a1, a2⟩ | ⟨a1, a2, a3⟩
    · omega
    · exact a3
  have lp : ∀ i, i ≤ cnt → aF (fun i => decide (fx i = x) && decide (fy i = v)) i = false → Ex mX5_isFreePlace false 3 0 0 15 [some (.ref 1), some (.ref 9), some (.ref 10), some (.int (nI cnt)), some (.int (nI x)), some (.int (nI i))] [] (W0 d L) (fun q h => (nmF 0 40 k v = 0 ∧ aF (fun i => decide (fx i = x) && decide (fy i = v)) cnt = false ∧ q = some (.int 1) ∧ h = W0 d L) ∨ (1 ≤ nmF 0 40 k v ∧ q = some (.int 0) ∧ h = W0 (up2 (up2 d 1 3 (nI (nmF 0 40 k v))) 1 4 (nI s)) L) ∨ (nmF 0 40 k v = 0 ∧ aF (fun i => decide (fx i = x) && decide (fy i = v)) cnt = true ∧ q = some (.int 0) ∧ h = W0 (up2 (up2 d 1 3 (nI 4)) 1 4 (nI s)) L)) nX := by
    refine x_down _ ?_ ?_
    · intro ha
      repeat refine x_s rfl rfl ?_
      refine x_br rfl rfl (fun c => ?_) (fun c => absurd c (fun z => z (Int32.le_refl _)))
      repeat refine x_s rfl rfl ?_
      exact x_iret rfl rfl rfl (Or.inl ⟨e1, ha, rfl, rfl⟩)
    · intro i hi ih ha
      obtain ⟨⟨g1, g2⟩, g3, g4⟩ := hf i hi
      have next : (decide (fx i = x) && decide (fy i = v)) = false → aF (fun i => decide (fx i = x) && decide (fy i = v)) (i + 1) = false := fun z => by
        rw [aF, ha, Bool.false_or]
        exact z
      repeat refine x_s rfl rfl ?_
      refine x_br rfl rfl (fun c => absurd c (nI_ge hi (by omega))) (fun c => ?_)
      repeat refine x_s rfl rfl ?_
      refine x_br rfl rfl (fun c => absurd c (nI_ge (b := 6) (by omega) (by decide))) (fun c => ?_)
      repeat refine x_s rfl rfl ?_
      refine x_br rfl rfl (fun c => absurd c (nI_ge (b := 6) (by omega) (by decide))) (fun c => ?_)
      repeat refine x_s rfl rfl ?_
      refine x_ald rfl rfl rfl (k := i) (rfl) (by omega) (by decide) rfl ?_
      rw [g1]
      repeat refine x_s rfl rfl ?_
      by_cases h1 : fx i = x
      rotate_left
      · refine x_br rfl rfl (fun c => ?_) (fun c => absurd c (fun z => h1 ((nI_eq (by omega) (by omega)).mp z)))
        iterate 2 refine x_s rfl rfl ?_
        rw [nI_1]
        exact ih (next (by rw [decide_eq_false h1]; rfl))
      refine x_br rfl rfl (fun c => absurd c (fun z => z (congrArg nI h1))) (fun c => ?_)
      repeat refine x_s rfl rfl ?_
      refine x_ald rfl rfl rfl (k := i) (rfl) (by omega) (by decide) rfl ?_
      rw [g2]
      repeat refine x_s rfl rfl ?_
      rw [e9]
      by_cases h2 : fy i = v
      rotate_left
      · refine x_br rfl rfl (fun c => ?_) (fun c => absurd c (fun z => h2 ((nI_eq (by omega) (by omega)).mp z)))
        iterate 2 refine x_s rfl rfl ?_
        rw [nI_1]
        exact ih (next (by rw [decide_eq_false h2, Bool.and_false]))
      refine x_br rfl rfl (fun c => absurd c (fun z => z (congrArg nI h2))) (fun c => ?_)
      repeat refine x_s rfl rfl ?_
      refine x_cv (c_refuse d L _) rfl rfl rfl (by decide) rfl (by decide) rfl (Nat.le_of_ble_eq_true rfl) (by decide) (by decide) (by decide) ?_
      rintro _ _ ⟨rfl, rfl⟩
      rw [t1]
      exact x_iret rfl rfl rfl (Or.inr (Or.inr ⟨e1, aF_iff.mpr ⟨i, hi, by rw [decide_eq_true h1, decide_eq_true h2]; rfl⟩, rfl, rfl⟩))
  iterate 2 refine x_s rfl rfl ?_
  exact lp 0 (Nat.zero_le _) rfl
set_option maxRecDepth 100000 in
set_option maxHeartbeats 1600000 in
theorem c_readPerson {s : Nat} {r : List Tk} {D : Dr} (hn : n ≤ 700) (hT : ∀ j, T j < 256) (H : LT d T n ((s, 1, 9) :: r)) (D0 : HD d D) (dg : DG D) : Cn mX5_readPerson false 6 0 0 [.ref 1] (W0 d L) (qL T n d L (lnOne s r D)) := by
  obtain ⟨t1, t2, t3, t4, t5⟩ := LT_f H
  have cb := dg.1.1
  simp only at cb
  refine Cn.intro gX5_readPerson rfl (Nat.le_of_ble_eq_true rfl) rfl ?_
  repeat refine x_s rfl rfl ?_
  rw [D0.1]
  by_cases h10 : 10 ≤ D.1 0 0
  · refine x_br rfl rfl (fun c => absurd c (fun z => absurd z (Int32.not_lt.mpr (nI_le (a := 10) h10 (by omega))))) (fun c => ?_)
    repeat refine x_s rfl rfl ?_
    refine x_cv (c_refuse d L _) rfl rfl rfl (by decide) rfl (by decide) rfl (Nat.le_of_ble_eq_true rfl) (by omega) (by decide) (by decide) ?_
    rintro _ _ ⟨rfl, rfl⟩
    rw [t1]
    refine x_iret rfl rfl rfl ⟨_, rfl, LN_fl LN_rfl, Or.inl ⟨rfl, (2, s), FT_of (by decide) (by decide) (by omega), ?_⟩⟩
    unfold lnOne
    rw [if_pos h10]
  refine x_br rfl rfl (fun c => ?_) (fun c => absurd c (fun z => z (nI_lt (b := 10) (by omega) (by decide))))
  repeat refine x_s rfl rfl ?_
  refine x_cv (c_advance d L hn hT H (by decide)) rfl rfl rfl (by decide) rfl (by decide) rfl (Nat.le_of_ble_eq_true rfl) (by omega) (by decide) (by decide) ?_
  rintro _ _ ⟨rfl, d1, rfl, F1, H1⟩
  have N1 := LN_LF F1
  have D1 := HD_LF D0 F1
  have q1 : d1 1 3 = d 1 3 := e3_LF F1
  obtain ⟨sA, kA, vA, rA, rfl⟩ := LT_ne H1
  obtain ⟨tA1, tA2, tA3, tA4, tA5⟩ := LT_f H1
  repeat refine x_s rfl rfl ?_
  refine x_cv (c_isNumber d1 L (lo := 0) (hi := 40) hn (by decide) (by decide) H1) rfl rfl rfl (by decide) rfl (by decide) rfl (Nat.le_of_ble_eq_true rfl) (by omega) (by decide) (by decide) ?_
  rintro rv _ hq
  rcases hq with ⟨eA, rfl, rfl⟩ | ⟨eA, eA', rfl, rfl⟩
  rotate_left
  · refine x_br rfl rfl (fun c => absurd c (fun z => z rfl)) (fun c => ?_)
    repeat refine x_s rfl rfl ?_
    refine x_iret rfl rfl rfl ⟨_, rfl, LN_fl N1, Or.inl ⟨rfl, (nmF 0 40 kA vA, sA), FT_of eA (by omega) (by omega), ?_⟩⟩
    unfold lnOne
    rw [if_neg h10]
    simp only [tkn]
    rw [if_neg (by omega)]
  refine x_br rfl rfl (fun c => ?_) (fun c => absurd c (fun z => absurd z (by decide)))
  obtain ⟨hkA, loA, hiA⟩ := nmF_0 eA
  subst hkA
  repeat refine x_s rfl rfl ?_
  refine x_cv (c_taken d1 L hn hT (by omega) H1) rfl rfl rfl (by decide) rfl (by decide) rfl (Nat.le_of_ble_eq_true rfl) (by omega) (by decide) (by decide) ?_
  rintro _ _ ⟨rfl, d2, rfl, F2, H2⟩
  have N2 := LN_tr N1 (LN_LF F2)
  have D2 := HD_LF D1 F2
  have q2 : d2 1 3 = d 1 3 := (e3_LF F2).trans q1
  obtain ⟨sB, kB, vB, rB, rfl⟩ := LT_ne H2
  obtain ⟨tB1, tB2, tB3, tB4, tB5⟩ := LT_f H2
  repeat refine x_s rfl rfl ?_
  rw [D2.1]
  refine x_cv (c_free5 d2 L (x := vA) (fx := D.1 1) (fy := D.1 2) hn (by omega) hiA (fun j hj => ⟨⟨(D2.2.2.2.1 j hj).1, (D2.2.2.2.1 j hj).2.1⟩, (dg.1.2.2.2.1 j hj).1, (dg.1.2.2.2.1 j hj).2.1⟩) H2) rfl rfl rfl (by decide) rfl (by decide) rfl (Nat.le_of_ble_eq_true rfl) (by omega) (by decide) (by decide) ?_
  rintro rv _ hq
  rcases hq with ⟨eB, gB, rfl, rfl⟩ | ⟨eB, rfl, rfl⟩ | ⟨eB, gB, rfl, rfl⟩
  rotate_left
  · refine x_br rfl rfl (fun c => absurd c (fun z => z rfl)) (fun c => ?_)
    repeat refine x_s rfl rfl ?_
    refine x_iret rfl rfl rfl ⟨_, rfl, LN_fl N2, Or.inl ⟨rfl, (nmF 0 40 kB vB, sB), FT_of eB (by have := nmF_b 0 40 kB vB; omega) (by omega), ?_⟩⟩
    unfold lnOne
    rw [if_neg h10]
    simp only [tkn]
    rw [if_pos eA]
    rw [if_neg (by omega)]
  · refine x_br rfl rfl (fun c => absurd c (fun z => z rfl)) (fun c => ?_)
    repeat refine x_s rfl rfl ?_
    refine x_iret rfl rfl rfl ⟨_, rfl, LN_fl N2, Or.inl ⟨rfl, (4, sB), FT_of (by decide) (by decide) (by omega), ?_⟩⟩
    unfold lnOne
    rw [if_neg h10]
    simp only [tkn]
    rw [if_pos eA]
    rw [if_pos eB, if_pos gB]
  refine x_br rfl rfl (fun c => ?_) (fun c => absurd c (fun z => absurd z (by decide)))
  obtain ⟨hkB, loB, hiB⟩ := nmF_0 eB
  subst hkB
  repeat refine x_s rfl rfl ?_
  refine x_cv (c_taken d2 L hn hT (by omega) H2) rfl rfl rfl (by decide) rfl (by decide) rfl (Nat.le_of_ble_eq_true rfl) (by omega) (by decide) (by decide) ?_
  rintro _ _ ⟨rfl, d3, rfl, F3, H3⟩
  have N3 := LN_tr N2 (LN_LF F3)
  have D3 := HD_LF D2 F3
  have q3 : d3 1 3 = d 1 3 := (e3_LF F3).trans q2
  obtain ⟨sC, kC, vC, rC, rfl⟩ := LT_ne H3
  obtain ⟨tC1, tC2, tC3, tC4, tC5⟩ := LT_f H3
  repeat refine x_s rfl rfl ?_
  refine x_cv (c_isNumber d3 L (lo := 0) (hi := 9) hn (by decide) (by decide) H3) rfl rfl rfl (by decide) rfl (by decide) rfl (Nat.le_of_ble_eq_true rfl) (by omega) (by decide) (by decide) ?_
  rintro rv _ hq
  rcases hq with ⟨eC, rfl, rfl⟩ | ⟨eC, eC', rfl, rfl⟩
  rotate_left
  · refine x_br rfl rfl (fun c => absurd c (fun z => z rfl)) (fun c => ?_)
    repeat refine x_s rfl rfl ?_
    refine x_iret rfl rfl rfl ⟨_, rfl, LN_fl N3, Or.inl ⟨rfl, (nmF 0 9 kC vC, sC), FT_of eC (by omega) (by omega), ?_⟩⟩
    unfold lnOne
    rw [if_neg h10]
    simp only [tkn]
    rw [if_pos eA, if_pos eB, if_neg (by rw [gB]; decide)]
    rw [if_neg (by omega)]
  refine x_br rfl rfl (fun c => ?_) (fun c => absurd c (fun z => absurd z (by decide)))
  obtain ⟨hkC, loC, hiC⟩ := nmF_0 eC
  subst hkC
  repeat refine x_s rfl rfl ?_
  refine x_cv (c_taken d3 L hn hT (by omega) H3) rfl rfl rfl (by decide) rfl (by decide) rfl (Nat.le_of_ble_eq_true rfl) (by omega) (by decide) (by decide) ?_
  rintro _ _ ⟨rfl, d4, rfl, F4, H4⟩
  have N4 := LN_tr N3 (LN_LF F4)
  have D4 := HD_LF D3 F4
  have q4 : d4 1 3 = d 1 3 := (e3_LF F4).trans q3
  refine x_cv (c_padd d4 L D4.1 (by omega) (nI vA) (nI vB) (nI vC)) rfl rfl rfl (by decide) rfl (by decide) rfl (Nat.le_of_ble_eq_true rfl) (by omega) (by decide) (by decide) ?_
  rintro _ _ ⟨rfl, rfl⟩
  obtain ⟨s9, k9, v9, r9, rfl⟩ := LT_ne H4
  have H9 := LT_c (d' := up2 (up2 (up2 (up2 d4 5 (D.1 0 0) (nI vA)) 6 (D.1 0 0) (nI vB)) 7 (D.1 0 0) (nI vC)) 4 0 (nI (D.1 0 0 + 1))) H4 rfl (fun k _ => rfl)
  have N9 : LN d (up2 (up2 (up2 (up2 d4 5 (D.1 0 0) (nI vA)) 6 (D.1 0 0) (nI vB)) 7 (D.1 0 0) (nI vC)) 4 0 (nI (D.1 0 0 + 1))) := LN_c (LN_c (LN_c (LN_c N4 (by decide)) (by decide)) (by decide)) (by decide)
  have D9 : HD (up2 (up2 (up2 (up2 d4 5 (D.1 0 0) (nI vA)) 6 (D.1 0 0) (nI vB)) 7 (D.1 0 0) (nI vC)) 4 0 (nI (D.1 0 0 + 1))) (addP D.1 vA vB vC, D.2) := HD_P D4 vA vB vC
  have q9 : (up2 (up2 (up2 (up2 d4 5 (D.1 0 0) (nI vA)) 6 (D.1 0 0) (nI vB)) 7 (D.1 0 0) (nI vC)) 4 0 (nI (D.1 0 0 + 1))) 1 3 = d 1 3 := q4
  generalize up2 (up2 (up2 (up2 d4 5 (D.1 0 0) (nI vA)) 6 (D.1 0 0) (nI vB)) 7 (D.1 0 0) (nI vC)) 4 0 (nI (D.1 0 0 + 1)) = d9 at H9 N9 D9 q9 ⊢
  obtain ⟨t91, t92, t93, t94, t95⟩ := LT_f H9
  repeat refine x_s rfl rfl ?_
  refine x_cv (c_readSign d9 L (b := 59) hn hT (by decide) H9) rfl rfl rfl (by decide) rfl (by decide) rfl (Nat.le_of_ble_eq_true rfl) (by omega) (by decide) (by decide) ?_
  rintro rv _ hq
  rcases hq with ⟨hk, rfl, d10, rfl, F10, H10⟩ | ⟨hk, rfl, rfl⟩
  · refine x_iret rfl rfl rfl ⟨d10, rfl, LN_tr N9 (LN_LF F10), Or.inr ⟨rfl, r9, (addP D.1 vA vB vC, D.2), H10, HD_LF D9 F10, ⟨RG_addP dg.1 (by omega) hiA hiB hiC, dg.2⟩, (e3_LF F10).trans q9, ?_⟩⟩
    unfold lnOne
    rw [if_neg h10]
    simp only [tkn]
    rw [if_pos eA, if_pos eB, if_neg (by rw [gB]; decide), if_pos eC]
    simp only [sgn]
    rw [if_pos hk]
  · refine x_iret rfl rfl rfl ⟨_, rfl, LN_fl N9, Or.inl ⟨rfl, (1, s9), FT_of (by decide) (by decide) (by omega), ?_⟩⟩
    unfold lnOne
    rw [if_neg h10]
    simp only [tkn]
    rw [if_pos eA, if_pos eB, if_neg (by rw [gB]; decide), if_pos eC]
    simp only [sgn]
    rw [if_neg hk]
set_option maxRecDepth 100000 in
set_option maxHeartbeats 1600000 in
theorem c_readNeedle {s : Nat} {r : List Tk} {D : Dr} (hn : n ≤ 700) (hT : ∀ j, T j < 256) (H : LT d T n ((s, 1, 10) :: r)) (D0 : HD d D) (dg : DG D) : Cn mX5_readNeedle false 6 0 0 [.ref 1] (W0 d L) (qL T n d L (lnNeedle s r D)) := by
  obtain ⟨t1, t2, t3, t4, t5⟩ := LT_f H
  have cb := dg.1.2.1
  simp only at cb
  refine Cn.intro gX5_readNeedle rfl (Nat.le_of_ble_eq_true rfl) rfl ?_
  repeat refine x_s rfl rfl ?_
  rw [D0.2.1]
  by_cases h10 : 6 ≤ D.1 4 0
  · refine x_br rfl rfl (fun c => absurd c (fun z => absurd z (Int32.not_lt.mpr (nI_le (a := 6) h10 (by omega))))) (fun c => ?_)
    repeat refine x_s rfl rfl ?_
    refine x_cv (c_refuse d L _) rfl rfl rfl (by decide) rfl (by decide) rfl (Nat.le_of_ble_eq_true rfl) (by omega) (by decide) (by decide) ?_
    rintro _ _ ⟨rfl, rfl⟩
    rw [t1]
    refine x_iret rfl rfl rfl ⟨_, rfl, LN_fl LN_rfl, Or.inl ⟨rfl, (2, s), FT_of (by decide) (by decide) (by omega), ?_⟩⟩
    unfold lnNeedle
    rw [if_pos h10]
  refine x_br rfl rfl (fun c => ?_) (fun c => absurd c (fun z => z (nI_lt (b := 6) (by omega) (by decide))))
  repeat refine x_s rfl rfl ?_
  refine x_cv (c_advance d L hn hT H (by decide)) rfl rfl rfl (by decide) rfl (by decide) rfl (Nat.le_of_ble_eq_true rfl) (by omega) (by decide) (by decide) ?_
  rintro _ _ ⟨rfl, d1, rfl, F1, H1⟩
  have N1 := LN_LF F1
  have D1 := HD_LF D0 F1
  have q1 : d1 1 3 = d 1 3 := e3_LF F1
  obtain ⟨sA, kA, vA, rA, rfl⟩ := LT_ne H1
  obtain ⟨tA1, tA2, tA3, tA4, tA5⟩ := LT_f H1
  repeat refine x_s rfl rfl ?_
  refine x_cv (c_isNumber d1 L (lo := 0) (hi := 40) hn (by decide) (by decide) H1) rfl rfl rfl (by decide) rfl (by decide) rfl (Nat.le_of_ble_eq_true rfl) (by omega) (by decide) (by decide) ?_
  rintro rv _ hq
  rcases hq with ⟨eA, rfl, rfl⟩ | ⟨eA, eA', rfl, rfl⟩
  rotate_left
  · refine x_br rfl rfl (fun c => absurd c (fun z => z rfl)) (fun c => ?_)
    repeat refine x_s rfl rfl ?_
    refine x_iret rfl rfl rfl ⟨_, rfl, LN_fl N1, Or.inl ⟨rfl, (nmF 0 40 kA vA, sA), FT_of eA (by omega) (by omega), ?_⟩⟩
    unfold lnNeedle
    rw [if_neg h10]
    simp only [tkn]
    rw [if_neg (by omega)]
  refine x_br rfl rfl (fun c => ?_) (fun c => absurd c (fun z => absurd z (by decide)))
  obtain ⟨hkA, loA, hiA⟩ := nmF_0 eA
  subst hkA
  repeat refine x_s rfl rfl ?_
  refine x_cv (c_taken d1 L hn hT (by omega) H1) rfl rfl rfl (by decide) rfl (by decide) rfl (Nat.le_of_ble_eq_true rfl) (by omega) (by decide) (by decide) ?_
  rintro _ _ ⟨rfl, d2, rfl, F2, H2⟩
  have N2 := LN_tr N1 (LN_LF F2)
  have D2 := HD_LF D1 F2
  have q2 : d2 1 3 = d 1 3 := (e3_LF F2).trans q1
  obtain ⟨sB, kB, vB, rB, rfl⟩ := LT_ne H2
  obtain ⟨tB1, tB2, tB3, tB4, tB5⟩ := LT_f H2
  repeat refine x_s rfl rfl ?_
  rw [D2.2.1]
  refine x_cv (c_free9 d2 L (x := vA) (fx := D.1 5) (fy := D.1 6) hn (by omega) hiA (fun j hj => ⟨⟨(D2.2.2.2.2.1 j hj).1, (D2.2.2.2.2.1 j hj).2.1⟩, (dg.1.2.2.2.2.1 j hj).1, (dg.1.2.2.2.2.1 j hj).2.1⟩) H2) rfl rfl rfl (by decide) rfl (by decide) rfl (Nat.le_of_ble_eq_true rfl) (by omega) (by decide) (by decide) ?_
  rintro rv _ hq
  rcases hq with ⟨eB, gB, rfl, rfl⟩ | ⟨eB, rfl, rfl⟩ | ⟨eB, gB, rfl, rfl⟩
  rotate_left
  · refine x_br rfl rfl (fun c => absurd c (fun z => z rfl)) (fun c => ?_)
    repeat refine x_s rfl rfl ?_
    refine x_iret rfl rfl rfl ⟨_, rfl, LN_fl N2, Or.inl ⟨rfl, (nmF 0 40 kB vB, sB), FT_of eB (by have := nmF_b 0 40 kB vB; omega) (by omega), ?_⟩⟩
    unfold lnNeedle
    rw [if_neg h10]
    simp only [tkn]
    rw [if_pos eA]
    rw [if_neg (by omega)]
  · refine x_br rfl rfl (fun c => absurd c (fun z => z rfl)) (fun c => ?_)
    repeat refine x_s rfl rfl ?_
    refine x_iret rfl rfl rfl ⟨_, rfl, LN_fl N2, Or.inl ⟨rfl, (4, sB), FT_of (by decide) (by decide) (by omega), ?_⟩⟩
    unfold lnNeedle
    rw [if_neg h10]
    simp only [tkn]
    rw [if_pos eA]
    rw [if_pos eB, if_pos gB]
  refine x_br rfl rfl (fun c => ?_) (fun c => absurd c (fun z => absurd z (by decide)))
  obtain ⟨hkB, loB, hiB⟩ := nmF_0 eB
  subst hkB
  repeat refine x_s rfl rfl ?_
  refine x_cv (c_taken d2 L hn hT (by omega) H2) rfl rfl rfl (by decide) rfl (by decide) rfl (Nat.le_of_ble_eq_true rfl) (by omega) (by decide) (by decide) ?_
  rintro _ _ ⟨rfl, d3, rfl, F3, H3⟩
  have N3 := LN_tr N2 (LN_LF F3)
  have D3 := HD_LF D2 F3
  have q3 : d3 1 3 = d 1 3 := (e3_LF F3).trans q2
  obtain ⟨sC, kC, vC, rC, rfl⟩ := LT_ne H3
  obtain ⟨tC1, tC2, tC3, tC4, tC5⟩ := LT_f H3
  repeat refine x_s rfl rfl ?_
  refine x_cv (c_isNumber d3 L (lo := 1) (hi := 60) hn (by decide) (by decide) H3) rfl rfl rfl (by decide) rfl (by decide) rfl (Nat.le_of_ble_eq_true rfl) (by omega) (by decide) (by decide) ?_
  rintro rv _ hq
  rcases hq with ⟨eC, rfl, rfl⟩ | ⟨eC, eC', rfl, rfl⟩
  rotate_left
  · refine x_br rfl rfl (fun c => absurd c (fun z => z rfl)) (fun c => ?_)
    repeat refine x_s rfl rfl ?_
    refine x_iret rfl rfl rfl ⟨_, rfl, LN_fl N3, Or.inl ⟨rfl, (nmF 1 60 kC vC, sC), FT_of eC (by omega) (by omega), ?_⟩⟩
    unfold lnNeedle
    rw [if_neg h10]
    simp only [tkn]
    rw [if_pos eA, if_pos eB, if_neg (by rw [gB]; decide)]
    rw [if_neg (by omega)]
  refine x_br rfl rfl (fun c => ?_) (fun c => absurd c (fun z => absurd z (by decide)))
  obtain ⟨hkC, loC, hiC⟩ := nmF_0 eC
  subst hkC
  repeat refine x_s rfl rfl ?_
  refine x_cv (c_taken d3 L hn hT (by omega) H3) rfl rfl rfl (by decide) rfl (by decide) rfl (Nat.le_of_ble_eq_true rfl) (by omega) (by decide) (by decide) ?_
  rintro _ _ ⟨rfl, d4, rfl, F4, H4⟩
  have N4 := LN_tr N3 (LN_LF F4)
  have D4 := HD_LF D3 F4
  have q4 : d4 1 3 = d 1 3 := (e3_LF F4).trans q3
  obtain ⟨sE, kE, vE, rE, rfl⟩ := LT_ne H4
  obtain ⟨tE1, tE2, tE3, tE4, tE5⟩ := LT_f H4
  repeat refine x_s rfl rfl ?_
  refine x_cv (c_isNumber d4 L (lo := 0) (hi := 9) hn (by decide) (by decide) H4) rfl rfl rfl (by decide) rfl (by decide) rfl (Nat.le_of_ble_eq_true rfl) (by omega) (by decide) (by decide) ?_
  rintro rv _ hq
  rcases hq with ⟨eE, rfl, rfl⟩ | ⟨eE, eE', rfl, rfl⟩
  rotate_left
  · refine x_br rfl rfl (fun c => absurd c (fun z => z rfl)) (fun c => ?_)
    repeat refine x_s rfl rfl ?_
    refine x_iret rfl rfl rfl ⟨_, rfl, LN_fl N4, Or.inl ⟨rfl, (nmF 0 9 kE vE, sE), FT_of eE (by omega) (by omega), ?_⟩⟩
    unfold lnNeedle
    rw [if_neg h10]
    simp only [tkn]
    rw [if_pos eA, if_pos eB, if_neg (by rw [gB]; decide), if_pos eC]
    rw [if_neg (by omega)]
  refine x_br rfl rfl (fun c => ?_) (fun c => absurd c (fun z => absurd z (by decide)))
  obtain ⟨hkE, loE, hiE⟩ := nmF_0 eE
  subst hkE
  repeat refine x_s rfl rfl ?_
  refine x_cv (c_taken d4 L hn hT (by omega) H4) rfl rfl rfl (by decide) rfl (by decide) rfl (Nat.le_of_ble_eq_true rfl) (by omega) (by decide) (by decide) ?_
  rintro _ _ ⟨rfl, d5, rfl, F5, H5⟩
  have N5 := LN_tr N4 (LN_LF F5)
  have D5 := HD_LF D4 F5
  have q5 : d5 1 3 = d 1 3 := (e3_LF F5).trans q4
  refine x_cv (c_nadd d5 L D5.2.1 (by omega) (nI vA) (nI vB) (nI vC) (nI vE)) rfl rfl rfl (by decide) rfl (by decide) rfl (Nat.le_of_ble_eq_true rfl) (by omega) (by decide) (by decide) ?_
  rintro _ _ ⟨rfl, rfl⟩
  obtain ⟨s9, k9, v9, r9, rfl⟩ := LT_ne H5
  have H9 := LT_c (d' := up2 (up2 (up2 (up2 (up2 d5 9 (D.1 4 0) (nI vA)) 10 (D.1 4 0) (nI vB)) 11 (D.1 4 0) (nI vC)) 12 (D.1 4 0) (nI vE)) 8 0 (nI (D.1 4 0 + 1))) H5 rfl (fun k _ => rfl)
  have N9 : LN d (up2 (up2 (up2 (up2 (up2 d5 9 (D.1 4 0) (nI vA)) 10 (D.1 4 0) (nI vB)) 11 (D.1 4 0) (nI vC)) 12 (D.1 4 0) (nI vE)) 8 0 (nI (D.1 4 0 + 1))) := LN_c (LN_c (LN_c (LN_c (LN_c N5 (by decide)) (by decide)) (by decide)) (by decide)) (by decide)
  have D9 : HD (up2 (up2 (up2 (up2 (up2 d5 9 (D.1 4 0) (nI vA)) 10 (D.1 4 0) (nI vB)) 11 (D.1 4 0) (nI vC)) 12 (D.1 4 0) (nI vE)) 8 0 (nI (D.1 4 0 + 1))) (addN D.1 vA vB vC vE, D.2) := HD_N D5 vA vB vC vE
  have q9 : (up2 (up2 (up2 (up2 (up2 d5 9 (D.1 4 0) (nI vA)) 10 (D.1 4 0) (nI vB)) 11 (D.1 4 0) (nI vC)) 12 (D.1 4 0) (nI vE)) 8 0 (nI (D.1 4 0 + 1))) 1 3 = d 1 3 := q5
  generalize up2 (up2 (up2 (up2 (up2 d5 9 (D.1 4 0) (nI vA)) 10 (D.1 4 0) (nI vB)) 11 (D.1 4 0) (nI vC)) 12 (D.1 4 0) (nI vE)) 8 0 (nI (D.1 4 0 + 1)) = d9 at H9 N9 D9 q9 ⊢
  obtain ⟨t91, t92, t93, t94, t95⟩ := LT_f H9
  repeat refine x_s rfl rfl ?_
  refine x_cv (c_readSign d9 L (b := 59) hn hT (by decide) H9) rfl rfl rfl (by decide) rfl (by decide) rfl (Nat.le_of_ble_eq_true rfl) (by omega) (by decide) (by decide) ?_
  rintro rv _ hq
  rcases hq with ⟨hk, rfl, d10, rfl, F10, H10⟩ | ⟨hk, rfl, rfl⟩
  · refine x_iret rfl rfl rfl ⟨d10, rfl, LN_tr N9 (LN_LF F10), Or.inr ⟨rfl, r9, (addN D.1 vA vB vC vE, D.2), H10, HD_LF D9 F10, ⟨RG_addN dg.1 (by omega) hiA hiB hiC hiE, dg.2⟩, (e3_LF F10).trans q9, ?_⟩⟩
    unfold lnNeedle
    rw [if_neg h10]
    simp only [tkn]
    rw [if_pos eA, if_pos eB, if_neg (by rw [gB]; decide), if_pos eC, if_pos eE]
    simp only [sgn]
    rw [if_pos hk]
  · refine x_iret rfl rfl rfl ⟨_, rfl, LN_fl N9, Or.inl ⟨rfl, (1, s9), FT_of (by decide) (by decide) (by omega), ?_⟩⟩
    unfold lnNeedle
    rw [if_neg h10]
    simp only [tkn]
    rw [if_pos eA, if_pos eB, if_neg (by rw [gB]; decide), if_pos eC, if_pos eE]
    simp only [sgn]
    rw [if_neg hk]
set_option maxRecDepth 100000 in
set_option maxHeartbeats 1600000 in
theorem c_readSaying {s : Nat} {r : List Tk} {D : Dr} (hn : n ≤ 700) (hT : ∀ j, T j < 256) (H : LT d T n ((s, 1, 11) :: r)) (D0 : HD d D) (dg : DG D) : Cn mX5_readSaying false 6 0 0 [.ref 1] (W0 d L) (qL T n d L (lnSays s r D)) := by
  obtain ⟨t1, t2, t3, t4, t5⟩ := LT_f H
  have cb := dg.1.2.2.1
  simp only at cb
  refine Cn.intro gX5_readSaying rfl (Nat.le_of_ble_eq_true rfl) rfl ?_
  repeat refine x_s rfl rfl ?_
  rw [D0.2.2.1]
  by_cases h10 : 16 ≤ D.1 9 0
  · refine x_br rfl rfl (fun c => absurd c (fun z => absurd z (Int32.not_lt.mpr (nI_le (a := 16) h10 (by omega))))) (fun c => ?_)
    repeat refine x_s rfl rfl ?_
    refine x_cv (c_refuse d L _) rfl rfl rfl (by decide) rfl (by decide) rfl (Nat.le_of_ble_eq_true rfl) (by omega) (by decide) (by decide) ?_
    rintro _ _ ⟨rfl, rfl⟩
    rw [t1]
    refine x_iret rfl rfl rfl ⟨_, rfl, LN_fl LN_rfl, Or.inl ⟨rfl, (2, s), FT_of (by decide) (by decide) (by omega), ?_⟩⟩
    unfold lnSays
    rw [if_pos h10]
  refine x_br rfl rfl (fun c => ?_) (fun c => absurd c (fun z => z (nI_lt (b := 16) (by omega) (by decide))))
  repeat refine x_s rfl rfl ?_
  refine x_cv (c_advance d L hn hT H (by decide)) rfl rfl rfl (by decide) rfl (by decide) rfl (Nat.le_of_ble_eq_true rfl) (by omega) (by decide) (by decide) ?_
  rintro _ _ ⟨rfl, d1, rfl, F1, H1⟩
  have N1 := LN_LF F1
  have D1 := HD_LF D0 F1
  have q1 : d1 1 3 = d 1 3 := e3_LF F1
  obtain ⟨sA, kA, vA, rA, rfl⟩ := LT_ne H1
  obtain ⟨tA1, tA2, tA3, tA4, tA5⟩ := LT_f H1
  repeat refine x_s rfl rfl ?_
  refine x_cv (c_isNumber d1 L (lo := 0) (hi := 99) hn (by decide) (by decide) H1) rfl rfl rfl (by decide) rfl (by decide) rfl (Nat.le_of_ble_eq_true rfl) (by omega) (by decide) (by decide) ?_
  rintro rv _ hq
  rcases hq with ⟨eA, rfl, rfl⟩ | ⟨eA, eA', rfl, rfl⟩
  rotate_left
  · refine x_br rfl rfl (fun c => absurd c (fun z => z rfl)) (fun c => ?_)
    repeat refine x_s rfl rfl ?_
    refine x_iret rfl rfl rfl ⟨_, rfl, LN_fl N1, Or.inl ⟨rfl, (nmF 0 99 kA vA, sA), FT_of eA (by omega) (by omega), ?_⟩⟩
    unfold lnSays
    rw [if_neg h10]
    simp only [tkn]
    rw [if_neg (by omega)]
  refine x_br rfl rfl (fun c => ?_) (fun c => absurd c (fun z => absurd z (by decide)))
  obtain ⟨hkA, loA, hiA⟩ := nmF_0 eA
  subst hkA
  repeat refine x_s rfl rfl ?_
  refine x_cv (c_taken d1 L hn hT (by omega) H1) rfl rfl rfl (by decide) rfl (by decide) rfl (Nat.le_of_ble_eq_true rfl) (by omega) (by decide) (by decide) ?_
  rintro _ _ ⟨rfl, d2, rfl, F2, H2⟩
  have N2 := LN_tr N1 (LN_LF F2)
  have D2 := HD_LF D1 F2
  have q2 : d2 1 3 = d 1 3 := (e3_LF F2).trans q1
  obtain ⟨sB, kB, vB, rB, rfl⟩ := LT_ne H2
  obtain ⟨tB1, tB2, tB3, tB4, tB5⟩ := LT_f H2
  repeat refine x_s rfl rfl ?_
  refine x_cv (c_isNumber d2 L (lo := 0) (hi := 9999) hn (by decide) (by decide) H2) rfl rfl rfl (by decide) rfl (by decide) rfl (Nat.le_of_ble_eq_true rfl) (by omega) (by decide) (by decide) ?_
  rintro rv _ hq
  rcases hq with ⟨eB, rfl, rfl⟩ | ⟨eB, eB', rfl, rfl⟩
  rotate_left
  · refine x_br rfl rfl (fun c => absurd c (fun z => z rfl)) (fun c => ?_)
    repeat refine x_s rfl rfl ?_
    refine x_iret rfl rfl rfl ⟨_, rfl, LN_fl N2, Or.inl ⟨rfl, (nmF 0 9999 kB vB, sB), FT_of eB (by omega) (by omega), ?_⟩⟩
    unfold lnSays
    rw [if_neg h10]
    simp only [tkn]
    rw [if_pos eA]
    rw [if_neg (by omega)]
  refine x_br rfl rfl (fun c => ?_) (fun c => absurd c (fun z => absurd z (by decide)))
  obtain ⟨hkB, loB, hiB⟩ := nmF_0 eB
  subst hkB
  have e9 : d2 1 9 = nI vB := by
    obtain ⟨e, -, -, -, t8⟩ := tB5
    rcases t8 rfl with ⟨a1, a2⟩ | ⟨a1, a2, a3⟩
    · omega
    · exact a3
  have pb := dg.1.1
  simp only at pb
  repeat refine x_s rfl rfl ?_
  rw [e9, D2.1]
  by_cases hp : D.1 0 0 ≤ vB
  · refine x_br rfl rfl (fun c => absurd c (fun z => absurd z (Int32.not_lt.mpr (nI_le hp (by omega))))) (fun c => ?_)
    repeat refine x_s rfl rfl ?_
    refine x_cv (c_refuse d2 L _) rfl rfl rfl (by decide) rfl (by decide) rfl (Nat.le_of_ble_eq_true rfl) (by omega) (by decide) (by decide) ?_
    rintro _ _ ⟨rfl, rfl⟩
    rw [tB1]
    refine x_iret rfl rfl rfl ⟨_, rfl, LN_fl N2, Or.inl ⟨rfl, (3, sB), FT_of (by decide) (by decide) (by omega), ?_⟩⟩
    unfold lnSays
    rw [if_neg h10]
    simp only [tkn]
    rw [if_pos eA, if_pos eB, if_pos hp]
  refine x_br rfl rfl (fun c => ?_) (fun c => absurd c (fun z => z (nI_lt (by omega) (by omega))))
  repeat refine x_s rfl rfl ?_
  refine x_cv (c_taken d2 L hn hT (by omega) H2) rfl rfl rfl (by decide) rfl (by decide) rfl (Nat.le_of_ble_eq_true rfl) (by omega) (by decide) (by decide) ?_
  rintro _ _ ⟨rfl, d3, rfl, F3, H3⟩
  have N3 := LN_tr N2 (LN_LF F3)
  have D3 := HD_LF D2 F3
  have q3 : d3 1 3 = d 1 3 := (e3_LF F3).trans q2
  obtain ⟨sC, kC, vC, rC, rfl⟩ := LT_ne H3
  obtain ⟨tC1, tC2, tC3, tC4, tC5⟩ := LT_f H3
  repeat refine x_s rfl rfl ?_
  refine x_cv (c_isNumber d3 L (lo := 0) (hi := 9) hn (by decide) (by decide) H3) rfl rfl rfl (by decide) rfl (by decide) rfl (Nat.le_of_ble_eq_true rfl) (by omega) (by decide) (by decide) ?_
  rintro rv _ hq
  rcases hq with ⟨eC, rfl, rfl⟩ | ⟨eC, eC', rfl, rfl⟩
  rotate_left
  · refine x_br rfl rfl (fun c => absurd c (fun z => z rfl)) (fun c => ?_)
    repeat refine x_s rfl rfl ?_
    refine x_iret rfl rfl rfl ⟨_, rfl, LN_fl N3, Or.inl ⟨rfl, (nmF 0 9 kC vC, sC), FT_of eC (by omega) (by omega), ?_⟩⟩
    unfold lnSays
    rw [if_neg h10]
    simp only [tkn]
    rw [if_pos eA, if_pos eB, if_neg hp]
    rw [if_neg (by omega)]
  refine x_br rfl rfl (fun c => ?_) (fun c => absurd c (fun z => absurd z (by decide)))
  obtain ⟨hkC, loC, hiC⟩ := nmF_0 eC
  subst hkC
  repeat refine x_s rfl rfl ?_
  refine x_cv (c_taken d3 L hn hT (by omega) H3) rfl rfl rfl (by decide) rfl (by decide) rfl (Nat.le_of_ble_eq_true rfl) (by omega) (by decide) (by decide) ?_
  rintro _ _ ⟨rfl, d4, rfl, F4, H4⟩
  have N4 := LN_tr N3 (LN_LF F4)
  have D4 := HD_LF D3 F4
  have q4 : d4 1 3 = d 1 3 := (e3_LF F4).trans q3
  refine x_cv (c_sadd d4 L D4.2.2.1 (by omega) (nI vA) (nI vB) (nI vC)) rfl rfl rfl (by decide) rfl (by decide) rfl (Nat.le_of_ble_eq_true rfl) (by omega) (by decide) (by decide) ?_
  rintro _ _ ⟨rfl, rfl⟩
  obtain ⟨s9, k9, v9, r9, rfl⟩ := LT_ne H4
  have H9 := LT_c (d' := up2 (up2 (up2 (up2 d4 14 (D.1 9 0) (nI vA)) 15 (D.1 9 0) (nI vB)) 16 (D.1 9 0) (nI vC)) 13 0 (nI (D.1 9 0 + 1))) H4 rfl (fun k _ => rfl)
  have N9 : LN d (up2 (up2 (up2 (up2 d4 14 (D.1 9 0) (nI vA)) 15 (D.1 9 0) (nI vB)) 16 (D.1 9 0) (nI vC)) 13 0 (nI (D.1 9 0 + 1))) := LN_c (LN_c (LN_c (LN_c N4 (by decide)) (by decide)) (by decide)) (by decide)
  have D9 : HD (up2 (up2 (up2 (up2 d4 14 (D.1 9 0) (nI vA)) 15 (D.1 9 0) (nI vB)) 16 (D.1 9 0) (nI vC)) 13 0 (nI (D.1 9 0 + 1))) (tl D.1 vA vB vC, D.2) := HD_S D4 vA vB vC
  have q9 : (up2 (up2 (up2 (up2 d4 14 (D.1 9 0) (nI vA)) 15 (D.1 9 0) (nI vB)) 16 (D.1 9 0) (nI vC)) 13 0 (nI (D.1 9 0 + 1))) 1 3 = d 1 3 := q4
  generalize up2 (up2 (up2 (up2 d4 14 (D.1 9 0) (nI vA)) 15 (D.1 9 0) (nI vB)) 16 (D.1 9 0) (nI vC)) 13 0 (nI (D.1 9 0 + 1)) = d9 at H9 N9 D9 q9 ⊢
  obtain ⟨t91, t92, t93, t94, t95⟩ := LT_f H9
  repeat refine x_s rfl rfl ?_
  refine x_cv (c_readSign d9 L (b := 59) hn hT (by decide) H9) rfl rfl rfl (by decide) rfl (by decide) rfl (Nat.le_of_ble_eq_true rfl) (by omega) (by decide) (by decide) ?_
  rintro rv _ hq
  rcases hq with ⟨hk, rfl, d10, rfl, F10, H10⟩ | ⟨hk, rfl, rfl⟩
  · refine x_iret rfl rfl rfl ⟨d10, rfl, LN_tr N9 (LN_LF F10), Or.inr ⟨rfl, r9, (tl D.1 vA vB vC, D.2), H10, HD_LF D9 F10, ⟨RG_tl dg.1 (show D.1 9 0 < 16 by omega) (show vA < 100 by omega) (show vB < D.1 0 0 by omega) hiC, dg.2⟩, (e3_LF F10).trans q9, ?_⟩⟩
    unfold lnSays
    rw [if_neg h10]
    simp only [tkn]
    rw [if_pos eA, if_pos eB, if_neg hp, if_pos eC]
    simp only [sgn]
    rw [if_pos hk]
  · refine x_iret rfl rfl rfl ⟨_, rfl, LN_fl N9, Or.inl ⟨rfl, (1, s9), FT_of (by decide) (by decide) (by omega), ?_⟩⟩
    unfold lnSays
    rw [if_neg h10]
    simp only [tkn]
    rw [if_pos eA, if_pos eB, if_neg hp, if_pos eC]
    simp only [sgn]
    rw [if_neg hk]
end
