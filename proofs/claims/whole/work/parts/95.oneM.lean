/-! THE MODEL reads lines: one, needle, says -/
abbrev DR (D : Dr) : Prop := RG (D.1, (none, none)) ∧ True
theorem FM_c {d : Nat → Nat → Int32} {f : Nat × Nat} {c k : Nat} {x : Int32} (H : FM d f) (hc : c ≠ 112) : FM (up2 d c k x) f := by
  unfold FM at H ⊢
  rw [up2_ne (fun z => hc z.symm)]
  exact H
theorem HDM_P {d : Nat → Nat → Int32} {D : Dr} {top x y z : Nat} (H : HDM d D top) (h1 : d 120 (D.1 0 0) = nI x) (h2 : d 121 (D.1 0 0) = nI y) (h3 : d 122 (D.1 0 0) = nI z) : HDM (up2 d 112 23 (nI (D.1 0 0 + 1))) (addP D.1 x y z, D.2) top := by
  obtain ⟨a1, a2, a3, a4, a5, a6, a7, a8, a9⟩ := H
  refine ⟨rfl, a2, a3, fun p hp => ?_, fun m hm => a5 m hm, fun s hs => a6 s hs, a7, RuM_e a8 rfl (fun i _ => rfl), RuM_e a9 rfl (fun i _ => rfl)⟩
  have hp' : p < D.1 0 0 + 1 := hp
  show d 120 p = nI (if p = D.1 0 0 then x else D.1 1 p) ∧ d 121 p = nI (if p = D.1 0 0 then y else D.1 2 p) ∧ d 122 p = nI (if p = D.1 0 0 then z else D.1 3 p)
  by_cases e : p = D.1 0 0
  · rw [if_pos e, if_pos e, if_pos e, e]
    exact ⟨h1, h2, h3⟩
  · rw [if_neg e, if_neg e, if_neg e]
    exact a4 p (by omega)
theorem HDM_N {d : Nat → Nat → Int32} {D : Dr} {top x y z u : Nat} (H : HDM d D top) (h1 : d 124 (49 + D.1 4 0) = nI x) (h2 : d 124 (55 + D.1 4 0) = nI y) (h3 : d 123 (D.1 4 0) = nI z) (h4 : d 124 (61 + D.1 4 0) = nI u) : HDM (up2 d 112 24 (nI (D.1 4 0 + 1))) (addN D.1 x y z u, D.2) top := by
  obtain ⟨a1, a2, a3, a4, a5, a6, a7, a8, a9⟩ := H
  refine ⟨a1, rfl, a3, fun p hp => a4 p hp, fun m hm => ?_, fun s hs => a6 s hs, a7, RuM_e a8 rfl (fun i _ => rfl), RuM_e a9 rfl (fun i _ => rfl)⟩
  have hm' : m < D.1 4 0 + 1 := hm
  show d 124 (49 + m) = nI (if m = D.1 4 0 then x else D.1 5 m) ∧ d 124 (55 + m) = nI (if m = D.1 4 0 then y else D.1 6 m) ∧ d 123 m = nI (if m = D.1 4 0 then z else D.1 7 m) ∧ d 124 (61 + m) = nI (if m = D.1 4 0 then u else D.1 8 m)
  by_cases e : m = D.1 4 0
  · rw [if_pos e, if_pos e, if_pos e, if_pos e, e]
    exact ⟨h1, h2, h3, h4⟩
  · rw [if_neg e, if_neg e, if_neg e, if_neg e]
    exact a5 m (by omega)
theorem HDM_S {d : Nat → Nat → Int32} {D : Dr} {top x y z : Nat} (H : HDM d D top) (h1 : d 124 (1 + D.1 9 0) = nI x) (h2 : d 124 (17 + D.1 9 0) = nI y) (h3 : d 124 (33 + D.1 9 0) = nI z) : HDM (up2 d 112 25 (nI (D.1 9 0 + 1))) (tl D.1 x y z, D.2) top := by
  obtain ⟨a1, a2, a3, a4, a5, a6, a7, a8, a9⟩ := H
  refine ⟨a1, a2, rfl, fun p hp => a4 p hp, fun m hm => a5 m hm, fun s hs => ?_, a7, RuM_e a8 rfl (fun i _ => rfl), RuM_e a9 rfl (fun i _ => rfl)⟩
  have hs' : s < D.1 9 0 + 1 := hs
  show d 124 (1 + s) = nI (if s = D.1 9 0 then x else D.1 10 s) ∧ d 124 (17 + s) = nI (if s = D.1 9 0 then y else D.1 11 s) ∧ d 124 (33 + s) = nI (if s = D.1 9 0 then z else D.1 12 s)
  by_cases e : s = D.1 9 0
  · rw [if_pos e, if_pos e, if_pos e, e]
    exact ⟨h1, h2, h3⟩
  · rw [if_neg e, if_neg e, if_neg e]
    exact a6 s (by omega)
section
variable (d : Nat → Nat → Int32) (L : Nat → Nat → Int64) {T : Nat → Nat} {n : Nat}
set_option maxRecDepth 100000 in
set_option maxHeartbeats 1600000 in
theorem k_readsOne {s top : Nat} {r : List Tk} {D : Dr} (hn : n ≤ 700) (hT : ∀ j, T j < 256) (H : MT d L T n ((s, 1, 9) :: r)) (D0 : HDM d D top) (dg : DR D) (g12 : d 112 12 = nI 0) (ht : top + 2 * (r.length + 1) ≤ 1402) : Cn mX12_readsOne false 5 0 0 [.ref 112] (W0 d L) (qNl T n d L top r.length (lnOne s r D)) := by
  obtain ⟨f1, f2, f3, f4, f5, f6⟩ := MT_f H
  have cb := dg.1.1
  have r4 := dg.1.2.1
  have r9 := dg.1.2.2.1
  simp only at cb r4 r9
  refine Cn.intro gX12_readsOne rfl (Nat.le_of_ble_eq_true rfl) rfl ?_
  repeat refine x_s rfl rfl ?_
  rw [D0.1]
  by_cases h10 : 10 ≤ D.1 0 0
  · have e10 : D.1 0 0 = 10 := by omega
    rw [e10]
    refine x_br rfl rfl (fun c => absurd c (fun z => z rfl)) (fun c => ?_)
    repeat refine x_s rfl rfl ?_
    refine x_cv (k_wrong d L g12 _) rfl rfl rfl (by decide) rfl (by decide) rfl (Nat.le_of_ble_eq_true rfl) (by decide) (by decide) (by decide) ?_
    rintro _ _ ⟨rfl, rfl⟩
    rw [f1]
    have z : up2 (up2 d 112 12 2) 112 13 (nI s) 112 12 = nI 2 := rfl
    repeat refine x_s rfl rfl ?_
    refine x_cv (k_isGood (up2 (up2 d 112 12 2) 112 13 (nI s)) L z (by decide)) rfl rfl rfl (by decide) rfl (by decide) rfl (Nat.le_of_ble_eq_true rfl) (by decide) (by decide) (by decide) ?_
    rintro _ _ ⟨rfl, rfl⟩
    refine x_br rfl rfl (fun c => absurd c (fun z => z rfl)) (fun c => ?_)
    refine x_vret rfl rfl ⟨rfl, _, L, rfl, NF_f (NF_f NF_rfl (by omega)) (by omega), ML_rfl, Or.inl ⟨(2, s), FM_of (by decide) (by decide) (by omega), ?_⟩⟩
    unfold lnOne
    rw [if_pos h10]
  refine x_br rfl rfl (fun c => ?_) (fun c => absurd c (fun z => absurd ((nI_eq (a := D.1 0 0) (b := 10) (by omega) (by decide)).mp z) (by omega)))
  repeat refine x_s rfl rfl ?_
  refine x_cv (k_isGood d L g12 (by decide)) rfl rfl rfl (by decide) rfl (by decide) rfl (Nat.le_of_ble_eq_true rfl) (by decide) (by decide) (by decide) ?_
  rintro _ _ ⟨rfl, rfl⟩
  refine x_br rfl rfl (fun c => ?_) (fun c => absurd c (fun z => absurd z (by decide)))
  repeat refine x_s rfl rfl ?_
  refine x_cv (k_goes d L hn hT H (by decide)) rfl rfl rfl (by decide) rfl (by decide) rfl (Nat.le_of_ble_eq_true rfl) (by decide) (by decide) (by decide) ?_
  rintro _ _ ⟨rfl, d1, L1, rfl, F1, m1, M1⟩
  have N1 := NF_MF F1
  have D1 := HDM_MF D0 F1
  have g1 : d1 112 12 = nI 0 := (F1.2 12 (by decide)).trans g12
  have ec : d1 112 23 = nI (D.1 0 0) := D1.1
  obtain ⟨sA, kA, vA, rA, rfl⟩ := MT_ne M1
  obtain ⟨fA1, fA2, fA3, fA4, fA5, fA6⟩ := MT_f M1
  simp only [List.length_cons] at ht
  repeat refine x_s rfl rfl ?_
  rw [ec]
  refine x_cv (k_number d1 L1 (lo := 0) (hi := 40) hn hT (by decide) (by decide) M1 g1) rfl rfl rfl (by decide) rfl (by decide) rfl (Nat.le_of_ble_eq_true rfl) (by omega) (by decide) (by decide) ?_
  rintro rv _ hq
  rcases hq with ⟨eA, rfl, d2, L2, rfl, F2, m2, M2⟩ | ⟨eA, rfl, rfl⟩
  rotate_left
  · have nb := nmF_b 0 40 kA vA
    refine x_iast rfl rfl (k := D.1 0 0) (rfl) (by omega) (by decide) rfl ?_
    have z : up2 (up2 (up2 d1 112 12 (nI (nmF 0 40 kA vA))) 112 13 (nI sA)) 120 (D.1 0 0) 0 112 12 = nI (nmF 0 40 kA vA) := rfl
    repeat refine x_s rfl rfl ?_
    refine x_cv (k_numberHereB (up2 (up2 (up2 d1 112 12 (nI (nmF 0 40 kA vA))) 112 13 (nI sA)) 120 (D.1 0 0) 0) L1 z eA (by omega)) rfl rfl rfl (by decide) rfl (by decide) rfl (Nat.le_of_ble_eq_true rfl) (by omega) (by decide) (by decide) ?_
    rintro _ _ ⟨rfl, rfl⟩
    refine x_br rfl rfl (fun c => absurd c (fun z => z rfl)) (fun c => ?_)
    refine x_vret rfl rfl ⟨rfl, _, L1, rfl, NF_c (NF_f (NF_f N1 (by omega)) (by omega)) (by decide), m1, Or.inl ⟨(nmF 0 40 kA vA, sA), FM_c (FM_of eA (by omega) (by omega)) (by decide), ?_⟩⟩
    unfold lnOne
    rw [if_neg h10]
    simp only [tkn]
    rw [if_neg (by omega)]
  obtain ⟨rfl, loA, hiA⟩ := nmF_0 eA
  refine x_iast rfl rfl (k := D.1 0 0) (rfl) (by omega) (by decide) rfl ?_
  have N3 : NF d (up2 d2 120 (D.1 0 0) (nI vA)) := NF_c (NF_tr N1 (NF_MF F2)) (by decide)
  have D3 : HDM (up2 d2 120 (D.1 0 0) (nI vA)) D top := HDM_p (HDM_MF D1 F2) (Or.inl rfl) (Nat.le_refl _)
  have M3 : MT (up2 d2 120 (D.1 0 0) (nI vA)) L2 T n rA := MT_c1 M2 (by decide)
  have g3 : up2 d2 120 (D.1 0 0) (nI vA) 112 12 = nI 0 := (F2.2 12 (by decide)).trans g1
  have x3 : up2 d2 120 (D.1 0 0) (nI vA) 120 (D.1 0 0) = nI vA := up2_eq
  have m12 : ML L L2 := ML_tr m1 m2
  refine (show Ex _ _ _ _ _ _ _ _ (W0 (up2 d2 120 (D.1 0 0) (nI vA)) L2) _ _ from ?_)
  generalize up2 d2 120 (D.1 0 0) (nI vA) = d3 at N3 D3 M3 g3 x3 ⊢
  obtain ⟨sB, kB, vB, rB, rfl⟩ := MT_ne M3
  obtain ⟨fB1, fB2, fB3, fB4, fB5, eL, fB6, fB7, fB8, fB9⟩ := MT_f M3
  simp only [List.length_cons] at ht
  repeat refine x_s rfl rfl ?_
  refine x_cv (k_numberHere d3 L2 (lo := 0) (hi := 40) hn (by decide) (by decide) M3 g3) rfl rfl rfl (by decide) rfl (by decide) rfl (Nat.le_of_ble_eq_true rfl) (by omega) (by decide) (by decide) ?_
  rintro rv _ hq
  rcases hq with ⟨eB, rfl, rfl⟩ | ⟨eB, rfl, rfl⟩
  rotate_left
  · have nb := nmF_b 0 40 kB vB
    refine x_br rfl rfl (fun c => absurd c (fun z => z rfl)) (fun c => ?_)
    refine x_vret rfl rfl ⟨rfl, _, L2, rfl, NF_f (NF_f N3 (by omega)) (by omega), m12, Or.inl ⟨(nmF 0 40 kB vB, sB), FM_of eB (by omega) (by omega), ?_⟩⟩
    unfold lnOne
    rw [if_neg h10]
    simp only [tkn]
    rw [if_pos eA, if_neg (by omega)]
  refine x_br rfl rfl (fun c => ?_) (fun c => absurd c (fun z => absurd z (by decide)))
  obtain ⟨rfl, loB', hiB'⟩ := nmF_0 eB
  have v3 : d3 112 20 = nI vB := by
    rcases fB8 rfl with ⟨a1, a2⟩ | ⟨a1, a2, a3⟩
    · omega
    · exact a3
  have hxy : ∀ j, j < D.1 0 0 → d3 120 j = nI (D.1 1 j) ∧ d3 121 j = nI (D.1 2 j) := fun j hj => ⟨(D3.2.2.2.1 j hj).1, (D3.2.2.2.1 j hj).2.1⟩
  have hbd : ∀ j, j < D.1 0 0 → D.1 1 j ≤ 40 ∧ D.1 2 j ≤ 40 := fun j hj => ⟨(dg.1.2.2.2.1 j hj).1, (dg.1.2.2.2.1 j hj).2.1⟩
  have good : aF (fun i => decide (D.1 1 i = vA) && decide (D.1 2 i = vB)) (D.1 0 0) = false → ∀ {o}, Ex mX12_readsOne false 5 0 0 108 [some (.ref 112), some (.int (nI (D.1 0 0))), o] [] (W0 d3 L2) (qNl T n d L top (rB.length + 1 + 1) (lnOne s ((sA, 2, vA) :: (sB, 2, vB) :: rB) D)) nX := by
    intro ha o
    repeat refine x_s rfl rfl ?_
    refine x_cv (k_isGood d3 L2 g3 (by decide)) rfl rfl rfl (by decide) rfl (by decide) rfl (Nat.le_of_ble_eq_true rfl) (by decide) (by decide) (by decide) ?_
    rintro _ _ ⟨rfl, rfl⟩
    refine x_br rfl rfl (fun c => ?_) (fun c => absurd c (fun z => absurd z (by decide)))
    repeat refine x_s rfl rfl ?_
    rw [v3]
    refine x_iast rfl rfl (k := D.1 0 0) (rfl) (by omega) (by decide) rfl ?_
    have N4 : NF d (up2 d3 121 (D.1 0 0) (nI vB)) := NF_c N3 (by decide)
    have D4 : HDM (up2 d3 121 (D.1 0 0) (nI vB)) D top := HDM_p D3 (by simp) (Nat.le_refl _)
    have M4 : MT (up2 d3 121 (D.1 0 0) (nI vB)) L2 T n ((sB, 2, vB) :: rB) := MT_c1 M3 (by decide)
    have g4 : up2 d3 121 (D.1 0 0) (nI vB) 112 12 = nI 0 := g3
    have x4 : up2 d3 121 (D.1 0 0) (nI vB) 120 (D.1 0 0) = nI vA := x3
    have y4 : up2 d3 121 (D.1 0 0) (nI vB) 121 (D.1 0 0) = nI vB := up2_eq
    refine (show Ex _ _ _ _ _ _ _ _ (W0 (up2 d3 121 (D.1 0 0) (nI vB)) L2) _ _ from ?_)
    generalize up2 d3 121 (D.1 0 0) (nI vB) = d4 at N4 D4 M4 g4 x4 y4 ⊢
    repeat refine x_s rfl rfl ?_
    refine x_cv (k_goes d4 L2 hn hT M4 (by decide)) rfl rfl rfl (by decide) rfl (by decide) rfl (Nat.le_of_ble_eq_true rfl) (by omega) (by decide) (by decide) ?_
    rintro _ _ ⟨rfl, d5, L5, rfl, F5, m5, M5⟩
    have D5 := HDM_MF D4 F5
    have N5 := NF_tr N4 (NF_MF F5)
    have g5 : d5 112 12 = nI 0 := (F5.2 12 (by decide)).trans g4
    obtain ⟨sC, kC, vC, rC, rfl⟩ := MT_ne M5
    obtain ⟨fC1, fC2, fC3, fC4, fC5, fC6⟩ := MT_f M5
    simp only [List.length_cons] at ht
    repeat refine x_s rfl rfl ?_
    refine x_cv (k_number d5 L5 (lo := 0) (hi := 9) hn hT (by decide) (by decide) M5 g5) rfl rfl rfl (by decide) rfl (by decide) rfl (Nat.le_of_ble_eq_true rfl) (by omega) (by decide) (by decide) ?_
    rintro rv _ hq
    rcases hq with ⟨eC, rfl, d6, L6, rfl, F6, m6, M6⟩ | ⟨eC, rfl, rfl⟩
    rotate_left
    · have nb := nmF_b 0 9 kC vC
      refine x_iast rfl rfl (k := D.1 0 0) (rfl) (by omega) (by decide) rfl ?_
      have z : up2 (up2 (up2 d5 112 12 (nI (nmF 0 9 kC vC))) 112 13 (nI sC)) 122 (D.1 0 0) 0 112 12 = nI (nmF 0 9 kC vC) := rfl
      repeat refine x_s rfl rfl ?_
      refine x_cv (k_isGood (up2 (up2 (up2 d5 112 12 (nI (nmF 0 9 kC vC))) 112 13 (nI sC)) 122 (D.1 0 0) 0) L5 z (by omega)) rfl rfl rfl (by decide) rfl (by decide) rfl (Nat.le_of_ble_eq_true rfl) (by decide) (by decide) (by decide) ?_
      rintro _ _ ⟨rfl, rfl⟩
      rw [decide_eq_false (by omega)]
      refine x_br rfl rfl (fun c => ?_) (fun c => absurd c (fun z => z rfl))
      refine x_vret rfl rfl ⟨rfl, _, L5, rfl, NF_c (NF_f (NF_f N5 (by omega)) (by omega)) (by decide), ML_tr m12 m5, Or.inl ⟨(nmF 0 9 kC vC, sC), FM_c (FM_of eC (by omega) (by omega)) (by decide), ?_⟩⟩
      unfold lnOne
      rw [if_neg h10]
      simp only [tkn]
      rw [if_pos eA, if_pos eB, if_neg (by rw [ha]; decide), if_neg (by omega)]
    · refine x_iast rfl rfl (k := D.1 0 0) (rfl) (by omega) (by decide) rfl ?_
      have N7 : NF d (up2 d6 122 (D.1 0 0) (nI vC)) := NF_c (NF_tr N5 (NF_MF F6)) (by decide)
      have D7 : HDM (up2 d6 122 (D.1 0 0) (nI vC)) D top := HDM_p (HDM_MF D5 F6) (by simp) (Nat.le_refl _)
      have M7 : MT (up2 d6 122 (D.1 0 0) (nI vC)) L6 T n rC := MT_c1 M6 (by decide)
      have g7 : up2 d6 122 (D.1 0 0) (nI vC) 112 12 = nI 0 := (F6.2 12 (by decide)).trans g5
      have x7 : up2 d6 122 (D.1 0 0) (nI vC) 120 (D.1 0 0) = nI vA := by rw [up2_ne (by decide), F6.1 120 (by decide), F5.1 120 (by decide)]; exact x4
      have y7 : up2 d6 122 (D.1 0 0) (nI vC) 121 (D.1 0 0) = nI vB := by rw [up2_ne (by decide), F6.1 121 (by decide), F5.1 121 (by decide)]; exact y4
      have z7 : up2 d6 122 (D.1 0 0) (nI vC) 122 (D.1 0 0) = nI vC := up2_eq
      refine (show Ex _ _ _ _ _ _ _ _ (W0 (up2 d6 122 (D.1 0 0) (nI vC)) L6) _ _ from ?_)
      generalize up2 d6 122 (D.1 0 0) (nI vC) = d7 at N7 D7 M7 g7 x7 y7 z7 ⊢
      repeat refine x_s rfl rfl ?_
      refine x_cv (k_isGood d7 L6 g7 (by decide)) rfl rfl rfl (by decide) rfl (by decide) rfl (Nat.le_of_ble_eq_true rfl) (by decide) (by decide) (by decide) ?_
      rintro _ _ ⟨rfl, rfl⟩
      refine x_br rfl rfl (fun c => absurd c (by decide)) (fun c => ?_)
      repeat refine x_s rfl rfl ?_
      refine x_put rfl rfl (by decide) rfl ⟨rfl, rfl⟩ (Or.inl rfl) ?_
      have e : d7 112 23 + 1 = nI (D.1 0 0 + 1) := by rw [D7.1, nI_1]
      rw [e]
      refine x_vret rfl rfl ⟨rfl, _, L6, rfl, NF_f N7 (by omega), ML_tr m12 (ML_tr m5 m6), Or.inr ⟨rC, (addP D.1 vA vB vC, D.2), top, MT_f1 M7 (by omega), HDM_P D7 x7 y7 z7, g7, by omega, by simp only [List.length_cons]; omega, ?_⟩⟩
      unfold lnOne
      rw [if_neg h10]
      simp only [tkn]
      rw [if_pos eA, if_pos eB, if_neg (by rw [ha]; decide), if_pos eC]
  have lp : ∀ j, j ≤ D.1 0 0 → aF (fun i => decide (D.1 1 i = vA) && decide (D.1 2 i = vB)) j = false → Ex mX12_readsOne false 5 0 0 57 [some (.ref 112), some (.int (nI (D.1 0 0))), some (.int (nI j))] [] (W0 d3 L2) (qNl T n d L top (rB.length + 1 + 1) (lnOne s ((sA, 2, vA) :: (sB, 2, vB) :: rB) D)) nX := by
    refine x_down _ ?_ ?_
    · intro ha
      repeat refine x_s rfl rfl ?_
      refine x_br rfl rfl (fun c => ?_) (fun c => absurd c (fun z => z (Int32.le_refl _)))
      exact good ha
    · intro j hj ih ha
      have next : (decide (D.1 1 j = vA) && decide (D.1 2 j = vB)) = false → aF (fun i => decide (D.1 1 i = vA) && decide (D.1 2 i = vB)) (j + 1) = false := fun z => by
        rw [aF, ha, Bool.false_or]
        exact z
      obtain ⟨u1, u2⟩ := hxy j hj
      obtain ⟨w1, w2⟩ := hbd j hj
      repeat refine x_s rfl rfl ?_
      refine x_br rfl rfl (fun c => absurd c (nI_ge hj (by omega))) (fun c => ?_)
      repeat refine x_s rfl rfl ?_
      refine x_cv (k_isGood d3 L2 g3 (by decide)) rfl rfl rfl (by decide) rfl (by decide) rfl (Nat.le_of_ble_eq_true rfl) (by decide) (by decide) (by decide) ?_
      rintro _ _ ⟨rfl, rfl⟩
      refine x_br rfl rfl (fun c => absurd c (by decide)) (fun c => ?_)
      repeat refine x_s rfl rfl ?_
      refine x_ald rfl rfl rfl (k := j) (rfl) (by omega) (by decide) rfl ?_
      rw [u1]
      repeat refine x_s rfl rfl ?_
      refine x_ald rfl rfl rfl (k := D.1 0 0) (rfl) (by omega) (by decide) rfl ?_
      rw [x3]
      by_cases h1 : D.1 1 j = vA
      rotate_left
      · refine x_br rfl rfl (fun c => ?_) (fun c => absurd c (fun z => h1 ((nI_eq (by omega) (by omega)).mp z)))
        iterate 2 refine x_s rfl rfl ?_
        rw [nI_1]
        exact ih (next (by rw [decide_eq_false h1]; rfl))
      refine x_br rfl rfl (fun c => absurd c (fun z => z (congrArg nI h1))) (fun c => ?_)
      repeat refine x_s rfl rfl ?_
      refine x_ald rfl rfl rfl (k := j) (rfl) (by omega) (by decide) rfl ?_
      rw [u2]
      repeat refine x_s rfl rfl ?_
      rw [v3]
      by_cases h2 : D.1 2 j = vB
      rotate_left
      · refine x_br rfl rfl (fun c => ?_) (fun c => absurd c (fun z => h2 ((nI_eq (by omega) (by omega)).mp z)))
        iterate 2 refine x_s rfl rfl ?_
        rw [nI_1]
        exact ih (next (by rw [decide_eq_false h2, Bool.and_false]))
      refine x_br rfl rfl (fun c => absurd c (fun z => z (congrArg nI h2))) (fun c => ?_)
      repeat refine x_s rfl rfl ?_
      refine x_cv (k_wrong d3 L2 g3 _) rfl rfl rfl (by decide) rfl (by decide) rfl (Nat.le_of_ble_eq_true rfl) (by decide) (by decide) (by decide) ?_
      rintro _ _ ⟨rfl, rfl⟩
      rw [fB1]
      have z : up2 (up2 d3 112 12 4) 112 13 (nI sB) 112 12 = nI 4 := rfl
      iterate 2 refine x_s rfl rfl ?_
      rw [nI_1]
      /- a fault: the loop ends -/
      have out : Ex mX12_readsOne false 5 0 0 108 [some (.ref 112), some (.int (nI (D.1 0 0))), some (.int (nI (j + 1)))] [] (W0 (up2 (up2 d3 112 12 4) 112 13 (nI sB)) L2) (qNl T n d L top (rB.length + 1 + 1) (lnOne s ((sA, 2, vA) :: (sB, 2, vB) :: rB) D)) nX := by
        repeat refine x_s rfl rfl ?_
        refine x_cv (k_isGood (up2 (up2 d3 112 12 4) 112 13 (nI sB)) L2 z (by decide)) rfl rfl rfl (by decide) rfl (by decide) rfl (Nat.le_of_ble_eq_true rfl) (by decide) (by decide) (by decide) ?_
        rintro _ _ ⟨rfl, rfl⟩
        refine x_br rfl rfl (fun c => absurd c (fun z => z rfl)) (fun c => ?_)
        refine x_vret rfl rfl ⟨rfl, _, L2, rfl, NF_f (NF_f N3 (by omega)) (by omega), m12, Or.inl ⟨(4, sB), FM_of (by decide) (by decide) (by omega), ?_⟩⟩
        unfold lnOne
        rw [if_neg h10]
        simp only [tkn]
        rw [if_pos eA, if_pos eB, if_pos (aF_iff.mpr ⟨j, hj, by rw [decide_eq_true h1, decide_eq_true h2]; rfl⟩)]
      repeat refine x_s rfl rfl ?_
      refine x_br rfl rfl (fun q => ?_) (fun q => ?_)
      · exact out
      · repeat refine x_s rfl rfl ?_
        refine x_cv (k_isGood (up2 (up2 d3 112 12 4) 112 13 (nI sB)) L2 z (by decide)) rfl rfl rfl (by decide) rfl (by decide) rfl (Nat.le_of_ble_eq_true rfl) (by decide) (by decide) (by decide) ?_
        rintro _ _ ⟨rfl, rfl⟩
        refine x_br rfl rfl (fun c => ?_) (fun c => absurd c (fun z => z rfl))
        exact out
  iterate 2 refine x_s rfl rfl ?_
  exact lp 0 (Nat.zero_le _) rfl
end
