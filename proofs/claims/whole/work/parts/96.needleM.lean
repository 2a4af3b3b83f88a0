/-! THE MODEL reads lines: needle, says -/
section
variable (d : Nat → Nat → Int32) (L : Nat → Nat → Int64) {T : Nat → Nat} {n : Nat}
set_option maxRecDepth 100000 in
set_option maxHeartbeats 1600000 in
theorem k_readsNeedle {s top : Nat} {r : List Tk} {D : Dr} (hn : n ≤ 700) (hT : ∀ j, T j < 256) (H : MT d L T n ((s, 1, 10) :: r)) (D0 : HDM d D top) (dg : DR D) (g12 : d 112 12 = nI 0) (ht : top + 2 * (r.length + 1) ≤ 1402) : Cn mX12_readsNeedle false 5 0 0 [.ref 112] (W0 d L) (qNl T n d L top r.length (lnNeedle s r D)) := by
  obtain ⟨f1, f2, f3, f4, f5, f6⟩ := MT_f H
  have cb := dg.1.2.1
  have r4 := dg.1.2.1
  have r9 := dg.1.2.2.1
  simp only at cb r4 r9
  refine Cn.intro gX12_readsNeedle rfl (Nat.le_of_ble_eq_true rfl) rfl ?_
  repeat refine x_s rfl rfl ?_
  rw [D0.2.1]
  by_cases h10 : 6 ≤ D.1 4 0
  · have e10 : D.1 4 0 = 6 := by omega
    rw [e10]
    refine x_br rfl rfl (fun c => absurd c (fun z => z rfl)) (fun c => ?_)
    repeat refine x_s rfl rfl ?_
    refine x_cv (k_wrong d L g12 _) rfl rfl rfl (by decide) rfl (by decide) rfl (Nat.le_of_ble_eq_true rfl) (by decide) (by decide) (by decide) ?_
    rintro _ _ ⟨rfl, rfl⟩
    rw [f1]
    have z : up2 (up2 d 112 12 2) 112 13 (nI s) 112 12 = nI 2 := rfl
    repeat refine x_s rfl rfl ?_
    refine x_cv (k_isGood (up2 (up2 d 112 12 2) 112 13 (nI s)) L z (by decide)) rfl rfl rfl (by decide) rfl (by decide) rfl (Nat.le_of_ble_eq_true rfl) (by decide) (by decide) (by decide) ?_
    rintro _ _ ⟨rfl, rfl⟩
    refine x_br rfl rfl (fun c => absurd c (fun z => z rfl)) (fun c => ?_)
    refine x_vret rfl rfl ⟨rfl, _, L, rfl, NF_f (NF_f NF_rfl (by omega)) (by omega), ML_rfl, Or.inl ⟨(2, s), FM_of (by decide) (by decide) (by omega), ?_⟩⟩
    unfold lnNeedle
    rw [if_pos h10]
  refine x_br rfl rfl (fun c => ?_) (fun c => absurd c (fun z => absurd ((nI_eq (a := D.1 4 0) (b := 6) (by omega) (by decide)).mp z) (by omega)))
  repeat refine x_s rfl rfl ?_
  refine x_cv (k_isGood d L g12 (by decide)) rfl rfl rfl (by decide) rfl (by decide) rfl (Nat.le_of_ble_eq_true rfl) (by decide) (by decide) (by decide) ?_
  rintro _ _ ⟨rfl, rfl⟩
  refine x_br rfl rfl (fun c => ?_) (fun c => absurd c (fun z => absurd z (by decide)))
  repeat refine x_s rfl rfl ?_
  refine x_cv (k_goes d L hn hT H (by decide)) rfl rfl rfl (by decide) rfl (by decide) rfl (Nat.le_of_ble_eq_true rfl) (by decide) (by decide) (by decide) ?_
  rintro _ _ ⟨rfl, d1, L1, rfl, F1, m1, M1⟩
  have N1 := NF_MF F1
  have D1 := HDM_MF D0 F1
  have g1 : d1 112 12 = nI 0 := (F1.2 12 (by decide)).trans g12
  have ec : d1 112 24 = nI (D.1 4 0) := D1.2.1
  obtain ⟨sA, kA, vA, rA, rfl⟩ := MT_ne M1
  obtain ⟨fA1, fA2, fA3, fA4, fA5, fA6⟩ := MT_f M1
  simp only [List.length_cons] at ht
  repeat refine x_s rfl rfl ?_
  rw [ec]
  rw [show (49 : Int32) + nI (D.1 4 0) = nI (49 + D.1 4 0) from nI_add 49 _]
  refine x_cv (k_number d1 L1 (lo := 0) (hi := 40) hn hT (by decide) (by decide) M1 g1) rfl rfl rfl (by decide) rfl (by decide) rfl (Nat.le_of_ble_eq_true rfl) (by omega) (by decide) (by decide) ?_
  rintro rv _ hq
  rcases hq with ⟨eA, rfl, d2, L2, rfl, F2, m2, M2⟩ | ⟨eA, rfl, rfl⟩
  rotate_left
  · have nb := nmF_b 0 40 kA vA
    refine x_iast rfl rfl (k := 49 + D.1 4 0) (rfl) (by omega) (by decide) rfl ?_
    have z : up2 (up2 (up2 d1 112 12 (nI (nmF 0 40 kA vA))) 112 13 (nI sA)) 124 (49 + D.1 4 0) 0 112 12 = nI (nmF 0 40 kA vA) := rfl
    repeat refine x_s rfl rfl ?_
    refine x_cv (k_numberHereB (up2 (up2 (up2 d1 112 12 (nI (nmF 0 40 kA vA))) 112 13 (nI sA)) 124 (49 + D.1 4 0) 0) L1 z eA (by omega)) rfl rfl rfl (by decide) rfl (by decide) rfl (Nat.le_of_ble_eq_true rfl) (by omega) (by decide) (by decide) ?_
    rintro _ _ ⟨rfl, rfl⟩
    refine x_br rfl rfl (fun c => absurd c (fun z => z rfl)) (fun c => ?_)
    refine x_vret rfl rfl ⟨rfl, _, L1, rfl, NF_c (NF_f (NF_f N1 (by omega)) (by omega)) (by decide), m1, Or.inl ⟨(nmF 0 40 kA vA, sA), FM_c (FM_of eA (by omega) (by omega)) (by decide), ?_⟩⟩
    unfold lnNeedle
    rw [if_neg h10]
    simp only [tkn]
    rw [if_neg (by omega)]
  obtain ⟨rfl, loA, hiA⟩ := nmF_0 eA
  refine x_iast rfl rfl (k := 49 + D.1 4 0) (rfl) (by omega) (by decide) rfl ?_
  have N3 : NF d (up2 d2 124 (49 + D.1 4 0) (nI vA)) := NF_c (NF_tr N1 (NF_MF F2)) (by decide)
  have D3 : HDM (up2 d2 124 (49 + D.1 4 0) (nI vA)) D top := HDM_w (HDM_MF D1 F2) (fun m hm => by omega) (fun s hs => by omega)
  have M3 : MT (up2 d2 124 (49 + D.1 4 0) (nI vA)) L2 T n rA := MT_c1 M2 (by decide)
  have g3 : up2 d2 124 (49 + D.1 4 0) (nI vA) 112 12 = nI 0 := (F2.2 12 (by decide)).trans g1
  have x3 : up2 d2 124 (49 + D.1 4 0) (nI vA) 124 (49 + D.1 4 0) = nI vA := up2_eq
  have m12 : ML L L2 := ML_tr m1 m2
  refine (show Ex _ _ _ _ _ _ _ _ (W0 (up2 d2 124 (49 + D.1 4 0) (nI vA)) L2) _ _ from ?_)
  generalize up2 d2 124 (49 + D.1 4 0) (nI vA) = d3 at N3 D3 M3 g3 x3 ⊢
  obtain ⟨sB, kB, vB, rB, rfl⟩ := MT_ne M3
  obtain ⟨fB1, fB2, fB3, fB4, fB5, eL, fB6, fB7, fB8, fB9⟩ := MT_f M3
  simp only [List.length_cons] at ht
  repeat refine x_s rfl rfl ?_
  refine x_cv (k_numberHere d3 L2 (lo := 0) (hi := 40) hn (by decide) (by decide) M3 g3) rfl rfl rfl (by decide) rfl (by decide) rfl (Nat.le_of_ble_eq_true rfl) (by omega) (by decide) (by decide) ?_
  rintro rv _ hq
  rcases hq with ⟨eB, rfl, rfl⟩ | ⟨eB, rfl, rfl⟩
  rotate_left
  · have nb := nmF_b 0 40 kB vB
    refine x_br rfl rfl (fun c => absurd c (fun z => z rfl)) (fun c => ?_)
    refine x_vret rfl rfl ⟨rfl, _, L2, rfl, NF_f (NF_f N3 (by omega)) (by omega), m12, Or.inl ⟨(nmF 0 40 kB vB, sB), FM_of eB (by omega) (by omega), ?_⟩⟩
    unfold lnNeedle
    rw [if_neg h10]
    simp only [tkn]
    rw [if_pos eA, if_neg (by omega)]
  refine x_br rfl rfl (fun c => ?_) (fun c => absurd c (fun z => absurd z (by decide)))
  obtain ⟨rfl, loB', hiB'⟩ := nmF_0 eB
  have v3 : d3 112 20 = nI vB := by
    rcases fB8 rfl with ⟨a1, a2⟩ | ⟨a1, a2, a3⟩
    · omega
    · exact a3
  have hxy : ∀ j, j < D.1 4 0 → d3 124 (49 + j) = nI (D.1 5 j) ∧ d3 124 (55 + j) = nI (D.1 6 j) := fun j hj => ⟨(D3.2.2.2.2.1 j hj).1, (D3.2.2.2.2.1 j hj).2.1⟩
  have hbd : ∀ j, j < D.1 4 0 → D.1 5 j ≤ 40 ∧ D.1 6 j ≤ 40 := fun j hj => ⟨(dg.1.2.2.2.2.1 j hj).1, (dg.1.2.2.2.2.1 j hj).2.1⟩
  have good : aF (fun i => decide (D.1 5 i = vA) && decide (D.1 6 i = vB)) (D.1 4 0) = false → ∀ {o}, Ex mX12_readsNeedle false 5 0 0 120 [some (.ref 112), some (.int (nI (D.1 4 0))), o] [] (W0 d3 L2) (qNl T n d L top (rB.length + 1 + 1) (lnNeedle s ((sA, 2, vA) :: (sB, 2, vB) :: rB) D)) nX := by
    intro ha o
    repeat refine x_s rfl rfl ?_
    refine x_cv (k_isGood d3 L2 g3 (by decide)) rfl rfl rfl (by decide) rfl (by decide) rfl (Nat.le_of_ble_eq_true rfl) (by decide) (by decide) (by decide) ?_
    rintro _ _ ⟨rfl, rfl⟩
    refine x_br rfl rfl (fun c => ?_) (fun c => absurd c (fun z => absurd z (by decide)))
    repeat refine x_s rfl rfl ?_
    rw [v3]
    rw [show (55 : Int32) + nI (D.1 4 0) = nI (55 + D.1 4 0) from nI_add 55 _]
    refine x_iast rfl rfl (k := 55 + D.1 4 0) (rfl) (by omega) (by decide) rfl ?_
    have N4 : NF d (up2 d3 124 (55 + D.1 4 0) (nI vB)) := NF_c N3 (by decide)
    have D4 : HDM (up2 d3 124 (55 + D.1 4 0) (nI vB)) D top := HDM_w D3 (fun m hm => by omega) (fun s hs => by omega)
    have M4 : MT (up2 d3 124 (55 + D.1 4 0) (nI vB)) L2 T n ((sB, 2, vB) :: rB) := MT_c1 M3 (by decide)
    have g4 : up2 d3 124 (55 + D.1 4 0) (nI vB) 112 12 = nI 0 := g3
    have x4 : up2 d3 124 (55 + D.1 4 0) (nI vB) 124 (49 + D.1 4 0) = nI vA := (up2_k (by omega)).trans x3
    have y4 : up2 d3 124 (55 + D.1 4 0) (nI vB) 124 (55 + D.1 4 0) = nI vB := up2_eq
    refine (show Ex _ _ _ _ _ _ _ _ (W0 (up2 d3 124 (55 + D.1 4 0) (nI vB)) L2) _ _ from ?_)
    generalize up2 d3 124 (55 + D.1 4 0) (nI vB) = d4 at N4 D4 M4 g4 x4 y4 ⊢
    repeat refine x_s rfl rfl ?_
    refine x_cv (k_goes d4 L2 hn hT M4 (by decide)) rfl rfl rfl (by decide) rfl (by decide) rfl (Nat.le_of_ble_eq_true rfl) (by omega) (by decide) (by decide) ?_
    rintro _ _ ⟨rfl, d5, L5, rfl, F5, m5, M5⟩
    have D5 := HDM_MF D4 F5
    have N5 := NF_tr N4 (NF_MF F5)
    have g5 : d5 112 12 = nI 0 := (F5.2 12 (by decide)).trans g4
    obtain ⟨sC, kC, vC, rC, rfl⟩ := MT_ne M5
    obtain ⟨fC1, fC2, fC3, fC4, fC5, fC6⟩ := MT_f M5
    simp only [List.length_cons] at ht
    repeat refine x_s rfl rfl ?_
    refine x_cv (k_number d5 L5 (lo := 1) (hi := 60) hn hT (by decide) (by decide) M5 g5) rfl rfl rfl (by decide) rfl (by decide) rfl (Nat.le_of_ble_eq_true rfl) (by omega) (by decide) (by decide) ?_
    rintro rv _ hq
    rcases hq with ⟨eC, rfl, d6, L6, rfl, F6, m6, M6⟩ | ⟨eC, rfl, rfl⟩
    rotate_left
    · have nb := nmF_b 1 60 kC vC
      refine x_iast rfl rfl (k := D.1 4 0) (rfl) (by omega) (by decide) rfl ?_
      have z : up2 (up2 (up2 d5 112 12 (nI (nmF 1 60 kC vC))) 112 13 (nI sC)) 123 (D.1 4 0) 0 112 12 = nI (nmF 1 60 kC vC) := rfl
      repeat refine x_s rfl rfl ?_
      rw [show (61 : Int32) + nI (D.1 4 0) = nI (61 + D.1 4 0) from nI_add 61 _]
      refine x_cv (k_numberB (up2 (up2 (up2 d5 112 12 (nI (nmF 1 60 kC vC))) 112 13 (nI sC)) 123 (D.1 4 0) 0) L5 z eC (by omega)) rfl rfl rfl (by decide) rfl (by decide) rfl (Nat.le_of_ble_eq_true rfl) (by omega) (by decide) (by decide) ?_
      rintro _ _ ⟨rfl, rfl⟩
      refine x_iast rfl rfl (k := 61 + D.1 4 0) (rfl) (by omega) (by decide) rfl ?_
      have z2 : up2 (up2 (up2 (up2 d5 112 12 (nI (nmF 1 60 kC vC))) 112 13 (nI sC)) 123 (D.1 4 0) 0) 124 (61 + D.1 4 0) 0 112 12 = nI (nmF 1 60 kC vC) := rfl
      repeat refine x_s rfl rfl ?_
      refine x_cv (k_isGood (up2 (up2 (up2 (up2 d5 112 12 (nI (nmF 1 60 kC vC))) 112 13 (nI sC)) 123 (D.1 4 0) 0) 124 (61 + D.1 4 0) 0) L5 z2 (by omega)) rfl rfl rfl (by decide) rfl (by decide) rfl (Nat.le_of_ble_eq_true rfl) (by decide) (by decide) (by decide) ?_
      rintro _ _ ⟨rfl, rfl⟩
      rw [decide_eq_false (by omega)]
      refine x_br rfl rfl (fun c => ?_) (fun c => absurd c (fun z => z rfl))
      refine x_vret rfl rfl ⟨rfl, _, L5, rfl, NF_c (NF_c (NF_f (NF_f N5 (by omega)) (by omega)) (by decide)) (by decide), ML_tr m12 m5, Or.inl ⟨(nmF 1 60 kC vC, sC), FM_c (FM_c (FM_of eC (by omega) (by omega)) (by decide)) (by decide), ?_⟩⟩
      unfold lnNeedle
      rw [if_neg h10]
      simp only [tkn]
      rw [if_pos eA, if_pos eB, if_neg (by rw [ha]; decide), if_neg (by omega)]
    refine x_iast rfl rfl (k := D.1 4 0) (rfl) (by omega) (by decide) rfl ?_
    have N7 : NF d (up2 d6 123 (D.1 4 0) (nI vC)) := NF_c (NF_tr N5 (NF_MF F6)) (by decide)
    have D7 : HDM (up2 d6 123 (D.1 4 0) (nI vC)) D top := HDM_r (HDM_MF D5 F6) (Nat.le_refl _)
    have M7 : MT (up2 d6 123 (D.1 4 0) (nI vC)) L6 T n rC := MT_c1 M6 (by decide)
    have g7 : up2 d6 123 (D.1 4 0) (nI vC) 112 12 = nI 0 := (F6.2 12 (by decide)).trans g5
    have x7 : up2 d6 123 (D.1 4 0) (nI vC) 124 (49 + D.1 4 0) = nI vA := by rw [up2_ne (by decide), F6.1 124 (by decide), F5.1 124 (by decide)]; exact x4
    have y7 : up2 d6 123 (D.1 4 0) (nI vC) 124 (55 + D.1 4 0) = nI vB := by rw [up2_ne (by decide), F6.1 124 (by decide), F5.1 124 (by decide)]; exact y4
    have z7 : up2 d6 123 (D.1 4 0) (nI vC) 123 (D.1 4 0) = nI vC := up2_eq
    refine (show Ex _ _ _ _ _ _ _ _ (W0 (up2 d6 123 (D.1 4 0) (nI vC)) L6) _ _ from ?_)
    generalize up2 d6 123 (D.1 4 0) (nI vC) = d7 at N7 D7 M7 g7 x7 y7 z7 ⊢
    obtain ⟨sE, kE', vE', rE', rfl⟩ := MT_ne M7
    obtain ⟨fE1, fE2, fE3, fE4, fE5, fE6⟩ := MT_f M7
    simp only [List.length_cons] at ht
    repeat refine x_s rfl rfl ?_
    rw [show (61 : Int32) + nI (D.1 4 0) = nI (61 + D.1 4 0) from nI_add 61 _]
    refine x_cv (k_number d7 L6 (lo := 0) (hi := 9) hn hT (by decide) (by decide) M7 g7) rfl rfl rfl (by decide) rfl (by decide) rfl (Nat.le_of_ble_eq_true rfl) (by omega) (by decide) (by decide) ?_
    rintro rv _ hq
    rcases hq with ⟨eE, rfl, d8, L8, rfl, F8, m8, M8⟩ | ⟨eE, rfl, rfl⟩
    rotate_left
    · have nb := nmF_b 0 9 kE' vE'
      refine x_iast rfl rfl (k := 61 + D.1 4 0) (rfl) (by omega) (by decide) rfl ?_
      have z : up2 (up2 (up2 d7 112 12 (nI (nmF 0 9 kE' vE'))) 112 13 (nI sE)) 124 (61 + D.1 4 0) 0 112 12 = nI (nmF 0 9 kE' vE') := rfl
      repeat refine x_s rfl rfl ?_
      refine x_cv (k_isGood (up2 (up2 (up2 d7 112 12 (nI (nmF 0 9 kE' vE'))) 112 13 (nI sE)) 124 (61 + D.1 4 0) 0) L6 z (by omega)) rfl rfl rfl (by decide) rfl (by decide) rfl (Nat.le_of_ble_eq_true rfl) (by decide) (by decide) (by decide) ?_
      rintro _ _ ⟨rfl, rfl⟩
      rw [decide_eq_false (by omega)]
      refine x_br rfl rfl (fun c => ?_) (fun c => absurd c (fun z => z rfl))
      refine x_vret rfl rfl ⟨rfl, _, L6, rfl, NF_c (NF_f (NF_f N7 (by omega)) (by omega)) (by decide), ML_tr m12 (ML_tr m5 m6), Or.inl ⟨(nmF 0 9 kE' vE', sE), FM_c (FM_of eE (by omega) (by omega)) (by decide), ?_⟩⟩
      unfold lnNeedle
      rw [if_neg h10]
      simp only [tkn]
      rw [if_pos eA, if_pos eB, if_neg (by rw [ha]; decide), if_pos eC, if_neg (by omega)]
    · refine x_iast rfl rfl (k := 61 + D.1 4 0) (rfl) (by omega) (by decide) rfl ?_
      have N9 : NF d (up2 d8 124 (61 + D.1 4 0) (nI vE')) := NF_c (NF_tr N7 (NF_MF F8)) (by decide)
      have D9 : HDM (up2 d8 124 (61 + D.1 4 0) (nI vE')) D top := HDM_w (HDM_MF D7 F8) (fun m hm => by omega) (fun s hs => by omega)
      have M9 : MT (up2 d8 124 (61 + D.1 4 0) (nI vE')) L8 T n rE' := MT_c1 M8 (by decide)
      have g9 : up2 d8 124 (61 + D.1 4 0) (nI vE') 112 12 = nI 0 := (F8.2 12 (by decide)).trans g7
      have x9 : up2 d8 124 (61 + D.1 4 0) (nI vE') 124 (49 + D.1 4 0) = nI vA := by rw [up2_k (by omega), F8.1 124 (by decide)]; exact x7
      have y9 : up2 d8 124 (61 + D.1 4 0) (nI vE') 124 (55 + D.1 4 0) = nI vB := by rw [up2_k (by omega), F8.1 124 (by decide)]; exact y7
      have z9 : up2 d8 124 (61 + D.1 4 0) (nI vE') 123 (D.1 4 0) = nI vC := by rw [up2_ne (by decide), F8.1 123 (by decide)]; exact z7
      have u9 : up2 d8 124 (61 + D.1 4 0) (nI vE') 124 (61 + D.1 4 0) = nI vE' := up2_eq
      refine (show Ex _ _ _ _ _ _ _ _ (W0 (up2 d8 124 (61 + D.1 4 0) (nI vE')) L8) _ _ from ?_)
      generalize up2 d8 124 (61 + D.1 4 0) (nI vE') = d9 at N9 D9 M9 g9 x9 y9 z9 u9 ⊢
      repeat refine x_s rfl rfl ?_
      refine x_cv (k_isGood d9 L8 g9 (by decide)) rfl rfl rfl (by decide) rfl (by decide) rfl (Nat.le_of_ble_eq_true rfl) (by decide) (by decide) (by decide) ?_
      rintro _ _ ⟨rfl, rfl⟩
      refine x_br rfl rfl (fun c => absurd c (by decide)) (fun c => ?_)
      repeat refine x_s rfl rfl ?_
      refine x_put rfl rfl (by decide) rfl ⟨rfl, rfl⟩ (Or.inl rfl) ?_
      have e : d9 112 24 + 1 = nI (D.1 4 0 + 1) := by rw [D9.2.1, nI_1]
      rw [e]
      refine x_vret rfl rfl ⟨rfl, _, L8, rfl, NF_f N9 (by omega), ML_tr m12 (ML_tr m5 (ML_tr m6 m8)), Or.inr ⟨rE', (addN D.1 vA vB vC vE', D.2), top, MT_f1 M9 (by omega), HDM_N D9 x9 y9 z9 u9, g9, by omega, by simp only [List.length_cons]; omega, ?_⟩⟩
      unfold lnNeedle
      rw [if_neg h10]
      simp only [tkn]
      rw [if_pos eA, if_pos eB, if_neg (by rw [ha]; decide), if_pos eC, if_pos eE]
  have lp : ∀ j, j ≤ D.1 4 0 → aF (fun i => decide (D.1 5 i = vA) && decide (D.1 6 i = vB)) j = false → Ex mX12_readsNeedle false 5 0 0 60 [some (.ref 112), some (.int (nI (D.1 4 0))), some (.int (nI j))] [] (W0 d3 L2) (qNl T n d L top (rB.length + 1 + 1) (lnNeedle s ((sA, 2, vA) :: (sB, 2, vB) :: rB) D)) nX := by
    refine x_down _ ?_ ?_
    · intro ha
      repeat refine x_s rfl rfl ?_
      refine x_br rfl rfl (fun c => ?_) (fun c => absurd c (fun z => z (Int32.le_refl _)))
      exact good ha
    · intro j hj ih ha
      have next : (decide (D.1 5 j = vA) && decide (D.1 6 j = vB)) = false → aF (fun i => decide (D.1 5 i = vA) && decide (D.1 6 i = vB)) (j + 1) = false := fun z => by
        rw [aF, ha, Bool.false_or]
        exact z
      obtain ⟨u1, u2⟩ := hxy j hj
      obtain ⟨w1, w2⟩ := hbd j hj
      repeat refine x_s rfl rfl ?_
      refine x_br rfl rfl (fun c => absurd c (nI_ge hj (by omega))) (fun c => ?_)
      repeat refine x_s rfl rfl ?_
      refine x_cv (k_isGood d3 L2 g3 (by decide)) rfl rfl rfl (by decide) rfl (by decide) rfl (Nat.le_of_ble_eq_true rfl) (by decide) (by decide) (by decide) ?_
      rintro _ _ ⟨rfl, rfl⟩
      refine x_br rfl rfl (fun c => absurd c (by decide)) (fun c => ?_)
      repeat refine x_s rfl rfl ?_
      rw [show (49 : Int32) + nI j = nI (49 + j) from nI_add 49 _]
      refine x_ald rfl rfl rfl (k := 49 + j) (rfl) (by omega) (by decide) rfl ?_
      rw [u1]
      repeat refine x_s rfl rfl ?_
      rw [show (49 : Int32) + nI (D.1 4 0) = nI (49 + D.1 4 0) from nI_add 49 _]
      refine x_ald rfl rfl rfl (k := 49 + D.1 4 0) (rfl) (by omega) (by decide) rfl ?_
      rw [x3]
      by_cases h1 : D.1 5 j = vA
      rotate_left
      · refine x_br rfl rfl (fun c => ?_) (fun c => absurd c (fun z => h1 ((nI_eq (by omega) (by omega)).mp z)))
        iterate 2 refine x_s rfl rfl ?_
        rw [nI_1]
        exact ih (next (by rw [decide_eq_false h1]; rfl))
      refine x_br rfl rfl (fun c => absurd c (fun z => z (congrArg nI h1))) (fun c => ?_)
      repeat refine x_s rfl rfl ?_
      rw [show (55 : Int32) + nI j = nI (55 + j) from nI_add 55 _]
      refine x_ald rfl rfl rfl (k := 55 + j) (rfl) (by omega) (by decide) rfl ?_
      rw [u2]
      repeat refine x_s rfl rfl ?_
      rw [v3]
      by_cases h2 : D.1 6 j = vB
      rotate_left
      · refine x_br rfl rfl (fun c => ?_) (fun c => absurd c (fun z => h2 ((nI_eq (by omega) (by omega)).mp z)))
        iterate 2 refine x_s rfl rfl ?_
        rw [nI_1]
        exact ih (next (by rw [decide_eq_false h2, Bool.and_false]))
      refine x_br rfl rfl (fun c => absurd c (fun z => z (congrArg nI h2))) (fun c => ?_)
      repeat refine x_s rfl rfl ?_
      refine x_cv (k_wrong d3 L2 g3 _) rfl rfl rfl (by decide) rfl (by decide) rfl (Nat.le_of_ble_eq_true rfl) (by decide) (by decide) (by decide) ?_
      rintro _ _ ⟨rfl, rfl⟩
      rw [fB1]
      have z : up2 (up2 d3 112 12 4) 112 13 (nI sB) 112 12 = nI 4 := rfl
      iterate 2 refine x_s rfl rfl ?_
      rw [nI_1]
      /- a fault: the loop ends -/
      have out : Ex mX12_readsNeedle false 5 0 0 120 [some (.ref 112), some (.int (nI (D.1 4 0))), some (.int (nI (j + 1)))] [] (W0 (up2 (up2 d3 112 12 4) 112 13 (nI sB)) L2) (qNl T n d L top (rB.length + 1 + 1) (lnNeedle s ((sA, 2, vA) :: (sB, 2, vB) :: rB) D)) nX := by
        repeat refine x_s rfl rfl ?_
        refine x_cv (k_isGood (up2 (up2 d3 112 12 4) 112 13 (nI sB)) L2 z (by decide)) rfl rfl rfl (by decide) rfl (by decide) rfl (Nat.le_of_ble_eq_true rfl) (by decide) (by decide) (by decide) ?_
        rintro _ _ ⟨rfl, rfl⟩
        refine x_br rfl rfl (fun c => absurd c (fun z => z rfl)) (fun c => ?_)
        refine x_vret rfl rfl ⟨rfl, _, L2, rfl, NF_f (NF_f N3 (by omega)) (by omega), m12, Or.inl ⟨(4, sB), FM_of (by decide) (by decide) (by omega), ?_⟩⟩
        unfold lnNeedle
        rw [if_neg h10]
        simp only [tkn]
        rw [if_pos eA, if_pos eB, if_pos (aF_iff.mpr ⟨j, hj, by rw [decide_eq_true h1, decide_eq_true h2]; rfl⟩)]
      repeat refine x_s rfl rfl ?_
      refine x_br rfl rfl (fun q => ?_) (fun q => ?_)
      · exact out
      · repeat refine x_s rfl rfl ?_
        refine x_cv (k_isGood (up2 (up2 d3 112 12 4) 112 13 (nI sB)) L2 z (by decide)) rfl rfl rfl (by decide) rfl (by decide) rfl (Nat.le_of_ble_eq_true rfl) (by decide) (by decide) (by decide) ?_
        rintro _ _ ⟨rfl, rfl⟩
        refine x_br rfl rfl (fun c => ?_) (fun c => absurd c (fun z => z rfl))
        exact out
  iterate 2 refine x_s rfl rfl ?_
  exact lp 0 (Nat.zero_le _) rfl
set_option maxRecDepth 100000 in
set_option maxHeartbeats 1600000 in
theorem k_readsSaying {s top : Nat} {r : List Tk} {D : Dr} (hn : n ≤ 700) (hT : ∀ j, T j < 256) (H : MT d L T n ((s, 1, 11) :: r)) (D0 : HDM d D top) (dg : DR D) (g12 : d 112 12 = nI 0) (ht : top + 2 * (r.length + 1) ≤ 1402) : Cn mX12_readsSaying false 5 0 0 [.ref 112] (W0 d L) (qNl T n d L top r.length (lnSays s r D)) := by
  obtain ⟨f1, f2, f3, f4, f5, f6⟩ := MT_f H
  have cb := dg.1.2.2.1
  have r4 := dg.1.2.1
  have r9 := dg.1.2.2.1
  simp only at cb r4 r9
  refine Cn.intro gX12_readsSaying rfl (Nat.le_of_ble_eq_true rfl) rfl ?_
  repeat refine x_s rfl rfl ?_
  rw [D0.2.2.1]
  by_cases h10 : 16 ≤ D.1 9 0
  · have e10 : D.1 9 0 = 16 := by omega
    rw [e10]
    refine x_br rfl rfl (fun c => absurd c (fun z => z rfl)) (fun c => ?_)
    repeat refine x_s rfl rfl ?_
    refine x_cv (k_wrong d L g12 _) rfl rfl rfl (by decide) rfl (by decide) rfl (Nat.le_of_ble_eq_true rfl) (by decide) (by decide) (by decide) ?_
    rintro _ _ ⟨rfl, rfl⟩
    rw [f1]
    have z : up2 (up2 d 112 12 2) 112 13 (nI s) 112 12 = nI 2 := rfl
    repeat refine x_s rfl rfl ?_
    refine x_cv (k_isGood (up2 (up2 d 112 12 2) 112 13 (nI s)) L z (by decide)) rfl rfl rfl (by decide) rfl (by decide) rfl (Nat.le_of_ble_eq_true rfl) (by decide) (by decide) (by decide) ?_
    rintro _ _ ⟨rfl, rfl⟩
    refine x_br rfl rfl (fun c => absurd c (fun z => z rfl)) (fun c => ?_)
    refine x_vret rfl rfl ⟨rfl, _, L, rfl, NF_f (NF_f NF_rfl (by omega)) (by omega), ML_rfl, Or.inl ⟨(2, s), FM_of (by decide) (by decide) (by omega), ?_⟩⟩
    unfold lnSays
    rw [if_pos h10]
  refine x_br rfl rfl (fun c => ?_) (fun c => absurd c (fun z => absurd ((nI_eq (a := D.1 9 0) (b := 16) (by omega) (by decide)).mp z) (by omega)))
  repeat refine x_s rfl rfl ?_
  refine x_cv (k_isGood d L g12 (by decide)) rfl rfl rfl (by decide) rfl (by decide) rfl (Nat.le_of_ble_eq_true rfl) (by decide) (by decide) (by decide) ?_
  rintro _ _ ⟨rfl, rfl⟩
  refine x_br rfl rfl (fun c => ?_) (fun c => absurd c (fun z => absurd z (by decide)))
  repeat refine x_s rfl rfl ?_
  refine x_cv (k_goes d L hn hT H (by decide)) rfl rfl rfl (by decide) rfl (by decide) rfl (Nat.le_of_ble_eq_true rfl) (by decide) (by decide) (by decide) ?_
  rintro _ _ ⟨rfl, d1, L1, rfl, F1, m1, M1⟩
  have N1 := NF_MF F1
  have D1 := HDM_MF D0 F1
  have g1 : d1 112 12 = nI 0 := (F1.2 12 (by decide)).trans g12
  have ec : d1 112 25 = nI (D.1 9 0) := D1.2.2.1
  obtain ⟨sA, kA, vA, rA, rfl⟩ := MT_ne M1
  obtain ⟨fA1, fA2, fA3, fA4, fA5, fA6⟩ := MT_f M1
  simp only [List.length_cons] at ht
  repeat refine x_s rfl rfl ?_
  rw [ec]
  have pb := dg.1.1
  simp only at pb
  have R0 : ∀ (res : LR) (d5 : Nat → Nat → Int32) (L5 : Nat → Nat → Int64) (f : Nat × Nat) (len : Nat), NF d d5 → ML L L5 → FM d5 f → res = .inl f → Ex mX12_readsSaying false 5 0 0 102 [some (.ref 112), some (.int (nI (D.1 9 0)))] [] (W0 d5 L5) (qNl T n d L top len res) nX := by
    intro res d5 L5 f len N5 m5 F5 hr
    repeat refine x_s rfl rfl ?_
    rw [show (33 : Int32) + nI (D.1 9 0) = nI (33 + D.1 9 0) from nI_add 33 _]
    refine x_cv (k_numberB d5 L5 F5.1 F5.2.2.1 F5.2.2.2.1) rfl rfl rfl (by decide) rfl (by decide) rfl (Nat.le_of_ble_eq_true rfl) (by omega) (by decide) (by decide) ?_
    rintro _ _ ⟨rfl, rfl⟩
    refine x_iast rfl rfl (k := 33 + D.1 9 0) (rfl) (by omega) (by decide) rfl ?_
    have F6 : FM (up2 d5 124 (33 + D.1 9 0) 0) f := FM_c F5 (by decide)
    have fb := F5.2.2.1
    repeat refine x_s rfl rfl ?_
    refine x_cv (k_isGood (up2 d5 124 (33 + D.1 9 0) 0) L5 F6.1 F5.2.2.2.1) rfl rfl rfl (by decide) rfl (by decide) rfl (Nat.le_of_ble_eq_true rfl) (by decide) (by decide) (by decide) ?_
    rintro _ _ ⟨rfl, rfl⟩
    rw [decide_eq_false (by omega)]
    refine x_br rfl rfl (fun c => ?_) (fun c => absurd c (fun z => z rfl))
    exact x_vret rfl rfl ⟨rfl, _, L5, rfl, NF_c N5 (by decide), m5, Or.inl ⟨f, F6, hr⟩⟩
  have R1 : ∀ (res : LR) (d5 : Nat → Nat → Int32) (L5 : Nat → Nat → Int64) (f : Nat × Nat) (len : Nat), NF d d5 → ML L L5 → FM d5 f → res = .inl f → Ex mX12_readsSaying false 5 0 0 85 [some (.ref 112), some (.int (nI (D.1 9 0)))] [] (W0 d5 L5) (qNl T n d L top len res) nX := by
    intro res d5 L5 f len N5 m5 F5 hr
    repeat refine x_s rfl rfl ?_
    rw [show (17 : Int32) + nI (D.1 9 0) = nI (17 + D.1 9 0) from nI_add 17 _]
    refine x_cv (k_numberB d5 L5 F5.1 F5.2.2.1 F5.2.2.2.1) rfl rfl rfl (by decide) rfl (by decide) rfl (Nat.le_of_ble_eq_true rfl) (by omega) (by decide) (by decide) ?_
    rintro _ _ ⟨rfl, rfl⟩
    refine x_iast rfl rfl (k := 17 + D.1 9 0) (rfl) (by omega) (by decide) rfl ?_
    exact R0 res _ L5 f len (NF_c N5 (by decide)) m5 (FM_c F5 (by decide)) hr
  rw [show (1 : Int32) + nI (D.1 9 0) = nI (1 + D.1 9 0) from nI_add 1 _]
  refine x_cv (k_number d1 L1 (lo := 0) (hi := 99) hn hT (by decide) (by decide) M1 g1) rfl rfl rfl (by decide) rfl (by decide) rfl (Nat.le_of_ble_eq_true rfl) (by omega) (by decide) (by decide) ?_
  rintro rv _ hq
  rcases hq with ⟨eA, rfl, d2, L2, rfl, F2, m2, M2⟩ | ⟨eA, rfl, rfl⟩
  rotate_left
  · have nb := nmF_b 0 99 kA vA
    refine x_iast rfl rfl (k := 1 + D.1 9 0) (rfl) (by omega) (by decide) rfl ?_
    have z : up2 (up2 (up2 d1 112 12 (nI (nmF 0 99 kA vA))) 112 13 (nI sA)) 124 (1 + D.1 9 0) 0 112 12 = nI (nmF 0 99 kA vA) := rfl
    repeat refine x_s rfl rfl ?_
    refine x_cv (k_isGood (up2 (up2 (up2 d1 112 12 (nI (nmF 0 99 kA vA))) 112 13 (nI sA)) 124 (1 + D.1 9 0) 0) L1 z (by omega)) rfl rfl rfl (by decide) rfl (by decide) rfl (Nat.le_of_ble_eq_true rfl) (by decide) (by decide) (by decide) ?_
    rintro _ _ ⟨rfl, rfl⟩
    rw [decide_eq_false (by omega)]
    refine x_br rfl rfl (fun c => ?_) (fun c => absurd c (fun z => z rfl))
    refine R1 _ _ L1 (nmF 0 99 kA vA, sA) _ (NF_c (NF_f (NF_f N1 (by omega)) (by omega)) (by decide)) m1 (FM_c (FM_of eA (by omega) (by omega)) (by decide)) ?_
    unfold lnSays
    rw [if_neg h10]
    simp only [tkn]
    rw [if_neg (by omega)]
  obtain ⟨rfl, loA, hiA⟩ := nmF_0 eA
  refine x_iast rfl rfl (k := 1 + D.1 9 0) (rfl) (by omega) (by decide) rfl ?_
  have N3 : NF d (up2 d2 124 (1 + D.1 9 0) (nI vA)) := NF_c (NF_tr N1 (NF_MF F2)) (by decide)
  have D3 : HDM (up2 d2 124 (1 + D.1 9 0) (nI vA)) D top := HDM_w (HDM_MF D1 F2) (fun m hm => by omega) (fun s hs => by omega)
  have M3 : MT (up2 d2 124 (1 + D.1 9 0) (nI vA)) L2 T n rA := MT_c1 M2 (by decide)
  have g3 : up2 d2 124 (1 + D.1 9 0) (nI vA) 112 12 = nI 0 := (F2.2 12 (by decide)).trans g1
  have x3 : up2 d2 124 (1 + D.1 9 0) (nI vA) 124 (1 + D.1 9 0) = nI vA := up2_eq
  have m12 : ML L L2 := ML_tr m1 m2
  refine (show Ex _ _ _ _ _ _ _ _ (W0 (up2 d2 124 (1 + D.1 9 0) (nI vA)) L2) _ _ from ?_)
  generalize up2 d2 124 (1 + D.1 9 0) (nI vA) = d3 at N3 D3 M3 g3 x3 ⊢
  obtain ⟨sB, kB, vB, rB, rfl⟩ := MT_ne M3
  obtain ⟨fB1, fB2, fB3, fB4, fB5, eL, fB6, fB7, fB8, fB9⟩ := MT_f M3
  simp only [List.length_cons] at ht
  have slB := srt_le kB
  /- behind the look at the person -/
  have go85 : ¬ (nmF 0 9999 kB vB = 0 ∧ D.1 0 0 ≤ vB) → Ex mX12_readsSaying false 5 0 0 85 [some (.ref 112), some (.int (nI (D.1 9 0)))] [] (W0 d3 L2) (qNl T n d L top (rB.length + 1 + 1) (lnSays s ((sA, 2, vA) :: (sB, kB, vB) :: rB) D)) nX := by
    intro hno
    repeat refine x_s rfl rfl ?_
    rw [show (17 : Int32) + nI (D.1 9 0) = nI (17 + D.1 9 0) from nI_add 17 _]
    refine x_cv (k_number d3 L2 (lo := 0) (hi := 9999) hn hT (by decide) (by decide) M3 g3) rfl rfl rfl (by decide) rfl (by decide) rfl (Nat.le_of_ble_eq_true rfl) (by omega) (by decide) (by decide) ?_
    rintro rv _ hq
    rcases hq with ⟨eB, rfl, d4, L4, rfl, F4, m4, M4⟩ | ⟨eB, rfl, rfl⟩
    rotate_left
    · have nb := nmF_b 0 9999 kB vB
      refine x_iast rfl rfl (k := 17 + D.1 9 0) (rfl) (by omega) (by decide) rfl ?_
      refine R0 _ _ L2 (nmF 0 9999 kB vB, sB) _ (NF_c (NF_f (NF_f N3 (by omega)) (by omega)) (by decide)) m12 (FM_c (FM_of eB (by omega) (by omega)) (by decide)) ?_
      unfold lnSays
      rw [if_neg h10]
      simp only [tkn]
      rw [if_pos eA, if_neg (by omega)]
    have hp : ¬ D.1 0 0 ≤ vB := fun z => hno ⟨eB, z⟩
    refine x_iast rfl rfl (k := 17 + D.1 9 0) (rfl) (by omega) (by decide) rfl ?_
    have N5 : NF d (up2 d4 124 (17 + D.1 9 0) (nI vB)) := NF_c (NF_tr N3 (NF_MF F4)) (by decide)
    have D5 : HDM (up2 d4 124 (17 + D.1 9 0) (nI vB)) D top := HDM_w (HDM_MF D3 F4) (fun m hm => by omega) (fun s hs => by omega)
    have M5 : MT (up2 d4 124 (17 + D.1 9 0) (nI vB)) L4 T n rB := MT_c1 M4 (by decide)
    have g5 : up2 d4 124 (17 + D.1 9 0) (nI vB) 112 12 = nI 0 := (F4.2 12 (by decide)).trans g3
    have x5 : up2 d4 124 (17 + D.1 9 0) (nI vB) 124 (1 + D.1 9 0) = nI vA := by rw [up2_k (by omega), F4.1 124 (by decide)]; exact x3
    have y5 : up2 d4 124 (17 + D.1 9 0) (nI vB) 124 (17 + D.1 9 0) = nI vB := up2_eq
    refine (show Ex _ _ _ _ _ _ _ _ (W0 (up2 d4 124 (17 + D.1 9 0) (nI vB)) L4) _ _ from ?_)
    generalize up2 d4 124 (17 + D.1 9 0) (nI vB) = d5 at N5 D5 M5 g5 x5 y5 ⊢
    obtain ⟨sC, kC, vC, rC, rfl⟩ := MT_ne M5
    obtain ⟨fC1, fC2, fC3, fC4, fC5, fC6⟩ := MT_f M5
    simp only [List.length_cons] at ht
    repeat refine x_s rfl rfl ?_
    rw [show (33 : Int32) + nI (D.1 9 0) = nI (33 + D.1 9 0) from nI_add 33 _]
    refine x_cv (k_number d5 L4 (lo := 0) (hi := 9) hn hT (by decide) (by decide) M5 g5) rfl rfl rfl (by decide) rfl (by decide) rfl (Nat.le_of_ble_eq_true rfl) (by omega) (by decide) (by decide) ?_
    rintro rv _ hq
    rcases hq with ⟨eC, rfl, d6, L6, rfl, F6, m6, M6⟩ | ⟨eC, rfl, rfl⟩
    rotate_left
    · have nb := nmF_b 0 9 kC vC
      refine x_iast rfl rfl (k := 33 + D.1 9 0) (rfl) (by omega) (by decide) rfl ?_
      have z : up2 (up2 (up2 d5 112 12 (nI (nmF 0 9 kC vC))) 112 13 (nI sC)) 124 (33 + D.1 9 0) 0 112 12 = nI (nmF 0 9 kC vC) := rfl
      repeat refine x_s rfl rfl ?_
      refine x_cv (k_isGood (up2 (up2 (up2 d5 112 12 (nI (nmF 0 9 kC vC))) 112 13 (nI sC)) 124 (33 + D.1 9 0) 0) L4 z (by omega)) rfl rfl rfl (by decide) rfl (by decide) rfl (Nat.le_of_ble_eq_true rfl) (by decide) (by decide) (by decide) ?_
      rintro _ _ ⟨rfl, rfl⟩
      rw [decide_eq_false (by omega)]
      refine x_br rfl rfl (fun c => ?_) (fun c => absurd c (fun z => z rfl))
      refine x_vret rfl rfl ⟨rfl, _, L4, rfl, NF_c (NF_f (NF_f N5 (by omega)) (by omega)) (by decide), ML_tr m12 m4, Or.inl ⟨(nmF 0 9 kC vC, sC), FM_c (FM_of eC (by omega) (by omega)) (by decide), ?_⟩⟩
      unfold lnSays
      rw [if_neg h10]
      simp only [tkn]
      rw [if_pos eA, if_pos eB, if_neg hp, if_neg (by omega)]
    · refine x_iast rfl rfl (k := 33 + D.1 9 0) (rfl) (by omega) (by decide) rfl ?_
      have N7 : NF d (up2 d6 124 (33 + D.1 9 0) (nI vC)) := NF_c (NF_tr N5 (NF_MF F6)) (by decide)
      have D7 : HDM (up2 d6 124 (33 + D.1 9 0) (nI vC)) D top := HDM_w (HDM_MF D5 F6) (fun m hm => by omega) (fun s hs => by omega)
      have M7 : MT (up2 d6 124 (33 + D.1 9 0) (nI vC)) L6 T n rC := MT_c1 M6 (by decide)
      have g7 : up2 d6 124 (33 + D.1 9 0) (nI vC) 112 12 = nI 0 := (F6.2 12 (by decide)).trans g5
      have x7 : up2 d6 124 (33 + D.1 9 0) (nI vC) 124 (1 + D.1 9 0) = nI vA := by rw [up2_k (by omega), F6.1 124 (by decide)]; exact x5
      have y7 : up2 d6 124 (33 + D.1 9 0) (nI vC) 124 (17 + D.1 9 0) = nI vB := by rw [up2_k (by omega), F6.1 124 (by decide)]; exact y5
      have z7 : up2 d6 124 (33 + D.1 9 0) (nI vC) 124 (33 + D.1 9 0) = nI vC := up2_eq
      refine (show Ex _ _ _ _ _ _ _ _ (W0 (up2 d6 124 (33 + D.1 9 0) (nI vC)) L6) _ _ from ?_)
      generalize up2 d6 124 (33 + D.1 9 0) (nI vC) = d7 at N7 D7 M7 g7 x7 y7 z7 ⊢
      repeat refine x_s rfl rfl ?_
      refine x_cv (k_isGood d7 L6 g7 (by decide)) rfl rfl rfl (by decide) rfl (by decide) rfl (Nat.le_of_ble_eq_true rfl) (by decide) (by decide) (by decide) ?_
      rintro _ _ ⟨rfl, rfl⟩
      refine x_br rfl rfl (fun c => absurd c (by decide)) (fun c => ?_)
      repeat refine x_s rfl rfl ?_
      refine x_put rfl rfl (by decide) rfl ⟨rfl, rfl⟩ (Or.inl rfl) ?_
      have e : d7 112 25 + 1 = nI (D.1 9 0 + 1) := by rw [D7.2.2.1, nI_1]
      rw [e]
      refine x_vret rfl rfl ⟨rfl, _, L6, rfl, NF_f N7 (by omega), ML_tr m12 (ML_tr m4 m6), Or.inr ⟨rC, (tl D.1 vA vB vC, D.2), top, MT_f1 M7 (by omega), HDM_S D7 x7 y7 z7, g7, by omega, by simp only [List.length_cons]; omega, ?_⟩⟩
      unfold lnSays
      rw [if_neg h10]
      simp only [tkn]
      rw [if_pos eA, if_pos eB, if_neg hp, if_pos eC]
  repeat refine x_s rfl rfl ?_
  refine x_cv (k_isGood d3 L2 g3 (by decide)) rfl rfl rfl (by decide) rfl (by decide) rfl (Nat.le_of_ble_eq_true rfl) (by decide) (by decide) (by decide) ?_
  rintro _ _ ⟨rfl, rfl⟩
  refine x_br rfl rfl (fun c => absurd c (by decide)) (fun c => ?_)
  repeat refine x_s rfl rfl ?_
  rw [fB2]
  by_cases h2 : kB = 2
  rotate_left
  · refine x_br rfl rfl (fun c => ?_) (fun c => absurd c (fun z => h2 ((srt_e (by omega)).mp ((nI_eq (by omega) (by decide)).mp z))))
    exact go85 (fun z => h2 (nmF_0 z.1).1)
  rw [(srt_e (j := 2) (by omega)).mpr h2]
  refine x_br rfl rfl (fun c => absurd c (fun z => z rfl)) (fun c => ?_)
  repeat refine x_s rfl rfl ?_
  rw [fB6]
  rcases fB8 h2 with ⟨a1, a2⟩ | ⟨a1, a2, a3⟩
  · refine x_br rfl rfl (fun c => ?_) (fun c => absurd c (fun z => z (nI_lt (a := 4) a1 (by omega))))
    exact go85 (fun z => by have := (nmF_0 z.1).2.2; omega)
  refine x_br rfl rfl (fun c => absurd c (fun z => absurd z (Int32.not_lt.mpr (nI_le (b := 4) a1 (by decide))))) (fun c => ?_)
  repeat refine x_s rfl rfl ?_
  rw [a3, D3.1]
  by_cases hp : D.1 0 0 ≤ vB
  rotate_left
  · refine x_br rfl rfl (fun c => ?_) (fun c => absurd c (fun z => z (nI_lt (by omega) (by omega))))
    exact go85 (fun z => hp z.2)
  refine x_br rfl rfl (fun c => absurd c (fun z => absurd z (Int32.not_lt.mpr (nI_le hp (by omega))))) (fun c => ?_)
  repeat refine x_s rfl rfl ?_
  refine x_cv (k_wrong d3 L2 g3 _) rfl rfl rfl (by decide) rfl (by decide) rfl (Nat.le_of_ble_eq_true rfl) (by decide) (by decide) (by decide) ?_
  rintro _ _ ⟨rfl, rfl⟩
  rw [fB1]
  refine R1 _ _ L2 (3, sB) _ (NF_f (NF_f N3 (by omega)) (by omega)) m12 (FM_of (by decide) (by decide) (by omega)) ?_
  have eB : nmF 0 9999 kB vB = 0 := by
    unfold nmF
    rw [if_pos h2, if_pos (by omega)]
  unfold lnSays
  rw [if_neg h10]
  simp only [tkn]
  rw [if_pos eA, if_pos eB, if_pos hp]
end
