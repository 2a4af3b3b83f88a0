/-! THE CALLS (model): just, alibi, planted, shown, first, truest, busiest, rusted -/
section
variable (d : Nat → Nat → Int32) (L : Nat → Nat → Int64) {F : Fr} {Z : Sn}
set_option maxRecDepth 100000 in
set_option maxHeartbeats 1600000 in
theorem k_laysLie (H : HB d F) (R : RG F) {p dg ho : Nat} : Cn mX12_laysLie false 4 0 0 [.ref 112, .int (nI p), .int (nI dg), .int (nI ho)] (W0 d L) (fun r h => r = none ∧ ∃ d', h = W0 d' L ∧ mS d d' ∧ d' 112 0 = d 112 0 ∧ HL d' (oneL F p dg ho) false false) := by
  refine Cn.intro gX12_laysLie rfl (Nat.le_of_ble_eq_true rfl) rfl ?_
  repeat refine x_s rfl rfl ?_
  refine x_cv (k_lays0 d L H R false) rfl rfl rfl (by decide) rfl (by decide) rfl (Nat.le_of_ble_eq_true rfl) (by decide) (by decide) (by decide) ?_
  rintro _ _ ⟨rfl, d1, rfl, m1, t1, H1⟩
  rw [if_neg (by decide)] at H1
  repeat refine x_s rfl rfl ?_
  refine x_cv (k_adds d1 L (n := 0) H1.2.2.1 (by decide) _ _ _) rfl rfl rfl (by decide) rfl (by decide) rfl (Nat.le_of_ble_eq_true rfl) (by decide) (by decide) (by decide) ?_
  rintro _ _ ⟨rfl, rfl⟩
  exact x_vret rfl rfl ⟨rfl, _, rfl, mS_f (mS_c (mS_c (mS_c m1 (by decide)) (by decide)) (by decide)) (by simp), t1, HL_tl H1 ho p dg⟩
theorem RM_one (R : RG F) {p dg ho : Nat} (hp : p < F.1 0 0) (hd : dg ≤ 9) (hh : ho < 100) : RM (oneL F p dg ho) false false := RM_tl (RM_0 R) (show 0 < 120 by decide) hh (Or.inl hp) hd
set_option maxRecDepth 100000 in
set_option maxHeartbeats 1600000 in
theorem q_just (H : HB d F) (R : RG F) (x y z : Int32) : Cn mX12_just false 12 0 0 [.ref 112, .int x, .int y, .int z] (W0 d L) (qM d L (inB z 3 && inL x y) (nI (cF (fun p => decide (knd F (iN x) (iN y) p = iN z)) (F.1 0 0))) (if inB z 3 then 2 else 1)) := by
  have r1 := R.1
  have r2 := R.2.1
  have r3 := R.2.2.1
  refine Cn.intro gX12_just rfl (Nat.le_of_ble_eq_true rfl) rfl ?_
  repeat refine x_s rfl rfl ?_
  refine x_put rfl rfl (by decide) rfl ⟨rfl, rfl⟩ (Or.inl rfl) ?_
  have m0 : mS d (up2 d 112 0 0) := mS_0 0
  have z0 : up2 d 112 0 0 112 0 = 0 := up2_eq
  have H0 := HB_mS R H m0
  generalize hd0 : up2 d 112 0 0 = d0 at m0 z0 H0 ⊢
  repeat refine x_s rfl rfl ?_
  refine x_cv (k_isWhat d0 L z0 z (m := 2) (by decide)) rfl rfl rfl (by decide) rfl (by decide) rfl (Nat.le_of_ble_eq_true rfl) (by decide) (by decide) (by decide) ?_
  rintro _ _ ⟨rfl, rfl⟩
  cases hb : inB z 3
  · rw [if_neg (by decide)]
    refine x_br rfl rfl (fun c => ?_) (fun c => absurd c (fun z => z rfl))
    repeat refine x_s rfl rfl ?_
    exact x_iret rfl rfl rfl ⟨rfl, _, rfl, mS_f m0 (Or.inl rfl), rfl⟩
  rw [if_pos rfl]
  refine x_br rfl rfl (fun c => absurd c (by decide)) (fun c => ?_)
  repeat refine x_s rfl rfl ?_
  refine x_cv (k_isLie d0 L z0 x y) rfl rfl rfl (by decide) rfl (by decide) rfl (Nat.le_of_ble_eq_true rfl) (by decide) (by decide) (by decide) ?_
  rintro _ _ ⟨rfl, rfl⟩
  cases hb2 : inL x y
  · rw [if_neg (by decide)]
    refine x_br rfl rfl (fun c => absurd c (fun z => z rfl)) (fun c => ?_)
    repeat refine x_s rfl rfl ?_
    exact x_iret rfl rfl rfl ⟨rfl, _, rfl, mS_f m0 (Or.inl rfl), rfl⟩
  rw [if_pos rfl]
  refine x_br rfl rfl (fun c => ?_) (fun c => absurd c (fun z => absurd z (by decide)))
  obtain ⟨q1, q2, q3⟩ := inB_iN hb
  generalize iN z = w at q1 q2 q3 ⊢
  subst q2
  obtain ⟨⟨l1, l2, l3⟩, t1', t2'⟩ := inL_iN hb2
  generalize iN x = dg at l1 l2 l3 ⊢
  generalize iN y = ho at t1' t2' ⊢
  subst l3
  subst t2'
  have lp : ∀ k, k ≤ F.1 0 0 → ∀ a, a = nI (cF (fun p => decide (knd F dg ho p = w)) k) → ∀ d1, mS d d1 → d1 112 0 = 0 → ∀ o, Ex mX12_just false 12 0 0 31 [some (.ref 112), some (.int (nI dg)), some (.int (nI ho)), some (.int (nI w)), some (.int a), some (.int (nI k)), o] [] (W0 d1 L) (qM d L true (nI (cF (fun p => decide (knd F dg ho p = w)) (F.1 0 0))) 2) nX := by
    refine x_down _ ?_ ?_
    · intro a ha d1 M1 T1 o
      have H1 := HB_mS R H M1
      repeat refine x_s rfl rfl ?_
      refine x_br rfl rfl (fun c => ?_) (fun c => absurd c (fun z => z (lp_x H1.1)))
      repeat refine x_s rfl rfl ?_
      exact x_iret rfl rfl rfl ⟨by rw [ha]; rfl, d1, rfl, M1, T1⟩
    · intro k hk ih a ha d1 M1 T1 o
      have H1 := HB_mS R H M1
      repeat refine x_s rfl rfl ?_
      refine x_br rfl rfl (fun c => absurd c (lp_c H1.1 hk (by omega))) (fun c => ?_)
      repeat refine x_s rfl rfl ?_
      refine x_cv (k_laysLie d1 L H1 R (p := k) (dg := dg) (ho := ho)) rfl rfl rfl (by decide) rfl (by decide) rfl (Nat.le_of_ble_eq_true rfl) (by decide) (by decide) (by decide) ?_
      rintro _ _ ⟨rfl, d2, rfl, m2, t2, H2⟩
      have M2 := mS_tr M1 m2
      have T2 : d2 112 0 = 0 := t2.trans T1
      repeat refine x_s rfl rfl ?_
      refine x_cv (k_accusedIn d2 L H2 (RM_one R hk l2 t1') t1') rfl rfl rfl (by decide) rfl (by decide) rfl (Nat.le_of_ble_eq_true rfl) (by decide) (by decide) (by decide) ?_
      rintro _ _ ⟨rfl, d3, rfl, hs3⟩
      have M3 := mS_go M2 hs3 (by decide) (by decide) (by decide) (by decide) (by decide)
      have T3 : d3 112 0 = 0 := by rw [hs3 112 (by decide)]; exact T2
      rw [acc_one]
      have fin2 : ∀ (c : Nat), c = knd F dg ho k → c < 3 → Ex mX12_just false 12 0 0 79 [some (.ref 112), some (.int (nI dg)), some (.int (nI ho)), some (.int (nI w)), some (.int a), some (.int (nI k)), some (.int (accA F k dg ho))] [.int (nI c), .int a] (W0 d3 L) (qM d L true (nI (cF (fun p => decide (knd F dg ho p = w)) (F.1 0 0))) 2) nX := by
        intro c hc hc3
        repeat refine x_s rfl rfl ?_
        refine x_br rfl rfl (fun c1 => ?_) (fun c1 => ?_)
        · have c2 : ¬ knd F dg ho k = w := fun z => c1 (by rw [hc, z])
          iterate 5 refine x_s rfl rfl ?_
          rw [nI_1]
          exact ih _ (by rw [ha, cF, if_neg (by simpa using c2)]; exact Int32.add_zero _) d3 M3 T3 _
        · have c2 : knd F dg ho k = w := by rw [← hc]; exact (nI_eq (by omega) (by omega)).mp c1
          iterate 6 refine x_s rfl rfl ?_
          rw [nI_1 k]
          exact ih _ (by rw [ha, cF, if_pos (by simpa using c2), nI_1]) d3 M3 T3 _
      repeat refine x_s rfl rfl ?_
      refine x_br rfl rfl (fun c1 => ?_) (fun c1 => ?_)
      · have c1' : ¬ accA F k dg ho = nI k := c1
        repeat refine x_s rfl rfl ?_
        refine x_br rfl rfl (fun c2 => ?_) (fun c2 => ?_)
        · have c2' : ¬ accA F k dg ho = -1 := c2
          iterate 1 refine x_s rfl rfl ?_
          exact fin2 1 (by simp [knd, c1', c2']) (by decide)
        · have c2' : accA F k dg ho = -1 := c2
          iterate 2 refine x_s rfl rfl ?_
          exact fin2 2 (by rw [knd, if_neg c1', if_pos c2']) (by decide)
      · have c1' : accA F k dg ho = nI k := c1
        iterate 2 refine x_s rfl rfl ?_
        exact fin2 0 (by simp [knd, c1']) (by decide)
  iterate 4 refine x_s rfl rfl ?_
  exact lp 0 (Nat.zero_le _) 0 rfl d0 m0 z0 _
set_option maxRecDepth 100000 in
set_option maxHeartbeats 1600000 in
theorem q_alibi (H : HB d F) (R : RG F) (x y z : Int32) : Cn mX12_alibi false 12 0 0 [.ref 112, .int x, .int y, .int z] (W0 d L) (qM d L (inB x (F.1 0 0) && inL y z) (bF (fun q => decide (q ≠ iN x) && decide (accA F q (iN y) (iN z) = nI (iN x))) (F.1 0 0)) (if inB x (F.1 0 0) then 2 else 1)) := by
  have r1 := R.1
  have r2 := R.2.1
  have r3 := R.2.2.1
  refine Cn.intro gX12_alibi rfl (Nat.le_of_ble_eq_true rfl) rfl ?_
  repeat refine x_s rfl rfl ?_
  refine x_put rfl rfl (by decide) rfl ⟨rfl, rfl⟩ (Or.inl rfl) ?_
  have m0 : mS d (up2 d 112 0 0) := mS_0 0
  have z0 : up2 d 112 0 0 112 0 = 0 := up2_eq
  have H0 := HB_mS R H m0
  generalize hd0 : up2 d 112 0 0 = d0 at m0 z0 H0 ⊢
  repeat refine x_s rfl rfl ?_
  refine x_cv (k_isPerson d0 L z0 H0.1 (by omega) x) rfl rfl rfl (by decide) rfl (by decide) rfl (Nat.le_of_ble_eq_true rfl) (by decide) (by decide) (by decide) ?_
  rintro _ _ ⟨rfl, rfl⟩
  cases hb : inB x (F.1 0 0)
  · rw [if_neg (by decide)]
    refine x_br rfl rfl (fun c => ?_) (fun c => absurd c (fun z => z rfl))
    repeat refine x_s rfl rfl ?_
    exact x_iret rfl rfl rfl ⟨rfl, _, rfl, mS_f m0 (Or.inl rfl), rfl⟩
  rw [if_pos rfl]
  refine x_br rfl rfl (fun c => absurd c (by decide)) (fun c => ?_)
  repeat refine x_s rfl rfl ?_
  refine x_cv (k_isLie d0 L z0 y z) rfl rfl rfl (by decide) rfl (by decide) rfl (Nat.le_of_ble_eq_true rfl) (by decide) (by decide) (by decide) ?_
  rintro _ _ ⟨rfl, rfl⟩
  cases hb2 : inL y z
  · rw [if_neg (by decide)]
    refine x_br rfl rfl (fun c => absurd c (fun z => z rfl)) (fun c => ?_)
    repeat refine x_s rfl rfl ?_
    exact x_iret rfl rfl rfl ⟨rfl, _, rfl, mS_f m0 (Or.inl rfl), rfl⟩
  rw [if_pos rfl]
  refine x_br rfl rfl (fun c => ?_) (fun c => absurd c (fun z => absurd z (by decide)))
  obtain ⟨q1, q2, q3⟩ := inB_iN hb
  generalize iN x = w at q1 q2 q3 ⊢
  subst q2
  obtain ⟨⟨l1, l2, l3⟩, t1', t2'⟩ := inL_iN hb2
  generalize iN y = dg at l1 l2 l3 ⊢
  generalize iN z = ho at t1' t2' ⊢
  subst l3
  subst t2'
  have lp : ∀ k, k ≤ F.1 0 0 → ∀ a, a = bF (fun q => decide (q ≠ w) && decide (accA F q dg ho = nI w)) k → ∀ d1, mS d d1 → d1 112 0 = 0 → Ex mX12_alibi false 12 0 0 30 [some (.ref 112), some (.int (nI w)), some (.int (nI dg)), some (.int (nI ho)), some (.int a), some (.int (nI k))] [] (W0 d1 L) (qM d L true (bF (fun q => decide (q ≠ w) && decide (accA F q dg ho = nI w)) (F.1 0 0)) 2) nX := by
    refine x_down _ ?_ ?_
    · intro a ha d1 M1 T1
      have H1 := HB_mS R H M1
      repeat refine x_s rfl rfl ?_
      refine x_br rfl rfl (fun c => ?_) (fun c => absurd c (fun z => z (lp_x H1.1)))
      repeat refine x_s rfl rfl ?_
      exact x_iret rfl rfl rfl ⟨by rw [ha]; rfl, d1, rfl, M1, T1⟩
    · intro k hk ih a ha d1 M1 T1
      have H1 := HB_mS R H M1
      repeat refine x_s rfl rfl ?_
      refine x_br rfl rfl (fun c => absurd c (lp_c H1.1 hk (by omega))) (fun c => ?_)
      repeat refine x_s rfl rfl ?_
      refine x_br rfl rfl (fun c1 => ?_) (fun c1 => ?_)
      · have c2 : ¬ k = w := fun z => c1 (by rw [z])
        repeat refine x_s rfl rfl ?_
        refine x_cv (k_laysLie d1 L H1 R (p := k) (dg := dg) (ho := ho)) rfl rfl rfl (by decide) rfl (by decide) rfl (Nat.le_of_ble_eq_true rfl) (by decide) (by decide) (by decide) ?_
        rintro _ _ ⟨rfl, d2, rfl, m2, t2, H2⟩
        have M2 := mS_tr M1 m2
        have T2 : d2 112 0 = 0 := t2.trans T1
        repeat refine x_s rfl rfl ?_
        refine x_cv (k_accusedIn d2 L H2 (RM_one R hk l2 t1') t1') rfl rfl rfl (by decide) rfl (by decide) rfl (Nat.le_of_ble_eq_true rfl) (by decide) (by decide) (by decide) ?_
        rintro _ _ ⟨rfl, d3, rfl, hs3⟩
        have M3 := mS_go M2 hs3 (by decide) (by decide) (by decide) (by decide) (by decide)
        have T3 : d3 112 0 = 0 := by rw [hs3 112 (by decide)]; exact T2
        rw [acc_one]
        repeat refine x_s rfl rfl ?_
        refine x_br rfl rfl (fun c3 => ?_) (fun c3 => ?_)
        · have c4 : ¬ accA F k dg ho = nI w := c3
          iterate 5 refine x_s rfl rfl ?_
          rw [nI_1, or_0]
          exact ih _ (by simp [bF, ha, c4]) d3 M3 T3
        · have c4 : accA F k dg ho = nI w := c3
          iterate 8 refine x_s rfl rfl ?_
          rw [nI_1]
          exact ih _ (by simp [bF, ha, c4, c2]) d3 M3 T3
      · have c2 : k = w := (nI_eq (by omega) (by omega)).mp c1
        iterate 3 refine x_s rfl rfl ?_
        rw [nI_1]
        exact ih _ (by simp [bF, ha, c2]) d1 M1 T1
  iterate 4 refine x_s rfl rfl ?_
  exact lp 0 (Nat.zero_le _) 0 rfl d0 m0 z0
set_option maxRecDepth 100000 in
set_option maxHeartbeats 1600000 in
theorem q_planted (H : HB d F) (R : RG F) (HZ0 : HZM d Z) (R2 : RZ F Z) : Cn mX12_planted false 12 0 0 [.ref 112] (W0 d L) (qM d L (true) (plz F Z Z.1) (1)) := by
  have r1 := R.1
  have r2 := R.2.1
  have r3 := R.2.2.1
  refine Cn.intro gX12_planted rfl (Nat.le_of_ble_eq_true rfl) rfl ?_
  repeat refine x_s rfl rfl ?_
  refine x_put rfl rfl (by decide) rfl ⟨rfl, rfl⟩ (Or.inl rfl) ?_
  have m0 : mS d (up2 d 112 0 0) := mS_0 0
  have z0 : up2 d 112 0 0 112 0 = 0 := up2_eq
  have H0 := HB_mS R H m0
  generalize hd0 : up2 d 112 0 0 = d0 at m0 z0 H0 ⊢
  repeat refine x_s rfl rfl ?_
  refine x_cv (k_lays0 d0 L H0 R true) rfl rfl rfl (by decide) rfl (by decide) rfl (Nat.le_of_ble_eq_true rfl) (by decide) (by decide) (by decide) ?_
  rintro _ _ ⟨rfl, d1, rfl, m1, t1, H1⟩
  rw [if_pos rfl, fst0_self] at H1
  have M1 := mS_tr m0 m1
  have T1 : d1 112 0 = 0 := t1.trans z0
  have RM1 := RM_of R
  repeat refine x_s rfl rfl ?_
  refine x_cv (k_plantedNow d1 L H1 RM1 (HZM_mS HZ0 M1) R2.1 R2.2) rfl rfl rfl (by decide) rfl (by decide) rfl (Nat.le_of_ble_eq_true rfl) (by decide) (by decide) (by decide) ?_
  rintro _ _ ⟨rfl, d2, rfl, hs2⟩
  exact x_iret rfl rfl rfl ⟨rfl, d2, rfl, mS_go M1 hs2 (by decide) (by decide) (by decide) (by decide) (by decide), by rw [hs2 112 (by decide)]; exact T1⟩
theorem wi_C {y : Int32} : decide ((-1 : Int32).toInt ≤ y.toInt ∧ y.toInt ≤ (9 : Int32).toInt) = inC y := rfl
set_option maxRecDepth 100000 in
set_option maxHeartbeats 1600000 in
theorem q_shown (H : HB d F) (R : RG F) (x y : Int32) : Cn mX12_shown false 12 0 0 [.ref 112, .int x, .int y] (W0 d L) (qM d L (inB x (F.1 4 0) && inC y) (nI (cF (fun h => decide (sh F (iN x) h = y)) 100)) (1)) := by
  have r1 := R.1
  have r2 := R.2.1
  have r3 := R.2.2.1
  refine Cn.intro gX12_shown rfl (Nat.le_of_ble_eq_true rfl) rfl ?_
  repeat refine x_s rfl rfl ?_
  refine x_put rfl rfl (by decide) rfl ⟨rfl, rfl⟩ (Or.inl rfl) ?_
  have m0 : mS d (up2 d 112 0 0) := mS_0 0
  have z0 : up2 d 112 0 0 112 0 = 0 := up2_eq
  have H0 := HB_mS R H m0
  generalize hd0 : up2 d 112 0 0 = d0 at m0 z0 H0 ⊢
  repeat refine x_s rfl rfl ?_
  refine x_cv (k_isNeedle d0 L z0 H0.2.1 (by omega) x) rfl rfl rfl (by decide) rfl (by decide) rfl (Nat.le_of_ble_eq_true rfl) (by decide) (by decide) (by decide) ?_
  rintro _ _ ⟨rfl, rfl⟩
  cases hb : inB x (F.1 4 0)
  · rw [if_neg (by decide)]
    refine x_br rfl rfl (fun c => ?_) (fun c => absurd c (fun z => z rfl))
    repeat refine x_s rfl rfl ?_
    exact x_iret rfl rfl rfl ⟨rfl, _, rfl, mS_f m0 (Or.inl rfl), rfl⟩
  rw [if_pos rfl]
  refine x_br rfl rfl (fun c => absurd c (by decide)) (fun c => ?_)
  repeat refine x_s rfl rfl ?_
  refine x_cs (k_within d0 L y (-1) 9) rfl rfl rfl (by decide) (Nat.le_of_ble_eq_true rfl) (by decide) (by decide) (by decide) ?_
  rintro _ _ ⟨rfl, rfl⟩
  rw [wi_C]
  repeat refine x_s rfl rfl ?_
  refine x_cv (k_right d0 L z0 _ 1 (by decide)) rfl rfl rfl (by decide) rfl (by decide) rfl (Nat.le_of_ble_eq_true rfl) (by decide) (by decide) (by decide) ?_
  rintro _ _ ⟨rfl, rfl⟩
  cases hb2 : inC y
  · rw [if_neg (by decide)]
    refine x_br rfl rfl (fun c => absurd c (fun z => z rfl)) (fun c => ?_)
    repeat refine x_s rfl rfl ?_
    exact x_iret rfl rfl rfl ⟨rfl, _, rfl, mS_f m0 (Or.inl rfl), rfl⟩
  rw [if_pos rfl]
  refine x_br rfl rfl (fun c => ?_) (fun c => absurd c (fun z => absurd z (by decide)))
  obtain ⟨q1, q2, q3⟩ := inB_iN hb
  generalize iN x = n at q1 q2 q3 ⊢
  subst q2
  repeat refine x_s rfl rfl ?_
  refine x_cv (k_lays0 d0 L H0 R true) rfl rfl rfl (by decide) rfl (by decide) rfl (Nat.le_of_ble_eq_true rfl) (by decide) (by decide) (by decide) ?_
  rintro _ _ ⟨rfl, d1, rfl, m1, t1, H1⟩
  rw [if_pos rfl, fst0_self] at H1
  have M1 := mS_tr m0 m1
  have T1 : d1 112 0 = 0 := t1.trans z0
  have RM1 := RM_of R
  have lp : ∀ k, k ≤ 100 → ∀ a, a = nI (cF (fun h => decide (sh F n h = y)) k) → ∀ d2, sm [130, 131] d1 d2 → Ex mX12_shown false 12 0 0 40 [some (.ref 112), some (.int (nI n)), some (.int y), some (.int a), some (.int (nI k))] [] (W0 d2 L) (qM d L true (nI (cF (fun h => decide (sh F n h = y)) 100)) 1) nX := by
    refine x_down _ ?_ ?_
    · intro a ha d2 hs2
      repeat refine x_s rfl rfl ?_
      refine x_br rfl rfl (fun c => ?_) (fun c => absurd c (fun z => z (by decide)))
      repeat refine x_s rfl rfl ?_
      exact x_iret rfl rfl rfl ⟨by rw [ha]; rfl, d2, rfl, mS_go M1 hs2 (by decide) (by decide) (by decide) (by decide) (by decide), by rw [hs2 112 (by decide)]; exact T1⟩
    · intro k hk ih a ha d2 hs2
      repeat refine x_s rfl rfl ?_
      refine x_br rfl rfl (fun c => absurd c (nI_ge (b := 100) hk (by decide))) (fun c => ?_)
      repeat refine x_s rfl rfl ?_
      refine x_cv (k_showsIn d2 L (HL_sm H1 hs2 (by decide)) RM1 (n := n) (h := k) (Or.inl q1) hk) rfl rfl rfl (by decide) rfl (by decide) rfl (Nat.le_of_ble_eq_true rfl) (by decide) (by decide) (by decide) ?_
      rintro _ _ ⟨rfl, d3, rfl, hs3⟩
      repeat refine x_s rfl rfl ?_
      refine x_br rfl rfl (fun c1 => ?_) (fun c1 => ?_)
      · have c2 : ¬ sh F n k = y := c1
        iterate 5 refine x_s rfl rfl ?_
        rw [nI_1]
        exact ih _ (by rw [ha, cF, if_neg (by simpa using c2)]; exact Int32.add_zero _) d3 (sm_go hs2 hs3)
      · have c2 : sh F n k = y := c1
        iterate 6 refine x_s rfl rfl ?_
        rw [nI_1 k]
        exact ih _ (by rw [ha, cF, if_pos (by simpa using c2), nI_1]) d3 (sm_go hs2 hs3)
  iterate 4 refine x_s rfl rfl ?_
  exact lp 0 (Nat.zero_le _) 0 rfl d1 sm_rfl
set_option maxRecDepth 100000 in
set_option maxHeartbeats 1600000 in
theorem q_first (H : HB d F) (R : RG F) (x : Int32) : Cn mX12_first false 12 0 0 [.ref 112, .int x] (W0 d L) (qM d L (inB x (F.1 0 0)) (fF (fun h => decide (accI F h = nI (iN x))) 0 100) (1)) := by
  have r1 := R.1
  have r2 := R.2.1
  have r3 := R.2.2.1
  refine Cn.intro gX12_first rfl (Nat.le_of_ble_eq_true rfl) rfl ?_
  repeat refine x_s rfl rfl ?_
  refine x_put rfl rfl (by decide) rfl ⟨rfl, rfl⟩ (Or.inl rfl) ?_
  have m0 : mS d (up2 d 112 0 0) := mS_0 0
  have z0 : up2 d 112 0 0 112 0 = 0 := up2_eq
  have H0 := HB_mS R H m0
  generalize hd0 : up2 d 112 0 0 = d0 at m0 z0 H0 ⊢
  repeat refine x_s rfl rfl ?_
  refine x_cv (k_isPerson d0 L z0 H0.1 (by omega) x) rfl rfl rfl (by decide) rfl (by decide) rfl (Nat.le_of_ble_eq_true rfl) (by decide) (by decide) (by decide) ?_
  rintro _ _ ⟨rfl, rfl⟩
  cases hb : inB x (F.1 0 0)
  · rw [if_neg (by decide)]
    refine x_br rfl rfl (fun c => absurd c (fun z => z rfl)) (fun c => ?_)
    repeat refine x_s rfl rfl ?_
    exact x_iret rfl rfl rfl ⟨rfl, _, rfl, mS_f m0 (Or.inl rfl), rfl⟩
  rw [if_pos rfl]
  refine x_br rfl rfl (fun c => ?_) (fun c => absurd c (fun z => absurd z (by decide)))
  obtain ⟨q1, q2, q3⟩ := inB_iN hb
  generalize iN x = n at q1 q2 q3 ⊢
  subst q2
  repeat refine x_s rfl rfl ?_
  refine x_cv (k_lays0 d0 L H0 R true) rfl rfl rfl (by decide) rfl (by decide) rfl (Nat.le_of_ble_eq_true rfl) (by decide) (by decide) (by decide) ?_
  rintro _ _ ⟨rfl, d1, rfl, m1, t1, H1⟩
  rw [if_pos rfl, fst0_self] at H1
  have M1 := mS_tr m0 m1
  have T1 : d1 112 0 = 0 := t1.trans z0
  have RM1 := RM_of R
  have lp : ∀ k, k ≤ 100 → ∀ V, V = fF (fun h => decide (accI F h = nI n)) k (100 - k) → ∀ d2, sm [130, 131, 138] d1 d2 → Ex mX12_first false 12 0 0 22 [some (.ref 112), some (.int (nI n)), some (.int (nI k))] [] (W0 d2 L) (qM d L true V 1) nX := by
    refine x_down _ ?_ ?_
    · intro V ha d2 hs2
      repeat refine x_s rfl rfl ?_
      refine x_br rfl rfl (fun c => ?_) (fun c => absurd c (fun z => z (by decide)))
      repeat refine x_s rfl rfl ?_
      exact x_iret rfl rfl rfl ⟨by rw [ha]; rfl, d2, rfl, mS_go M1 hs2 (by decide) (by decide) (by decide) (by decide) (by decide), by rw [hs2 112 (by decide)]; exact T1⟩
    · intro k hk ih V ha d2 hs2
      repeat refine x_s rfl rfl ?_
      refine x_br rfl rfl (fun c => absurd c (nI_ge (b := 100) hk (by decide))) (fun c => ?_)
      repeat refine x_s rfl rfl ?_
      refine x_cv (k_accusedIn d2 L (HL_sm H1 hs2 (by decide)) RM1 hk) rfl rfl rfl (by decide) rfl (by decide) rfl (Nat.le_of_ble_eq_true rfl) (by decide) (by decide) (by decide) ?_
      rintro _ _ ⟨rfl, d3, rfl, hs3⟩
      have hs23 := sm_go hs2 hs3
      repeat refine x_s rfl rfl ?_
      refine x_br rfl rfl (fun c1 => ?_) (fun c1 => ?_)
      · iterate 2 refine x_s rfl rfl ?_
        rw [nI_1]
        exact ih _ (ha.trans (fF_f hk (decide_eq_false c1))) d3 hs23
      · repeat refine x_s rfl rfl ?_
        exact x_iret rfl rfl rfl ⟨by rw [ha.trans (fF_t hk (decide_eq_true c1))]; rfl, d3, rfl, mS_go M1 hs23 (by decide) (by decide) (by decide) (by decide) (by decide), by rw [hs23 112 (by decide)]; exact T1⟩
  iterate 2 refine x_s rfl rfl ?_
  exact lp 0 (Nat.zero_le _) _ rfl d1 sm_rfl
set_option maxRecDepth 100000 in
set_option maxHeartbeats 1600000 in
theorem q_truest (H : HB d F) (R : RG F) : Cn mX12_truest false 12 0 0 [.ref 112] (W0 d L) (qM d L (true) ((bs2 (fun n => wo F n (F.1 9 0)) (F.1 4 0)).1) (1)) := by
  have r1 := R.1
  have r2 := R.2.1
  have r3 := R.2.2.1
  refine Cn.intro gX12_truest rfl (Nat.le_of_ble_eq_true rfl) rfl ?_
  repeat refine x_s rfl rfl ?_
  refine x_put rfl rfl (by decide) rfl ⟨rfl, rfl⟩ (Or.inl rfl) ?_
  have m0 : mS d (up2 d 112 0 0) := mS_0 0
  have z0 : up2 d 112 0 0 112 0 = 0 := up2_eq
  have H0 := HB_mS R H m0
  generalize hd0 : up2 d 112 0 0 = d0 at m0 z0 H0 ⊢
  repeat refine x_s rfl rfl ?_
  refine x_cv (k_lays0 d0 L H0 R true) rfl rfl rfl (by decide) rfl (by decide) rfl (Nat.le_of_ble_eq_true rfl) (by decide) (by decide) (by decide) ?_
  rintro _ _ ⟨rfl, d1, rfl, m1, t1, H1⟩
  rw [if_pos rfl, fst0_self] at H1
  have M1 := mS_tr m0 m1
  have T1 : d1 112 0 = 0 := t1.trans z0
  have RM1 := RM_of R
  have lp : ∀ k, k ≤ F.1 4 0 → ∀ a b, (a, b) = bs2 (fun n => wo F n (F.1 9 0)) k → ∀ d2, sm [130, 131] d1 d2 → ∀ o, Ex mX12_truest false 12 0 0 16 [some (.ref 112), some (.int a), some (.int b), some (.int (nI k)), o] [] (W0 d2 L) (qM d L true ((bs2 (fun n => wo F n (F.1 9 0)) (F.1 4 0)).1) 1) nX := by
    refine x_down _ ?_ ?_
    · intro a b ha d2 hs2 o
      have H2 := HL_sm H1 hs2 (by decide)
      repeat refine x_s rfl rfl ?_
      refine x_br rfl rfl (fun c => ?_) (fun c => absurd c (fun z => z (lp_x H2.2.1)))
      repeat refine x_s rfl rfl ?_
      exact x_iret rfl rfl rfl ⟨by rw [← ha]; rfl, d2, rfl, mS_go M1 hs2 (by decide) (by decide) (by decide) (by decide) (by decide), by rw [hs2 112 (by decide)]; exact T1⟩
    · intro k hk ih a b ha d2 hs2 o
      have H2 := HL_sm H1 hs2 (by decide)
      repeat refine x_s rfl rfl ?_
      refine x_br rfl rfl (fun c => absurd c (lp_c H2.2.1 hk (by omega))) (fun c => ?_)
      repeat refine x_s rfl rfl ?_
      refine x_cv (k_worthOf d2 L H2 RM1 hk) rfl rfl rfl (by decide) rfl (by decide) rfl (Nat.le_of_ble_eq_true rfl) (by decide) (by decide) (by decide) ?_
      rintro _ _ ⟨rfl, d3, rfl, hs3⟩
      have hs23 := sm_go hs2 hs3
      have e : bs2 (fun n => wo F n (F.1 9 0)) (k + 1) = if a = -1 ∨ b < wo F k (F.1 9 0) then (nI k, wo F k (F.1 9 0)) else (a, b) := by rw [bs2, ← ha]
      repeat refine x_s rfl rfl ?_
      refine x_br rfl rfl (fun c1 => ?_) (fun c1 => ?_)
      · iterate 6 refine x_s rfl rfl ?_
        rw [nI_1]
        exact ih _ _ (by rw [e, if_pos (Or.inl c1)]) d3 hs23 _
      · repeat refine x_s rfl rfl ?_
        refine x_br rfl rfl (fun c2 => ?_) (fun c2 => ?_)
        · iterate 6 refine x_s rfl rfl ?_
          rw [nI_1]
          exact ih _ _ (by rw [e, if_pos (Or.inr c2)]) d3 hs23 _
        · iterate 3 refine x_s rfl rfl ?_
          rw [nI_1]
          exact ih _ _ (by rw [e, if_neg (by rintro (z | z); exact c1 z; exact c2 z)]) d3 hs23 _
  iterate 6 refine x_s rfl rfl ?_
  exact lp 0 (Nat.zero_le _) _ _ rfl d1 sm_rfl _
set_option maxRecDepth 100000 in
set_option maxHeartbeats 1600000 in
theorem q_busiest (H : HB d F) (R : RG F) (x : Int32) : Cn mX12_busiest false 12 0 0 [.ref 112, .int x] (W0 d L) (qM d L (inB x 2) (if iN x = 0 then (bs1 (trn F) 99).1 else (bs1 (trn F) 99).2) (1)) := by
  have r1 := R.1
  have r2 := R.2.1
  have r3 := R.2.2.1
  refine Cn.intro gX12_busiest rfl (Nat.le_of_ble_eq_true rfl) rfl ?_
  repeat refine x_s rfl rfl ?_
  refine x_put rfl rfl (by decide) rfl ⟨rfl, rfl⟩ (Or.inl rfl) ?_
  have m0 : mS d (up2 d 112 0 0) := mS_0 0
  have z0 : up2 d 112 0 0 112 0 = 0 := up2_eq
  have H0 := HB_mS R H m0
  generalize hd0 : up2 d 112 0 0 = d0 at m0 z0 H0 ⊢
  repeat refine x_s rfl rfl ?_
  refine x_cv (k_isWhat d0 L z0 x (m := 1) (by decide)) rfl rfl rfl (by decide) rfl (by decide) rfl (Nat.le_of_ble_eq_true rfl) (by decide) (by decide) (by decide) ?_
  rintro _ _ ⟨rfl, rfl⟩
  cases hb : inB x 2
  · rw [if_neg (by decide)]
    refine x_br rfl rfl (fun c => absurd c (fun z => z rfl)) (fun c => ?_)
    repeat refine x_s rfl rfl ?_
    exact x_iret rfl rfl rfl ⟨rfl, _, rfl, mS_f m0 (Or.inl rfl), rfl⟩
  rw [if_pos rfl]
  refine x_br rfl rfl (fun c => ?_) (fun c => absurd c (fun z => absurd z (by decide)))
  obtain ⟨q1, q2, q3⟩ := inB_iN hb
  generalize iN x = w at q1 q2 q3 ⊢
  subst q2
  repeat refine x_s rfl rfl ?_
  refine x_cv (k_lays0 d0 L H0 R true) rfl rfl rfl (by decide) rfl (by decide) rfl (Nat.le_of_ble_eq_true rfl) (by decide) (by decide) (by decide) ?_
  rintro _ _ ⟨rfl, d1, rfl, m1, t1, H1⟩
  rw [if_pos rfl, fst0_self] at H1
  have M1 := mS_tr m0 m1
  have T1 : d1 112 0 = 0 := t1.trans z0
  have RM1 := RM_of R
  have lp : ∀ k, k ≤ 99 → ∀ a b, (a, b) = bs1 (trn F) k → ∀ d2, sm [130, 131] d1 d2 → ∀ o1 o2, Ex mX12_busiest false 12 0 0 28 [some (.ref 112), some (.int (nI w)), some (.int a), some (.int b), some (.int (nI (k + 1))), o1, o2] [] (W0 d2 L) (qM d L true (if w = 0 then (bs1 (trn F) 99).1 else (bs1 (trn F) 99).2) 1) nX := by
    refine x_down _ ?_ ?_
    · intro a b ha d2 hs2 o1 o2
      repeat refine x_s rfl rfl ?_
      refine x_br rfl rfl (fun c => ?_) (fun c => absurd c (fun z => z (by decide)))
      repeat refine x_s rfl rfl ?_
      rw [← ha]
      refine x_br rfl rfl (fun c1 => ?_) (fun c1 => ?_)
      · repeat refine x_s rfl rfl ?_
        refine x_iret rfl rfl rfl ⟨?_, d2, rfl, mS_go M1 hs2 (by decide) (by decide) (by decide) (by decide) (by decide), by rw [hs2 112 (by decide)]; exact T1⟩
        have hw : ¬ w = 0 := fun z => c1 (by rw [z]; rfl)
        show some (Value.int b) = some (Value.int (if w = 0 then a else b))
        rw [if_neg hw]
      · repeat refine x_s rfl rfl ?_
        refine x_iret rfl rfl rfl ⟨?_, d2, rfl, mS_go M1 hs2 (by decide) (by decide) (by decide) (by decide) (by decide), by rw [hs2 112 (by decide)]; exact T1⟩
        show some (Value.int a) = some (Value.int (if w = 0 then a else b))
        rw [if_pos ((nI_eq (b := 0) (by omega) (by omega)).mp c1)]
    · intro k hk ih a b ha d2 hs2 o1 o2
      repeat refine x_s rfl rfl ?_
      refine x_br rfl rfl (fun c => absurd c (nI_ge (b := 100) (by omega) (by decide))) (fun c => ?_)
      have e : bs1 (trn F) (k + 1) = if b < trn F k then (nI (k + 1), trn F k) else (a, b) := by rw [bs1, ← ha]
      have lp2 : ∀ m, m ≤ F.1 4 0 → ∀ c, c = nI (cF (fun n => decide (sh F n (k + 1) ≠ sh F n k)) m) → ∀ d3, sm [130, 131] d1 d3 → Ex mX12_busiest false 12 0 0 41 [some (.ref 112), some (.int (nI w)), some (.int a), some (.int b), some (.int (nI (k + 1))), some (.int c), some (.int (nI m))] [] (W0 d3 L) (qM d L true (if w = 0 then (bs1 (trn F) 99).1 else (bs1 (trn F) 99).2) 1) nX := by
        refine x_down _ ?_ ?_
        · intro c hc d3 hs3
          have H3 := HL_sm H1 hs3 (by decide)
          have hc' : c = trn F k := hc
          repeat refine x_s rfl rfl ?_
          refine x_br rfl rfl (fun c => ?_) (fun c => absurd c (fun z => z (lp_x H3.2.1)))
          repeat refine x_s rfl rfl ?_
          rw [hc']
          refine x_br rfl rfl (fun c1 => ?_) (fun c1 => ?_)
          · iterate 6 refine x_s rfl rfl ?_
            rw [nI_1]
            exact ih _ _ (by rw [e, if_pos c1]) d3 hs3 _ _
          · iterate 3 refine x_s rfl rfl ?_
            rw [nI_1]
            exact ih _ _ (by rw [e, if_neg c1]) d3 hs3 _ _
        · intro m hm ih2 c hc d3 hs3
          have H3 := HL_sm H1 hs3 (by decide)
          repeat refine x_s rfl rfl ?_
          refine x_br rfl rfl (fun c => absurd c (lp_c H3.2.1 hm (by omega))) (fun c => ?_)
          repeat refine x_s rfl rfl ?_
          refine x_cv (k_showsIn d3 L H3 RM1 (n := m) (h := k + 1) (Or.inl hm) (by omega)) rfl rfl rfl (by decide) rfl (by decide) rfl (Nat.le_of_ble_eq_true rfl) (by decide) (by decide) (by decide) ?_
          rintro _ _ ⟨rfl, d4, rfl, hs4⟩
          repeat refine x_s rfl rfl ?_
          rw [nI_pred]
          refine x_cv (k_showsIn d4 L (HL_sm H3 hs4 (by decide)) RM1 (n := m) (h := k) (Or.inl hm) (by omega)) rfl rfl rfl (by decide) rfl (by decide) rfl (Nat.le_of_ble_eq_true rfl) (by decide) (by decide) (by decide) ?_
          rintro _ _ ⟨rfl, d5, rfl, hs5⟩
          have hs35 := sm_go hs3 (sm_go hs4 hs5)
          refine x_br rfl rfl (fun c1 => ?_) (fun c1 => ?_)
          · have c2 : sh F m (k + 1) = sh F m k := c1
            iterate 5 refine x_s rfl rfl ?_
            rw [nI_1]
            exact ih2 _ (by rw [hc, cF, if_neg (by simp [c2])]; exact Int32.add_zero _) d5 hs35
          · have c2 : ¬ sh F m (k + 1) = sh F m k := c1
            iterate 6 refine x_s rfl rfl ?_
            rw [nI_1 m]
            exact ih2 _ (by rw [hc, cF, if_pos (by simp [c2]), nI_1]) d5 hs35
      iterate 4 refine x_s rfl rfl ?_
      exact lp2 0 (Nat.zero_le _) 0 rfl d2 hs2
  iterate 6 refine x_s rfl rfl ?_
  exact lp 0 (Nat.zero_le _) _ _ rfl d1 sm_rfl _ _
end
