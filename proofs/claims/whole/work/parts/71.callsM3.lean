/-! THE CALLS (model): named, falsely, butFor, rusted, clash, suspects -/
section
variable (d : Nat → Nat → Int32) (L : Nat → Nat → Int64) {F : Fr} {Z : Sn}
theorem nm0_eq (R : RG F) (p h : Nat) : nm0 F p (h + 1) = nm0 F p h + nI (cF (fun n => pt F n p (sh F n h)) (F.1 4 0)) := by
  rw [nm0, bc_bF (by have := R.2.1; omega)]
set_option maxRecDepth 100000 in
set_option maxHeartbeats 1600000 in
theorem q_named (H : HB d F) (R : RG F) (x y : Int32) : Cn mX12_named false 12 0 0 [.ref 112, .int x, .int y] (W0 d L) (qM d L (inB x (F.1 0 0) && inB y 2) (if iN y = 0 then nm0 F (iN x) 100 else nI (cF (fun h => decide (accI F h = nI (iN x))) 100)) (1)) := by
  have r1 := R.1
  have r2 := R.2.1
  have r3 := R.2.2.1
  refine Cn.intro gX12_named rfl (Nat.le_of_ble_eq_true rfl) rfl ?_
  repeat refine x_s rfl rfl ?_
  refine x_put rfl rfl (by decide) rfl ⟨rfl, rfl⟩ (Or.inl rfl) ?_
  have m0 : mS d (up2 d 112 0 0) := mS_0 0
  have z0 : up2 d 112 0 0 112 0 = 0 := up2_eq
  have H0 := HB_mS R H m0
  generalize hd0 : up2 d 112 0 0 = d0 at m0 z0 H0 ⊢
  repeat refine x_s rfl rfl ?_
  refine x_cv (k_isPerson d0 L z0 H0.1 (by omega) x) rfl rfl rfl (by decide) rfl (by decide) rfl (Nat.le_of_ble_eq_true rfl) (by decide) (by decide) (by decide) ?_
  rintro _ _ ⟨rfl, rfl⟩
  cases hb : inB x (F.1 0 0)
  · rw [if_neg (by decide)]
    refine x_br rfl rfl (fun c => ?_) (fun c => absurd c (fun z => z rfl))
    repeat refine x_s rfl rfl ?_
    exact x_iret rfl rfl rfl ⟨rfl, _, rfl, mS_f m0 (Or.inl rfl), rfl⟩
  rw [if_pos rfl]
  refine x_br rfl rfl (fun c => absurd c (by decide)) (fun c => ?_)
  repeat refine x_s rfl rfl ?_
  refine x_cv (k_isWhat d0 L z0 y (m := 1) (by decide)) rfl rfl rfl (by decide) rfl (by decide) rfl (Nat.le_of_ble_eq_true rfl) (by decide) (by decide) (by decide) ?_
  rintro _ _ ⟨rfl, rfl⟩
  cases hb2 : inB y 2
  · rw [if_neg (by decide)]
    refine x_br rfl rfl (fun c => absurd c (fun z => z rfl)) (fun c => ?_)
    repeat refine x_s rfl rfl ?_
    exact x_iret rfl rfl rfl ⟨rfl, _, rfl, mS_f m0 (Or.inl rfl), rfl⟩
  rw [if_pos rfl]
  refine x_br rfl rfl (fun c => ?_) (fun c => absurd c (fun z => absurd z (by decide)))
  obtain ⟨q1, q2, q3⟩ := inB_iN hb
  generalize iN x = p at q1 q2 q3 ⊢
  subst q2
  obtain ⟨s1, s2, s3⟩ := inB_iN hb2
  generalize iN y = w at s1 s2 s3 ⊢
  subst s2
  repeat refine x_s rfl rfl ?_
  refine x_cv (k_lays0 d0 L H0 R true) rfl rfl rfl (by decide) rfl (by decide) rfl (Nat.le_of_ble_eq_true rfl) (by decide) (by decide) (by decide) ?_
  rintro _ _ ⟨rfl, d1, rfl, m1, t1, H1⟩
  rw [if_pos rfl, fst0_self] at H1
  have M1 := mS_tr m0 m1
  have T1 : d1 112 0 = 0 := t1.trans z0
  have RM1 := RM_of R
  have lp : ∀ k, k ≤ 100 → ∀ a, a = (if w = 0 then nm0 F p k else nI (cF (fun h => decide (accI F h = nI p)) k)) → ∀ d2, sm [130, 131, 138] d1 d2 → ∀ o, Ex mX12_named false 12 0 0 34 [some (.ref 112), some (.int (nI p)), some (.int (nI w)), some (.int a), some (.int (nI k)), o] [] (W0 d2 L) (qM d L true (if w = 0 then nm0 F p 100 else nI (cF (fun h => decide (accI F h = nI p)) 100)) 1) nX := by
    refine x_down _ ?_ ?_
    · intro a ha d2 hs2 o
      repeat refine x_s rfl rfl ?_
      refine x_br rfl rfl (fun c => ?_) (fun c => absurd c (fun z => z (by decide)))
      repeat refine x_s rfl rfl ?_
      exact x_iret rfl rfl rfl ⟨by rw [ha]; rfl, d2, rfl, mS_go M1 hs2 (by decide) (by decide) (by decide) (by decide) (by decide), by rw [hs2 112 (by decide)]; exact T1⟩
    · intro k hk ih a ha d2 hs2 o
      repeat refine x_s rfl rfl ?_
      refine x_br rfl rfl (fun c => absurd c (nI_ge (b := 100) hk (by decide))) (fun c => ?_)
      repeat refine x_s rfl rfl ?_
      refine x_cv (k_laysShown d2 L (HL_sm H1 hs2 (by decide)) RM1 hk) rfl rfl rfl (by decide) rfl (by decide) rfl (Nat.le_of_ble_eq_true rfl) (by decide) (by decide) (by decide) ?_
      rintro _ _ ⟨rfl, d3, rfl, hs3, hv⟩
      have hs23 := sm_go hs2 hs3
      have H3 := HL_sm H1 hs23 (by decide)
      have tail : ∀ (b : Int32) (d4 : Nat → Nat → Int32), sm [130, 131, 138] d1 d4 → (∀ n, n < F.1 4 0 → d4 138 n = sh F n k) → b = (if w = 0 then a else nI (cF (fun h => decide (accI F h = nI p)) (k + 1))) → ∀ m, m ≤ F.1 4 0 → ∀ c, (w = 0 → c = nm0 F p k + nI (cF (fun n => pt F n p (sh F n k)) m)) → (¬ w = 0 → c = b) → Ex mX12_named false 12 0 0 75 [some (.ref 112), some (.int (nI p)), some (.int (nI w)), some (.int c), some (.int (nI k)), some (.int (nI m))] [] (W0 d4 L) (qM d L true (if w = 0 then nm0 F p 100 else nI (cF (fun h => decide (accI F h = nI p)) 100)) 1) nX := by
        intro b d4 hs4 hv4 hb
        have H4 := HL_sm H1 hs4 (by decide)
        refine x_down _ ?_ ?_
        · intro c h1 h2
          repeat refine x_s rfl rfl ?_
          refine x_br rfl rfl (fun c => ?_) (fun c => absurd c (fun z => z (lp_x H4.2.1)))
          iterate 2 refine x_s rfl rfl ?_
          rw [nI_1]
          refine ih _ ?_ d4 hs4 _
          by_cases hw : w = 0
          · rw [if_pos hw, h1 hw, nm0_eq R]
          · rw [if_neg hw, h2 hw, hb, if_neg hw]
        · intro m hm ih2 c h1 h2
          repeat refine x_s rfl rfl ?_
          refine x_br rfl rfl (fun c => absurd c (lp_c H4.2.1 hm (by omega))) (fun c => ?_)
          repeat refine x_s rfl rfl ?_
          refine x_br rfl rfl (fun c1 => ?_) (fun c1 => ?_)
          · have hw : ¬ w = 0 := fun z => c1 (by rw [z]; rfl)
            iterate 2 refine x_s rfl rfl ?_
            rw [nI_1]
            refine ih _ ?_ d4 hs4 _
            rw [if_neg hw, h2 hw, hb, if_neg hw]
          · have hw : w = 0 := (nI_eq (b := 0) (by omega) (by omega)).mp c1
            repeat refine x_s rfl rfl ?_
            refine x_ald rfl rfl rfl (k := m) (rfl) (by omega) (by decide) rfl ?_
            rw [hv4 m hm]
            refine x_cv (k_isPointed d4 L H4 RM1 (n := m) (p := p) (Or.inl hm) (Or.inl q1) (sh F m k)) rfl rfl rfl (by decide) rfl (by decide) rfl (Nat.le_of_ble_eq_true rfl) (by decide) (by decide) (by decide) ?_
            rintro _ _ ⟨rfl, rfl⟩
            refine x_br rfl rfl (fun c2 => ?_) (fun c2 => ?_)
            · iterate 5 refine x_s rfl rfl ?_
              rw [nI_1]
              refine ih2 _ (fun _ => ?_) (fun q => absurd hw q)
              rw [h1 hw, cF, if_neg (by simp [bI_0.mp c2])]
              exact Int32.add_zero _
            · iterate 6 refine x_s rfl rfl ?_
              rw [nI_1 m]
              refine ih2 _ (fun _ => ?_) (fun q => absurd hw q)
              rw [h1 hw, cF, if_pos (by simp [bI_n0.mp c2]), ← nI_1, Int32.add_assoc]
      repeat refine x_s rfl rfl ?_
      refine x_br rfl rfl (fun c1 => ?_) (fun c1 => ?_)
      · have hw1 : ¬ w = 1 := fun z => c1 (by rw [z]; rfl)
        have hw : w = 0 := by omega
        rw [if_pos hw] at ha
        iterate 2 refine x_s rfl rfl ?_
        exact tail a d3 hs23 hv (by rw [if_pos hw]) 0 (Nat.zero_le _) a (fun _ => by rw [ha]; exact (Int32.add_zero _).symm) (fun _ => rfl)
      · have hw1 : w = 1 := (nI_eq (b := 1) (by omega) (by omega)).mp c1
        have hw : ¬ w = 0 := by omega
        rw [if_neg hw] at ha
        repeat refine x_s rfl rfl ?_
        refine x_cv (k_accusedBy d3 L H3 RM1 hv hk 63) rfl rfl rfl (by decide) rfl (by decide) rfl (Nat.le_of_ble_eq_true rfl) (by decide) (by decide) (by decide) ?_
        rintro _ _ ⟨rfl, d4, rfl, hs4⟩
        have hs24 := sm_go hs23 (sm_in hs4 (by decide))
        have hv4 : ∀ n, n < F.1 4 0 → d4 138 n = sh F n k := by rw [hs4 138 (by decide)]; exact hv
        have eA : acc F (fun n => sh F n k) (sai F k) k (bt 63) = accI F k := acc_cong (fun _ _ => rfl) (fun _ _ => rfl) (fun n hn => b_63 n (by omega))
        rw [eA]
        repeat refine x_s rfl rfl ?_
        refine x_br rfl rfl (fun c2 => ?_) (fun c2 => ?_)
        · have c3 : ¬ accI F k = nI p := c2
          iterate 5 refine x_s rfl rfl ?_
          refine tail _ d4 hs24 hv4 ?_ 0 (Nat.zero_le _) _ (fun q => absurd q hw) (fun _ => rfl)
          rw [if_neg hw, ha, cF, if_neg (by simpa using c3)]
          exact Int32.add_zero _
        · have c3 : accI F k = nI p := c2
          iterate 6 refine x_s rfl rfl ?_
          refine tail _ d4 hs24 hv4 ?_ 0 (Nat.zero_le _) _ (fun q => absurd q hw) (fun _ => rfl)
          rw [if_neg hw, ha, cF, if_pos (by simpa using c3), nI_1]
  iterate 4 refine x_s rfl rfl ?_
  exact lp 0 (Nat.zero_le _) 0 (by split <;> rfl) d1 sm_rfl _
set_option maxRecDepth 100000 in
set_option maxHeartbeats 1600000 in
theorem k_hasLied {xp xn : Bool} (H : HL d F xp xn) (R : RM F xp xn) {p h : Nat} (hp : p < F.1 0 0) (hh : h < 100) : Cn mX12_hasLied false 1 0 0 [.ref 112, .int (nI p), .int (nI h)] (W0 d L) (qP d L (bI (hasL F h p))) := by
  have r1 := R.1
  have r3 := R.2.2.1
  have lp : ∀ k, k ≤ F.1 9 0 → aF (fun s => decide (F.1 11 s = p) && (decide (0 < F.1 12 s) && decide (F.1 10 s < h + 1))) k = false → Ex mX12_hasLied false 1 0 0 2 [some (.ref 112), some (.int (nI p)), some (.int (nI h)), some (.int (nI k))] [] (W0 d L) (qP d L (bI (hasL F h p))) nX := by
    refine x_down _ ?_ ?_
    · intro ha
      repeat refine x_s rfl rfl ?_
      refine x_br rfl rfl (fun c => ?_) (fun c => absurd c (fun z => z (lp_x H.2.2.1)))
      repeat refine x_s rfl rfl ?_
      exact x_iret rfl rfl rfl ⟨by rw [hasL, ha]; rfl, rfl⟩
    · intro k hk ih ha
      have h6 := H.2.2.2.2.2.1 k hk
      have r6 := R.2.2.2.2.2 k hk
      have p11 := DP11 R r6.2.1
      repeat refine x_s rfl rfl ?_
      refine x_br rfl rfl (fun c => absurd c (lp_c H.2.2.1 hk (by omega))) (fun c => ?_)
      repeat refine x_s rfl rfl ?_
      refine x_ald rfl rfl rfl (k := k) (rfl) (by omega) (by decide) rfl ?_
      rw [h6.2.1]
      repeat refine x_s rfl rfl ?_
      refine x_br rfl rfl (fun c1 => ?_) (fun c1 => ?_)
      · have e : ¬ F.1 11 k = p := fun z => c1 (by rw [z])
        iterate 2 refine x_s rfl rfl ?_
        rw [nI_1]
        exact ih (aF_s0 ha (by simp [e]))
      · have e : F.1 11 k = p := (nI_eq (by omega) (by omega)).mp c1
        repeat refine x_s rfl rfl ?_
        refine x_ald rfl rfl rfl (k := k) (rfl) (by omega) (by decide) rfl ?_
        rw [h6.2.2]
        refine x_br rfl rfl (fun c2 => ?_) (fun c2 => ?_)
        · have e2 : ¬ 0 < F.1 12 k := fun z => absurd c2 (nI_nle z (by omega))
          iterate 2 refine x_s rfl rfl ?_
          rw [nI_1]
          exact ih (aF_s0 ha (by simp; omega))
        · have e2 : 0 < F.1 12 k := by
            rcases Nat.eq_zero_or_pos (F.1 12 k) with z | z
            · rw [z] at c2
              exact absurd (by decide) c2
            · exact z
          repeat refine x_s rfl rfl ?_
          refine x_ald rfl rfl rfl (k := k) (rfl) (by omega) (by decide) rfl ?_
          rw [h6.1]
          repeat refine x_s rfl rfl ?_
          refine x_br rfl rfl (fun c3 => ?_) (fun c3 => ?_)
          · have e3 : ¬ F.1 10 k < h + 1 := fun z => absurd c3 (nI_nlt (by omega) (by omega))
            iterate 2 refine x_s rfl rfl ?_
            rw [nI_1]
            exact ih (aF_s0 ha (by simp; omega))
          · have e3 : F.1 10 k < h + 1 := by
              rcases Nat.lt_or_ge h (F.1 10 k) with z | z
              · exact absurd (nI_lt z (by omega)) c3
              · omega
            repeat refine x_s rfl rfl ?_
            refine x_iret rfl rfl rfl ⟨?_, rfl⟩
            rw [hasL, aF_iff.mpr ⟨k, hk, by simp [e, e2]; omega⟩]
            rfl
  refine Cn.intro gX12_hasLied rfl (Nat.le_of_ble_eq_true rfl) rfl ?_
  iterate 2 refine x_s rfl rfl ?_
  exact lp 0 (Nat.zero_le _) rfl
set_option maxRecDepth 100000 in
set_option maxHeartbeats 1600000 in
theorem q_falsely (H : HB d F) (R : RG F) (x : Int32) : Cn mX12_falsely false 12 0 0 [.ref 112, .int x] (W0 d L) (qM d L (inB x (F.1 4 0)) (nI (cF (fls F (iN x)) 100)) (1)) := by
  have r1 := R.1
  have r2 := R.2.1
  have r3 := R.2.2.1
  refine Cn.intro gX12_falsely rfl (Nat.le_of_ble_eq_true rfl) rfl ?_
  repeat refine x_s rfl rfl ?_
  refine x_put rfl rfl (by decide) rfl ⟨rfl, rfl⟩ (Or.inl rfl) ?_
  have m0 : mS d (up2 d 112 0 0) := mS_0 0
  have z0 : up2 d 112 0 0 112 0 = 0 := up2_eq
  have H0 := HB_mS R H m0
  generalize hd0 : up2 d 112 0 0 = d0 at m0 z0 H0 ⊢
  repeat refine x_s rfl rfl ?_
  refine x_cv (k_isNeedle d0 L z0 H0.2.1 (by omega) x) rfl rfl rfl (by decide) rfl (by decide) rfl (Nat.le_of_ble_eq_true rfl) (by decide) (by decide) (by decide) ?_
  rintro _ _ ⟨rfl, rfl⟩
  cases hb : inB x (F.1 4 0)
  · rw [if_neg (by decide)]
    refine x_br rfl rfl (fun c => absurd c (fun z => z rfl)) (fun c => ?_)
    repeat refine x_s rfl rfl ?_
    exact x_iret rfl rfl rfl ⟨rfl, _, rfl, mS_f m0 (Or.inl rfl), rfl⟩
  rw [if_pos rfl]
  refine x_br rfl rfl (fun c => ?_) (fun c => absurd c (fun z => absurd z (by decide)))
  obtain ⟨q1, q2, q3⟩ := inB_iN hb
  generalize iN x = n at q1 q2 q3 ⊢
  subst q2
  repeat refine x_s rfl rfl ?_
  refine x_cv (k_lays0 d0 L H0 R true) rfl rfl rfl (by decide) rfl (by decide) rfl (Nat.le_of_ble_eq_true rfl) (by decide) (by decide) (by decide) ?_
  rintro _ _ ⟨rfl, d1, rfl, m1, t1, H1⟩
  rw [if_pos rfl, fst0_self] at H1
  have M1 := mS_tr m0 m1
  have T1 : d1 112 0 = 0 := t1.trans z0
  have RM1 := RM_of R
  have lp : ∀ k, k ≤ 100 → ∀ a, a = nI (cF (fls F n) k) → ∀ d2, sm [130, 131] d1 d2 → ∀ o1 o2 o3, Ex mX12_falsely false 12 0 0 24 [some (.ref 112), some (.int (nI n)), some (.int a), some (.int (nI k)), o1, o2, o3] [] (W0 d2 L) (qM d L true (nI (cF (fls F n) 100)) 1) nX := by
    refine x_down _ ?_ ?_
    · intro a ha d2 hs2 o1 o2 o3
      repeat refine x_s rfl rfl ?_
      refine x_br rfl rfl (fun c => ?_) (fun c => absurd c (fun z => z (by decide)))
      repeat refine x_s rfl rfl ?_
      exact x_iret rfl rfl rfl ⟨by rw [ha]; rfl, d2, rfl, mS_go M1 hs2 (by decide) (by decide) (by decide) (by decide) (by decide), by rw [hs2 112 (by decide)]; exact T1⟩
    · intro k hk ih a ha d2 hs2 o1 o2 o3
      repeat refine x_s rfl rfl ?_
      refine x_br rfl rfl (fun c => absurd c (nI_ge (b := 100) hk (by decide))) (fun c => ?_)
      repeat refine x_s rfl rfl ?_
      refine x_cv (k_pointedBy d2 L (HL_sm H1 hs2 (by decide)) RM1 q1 hk) rfl rfl rfl (by decide) rfl (by decide) rfl (Nat.le_of_ble_eq_true rfl) (by decide) (by decide) (by decide) ?_
      rintro _ _ ⟨rfl, d3, rfl, hs3⟩
      have hs23 := sm_go hs2 hs3
      have H3 := HL_sm H1 hs23 (by decide)
      have fe := fls_eq F R n k
      have lp2 : ∀ m, m ≤ F.1 0 0 → ∀ b, b = bI (aF (fun p => bt (pb F k n) p && hasL F k p) m) → Ex mX12_falsely false 12 0 0 44 [some (.ref 112), some (.int (nI n)), some (.int a), some (.int (nI k)), some (.int (pb F k n)), some (.int b), some (.int (nI m))] [] (W0 d3 L) (qM d L true (nI (cF (fls F n) 100)) 1) nX := by
        refine x_down _ ?_ ?_
        · intro b hb
          subst hb
          repeat refine x_s rfl rfl ?_
          refine x_br rfl rfl (fun c => ?_) (fun c => absurd c (fun z => z (lp_x H3.1)))
          repeat refine x_s rfl rfl ?_
          refine x_br rfl rfl (fun c1 => ?_) (fun c1 => ?_)
          · iterate 5 refine x_s rfl rfl ?_
            rw [nI_1]
            exact ih _ (by rw [ha, cF, if_neg (by rw [fe, show pb F k n = 0 from c1]; simp)]; exact Int32.add_zero _) d3 hs23 _ _ _
          · have c1' : ¬ pb F k n = 0 := c1
            repeat refine x_s rfl rfl ?_
            refine x_br rfl rfl (fun c2 => ?_) (fun c2 => ?_)
            · iterate 5 refine x_s rfl rfl ?_
              rw [nI_1]
              exact ih _ (by rw [ha, cF, if_neg (by rw [fe, bI_n0.mp c2]; simp)]; exact Int32.add_zero _) d3 hs23 _ _ _
            · iterate 6 refine x_s rfl rfl ?_
              rw [nI_1 k]
              exact ih _ (by rw [ha, cF, if_pos (by rw [fe, bI_0.mp c2, decide_eq_true c1']; rfl), nI_1]) d3 hs23 _ _ _
        · intro m hm ih2 b hb
          subst hb
          repeat refine x_s rfl rfl ?_
          refine x_br rfl rfl (fun c => absurd c (lp_c H3.1 hm (by omega))) (fun c => ?_)
          repeat refine x_s rfl rfl ?_
          refine x_br rfl rfl (fun c1 => ?_) (fun c1 => ?_)
          · iterate 5 refine x_s rfl rfl ?_
            rw [nI_1]
            exact ih2 1 (by rw [aF, bI_n0.mp c1]; rfl)
          · have f0 := bI_0.mp c1
            repeat refine x_s rfl rfl ?_
            refine x_br rfl rfl (fun c2 => ?_) (fun c2 => ?_)
            · have hbt : bt (pb F k n) m = false := by
                cases hq : bt (pb F k n) m
                · rfl
                · exact absurd ((bt_test1 (by omega)).mpr hq) c2
              iterate 4 refine x_s rfl rfl ?_
              rw [nI_1]
              exact ih2 0 (by rw [aF, f0, hbt]; rfl)
            · have hbt := (bt_test1 (by omega)).mp c2
              repeat refine x_s rfl rfl ?_
              refine x_cv (k_hasLied d3 L H3 RM1 hm hk) rfl rfl rfl (by decide) rfl (by decide) rfl (Nat.le_of_ble_eq_true rfl) (by decide) (by decide) (by decide) ?_
              rintro _ _ ⟨rfl, rfl⟩
              refine x_br rfl rfl (fun c3 => ?_) (fun c3 => ?_)
              · iterate 4 refine x_s rfl rfl ?_
                rw [nI_1]
                exact ih2 0 (by rw [aF, f0, hbt, bI_0.mp c3]; rfl)
              · iterate 5 refine x_s rfl rfl ?_
                rw [nI_1]
                exact ih2 1 (by rw [aF, f0, hbt, bI_n0.mp c3]; rfl)
      iterate 5 refine x_s rfl rfl ?_
      exact lp2 0 (Nat.zero_le _) 0 rfl
  iterate 4 refine x_s rfl rfl ?_
  exact lp 0 (Nat.zero_le _) 0 rfl d1 sm_rfl _ _ _
theorem HL_ru {xp xn : Bool} (H : HL d F xp xn) (n v : Nat) : HL (up2 d 137 n (nI v)) (ru F.1 n v, F.2) xp xn := by
  obtain ⟨h1, h2, h3, h4, h5, h6, h7, h8⟩ := H
  refine ⟨h1, h2, h3, h4, fun m hm => ?_, h6, h7, h8⟩
  have q := h5 m hm
  refine ⟨q.1, q.2.1, q.2.2.1, ?_⟩
  show (if m = n then nI v else d 137 m) = nI (if m = n then v else F.1 8 m)
  by_cases e : m = n
  · simp [e]
  · simp only [if_neg e]
    exact q.2.2.2
theorem RM_ru {xp xn : Bool} (R : RM F xp xn) {n v : Nat} (hv : v ≤ 9) : RM (ru F.1 n v, F.2) xp xn := by
  obtain ⟨r1, r2, r3, r4, r5, r6⟩ := R
  refine ⟨r1, r2, r3, r4, fun m hm => ?_, r6⟩
  have q := r5 m hm
  refine ⟨q.1, q.2.1, q.2.2.1, ?_⟩
  show (if m = n then v else F.1 8 m) ≤ 9
  split
  · exact hv
  · exact q.2.2.2
theorem ru_ru (f : Nat → Nat → Nat) (n v w : Nat) : ru (ru f n v) n w = ru f n w := by
  funext a b
  unfold ru up2
  split
  · split <;> rfl
  · rfl
set_option maxRecDepth 100000 in
set_option maxHeartbeats 1600000 in
theorem q_rusted (H : HB d F) (R : RG F) (x : Int32) : Cn mX12_rusted false 12 0 0 [.ref 112, .int x] (W0 d L) (qM d L (inB x (F.1 4 0)) (fF (fun v => decide (bF (hu F (iN x) v) (F.1 9 0) = 0)) 0 10) (1)) := by
  have r1 := R.1
  have r2 := R.2.1
  have r3 := R.2.2.1
  refine Cn.intro gX12_rusted rfl (Nat.le_of_ble_eq_true rfl) rfl ?_
  repeat refine x_s rfl rfl ?_
  refine x_put rfl rfl (by decide) rfl ⟨rfl, rfl⟩ (Or.inl rfl) ?_
  have m0 : mS d (up2 d 112 0 0) := mS_0 0
  have z0 : up2 d 112 0 0 112 0 = 0 := up2_eq
  have H0 := HB_mS R H m0
  generalize hd0 : up2 d 112 0 0 = d0 at m0 z0 H0 ⊢
  repeat refine x_s rfl rfl ?_
  refine x_cv (k_isNeedle d0 L z0 H0.2.1 (by omega) x) rfl rfl rfl (by decide) rfl (by decide) rfl (Nat.le_of_ble_eq_true rfl) (by decide) (by decide) (by decide) ?_
  rintro _ _ ⟨rfl, rfl⟩
  cases hb : inB x (F.1 4 0)
  · rw [if_neg (by decide)]
    refine x_br rfl rfl (fun c => absurd c (fun z => z rfl)) (fun c => ?_)
    repeat refine x_s rfl rfl ?_
    exact x_iret rfl rfl rfl ⟨rfl, _, rfl, mS_f m0 (Or.inl rfl), rfl⟩
  rw [if_pos rfl]
  refine x_br rfl rfl (fun c => ?_) (fun c => absurd c (fun z => absurd z (by decide)))
  obtain ⟨q1, q2, q3⟩ := inB_iN hb
  generalize iN x = n at q1 q2 q3 ⊢
  subst q2
  repeat refine x_s rfl rfl ?_
  refine x_cv (k_lays0 d0 L H0 R true) rfl rfl rfl (by decide) rfl (by decide) rfl (Nat.le_of_ble_eq_true rfl) (by decide) (by decide) (by decide) ?_
  rintro _ _ ⟨rfl, d1, rfl, m1, t1, H1⟩
  rw [if_pos rfl, fst0_self] at H1
  have M1 := mS_tr m0 m1
  have T1 : d1 112 0 = 0 := t1.trans z0
  have RM1 := RM_of R
  have lp : ∀ v, v ≤ 10 → ∀ V, V = fF (fun v => decide (bF (hu F n v) (F.1 9 0) = 0)) v (10 - v) → ∀ d2, mS d d2 → d2 112 0 = 0 → (∃ u, HL d2 (ru F.1 n u, F.2) false false) → ∀ o1 o2, Ex mX12_rusted false 12 0 0 22 [some (.ref 112), some (.int (nI n)), some (.int (nI v)), o1, o2] [] (W0 d2 L) (qM d L true V 1) nX := by
    refine x_down _ ?_ ?_
    · intro V hV d2 M2 T2 _ o1 o2
      repeat refine x_s rfl rfl ?_
      refine x_br rfl rfl (fun c => ?_) (fun c => absurd c (fun z => z (by decide)))
      repeat refine x_s rfl rfl ?_
      exact x_iret rfl rfl rfl ⟨by rw [hV]; rfl, d2, rfl, M2, T2⟩
    · intro v hv ih V hV d2 M2 T2 hu0 o1 o2
      obtain ⟨u, H2⟩ := hu0
      repeat refine x_s rfl rfl ?_
      refine x_br rfl rfl (fun c => absurd c (nI_nlt (a := 9) (by omega) (by omega))) (fun c => ?_)
      repeat refine x_s rfl rfl ?_
      refine x_iast rfl rfl (k := n) (rfl) (by omega) (by decide) rfl ?_
      have H3 := HL_ru d2 H2 n v
      rw [ru_ru] at H3
      have M3 : mS d (up2 d2 137 n (nI v)) := mS_c M2 (by decide)
      have T3 : (up2 d2 137 n (nI v)) 112 0 = 0 := T2
      generalize up2 d2 137 n (nI v) = d3 at H3 M3 T3 ⊢
      have RM3 := RM_ru (n := n) (v := v) RM1 (by omega)
      have he : bF (hu F n v) (F.1 9 0) = 0 ↔ aF (hu F n v) (F.1 9 0) = false := bF_aF (by omega)
      have lp2 : ∀ k, k ≤ F.1 9 0 → ∀ b, b = bI (aF (hu F n v) k) → ∀ d4, sm [130, 131] d3 d4 → Ex mX12_rusted false 12 0 0 40 [some (.ref 112), some (.int (nI n)), some (.int (nI v)), some (.int b), some (.int (nI k))] [] (W0 d4 L) (qM d L true V 1) nX := by
        refine x_down _ ?_ ?_
        · intro b hb d4 hs4
          have H4 := HL_sm H3 hs4 (by decide)
          have M4 := mS_go M3 hs4 (by decide) (by decide) (by decide) (by decide) (by decide)
          have T4 : d4 112 0 = 0 := by rw [hs4 112 (by decide)]; exact T3
          subst hb
          repeat refine x_s rfl rfl ?_
          refine x_br rfl rfl (fun c => ?_) (fun c => absurd c (fun z => z (lp_x H4.2.2.1)))
          repeat refine x_s rfl rfl ?_
          refine x_br rfl rfl (fun c1 => ?_) (fun c1 => ?_)
          · iterate 2 refine x_s rfl rfl ?_
            rw [nI_1]
            exact ih _ (hV.trans (fF_f hv (decide_eq_false (fun z => by rw [he.mp z] at c1; exact c1 rfl)))) d4 M4 T4 ⟨v, H4⟩ _ _
          · repeat refine x_s rfl rfl ?_
            exact x_iret rfl rfl rfl ⟨by rw [hV.trans (fF_t hv (decide_eq_true (he.mpr (bI_0.mp c1))))]; rfl, d4, rfl, M4, T4⟩
        · intro k hk ih2 b hb d4 hs4
          have H4 := HL_sm H3 hs4 (by decide)
          subst hb
          repeat refine x_s rfl rfl ?_
          refine x_br rfl rfl (fun c => absurd c (lp_c H4.2.2.1 hk (show F.1 9 0 < 1000000 by omega))) (fun c => ?_)
          repeat refine x_s rfl rfl ?_
          refine x_br rfl rfl (fun c1 => ?_) (fun c1 => ?_)
          · iterate 5 refine x_s rfl rfl ?_
            rw [nI_1]
            exact ih2 1 (by rw [aF, bI_n0.mp c1]; rfl) d4 hs4
          · have f0 := bI_0.mp c1
            repeat refine x_s rfl rfl ?_
            refine x_cv (k_hears d4 L H4 RM3 (n := n) (s := k) (Or.inl q1) hk) rfl rfl rfl (by decide) rfl (by decide) rfl (Nat.le_of_ble_eq_true rfl) (by decide) (by decide) (by decide) ?_
            rintro _ _ ⟨rfl, d5, rfl, hs5⟩
            rw [hr_ru]
            refine x_br rfl rfl (fun c2 => ?_) (fun c2 => ?_)
            · iterate 4 refine x_s rfl rfl ?_
              rw [nI_1]
              exact ih2 0 (by rw [aF, f0, bI_0.mp c2]; rfl) d5 (sm_go hs4 hs5)
            · iterate 5 refine x_s rfl rfl ?_
              rw [nI_1]
              exact ih2 1 (by rw [aF, f0, bI_n0.mp c2]; rfl) d5 (sm_go hs4 hs5)
      iterate 4 refine x_s rfl rfl ?_
      exact lp2 0 (Nat.zero_le _) 0 rfl d3 sm_rfl
  iterate 2 refine x_s rfl rfl ?_
  refine lp 0 (Nat.zero_le _) _ rfl d1 M1 T1 ⟨F.1 8 n, ?_⟩ _ _
  rw [show (ru F.1 n (F.1 8 n), F.2) = F from by unfold ru; rw [up2_self]]
  exact H1
end
