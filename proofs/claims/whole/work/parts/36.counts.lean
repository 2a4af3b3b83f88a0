/-! WATCH: quivers, worth, liars -/
section
variable (d : Nat → Nat → Int32) (L : Nat → Nat → Int64) {F : Fr}
set_option maxRecDepth 100000 in
set_option maxHeartbeats 8000000 in
theorem c_quivers (R : RG F) (K : HW d F) {n : Nat} (hn : n < F.1 4 0) : Cn mX9_quivers false 1 0 0 [.ref 23, .int (nI n)] (W0 d L) (qP d L (nI (cF (fun j => decide (sh F n (j + 1) ≠ sh F n j)) 99))) := by
  have r2 := R.2.1
  have k1 := (K.1 n hn).2.1
  have lp : ∀ k, k ≤ 99 → ∀ a, a = nI (cF (fun j => decide (sh F n (j + 1) ≠ sh F n j)) k) → Ex mX9_quivers false 1 0 0 4 [some (.ref 23), some (.int (nI n)), some (.int a), some (.int (nI (k + 1)))] [] (W0 d L) (qP d L (nI (cF (fun j => decide (sh F n (j + 1) ≠ sh F n j)) 99))) nX := by
    refine x_down _ ?_ ?_
    · intro a ha
      repeat refine x_s rfl rfl ?_
      refine x_br rfl rfl (fun c => ?_) (fun c => absurd c (fun z => z (by decide)))
      repeat refine x_s rfl rfl ?_
      exact x_iret rfl rfl rfl ⟨by rw [ha], rfl⟩
    · intro k hk ih a ha
      repeat refine x_s rfl rfl ?_
      refine x_br rfl rfl (fun c => absurd c (nI_ge (b := 100) (by omega) (by decide))) (fun c => ?_)
      repeat refine x_s rfl rfl ?_
      refine x_ald rfl rfl rfl (k := n) rfl (by omega) (by decide) (xav_rows (by omega)) ?_
      repeat refine x_s rfl rfl ?_
      refine x_ald rfl (SH_rows (by omega)) rfl (k := k + 1) (rfl) (by omega) (by decide) rfl ?_
      repeat refine x_s rfl rfl ?_
      refine x_ald rfl rfl rfl (k := n) rfl (by omega) (by decide) (xav_rows (by omega)) ?_
      repeat refine x_s rfl rfl ?_
      refine x_ald rfl (SH_rows (by omega)) rfl (k := k) (nI_pred k) (by omega) (by decide) rfl ?_
      rw [(k1 k (by omega)).1, (k1 (k + 1) (by omega)).1]
      refine x_br rfl rfl (fun c => ?_) (fun c => ?_)
      · have hb : sh F n (k + 1) = sh F n k := c
        iterate 2 refine x_s rfl rfl ?_
        rw [nI_1]
        exact ih _ (by simp [cF, hb, ha])
      · have hb : ¬ sh F n (k + 1) = sh F n k := c
        iterate 3 refine x_s rfl rfl ?_
        rw [nI_1]
        exact ih _ (by simp [cF, hb, ha, nI_1])
  refine Cn.intro gX9_quivers rfl (Nat.le_of_ble_eq_true rfl) rfl ?_
  iterate 4 refine x_s rfl rfl ?_
  exact lp 0 (Nat.zero_le _) 0 rfl
set_option maxRecDepth 100000 in
set_option maxHeartbeats 8000000 in
theorem c_turnedIn (H : HC d F) (R : RG F) (K : HW d F) {h : Nat} (hh : h + 1 < 100) : Cn mX9_turnedIn false 1 0 0 [.ref 23, .int (nI (h + 1))] (W0 d L) (qP d L (nI (cF (fun n => decide (sh F n (h + 1) ≠ sh F n h)) (F.1 4 0)))) := by
  have r2 := R.2.1
  have lp : ∀ k, k ≤ F.1 4 0 → ∀ a, a = nI (cF (fun n => decide (sh F n (h + 1) ≠ sh F n h)) k) → Ex mX9_turnedIn false 1 0 0 4 [some (.ref 23), some (.int (nI (h + 1))), some (.int a), some (.int (nI k))] [] (W0 d L) (qP d L (nI (cF (fun n => decide (sh F n (h + 1) ≠ sh F n h)) (F.1 4 0)))) nX := by
    refine x_down _ ?_ ?_
    · intro a ha
      repeat refine x_s rfl rfl ?_
      refine x_br rfl rfl (fun c => ?_) (fun c => absurd c (fun z => z (lp_x H.2.1)))
      repeat refine x_s rfl rfl ?_
      exact x_iret rfl rfl rfl ⟨by rw [ha], rfl⟩
    · intro k hk ih a ha
      have k1 := (K.1 k hk).2.1
      repeat refine x_s rfl rfl ?_
      refine x_br rfl rfl (fun c => absurd c (lp_c H.2.1 hk (by omega))) (fun c => ?_)
      repeat refine x_s rfl rfl ?_
      refine x_br rfl rfl (fun c => absurd c (nI_nle (by omega) (by omega))) (fun c => ?_)
      repeat refine x_s rfl rfl ?_
      refine x_ald rfl rfl rfl (k := k) rfl (by omega) (by decide) (xav_rows (by omega)) ?_
      repeat refine x_s rfl rfl ?_
      refine x_ald rfl (SH_rows (by omega)) rfl (k := h + 1) (rfl) (by omega) (by decide) rfl ?_
      repeat refine x_s rfl rfl ?_
      refine x_ald rfl rfl rfl (k := k) rfl (by omega) (by decide) (xav_rows (by omega)) ?_
      repeat refine x_s rfl rfl ?_
      refine x_ald rfl (SH_rows (by omega)) rfl (k := h) (nI_pred h) (by omega) (by decide) rfl ?_
      rw [(k1 h (by omega)).1, (k1 (h + 1) (by omega)).1]
      refine x_br rfl rfl (fun c => ?_) (fun c => ?_)
      · have hb : sh F k (h + 1) = sh F k h := c
        iterate 2 refine x_s rfl rfl ?_
        rw [nI_1]
        exact ih _ (by simp [cF, hb, ha])
      · have hb : ¬ sh F k (h + 1) = sh F k h := c
        iterate 3 refine x_s rfl rfl ?_
        rw [nI_1 k]
        exact ih _ (by simp [cF, hb, ha, nI_1])
  refine Cn.intro gX9_turnedIn rfl (Nat.le_of_ble_eq_true rfl) rfl ?_
  iterate 4 refine x_s rfl rfl ?_
  exact lp 0 (Nat.zero_le _) 0 rfl
set_option maxRecDepth 100000 in
set_option maxHeartbeats 8000000 in
theorem c_worth (H : HC d F) (R : RG F) (K : HW d F) {n : Nat} (hn : n < F.1 4 0) : Cn mX9_worth false 1 0 0 [.ref 23, .int (nI n)] (W0 d L) (qP d L (wo F n (F.1 9 0))) := by
  have r1 := R.1
  have r2 := R.2.1
  have r3 := R.2.2.1
  have k1 := K.1 n hn
  have lp : ∀ k, k ≤ F.1 9 0 → ∀ a, a = wo F n k → Ex mX9_worth false 1 0 0 13 [some (.ref 23), some (.int (nI n)), some (.ref 34), some (.int a), some (.int (nI k))] [] (W0 d L) (qP d L (wo F n (F.1 9 0))) nX := by
    refine x_down _ ?_ ?_
    · intro a ha
      repeat refine x_s rfl rfl ?_
      refine x_br rfl rfl (fun c => ?_) (fun c => absurd c (fun z => z (lp_x H.2.2.1)))
      repeat refine x_s rfl rfl ?_
      exact x_iret rfl rfl rfl ⟨by rw [ha], rfl⟩
    · intro k hk ih a ha
      have h5 := H.2.2.2.2.2.1 k hk
      have r6 := R.2.2.2.2.2 k hk
      have hb := bF_bt (hr F n) (F.1 9 0) k (by omega)
      rw [decide_eq_true hk, Bool.true_and] at hb
      repeat refine x_s rfl rfl ?_
      refine x_br rfl rfl (fun c => absurd c (lp_c H.2.2.1 hk (by omega))) (fun c => ?_)
      repeat refine x_s rfl rfl ?_
      refine x_ald rfl rfl rfl (k := n) (rfl) (by omega) (by decide) rfl ?_
      rw [k1.1]
      repeat refine x_s rfl rfl ?_
      refine x_br rfl rfl (fun c => ?_) (fun c => ?_)
      · have hc := hb.symm.trans ((bt_test (by omega)).mp c)
        iterate 2 refine x_s rfl rfl ?_
        rw [nI_1]
        exact ih _ (by simp [wo, hc, ha])
      · have hc : hr F n k = true := by
          cases hc : hr F n k
          · exact absurd ((bt_test (by omega)).mpr (hb.trans hc)) c
          · rfl
        repeat refine x_s rfl rfl ?_
        refine x_ald rfl rfl rfl (k := n) rfl (by omega) (by decide) (xav_sides (by omega)) ?_
        repeat refine x_s rfl rfl ?_
        refine x_ald rfl rfl rfl (k := k) (rfl) (by omega) (by decide) rfl ?_
        rw [h5.2.1]
        refine x_ald rfl (SH_sides (by omega)) rfl (k := F.1 11 k) (rfl) (by omega) (by decide) rfl ?_
        repeat refine x_s rfl rfl ?_
        refine x_ald rfl rfl rfl (k := n) rfl (by omega) (by decide) (xav_rows (by omega)) ?_
        repeat refine x_s rfl rfl ?_
        refine x_ald rfl rfl rfl (k := k) (rfl) (by omega) (by decide) rfl ?_
        rw [h5.1]
        refine x_ald rfl (SH_rows (by omega)) rfl (k := F.1 10 k) (rfl) (by omega) (by decide) rfl ?_
        rw [(k1.2.1 _ r6.1).1, k1.2.2 _ r6.2.1]
        refine x_br rfl rfl (fun c2 => ?_) (fun c2 => ?_)
        · have c3 : ¬ sid F n (F.1 11 k) = sh F n (F.1 10 k) := c2
          iterate 5 refine x_s rfl rfl ?_
          rw [nI_1]
          exact ih _ (by simp [wo, hc, ha, c3])
        · have c3 : sid F n (F.1 11 k) = sh F n (F.1 10 k) := c2
          iterate 6 refine x_s rfl rfl ?_
          rw [nI_1]
          exact ih _ (by simp [wo, hc, ha, c3])
  refine Cn.intro gX9_worth rfl (Nat.le_of_ble_eq_true rfl) rfl ?_
  iterate 8 refine x_s rfl rfl ?_
  exact lp 0 (Nat.zero_le _) 0 rfl
set_option maxRecDepth 100000 in
set_option maxHeartbeats 8000000 in
theorem c_liarsIn (H : HC d F) (R : RG F) {h : Nat} (hh : h < 100) : Cn mX9_liarsIn false 1 0 0 [.ref 23, .int (nI h)] (W0 d L) (qP d L (lii F h (F.1 9 0))) := by
  have r1 := R.1
  have r3 := R.2.2.1
  have lp : ∀ k, k ≤ F.1 9 0 → ∀ a, a = lii F h k → Ex mX9_liarsIn false 1 0 0 13 [some (.ref 23), some (.int (nI h)), some (.ref 34), some (.int a), some (.int (nI k))] [] (W0 d L) (qP d L (lii F h (F.1 9 0))) nX := by
    refine x_down _ ?_ ?_
    · intro a ha
      repeat refine x_s rfl rfl ?_
      refine x_br rfl rfl (fun c => ?_) (fun c => absurd c (fun z => z (lp_x H.2.2.1)))
      repeat refine x_s rfl rfl ?_
      exact x_iret rfl rfl rfl ⟨by rw [ha], rfl⟩
    · intro k hk ih a ha
      have h5 := H.2.2.2.2.2.1 k hk
      have r6 := R.2.2.2.2.2 k hk
      repeat refine x_s rfl rfl ?_
      refine x_br rfl rfl (fun c => absurd c (lp_c H.2.2.1 hk (by omega))) (fun c => ?_)
      repeat refine x_s rfl rfl ?_
      refine x_ald rfl rfl rfl (k := k) (rfl) (by omega) (by decide) rfl ?_
      rw [h5.1]
      repeat refine x_s rfl rfl ?_
      refine x_br rfl rfl (fun c => ?_) (fun c => ?_)
      · have hc : ¬ F.1 10 k = h := fun z => c (by rw [z])
        iterate 2 refine x_s rfl rfl ?_
        rw [nI_1]
        exact ih _ (by simp [lii, hc, ha])
      · have hc : F.1 10 k = h := (nI_eq (by omega) (by omega)).mp c
        repeat refine x_s rfl rfl ?_
        refine x_ald rfl rfl rfl (k := k) (rfl) (by omega) (by decide) rfl ?_
        rw [h5.2.2]
        refine x_br rfl rfl (fun c2 => ?_) (fun c2 => ?_)
        · have c3 : ¬ 0 < F.1 12 k := fun z => absurd c2 (nI_nle z (by omega))
          iterate 2 refine x_s rfl rfl ?_
          rw [nI_1]
          exact ih _ (by simp [lii, hc, ha]; omega)
        · have c3 : 0 < F.1 12 k := by
            rcases Nat.eq_zero_or_pos (F.1 12 k) with z | z
            · rw [z] at c2
              exact absurd (by decide) c2
            · exact z
          repeat refine x_s rfl rfl ?_
          refine x_ald rfl rfl rfl (k := k) (rfl) (by omega) (by decide) rfl ?_
          rw [h5.2.1]
          iterate 5 refine x_s rfl rfl ?_
          rw [nI_1]
          exact ih _ (by simp [lii, hc, ha, c3])
  refine Cn.intro gX9_liarsIn rfl (Nat.le_of_ble_eq_true rfl) rfl ?_
  iterate 8 refine x_s rfl rfl ?_
  exact lp 0 (Nat.zero_le _) 0 rfl
end
