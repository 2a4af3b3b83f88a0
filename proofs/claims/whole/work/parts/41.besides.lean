/-! WATCH: what would be shown -/
theorem aF_s0 {f : Nat → Bool} {k : Nat} (ha : aF f k = false) (hf : f k = false) : aF f (k + 1) = false := by
  rw [aF, ha, hf]
  rfl
section
variable (d : Nat → Nat → Int32) (L : Nat → Nat → Int64) {F : Fr}
set_option maxRecDepth 100000 in
set_option maxHeartbeats 8000000 in
theorem c_shownBesidesLies (H : HC d F) (R : RG F) (K : HW d F) {n ho : Nat} (hn : n < F.1 4 0) (hh : ho < 100) (h6 : H67 d F 9 ho) (h7 : H71 d F ho) (y : Int32) : Cn mX9_shownBesidesLies false 4 0 0 [.ref 23, .int (nI n), .int (nI ho), .int y] (W0 d L) (qS [69] d L (sBL F n ho y)) := by
  have r1 := R.1
  have r2 := R.2.1
  have r3 := R.2.2.1
  have wb := wx_b R hn (Bh F n ho) (F.1 9 0) (Nat.le_refl _)
  have lp : ∀ k, k ≤ F.1 0 0 → ∀ d1, sm [69] d d1 → HY d1 69 (wx F n (Bh F n ho) (F.1 9 0) + ax F n (Cy F n ho y) k) (wy F n (Bh F n ho) (F.1 9 0) + ay F n (Cy F n ho y) k) (wm F n (Bh F n ho) (F.1 9 0) || am F n (Cy F n ho y) k) → ∀ a, a = bI (aF (Cy F n ho y) k) → Ex mX9_shownBesidesLies false 4 0 0 19 [some (.ref 23), some (.int (nI n)), some (.int (nI ho)), some (.int y), some (.int a), some (.int (nI k))] [] (W0 d1 L) (qS [69] d L (sBL F n ho y)) nX := by
    refine x_down _ ?_ ?_
    · intro d1 hs hy a ha
      have H1 := HC_sm H hs (by decide)
      have K1 := HW_sm R K hs (by decide)
      subst ha
      repeat refine x_s rfl rfl ?_
      refine x_br rfl rfl (fun c => ?_) (fun c => absurd c (fun z => z (lp_x H1.1)))
      repeat refine x_s rfl rfl ?_
      refine x_br rfl rfl (fun c => ?_) (fun c => ?_)
      · have hc := bI_0.mp c
        repeat refine x_s rfl rfl ?_
        refine x_ald rfl rfl rfl (k := n) rfl (by omega) (by decide) (xav_rows (by omega)) ?_
        repeat refine x_s rfl rfl ?_
        refine x_ald rfl (SH_rows (by omega)) rfl (k := ho) (rfl) (by omega) (by decide) rfl ?_
        rw [((K1.1 n hn).2.1 ho hh).1]
        refine x_iret rfl rfl rfl ⟨?_, d1, rfl, hs⟩
        simp [sBL, hc]
      · have hc := bI_n0.mp c
        repeat refine x_s rfl rfl ?_
        refine x_cv (c_W_sign d1 L hy) rfl rfl rfl (by decide) rfl (by decide) rfl (Nat.le_of_ble_eq_true rfl) (by decide) (by decide) (by decide) ?_
        rintro _ _ ⟨rfl, rfl⟩
        repeat refine x_s rfl rfl ?_
        refine x_iret rfl rfl rfl ⟨?_, d1, rfl, hs⟩
        simp [sBL, hc]
    · intro k hk ih d1 hs hy a ha
      have H1 := HC_sm H hs (by decide)
      have hb := bF_bt (fun n => hl F n k 9 ho) (F.1 4 0) n (by omega)
      rw [decide_eq_true hn, Bool.true_and] at hb
      have ab := ax_b R hn (Cy F n ho y) k (by omega)
      have h6' := H67_sm h6 hs (by decide)
      repeat refine x_s rfl rfl ?_
      refine x_br rfl rfl (fun c => absurd c (lp_c H1.1 hk (by omega))) (fun c => ?_)
      repeat refine x_s rfl rfl ?_
      refine x_br rfl rfl (fun c => ?_) (fun c => ?_)
      · have hc : Cy F n ho y k = false := by simp [Cy, (bt_test (by omega)).mp c]
        iterate 2 refine x_s rfl rfl ?_
        rw [nI_1]
        exact ih d1 hs (by simpa [ax, ay, am, hc] using hy) _ (by simp [aF, hc, ha])
      · have hc1 : bt y k = true := by
          cases hc : bt y k
          · exact absurd ((bt_test (by omega)).mpr hc) c
          · rfl
        repeat refine x_s rfl rfl ?_
        refine x_ald rfl rfl rfl (k := k) (rfl) (by omega) (by decide) rfl ?_
        rw [h6' k hk]
        repeat refine x_s rfl rfl ?_
        refine x_br rfl rfl (fun c2 => ?_) (fun c2 => ?_)
        · have hc : Cy F n ho y k = false := by simp [Cy, hb.symm.trans ((bt_test (by omega)).mp c2)]
          iterate 2 refine x_s rfl rfl ?_
          rw [nI_1]
          exact ih d1 hs (by simpa [ax, ay, am, hc] using hy) _ (by simp [aF, hc, ha])
        · have hc : Cy F n ho y k = true := by
            cases hc : hl F n k 9 ho
            · exact absurd ((bt_test (by omega)).mpr (hb.trans hc)) c2
            · simp [Cy, hc, hc1]
          repeat refine x_s rfl rfl ?_
          refine x_cv (c_addPerson d1 L H1 R (b := 69) (Or.inl rfl) hn hk hy (by omega) (by omega)) rfl rfl rfl (by decide) rfl (by decide) rfl (Nat.le_of_ble_eq_true rfl) (by decide) (by decide) (by decide) ?_
          rintro _ _ ⟨rfl, d2, rfl, hs2, hy2⟩
          iterate 4 refine x_s rfl rfl ?_
          rw [nI_1]
          exact ih d2 (sm_go hs hs2) (by simpa [ax, ay, am, hc, Int.add_assoc, Bool.or_assoc] using hy2) _ (by simp [aF, hc]; rfl)
  refine Cn.intro gX9_shownBesidesLies rfl (Nat.le_of_ble_eq_true rfl) rfl ?_
  repeat refine x_s rfl rfl ?_
  refine x_ald rfl rfl rfl (k := n) rfl (by omega) (by decide) (xav_sums (by omega)) ?_
  refine x_cv (c_W_copy d L (n := n) (by omega) (h7 n hn)) rfl rfl rfl (by decide) rfl (by decide) rfl (Nat.le_of_ble_eq_true rfl) (by decide) (by decide) (by decide) ?_
  rintro _ _ ⟨rfl, d1, rfl, hs, hy⟩
  iterate 2 refine x_s rfl rfl ?_
  exact lp 0 (Nat.zero_le _) d1 hs (by simpa [ax, ay, am] using hy) 0 rfl
set_option maxRecDepth 100000 in
set_option maxHeartbeats 8000000 in
theorem c_allShow (H : HC d F) (R : RG F) (K : HW d F) {ho : Nat} (hh : ho < 100) (h6 : H67 d F 9 ho) (h7 : H71 d F ho) (x y v : Int32) : Cn mX9_allShow false 5 0 0 [.ref 23, .int x, .int (nI ho), .int y, .int v] (W0 d L) (qS [69] d L (bI (aS F x ho y v))) := by
  have r2 := R.2.1
  have lp : ∀ k, k ≤ F.1 4 0 → aF (fun n => bt x n && decide (sBL F n ho y ≠ v)) k = false → ∀ d1, sm [69] d d1 → Ex mX9_allShow false 5 0 0 3 [some (.ref 23), some (.int x), some (.int (nI ho)), some (.int y), some (.int v), some (.int (nI k))] [] (W0 d1 L) (qS [69] d L (bI (aS F x ho y v))) nX := by
    refine x_down _ ?_ ?_
    · intro ha d1 hs
      have H1 := HC_sm H hs (by decide)
      repeat refine x_s rfl rfl ?_
      refine x_br rfl rfl (fun c => ?_) (fun c => absurd c (fun z => z (lp_x H1.2.1)))
      repeat refine x_s rfl rfl ?_
      exact x_iret rfl rfl rfl ⟨by rw [aS, ha]; rfl, d1, rfl, hs⟩
    · intro k hk ih ha d1 hs
      have H1 := HC_sm H hs (by decide)
      have K1 := HW_sm R K hs (by decide)
      repeat refine x_s rfl rfl ?_
      refine x_br rfl rfl (fun c => absurd c (lp_c H1.2.1 hk (by omega))) (fun c => ?_)
      repeat refine x_s rfl rfl ?_
      refine x_br rfl rfl (fun c => ?_) (fun c => ?_)
      · iterate 2 refine x_s rfl rfl ?_
        rw [nI_1]
        exact ih (aF_s0 ha (by simp [(bt_test (by omega)).mp c])) d1 hs
      · have hc1 : bt x k = true := by
          cases hc : bt x k
          · exact absurd ((bt_test (by omega)).mpr hc) c
          · rfl
        repeat refine x_s rfl rfl ?_
        refine x_cv (c_shownBesidesLies d1 L H1 R K1 hk hh (H67_sm h6 hs (by decide)) (H71_sm R h7 hs (by decide)) y) rfl rfl rfl (by decide) rfl (by decide) rfl (Nat.le_of_ble_eq_true rfl) (by decide) (by decide) (by decide) ?_
        rintro _ _ ⟨rfl, d2, rfl, hs2⟩
        repeat refine x_s rfl rfl ?_
        refine x_br rfl rfl (fun c2 => ?_) (fun c2 => ?_)
        · have c3 : sBL F k ho y = v := c2
          iterate 2 refine x_s rfl rfl ?_
          rw [nI_1]
          exact ih (aF_s0 ha (by simp [c3])) d2 (sm_go hs hs2)
        · have c3 : ¬ sBL F k ho y = v := c2
          repeat refine x_s rfl rfl ?_
          refine x_iret rfl rfl rfl ⟨?_, d2, rfl, sm_go hs hs2⟩
          have hz : aF (fun n => bt x n && decide (sBL F n ho y ≠ v)) (F.1 4 0) = true := aF_iff.mpr ⟨k, hk, by simp [hc1, c3]⟩
          rw [aS, hz]
          rfl
  refine Cn.intro gX9_allShow rfl (Nat.le_of_ble_eq_true rfl) rfl ?_
  iterate 2 refine x_s rfl rfl ?_
  exact lp 0 (Nat.zero_le _) rfl d sm_rfl
set_option maxRecDepth 100000 in
set_option maxHeartbeats 8000000 in
theorem c_shownBesides (H : HC d F) (R : RG F) (K : HW d F) {n h t x y : Nat} (hn : n < F.1 4 0) (hh : h < 100) (ht : t < 100) (hx : x ≤ 1000) (hy : y ≤ 1000) (h7 : H71 d F t) : Cn mX9_shownBesides false 4 0 0 [.ref 23, .int (nI n), .int (nI h), .int (nI t), .int (nI x), .int (nI y)] (W0 d L) (qS [69] d L (sBe F n h t x y)) := by
  have r2 := R.2.1
  have r3 := R.2.2.1
  have r5 := R.2.2.2.2.1 n hn
  have h4 := H.2.2.2.2.1 n hn
  have k1 := (K.1 n hn).2.1 h hh
  have ll := l1_le (F := F) (B := hr F n) (h := h) (n := F.1 9 0)
  have old : (h < t ∨ t + 1 < l1 F (hr F n) h (F.1 9 0)) → Ex mX9_shownBesides false 4 0 0 17 [some (.ref 23), some (.int (nI n)), some (.int (nI h)), some (.int (nI t)), some (.int (nI x)), some (.int (nI y))] [] (W0 d L) (qS [69] d L (sBe F n h t x y)) nX := by
    intro z
    repeat refine x_s rfl rfl ?_
    refine x_ald rfl rfl rfl (k := n) rfl (by omega) (by decide) (xav_rows (by omega)) ?_
    repeat refine x_s rfl rfl ?_
    refine x_ald rfl (SH_rows (by omega)) rfl (k := h) (rfl) (by omega) (by decide) rfl ?_
    rw [k1.1]
    refine x_iret rfl rfl rfl ⟨?_, d, rfl, sm_rfl⟩
    rw [sBe, if_pos z]
  refine Cn.intro gX9_shownBesides rfl (Nat.le_of_ble_eq_true rfl) rfl ?_
  repeat refine x_s rfl rfl ?_
  refine x_br rfl rfl (fun c => ?_) (fun c => ?_)
  · refine old (Or.inl ?_)
    exact (nI_ltI (by omega) (by omega)).mp c
  · have c' : ¬ h < t := fun z => c (nI_lt z (by omega))
    repeat refine x_s rfl rfl ?_
    refine x_ald rfl rfl rfl (k := n) rfl (by omega) (by decide) (xav_lasts (by omega)) ?_
    repeat refine x_s rfl rfl ?_
    refine x_ald rfl (SH_lasts (by omega)) rfl (k := h) (rfl) (by omega) (by decide) rfl ?_
    rw [k1.2]
    repeat refine x_s rfl rfl ?_
    refine x_br rfl rfl (fun c2 => ?_) (fun c2 => ?_)
    · have c3 : ¬ t + 1 < l1 F (hr F n) h (F.1 9 0) := by
        have := (m1_le (l := l1 F (hr F n) h (F.1 9 0)) (t := t) (by omega) (by omega)).mp c2
        omega
      have wb := wx_b R hn (Bh F n t) (F.1 9 0) (Nat.le_refl _)
      repeat refine x_s rfl rfl ?_
      refine x_ald rfl rfl rfl (k := n) rfl (by omega) (by decide) (xav_sums (by omega)) ?_
      refine x_cv (c_W_copy d L (n := n) (by omega) (h7 n hn)) rfl rfl rfl (by decide) rfl (by decide) rfl (Nat.le_of_ble_eq_true rfl) (by decide) (by decide) (by decide) ?_
      rintro _ _ ⟨rfl, d1, rfl, hs, hy1⟩
      have H1 := HC_sm H hs (by decide)
      have h4' := H1.2.2.2.2.1 n hn
      repeat refine x_s rfl rfl ?_
      refine x_ald rfl rfl rfl (k := n) (rfl) (by omega) (by decide) rfl ?_
      repeat refine x_s rfl rfl ?_
      refine x_ald rfl rfl rfl (k := n) (rfl) (by omega) (by decide) rfl ?_
      rw [h4'.1, h4'.2.1]
      repeat refine x_s rfl rfl ?_
      refine x_cv (c_W_add d1 L (b := 69) (Or.inl rfl) hy1 (by omega) (by omega) (nsub_tI (a := x) (b := F.1 5 n) (by omega) (by omega)) (nsub_tI (a := y) (b := F.1 6 n) (by omega) (by omega)) (by omega) (by omega)) rfl rfl rfl (by decide) rfl (by decide) rfl (Nat.le_of_ble_eq_true rfl) (by decide) (by decide) (by decide) ?_
      rintro _ _ ⟨rfl, d2, rfl, hs2, hy2⟩
      repeat refine x_s rfl rfl ?_
      refine x_cv (c_W_sign d2 L hy2) rfl rfl rfl (by decide) rfl (by decide) rfl (Nat.le_of_ble_eq_true rfl) (by decide) (by decide) (by decide) ?_
      rintro _ _ ⟨rfl, rfl⟩
      refine x_iret rfl rfl rfl ⟨?_, d2, rfl, sm_go hs hs2⟩
      rw [sBe, if_neg (by omega)]
    · exact old (Or.inr (by
        have := mt (m1_le (l := l1 F (hr F n) h (F.1 9 0)) (t := t) (by omega) (by omega)).mpr c2
        omega))
set_option maxRecDepth 100000 in
set_option maxHeartbeats 8000000 in
theorem c_farsHeard (H : HC d F) {dg sk re ru ho : Nat} (h1 : dg ≤ 1000) (h4 : re ≤ 1000) (h5 : ru ≤ 1000) : Cn mX9_farsHeard false 5 0 0 [.ref 23, .int (nI dg), .int (nI sk), .int (nI re), .int (nI ru), .int (nI ho)] (W0 d L) (fun r h => r = some (.long (lB (fun fa => tn F.2.1 dg sk fa re ru ho) 41)) ∧ ∃ d', h = W0 d' L ∧ sm [40, 70] d d') := by
  have lp : ∀ k, k ≤ 41 → ∀ a, a = lB (fun fa => tn F.2.1 dg sk fa re ru ho) k → ∀ d1, sm [40, 70] d d1 → Ex mX9_farsHeard false 5 0 0 6 [some (.ref 23), some (.int (nI dg)), some (.int (nI sk)), some (.int (nI re)), some (.int (nI ru)), some (.int (nI ho)), some (.long a), none, some (.int (nI k))] [] (W0 d1 L) (fun r h => r = some (.long (lB (fun fa => tn F.2.1 dg sk fa re ru ho) 41)) ∧ ∃ d', h = W0 d' L ∧ sm [40, 70] d d') nX := by
    refine x_down _ ?_ ?_
    · intro a ha d1 hs
      repeat refine x_s rfl rfl ?_
      refine x_br rfl rfl (fun c => ?_) (fun c => absurd c (fun z => z (by decide)))
      repeat refine x_s rfl rfl ?_
      exact x_lret rfl rfl ⟨by rw [ha], d1, rfl, hs⟩
    · intro k hk ih a ha d1 hs
      have H1 := HC_sm H hs (by decide)
      repeat refine x_s rfl rfl ?_
      refine x_br rfl rfl (fun c => absurd c (nI_ge (b := 41) hk (by decide))) (fun c => ?_)
      repeat refine x_s rfl rfl ?_
      refine x_cv (c_turns d1 L H1 (dg := dg) (sk := sk) (fa := k) (re := re) (ru := ru) (ho := ho) h1 (by omega) h4 h5) rfl rfl rfl (by decide) rfl (by decide) rfl (Nat.le_of_ble_eq_true rfl) (by decide) (by decide) (by decide) ?_
      rintro _ _ ⟨rfl, d2, rfl, hs2⟩
      refine x_br rfl rfl (fun c => ?_) (fun c => ?_)
      · have hb := bI_0.mp c
        iterate 2 refine x_s rfl rfl ?_
        rw [nI_1]
        exact ih _ (by simp [lB, hb, ha]) _ (sm_go hs hs2)
      · have hb := bI_n0.mp c
        iterate 8 refine x_s rfl rfl ?_
        rw [nI_1]
        exact ih _ (by simp [lB, hb, ha]) _ (sm_go hs hs2)
  refine Cn.intro gX9_farsHeard rfl (Nat.le_of_ble_eq_true rfl) rfl ?_
  iterate 4 refine x_s rfl rfl ?_
  exact lp 0 (Nat.zero_le _) 0 rfl d sm_rfl
end
