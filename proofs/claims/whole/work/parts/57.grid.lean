/-! THE CALLS: spots, hideouts, saucer -/
section
variable (d : Nat → Nat → Int32) (L : Nat → Nat → Int64) {F : Fr} {Z : Sn}
set_option maxRecDepth 100000 in
set_option maxHeartbeats 8000000 in
theorem p_spots (H : HC d F) (R : RG F) (K : HW d F) (HZ0 : HZ d Z) (R2 : RZ F Z) (x y : Int32) : Cx mX11_spots 20 6 36 [.ref 0, .int x, .int y] (W0 d L) (qG d L (inB x 100 && inB y 2) (if iN y = 1 then fG (spP F Z (iN x)) 0 1681 else nI (cF (spP F Z (iN x)) 1681))) (qT 1 d L (inB x 100 && inB y 2)) := by
  have r2 := R.2.1
  refine Cx.intro gX11_spots rfl (Nat.le_of_ble_eq_true rfl) rfl ?_
  repeat refine x_s rfl rfl ?_
  refine x_xs (c_needHour d L x) rfl rfl rfl rfl (by decide) (Nat.le_of_ble_eq_true rfl) (by decide) (by decide) (by decide) ?_ ?_
  rotate_left
  · rintro _ _ ⟨rfl, rfl, hg⟩
    exact ⟨rfl, rfl, and_f1 hg⟩
  rintro _ _ ⟨rfl, rfl, hg⟩
  repeat refine x_s rfl rfl ?_
  refine x_xs (c_needWhat d L y (m := 1) (by decide)) rfl rfl rfl rfl (by decide) (Nat.le_of_ble_eq_true rfl) (by decide) (by decide) (by decide) ?_ ?_
  rotate_left
  · rintro _ _ ⟨rfl, rfl, hg2⟩
    exact ⟨rfl, rfl, and_f2 hg2⟩
  rintro _ _ ⟨rfl, rfl, hg2⟩
  rw [and_t hg hg2]
  obtain ⟨q1, q2, q3⟩ := inB_iN hg
  generalize iN x = t at q1 q2 q3 ⊢
  subst q2
  obtain ⟨s1, s2, s3⟩ := inB_iN hg2
  generalize iN y = w at s1 s2 s3 ⊢
  subst s2
  generalize hP : spP F Z t = P
  have grid : ∀ d2 L1, sm SX d d2 → sL L L1 → (∀ n, n < F.1 4 0 → L1 111 n = lB (fun fa => tn F.2.1 9 0 fa (F.1 7 n) (F.1 8 n) t) 41) → H71 d2 F t → ∀ yy, yy ≤ 41 → ∀ a V, a = nI (cF P (41 * yy)) → V = fG P (41 * yy) (1681 - 41 * yy) → ∀ d3, sm [69] d2 d3 → ∀ o, Ex mX11_spots false 20 4 24 84 [some (.ref 0), some (.int (nI t)), some (.int (nI w)), some (.ref 29), some (.int a), some (.int (nI yy)), o] [] (W0 d3 L1) (qG d L true (if w = 1 then V else nI (cF P 1681))) (qT 1 d L true) := by
    intro d2 L1 hs2 hL hfar h7
    refine x_down _ ?_ ?_
    · intro a V ha hV d3 hs3 o
      have hs13 : sm SX d d3 := sm_go hs2 (sm_in hs3 (by decide))
      repeat refine x_s rfl rfl ?_
      refine x_br rfl rfl (fun c => ?_) (fun c => absurd c (fun z => z (by decide)))
      repeat refine x_s rfl rfl ?_
      refine x_br rfl rfl (fun c1 => ?_) (fun c1 => ?_)
      · repeat refine x_s rfl rfl ?_
        refine x_iret rfl rfl rfl ⟨rfl, ?_, d3, L1, rfl, hs13, hL⟩
        rw [if_neg (fun q => c1 (by rw [q]; rfl)), ha]
      · repeat refine x_s rfl rfl ?_
        refine x_iret rfl rfl rfl ⟨rfl, ?_, d3, L1, rfl, hs13, hL⟩
        rw [if_pos ((nI_eq (b := 1) (by omega) (by omega)).mp c1), hV]
        rfl
    · intro yy hyy ih a V ha hV d3 hs3 o
      repeat refine x_s rfl rfl ?_
      refine x_br rfl rfl (fun c => absurd c (nI_ge (b := 41) hyy (by decide))) (fun c => ?_)
      iterate 2 refine x_s rfl rfl ?_
      have inner : ∀ xx, xx ≤ 41 → ∀ a V, a = nI (cF P (41 * yy + xx)) → V = fG P (41 * yy + xx) (1681 - (41 * yy + xx)) → ∀ d3, sm [69] d2 d3 → Ex mX11_spots false 20 4 24 94 [some (.ref 0), some (.int (nI t)), some (.int (nI w)), some (.ref 29), some (.int a), some (.int (nI yy)), some (.int (nI xx))] [] (W0 d3 L1) (qG d L true (if w = 1 then V else nI (cF P 1681))) (qT 1 d L true) := by
        refine x_down _ ?_ ?_
        · intro a V ha hV d3 hs3
          repeat refine x_s rfl rfl ?_
          refine x_br rfl rfl (fun c => ?_) (fun c => absurd c (fun z => z (by decide)))
          iterate 2 refine x_s rfl rfl ?_
          rw [nI_1]
          exact ih _ _ ha hV d3 hs3 _
        · intro xx hxx ih2 a V ha hV d3 hs3
          have hs13 : sm SX d d3 := sm_go hs2 (sm_in hs3 (by decide))
          have hj := jm xx yy hxx
          have hlt : 41 * yy + xx < 1681 := by omega
          have H3 := HC_sm H hs13 (by decide)
          repeat refine x_s rfl rfl ?_
          refine x_br rfl rfl (fun c => absurd c (nI_ge (b := 41) hxx (by decide))) (fun c => ?_)
          repeat refine x_s rfl rfl ?_
          refine x_cv (c_hearersFrom d3 L1 H3 R (x := xx) (y := yy) (by omega) (by omega) (tf := fun n fa => tn F.2.1 9 0 fa (F.1 7 n) (F.1 8 n) t) hfar) rfl rfl rfl (by decide) rfl (by decide) rfl (Nat.le_of_ble_eq_true rfl) (by decide) (by decide) (by decide) ?_
          rintro _ _ ⟨rfl, rfl⟩
          refine x_cv (c_seenHolds d3 L1 H3 R (HW_sm R K hs13 (by decide)) (HZ_sm HZ0 hs13 (by decide)) R2 q1 (x := xx) (y := yy) (by omega) (by omega) (H71_sm R h7 hs3 (by decide)) _) rfl rfl rfl (by decide) rfl (by decide) rfl (Nat.le_of_ble_eq_true rfl) (by decide) (by decide) (by decide) ?_
          rintro _ _ ⟨rfl, d4, rfl, hs4⟩
          have hs34 := sm_go hs3 hs4
          have eP : sHo F Z t xx yy (bF (fun n => tn F.2.1 9 0 (fxy F n xx yy) (F.1 7 n) (F.1 8 n) t) (F.1 4 0)) = P (41 * yy + xx) := by rw [← hP, spP, hj.1, hj.2]
          rw [eP]
          refine x_br rfl rfl (fun c1 => ?_) (fun c1 => ?_)
          · have c2 := bI_0.mp c1
            iterate 2 refine x_s rfl rfl ?_
            rw [nI_1]
            exact ih2 _ _ (by rw [ha, show 41 * yy + (xx + 1) = 41 * yy + xx + 1 by omega, cF, if_neg (by rw [c2]; decide)]) (hV.trans (fG_f hlt c2)) d4 hs34
          · have c2 := bI_n0.mp c1
            repeat refine x_s rfl rfl ?_
            refine x_br rfl rfl (fun c3 => ?_) (fun c3 => ?_)
            · have c4 : ¬ w = 1 := fun q => c3 (by rw [q]; rfl)
              iterate 3 refine x_s rfl rfl ?_
              rw [nI_1 xx]
              have := ih2 (a + 1) _ (by rw [ha, nI_1, show 41 * yy + (xx + 1) = 41 * yy + xx + 1 by omega, cF, if_pos c2]) rfl d4 hs34
              rw [if_neg c4] at this ⊢
              exact this
            · have c4 : w = 1 := (nI_eq (b := 1) (by omega) (by omega)).mp c3
              repeat refine x_s rfl rfl ?_
              refine x_cs (c_placeNumber d4 L1 (nI xx) (nI yy)) rfl rfl rfl (by decide) (Nat.le_of_ble_eq_true rfl) (by decide) (by decide) (by decide) ?_
              rintro _ _ ⟨rfl, rfl⟩
              refine x_iret rfl rfl rfl ⟨rfl, ?_, d4, L1, rfl, sm_go hs13 (sm_in hs4 (by decide)), hL⟩
              rw [if_pos c4, hV, fG_t hlt c2, hj.1, hj.2]
      exact inner 0 (Nat.zero_le _) a V ha hV d3 hs3
  have lp : ∀ k, k ≤ F.1 4 0 → ∀ d1 L1, sm [40, 70] d d1 → sL L L1 → (∀ n, n < k → L1 111 n = lB (fun fa => tn F.2.1 9 0 fa (F.1 7 n) (F.1 8 n) t) 41) → ∀ o1 o2, Ex mX11_spots false 20 4 24 23 [some (.ref 0), some (.int (nI t)), some (.int (nI w)), some (.ref 29), some (.int (nI k)), o1, o2] [] (W0 d1 L1) (qG d L true (if w = 1 then fG P 0 1681 else nI (cF P 1681))) (qT 1 d L true) := by
    refine x_down _ ?_ ?_
    · intro d1 L1 hs hL hf o1 o2
      have H1 := HC_sm H hs (by decide)
      repeat refine x_s rfl rfl ?_
      refine x_br rfl rfl (fun c => ?_) (fun c => absurd c (fun z => z (lp_x H1.2.1)))
      repeat refine x_s rfl rfl ?_
      refine x_cv (c_noteSums d1 L1 H1 R (HW_sm R K hs (by decide)) q1) rfl rfl rfl (by decide) rfl (by decide) rfl (Nat.le_of_ble_eq_true rfl) (by decide) (by decide) (by decide) ?_
      rintro _ _ ⟨rfl, d2, rfl, hs2, h7⟩
      iterate 4 refine x_s rfl rfl ?_
      exact grid d2 L1 (sm_go (sm_in hs (by decide)) (sm_in hs2 (by decide))) hL hf h7 0 (Nat.zero_le _) 0 _ rfl rfl d2 sm_rfl _
    · intro k hk ih d1 L1 hs hL hf o1 o2
      have H1 := HC_sm H hs (by decide)
      have h4 := H1.2.2.2.2.1 k hk
      have r5 := R.2.2.2.2.1 k hk
      repeat refine x_s rfl rfl ?_
      refine x_br rfl rfl (fun c => absurd c (lp_c H1.2.1 hk (by omega))) (fun c => ?_)
      repeat refine x_s rfl rfl ?_
      refine x_ald rfl rfl rfl (k := k) (rfl) (by omega) (by decide) rfl ?_
      repeat refine x_s rfl rfl ?_
      refine x_ald rfl rfl rfl (k := k) (rfl) (by omega) (by decide) rfl ?_
      rw [h4.2.2.1, h4.2.2.2]
      repeat refine x_s rfl rfl ?_
      refine x_cv (c_farsHeard d1 L1 H1 (dg := 9) (sk := 0) (re := F.1 7 k) (ru := F.1 8 k) (ho := t) (by omega) (by omega) (by omega)) rfl rfl rfl (by decide) rfl (by decide) rfl (Nat.le_of_ble_eq_true rfl) (by decide) (by decide) (by decide) ?_
      rintro _ _ ⟨rfl, d2, rfl, hs2⟩
      refine x_last rfl rfl (k := k) rfl (by omega) (by decide) rfl ?_
      iterate 2 refine x_s rfl rfl ?_
      rw [nI_1]
      refine ih d2 _ (sm_go hs hs2) (sL_up hL) ?_ _ _
      intro n hn
      by_cases e : n = k
      · subst e
        exact up2_eq
      · rw [up2_k e]
        exact hf n (by omega)
  iterate 7 refine x_s rfl rfl ?_
  exact lp 0 (Nat.zero_le _) d L sm_rfl sL_rfl (fun n hn => by omega) _ _
set_option maxRecDepth 100000 in
set_option maxHeartbeats 8000000 in
theorem p_hideouts (H : HC d F) (R : RG F) (x y z u : Int32) : Cx mX11_hideouts 20 6 36 [.ref 0, .int x, .int y, .int z, .int u] (W0 d L) (qG d L ((inB x (F.1 0 0) && inB u 2) && inL y z) (if iN u = 1 then fG (hiP F (iN x) (iN y) (iN z)) 0 1681 else nI (cF (hiP F (iN x) (iN y) (iN z)) 1681))) (qT2 d L (inB x (F.1 0 0) && inB u 2) (inL y z)) := by
  have r1 := R.1
  have r2 := R.2.1
  refine Cx.intro gX11_hideouts rfl (Nat.le_of_ble_eq_true rfl) rfl ?_
  repeat refine x_s rfl rfl ?_
  refine x_xv (c_needPerson d L H R x) rfl rfl rfl rfl (by decide) rfl (by decide) rfl (Nat.le_of_ble_eq_true rfl) (by decide) (by decide) (by decide) ?_ ?_
  rotate_left
  · rintro _ _ ⟨rfl, rfl, hg⟩
    exact ⟨rfl, Or.inl ⟨rfl, and_f1 hg⟩⟩
  rintro _ _ ⟨rfl, rfl, hg⟩
  repeat refine x_s rfl rfl ?_
  refine x_xs (c_needWhat d L u (m := 1) (by decide)) rfl rfl rfl rfl (by decide) (Nat.le_of_ble_eq_true rfl) (by decide) (by decide) (by decide) ?_ ?_
  rotate_left
  · rintro _ _ ⟨rfl, rfl, hg2⟩
    exact ⟨rfl, Or.inl ⟨rfl, and_f2 hg2⟩⟩
  rintro _ _ ⟨rfl, rfl, hg2⟩
  repeat refine x_s rfl rfl ?_
  refine x_xs (c_needLie d L y z) rfl rfl rfl rfl (by decide) (Nat.le_of_ble_eq_true rfl) (by decide) (by decide) (by decide) ?_ ?_
  rotate_left
  · rintro _ _ ⟨rfl, rfl, hg3⟩
    exact ⟨rfl, Or.inr ⟨rfl, and_t hg hg2, hg3⟩⟩
  rintro _ _ ⟨rfl, rfl, hg3⟩
  rw [and_t (and_t hg hg2) hg3]
  generalize hX : qT2 d L (inB x (F.1 0 0) && inB u 2) (inL y z) = X
  obtain ⟨p1, p2, p3⟩ := inB_iN hg
  obtain ⟨s1, s2, s3⟩ := inB_iN hg2
  obtain ⟨⟨e1, e2, e3⟩, q1, q2⟩ := inL_iN hg3
  generalize iN x = p at p1 p2 p3 ⊢
  generalize iN u = w at s1 s2 s3 ⊢
  generalize iN y = dg at e1 e2 e3 ⊢
  generalize iN z = t at q1 q2 ⊢
  clear hX hg hg2 hg3
  subst p2
  subst s2
  subst e3
  subst q2
  generalize hP : hiP F p dg t = P
  have grid : ∀ d2 L1, sm SX d d2 → sL L L1 → (∀ n, n < F.1 4 0 → L1 111 n = lB (fun fa => tn F.2.1 dg (F.1 3 p) fa (F.1 7 n) (F.1 8 n) t) 41) → ∀ yy, yy ≤ 41 → ∀ a V, a = nI (cF P (41 * yy)) → V = fG P (41 * yy) (1681 - 41 * yy) → ∀ o, Ex mX11_hideouts false 20 3 18 104 [some (.ref 0), some (.int (nI p)), some (.int (nI dg)), some (.int (nI t)), some (.int (nI w)), some (.ref 29), some (.int a), some (.int (nI yy)), o] [] (W0 d2 L1) (qG d L true (if w = 1 then V else nI (cF P 1681))) X := by
    intro d2 L1 hs2 hL hfar
    have H2 := HC_sm H hs2 (by decide)
    refine x_down _ ?_ ?_
    · intro a V ha hV o
      repeat refine x_s rfl rfl ?_
      refine x_br rfl rfl (fun c => ?_) (fun c => absurd c (fun z => z (by decide)))
      repeat refine x_s rfl rfl ?_
      refine x_br rfl rfl (fun c1 => ?_) (fun c1 => ?_)
      · repeat refine x_s rfl rfl ?_
        refine x_iret rfl rfl rfl ⟨rfl, ?_, d2, L1, rfl, hs2, hL⟩
        rw [if_neg (fun q => c1 (by rw [q]; rfl)), ha]
      · repeat refine x_s rfl rfl ?_
        refine x_iret rfl rfl rfl ⟨rfl, ?_, d2, L1, rfl, hs2, hL⟩
        rw [if_pos ((nI_eq (b := 1) (by omega) (by omega)).mp c1), hV]
        rfl
    · intro yy hyy ih a V ha hV o
      repeat refine x_s rfl rfl ?_
      refine x_br rfl rfl (fun c => absurd c (nI_ge (b := 41) hyy (by decide))) (fun c => ?_)
      iterate 2 refine x_s rfl rfl ?_
      have inner : ∀ xx, xx ≤ 41 → ∀ a V, a = nI (cF P (41 * yy + xx)) → V = fG P (41 * yy + xx) (1681 - (41 * yy + xx)) → Ex mX11_hideouts false 20 3 18 114 [some (.ref 0), some (.int (nI p)), some (.int (nI dg)), some (.int (nI t)), some (.int (nI w)), some (.ref 29), some (.int a), some (.int (nI yy)), some (.int (nI xx))] [] (W0 d2 L1) (qG d L true (if w = 1 then V else nI (cF P 1681))) X := by
        refine x_down _ ?_ ?_
        · intro a V ha hV
          repeat refine x_s rfl rfl ?_
          refine x_br rfl rfl (fun c => ?_) (fun c => absurd c (fun z => z (by decide)))
          iterate 2 refine x_s rfl rfl ?_
          rw [nI_1]
          exact ih _ _ ha hV _
        · intro xx hxx ih2 a V ha hV
          have hj := jm xx yy hxx
          have hlt : 41 * yy + xx < 1681 := by omega
          repeat refine x_s rfl rfl ?_
          refine x_br rfl rfl (fun c => absurd c (nI_ge (b := 41) hxx (by decide))) (fun c => ?_)
          repeat refine x_s rfl rfl ?_
          refine x_cv (c_hearersFrom d2 L1 H2 R (x := xx) (y := yy) (by omega) (by omega) (tf := fun n fa => tn F.2.1 dg (F.1 3 p) fa (F.1 7 n) (F.1 8 n) t) hfar) rfl rfl rfl (by decide) rfl (by decide) rfl (Nat.le_of_ble_eq_true rfl) (by decide) (by decide) (by decide) ?_
          rintro _ _ ⟨rfl, rfl⟩
          have eP : decide (bF (fun n => tn F.2.1 dg (F.1 3 p) (fxy F n xx yy) (F.1 7 n) (F.1 8 n) t) (F.1 4 0) = 0) = P (41 * yy + xx) := by rw [← hP, hiP, hj.1, hj.2]
          refine x_br rfl rfl (fun c1 => ?_) (fun c1 => ?_)
          · have c2 : P (41 * yy + xx) = false := by rw [← eP]; exact decide_eq_false c1
            iterate 2 refine x_s rfl rfl ?_
            rw [nI_1]
            exact ih2 _ _ (by rw [ha, show 41 * yy + (xx + 1) = 41 * yy + xx + 1 by omega, cF, if_neg (by rw [c2]; decide)]) (hV.trans (fG_f hlt c2))
          · have c2 : P (41 * yy + xx) = true := by rw [← eP]; exact decide_eq_true c1
            repeat refine x_s rfl rfl ?_
            refine x_br rfl rfl (fun c3 => ?_) (fun c3 => ?_)
            · have c4 : ¬ w = 1 := fun q => c3 (by rw [q]; rfl)
              iterate 3 refine x_s rfl rfl ?_
              rw [nI_1 xx]
              have := ih2 (a + 1) _ (by rw [ha, nI_1, show 41 * yy + (xx + 1) = 41 * yy + xx + 1 by omega, cF, if_pos c2]) rfl
              rw [if_neg c4] at this ⊢
              exact this
            · have c4 : w = 1 := (nI_eq (b := 1) (by omega) (by omega)).mp c3
              repeat refine x_s rfl rfl ?_
              refine x_cs (c_placeNumber d2 L1 (nI xx) (nI yy)) rfl rfl rfl (by decide) (Nat.le_of_ble_eq_true rfl) (by decide) (by decide) (by decide) ?_
              rintro _ _ ⟨rfl, rfl⟩
              refine x_iret rfl rfl rfl ⟨rfl, ?_, d2, L1, rfl, hs2, hL⟩
              rw [if_pos c4, hV, fG_t hlt c2, hj.1, hj.2]
      exact inner 0 (Nat.zero_le _) a V ha hV
  have lp : ∀ k, k ≤ F.1 4 0 → ∀ d1 L1, sm [40, 70] d d1 → sL L L1 → (∀ n, n < k → L1 111 n = lB (fun fa => tn F.2.1 dg (F.1 3 p) fa (F.1 7 n) (F.1 8 n) t) 41) → ∀ o1 o2, Ex mX11_hideouts false 20 3 18 31 [some (.ref 0), some (.int (nI p)), some (.int (nI dg)), some (.int (nI t)), some (.int (nI w)), some (.ref 29), some (.int (nI k)), o1, o2] [] (W0 d1 L1) (qG d L true (if w = 1 then fG P 0 1681 else nI (cF P 1681))) X := by
    refine x_down _ ?_ ?_
    · intro d1 L1 hs hL hf o1 o2
      have H1 := HC_sm H hs (by decide)
      repeat refine x_s rfl rfl ?_
      refine x_br rfl rfl (fun c => ?_) (fun c => absurd c (fun z => z (lp_x H1.2.1)))
      iterate 4 refine x_s rfl rfl ?_
      exact grid d1 L1 (sm_in hs (by decide)) hL hf 0 (Nat.zero_le _) 0 _ rfl rfl _
    · intro k hk ih d1 L1 hs hL hf o1 o2
      have H1 := HC_sm H hs (by decide)
      have h4 := H1.2.2.2.2.1 k hk
      have h3 := H1.2.2.2.1 p p1
      have r5 := R.2.2.2.2.1 k hk
      repeat refine x_s rfl rfl ?_
      refine x_br rfl rfl (fun c => absurd c (lp_c H1.2.1 hk (by omega))) (fun c => ?_)
      repeat refine x_s rfl rfl ?_
      refine x_ald rfl rfl rfl (k := p) (rfl) (by omega) (by decide) rfl ?_
      rw [h3.2.2]
      repeat refine x_s rfl rfl ?_
      refine x_ald rfl rfl rfl (k := k) (rfl) (by omega) (by decide) rfl ?_
      repeat refine x_s rfl rfl ?_
      refine x_ald rfl rfl rfl (k := k) (rfl) (by omega) (by decide) rfl ?_
      rw [h4.2.2.1, h4.2.2.2]
      repeat refine x_s rfl rfl ?_
      refine x_cv (c_farsHeard d1 L1 H1 (dg := dg) (sk := F.1 3 p) (re := F.1 7 k) (ru := F.1 8 k) (ho := t) (by omega) (by omega) (by omega)) rfl rfl rfl (by decide) rfl (by decide) rfl (Nat.le_of_ble_eq_true rfl) (by decide) (by decide) (by decide) ?_
      rintro _ _ ⟨rfl, d2, rfl, hs2⟩
      refine x_last rfl rfl (k := k) rfl (by omega) (by decide) rfl ?_
      iterate 2 refine x_s rfl rfl ?_
      rw [nI_1]
      refine ih d2 _ (sm_go hs hs2) (sL_up hL) ?_ _ _
      intro n hn
      by_cases e : n = k
      · subst e
        exact up2_eq
      · rw [up2_k e]
        exact hf n (by omega)
  iterate 7 refine x_s rfl rfl ?_
  exact lp 0 (Nat.zero_le _) d L sm_rfl sL_rfl (fun n hn => by omega) _ _
set_option maxRecDepth 100000 in
set_option maxHeartbeats 8000000 in
theorem p_saucer (H : HC d F) (R : RG F) (x y z : Int32) : Cx mX11_saucer 20 6 36 [.ref 0, .int x, .int y, .int z] (W0 d L) (qG d L ((inB y 100 && inB z 2) && inB x (2 ^ F.1 0 0)) (if iN z = 1 then (bG (sauW F x (iN y)) 1681).2 else (bG (sauW F x (iN y)) 1681).1)) (qT2 d L (inB y 100 && inB z 2) (inB x (2 ^ F.1 0 0))) := by
  have r1 := R.1
  refine Cx.intro gX11_saucer rfl (Nat.le_of_ble_eq_true rfl) rfl ?_
  repeat refine x_s rfl rfl ?_
  refine x_xs (c_needHour d L y) rfl rfl rfl rfl (by decide) (Nat.le_of_ble_eq_true rfl) (by decide) (by decide) (by decide) ?_ ?_
  rotate_left
  · rintro _ _ ⟨rfl, rfl, hg⟩
    exact ⟨rfl, Or.inl ⟨rfl, and_f1 hg⟩⟩
  rintro _ _ ⟨rfl, rfl, hg⟩
  repeat refine x_s rfl rfl ?_
  refine x_xs (c_needWhat d L z (m := 1) (by decide)) rfl rfl rfl rfl (by decide) (Nat.le_of_ble_eq_true rfl) (by decide) (by decide) (by decide) ?_ ?_
  rotate_left
  · rintro _ _ ⟨rfl, rfl, hg2⟩
    exact ⟨rfl, Or.inl ⟨rfl, and_f2 hg2⟩⟩
  rintro _ _ ⟨rfl, rfl, hg2⟩
  iterate 6 refine x_s rfl rfl ?_
  rw [H.1]
  refine x_xs (c_needBits d L x (m := F.1 0 0) (by omega)) rfl rfl rfl rfl (by decide) (Nat.le_of_ble_eq_true rfl) (by decide) (by decide) (by decide) ?_ ?_
  rotate_left
  · rintro _ _ ⟨rfl, rfl, hg3⟩
    exact ⟨rfl, Or.inr ⟨rfl, and_t hg hg2, hg3⟩⟩
  rintro _ _ ⟨rfl, rfl, hg3⟩
  rw [and_t (and_t hg hg2) hg3]
  generalize hX : qT2 d L (inB y 100 && inB z 2) (inB x (2 ^ F.1 0 0)) = X
  obtain ⟨q1, q2, q3⟩ := inB_iN hg
  obtain ⟨s1, s2, s3⟩ := inB_iN hg2
  generalize iN y = t at q1 q2 q3 ⊢
  generalize iN z = w at s1 s2 s3 ⊢
  clear hX hg hg2 hg3
  subst q2
  subst s2
  generalize hP : sauW F x t = P
  have grid : ∀ d2 L1, sm SX d d2 → sL L L1 → (∀ p, p < F.1 0 0 → L1 111 p = lB (fun fa => tn F.2.1 9 (F.1 3 p) fa 60 0 t) 41) → ∀ yy, yy ≤ 41 → ∀ a b, (a, b) = bG P (41 * yy) → ∀ o1 o2, Ex mX11_saucer false 20 3 18 98 [some (.ref 0), some (.int x), some (.int (nI t)), some (.int (nI w)), some (.int a), some (.int b), some (.int (nI yy)), o1, o2] [] (W0 d2 L1) (qG d L true (if w = 1 then (bG P 1681).2 else (bG P 1681).1)) X := by
    intro d2 L1 hs2 hL hfar
    have H2 := HC_sm H hs2 (by decide)
    refine x_down _ ?_ ?_
    · intro a b ha o1 o2
      repeat refine x_s rfl rfl ?_
      refine x_br rfl rfl (fun c => ?_) (fun c => absurd c (fun z => z (by decide)))
      have ha' : (a, b) = bG P 1681 := ha
      rw [← ha']
      repeat refine x_s rfl rfl ?_
      refine x_br rfl rfl (fun c1 => ?_) (fun c1 => ?_)
      · repeat refine x_s rfl rfl ?_
        refine x_iret rfl rfl rfl ⟨rfl, ?_, d2, L1, rfl, hs2, hL⟩
        rw [if_neg (fun q => c1 (by rw [q]; rfl))]
      · repeat refine x_s rfl rfl ?_
        refine x_iret rfl rfl rfl ⟨rfl, ?_, d2, L1, rfl, hs2, hL⟩
        rw [if_pos ((nI_eq (b := 1) (by omega) (by omega)).mp c1)]
    · intro yy hyy ih a b ha o1 o2
      repeat refine x_s rfl rfl ?_
      refine x_br rfl rfl (fun c => absurd c (nI_ge (b := 41) hyy (by decide))) (fun c => ?_)
      iterate 2 refine x_s rfl rfl ?_
      have inner : ∀ xx, xx ≤ 41 → ∀ a b, (a, b) = bG P (41 * yy + xx) → ∀ o2, Ex mX11_saucer false 20 3 18 108 [some (.ref 0), some (.int x), some (.int (nI t)), some (.int (nI w)), some (.int a), some (.int b), some (.int (nI yy)), some (.int (nI xx)), o2] [] (W0 d2 L1) (qG d L true (if w = 1 then (bG P 1681).2 else (bG P 1681).1)) X := by
        refine x_down _ ?_ ?_
        · intro a b ha o2
          repeat refine x_s rfl rfl ?_
          refine x_br rfl rfl (fun c => ?_) (fun c => absurd c (fun z => z (by decide)))
          iterate 2 refine x_s rfl rfl ?_
          rw [nI_1]
          exact ih _ _ ha _ _
        · intro xx hxx ih2 a b ha o2
          have hj := jm xx yy hxx
          repeat refine x_s rfl rfl ?_
          refine x_br rfl rfl (fun c => absurd c (nI_ge (b := 41) hxx (by decide))) (fun c => ?_)
          repeat refine x_s rfl rfl ?_
          refine x_cv (c_unlikeThings d2 L1 H2 R (x := xx) (y := yy) (by omega) (by omega) (tf := fun p fa => tn F.2.1 9 (F.1 3 p) fa 60 0 t) hfar x) rfl rfl rfl (by decide) rfl (by decide) rfl (Nat.le_of_ble_eq_true rfl) (by decide) (by decide) (by decide) ?_
          rintro _ _ ⟨rfl, rfl⟩
          have eP : bc (thg F (fun p fa => tn F.2.1 9 (F.1 3 p) fa 60 0 t) x xx yy (F.1 0 0)) = P (41 * yy + xx) := by rw [← hP, sauW, hj.1, hj.2]
          rw [eP]
          have eB : bG P (41 * yy + (xx + 1)) = if a < P (41 * yy + xx) then (P (41 * yy + xx), 100 * nI yy + nI xx) else (a, b) := by rw [show 41 * yy + (xx + 1) = 41 * yy + xx + 1 by omega, bG, ← ha, hj.1, hj.2]
          repeat refine x_s rfl rfl ?_
          refine x_br rfl rfl (fun c1 => ?_) (fun c1 => ?_)
          · iterate 2 refine x_s rfl rfl ?_
            rw [nI_1]
            exact ih2 _ _ (by rw [eB, if_neg (Int32.not_lt.mpr c1)]) _
          · repeat refine x_s rfl rfl ?_
            refine x_cs (c_placeNumber d2 L1 (nI xx) (nI yy)) rfl rfl rfl (by decide) (Nat.le_of_ble_eq_true rfl) (by decide) (by decide) (by decide) ?_
            rintro _ _ ⟨rfl, rfl⟩
            iterate 3 refine x_s rfl rfl ?_
            rw [nI_1]
            exact ih2 _ _ (by rw [eB, if_pos (Int32.not_le.mp c1)]) _
      exact inner 0 (Nat.zero_le _) a b ha _
  have lp : ∀ k, k ≤ F.1 0 0 → ∀ d1 L1, sm [40, 70] d d1 → sL L L1 → (∀ p, p < k → L1 111 p = lB (fun fa => tn F.2.1 9 (F.1 3 p) fa 60 0 t) 41) → ∀ o1 o2 o3 o4, Ex mX11_saucer false 20 3 18 29 [some (.ref 0), some (.int x), some (.int (nI t)), some (.int (nI w)), some (.int (nI k)), o1, o2, o3, o4] [] (W0 d1 L1) (qG d L true (if w = 1 then (bG P 1681).2 else (bG P 1681).1)) X := by
    refine x_down _ ?_ ?_
    · intro d1 L1 hs hL hf o1 o2 o3 o4
      have H1 := HC_sm H hs (by decide)
      repeat refine x_s rfl rfl ?_
      refine x_br rfl rfl (fun c => ?_) (fun c => absurd c (fun z => z (lp_x H1.1)))
      iterate 6 refine x_s rfl rfl ?_
      exact grid d1 L1 (sm_in hs (by decide)) hL hf 0 (Nat.zero_le _) _ _ rfl _ _
    · intro k hk ih d1 L1 hs hL hf o1 o2 o3 o4
      have H1 := HC_sm H hs (by decide)
      have h3 := H1.2.2.2.1 k hk
      repeat refine x_s rfl rfl ?_
      refine x_br rfl rfl (fun c => absurd c (lp_c H1.1 hk (by omega))) (fun c => ?_)
      repeat refine x_s rfl rfl ?_
      refine x_ald rfl rfl rfl (k := k) (rfl) (by omega) (by decide) rfl ?_
      rw [h3.2.2]
      repeat refine x_s rfl rfl ?_
      refine x_cv (c_farsHeard d1 L1 H1 (dg := 9) (sk := F.1 3 k) (re := 60) (ru := 0) (ho := t) (by omega) (by omega) (by omega)) rfl rfl rfl (by decide) rfl (by decide) rfl (Nat.le_of_ble_eq_true rfl) (by decide) (by decide) (by decide) ?_
      rintro _ _ ⟨rfl, d2, rfl, hs2⟩
      refine x_last rfl rfl (k := k) rfl (by omega) (by decide) rfl ?_
      iterate 2 refine x_s rfl rfl ?_
      rw [nI_1]
      refine ih d2 _ (sm_go hs hs2) (sL_up hL) ?_ _ _ _ _
      intro n hn
      by_cases e : n = k
      · subst e
        exact up2_eq
      · rw [up2_k e]
        exact hf n (by omega)
  iterate 2 refine x_s rfl rfl ?_
  exact lp 0 (Nat.zero_le _) d L sm_rfl sL_rfl (fun n hn => by omega) _ _ _ _
end
