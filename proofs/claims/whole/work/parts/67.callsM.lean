/-! THE CALLS (model) -/
/-- where g holds, v is returned; else 0, and th is thrown -/
abbrev qM (d : Nat → Nat → Int32) (L : Nat → Nat → Int64) (g : Bool) (v th : Int32) : xPost := fun r h => r = some (.int (if g then v else 0)) ∧ ∃ d', h = W0 d' L ∧ mS d d' ∧ d' 112 0 = if g then 0 else th
theorem mS_0 {d : Nat → Nat → Int32} (x : Int32) : mS d (up2 d 112 0 x) := mS_f mS_rfl (Or.inl rfl)
theorem up_up {d : Nat → Nat → Int32} {c k : Nat} {x y : Int32} : up2 (up2 d c k x) c k y = up2 d c k y := by
  funext a b
  unfold up2
  split
  · split <;> rfl
  · rfl
section
variable (d : Nat → Nat → Int32) (L : Nat → Nat → Int64) {F : Fr} {Z : Sn}
set_option maxRecDepth 100000 in
set_option maxHeartbeats 1600000 in
theorem k_lies (H : RowM d 128 0 F.1) (R : RG F) : Cn mX12_lies false 1 0 0 [.ref 112] (W0 d L) (qP d L (nI (cF (fun s => decide (0 < F.1 12 s)) (F.1 9 0)))) := by
  have r3 := R.2.2.1
  have h0 : d 128 0 = nI (F.1 9 0) := H.1
  have lp : ∀ k, k ≤ F.1 9 0 → ∀ a, a = nI (cF (fun s => decide (0 < F.1 12 s)) k) → Ex mX12_lies false 1 0 0 4 [some (.ref 112), some (.int a), some (.int (nI k))] [] (W0 d L) (qP d L (nI (cF (fun s => decide (0 < F.1 12 s)) (F.1 9 0)))) nX := by
    refine x_down _ ?_ ?_
    · intro a ha
      repeat refine x_s rfl rfl ?_
      refine x_ald rfl rfl rfl (k := 0) (rfl) (by omega) (by decide) rfl ?_
      refine x_br rfl rfl (fun c => ?_) (fun c => absurd c (fun z => z (lp_x h0)))
      repeat refine x_s rfl rfl ?_
      exact x_iret rfl rfl rfl ⟨by rw [ha], rfl⟩
    · intro k hk ih a ha
      have q := H.2.1 k hk
      simp only [Nat.zero_add] at q
      have r6 := R.2.2.2.2.2 k hk
      repeat refine x_s rfl rfl ?_
      refine x_ald rfl rfl rfl (k := 0) (rfl) (by omega) (by decide) rfl ?_
      refine x_br rfl rfl (fun c => absurd c (lp_c h0 hk (by omega))) (fun c => ?_)
      repeat refine x_s rfl rfl ?_
      rw [show (33 : Int32) + nI k = nI (33 + k) from nI_add 33 k]
      refine x_ald rfl rfl rfl (k := 33 + k) (rfl) (by omega) (by decide) rfl ?_
      rw [q.2.2]
      refine x_br rfl rfl (fun c2 => ?_) (fun c2 => ?_)
      · have c3 : ¬ 0 < F.1 12 k := fun z => absurd c2 (nI_nle z (by omega))
        iterate 5 refine x_s rfl rfl ?_
        rw [nI_1]
        exact ih _ (by rw [ha, cF, if_neg (by simpa using c3)]; exact Int32.add_zero _)
      · have c3 : 0 < F.1 12 k := by
          rcases Nat.eq_zero_or_pos (F.1 12 k) with z | z
          · rw [z] at c2
            exact absurd (by decide) c2
          · exact z
        iterate 6 refine x_s rfl rfl ?_
        rw [nI_1 k]
        exact ih _ (by rw [ha, cF, if_pos (by simpa using c3), nI_1])
  refine Cn.intro gX12_lies rfl (Nat.le_of_ble_eq_true rfl) rfl ?_
  iterate 4 refine x_s rfl rfl ?_
  exact lp 0 (Nat.zero_le _) 0 rfl
set_option maxRecDepth 100000 in
set_option maxHeartbeats 1600000 in
theorem k_lastHour (H : RowM d 128 0 F.1) (R : RG F) : Cn mX12_lastHour false 1 0 0 [.ref 112] (W0 d L) (qP d L (ltF F (F.1 9 0))) := by
  have r3 := R.2.2.1
  have h0 : d 128 0 = nI (F.1 9 0) := H.1
  have lp : ∀ k, k ≤ F.1 9 0 → ∀ a, a = ltF F k → Ex mX12_lastHour false 1 0 0 4 [some (.ref 112), some (.int a), some (.int (nI k))] [] (W0 d L) (qP d L (ltF F (F.1 9 0))) nX := by
    refine x_down _ ?_ ?_
    · intro a ha
      repeat refine x_s rfl rfl ?_
      refine x_ald rfl rfl rfl (k := 0) (rfl) (by omega) (by decide) rfl ?_
      refine x_br rfl rfl (fun c => ?_) (fun c => absurd c (fun z => z (lp_x h0)))
      repeat refine x_s rfl rfl ?_
      exact x_iret rfl rfl rfl ⟨by rw [ha], rfl⟩
    · intro k hk ih a ha
      have q := H.2.1 k hk
      simp only [Nat.zero_add] at q
      repeat refine x_s rfl rfl ?_
      refine x_ald rfl rfl rfl (k := 0) (rfl) (by omega) (by decide) rfl ?_
      refine x_br rfl rfl (fun c => absurd c (lp_c h0 hk (by omega))) (fun c => ?_)
      repeat refine x_s rfl rfl ?_
      rw [show (1 : Int32) + nI k = nI (1 + k) from nI_add 1 k]
      refine x_ald rfl rfl rfl (k := 1 + k) (rfl) (by omega) (by decide) rfl ?_
      rw [q.1]
      repeat refine x_s rfl rfl ?_
      refine x_br rfl rfl (fun c2 => ?_) (fun c2 => ?_)
      · iterate 4 refine x_s rfl rfl ?_
        rw [nI_1]
        exact ih _ (by rw [ltF, ← ha, if_neg (Int32.not_lt.mpr c2)])
      · repeat refine x_s rfl rfl ?_
        rw [show (1 : Int32) + nI k = nI (1 + k) from nI_add 1 k]
        refine x_ald rfl rfl rfl (k := 1 + k) (rfl) (by omega) (by decide) rfl ?_
        rw [q.1]
        iterate 4 refine x_s rfl rfl ?_
        rw [nI_1]
        exact ih _ (by rw [ltF, ← ha, if_pos (Int32.not_le.mp c2)])
  refine Cn.intro gX12_lastHour rfl (Nat.le_of_ble_eq_true rfl) rfl ?_
  iterate 4 refine x_s rfl rfl ?_
  exact lp 0 (Nat.zero_le _) _ rfl
set_option maxRecDepth 100000 in
set_option maxHeartbeats 1600000 in
theorem k_mostLies (H : RowM d 128 0 F.1) (R : RG F) : Cn mX12_mostLies false 1 0 0 [.ref 112] (W0 d L) (qP d L (nI (mx (mh F) 100))) := by
  have r3 := R.2.2.1
  have h0 : d 128 0 = nI (F.1 9 0) := H.1
  have lp : ∀ h, h ≤ 100 → ∀ a, a = nI (mx (mh F) h) → ∀ o1 o2, Ex mX12_mostLies false 1 0 0 4 [some (.ref 112), some (.int a), some (.int (nI h)), o1, o2] [] (W0 d L) (qP d L (nI (mx (mh F) 100))) nX := by
    refine x_down _ ?_ ?_
    · intro a ha o1 o2
      repeat refine x_s rfl rfl ?_
      refine x_br rfl rfl (fun c => ?_) (fun c => absurd c (fun z => z (by decide)))
      repeat refine x_s rfl rfl ?_
      exact x_iret rfl rfl rfl ⟨by rw [ha], rfl⟩
    · intro h hh ih a ha o1 o2
      repeat refine x_s rfl rfl ?_
      refine x_br rfl rfl (fun c => absurd c (nI_ge (b := 100) hh (by decide))) (fun c => ?_)
      have lp2 : ∀ k, k ≤ F.1 9 0 → ∀ b, b = nI (cF (fun s => decide (F.1 10 s = h) && decide (0 < F.1 12 s)) k) → Ex mX12_mostLies false 1 0 0 15 [some (.ref 112), some (.int a), some (.int (nI h)), some (.int b), some (.int (nI k))] [] (W0 d L) (qP d L (nI (mx (mh F) 100))) nX := by
        refine x_down _ ?_ ?_
        · intro b hb
          repeat refine x_s rfl rfl ?_
          refine x_ald rfl rfl rfl (k := 0) (rfl) (by omega) (by decide) rfl ?_
          refine x_br rfl rfl (fun c => ?_) (fun c => absurd c (fun z => z (lp_x h0)))
          have e1 : mx (mh F) h ≤ 16 := mx_le (fun i _ => Nat.le_trans (cF_le _ _) r3)
          have e2 : mh F h ≤ 16 := Nat.le_trans (cF_le _ _) r3
          have hb' : b = nI (mh F h) := hb
          repeat refine x_s rfl rfl ?_
          refine x_br rfl rfl (fun c1 => ?_) (fun c1 => ?_)
          · iterate 4 refine x_s rfl rfl ?_
            rw [nI_1]
            refine ih _ ?_ _ _
            rw [ha, hb'] at c1
            rw [ha, mx, if_neg (fun z => absurd c1 (nI_ge z (by omega)))]
          · iterate 5 refine x_s rfl rfl ?_
            rw [nI_1]
            refine ih _ ?_ _ _
            rw [ha, hb'] at c1
            rw [hb', mx]
            by_cases z : mx (mh F) h < mh F h
            · rw [if_pos z]
            · exact absurd (nI_le (by omega) (by omega)) c1
        · intro k hk ih2 b hb
          have q := H.2.1 k hk
          simp only [Nat.zero_add] at q
          have r6 := R.2.2.2.2.2 k hk
          repeat refine x_s rfl rfl ?_
          refine x_ald rfl rfl rfl (k := 0) (rfl) (by omega) (by decide) rfl ?_
          refine x_br rfl rfl (fun c => absurd c (lp_c h0 hk (by omega))) (fun c => ?_)
          repeat refine x_s rfl rfl ?_
          rw [show (1 : Int32) + nI k = nI (1 + k) from nI_add 1 k]
          refine x_ald rfl rfl rfl (k := 1 + k) (rfl) (by omega) (by decide) rfl ?_
          rw [q.1]
          repeat refine x_s rfl rfl ?_
          refine x_br rfl rfl (fun c1 => ?_) (fun c1 => ?_)
          · have e : ¬ F.1 10 k = h := fun z => c1 (by rw [z])
            iterate 5 refine x_s rfl rfl ?_
            rw [nI_1]
            exact ih2 _ (by rw [hb, cF, if_neg (by simp [e])]; exact Int32.add_zero _)
          · have e : F.1 10 k = h := (nI_eq (by omega) (by omega)).mp c1
            repeat refine x_s rfl rfl ?_
            rw [show (33 : Int32) + nI k = nI (33 + k) from nI_add 33 k]
            refine x_ald rfl rfl rfl (k := 33 + k) (rfl) (by omega) (by decide) rfl ?_
            rw [q.2.2]
            refine x_br rfl rfl (fun c2 => ?_) (fun c2 => ?_)
            · have c3 : ¬ 0 < F.1 12 k := fun z => absurd c2 (nI_nle z (by omega))
              iterate 5 refine x_s rfl rfl ?_
              rw [nI_1]
              exact ih2 _ (by rw [hb, cF, if_neg (by simp [e]; omega)]; exact Int32.add_zero _)
            · have c3 : 0 < F.1 12 k := by
                rcases Nat.eq_zero_or_pos (F.1 12 k) with z | z
                · rw [z] at c2
                  exact absurd (by decide) c2
                · exact z
              iterate 6 refine x_s rfl rfl ?_
              rw [nI_1 k]
              exact ih2 _ (by rw [hb, cF, if_pos (by simp [e, c3]), nI_1])
      iterate 4 refine x_s rfl rfl ?_
      exact lp2 0 (Nat.zero_le _) 0 rfl
  refine Cn.intro gX12_mostLies rfl (Nat.le_of_ble_eq_true rfl) rfl ?_
  iterate 4 refine x_s rfl rfl ?_
  exact lp 0 (Nat.zero_le _) 0 rfl _ _
set_option maxRecDepth 100000 in
set_option maxHeartbeats 1600000 in
theorem q_shows (H : HB d F) (R : RG F) (x y : Int32) : Cn mX12_shows false 10 0 0 [.ref 112, .int x, .int y] (W0 d L) (qM d L (inB x (F.1 4 0) && inB y 100) (sh F (iN x) (iN y)) 1) := by
  have r1 := R.1
  have r2 := R.2.1
  have r3 := R.2.2.1
  refine Cn.intro gX12_shows rfl (Nat.le_of_ble_eq_true rfl) rfl ?_
  repeat refine x_s rfl rfl ?_
  refine x_put rfl rfl (by decide) rfl ⟨rfl, rfl⟩ (Or.inl rfl) ?_
  have m0 : mS d (up2 d 112 0 0) := mS_0 0
  have z0 : up2 d 112 0 0 112 0 = 0 := up2_eq
  have H0 := HB_mS R H m0
  generalize hd0 : up2 d 112 0 0 = d0 at m0 z0 H0 ⊢
  repeat refine x_s rfl rfl ?_
  refine x_cv (k_isNeedle d0 L z0 H0.2.1 (by omega) x) rfl rfl rfl (by decide) rfl (by decide) rfl (Nat.le_of_ble_eq_true rfl) (by decide) (by decide) (by decide) ?_
  rintro _ _ ⟨rfl, rfl⟩
  cases hb : inB x (F.1 4 0)
  · rw [if_neg (by decide)]
    refine x_br rfl rfl (fun c => ?_) (fun c => absurd c (fun z => z rfl))
    repeat refine x_s rfl rfl ?_
    exact x_iret rfl rfl rfl ⟨rfl, _, rfl, mS_f m0 (Or.inl rfl), rfl⟩
  rw [if_pos rfl]
  refine x_br rfl rfl (fun c => absurd c (by decide)) (fun c => ?_)
  repeat refine x_s rfl rfl ?_
  refine x_cv (k_isHour d0 L z0 y) rfl rfl rfl (by decide) rfl (by decide) rfl (Nat.le_of_ble_eq_true rfl) (by decide) (by decide) (by decide) ?_
  rintro _ _ ⟨rfl, rfl⟩
  cases hb2 : inB y 100
  · rw [if_neg (by decide)]
    refine x_br rfl rfl (fun c => absurd c (fun z => z rfl)) (fun c => ?_)
    repeat refine x_s rfl rfl ?_
    exact x_iret rfl rfl rfl ⟨rfl, _, rfl, mS_f m0 (Or.inl rfl), rfl⟩
  rw [if_pos rfl]
  refine x_br rfl rfl (fun c => ?_) (fun c => absurd c (fun z => absurd z (by decide)))
  obtain ⟨q1, q2, q3⟩ := inB_iN hb
  generalize iN x = n at q1 q2 q3 ⊢
  subst q2
  obtain ⟨s1, s2, s3⟩ := inB_iN hb2
  generalize iN y = w at s1 s2 s3 ⊢
  subst s2
  repeat refine x_s rfl rfl ?_
  refine x_cv (k_lays0 d0 L H0 R true) rfl rfl rfl (by decide) rfl (by decide) rfl (Nat.le_of_ble_eq_true rfl) (by decide) (by decide) (by decide) ?_
  rintro _ _ ⟨rfl, d1, rfl, m1, t1, H1⟩
  rw [if_pos rfl, fst0_self] at H1
  have M1 := mS_tr m0 m1
  have T1 : d1 112 0 = 0 := t1.trans z0
  have RM1 := RM_of R
  repeat refine x_s rfl rfl ?_
  refine x_cv (k_showsIn d1 L H1 RM1 (n := n) (h := w) (Or.inl q1) s1) rfl rfl rfl (by decide) rfl (by decide) rfl (Nat.le_of_ble_eq_true rfl) (by decide) (by decide) (by decide) ?_
  rintro _ _ ⟨rfl, d2, rfl, hs2⟩
  exact x_iret rfl rfl rfl ⟨rfl, d2, rfl, mS_go M1 hs2 (by decide) (by decide) (by decide) (by decide) (by decide), by rw [hs2 112 (by decide)]; exact T1⟩
set_option maxRecDepth 100000 in
set_option maxHeartbeats 1600000 in
theorem q_last (H : HB d F) (R : RG F) (x y : Int32) : Cn mX12_last false 10 0 0 [.ref 112, .int x, .int y] (W0 d L) (qM d L (inB x (F.1 4 0) && inB y 100) (la F (iN x) (iN y)) 1) := by
  have r1 := R.1
  have r2 := R.2.1
  have r3 := R.2.2.1
  refine Cn.intro gX12_last rfl (Nat.le_of_ble_eq_true rfl) rfl ?_
  repeat refine x_s rfl rfl ?_
  refine x_put rfl rfl (by decide) rfl ⟨rfl, rfl⟩ (Or.inl rfl) ?_
  have m0 : mS d (up2 d 112 0 0) := mS_0 0
  have z0 : up2 d 112 0 0 112 0 = 0 := up2_eq
  have H0 := HB_mS R H m0
  generalize hd0 : up2 d 112 0 0 = d0 at m0 z0 H0 ⊢
  repeat refine x_s rfl rfl ?_
  refine x_cv (k_isNeedle d0 L z0 H0.2.1 (by omega) x) rfl rfl rfl (by decide) rfl (by decide) rfl (Nat.le_of_ble_eq_true rfl) (by decide) (by decide) (by decide) ?_
  rintro _ _ ⟨rfl, rfl⟩
  cases hb : inB x (F.1 4 0)
  · rw [if_neg (by decide)]
    refine x_br rfl rfl (fun c => ?_) (fun c => absurd c (fun z => z rfl))
    repeat refine x_s rfl rfl ?_
    exact x_iret rfl rfl rfl ⟨rfl, _, rfl, mS_f m0 (Or.inl rfl), rfl⟩
  rw [if_pos rfl]
  refine x_br rfl rfl (fun c => absurd c (by decide)) (fun c => ?_)
  repeat refine x_s rfl rfl ?_
  refine x_cv (k_isHour d0 L z0 y) rfl rfl rfl (by decide) rfl (by decide) rfl (Nat.le_of_ble_eq_true rfl) (by decide) (by decide) (by decide) ?_
  rintro _ _ ⟨rfl, rfl⟩
  cases hb2 : inB y 100
  · rw [if_neg (by decide)]
    refine x_br rfl rfl (fun c => absurd c (fun z => z rfl)) (fun c => ?_)
    repeat refine x_s rfl rfl ?_
    exact x_iret rfl rfl rfl ⟨rfl, _, rfl, mS_f m0 (Or.inl rfl), rfl⟩
  rw [if_pos rfl]
  refine x_br rfl rfl (fun c => ?_) (fun c => absurd c (fun z => absurd z (by decide)))
  obtain ⟨q1, q2, q3⟩ := inB_iN hb
  generalize iN x = n at q1 q2 q3 ⊢
  subst q2
  obtain ⟨s1, s2, s3⟩ := inB_iN hb2
  generalize iN y = w at s1 s2 s3 ⊢
  subst s2
  repeat refine x_s rfl rfl ?_
  refine x_cv (k_lays0 d0 L H0 R true) rfl rfl rfl (by decide) rfl (by decide) rfl (Nat.le_of_ble_eq_true rfl) (by decide) (by decide) (by decide) ?_
  rintro _ _ ⟨rfl, d1, rfl, m1, t1, H1⟩
  rw [if_pos rfl, fst0_self] at H1
  have M1 := mS_tr m0 m1
  have T1 : d1 112 0 = 0 := t1.trans z0
  have RM1 := RM_of R
  repeat refine x_s rfl rfl ?_
  refine x_cv (k_lastOf d1 L H1 RM1 (n := n) (h := w) (Or.inl q1) s1) rfl rfl rfl (by decide) rfl (by decide) rfl (Nat.le_of_ble_eq_true rfl) (by decide) (by decide) (by decide) ?_
  rintro _ _ ⟨rfl, d2, rfl, hs2⟩
  exact x_iret rfl rfl rfl ⟨rfl, d2, rfl, mS_go M1 hs2 (by decide) (by decide) (by decide) (by decide) (by decide), by rw [hs2 112 (by decide)]; exact T1⟩
set_option maxRecDepth 100000 in
set_option maxHeartbeats 1600000 in
theorem q_points (H : HB d F) (R : RG F) (x y : Int32) : Cn mX12_points false 10 0 0 [.ref 112, .int x, .int y] (W0 d L) (qM d L (inB x (F.1 0 0) && inB y 100) (bF (fun n => pt F n (iN x) (sh F n (iN y))) (F.1 4 0)) 1) := by
  have r1 := R.1
  have r2 := R.2.1
  have r3 := R.2.2.1
  refine Cn.intro gX12_points rfl (Nat.le_of_ble_eq_true rfl) rfl ?_
  repeat refine x_s rfl rfl ?_
  refine x_put rfl rfl (by decide) rfl ⟨rfl, rfl⟩ (Or.inl rfl) ?_
  have m0 : mS d (up2 d 112 0 0) := mS_0 0
  have z0 : up2 d 112 0 0 112 0 = 0 := up2_eq
  have H0 := HB_mS R H m0
  generalize hd0 : up2 d 112 0 0 = d0 at m0 z0 H0 ⊢
  repeat refine x_s rfl rfl ?_
  refine x_cv (k_isPerson d0 L z0 H0.1 (by omega) x) rfl rfl rfl (by decide) rfl (by decide) rfl (Nat.le_of_ble_eq_true rfl) (by decide) (by decide) (by decide) ?_
  rintro _ _ ⟨rfl, rfl⟩
  cases hb : inB x (F.1 0 0)
  · rw [if_neg (by decide)]
    refine x_br rfl rfl (fun c => ?_) (fun c => absurd c (fun z => z rfl))
    repeat refine x_s rfl rfl ?_
    exact x_iret rfl rfl rfl ⟨rfl, _, rfl, mS_f m0 (Or.inl rfl), rfl⟩
  rw [if_pos rfl]
  refine x_br rfl rfl (fun c => absurd c (by decide)) (fun c => ?_)
  repeat refine x_s rfl rfl ?_
  refine x_cv (k_isHour d0 L z0 y) rfl rfl rfl (by decide) rfl (by decide) rfl (Nat.le_of_ble_eq_true rfl) (by decide) (by decide) (by decide) ?_
  rintro _ _ ⟨rfl, rfl⟩
  cases hb2 : inB y 100
  · rw [if_neg (by decide)]
    refine x_br rfl rfl (fun c => absurd c (fun z => z rfl)) (fun c => ?_)
    repeat refine x_s rfl rfl ?_
    exact x_iret rfl rfl rfl ⟨rfl, _, rfl, mS_f m0 (Or.inl rfl), rfl⟩
  rw [if_pos rfl]
  refine x_br rfl rfl (fun c => ?_) (fun c => absurd c (fun z => absurd z (by decide)))
  obtain ⟨q1, q2, q3⟩ := inB_iN hb
  generalize iN x = n at q1 q2 q3 ⊢
  subst q2
  obtain ⟨s1, s2, s3⟩ := inB_iN hb2
  generalize iN y = w at s1 s2 s3 ⊢
  subst s2
  repeat refine x_s rfl rfl ?_
  refine x_cv (k_lays0 d0 L H0 R true) rfl rfl rfl (by decide) rfl (by decide) rfl (Nat.le_of_ble_eq_true rfl) (by decide) (by decide) (by decide) ?_
  rintro _ _ ⟨rfl, d1, rfl, m1, t1, H1⟩
  rw [if_pos rfl, fst0_self] at H1
  have M1 := mS_tr m0 m1
  have T1 : d1 112 0 = 0 := t1.trans z0
  have RM1 := RM_of R
  have lp : ∀ k, k ≤ F.1 4 0 → ∀ a, a = bF (fun m => pt F m n (sh F m w)) k → ∀ d2, sm [130, 131] d1 d2 → Ex mX12_points false 10 0 0 33 [some (.ref 112), some (.int (nI n)), some (.int (nI w)), some (.int a), some (.int (nI k))] [] (W0 d2 L) (qM d L true (bF (fun m => pt F m n (sh F m w)) (F.1 4 0)) 1) nX := by
    refine x_down _ ?_ ?_
    · intro a ha d2 hs2
      have H2 := HL_sm H1 hs2 (by decide)
      repeat refine x_s rfl rfl ?_
      refine x_br rfl rfl (fun c => ?_) (fun c => absurd c (fun z => z (lp_x H2.2.1)))
      repeat refine x_s rfl rfl ?_
      exact x_iret rfl rfl rfl ⟨by rw [ha]; rfl, d2, rfl, mS_go M1 hs2 (by decide) (by decide) (by decide) (by decide) (by decide), by rw [hs2 112 (by decide)]; exact T1⟩
    · intro k hk ih a ha d2 hs2
      have H2 := HL_sm H1 hs2 (by decide)
      repeat refine x_s rfl rfl ?_
      refine x_br rfl rfl (fun c => absurd c (lp_c H2.2.1 hk (by omega))) (fun c => ?_)
      repeat refine x_s rfl rfl ?_
      refine x_cv (k_showsIn d2 L H2 RM1 (n := k) (h := w) (Or.inl hk) s1) rfl rfl rfl (by decide) rfl (by decide) rfl (Nat.le_of_ble_eq_true rfl) (by decide) (by decide) (by decide) ?_
      rintro _ _ ⟨rfl, d3, rfl, hs3⟩
      have H3 := HL_sm H2 hs3 (by decide)
      refine x_cv (k_isPointed d3 L H3 RM1 (n := k) (p := n) (Or.inl hk) (Or.inl q1) (sh F k w)) rfl rfl rfl (by decide) rfl (by decide) rfl (Nat.le_of_ble_eq_true rfl) (by decide) (by decide) (by decide) ?_
      rintro _ _ ⟨rfl, rfl⟩
      refine x_br rfl rfl (fun c1 => ?_) (fun c1 => ?_)
      · iterate 5 refine x_s rfl rfl ?_
        rw [nI_1, or_0]
        exact ih _ (by simp [bF, bI_0.mp c1, ha]) d3 (sm_go hs2 hs3)
      · iterate 8 refine x_s rfl rfl ?_
        rw [nI_1]
        exact ih _ (by simp [bF, bI_n0.mp c1, ha]) d3 (sm_go hs2 hs3)
  iterate 4 refine x_s rfl rfl ?_
  exact lp 0 (Nat.zero_le _) 0 rfl d1 sm_rfl
set_option maxRecDepth 100000 in
set_option maxHeartbeats 1600000 in
theorem q_side (x y : Int32) : Cn mX12_side false 3 0 0 [.ref 112, .int x, .int y] (W0 d L) (qM d L true (nI (sd x.toInt y.toInt)) 1) := by
  refine Cn.intro gX12_side rfl (Nat.le_of_ble_eq_true rfl) rfl ?_
  repeat refine x_s rfl rfl ?_
  refine x_put rfl rfl (by decide) rfl ⟨rfl, rfl⟩ (Or.inl rfl) ?_
  repeat refine x_s rfl rfl ?_
  refine x_cs (k_sideOf _ L x y) rfl rfl rfl (by decide) (Nat.le_of_ble_eq_true rfl) (by decide) (by decide) (by decide) ?_
  rintro _ _ ⟨rfl, rfl⟩
  exact x_iret rfl rfl rfl ⟨rfl, _, rfl, mS_0 0, rfl⟩
set_option maxRecDepth 100000 in
set_option maxHeartbeats 1600000 in
theorem q_accused (H : HB d F) (R : RG F) (x : Int32) : Cn mX12_accused false 10 0 0 [.ref 112, .int x] (W0 d L) (qM d L (inB x 100) (accI F (iN x)) 1) := by
  have r1 := R.1
  have r2 := R.2.1
  have r3 := R.2.2.1
  refine Cn.intro gX12_accused rfl (Nat.le_of_ble_eq_true rfl) rfl ?_
  repeat refine x_s rfl rfl ?_
  refine x_put rfl rfl (by decide) rfl ⟨rfl, rfl⟩ (Or.inl rfl) ?_
  have m0 : mS d (up2 d 112 0 0) := mS_0 0
  have z0 : up2 d 112 0 0 112 0 = 0 := up2_eq
  have H0 := HB_mS R H m0
  generalize hd0 : up2 d 112 0 0 = d0 at m0 z0 H0 ⊢
  repeat refine x_s rfl rfl ?_
  refine x_cv (k_isHour d0 L z0 x) rfl rfl rfl (by decide) rfl (by decide) rfl (Nat.le_of_ble_eq_true rfl) (by decide) (by decide) (by decide) ?_
  rintro _ _ ⟨rfl, rfl⟩
  cases hb : inB x 100
  · rw [if_neg (by decide)]
    refine x_br rfl rfl (fun c => absurd c (fun z => z rfl)) (fun c => ?_)
    repeat refine x_s rfl rfl ?_
    exact x_iret rfl rfl rfl ⟨rfl, _, rfl, mS_f m0 (Or.inl rfl), rfl⟩
  rw [if_pos rfl]
  refine x_br rfl rfl (fun c => ?_) (fun c => absurd c (fun z => absurd z (by decide)))
  obtain ⟨q1, q2, q3⟩ := inB_iN hb
  generalize iN x = n at q1 q2 q3 ⊢
  subst q2
  repeat refine x_s rfl rfl ?_
  refine x_cv (k_lays0 d0 L H0 R true) rfl rfl rfl (by decide) rfl (by decide) rfl (Nat.le_of_ble_eq_true rfl) (by decide) (by decide) (by decide) ?_
  rintro _ _ ⟨rfl, d1, rfl, m1, t1, H1⟩
  rw [if_pos rfl, fst0_self] at H1
  have M1 := mS_tr m0 m1
  have T1 : d1 112 0 = 0 := t1.trans z0
  have RM1 := RM_of R
  repeat refine x_s rfl rfl ?_
  refine x_cv (k_accusedIn d1 L H1 RM1 (h := n) q1) rfl rfl rfl (by decide) rfl (by decide) rfl (Nat.le_of_ble_eq_true rfl) (by decide) (by decide) (by decide) ?_
  rintro _ _ ⟨rfl, d2, rfl, hs2⟩
  exact x_iret rfl rfl rfl ⟨rfl, d2, rfl, mS_go M1 hs2 (by decide) (by decide) (by decide) (by decide) (by decide), by rw [hs2 112 (by decide)]; exact T1⟩
set_option maxRecDepth 100000 in
set_option maxHeartbeats 1600000 in
theorem q_saying (H : HB d F) (R : RG F) (x y : Int32) : Cn mX12_saying false 10 0 0 [.ref 112, .int x, .int y] (W0 d L) (qM d L (inB x (F.1 9 0) && inB y 4) (aSaying F (iN x) (iN y)) 1) := by
  have r1 := R.1
  have r2 := R.2.1
  have r3 := R.2.2.1
  refine Cn.intro gX12_saying rfl (Nat.le_of_ble_eq_true rfl) rfl ?_
  repeat refine x_s rfl rfl ?_
  refine x_put rfl rfl (by decide) rfl ⟨rfl, rfl⟩ (Or.inl rfl) ?_
  have m0 : mS d (up2 d 112 0 0) := mS_0 0
  have z0 : up2 d 112 0 0 112 0 = 0 := up2_eq
  have H0 := HB_mS R H m0
  generalize hd0 : up2 d 112 0 0 = d0 at m0 z0 H0 ⊢
  repeat refine x_s rfl rfl ?_
  refine x_cv (k_isSaying d0 L z0 H0.2.2.2.2.1.1 (by omega) x) rfl rfl rfl (by decide) rfl (by decide) rfl (Nat.le_of_ble_eq_true rfl) (by decide) (by decide) (by decide) ?_
  rintro _ _ ⟨rfl, rfl⟩
  cases hb : inB x (F.1 9 0)
  · rw [if_neg (by decide)]
    refine x_br rfl rfl (fun c => ?_) (fun c => absurd c (fun z => z rfl))
    repeat refine x_s rfl rfl ?_
    exact x_iret rfl rfl rfl ⟨rfl, _, rfl, mS_f m0 (Or.inl rfl), rfl⟩
  rw [if_pos rfl]
  refine x_br rfl rfl (fun c => absurd c (by decide)) (fun c => ?_)
  repeat refine x_s rfl rfl ?_
  refine x_cv (k_isWhat d0 L z0 y (m := 3) (by decide)) rfl rfl rfl (by decide) rfl (by decide) rfl (Nat.le_of_ble_eq_true rfl) (by decide) (by decide) (by decide) ?_
  rintro _ _ ⟨rfl, rfl⟩
  cases hb2 : inB y 4
  · rw [if_neg (by decide)]
    refine x_br rfl rfl (fun c => absurd c (fun z => z rfl)) (fun c => ?_)
    repeat refine x_s rfl rfl ?_
    exact x_iret rfl rfl rfl ⟨rfl, _, rfl, mS_f m0 (Or.inl rfl), rfl⟩
  rw [if_pos rfl]
  refine x_br rfl rfl (fun c => ?_) (fun c => absurd c (fun z => absurd z (by decide)))
  obtain ⟨q1, q2, q3⟩ := inB_iN hb
  generalize iN x = n at q1 q2 q3 ⊢
  subst q2
  obtain ⟨s1, s2, s3⟩ := inB_iN hb2
  generalize iN y = w at s1 s2 s3 ⊢
  subst s2
  repeat refine x_s rfl rfl ?_
  refine x_cv (k_lays0 d0 L H0 R true) rfl rfl rfl (by decide) rfl (by decide) rfl (Nat.le_of_ble_eq_true rfl) (by decide) (by decide) (by decide) ?_
  rintro _ _ ⟨rfl, d1, rfl, m1, t1, H1⟩
  rw [if_pos rfl, fst0_self] at H1
  have M1 := mS_tr m0 m1
  have T1 : d1 112 0 = 0 := t1.trans z0
  have RM1 := RM_of R
  have h6 := H1.2.2.2.2.2.1 n q1
  repeat refine x_s rfl rfl ?_
  rcases (by omega : w = 0 ∨ w = 1 ∨ w = 2 ∨ w = 3) with rfl | rfl | rfl | rfl
  · refine x_br rfl rfl (fun c => absurd c (fun z => z rfl)) (fun c => ?_)
    repeat refine x_s rfl rfl ?_
    refine x_ald rfl rfl rfl (k := n) (rfl) (by omega) (by decide) rfl ?_
    repeat refine x_s rfl rfl ?_
    exact x_iret rfl rfl rfl ⟨congrArg (fun z => some (Value.int z)) (h6.1), d1, rfl, M1, T1⟩
  · refine x_br rfl rfl (fun c => ?_) (fun c => absurd c (fun z => absurd z (by decide)))
    repeat refine x_s rfl rfl ?_
    refine x_br rfl rfl (fun c => absurd c (fun z => z rfl)) (fun c => ?_)
    repeat refine x_s rfl rfl ?_
    refine x_ald rfl rfl rfl (k := n) (rfl) (by omega) (by decide) rfl ?_
    repeat refine x_s rfl rfl ?_
    exact x_iret rfl rfl rfl ⟨congrArg (fun z => some (Value.int z)) (h6.2.1), d1, rfl, M1, T1⟩
  · refine x_br rfl rfl (fun c => ?_) (fun c => absurd c (fun z => absurd z (by decide)))
    repeat refine x_s rfl rfl ?_
    refine x_br rfl rfl (fun c => ?_) (fun c => absurd c (fun z => absurd z (by decide)))
    repeat refine x_s rfl rfl ?_
    refine x_br rfl rfl (fun c => absurd c (fun z => z rfl)) (fun c => ?_)
    repeat refine x_s rfl rfl ?_
    refine x_ald rfl rfl rfl (k := n) (rfl) (by omega) (by decide) rfl ?_
    repeat refine x_s rfl rfl ?_
    exact x_iret rfl rfl rfl ⟨congrArg (fun z => some (Value.int z)) (h6.2.2), d1, rfl, M1, T1⟩
  · refine x_br rfl rfl (fun c => ?_) (fun c => absurd c (fun z => absurd z (by decide)))
    repeat refine x_s rfl rfl ?_
    refine x_br rfl rfl (fun c => ?_) (fun c => absurd c (fun z => absurd z (by decide)))
    repeat refine x_s rfl rfl ?_
    refine x_br rfl rfl (fun c => ?_) (fun c => absurd c (fun z => absurd z (by decide)))
    repeat refine x_s rfl rfl ?_
    refine x_cv (k_heardBy d1 L H1 RM1 q1) rfl rfl rfl (by decide) rfl (by decide) rfl (Nat.le_of_ble_eq_true rfl) (by decide) (by decide) (by decide) ?_
    rintro _ _ ⟨rfl, d2, rfl, hs2⟩
    exact x_iret rfl rfl rfl ⟨rfl, d2, rfl, mS_go M1 hs2 (by decide) (by decide) (by decide) (by decide) (by decide), by rw [hs2 112 (by decide)]; exact T1⟩
def aCountM (d : Nat → Nat → Int32) (F : Fr) (w : Nat) : Int32 := if w = 0 then nI (F.1 0 0) else if w = 1 then nI (F.1 4 0) else if w = 2 then nI (F.1 9 0) else if w = 3 then nI (cF (fun s => decide (0 < F.1 12 s)) (F.1 9 0)) else if w = 4 then d 112 43 else if w = 5 then d 112 56 else if w = 6 then d 112 11 else if w = 7 then d 119 0 else if w = 8 then d 119 1 else if w = 9 then d 119 2 else if w = 10 then ltF F (F.1 9 0) else nI (mx (mh F) 100)
set_option maxRecDepth 100000 in
set_option maxHeartbeats 1600000 in
theorem q_count (H : HB d F) (R : RG F) (x : Int32) : Cn mX12_count false 10 0 0 [.ref 112, .int x] (W0 d L) (qM d L (inB x 12) (aCountM d F (iN x)) 1) := by
  have r1 := R.1
  have r2 := R.2.1
  have r3 := R.2.2.1
  refine Cn.intro gX12_count rfl (Nat.le_of_ble_eq_true rfl) rfl ?_
  repeat refine x_s rfl rfl ?_
  refine x_put rfl rfl (by decide) rfl ⟨rfl, rfl⟩ (Or.inl rfl) ?_
  have m0 : mS d (up2 d 112 0 0) := mS_0 0
  have z0 : up2 d 112 0 0 112 0 = 0 := up2_eq
  have H0 := HB_mS R H m0
  generalize hd0 : up2 d 112 0 0 = d0 at m0 z0 H0 ⊢
  have e43 : d0 112 43 = d 112 43 := m0.2.1 43 (by decide) (by decide) (by decide)
  have e56 : d0 112 56 = d 112 56 := m0.2.1 56 (by decide) (by decide) (by decide)
  have e11 : d0 112 11 = d 112 11 := m0.2.1 11 (by decide) (by decide) (by decide)
  have e119 : d0 119 = d 119 := m0.1 119 (by decide)
  repeat refine x_s rfl rfl ?_
  refine x_cs (k_within d0 L x 0 11) rfl rfl rfl (by decide) (Nat.le_of_ble_eq_true rfl) (by decide) (by decide) (by decide) ?_
  rintro _ _ ⟨rfl, rfl⟩
  rw [wi_B (m := 11) rfl]
  repeat refine x_s rfl rfl ?_
  refine x_cv (k_right d0 L z0 _ 1 (by decide)) rfl rfl rfl (by decide) rfl (by decide) rfl (Nat.le_of_ble_eq_true rfl) (by decide) (by decide) (by decide) ?_
  rintro _ _ ⟨rfl, rfl⟩
  cases hb : inB x 12
  · rw [if_neg (by decide)]
    refine x_br rfl rfl (fun c => absurd c (fun z => z rfl)) (fun c => ?_)
    repeat refine x_s rfl rfl ?_
    exact x_iret rfl rfl rfl ⟨rfl, _, rfl, mS_f m0 (Or.inl rfl), rfl⟩
  rw [if_pos rfl]
  refine x_br rfl rfl (fun c => ?_) (fun c => absurd c (fun z => absurd z (by decide)))
  obtain ⟨q1, q2, q3⟩ := inB_iN hb
  generalize iN x = w at q1 q2 q3 ⊢
  subst q2
  repeat refine x_s rfl rfl ?_
  rcases (by omega : w = 0 ∨ w = 1 ∨ w = 2 ∨ w = 3 ∨ w = 4 ∨ w = 5 ∨ w = 6 ∨ w = 7 ∨ w = 8 ∨ w = 9 ∨ w = 10 ∨ w = 11) with rfl | rfl | rfl | rfl | rfl | rfl | rfl | rfl | rfl | rfl | rfl | rfl
  · refine x_tsw (i := .iadd) (tgt := 84) rfl (Or.inl ⟨by decide, _, rfl, rfl⟩) ?_
    repeat refine x_s rfl rfl ?_
    exact x_iret rfl rfl rfl ⟨congrArg (fun z => some (Value.int z)) (H0.1), d0, rfl, m0, z0⟩
  · refine x_tsw (i := .iadd) (tgt := 89) rfl (Or.inl ⟨by decide, _, rfl, rfl⟩) ?_
    repeat refine x_s rfl rfl ?_
    exact x_iret rfl rfl rfl ⟨congrArg (fun z => some (Value.int z)) (H0.2.1), d0, rfl, m0, z0⟩
  · refine x_tsw (i := .iadd) (tgt := 94) rfl (Or.inl ⟨by decide, _, rfl, rfl⟩) ?_
    repeat refine x_s rfl rfl ?_
    refine x_ald rfl rfl rfl (k := 0) (rfl) (by omega) (by decide) rfl ?_
    exact x_iret rfl rfl rfl ⟨congrArg (fun z => some (Value.int z)) (H0.2.2.2.2.1.1), d0, rfl, m0, z0⟩
  · refine x_tsw (i := .iadd) (tgt := 101) rfl (Or.inl ⟨by decide, _, rfl, rfl⟩) ?_
    repeat refine x_s rfl rfl ?_
    refine x_cv (k_lies d0 L H0.2.2.2.2.1 R) rfl rfl rfl (by decide) rfl (by decide) rfl (Nat.le_of_ble_eq_true rfl) (by decide) (by decide) (by decide) ?_
    rintro _ _ ⟨rfl, rfl⟩
    exact x_iret rfl rfl rfl ⟨rfl, d0, rfl, m0, z0⟩
  · refine x_tsw (i := .iadd) (tgt := 106) rfl (Or.inl ⟨by decide, _, rfl, rfl⟩) ?_
    repeat refine x_s rfl rfl ?_
    exact x_iret rfl rfl rfl ⟨congrArg (fun z => some (Value.int z)) (e43), d0, rfl, m0, z0⟩
  · refine x_tsw (i := .iadd) (tgt := 111) rfl (Or.inl ⟨by decide, _, rfl, rfl⟩) ?_
    repeat refine x_s rfl rfl ?_
    exact x_iret rfl rfl rfl ⟨congrArg (fun z => some (Value.int z)) (e56), d0, rfl, m0, z0⟩
  · refine x_tsw (i := .iadd) (tgt := 116) rfl (Or.inl ⟨by decide, _, rfl, rfl⟩) ?_
    repeat refine x_s rfl rfl ?_
    exact x_iret rfl rfl rfl ⟨congrArg (fun z => some (Value.int z)) (e11), d0, rfl, m0, z0⟩
  · refine x_tsw (i := .iadd) (tgt := 131) rfl (Or.inl ⟨by decide, _, rfl, rfl⟩) ?_
    repeat refine x_s rfl rfl ?_
    refine x_ald rfl rfl rfl (k := 0) (rfl) (by omega) (by decide) rfl ?_
    exact x_iret rfl rfl rfl ⟨congrArg (fun z => some (Value.int z)) (congrFun e119 0), d0, rfl, m0, z0⟩
  · refine x_tsw (i := .iadd) (tgt := 131) rfl (Or.inl ⟨by decide, _, rfl, rfl⟩) ?_
    repeat refine x_s rfl rfl ?_
    refine x_ald rfl rfl rfl (k := 1) (rfl) (by omega) (by decide) rfl ?_
    exact x_iret rfl rfl rfl ⟨congrArg (fun z => some (Value.int z)) (congrFun e119 1), d0, rfl, m0, z0⟩
  · refine x_tsw (i := .iadd) (tgt := 131) rfl (Or.inl ⟨by decide, _, rfl, rfl⟩) ?_
    repeat refine x_s rfl rfl ?_
    refine x_ald rfl rfl rfl (k := 2) (rfl) (by omega) (by decide) rfl ?_
    exact x_iret rfl rfl rfl ⟨congrArg (fun z => some (Value.int z)) (congrFun e119 2), d0, rfl, m0, z0⟩
  · refine x_tsw (i := .iadd) (tgt := 121) rfl (Or.inl ⟨by decide, _, rfl, rfl⟩) ?_
    repeat refine x_s rfl rfl ?_
    refine x_cv (k_lastHour d0 L H0.2.2.2.2.1 R) rfl rfl rfl (by decide) rfl (by decide) rfl (Nat.le_of_ble_eq_true rfl) (by decide) (by decide) (by decide) ?_
    rintro _ _ ⟨rfl, rfl⟩
    exact x_iret rfl rfl rfl ⟨rfl, d0, rfl, m0, z0⟩
  · refine x_tsw (i := .iadd) (tgt := 126) rfl (Or.inl ⟨by decide, _, rfl, rfl⟩) ?_
    repeat refine x_s rfl rfl ?_
    refine x_cv (k_mostLies d0 L H0.2.2.2.2.1 R) rfl rfl rfl (by decide) rfl (by decide) rfl (Nat.le_of_ble_eq_true rfl) (by decide) (by decide) (by decide) ?_
    rintro _ _ ⟨rfl, rfl⟩
    exact x_iret rfl rfl rfl ⟨rfl, d0, rfl, m0, z0⟩
set_option maxRecDepth 100000 in
set_option maxHeartbeats 1600000 in
theorem q_one (H : HB d F) (R : RG F) (x y : Int32) : Cn mX12_one false 10 0 0 [.ref 112, .int x, .int y] (W0 d L) (qM d L (inB x (F.1 0 0) && inB y 5) (aOne F (iN x) (iN y)) 1) := by
  have r1 := R.1
  have r2 := R.2.1
  have r3 := R.2.2.1
  refine Cn.intro gX12_one rfl (Nat.le_of_ble_eq_true rfl) rfl ?_
  repeat refine x_s rfl rfl ?_
  refine x_put rfl rfl (by decide) rfl ⟨rfl, rfl⟩ (Or.inl rfl) ?_
  have m0 : mS d (up2 d 112 0 0) := mS_0 0
  have z0 : up2 d 112 0 0 112 0 = 0 := up2_eq
  have H0 := HB_mS R H m0
  generalize hd0 : up2 d 112 0 0 = d0 at m0 z0 H0 ⊢
  repeat refine x_s rfl rfl ?_
  refine x_cv (k_isPerson d0 L z0 H0.1 (by omega) x) rfl rfl rfl (by decide) rfl (by decide) rfl (Nat.le_of_ble_eq_true rfl) (by decide) (by decide) (by decide) ?_
  rintro _ _ ⟨rfl, rfl⟩
  cases hb : inB x (F.1 0 0)
  · rw [if_neg (by decide)]
    refine x_br rfl rfl (fun c => ?_) (fun c => absurd c (fun z => z rfl))
    repeat refine x_s rfl rfl ?_
    exact x_iret rfl rfl rfl ⟨rfl, _, rfl, mS_f m0 (Or.inl rfl), rfl⟩
  rw [if_pos rfl]
  refine x_br rfl rfl (fun c => absurd c (by decide)) (fun c => ?_)
  repeat refine x_s rfl rfl ?_
  refine x_cv (k_isWhat d0 L z0 y (m := 4) (by decide)) rfl rfl rfl (by decide) rfl (by decide) rfl (Nat.le_of_ble_eq_true rfl) (by decide) (by decide) (by decide) ?_
  rintro _ _ ⟨rfl, rfl⟩
  cases hb2 : inB y 5
  · rw [if_neg (by decide)]
    refine x_br rfl rfl (fun c => absurd c (fun z => z rfl)) (fun c => ?_)
    repeat refine x_s rfl rfl ?_
    exact x_iret rfl rfl rfl ⟨rfl, _, rfl, mS_f m0 (Or.inl rfl), rfl⟩
  rw [if_pos rfl]
  refine x_br rfl rfl (fun c => ?_) (fun c => absurd c (fun z => absurd z (by decide)))
  obtain ⟨q1, q2, q3⟩ := inB_iN hb
  generalize iN x = n at q1 q2 q3 ⊢
  subst q2
  obtain ⟨s1, s2, s3⟩ := inB_iN hb2
  generalize iN y = w at s1 s2 s3 ⊢
  subst s2
  repeat refine x_s rfl rfl ?_
  refine x_cv (k_lays0 d0 L H0 R true) rfl rfl rfl (by decide) rfl (by decide) rfl (Nat.le_of_ble_eq_true rfl) (by decide) (by decide) (by decide) ?_
  rintro _ _ ⟨rfl, d1, rfl, m1, t1, H1⟩
  rw [if_pos rfl, fst0_self] at H1
  have M1 := mS_tr m0 m1
  have T1 : d1 112 0 = 0 := t1.trans z0
  have RM1 := RM_of R
  have h4 := H1.2.2.2.1 n (Or.inl q1)
  repeat refine x_s rfl rfl ?_
  rcases (by omega : w = 0 ∨ w = 1 ∨ w = 2 ∨ w = 3 ∨ w = 4) with rfl | rfl | rfl | rfl | rfl
  · refine x_tsw (i := .iadd) (tgt := 64) rfl (Or.inl ⟨by decide, _, rfl, rfl⟩) ?_
    repeat refine x_s rfl rfl ?_
    refine x_ald rfl rfl rfl (k := n) (rfl) (by omega) (by decide) rfl ?_
    exact x_iret rfl rfl rfl ⟨congrArg (fun z => some (Value.int z)) (h4.1), d1, rfl, M1, T1⟩
  · refine x_tsw (i := .iadd) (tgt := 71) rfl (Or.inl ⟨by decide, _, rfl, rfl⟩) ?_
    repeat refine x_s rfl rfl ?_
    refine x_ald rfl rfl rfl (k := n) (rfl) (by omega) (by decide) rfl ?_
    exact x_iret rfl rfl rfl ⟨congrArg (fun z => some (Value.int z)) (h4.2.1), d1, rfl, M1, T1⟩
  · refine x_tsw (i := .iadd) (tgt := 78) rfl (Or.inl ⟨by decide, _, rfl, rfl⟩) ?_
    repeat refine x_s rfl rfl ?_
    refine x_ald rfl rfl rfl (k := n) (rfl) (by omega) (by decide) rfl ?_
    exact x_iret rfl rfl rfl ⟨congrArg (fun z => some (Value.int z)) (h4.2.2), d1, rfl, M1, T1⟩
  · refine x_tsw (i := .iadd) (tgt := 85) rfl (Or.inl ⟨by decide, _, rfl, rfl⟩) ?_
    have lp : ∀ k, k ≤ F.1 9 0 → ∀ a, a = bF (fun s => decide (F.1 11 s = n)) k → Ex mX12_one false 10 0 0 88 [some (.ref 112), some (.int (nI n)), some (.int (nI 3)), some (.int a), some (.int (nI k))] [] (W0 d1 L) (qM d L true (bF (fun s => decide (F.1 11 s = n)) (F.1 9 0)) 1) nX := by
      refine x_down _ ?_ ?_
      · intro a ha
        repeat refine x_s rfl rfl ?_
        refine x_br rfl rfl (fun c => ?_) (fun c => absurd c (fun z => z (lp_x H1.2.2.1)))
        repeat refine x_s rfl rfl ?_
        exact x_iret rfl rfl rfl ⟨by rw [ha]; rfl, d1, rfl, M1, T1⟩
      · intro k hk ih a ha
        have h6 := H1.2.2.2.2.2.1 k hk
        have r6 := R.2.2.2.2.2 k hk
        repeat refine x_s rfl rfl ?_
        refine x_br rfl rfl (fun c => absurd c (lp_c H1.2.2.1 hk (by omega))) (fun c => ?_)
        repeat refine x_s rfl rfl ?_
        refine x_ald rfl rfl rfl (k := k) (rfl) (by omega) (by decide) rfl ?_
        rw [h6.2.1]
        repeat refine x_s rfl rfl ?_
        refine x_br rfl rfl (fun c1 => ?_) (fun c1 => ?_)
        · have e : ¬ F.1 11 k = n := fun z => c1 (by rw [z])
          iterate 5 refine x_s rfl rfl ?_
          rw [nI_1, or_0]
          exact ih _ (by simp [bF, e, ha])
        · have e : F.1 11 k = n := (nI_eq (by omega) (by omega)).mp c1
          iterate 8 refine x_s rfl rfl ?_
          rw [nI_1]
          exact ih _ (by simp [bF, e, ha])
    iterate 2 refine x_s rfl rfl ?_
    exact lp 0 (Nat.zero_le _) 0 rfl
  · refine x_tsw (i := .iadd) (tgt := 127) rfl (Or.inr ⟨by decide, by decide⟩) ?_
    have lp : ∀ k, k ≤ F.1 4 0 → ∀ a, a = bF (fun m => decide (far F m n ≤ F.1 7 m)) k → Ex mX12_one false 10 0 0 130 [some (.ref 112), some (.int (nI n)), some (.int (nI 4)), some (.int a), some (.int (nI k))] [] (W0 d1 L) (qM d L true (bF (fun m => decide (far F m n ≤ F.1 7 m)) (F.1 4 0)) 1) nX := by
      refine x_down _ ?_ ?_
      · intro a ha
        repeat refine x_s rfl rfl ?_
        refine x_br rfl rfl (fun c => ?_) (fun c => absurd c (fun z => z (lp_x H1.2.1)))
        repeat refine x_s rfl rfl ?_
        exact x_iret rfl rfl rfl ⟨by rw [ha]; rfl, d1, rfl, M1, T1⟩
      · intro k hk ih a ha
        have h5 := H1.2.2.2.2.1 k (Or.inl hk)
        have r5 := R.2.2.2.2.1 k hk
        have hf := far_le R hk q1
        repeat refine x_s rfl rfl ?_
        refine x_br rfl rfl (fun c => absurd c (lp_c H1.2.1 hk (by omega))) (fun c => ?_)
        repeat refine x_s rfl rfl ?_
        refine x_cv (k_farOf d1 L H1 RM1 (n := k) (p := n) (Or.inl hk) (Or.inl q1)) rfl rfl rfl (by decide) rfl (by decide) rfl (Nat.le_of_ble_eq_true rfl) (by decide) (by decide) (by decide) ?_
        rintro _ _ ⟨rfl, rfl⟩
        repeat refine x_s rfl rfl ?_
        refine x_ald rfl rfl rfl (k := k) (rfl) (by omega) (by decide) rfl ?_
        rw [h5.2.2.1]
        refine x_br rfl rfl (fun c1 => ?_) (fun c1 => ?_)
        · have e : ¬ far F k n ≤ F.1 7 k := fun z => absurd c1 (nI_nlt z (by omega))
          iterate 5 refine x_s rfl rfl ?_
          rw [nI_1, or_0]
          exact ih _ (by simp [bF, e, ha])
        · have e : far F k n ≤ F.1 7 k := by
            rcases Nat.lt_or_ge (F.1 7 k) (far F k n) with z | z
            · exact absurd (nI_lt z (by omega)) c1
            · exact z
          iterate 8 refine x_s rfl rfl ?_
          rw [nI_1]
          exact ih _ (by simp [bF, e, ha])
    iterate 2 refine x_s rfl rfl ?_
    exact lp 0 (Nat.zero_le _) 0 rfl
set_option maxRecDepth 100000 in
set_option maxHeartbeats 1600000 in
theorem q_needle (H : HB d F) (R : RG F) (x y : Int32) : Cn mX12_needle false 10 0 0 [.ref 112, .int x, .int y] (W0 d L) (qM d L (inB x (F.1 4 0) && inB y 7) (aNeedle F (iN x) (iN y)) 1) := by
  have r1 := R.1
  have r2 := R.2.1
  have r3 := R.2.2.1
  refine Cn.intro gX12_needle rfl (Nat.le_of_ble_eq_true rfl) rfl ?_
  repeat refine x_s rfl rfl ?_
  refine x_put rfl rfl (by decide) rfl ⟨rfl, rfl⟩ (Or.inl rfl) ?_
  have m0 : mS d (up2 d 112 0 0) := mS_0 0
  have z0 : up2 d 112 0 0 112 0 = 0 := up2_eq
  have H0 := HB_mS R H m0
  generalize hd0 : up2 d 112 0 0 = d0 at m0 z0 H0 ⊢
  repeat refine x_s rfl rfl ?_
  refine x_cv (k_isNeedle d0 L z0 H0.2.1 (by omega) x) rfl rfl rfl (by decide) rfl (by decide) rfl (Nat.le_of_ble_eq_true rfl) (by decide) (by decide) (by decide) ?_
  rintro _ _ ⟨rfl, rfl⟩
  cases hb : inB x (F.1 4 0)
  · rw [if_neg (by decide)]
    refine x_br rfl rfl (fun c => ?_) (fun c => absurd c (fun z => z rfl))
    repeat refine x_s rfl rfl ?_
    exact x_iret rfl rfl rfl ⟨rfl, _, rfl, mS_f m0 (Or.inl rfl), rfl⟩
  rw [if_pos rfl]
  refine x_br rfl rfl (fun c => absurd c (by decide)) (fun c => ?_)
  repeat refine x_s rfl rfl ?_
  refine x_cv (k_isWhat d0 L z0 y (m := 6) (by decide)) rfl rfl rfl (by decide) rfl (by decide) rfl (Nat.le_of_ble_eq_true rfl) (by decide) (by decide) (by decide) ?_
  rintro _ _ ⟨rfl, rfl⟩
  cases hb2 : inB y 7
  · rw [if_neg (by decide)]
    refine x_br rfl rfl (fun c => absurd c (fun z => z rfl)) (fun c => ?_)
    repeat refine x_s rfl rfl ?_
    exact x_iret rfl rfl rfl ⟨rfl, _, rfl, mS_f m0 (Or.inl rfl), rfl⟩
  rw [if_pos rfl]
  refine x_br rfl rfl (fun c => ?_) (fun c => absurd c (fun z => absurd z (by decide)))
  obtain ⟨q1, q2, q3⟩ := inB_iN hb
  generalize iN x = n at q1 q2 q3 ⊢
  subst q2
  obtain ⟨s1, s2, s3⟩ := inB_iN hb2
  generalize iN y = w at s1 s2 s3 ⊢
  subst s2
  repeat refine x_s rfl rfl ?_
  refine x_cv (k_lays0 d0 L H0 R true) rfl rfl rfl (by decide) rfl (by decide) rfl (Nat.le_of_ble_eq_true rfl) (by decide) (by decide) (by decide) ?_
  rintro _ _ ⟨rfl, d1, rfl, m1, t1, H1⟩
  rw [if_pos rfl, fst0_self] at H1
  have M1 := mS_tr m0 m1
  have T1 : d1 112 0 = 0 := t1.trans z0
  have RM1 := RM_of R
  have h5 := H1.2.2.2.2.1 n (Or.inl q1)
  repeat refine x_s rfl rfl ?_
  rcases (by omega : w = 0 ∨ w = 1 ∨ w = 2 ∨ w = 3 ∨ w = 4 ∨ w = 5 ∨ w = 6) with rfl | rfl | rfl | rfl | rfl | rfl | rfl
  · refine x_tsw (i := .iadd) (tgt := 72) rfl (Or.inl ⟨by decide, _, rfl, rfl⟩) ?_
    repeat refine x_s rfl rfl ?_
    refine x_ald rfl rfl rfl (k := n) (rfl) (by omega) (by decide) rfl ?_
    exact x_iret rfl rfl rfl ⟨congrArg (fun z => some (Value.int z)) (h5.1), d1, rfl, M1, T1⟩
  · refine x_tsw (i := .iadd) (tgt := 79) rfl (Or.inl ⟨by decide, _, rfl, rfl⟩) ?_
    repeat refine x_s rfl rfl ?_
    refine x_ald rfl rfl rfl (k := n) (rfl) (by omega) (by decide) rfl ?_
    exact x_iret rfl rfl rfl ⟨congrArg (fun z => some (Value.int z)) (h5.2.1), d1, rfl, M1, T1⟩
  · refine x_tsw (i := .iadd) (tgt := 86) rfl (Or.inl ⟨by decide, _, rfl, rfl⟩) ?_
    repeat refine x_s rfl rfl ?_
    refine x_ald rfl rfl rfl (k := n) (rfl) (by omega) (by decide) rfl ?_
    exact x_iret rfl rfl rfl ⟨congrArg (fun z => some (Value.int z)) (h5.2.2.1), d1, rfl, M1, T1⟩
  · refine x_tsw (i := .iadd) (tgt := 93) rfl (Or.inl ⟨by decide, _, rfl, rfl⟩) ?_
    repeat refine x_s rfl rfl ?_
    refine x_ald rfl rfl rfl (k := n) (rfl) (by omega) (by decide) rfl ?_
    exact x_iret rfl rfl rfl ⟨congrArg (fun z => some (Value.int z)) (h5.2.2.2), d1, rfl, M1, T1⟩
  · refine x_tsw (i := .iadd) (tgt := 100) rfl (Or.inl ⟨by decide, _, rfl, rfl⟩) ?_
    have lp : ∀ k, k ≤ F.1 9 0 → ∀ a, a = bF (hr F n) k → ∀ d2, sm [130, 131] d1 d2 → Ex mX12_needle false 10 0 0 103 [some (.ref 112), some (.int (nI n)), some (.int (nI 4)), some (.int a), some (.int (nI k))] [] (W0 d2 L) (qM d L true (bF (hr F n) (F.1 9 0)) 1) nX := by
      refine x_down _ ?_ ?_
      · intro a ha d2 hs2
        have H2 := HL_sm H1 hs2 (by decide)
        repeat refine x_s rfl rfl ?_
        refine x_br rfl rfl (fun c => ?_) (fun c => absurd c (fun z => z (lp_x H2.2.2.1)))
        repeat refine x_s rfl rfl ?_
        exact x_iret rfl rfl rfl ⟨by rw [ha]; rfl, d2, rfl, mS_go M1 hs2 (by decide) (by decide) (by decide) (by decide) (by decide), by rw [hs2 112 (by decide)]; exact T1⟩
      · intro k hk ih a ha d2 hs2
        have H2 := HL_sm H1 hs2 (by decide)
        repeat refine x_s rfl rfl ?_
        refine x_br rfl rfl (fun c => absurd c (lp_c H2.2.2.1 hk (by omega))) (fun c => ?_)
        repeat refine x_s rfl rfl ?_
        refine x_cv (k_hears d2 L H2 RM1 (n := n) (s := k) (Or.inl q1) hk) rfl rfl rfl (by decide) rfl (by decide) rfl (Nat.le_of_ble_eq_true rfl) (by decide) (by decide) (by decide) ?_
        rintro _ _ ⟨rfl, d3, rfl, hs3⟩
        refine x_br rfl rfl (fun c1 => ?_) (fun c1 => ?_)
        · iterate 5 refine x_s rfl rfl ?_
          rw [nI_1, or_0]
          exact ih _ (by simp [bF, bI_0.mp c1, ha]) d3 (sm_go hs2 hs3)
        · iterate 8 refine x_s rfl rfl ?_
          rw [nI_1]
          exact ih _ (by simp [bF, bI_n0.mp c1, ha]) d3 (sm_go hs2 hs3)
    iterate 2 refine x_s rfl rfl ?_
    exact lp 0 (Nat.zero_le _) 0 rfl d1 sm_rfl
  · refine x_tsw (i := .iadd) (tgt := 141) rfl (Or.inl ⟨by decide, _, rfl, rfl⟩) ?_
    repeat refine x_s rfl rfl ?_
    refine x_cv (k_quivers d1 L H1 RM1 q1) rfl rfl rfl (by decide) rfl (by decide) rfl (Nat.le_of_ble_eq_true rfl) (by decide) (by decide) (by decide) ?_
    rintro _ _ ⟨rfl, d2, rfl, hs2⟩
    exact x_iret rfl rfl rfl ⟨rfl, d2, rfl, mS_go M1 hs2 (by decide) (by decide) (by decide) (by decide) (by decide), by rw [hs2 112 (by decide)]; exact T1⟩
  · refine x_tsw (i := .iadd) (tgt := 147) rfl (Or.inr ⟨by decide, by decide⟩) ?_
    repeat refine x_s rfl rfl ?_
    refine x_cv (k_worthOf d1 L H1 RM1 q1) rfl rfl rfl (by decide) rfl (by decide) rfl (Nat.le_of_ble_eq_true rfl) (by decide) (by decide) (by decide) ?_
    rintro _ _ ⟨rfl, d2, rfl, hs2⟩
    exact x_iret rfl rfl rfl ⟨rfl, d2, rfl, mS_go M1 hs2 (by decide) (by decide) (by decide) (by decide) (by decide), by rw [hs2 112 (by decide)]; exact T1⟩
end
