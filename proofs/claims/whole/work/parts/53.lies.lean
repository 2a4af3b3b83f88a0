/-! THE CALLS on one lie alone -/
abbrev qT2 (d : Nat → Nat → Int32) (L : Nat → Nat → Int64) (g1 g2 : Bool) : Nat → xHp → Prop := fun j h => h = W0 d L ∧ ((j = 1 ∧ g1 = false) ∨ (j = 0 ∧ g1 = true ∧ g2 = false))
def knd (F : Fr) (dg ho p : Nat) : Nat := if accA F p dg ho = nI p then 0 else if accA F p dg ho = -1 then 2 else 1
def plz (F : Fr) (Z : Sn) : Nat → Int32
  | 0 => 0
  | k + 1 => if sh F (Z.2.1 k) (Z.2.2.1 k) = Z.2.2.2 k then plz F Z k else plz F Z k ||| ((1 : Int32) <<< (nI (Z.2.1 k) &&& 31))
theorem inL_iN {x y : Int32} (h : inL x y = true) : (1 ≤ iN x ∧ iN x ≤ 9 ∧ x = nI (iN x)) ∧ iN y < 100 ∧ y = nI (iN y) := by
  unfold inL at h
  rw [Bool.and_eq_true, decide_eq_true_eq] at h
  have h1 : inB x 10 = true := decide_eq_true (by omega)
  have q := inB_iN h1
  have s := inB_iN h.2
  refine ⟨⟨?_, by omega, q.2.1⟩, s.1, s.2.1⟩
  unfold iN
  omega
theorem p2_lt {m k : Nat} (hm : m < 11) (hk : k < 2 ^ m) : ¬ nI (2 ^ m) ≤ nI k := by
  have hp : 2 ^ m ≤ 1024 := Nat.le_trans (Nat.pow_le_pow_right (by decide) (show m ≤ 10 by omega)) (by decide)
  exact nI_ge hk (by omega)
theorem sm_SX {S : List Nat} {d d' : Nat → Nat → Int32} (h : sm S d d') (hs : ∀ c, c ∈ S → c ∈ SX) : sm SX d d' := sm_in h hs
section
variable (d : Nat → Nat → Int32) (L : Nat → Nat → Int64) {F : Fr} {Z : Sn}
set_option maxRecDepth 100000 in
set_option maxHeartbeats 8000000 in
theorem p_just (H : HC d F) (R : RG F) (K : HW d F) (x y z : Int32) : Cx mX11_just 20 6 36 [.ref 0, .int x, .int y, .int z] (W0 d L) (qG d L (inB z 3 && inL x y) (nI (cF (fun p => decide (knd F (iN x) (iN y) p = iN z)) (F.1 0 0)))) (qT2 d L (inB z 3) (inL x y)) := by
  have r1 := R.1
  refine Cx.intro gX11_just rfl (Nat.le_of_ble_eq_true rfl) rfl ?_
  repeat refine x_s rfl rfl ?_
  refine x_xs (c_needWhat d L z (m := 2) (by decide)) rfl rfl rfl rfl (by decide) (Nat.le_of_ble_eq_true rfl) (by decide) (by decide) (by decide) ?_ ?_
  rotate_left
  · rintro _ _ ⟨rfl, rfl, hg⟩
    exact ⟨rfl, Or.inl ⟨rfl, hg⟩⟩
  rintro _ _ ⟨rfl, rfl, hg⟩
  repeat refine x_s rfl rfl ?_
  refine x_xs (c_needLie d L x y) rfl rfl rfl rfl (by decide) (Nat.le_of_ble_eq_true rfl) (by decide) (by decide) (by decide) ?_ ?_
  rotate_left
  · rintro _ _ ⟨rfl, rfl, hg2⟩
    exact ⟨rfl, Or.inr ⟨rfl, hg, hg2⟩⟩
  rintro _ _ ⟨rfl, rfl, hg2⟩
  rw [and_t hg hg2]
  obtain ⟨q1, q2, q3⟩ := inB_iN hg
  obtain ⟨⟨s1, s2, s3⟩, t1, t2⟩ := inL_iN hg2
  generalize iN z = w at q1 q2 q3 ⊢
  generalize iN x = dg at s1 s2 s3 ⊢
  generalize iN y = ho at t1 t2 ⊢
  subst q2
  subst s3
  subst t2
  have lp : ∀ k, k ≤ F.1 0 0 → ∀ a, a = nI (cF (fun p => decide (knd F dg ho p = w)) k) → ∀ d1, sm SX d d1 → ∀ o1 o2, Ex mX11_just false 20 4 24 16 [some (.ref 0), some (.int (nI dg)), some (.int (nI ho)), some (.int (nI w)), some (.int a), some (.int (nI k)), o1, o2] [] (W0 d1 L) (qG d L true (nI (cF (fun p => decide (knd F dg ho p = w)) (F.1 0 0)))) (qT2 d L (inB (nI w) 3) (inL (nI dg) (nI ho))) := by
    refine x_down _ ?_ ?_
    · intro a ha d1 hs o1 o2
      have H1 := HC_sm H hs (by decide)
      repeat refine x_s rfl rfl ?_
      refine x_br rfl rfl (fun c => ?_) (fun c => absurd c (fun z => z (lp_x H1.1)))
      repeat refine x_s rfl rfl ?_
      exact x_iret rfl rfl rfl ⟨rfl, by rw [ha], d1, L, rfl, hs, sL_rfl⟩
    · intro k hk ih a ha d1 hs o1 o2
      have H1 := HC_sm H hs (by decide)
      repeat refine x_s rfl rfl ?_
      refine x_br rfl rfl (fun c => absurd c (lp_c H1.1 hk (by omega))) (fun c => ?_)
      repeat refine x_s rfl rfl ?_
      refine x_cv (c_accusedAlone d1 L H1 R (HW_sm R K hs (by decide)) (p := k) (dg := dg) (ho := ho) hk (by omega)) rfl rfl rfl (by decide) rfl (by decide) rfl (Nat.le_of_ble_eq_true rfl) (by decide) (by decide) (by decide) ?_
      rintro _ _ ⟨rfl, d2, rfl, hs2⟩
      have hs12 : sm SX d d2 := sm_go hs (sm_in hs2 (by decide))
      have fin : ∀ (c : Nat) (o3 : Option Value), c = knd F dg ho k → c < 3 → Ex mX11_just false 20 4 24 66 [some (.ref 0), some (.int (nI dg)), some (.int (nI ho)), some (.int (nI w)), some (.int a), some (.int (nI k)), some (.int (accA F k dg ho)), o3] [.int (nI c)] (W0 d2 L) (qG d L true (nI (cF (fun p => decide (knd F dg ho p = w)) (F.1 0 0)))) (qT2 d L (inB (nI w) 3) (inL (nI dg) (nI ho))) := by
        intro c o3 hc hc3
        repeat refine x_s rfl rfl ?_
        refine x_br rfl rfl (fun c1 => ?_) (fun c1 => ?_)
        · have c2 : ¬ knd F dg ho k = w := fun z => c1 (by rw [hc, z])
          iterate 2 refine x_s rfl rfl ?_
          rw [nI_1]
          exact ih _ (by simp [cF, ha, c2]) d2 hs12 _ _
        · have c2 : knd F dg ho k = w := by rw [← hc]; exact (nI_eq (by omega) (by omega)).mp c1
          iterate 3 refine x_s rfl rfl ?_
          rw [nI_1 k]
          exact ih _ (by simp [cF, ha, c2, nI_1]) d2 hs12 _ _
      repeat refine x_s rfl rfl ?_
      refine x_br rfl rfl (fun c1 => ?_) (fun c1 => ?_)
      · have c1' : ¬ accA F k dg ho = nI k := c1
        repeat refine x_s rfl rfl ?_
        refine x_br rfl rfl (fun c2 => ?_) (fun c2 => ?_)
        · have c2' : ¬ accA F k dg ho = -1 := c2
          iterate 1 refine x_s rfl rfl ?_
          exact fin 1 _ (by simp [knd, c1', c2']) (by decide)
        · have c2' : accA F k dg ho = -1 := c2
          iterate 2 refine x_s rfl rfl ?_
          exact fin 2 _ (by rw [knd, if_neg c1', if_pos c2']) (by decide)
      · have c1' : accA F k dg ho = nI k := c1
        iterate 2 refine x_s rfl rfl ?_
        exact fin 0 _ (by simp [knd, c1']) (by decide)
  iterate 4 refine x_s rfl rfl ?_
  exact lp 0 (Nat.zero_le _) 0 rfl d sm_rfl _ _
set_option maxRecDepth 100000 in
set_option maxHeartbeats 8000000 in
theorem p_apart (H : HC d F) (R : RG F) (K : HW d F) (x y : Int32) : Cx mX11_apart 20 6 36 [.ref 0, .int x, .int y] (W0 d L) (qG d L (inL x y) (fI (tA F (iN x) (iN y)) (F.1 4 0) 0 (2 ^ F.1 4 0))) (qT 0 d L (inL x y)) := by
  have r2 := R.2.1
  refine Cx.intro gX11_apart rfl (Nat.le_of_ble_eq_true rfl) rfl ?_
  repeat refine x_s rfl rfl ?_
  refine x_xs (c_needLie d L x y) rfl rfl rfl rfl (by decide) (Nat.le_of_ble_eq_true rfl) (by decide) (by decide) (by decide) ?_ ?_
  rotate_left
  · exact fun _ _ z => z
  rintro _ _ ⟨rfl, rfl, hg2⟩
  obtain ⟨⟨s1, s2, s3⟩, t1, t2⟩ := inL_iN hg2
  rw [hg2]
  generalize iN x = dg at s1 s2 s3 ⊢
  generalize iN y = ho at t1 t2 ⊢
  subst s3
  subst t2
  repeat refine x_s rfl rfl ?_
  refine x_cv (c_noteLies d L H R (dg := dg) (ho := ho) (by omega)) rfl rfl rfl (by decide) rfl (by decide) rfl (Nat.le_of_ble_eq_true rfl) (by decide) (by decide) (by decide) ?_
  rintro _ _ ⟨rfl, d1, rfl, hs, h6⟩
  have H1 := HC_sm H hs (by decide)
  have K1 := HW_sm R K hs (by decide)
  iterate 5 refine x_s rfl rfl ?_
  rw [H1.2.1]
  generalize hm : F.1 4 0 = m
  have lp : ∀ k, k ≤ 2 ^ m → ∀ a, fI (tA F dg ho) m 0 (2 ^ m) = fI (tA F dg ho) m a (2 ^ m - k) → Ex mX11_apart false 20 5 30 34 [some (.ref 0), some (.int (nI dg)), some (.int (nI ho)), some (.int (nI m)), some (.int a), some (.int (nI k))] [] (W0 d1 L) (qG d L true (fI (tA F dg ho) m 0 (2 ^ m))) (qT 0 d L true) := by
    refine x_down _ ?_ ?_
    · intro a ha
      iterate 4 refine x_s rfl rfl ?_
      rw [p2_I m (by omega)]
      refine x_br rfl rfl (fun c => ?_) (fun c => absurd c (fun z => z (Int32.le_refl _)))
      repeat refine x_s rfl rfl ?_
      exact x_iret rfl rfl rfl ⟨rfl, by rw [ha, Nat.sub_self]; rfl, d1, L, rfl, sm_in hs (by decide), sL_rfl⟩
    · intro k hk ih a ha
      rw [show 2 ^ m - k = (2 ^ m - (k + 1)) + 1 by omega] at ha
      iterate 4 refine x_s rfl rfl ?_
      rw [p2_I m (by omega)]
      refine x_br rfl rfl (fun c => absurd c (p2_lt (by omega) hk)) (fun c => ?_)
      repeat refine x_s rfl rfl ?_
      refine x_cv (c_tellsApart d1 L H1 R K1 h6 a) rfl rfl rfl (by decide) rfl (by decide) rfl (Nat.le_of_ble_eq_true rfl) (by decide) (by decide) (by decide) ?_
      rintro _ _ ⟨rfl, rfl⟩
      refine x_br rfl rfl (fun c1 => ?_) (fun c1 => ?_)
      · repeat refine x_s rfl rfl ?_
        refine x_cs (c_nextChoice d1 L a m) rfl rfl rfl (by decide) (Nat.le_of_ble_eq_true rfl) (by decide) (by decide) (by decide) ?_
        rintro _ _ ⟨rfl, rfl⟩
        iterate 3 refine x_s rfl rfl ?_
        rw [nI_1]
        refine ih _ (ha.trans ?_)
        rw [fI, if_neg (by rw [bI_0.mp c1]; decide)]
      · repeat refine x_s rfl rfl ?_
        refine x_iret rfl rfl rfl ⟨rfl, ?_, d1, L, rfl, sm_in hs (by decide), sL_rfl⟩
        rw [ha, fI, if_pos (bI_n0.mp c1)]
  iterate 5 refine x_s rfl rfl ?_
  exact lp 0 (Nat.zero_le _) 0 rfl
set_option maxRecDepth 100000 in
set_option maxHeartbeats 8000000 in
theorem p_ears (H : HC d F) (R : RG F) (K : HW d F) (x y : Int32) : Cx mX11_ears 20 6 36 [.ref 0, .int x, .int y] (W0 d L) (qG d L (inL x y) (fI (hA F (iN x) (iN y)) (F.1 4 0) 0 (2 ^ F.1 4 0))) (qT 0 d L (inL x y)) := by
  have r2 := R.2.1
  refine Cx.intro gX11_ears rfl (Nat.le_of_ble_eq_true rfl) rfl ?_
  repeat refine x_s rfl rfl ?_
  refine x_xs (c_needLie d L x y) rfl rfl rfl rfl (by decide) (Nat.le_of_ble_eq_true rfl) (by decide) (by decide) (by decide) ?_ ?_
  rotate_left
  · exact fun _ _ z => z
  rintro _ _ ⟨rfl, rfl, hg2⟩
  obtain ⟨⟨s1, s2, s3⟩, t1, t2⟩ := inL_iN hg2
  rw [hg2]
  generalize iN x = dg at s1 s2 s3 ⊢
  generalize iN y = ho at t1 t2 ⊢
  subst s3
  subst t2
  repeat refine x_s rfl rfl ?_
  refine x_cv (c_noteLies d L H R (dg := dg) (ho := ho) (by omega)) rfl rfl rfl (by decide) rfl (by decide) rfl (Nat.le_of_ble_eq_true rfl) (by decide) (by decide) (by decide) ?_
  rintro _ _ ⟨rfl, d1, rfl, hs, h6⟩
  have H1 := HC_sm H hs (by decide)
  iterate 5 refine x_s rfl rfl ?_
  rw [H1.2.1]
  generalize hm : F.1 4 0 = m
  have lp : ∀ k, k ≤ 2 ^ m → ∀ a, fI (hA F dg ho) m 0 (2 ^ m) = fI (hA F dg ho) m a (2 ^ m - k) → Ex mX11_ears false 20 5 30 34 [some (.ref 0), some (.int (nI dg)), some (.int (nI ho)), some (.int (nI m)), some (.int a), some (.int (nI k))] [] (W0 d1 L) (qG d L true (fI (hA F dg ho) m 0 (2 ^ m))) (qT 0 d L true) := by
    refine x_down _ ?_ ?_
    · intro a ha
      iterate 4 refine x_s rfl rfl ?_
      rw [p2_I m (by omega)]
      refine x_br rfl rfl (fun c => ?_) (fun c => absurd c (fun z => z (Int32.le_refl _)))
      repeat refine x_s rfl rfl ?_
      exact x_iret rfl rfl rfl ⟨rfl, by rw [ha, Nat.sub_self]; rfl, d1, L, rfl, sm_in hs (by decide), sL_rfl⟩
    · intro k hk ih a ha
      rw [show 2 ^ m - k = (2 ^ m - (k + 1)) + 1 by omega] at ha
      iterate 4 refine x_s rfl rfl ?_
      rw [p2_I m (by omega)]
      refine x_br rfl rfl (fun c => absurd c (p2_lt (by omega) hk)) (fun c => ?_)
      repeat refine x_s rfl rfl ?_
      refine x_cv (c_hearAll d1 L H1 R h6 a) rfl rfl rfl (by decide) rfl (by decide) rfl (Nat.le_of_ble_eq_true rfl) (by decide) (by decide) (by decide) ?_
      rintro _ _ ⟨rfl, rfl⟩
      refine x_br rfl rfl (fun c1 => ?_) (fun c1 => ?_)
      · repeat refine x_s rfl rfl ?_
        refine x_cs (c_nextChoice d1 L a m) rfl rfl rfl (by decide) (Nat.le_of_ble_eq_true rfl) (by decide) (by decide) (by decide) ?_
        rintro _ _ ⟨rfl, rfl⟩
        iterate 3 refine x_s rfl rfl ?_
        rw [nI_1]
        refine ih _ (ha.trans ?_)
        rw [fI, if_neg (by rw [bI_0.mp c1]; decide)]
      · repeat refine x_s rfl rfl ?_
        refine x_iret rfl rfl rfl ⟨rfl, ?_, d1, L, rfl, sm_in hs (by decide), sL_rfl⟩
        rw [ha, fI, if_pos (bI_n0.mp c1)]
  iterate 5 refine x_s rfl rfl ?_
  exact lp 0 (Nat.zero_le _) 0 rfl
set_option maxRecDepth 100000 in
set_option maxHeartbeats 8000000 in
theorem p_alibi (H : HC d F) (R : RG F) (K : HW d F) (x y z : Int32) : Cx mX11_alibi 20 6 36 [.ref 0, .int x, .int y, .int z] (W0 d L) (qG d L (inB x (F.1 0 0) && inL y z) (bF (fun q => decide (q ≠ iN x) && decide (accA F q (iN y) (iN z) = nI (iN x))) (F.1 0 0))) (qT2 d L (inB x (F.1 0 0)) (inL y z)) := by
  have r1 := R.1
  refine Cx.intro gX11_alibi rfl (Nat.le_of_ble_eq_true rfl) rfl ?_
  repeat refine x_s rfl rfl ?_
  refine x_xv (c_needPerson d L H R x) rfl rfl rfl rfl (by decide) rfl (by decide) rfl (Nat.le_of_ble_eq_true rfl) (by decide) (by decide) (by decide) ?_ ?_
  rotate_left
  · rintro _ _ ⟨rfl, rfl, hg⟩
    exact ⟨rfl, Or.inl ⟨rfl, hg⟩⟩
  rintro _ _ ⟨rfl, rfl, hg⟩
  repeat refine x_s rfl rfl ?_
  refine x_xs (c_needLie d L y z) rfl rfl rfl rfl (by decide) (Nat.le_of_ble_eq_true rfl) (by decide) (by decide) (by decide) ?_ ?_
  rotate_left
  · rintro _ _ ⟨rfl, rfl, hg2⟩
    exact ⟨rfl, Or.inr ⟨rfl, hg, hg2⟩⟩
  rintro _ _ ⟨rfl, rfl, hg2⟩
  rw [and_t hg hg2]
  obtain ⟨q1, q2, q3⟩ := inB_iN hg
  obtain ⟨⟨s1, s2, s3⟩, t1, t2⟩ := inL_iN hg2
  generalize iN x = w at q1 q2 q3 ⊢
  generalize iN y = dg at s1 s2 s3 ⊢
  generalize iN z = ho at t1 t2 ⊢
  subst q2
  subst s3
  subst t2
  have lp : ∀ k, k ≤ F.1 0 0 → ∀ a, a = bF (fun q => decide (q ≠ w) && decide (accA F q dg ho = nI w)) k → ∀ d1, sm SX d d1 → Ex mX11_alibi false 20 4 24 16 [some (.ref 0), some (.int (nI w)), some (.int (nI dg)), some (.int (nI ho)), some (.int a), some (.int (nI k))] [] (W0 d1 L) (qG d L true (bF (fun q => decide (q ≠ w) && decide (accA F q dg ho = nI w)) (F.1 0 0))) (qT2 d L (inB (nI w) (F.1 0 0)) (inL (nI dg) (nI ho))) := by
    refine x_down _ ?_ ?_
    · intro a ha d1 hs
      have H1 := HC_sm H hs (by decide)
      repeat refine x_s rfl rfl ?_
      refine x_br rfl rfl (fun c => ?_) (fun c => absurd c (fun z => z (lp_x H1.1)))
      repeat refine x_s rfl rfl ?_
      exact x_iret rfl rfl rfl ⟨rfl, by rw [ha], d1, L, rfl, hs, sL_rfl⟩
    · intro k hk ih a ha d1 hs
      have H1 := HC_sm H hs (by decide)
      repeat refine x_s rfl rfl ?_
      refine x_br rfl rfl (fun c => absurd c (lp_c H1.1 hk (by omega))) (fun c => ?_)
      repeat refine x_s rfl rfl ?_
      refine x_br rfl rfl (fun c1 => ?_) (fun c1 => ?_)
      · have c2 : k = w := (nI_eq (by omega) (by omega)).mp c1
        iterate 2 refine x_s rfl rfl ?_
        rw [nI_1]
        exact ih _ (by simp [bF, ha, c2]) d1 hs
      · have c2 : ¬ k = w := fun z => c1 (by rw [z])
        repeat refine x_s rfl rfl ?_
        refine x_cv (c_accusedAlone d1 L H1 R (HW_sm R K hs (by decide)) (p := k) (dg := dg) (ho := ho) hk (by omega)) rfl rfl rfl (by decide) rfl (by decide) rfl (Nat.le_of_ble_eq_true rfl) (by decide) (by decide) (by decide) ?_
        rintro _ _ ⟨rfl, d2, rfl, hs2⟩
        have hs12 : sm SX d d2 := sm_go hs (sm_in hs2 (by decide))
        repeat refine x_s rfl rfl ?_
        refine x_br rfl rfl (fun c3 => ?_) (fun c3 => ?_)
        · have c4 : ¬ accA F k dg ho = nI w := c3
          iterate 2 refine x_s rfl rfl ?_
          rw [nI_1]
          exact ih _ (by simp [bF, ha, c4]) d2 hs12
        · have c4 : accA F k dg ho = nI w := c3
          iterate 8 refine x_s rfl rfl ?_
          rw [nI_1]
          exact ih _ (by simp [bF, ha, c4, c2]) d2 hs12
  iterate 4 refine x_s rfl rfl ?_
  exact lp 0 (Nat.zero_le _) 0 rfl d sm_rfl
end
