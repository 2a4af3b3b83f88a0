/-! THE CALLS: plan, planted, suspects, pardon, first, rusted, truest, busiest, shown -/
def inC (z : Int32) : Bool := decide (-1 ≤ z.toInt ∧ z.toInt ≤ 9)
/-- the first with the most: who, how much; b: the one at the start -/
def bs2 (w : Nat → Int32) : Nat → Int32 × Int32
  | 0 => (-1, 0)
  | n + 1 => if (bs2 w n).1 = -1 ∨ (bs2 w n).2 < w n then (nI n, w n) else bs2 w n
def bs1 (w : Nat → Int32) : Nat → Int32 × Int32
  | 0 => (-1, 0)
  | n + 1 => if (bs1 w n).2 < w n then (nI (n + 1), w n) else bs1 w n
def trn (F : Fr) (j : Nat) : Int32 := nI (cF (fun n => decide (sh F n (j + 1) ≠ sh F n j)) (F.1 4 0))
def prd (F : Fr) (ho p : Nat) (x : Int32) : Bool := decide (acc F (fun n => sh F n ho) (sai F ho) ho (bt (x ^^^ (-1))) ≠ nI p)
section
variable (d : Nat → Nat → Int32) (L : Nat → Nat → Int64) {F : Fr} {Z : Sn}
set_option maxRecDepth 100000 in
set_option maxHeartbeats 8000000 in
theorem p_plan (H : HC d F) (R : RG F) (K : HW d F) (x y z : Int32) : Cx mX11_plan 20 6 36 [.ref 0, .int x, .int y, .int z] (W0 d L) (qG d L (inB y 100 && (inB x (2 ^ F.1 4 0) && inB z 10)) (fP (fun s => aS F x (iN y) s z) (F.1 0 0) 0 (2 ^ F.1 0 0))) (qT2 d L (inB y 100) (inB x (2 ^ F.1 4 0) && inB z 10)) := by
  have r1 := R.1
  have r2 := R.2.1
  refine Cx.intro gX11_plan rfl (Nat.le_of_ble_eq_true rfl) rfl ?_
  repeat refine x_s rfl rfl ?_
  refine x_xs (c_needHour d L y) rfl rfl rfl rfl (by decide) (Nat.le_of_ble_eq_true rfl) (by decide) (by decide) (by decide) ?_ ?_
  rotate_left
  · rintro _ _ ⟨rfl, rfl, hg⟩
    exact ⟨rfl, Or.inl ⟨rfl, hg⟩⟩
  rintro _ _ ⟨rfl, rfl, hg⟩
  iterate 6 refine x_s rfl rfl ?_
  rw [H.2.1]
  refine x_xs (c_needBits d L x (m := F.1 4 0) (by omega)) rfl rfl rfl rfl (by decide) (Nat.le_of_ble_eq_true rfl) (by decide) (by decide) (by decide) ?_ ?_
  rotate_left
  · rintro _ _ ⟨rfl, rfl, hg2⟩
    exact ⟨rfl, Or.inr ⟨rfl, hg, and_f1 hg2⟩⟩
  rintro _ _ ⟨rfl, rfl, hg2⟩
  repeat refine x_s rfl rfl ?_
  refine x_br rfl rfl (fun c1 => ?_) (fun c1 => ?_)
  · refine x_throw (Or.inl rfl) rfl rfl rfl rfl rfl (Or.inr ⟨_, rfl⟩) rfl rfl (by decide) (by decide) (by decide) (Nat.le_of_ble_eq_true rfl) ⟨rfl, Or.inr ⟨rfl, hg, and_f2 (inB_f1 c1)⟩⟩
  repeat refine x_s rfl rfl ?_
  refine x_br rfl rfl (fun c2 => ?_) (fun c2 => ?_)
  rotate_left
  · refine x_throw (Or.inl rfl) rfl rfl rfl rfl rfl (Or.inr ⟨_, rfl⟩) rfl rfl (by decide) (by decide) (by decide) (Nat.le_of_ble_eq_true rfl) ⟨rfl, Or.inr ⟨rfl, hg, and_f2 ?_⟩⟩
    rw [ile, show (9 : Int32).toInt = 9 from rfl] at c2
    exact decide_eq_false (by omega)
  have hz : inB z 10 = true := by
    rw [ile, show (9 : Int32).toInt = 9 from rfl] at c2
    rw [lt0] at c1
    exact decide_eq_true (by omega)
  rw [and_t hg (and_t hg2 hz)]
  obtain ⟨t1, t2, t3⟩ := inB_iN hg
  generalize iN y = ho at t1 t2 t3 ⊢
  subst t2
  repeat refine x_s rfl rfl ?_
  refine x_cv (c_noteLies d L H R (dg := 9) (ho := ho) (by decide)) rfl rfl rfl (by decide) rfl (by decide) rfl (Nat.le_of_ble_eq_true rfl) (by decide) (by decide) (by decide) ?_
  rintro _ _ ⟨rfl, d1, rfl, hs, h6⟩
  have H1 := HC_sm H hs (by decide)
  have K1 := HW_sm R K hs (by decide)
  repeat refine x_s rfl rfl ?_
  refine x_cv (c_noteSums d1 L H1 R K1 t1) rfl rfl rfl (by decide) rfl (by decide) rfl (Nat.le_of_ble_eq_true rfl) (by decide) (by decide) (by decide) ?_
  rintro _ _ ⟨rfl, d2, rfl, hs2, h7⟩
  have H2 := HC_sm H1 hs2 (by decide)
  have K2 := HW_sm R K1 hs2 (by decide)
  have h62 := H67_sm h6 hs2 (by decide)
  have hs12 : sm SX d d2 := sm_go (sm_in hs (by decide)) (sm_in hs2 (by decide))
  iterate 5 refine x_s rfl rfl ?_
  rw [H2.1]
  generalize hm : F.1 0 0 = m
  have lp : ∀ k, k ≤ 2 ^ m → ∀ a, fP (fun s => aS F x ho s z) m 0 (2 ^ m) = fP (fun s => aS F x ho s z) m a (2 ^ m - k) → ∀ d3, sm [69] d2 d3 → Ex mX11_plan false 20 4 24 81 [some (.ref 0), some (.int x), some (.int (nI ho)), some (.int z), some (.int (nI m)), some (.int a), some (.int (nI k))] [] (W0 d3 L) (qG d L true (fP (fun s => aS F x ho s z) m 0 (2 ^ m))) (qT2 d L (inB (nI ho) 100) (inB x (2 ^ F.1 4 0) && inB z 10)) := by
    refine x_down _ ?_ ?_
    · intro a ha d3 hs3
      iterate 4 refine x_s rfl rfl ?_
      rw [p2_I m (by omega)]
      refine x_br rfl rfl (fun c => ?_) (fun c => absurd c (fun z => z (Int32.le_refl _)))
      repeat refine x_s rfl rfl ?_
      exact x_iret rfl rfl rfl ⟨rfl, by rw [ha, Nat.sub_self]; rfl, d3, L, rfl, sm_go hs12 (sm_in hs3 (by decide)), sL_rfl⟩
    · intro k hk ih a ha d3 hs3
      rw [show 2 ^ m - k = (2 ^ m - (k + 1)) + 1 by omega] at ha
      iterate 4 refine x_s rfl rfl ?_
      rw [p2_I m (by omega)]
      refine x_br rfl rfl (fun c => absurd c (p2_lt (by omega) hk)) (fun c => ?_)
      repeat refine x_s rfl rfl ?_
      refine x_cs (c_bitCount d3 L a) rfl rfl rfl (by decide) (Nat.le_of_ble_eq_true rfl) (by decide) (by decide) (by decide) ?_
      rintro _ _ ⟨rfl, rfl⟩
      repeat refine x_s rfl rfl ?_
      refine x_br rfl rfl (fun c3 => ?_) (fun c3 => ?_)
      · repeat refine x_s rfl rfl ?_
        refine x_iret rfl rfl rfl ⟨rfl, ?_, d3, L, rfl, sm_go hs12 (sm_in hs3 (by decide)), sL_rfl⟩
        rw [ha, fP, if_neg (Int32.not_le.mpr c3)]
      · have c4 : bc a ≤ 3 := Int32.not_lt.mp c3
        repeat refine x_s rfl rfl ?_
        refine x_cv (c_allShow d3 L (HC_sm H2 hs3 (by decide)) R (HW_sm R K2 hs3 (by decide)) t1 (H67_sm h62 hs3 (by decide)) (H71_sm R h7 hs3 (by decide)) x a z) rfl rfl rfl (by decide) rfl (by decide) rfl (Nat.le_of_ble_eq_true rfl) (by decide) (by decide) (by decide) ?_
        rintro _ _ ⟨rfl, d4, rfl, hs4⟩
        refine x_br rfl rfl (fun c5 => ?_) (fun c5 => ?_)
        · repeat refine x_s rfl rfl ?_
          refine x_cs (c_nextChoice d4 L a m) rfl rfl rfl (by decide) (Nat.le_of_ble_eq_true rfl) (by decide) (by decide) (by decide) ?_
          rintro _ _ ⟨rfl, rfl⟩
          iterate 3 refine x_s rfl rfl ?_
          rw [nI_1]
          refine ih _ (ha.trans ?_) d4 (sm_go hs3 hs4)
          rw [fP, if_pos c4, if_neg (by rw [bI_0.mp c5]; decide)]
        · repeat refine x_s rfl rfl ?_
          refine x_iret rfl rfl rfl ⟨rfl, ?_, d4, L, rfl, sm_go hs12 (sm_in (sm_go hs3 hs4) (by decide)), sL_rfl⟩
          rw [ha, fP, if_pos c4, if_pos (bI_n0.mp c5)]
  iterate 5 refine x_s rfl rfl ?_
  exact lp 0 (Nat.zero_le _) 0 rfl d2 sm_rfl
set_option maxRecDepth 100000 in
set_option maxHeartbeats 8000000 in
theorem p_planted (R : RG F) (K : HW d F) (HZ0 : HZ d Z) (R2 : RZ F Z) : Cn mX11_planted false 2 0 0 [.ref 0] (W0 d L) (qP d L (plz F Z Z.1)) := by
  have r2 := R.2.1
  have z1 := R2.1
  have lp : ∀ k, k ≤ Z.1 → ∀ a, a = plz F Z k → ∀ o, Ex mX11_planted false 2 0 0 4 [some (.ref 0), some (.int a), some (.int (nI k)), o] [] (W0 d L) (qP d L (plz F Z Z.1)) nX := by
    refine x_down _ ?_ ?_
    · intro a ha o
      repeat refine x_s rfl rfl ?_
      refine x_br rfl rfl (fun c => ?_) (fun c => absurd c (fun z => z (lp_x HZ0.1)))
      repeat refine x_s rfl rfl ?_
      exact x_iret rfl rfl rfl ⟨by rw [ha], rfl⟩
    · intro k hk ih a ha o
      have z2 := HZ0.2 k hk
      have z3 := R2.2 k hk
      repeat refine x_s rfl rfl ?_
      refine x_br rfl rfl (fun c => absurd c (lp_c HZ0.1 hk (by omega))) (fun c => ?_)
      repeat refine x_s rfl rfl ?_
      refine x_ald rfl rfl rfl (k := k) (rfl) (by omega) (by decide) rfl ?_
      rw [z2.1]
      repeat refine x_s rfl rfl ?_
      refine x_ald rfl rfl rfl (k := Z.2.1 k) rfl (by omega) (by decide) (xav_rows (by omega)) ?_
      repeat refine x_s rfl rfl ?_
      refine x_ald rfl rfl rfl (k := k) (rfl) (by omega) (by decide) rfl ?_
      rw [z2.2.1]
      refine x_ald rfl (SH_rows (by omega)) rfl (k := Z.2.2.1 k) (rfl) (by omega) (by decide) rfl ?_
      rw [((K.1 _ z3.1).2.1 _ z3.2).1]
      repeat refine x_s rfl rfl ?_
      refine x_ald rfl rfl rfl (k := k) (rfl) (by omega) (by decide) rfl ?_
      rw [z2.2.2]
      refine x_br rfl rfl (fun c => ?_) (fun c => ?_)
      · have c' : sh F (Z.2.1 k) (Z.2.2.1 k) = Z.2.2.2 k := c
        iterate 2 refine x_s rfl rfl ?_
        rw [nI_1]
        exact ih _ (by rw [ha, plz, if_pos c']) _
      · have c' : ¬ sh F (Z.2.1 k) (Z.2.2.1 k) = Z.2.2.2 k := c
        iterate 8 refine x_s rfl rfl ?_
        rw [nI_1 k]
        exact ih _ (by rw [ha, plz, if_neg c']) _
  refine Cn.intro gX11_planted rfl (Nat.le_of_ble_eq_true rfl) rfl ?_
  iterate 4 refine x_s rfl rfl ?_
  exact lp 0 (Nat.zero_le _) 0 rfl _
set_option maxRecDepth 100000 in
set_option maxHeartbeats 8000000 in
theorem p_suspects (H : HC d F) (R : RG F) (K : HW d F) (HZ0 : HZ d Z) (R2 : RZ F Z) (x : Int32) : Cx mX11_suspects 20 6 36 [.ref 0, .int x] (W0 d L) (qG d L (inB x 100) (bF (isS F Z (iN x)) (F.1 0 0))) (qT 1 d L (inB x 100)) := by
  have r1 := R.1
  refine Cx.intro gX11_suspects rfl (Nat.le_of_ble_eq_true rfl) rfl ?_
  repeat refine x_s rfl rfl ?_
  refine x_xs (c_needHour d L x) rfl rfl rfl rfl (by decide) (Nat.le_of_ble_eq_true rfl) (by decide) (by decide) (by decide) ?_ ?_
  rotate_left
  · exact fun _ _ z => z
  rintro _ _ ⟨rfl, rfl, hg⟩
  obtain ⟨t1, t2, t3⟩ := inB_iN hg
  rw [hg]
  generalize iN x = t at t1 t2 t3 ⊢
  subst t2
  repeat refine x_s rfl rfl ?_
  refine x_cv (c_noteSums d L H R K t1) rfl rfl rfl (by decide) rfl (by decide) rfl (Nat.le_of_ble_eq_true rfl) (by decide) (by decide) (by decide) ?_
  rintro _ _ ⟨rfl, d1, rfl, hs, h7⟩
  have lp : ∀ k, k ≤ F.1 0 0 → ∀ a, a = bF (isS F Z t) k → ∀ d2, sm [69, 40, 70] d1 d2 → Ex mX11_suspects false 20 5 30 16 [some (.ref 0), some (.int (nI t)), some (.int a), some (.int (nI k))] [] (W0 d2 L) (qG d L true (bF (isS F Z t) (F.1 0 0))) (qT 1 d L true) := by
    refine x_down _ ?_ ?_
    · intro a ha d2 hs2
      have hs12 : sm SX d d2 := sm_go (sm_in hs (by decide)) (sm_in hs2 (by decide))
      have H2 := HC_sm H hs12 (by decide)
      repeat refine x_s rfl rfl ?_
      refine x_br rfl rfl (fun c => ?_) (fun c => absurd c (fun z => z (lp_x H2.1)))
      repeat refine x_s rfl rfl ?_
      exact x_iret rfl rfl rfl ⟨rfl, by rw [ha], d2, L, rfl, hs12, sL_rfl⟩
    · intro k hk ih a ha d2 hs2
      have hs12 : sm SX d d2 := sm_go (sm_in hs (by decide)) (sm_in hs2 (by decide))
      have H2 := HC_sm H hs12 (by decide)
      repeat refine x_s rfl rfl ?_
      refine x_br rfl rfl (fun c => absurd c (lp_c H2.1 hk (by omega))) (fun c => ?_)
      repeat refine x_s rfl rfl ?_
      refine x_cv (c_isSuspect d2 L H2 R (HW_sm R K hs12 (by decide)) (HZ_sm HZ0 hs12 (by decide)) R2 t1 hk (H71_sm R h7 hs2 (by decide))) rfl rfl rfl (by decide) rfl (by decide) rfl (Nat.le_of_ble_eq_true rfl) (by decide) (by decide) (by decide) ?_
      rintro _ _ ⟨rfl, d3, rfl, hs3⟩
      refine x_br rfl rfl (fun c1 => ?_) (fun c1 => ?_)
      · iterate 2 refine x_s rfl rfl ?_
        rw [nI_1]
        exact ih _ (by simp [bF, ha, bI_0.mp c1]) d3 (sm_go hs2 hs3)
      · iterate 8 refine x_s rfl rfl ?_
        rw [nI_1]
        exact ih _ (by simp [bF, ha, bI_n0.mp c1]) d3 (sm_go hs2 hs3)
  iterate 4 refine x_s rfl rfl ?_
  exact lp 0 (Nat.zero_le _) 0 rfl d1 sm_rfl
set_option maxRecDepth 100000 in
set_option maxHeartbeats 8000000 in
theorem p_pardon (H : HC d F) (R : RG F) (K : HW d F) (x y : Int32) : Cx mX11_pardon 20 6 36 [.ref 0, .int x, .int y] (W0 d L) (qG d L (inB x (F.1 0 0) && inB y 100) (fI (prd F (iN y) (iN x)) (F.1 4 0) 0 (2 ^ F.1 4 0))) (qT 1 d L (inB x (F.1 0 0) && inB y 100)) := by
  have r1 := R.1
  have r2 := R.2.1
  refine Cx.intro gX11_pardon rfl (Nat.le_of_ble_eq_true rfl) rfl ?_
  repeat refine x_s rfl rfl ?_
  refine x_xv (c_needPerson d L H R x) rfl rfl rfl rfl (by decide) rfl (by decide) rfl (Nat.le_of_ble_eq_true rfl) (by decide) (by decide) (by decide) ?_ ?_
  rotate_left
  · rintro _ _ ⟨rfl, rfl, hg⟩
    exact ⟨rfl, rfl, and_f1 hg⟩
  rintro _ _ ⟨rfl, rfl, hg⟩
  repeat refine x_s rfl rfl ?_
  refine x_xs (c_needHour d L y) rfl rfl rfl rfl (by decide) (Nat.le_of_ble_eq_true rfl) (by decide) (by decide) (by decide) ?_ ?_
  rotate_left
  · rintro _ _ ⟨rfl, rfl, hg2⟩
    exact ⟨rfl, rfl, and_f2 hg2⟩
  rintro _ _ ⟨rfl, rfl, hg2⟩
  rw [and_t hg hg2]
  obtain ⟨q1, q2, q3⟩ := inB_iN hg
  generalize iN x = p at q1 q2 q3 ⊢
  subst q2
  obtain ⟨s1, s2, s3⟩ := inB_iN hg2
  generalize iN y = ho at s1 s2 s3 ⊢
  subst s2
  repeat refine x_s rfl rfl ?_
  refine x_cv (c_hearAllC d L H R K s1) rfl rfl rfl (by decide) rfl (by decide) rfl (Nat.le_of_ble_eq_true rfl) (by decide) (by decide) (by decide) ?_
  rintro _ _ ⟨rfl, d1, rfl, hs, hk1⟩
  have H1 := HC_sm H hs (by decide)
  have K1 := HW_sm R K hs (by decide)
  iterate 5 refine x_s rfl rfl ?_
  rw [H1.2.1]
  generalize hm : F.1 4 0 = m
  have lp : ∀ k, k ≤ 2 ^ m → ∀ a, fI (prd F ho p) m 0 (2 ^ m) = fI (prd F ho p) m a (2 ^ m - k) → ∀ d2, sm [43, 80] d1 d2 → Ex mX11_pardon false 20 4 24 41 [some (.ref 0), some (.int (nI p)), some (.int (nI ho)), some (.int (nI m)), some (.int a), some (.int (nI k))] [] (W0 d2 L) (qG d L true (fI (prd F ho p) m 0 (2 ^ m))) (qT 1 d L true) := by
    refine x_down _ ?_ ?_
    · intro a ha d2 hs2
      iterate 4 refine x_s rfl rfl ?_
      rw [p2_I m (by omega)]
      refine x_br rfl rfl (fun c => ?_) (fun c => absurd c (fun z => z (Int32.le_refl _)))
      repeat refine x_s rfl rfl ?_
      exact x_iret rfl rfl rfl ⟨rfl, by rw [ha, Nat.sub_self]; rfl, d2, L, rfl, sm_go (sm_in hs (by decide)) (sm_in hs2 (by decide)), sL_rfl⟩
    · intro k hk ih a ha d2 hs2
      rw [show 2 ^ m - k = (2 ^ m - (k + 1)) + 1 by omega] at ha
      iterate 4 refine x_s rfl rfl ?_
      rw [p2_I m (by omega)]
      refine x_br rfl rfl (fun c => absurd c (p2_lt (by omega) hk)) (fun c => ?_)
      repeat refine x_s rfl rfl ?_
      refine x_cv (c_accuse d2 L (HC_sm H1 hs2 (by decide)) R (HW_sm R K1 hs2 (by decide)) (HK_sm hk1 hs2 (by decide) (by decide)) (a ^^^ (-1))) rfl rfl rfl (by decide) rfl (by decide) rfl (Nat.le_of_ble_eq_true rfl) (by decide) (by decide) (by decide) ?_
      rintro _ _ ⟨rfl, d3, rfl, hs3⟩
      repeat refine x_s rfl rfl ?_
      refine x_br rfl rfl (fun c1 => ?_) (fun c1 => ?_)
      · have c2 : acc F (fun n => sh F n ho) (sai F ho) ho (bt (a ^^^ (-1))) = nI p := c1
        repeat refine x_s rfl rfl ?_
        refine x_cs (c_nextChoice d3 L a m) rfl rfl rfl (by decide) (Nat.le_of_ble_eq_true rfl) (by decide) (by decide) (by decide) ?_
        rintro _ _ ⟨rfl, rfl⟩
        iterate 3 refine x_s rfl rfl ?_
        rw [nI_1]
        refine ih _ (ha.trans ?_) d3 (sm_go hs2 hs3)
        rw [fI, if_neg (by rw [prd, decide_eq_true_eq]; exact fun z => z c2)]
      · have c2 : ¬ acc F (fun n => sh F n ho) (sai F ho) ho (bt (a ^^^ (-1))) = nI p := c1
        repeat refine x_s rfl rfl ?_
        refine x_iret rfl rfl rfl ⟨rfl, ?_, d3, L, rfl, sm_go (sm_in hs (by decide)) (sm_in (sm_go hs2 hs3) (by decide)), sL_rfl⟩
        rw [ha, fI, if_pos (by rw [prd, decide_eq_true_eq]; exact c2)]
  iterate 5 refine x_s rfl rfl ?_
  exact lp 0 (Nat.zero_le _) 0 rfl d1 sm_rfl
set_option maxRecDepth 100000 in
set_option maxHeartbeats 8000000 in
theorem p_first (H : HC d F) (R : RG F) (K : HW d F) (x : Int32) : Cx mX11_first 20 6 36 [.ref 0, .int x] (W0 d L) (qG d L (inB x (F.1 0 0)) (fF (fun h => decide (accI F h = nI (iN x))) 0 100)) (qT 1 d L (inB x (F.1 0 0))) := by
  have r1 := R.1
  refine Cx.intro gX11_first rfl (Nat.le_of_ble_eq_true rfl) rfl ?_
  repeat refine x_s rfl rfl ?_
  refine x_xv (c_needPerson d L H R x) rfl rfl rfl rfl (by decide) rfl (by decide) rfl (Nat.le_of_ble_eq_true rfl) (by decide) (by decide) (by decide) ?_ ?_
  rotate_left
  · exact fun _ _ z => z
  rintro _ _ ⟨rfl, rfl, hg⟩
  rw [hg]
  obtain ⟨q1, q2, q3⟩ := inB_iN hg
  generalize iN x = p at q1 q2 q3 ⊢
  subst q2
  have lp : ∀ k, k ≤ 100 → ∀ V, V = fF (fun h => decide (accI F h = nI p)) k (100 - k) → ∀ d1, sm SX d d1 → Ex mX11_first false 20 5 30 7 [some (.ref 0), some (.int (nI p)), some (.int (nI k))] [] (W0 d1 L) (qG d L true V) (qT 1 d L true) := by
    refine x_down _ ?_ ?_
    · intro V ha d1 hs
      repeat refine x_s rfl rfl ?_
      refine x_br rfl rfl (fun c => ?_) (fun c => absurd c (fun z => z (by decide)))
      repeat refine x_s rfl rfl ?_
      exact x_iret rfl rfl rfl ⟨rfl, by rw [ha]; rfl, d1, L, rfl, hs, sL_rfl⟩
    · intro k hk ih V ha d1 hs
      repeat refine x_s rfl rfl ?_
      refine x_br rfl rfl (fun c => absurd c (nI_ge (b := 100) hk (by decide))) (fun c => ?_)
      repeat refine x_s rfl rfl ?_
      refine x_cv (c_accusedIn d1 L (HC_sm H hs (by decide)) R (HW_sm R K hs (by decide)) hk) rfl rfl rfl (by decide) rfl (by decide) rfl (Nat.le_of_ble_eq_true rfl) (by decide) (by decide) (by decide) ?_
      rintro _ _ ⟨rfl, d2, rfl, hs2⟩
      have hs12 : sm SX d d2 := sm_go hs (sm_in hs2 (by decide))
      repeat refine x_s rfl rfl ?_
      refine x_br rfl rfl (fun c1 => ?_) (fun c1 => ?_)
      · iterate 2 refine x_s rfl rfl ?_
        rw [nI_1]
        exact ih _ (ha.trans (fF_f hk (decide_eq_false c1))) d2 hs12
      · repeat refine x_s rfl rfl ?_
        exact x_iret rfl rfl rfl ⟨rfl, by rw [ha.trans (fF_t hk (decide_eq_true c1))], d2, L, rfl, hs12, sL_rfl⟩
  iterate 2 refine x_s rfl rfl ?_
  exact lp 0 (Nat.zero_le _) _ rfl d sm_rfl
set_option maxRecDepth 100000 in
set_option maxHeartbeats 8000000 in
theorem p_rusted (H : HC d F) (R : RG F) (x : Int32) : Cx mX11_rusted 20 6 36 [.ref 0, .int x] (W0 d L) (qG d L (inB x (F.1 4 0)) (fF (fun v => decide (bF (hu F (iN x) v) (F.1 9 0) = 0)) 0 10)) (qT 1 d L (inB x (F.1 4 0))) := by
  have r2 := R.2.1
  refine Cx.intro gX11_rusted rfl (Nat.le_of_ble_eq_true rfl) rfl ?_
  repeat refine x_s rfl rfl ?_
  refine x_xv (c_needNeedle d L H R x) rfl rfl rfl rfl (by decide) rfl (by decide) rfl (Nat.le_of_ble_eq_true rfl) (by decide) (by decide) (by decide) ?_ ?_
  rotate_left
  · exact fun _ _ z => z
  rintro _ _ ⟨rfl, rfl, hg⟩
  rw [hg]
  obtain ⟨q1, q2, q3⟩ := inB_iN hg
  generalize iN x = n at q1 q2 q3 ⊢
  subst q2
  have lp : ∀ k, k ≤ 10 → ∀ V, V = fF (fun v => decide (bF (hu F n v) (F.1 9 0) = 0)) k (10 - k) → ∀ d1, sm SX d d1 → Ex mX11_rusted false 20 5 30 7 [some (.ref 0), some (.int (nI n)), some (.int (nI k))] [] (W0 d1 L) (qG d L true V) (qT 1 d L true) := by
    refine x_down _ ?_ ?_
    · intro V ha d1 hs
      repeat refine x_s rfl rfl ?_
      refine x_br rfl rfl (fun c => ?_) (fun c => absurd c (fun z => z (by decide)))
      repeat refine x_s rfl rfl ?_
      exact x_iret rfl rfl rfl ⟨rfl, by rw [ha]; rfl, d1, L, rfl, hs, sL_rfl⟩
    · intro k hk ih V ha d1 hs
      repeat refine x_s rfl rfl ?_
      refine x_br rfl rfl (fun c => absurd c (nI_nlt (a := 9) (by omega) (by omega))) (fun c => ?_)
      repeat refine x_s rfl rfl ?_
      refine x_cv (c_heardWithRust d1 L (HC_sm H hs (by decide)) R q1 (ru := k) (by omega)) rfl rfl rfl (by decide) rfl (by decide) rfl (Nat.le_of_ble_eq_true rfl) (by decide) (by decide) (by decide) ?_
      rintro _ _ ⟨rfl, d2, rfl, hs2⟩
      have hs12 : sm SX d d2 := sm_go hs (sm_in hs2 (by decide))
      refine x_br rfl rfl (fun c1 => ?_) (fun c1 => ?_)
      · iterate 2 refine x_s rfl rfl ?_
        rw [nI_1]
        exact ih _ (ha.trans (fF_f hk (decide_eq_false c1))) d2 hs12
      · repeat refine x_s rfl rfl ?_
        exact x_iret rfl rfl rfl ⟨rfl, by rw [ha.trans (fF_t hk (decide_eq_true c1))], d2, L, rfl, hs12, sL_rfl⟩
  iterate 2 refine x_s rfl rfl ?_
  exact lp 0 (Nat.zero_le _) _ rfl d sm_rfl
set_option maxRecDepth 100000 in
set_option maxHeartbeats 8000000 in
theorem p_truest (H : HC d F) (R : RG F) (K : HW d F) : Cn mX11_truest false 3 0 0 [.ref 0] (W0 d L) (qP d L (bs2 (fun n => wo F n (F.1 9 0)) (F.1 4 0)).1) := by
  have r2 := R.2.1
  have lp : ∀ k, k ≤ F.1 4 0 → ∀ a b, (a, b) = bs2 (fun n => wo F n (F.1 9 0)) k → ∀ o, Ex mX11_truest false 3 0 0 6 [some (.ref 0), some (.int a), some (.int b), some (.int (nI k)), o] [] (W0 d L) (qP d L (bs2 (fun n => wo F n (F.1 9 0)) (F.1 4 0)).1) nX := by
    refine x_down _ ?_ ?_
    · intro a b ha o
      repeat refine x_s rfl rfl ?_
      refine x_br rfl rfl (fun c => ?_) (fun c => absurd c (fun z => z (lp_x H.2.1)))
      repeat refine x_s rfl rfl ?_
      exact x_iret rfl rfl rfl ⟨by rw [← ha], rfl⟩
    · intro k hk ih a b ha o
      repeat refine x_s rfl rfl ?_
      refine x_br rfl rfl (fun c => absurd c (lp_c H.2.1 hk (by omega))) (fun c => ?_)
      repeat refine x_s rfl rfl ?_
      refine x_cv (c_worth d L H R K hk) rfl rfl rfl (by decide) rfl (by decide) rfl (Nat.le_of_ble_eq_true rfl) (by decide) (by decide) (by decide) ?_
      rintro _ _ ⟨rfl, rfl⟩
      have e : bs2 (fun n => wo F n (F.1 9 0)) (k + 1) = if a = -1 ∨ b < wo F k (F.1 9 0) then (nI k, wo F k (F.1 9 0)) else (a, b) := by rw [bs2, ← ha]
      repeat refine x_s rfl rfl ?_
      refine x_br rfl rfl (fun c1 => ?_) (fun c1 => ?_)
      · iterate 6 refine x_s rfl rfl ?_
        rw [nI_1]
        exact ih _ _ (by rw [e, if_pos (Or.inl c1)]) _
      · repeat refine x_s rfl rfl ?_
        refine x_br rfl rfl (fun c2 => ?_) (fun c2 => ?_)
        · iterate 2 refine x_s rfl rfl ?_
          rw [nI_1]
          exact ih _ _ (by rw [e, if_neg (by rintro (z | z); exact c1 z; exact absurd z (Int32.not_lt.mpr c2))]) _
        · iterate 6 refine x_s rfl rfl ?_
          rw [nI_1]
          exact ih _ _ (by rw [e, if_pos (Or.inr (Int32.not_le.mp c2))]) _
  refine Cn.intro gX11_truest rfl (Nat.le_of_ble_eq_true rfl) rfl ?_
  iterate 6 refine x_s rfl rfl ?_
  exact lp 0 (Nat.zero_le _) _ _ rfl _
set_option maxRecDepth 100000 in
set_option maxHeartbeats 8000000 in
theorem p_busiest (H : HC d F) (R : RG F) (K : HW d F) (x : Int32) : Cx mX11_busiest 20 6 36 [.ref 0, .int x] (W0 d L) (qG d L (inB x 2) (if iN x = 0 then (bs1 (trn F) 99).1 else (bs1 (trn F) 99).2)) (qT 1 d L (inB x 2)) := by
  refine Cx.intro gX11_busiest rfl (Nat.le_of_ble_eq_true rfl) rfl ?_
  repeat refine x_s rfl rfl ?_
  refine x_xs (c_needWhat d L x (m := 1) (by decide)) rfl rfl rfl rfl (by decide) (Nat.le_of_ble_eq_true rfl) (by decide) (by decide) (by decide) ?_ ?_
  rotate_left
  · exact fun _ _ z => z
  rintro _ _ ⟨rfl, rfl, hg⟩
  rw [hg]
  obtain ⟨q1, q2, q3⟩ := inB_iN hg
  generalize iN x = w at q1 q2 q3 ⊢
  subst q2
  have lp : ∀ k, k ≤ 99 → ∀ a b, (a, b) = bs1 (trn F) k → ∀ o, Ex mX11_busiest false 20 5 30 12 [some (.ref 0), some (.int (nI w)), some (.int a), some (.int b), some (.int (nI (k + 1))), o] [] (W0 d L) (qG d L true (if w = 0 then (bs1 (trn F) 99).1 else (bs1 (trn F) 99).2)) (qT 1 d L true) := by
    refine x_down _ ?_ ?_
    · intro a b ha o
      repeat refine x_s rfl rfl ?_
      refine x_br rfl rfl (fun c => ?_) (fun c => absurd c (fun z => z (by decide)))
      repeat refine x_s rfl rfl ?_
      rw [← ha]
      refine x_br rfl rfl (fun c1 => ?_) (fun c1 => ?_)
      · repeat refine x_s rfl rfl ?_
        refine x_iret rfl rfl rfl ⟨rfl, ?_, d, L, rfl, sm_rfl, sL_rfl⟩
        rw [if_neg (fun z => c1 (by rw [z]; rfl))]
      · repeat refine x_s rfl rfl ?_
        refine x_iret rfl rfl rfl ⟨rfl, ?_, d, L, rfl, sm_rfl, sL_rfl⟩
        rw [if_pos ((nI_eq (b := 0) (by omega) (by omega)).mp c1)]
    · intro k hk ih a b ha o
      repeat refine x_s rfl rfl ?_
      refine x_br rfl rfl (fun c => absurd c (nI_ge (b := 100) (by omega) (by decide))) (fun c => ?_)
      repeat refine x_s rfl rfl ?_
      refine x_cv (c_turnedIn d L H R K (h := k) (by omega)) rfl rfl rfl (by decide) rfl (by decide) rfl (Nat.le_of_ble_eq_true rfl) (by decide) (by decide) (by decide) ?_
      rintro _ _ ⟨rfl, rfl⟩
      have e : bs1 (trn F) (k + 1) = if b < trn F k then (nI (k + 1), trn F k) else (a, b) := by rw [bs1, ← ha]
      repeat refine x_s rfl rfl ?_
      refine x_br rfl rfl (fun c1 => ?_) (fun c1 => ?_)
      · iterate 2 refine x_s rfl rfl ?_
        rw [nI_1]
        exact ih _ _ (by rw [e]; exact (if_neg (Int32.not_lt.mpr c1)).symm) _
      · iterate 6 refine x_s rfl rfl ?_
        rw [nI_1]
        refine ih _ _ ?_ _
        rw [e]
        exact (if_pos (Int32.not_le.mp c1)).symm
  iterate 6 refine x_s rfl rfl ?_
  exact lp 0 (Nat.zero_le _) _ _ rfl _
set_option maxRecDepth 100000 in
set_option maxHeartbeats 8000000 in
theorem p_shown (H : HC d F) (R : RG F) (K : HW d F) (x y : Int32) : Cx mX11_shown 20 6 36 [.ref 0, .int x, .int y] (W0 d L) (qG d L (inB x (F.1 4 0) && inC y) (nI (cF (fun h => decide (sh F (iN x) h = y)) 100))) (qT 1 d L (inB x (F.1 4 0) && inC y)) := by
  have r2 := R.2.1
  have e1 : (-1 : Int32).toInt = -1 := rfl
  have e9 : (9 : Int32).toInt = 9 := rfl
  refine Cx.intro gX11_shown rfl (Nat.le_of_ble_eq_true rfl) rfl ?_
  repeat refine x_s rfl rfl ?_
  refine x_xv (c_needNeedle d L H R x) rfl rfl rfl rfl (by decide) rfl (by decide) rfl (Nat.le_of_ble_eq_true rfl) (by decide) (by decide) (by decide) ?_ ?_
  rotate_left
  · rintro _ _ ⟨rfl, rfl, hg⟩
    exact ⟨rfl, rfl, and_f1 hg⟩
  rintro _ _ ⟨rfl, rfl, hg⟩
  repeat refine x_s rfl rfl ?_
  refine x_br rfl rfl (fun c1 => ?_) (fun c1 => ?_)
  · refine x_throw (Or.inr rfl) rfl rfl rfl rfl rfl (Or.inr ⟨_, rfl⟩) rfl rfl (by decide) (by decide) (by decide) (Nat.le_of_ble_eq_true rfl) ⟨rfl, rfl, and_f2 ?_⟩
    rw [ilt, e1] at c1
    exact decide_eq_false (by omega)
  repeat refine x_s rfl rfl ?_
  refine x_br rfl rfl (fun c2 => ?_) (fun c2 => ?_)
  rotate_left
  · refine x_throw (Or.inr rfl) rfl rfl rfl rfl rfl (Or.inr ⟨_, rfl⟩) rfl rfl (by decide) (by decide) (by decide) (Nat.le_of_ble_eq_true rfl) ⟨rfl, rfl, and_f2 ?_⟩
    rw [ile, e9] at c2
    exact decide_eq_false (by omega)
  rw [ilt, e1] at c1
  rw [ile, e9] at c2
  rw [and_t hg (show inC y = true from decide_eq_true (by omega))]
  obtain ⟨q1, q2, q3⟩ := inB_iN hg
  generalize iN x = n at q1 q2 q3 ⊢
  subst q2
  have lp : ∀ k, k ≤ 100 → ∀ a, a = nI (cF (fun h => decide (sh F n h = y)) k) → Ex mX11_shown false 20 5 30 32 [some (.ref 0), some (.int (nI n)), some (.int y), some (.int a), some (.int (nI k))] [] (W0 d L) (qG d L true (nI (cF (fun h => decide (sh F n h = y)) 100))) (qT 1 d L true) := by
    refine x_down _ ?_ ?_
    · intro a ha
      repeat refine x_s rfl rfl ?_
      refine x_br rfl rfl (fun c => ?_) (fun c => absurd c (fun z => z (by decide)))
      repeat refine x_s rfl rfl ?_
      exact x_iret rfl rfl rfl ⟨rfl, by rw [ha], d, L, rfl, sm_rfl, sL_rfl⟩
    · intro k hk ih a ha
      repeat refine x_s rfl rfl ?_
      refine x_br rfl rfl (fun c => absurd c (nI_ge (b := 100) hk (by decide))) (fun c => ?_)
      repeat refine x_s rfl rfl ?_
      refine x_ald rfl rfl rfl (k := n) rfl (by omega) (by decide) (xav_rows (by omega)) ?_
      repeat refine x_s rfl rfl ?_
      refine x_ald rfl (SH_rows (by omega)) rfl (k := k) (rfl) (by omega) (by decide) rfl ?_
      rw [((K.1 n q1).2.1 k hk).1]
      repeat refine x_s rfl rfl ?_
      refine x_br rfl rfl (fun c3 => ?_) (fun c3 => ?_)
      · have c4 : ¬ sh F n k = y := c3
        iterate 2 refine x_s rfl rfl ?_
        rw [nI_1]
        exact ih _ (by simp [cF, ha, c4])
      · have c4 : sh F n k = y := c3
        iterate 3 refine x_s rfl rfl ?_
        rw [nI_1 k]
        exact ih _ (by simp [cF, ha, c4, nI_1])
  iterate 4 refine x_s rfl rfl ?_
  exact lp 0 (Nat.zero_le _) 0 rfl
end
