/-! THE CALLS: named, falsely, butFor, game, years -/
def nm0 (F : Fr) (p : Nat) : Nat → Int32
  | 0 => 0
  | h + 1 => nm0 F p h + bc (bF (fun n => pt F n p (sh F n h)) (F.1 4 0))
def lia (F : Fr) : Nat → Int32
  | 0 => 0
  | h + 1 => lia F h ||| lii F h (F.1 9 0)
def fls (F : Fr) (n h : Nat) : Bool := decide (pb F h n ≠ 0) && decide (pb F h n &&& lia F (h + 1) = 0)
def Bx (F : Fr) (n s i : Nat) : Bool := hr F n i && decide (i ≠ s)
def bfc (F : Fr) (s : Nat) : Nat → Nat
  | 0 => 0
  | n + 1 => bfc F s n + cF (fun h => decide (shB F n (Bx F n s) h ≠ sh F n h)) 100
def fC (G : Nat → Bool) : Nat → Nat → Int32
  | _, 0 => -1
  | k, m + 1 => if G k then 10 * (nI k >>> ((1 : Int32) &&& 31)) + (nI k &&& 1) else fC G (k + 1) m
def gG (F : Fr) (one other ho : Nat) (u : Int32) (c : Nat) : Bool := rst (fun c => accB F ho (yC one other c)) c (nI one) (nI other) u
def nx (x : Int32) : Int32 := x * 1103515245 + 12345
def yS (F : Fr) (x : Int32) : Nat → Int32 × (Nat → Int32) × (Nat → Nat)
  | 0 => (x, fun _ => -1, fun _ => 0)
  | h + 1 => (nx (nx (yS F x h).1), fun n => if hl F n (drw (nx (yS F x h).1) (F.1 0 0)) (drw (nx (nx (yS F x h).1)) 10) h then sid F n (drw (nx (yS F x h).1) (F.1 0 0)) else (yS F x h).2.1 n, fun q => if q = drw (nx (yS F x h).1) (F.1 0 0) then (yS F x h).2.2 (drw (nx (yS F x h).1) (F.1 0 0)) + 1 else (yS F x h).2.2 q)
def yW (F : Fr) (x : Int32) (h : Nat) : Nat := drw (nx (yS F x h).1) (F.1 0 0)
def yD (F : Fr) (x : Int32) (h : Nat) : Nat := drw (nx (nx (yS F x h).1)) 10
def yA (F : Fr) (x : Int32) (h : Nat) : Bool := decide (acc F (yS F x (h + 1)).2.1 (yS F x (h + 1)).2.2 h tt = nI (yW F x h))
def yT (F : Fr) (x : Int32) (w h : Nat) : Bool := if w = 1 then decide (0 < yD F x h) else yA F x h && decide (decide (0 < yD F x h) = decide (w = 0))
theorem mk_one : ∀ s, s < 16 → ∀ i, i < 32 → bt (((1 : Int32) <<< (nI s &&& 31)) ^^^ (-1)) i = decide (i ≠ s) := by decide +kernel
section
variable (d : Nat → Nat → Int32) (L : Nat → Nat → Int64) {F : Fr} {Z : Sn}
set_option maxRecDepth 100000 in
set_option maxHeartbeats 8000000 in
theorem p_named (H : HC d F) (R : RG F) (K : HW d F) (x y : Int32) : Cx mX11_named 20 6 36 [.ref 0, .int x, .int y] (W0 d L) (qG d L (inB x (F.1 0 0) && inB y 2) (if iN y = 0 then nm0 F (iN x) 100 else nI (cF (fun h => decide (accI F h = nI (iN x))) 100))) (qT 1 d L (inB x (F.1 0 0) && inB y 2)) := by
  have r1 := R.1
  have r2 := R.2.1
  refine Cx.intro gX11_named rfl (Nat.le_of_ble_eq_true rfl) rfl ?_
  repeat refine x_s rfl rfl ?_
  refine x_xv (c_needPerson d L H R x) rfl rfl rfl rfl (by decide) rfl (by decide) rfl (Nat.le_of_ble_eq_true rfl) (by decide) (by decide) (by decide) ?_ ?_
  rotate_left
  · rintro _ _ ⟨rfl, rfl, hg⟩
    exact ⟨rfl, rfl, and_f1 hg⟩
  rintro _ _ ⟨rfl, rfl, hg⟩
  repeat refine x_s rfl rfl ?_
  refine x_xs (c_needWhat d L y (m := 1) (by decide)) rfl rfl rfl rfl (by decide) (Nat.le_of_ble_eq_true rfl) (by decide) (by decide) (by decide) ?_ ?_
  rotate_left
  · rintro _ _ ⟨rfl, rfl, hg2⟩
    exact ⟨rfl, rfl, and_f2 hg2⟩
  rintro _ _ ⟨rfl, rfl, hg2⟩
  rw [and_t hg hg2]
  obtain ⟨q1, q2, q3⟩ := inB_iN hg
  generalize iN x = p at q1 q2 q3 ⊢
  subst q2
  obtain ⟨s1, s2, s3⟩ := inB_iN hg2
  generalize iN y = w at s1 s2 s3 ⊢
  subst s2
  have lp : ∀ k, k ≤ 100 → ∀ a, a = (if w = 0 then nm0 F p k else nI (cF (fun h => decide (accI F h = nI p)) k)) → ∀ d1, sm SX d d1 → Ex mX11_named false 20 4 24 15 [some (.ref 0), some (.int (nI p)), some (.int (nI w)), some (.int a), some (.int (nI k))] [] (W0 d1 L) (qG d L true (if w = 0 then nm0 F p 100 else nI (cF (fun h => decide (accI F h = nI p)) 100))) (qT 1 d L true) := by
    refine x_down _ ?_ ?_
    · intro a ha d1 hs
      repeat refine x_s rfl rfl ?_
      refine x_br rfl rfl (fun c => ?_) (fun c => absurd c (fun z => z (by decide)))
      repeat refine x_s rfl rfl ?_
      exact x_iret rfl rfl rfl ⟨rfl, by rw [ha], d1, L, rfl, hs, sL_rfl⟩
    · intro k hk ih a ha d1 hs
      have H1 := HC_sm H hs (by decide)
      have K1 := HW_sm R K hs (by decide)
      repeat refine x_s rfl rfl ?_
      refine x_br rfl rfl (fun c => absurd c (nI_ge (b := 100) hk (by decide))) (fun c => ?_)
      repeat refine x_s rfl rfl ?_
      refine x_br rfl rfl (fun c1 => ?_) (fun c1 => ?_)
      · have c2 : ¬ w = 0 := fun z => c1 (by rw [z]; rfl)
        rw [if_neg c2] at ha
        repeat refine x_s rfl rfl ?_
        refine x_cv (c_accusedIn d1 L H1 R K1 hk) rfl rfl rfl (by decide) rfl (by decide) rfl (Nat.le_of_ble_eq_true rfl) (by decide) (by decide) (by decide) ?_
        rintro _ _ ⟨rfl, d2, rfl, hs2⟩
        have hs12 : sm SX d d2 := sm_go hs (sm_in hs2 (by decide))
        repeat refine x_s rfl rfl ?_
        refine x_br rfl rfl (fun c3 => ?_) (fun c3 => ?_)
        · have c4 : ¬ accI F k = nI p := c3
          iterate 2 refine x_s rfl rfl ?_
          rw [nI_1]
          exact ih _ (by rw [if_neg c2]; simp [cF, ha, c4]) d2 hs12
        · have c4 : accI F k = nI p := c3
          iterate 3 refine x_s rfl rfl ?_
          rw [nI_1 k]
          exact ih _ (by rw [if_neg c2]; simp [cF, ha, c4, nI_1]) d2 hs12
      · have c2 : w = 0 := (nI_eq (b := 0) (by omega) (by omega)).mp c1
        rw [if_pos c2] at ha
        repeat refine x_s rfl rfl ?_
        refine x_cv (c_pointersAt d1 L H1 R K1 q1 hk) rfl rfl rfl (by decide) rfl (by decide) rfl (Nat.le_of_ble_eq_true rfl) (by decide) (by decide) (by decide) ?_
        rintro _ _ ⟨rfl, rfl⟩
        refine x_cs (c_bitCount d1 L _) rfl rfl rfl (by decide) (Nat.le_of_ble_eq_true rfl) (by decide) (by decide) (by decide) ?_
        rintro _ _ ⟨rfl, rfl⟩
        iterate 5 refine x_s rfl rfl ?_
        rw [nI_1]
        exact ih _ (by rw [if_pos c2, ha]; rfl) d1 hs
  iterate 4 refine x_s rfl rfl ?_
  exact lp 0 (Nat.zero_le _) 0 (by split <;> rfl) d sm_rfl
set_option maxRecDepth 100000 in
set_option maxHeartbeats 8000000 in
theorem p_falsely (H : HC d F) (R : RG F) (K : HW d F) (x : Int32) : Cx mX11_falsely 20 6 36 [.ref 0, .int x] (W0 d L) (qG d L (inB x (F.1 4 0)) (nI (cF (fls F (iN x)) 100))) (qT 1 d L (inB x (F.1 4 0))) := by
  have r2 := R.2.1
  refine Cx.intro gX11_falsely rfl (Nat.le_of_ble_eq_true rfl) rfl ?_
  repeat refine x_s rfl rfl ?_
  refine x_xv (c_needNeedle d L H R x) rfl rfl rfl rfl (by decide) rfl (by decide) rfl (Nat.le_of_ble_eq_true rfl) (by decide) (by decide) (by decide) ?_ ?_
  rotate_left
  · exact fun _ _ z => z
  rintro _ _ ⟨rfl, rfl, hg⟩
  rw [hg]
  obtain ⟨q1, q2, q3⟩ := inB_iN hg
  generalize iN x = n at q1 q2 q3 ⊢
  subst q2
  have lp : ∀ k, k ≤ 100 → ∀ a b, a = lia F k → b = nI (cF (fls F n) k) → ∀ o, Ex mX11_falsely false 20 5 30 12 [some (.ref 0), some (.int (nI n)), some (.int a), some (.int b), some (.int (nI k)), o] [] (W0 d L) (qG d L true (nI (cF (fls F n) 100))) (qT 1 d L true) := by
    refine x_down _ ?_ ?_
    · intro a b ha hb o
      repeat refine x_s rfl rfl ?_
      refine x_br rfl rfl (fun c => ?_) (fun c => absurd c (fun z => z (by decide)))
      repeat refine x_s rfl rfl ?_
      exact x_iret rfl rfl rfl ⟨rfl, by rw [hb], d, L, rfl, sm_rfl, sL_rfl⟩
    · intro k hk ih a b ha hb o
      repeat refine x_s rfl rfl ?_
      refine x_br rfl rfl (fun c => absurd c (nI_ge (b := 100) hk (by decide))) (fun c => ?_)
      repeat refine x_s rfl rfl ?_
      refine x_cv (c_liarsIn d L H R hk) rfl rfl rfl (by decide) rfl (by decide) rfl (Nat.le_of_ble_eq_true rfl) (by decide) (by decide) (by decide) ?_
      rintro _ _ ⟨rfl, rfl⟩
      iterate 2 refine x_s rfl rfl ?_
      have ea : a ||| lii F k (F.1 9 0) = lia F (k + 1) := by rw [ha]; rfl
      rw [ea]
      repeat refine x_s rfl rfl ?_
      refine x_cv (c_pointedBy d L H R K q1 hk) rfl rfl rfl (by decide) rfl (by decide) rfl (Nat.le_of_ble_eq_true rfl) (by decide) (by decide) (by decide) ?_
      rintro _ _ ⟨rfl, rfl⟩
      repeat refine x_s rfl rfl ?_
      refine x_br rfl rfl (fun c1 => ?_) (fun c1 => ?_)
      · have c2 : pb F k n = 0 := c1
        iterate 2 refine x_s rfl rfl ?_
        rw [nI_1]
        exact ih _ _ rfl (by simp [cF, fls, hb, c2]) _
      · have c2 : ¬ pb F k n = 0 := c1
        repeat refine x_s rfl rfl ?_
        refine x_br rfl rfl (fun c3 => ?_) (fun c3 => ?_)
        · have c4 : ¬ pb F k n &&& lia F (k + 1) = 0 := c3
          iterate 2 refine x_s rfl rfl ?_
          rw [nI_1]
          exact ih _ _ rfl (by simp [cF, fls, hb, c4]) _
        · have c4 : pb F k n &&& lia F (k + 1) = 0 := c3
          iterate 3 refine x_s rfl rfl ?_
          rw [nI_1 k]
          exact ih _ _ rfl (by simp [cF, fls, hb, c2, c4, nI_1]) _
  iterate 6 refine x_s rfl rfl ?_
  exact lp 0 (Nat.zero_le _) 0 0 rfl rfl _
set_option maxRecDepth 100000 in
set_option maxHeartbeats 8000000 in
theorem p_butFor (H : HC d F) (R : RG F) (K : HW d F) (x : Int32) : Cx mX11_butFor 20 6 36 [.ref 0, .int x] (W0 d L) (qG d L (inB x (F.1 9 0)) (nI (bfc F (iN x) (F.1 4 0)))) (qT 1 d L (inB x (F.1 9 0))) := by
  have r2 := R.2.1
  have r3 := R.2.2.1
  refine Cx.intro gX11_butFor rfl (Nat.le_of_ble_eq_true rfl) rfl ?_
  repeat refine x_s rfl rfl ?_
  refine x_xv (c_needSaying d L H R x) rfl rfl rfl rfl (by decide) rfl (by decide) rfl (Nat.le_of_ble_eq_true rfl) (by decide) (by decide) (by decide) ?_ ?_
  rotate_left
  · exact fun _ _ z => z
  rintro _ _ ⟨rfl, rfl, hg⟩
  rw [hg]
  obtain ⟨q1, q2, q3⟩ := inB_iN hg
  generalize iN x = s at q1 q2 q3 ⊢
  subst q2
  have lp : ∀ k, k ≤ F.1 4 0 → ∀ a, a = nI (bfc F s k) → ∀ d1, sm SX d d1 → ∀ o, Ex mX11_butFor false 20 5 30 9 [some (.ref 0), some (.int (nI s)), some (.int a), some (.int (nI k)), o] [] (W0 d1 L) (qG d L true (nI (bfc F s (F.1 4 0)))) (qT 1 d L true) := by
    refine x_down _ ?_ ?_
    · intro a ha d1 hs o
      have H1 := HC_sm H hs (by decide)
      repeat refine x_s rfl rfl ?_
      refine x_br rfl rfl (fun c => ?_) (fun c => absurd c (fun z => z (lp_x H1.2.1)))
      repeat refine x_s rfl rfl ?_
      exact x_iret rfl rfl rfl ⟨rfl, by rw [ha], d1, L, rfl, hs, sL_rfl⟩
    · intro k hk ih a ha d1 hs o
      have H1 := HC_sm H hs (by decide)
      have K1 := HW_sm R K hs (by decide)
      repeat refine x_s rfl rfl ?_
      refine x_br rfl rfl (fun c => absurd c (lp_c H1.2.1 hk (by omega))) (fun c => ?_)
      repeat refine x_s rfl rfl ?_
      refine x_ald rfl rfl rfl (k := k) (rfl) (by omega) (by decide) rfl ?_
      rw [(K1.1 k hk).1]
      repeat refine x_s rfl rfl ?_
      refine x_cv (c_fillRow d1 L H1 R K1.2 hk (B := Bx F k s) (fun i hi => by rw [b_and, bF_bt _ _ _ (by omega), decide_eq_true hi, Bool.true_and, mk_one s (by omega) i (by omega)]; rfl) (rc := 108) (hc := 109) rfl rfl (by decide) (by decide) (by decide)) rfl rfl rfl (by decide) rfl (by decide) rfl (Nat.le_of_ble_eq_true rfl) (by decide) (by decide) (by decide) ?_
      rintro _ _ ⟨rfl, d2, rfl, hs2, hj⟩
      have hs12 : sm SX d d2 := sm_go hs (sm_in hs2 (by decide))
      have K2 := HW_sm R K hs12 (by decide)
      have lp2 : ∀ h, h ≤ 100 → ∀ b, b = nI (bfc F s k + cF (fun h => decide (shB F k (Bx F k s) h ≠ sh F k h)) h) → Ex mX11_butFor false 20 5 30 60 [some (.ref 0), some (.int (nI s)), some (.int b), some (.int (nI k)), some (.int (nI h))] [] (W0 d2 L) (qG d L true (nI (bfc F s (F.1 4 0)))) (qT 1 d L true) := by
        refine x_down _ ?_ ?_
        · intro b hb
          repeat refine x_s rfl rfl ?_
          refine x_br rfl rfl (fun c => ?_) (fun c => absurd c (fun z => z (by decide)))
          iterate 2 refine x_s rfl rfl ?_
          rw [nI_1]
          exact ih _ hb d2 hs12 _
        · intro h hh ih2 b hb
          repeat refine x_s rfl rfl ?_
          refine x_br rfl rfl (fun c => absurd c (nI_ge (b := 100) hh (by decide))) (fun c => ?_)
          repeat refine x_s rfl rfl ?_
          refine x_ald rfl rfl rfl (k := h) (rfl) (by omega) (by decide) rfl ?_
          repeat refine x_s rfl rfl ?_
          refine x_ald rfl rfl rfl (k := k) rfl (by omega) (by decide) (xav_rows (by omega)) ?_
          repeat refine x_s rfl rfl ?_
          refine x_ald rfl (SH_rows (by omega)) rfl (k := h) (rfl) (by omega) (by decide) rfl ?_
          rw [((K2.1 k hk).2.1 h hh).1, (hj h hh).1]
          refine x_br rfl rfl (fun c1 => ?_) (fun c1 => ?_)
          · have c2 : shB F k (Bx F k s) h = sh F k h := c1
            iterate 2 refine x_s rfl rfl ?_
            rw [nI_1]
            exact ih2 _ (by simp [cF, hb, c2])
          · have c2 : ¬ shB F k (Bx F k s) h = sh F k h := c1
            iterate 3 refine x_s rfl rfl ?_
            rw [nI_1 h]
            exact ih2 _ (by simp [cF, hb, c2, nI_1]; rfl)
      iterate 2 refine x_s rfl rfl ?_
      exact lp2 0 (Nat.zero_le _) _ ha
  iterate 4 refine x_s rfl rfl ?_
  exact lp 0 (Nat.zero_le _) 0 rfl d sm_rfl _
theorem rst_cong {g g' : Nat → Int32} {c : Nat} (hc : c < 4) (h : ∀ i, i < 4 → g i = g' i) (a b u : Int32) : rst g c a b u = rst g' c a b u := by
  have hx := x2_4 c hc
  unfold rst
  rw [h c hc, h _ hx.2.1, h _ hx.2.2.2]
set_option maxRecDepth 100000 in
set_option maxHeartbeats 8000000 in
theorem p_game (H : HC d F) (R : RG F) (K : HW d F) (x y z u w : Int32) : Cx mX11_game 20 6 36 [.ref 0, .int x, .int y, .int z, .int u, .int w] (W0 d L) (qG d L ((inB x (F.1 0 0) && (inB y (F.1 0 0) && (inB z 100 && inB w 2))) && (decide (x ≠ y) && inB u 100)) (if iN w = 1 then fC (gG F (iN x) (iN y) (iN z) u) 0 4 else nI (cF (gG F (iN x) (iN y) (iN z) u) 4))) (qT2 d L (inB x (F.1 0 0) && (inB y (F.1 0 0) && (inB z 100 && inB w 2))) (decide (x ≠ y) && inB u 100)) := by
  have r1 := R.1
  have r2 := R.2.1
  refine Cx.intro gX11_game rfl (Nat.le_of_ble_eq_true rfl) rfl ?_
  repeat refine x_s rfl rfl ?_
  refine x_xv (c_needPerson d L H R x) rfl rfl rfl rfl (by decide) rfl (by decide) rfl (Nat.le_of_ble_eq_true rfl) (by decide) (by decide) (by decide) ?_ ?_
  rotate_left
  · rintro _ _ ⟨rfl, rfl, hg⟩
    exact ⟨rfl, Or.inl ⟨rfl, and_f1 hg⟩⟩
  rintro _ _ ⟨rfl, rfl, hg⟩
  repeat refine x_s rfl rfl ?_
  refine x_xv (c_needPerson d L H R y) rfl rfl rfl rfl (by decide) rfl (by decide) rfl (Nat.le_of_ble_eq_true rfl) (by decide) (by decide) (by decide) ?_ ?_
  rotate_left
  · rintro _ _ ⟨rfl, rfl, hg2⟩
    exact ⟨rfl, Or.inl ⟨rfl, and_f2 (and_f1 hg2)⟩⟩
  rintro _ _ ⟨rfl, rfl, hg2⟩
  repeat refine x_s rfl rfl ?_
  refine x_xs (c_needHour d L z) rfl rfl rfl rfl (by decide) (Nat.le_of_ble_eq_true rfl) (by decide) (by decide) (by decide) ?_ ?_
  rotate_left
  · rintro _ _ ⟨rfl, rfl, hg3⟩
    exact ⟨rfl, Or.inl ⟨rfl, and_f2 (and_f2 (and_f1 hg3))⟩⟩
  rintro _ _ ⟨rfl, rfl, hg3⟩
  repeat refine x_s rfl rfl ?_
  refine x_xs (c_needWhat d L w (m := 1) (by decide)) rfl rfl rfl rfl (by decide) (Nat.le_of_ble_eq_true rfl) (by decide) (by decide) (by decide) ?_ ?_
  rotate_left
  · rintro _ _ ⟨rfl, rfl, hg4⟩
    exact ⟨rfl, Or.inl ⟨rfl, and_f2 (and_f2 (and_f2 hg4))⟩⟩
  rintro _ _ ⟨rfl, rfl, hg4⟩
  have G1 := and_t hg (and_t hg2 (and_t hg3 hg4))
  repeat refine x_s rfl rfl ?_
  refine x_br rfl rfl (fun c1 => ?_) (fun c1 => ?_)
  · refine x_throw (Or.inl rfl) rfl rfl rfl rfl rfl (Or.inr ⟨_, rfl⟩) rfl rfl (by decide) (by decide) (by decide) (Nat.le_of_ble_eq_true rfl) ⟨rfl, Or.inr ⟨rfl, G1, and_f1 (decide_eq_false (fun q => q c1))⟩⟩
  repeat refine x_s rfl rfl ?_
  refine x_br rfl rfl (fun c2 => ?_) (fun c2 => ?_)
  · refine x_throw (Or.inl rfl) rfl rfl rfl rfl rfl (Or.inr ⟨_, rfl⟩) rfl rfl (by decide) (by decide) (by decide) (Nat.le_of_ble_eq_true rfl) ⟨rfl, Or.inr ⟨rfl, G1, and_f2 (inB_f1 c2)⟩⟩
  repeat refine x_s rfl rfl ?_
  refine x_br rfl rfl (fun c3 => ?_) (fun c3 => ?_)
  rotate_left
  · refine x_throw (Or.inl rfl) rfl rfl rfl rfl rfl (Or.inr ⟨_, rfl⟩) rfl rfl (by decide) (by decide) (by decide) (Nat.le_of_ble_eq_true rfl) ⟨rfl, Or.inr ⟨rfl, G1, and_f2 ?_⟩⟩
    rw [ile, show (99 : Int32).toInt = 99 from rfl] at c3
    exact decide_eq_false (by omega)
  have hu : inB u 100 = true := by
    rw [ile, show (99 : Int32).toInt = 99 from rfl] at c3
    rw [lt0] at c2
    exact decide_eq_true (by omega)
  rw [and_t G1 (and_t (decide_eq_true c1) hu)]
  obtain ⟨q1, q2, q3⟩ := inB_iN hg
  obtain ⟨s1, s2, s3⟩ := inB_iN hg2
  obtain ⟨t1, t2, t3⟩ := inB_iN hg3
  obtain ⟨v1, v2, v3⟩ := inB_iN hg4
  generalize hX : qT2 d L (inB x (F.1 0 0) && (inB y (F.1 0 0) && (inB z 100 && inB w 2))) (decide (x ≠ y) && inB u 100) = X
  generalize iN x = one at q1 q2 q3 ⊢
  generalize iN y = other at s1 s2 s3 ⊢
  generalize iN z = ho at t1 t2 t3 ⊢
  generalize iN w = wh at v1 v2 v3 ⊢
  clear hX G1 hg hg2 hg3 hg4 c1
  subst q2
  subst s2
  subst t2
  subst v2
  repeat refine x_s rfl rfl ?_
  refine x_cv (c_judgeCouples d L H R K (one := one) (other := other) t1) rfl rfl rfl (by decide) rfl (by decide) rfl (Nat.le_of_ble_eq_true rfl) (by decide) (by decide) (by decide) ?_
  rintro _ _ ⟨rfl, d1, rfl, hs, hj⟩
  have hs1 : sm SX d d1 := sm_in hs (by decide)
  have lp : ∀ k, k ≤ 4 → ∀ a V, a = nI (cF (gG F one other ho u) k) → V = fC (gG F one other ho u) k (4 - k) → Ex mX11_game false 20 2 12 61 [some (.ref 0), some (.int (nI one)), some (.int (nI other)), some (.int (nI ho)), some (.int u), some (.int (nI wh)), some (.int a), some (.int (nI k))] [] (W0 d1 L) (qG d L true (if wh = 1 then V else nI (cF (gG F one other ho u) 4))) X := by
    refine x_down _ ?_ ?_
    · intro a V ha hV
      repeat refine x_s rfl rfl ?_
      refine x_br rfl rfl (fun c => ?_) (fun c => absurd c (fun z => z (by decide)))
      repeat refine x_s rfl rfl ?_
      refine x_br rfl rfl (fun c4 => ?_) (fun c4 => ?_)
      · repeat refine x_s rfl rfl ?_
        refine x_iret rfl rfl rfl ⟨rfl, ?_, d1, L, rfl, hs1, sL_rfl⟩
        rw [if_neg (fun q => c4 (by rw [q]; rfl)), ha]
      · repeat refine x_s rfl rfl ?_
        refine x_iret rfl rfl rfl ⟨rfl, ?_, d1, L, rfl, hs1, sL_rfl⟩
        rw [if_pos ((nI_eq (b := 1) (by omega) (by omega)).mp c4), hV]
        rfl
    · intro k hk ih a V ha hV
      have e0 : rst (d1 110) k (nI one) (nI other) u = gG F one other ho u k := rst_cong hk (fun i hi => hj i hi) _ _ _
      repeat refine x_s rfl rfl ?_
      refine x_br rfl rfl (fun c => absurd c (nI_ge (b := 4) hk (by decide))) (fun c => ?_)
      repeat refine x_s rfl rfl ?_
      refine x_cv (c_rests d1 L hk (nI one) (nI other) u) rfl rfl rfl (by decide) rfl (by decide) rfl (Nat.le_of_ble_eq_true rfl) (by decide) (by decide) (by decide) ?_
      rintro _ _ ⟨rfl, rfl⟩
      rw [e0]
      rw [show 4 - k = (4 - (k + 1)) + 1 by omega, fC] at hV
      refine x_br rfl rfl (fun c4 => ?_) (fun c4 => ?_)
      · have c5 := bI_0.mp c4
        rw [if_neg (by rw [c5]; decide)] at hV
        iterate 2 refine x_s rfl rfl ?_
        rw [nI_1 k]
        exact ih _ _ (by simp [cF, ha, c5]) hV
      · have c5 := bI_n0.mp c4
        rw [if_pos c5] at hV
        repeat refine x_s rfl rfl ?_
        refine x_br rfl rfl (fun c6 => ?_) (fun c6 => ?_)
        · have c7 : ¬ wh = 1 := fun q => c6 (by rw [q]; rfl)
          iterate 3 refine x_s rfl rfl ?_
          rw [nI_1 k]
          have := ih (a + 1) (fC (gG F one other ho u) (k + 1) (4 - (k + 1))) (by simp [cF, ha, c5, nI_1]) rfl
          rw [if_neg c7] at this ⊢
          exact this
        · repeat refine x_s rfl rfl ?_
          refine x_iret rfl rfl rfl ⟨rfl, ?_, d1, L, rfl, hs1, sL_rfl⟩
          rw [if_pos ((nI_eq (b := 1) (by omega) (by omega)).mp c6), hV]
  iterate 4 refine x_s rfl rfl ?_
  exact lp 0 (Nat.zero_le _) 0 _ rfl rfl
end
