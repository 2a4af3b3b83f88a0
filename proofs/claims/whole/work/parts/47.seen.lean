/-! WHAT IS SEEN; places; couples -/
abbrev Sn : Type := Nat × (Nat → Nat) × (Nat → Nat) × (Nat → Int32)
def HZ (d : Nat → Nat → Int32) (Z : Sn) : Prop := d 86 0 = nI Z.1 ∧ ∀ i, i < Z.1 → d 87 i = nI (Z.2.1 i) ∧ d 88 i = nI (Z.2.2.1 i) ∧ d 89 i = Z.2.2.2 i
def RZ (F : Fr) (Z : Sn) : Prop := Z.1 ≤ 8 ∧ ∀ i, i < Z.1 → Z.2.1 i < F.1 4 0 ∧ Z.2.2.1 i < 100
theorem HZ_sm {S : List Nat} {d d' : Nat → Nat → Int32} {Z : Sn} (H : HZ d Z) (h : sm S d d') (hS : ∀ c, c ∈ [86, 87, 88, 89] → c ∉ S) : HZ d' Z := by
  unfold HZ
  rw [h 86 (hS 86 (by decide)), h 87 (hS 87 (by decide)), h 88 (hS 88 (by decide)), h 89 (hS 89 (by decide))]
  exact H
/-- whether what is seen would be shown with one lie more, in hour t, from (x, y), heard by the needles b -/
def sHo (F : Fr) (Z : Sn) (t x y : Nat) (b : Int32) : Bool := !(aF (fun i => decide ((if bt b (Z.2.1 i) then sBe F (Z.2.1 i) (Z.2.2.1 i) t x y else sh F (Z.2.1 i) (Z.2.2.1 i)) ≠ Z.2.2.2 i)) Z.1)
def isS (F : Fr) (Z : Sn) (t p : Nat) : Bool := aF (fun j => sHo F Z t (F.1 1 p) (F.1 2 p) (bF (fun n => hl F n p (j + 1) t) (F.1 4 0))) 9
def fxy (F : Fr) (n x y : Nat) : Nat := if dif x (F.1 5 n) < dif y (F.1 6 n) then dif y (F.1 6 n) else dif x (F.1 5 n)
def fpy (F : Fr) (p x y : Nat) : Nat := if dif (F.1 1 p) x < dif (F.1 2 p) y then dif (F.1 2 p) y else dif (F.1 1 p) x
/-- things that a needle at (x, y) would show by lies of the people b -/
def thg (F : Fr) (tf : Nat → Nat → Bool) (b : Int32) (x y : Nat) : Nat → Int32
  | 0 => 0
  | k + 1 => if bt b k then thg F tf b x y k ||| (if tf k (fpy F k x y) then (2 : Int32) <<< (nI (sd ((F.1 1 k : Int) - (x : Int)) ((F.1 2 k : Int) - (y : Int))) &&& 31) else 1) else thg F tf b x y k
section
variable (d : Nat → Nat → Int32) (L : Nat → Nat → Int64) {F : Fr} {Z : Sn}
set_option maxRecDepth 100000 in
set_option maxHeartbeats 8000000 in
theorem c_seenHolds (H : HC d F) (R : RG F) (K : HW d F) (HZ0 : HZ d Z) (R2 : RZ F Z) {t x y : Nat} (ht : t < 100) (hx : x ≤ 1000) (hy : y ≤ 1000) (h7 : H71 d F t) (b : Int32) : Cn mX11_seenHolds false 5 0 0 [.ref 0, .int (nI t), .int (nI x), .int (nI y), .int b] (W0 d L) (qS [69] d L (bI (sHo F Z t x y b))) := by
  have r2 := R.2.1
  have z1 := R2.1
  have lp : ∀ k, k ≤ Z.1 → aF (fun i => decide ((if bt b (Z.2.1 i) then sBe F (Z.2.1 i) (Z.2.2.1 i) t x y else sh F (Z.2.1 i) (Z.2.2.1 i)) ≠ Z.2.2.2 i)) k = false → ∀ d1, sm [69] d d1 → ∀ o1 o2 o3, Ex mX11_seenHolds false 5 0 0 3 [some (.ref 0), some (.int (nI t)), some (.int (nI x)), some (.int (nI y)), some (.int b), some (.int (nI k)), o1, o2, o3] [] (W0 d1 L) (qS [69] d L (bI (sHo F Z t x y b))) nX := by
    refine x_down _ ?_ ?_
    · intro ha d1 hs o1 o2 o3
      have Z1 := HZ_sm HZ0 hs (by decide)
      repeat refine x_s rfl rfl ?_
      refine x_br rfl rfl (fun c => ?_) (fun c => absurd c (fun z => z (lp_x Z1.1)))
      repeat refine x_s rfl rfl ?_
      exact x_iret rfl rfl rfl ⟨by rw [sHo, ha]; rfl, d1, rfl, hs⟩
    · intro k hk ih ha d1 hs o1 o2 o3
      have Z1 := HZ_sm HZ0 hs (by decide)
      have z2 := Z1.2 k hk
      have z3 := R2.2 k hk
      have H1 := HC_sm H hs (by decide)
      have K1 := HW_sm R K hs (by decide)
      have fin : ∀ (v : Int32) (d2 : Nat → Nat → Int32) (o : Option Value), sm [69] d d2 → v = (if bt b (Z.2.1 k) then sBe F (Z.2.1 k) (Z.2.2.1 k) t x y else sh F (Z.2.1 k) (Z.2.2.1 k)) → Ex mX11_seenHolds false 5 0 0 95 [some (.ref 0), some (.int (nI t)), some (.int (nI x)), some (.int (nI y)), some (.int b), some (.int (nI k)), some (.int (nI (Z.2.1 k))), o, o3] [.int v] (W0 d2 L) (qS [69] d L (bI (sHo F Z t x y b))) nX := by
        intro v d2 o hs2 hv
        have Z2 := (HZ_sm HZ0 hs2 (by decide)).2 k hk
        repeat refine x_s rfl rfl ?_
        refine x_ald rfl rfl rfl (k := k) (rfl) (by omega) (by decide) rfl ?_
        rw [Z2.2.2]
        refine x_br rfl rfl (fun c => ?_) (fun c => ?_)
        · have c' : v = Z.2.2.2 k := c
          iterate 2 refine x_s rfl rfl ?_
          rw [nI_1]
          exact ih (aF_s0 ha (by rw [← hv]; simp [c'])) d2 hs2 _ _ _
        · have c' : ¬ v = Z.2.2.2 k := c
          repeat refine x_s rfl rfl ?_
          refine x_iret rfl rfl rfl ⟨?_, d2, rfl, hs2⟩
          have hz : aF (fun i => decide ((if bt b (Z.2.1 i) then sBe F (Z.2.1 i) (Z.2.2.1 i) t x y else sh F (Z.2.1 i) (Z.2.2.1 i)) ≠ Z.2.2.2 i)) Z.1 = true := aF_iff.mpr ⟨k, hk, by rw [← hv]; simp [c']⟩
          rw [sHo, hz]
          rfl
      repeat refine x_s rfl rfl ?_
      refine x_br rfl rfl (fun c => absurd c (lp_c Z1.1 hk (by omega))) (fun c => ?_)
      repeat refine x_s rfl rfl ?_
      refine x_ald rfl rfl rfl (k := k) (rfl) (by omega) (by decide) rfl ?_
      rw [z2.1]
      repeat refine x_s rfl rfl ?_
      refine x_br rfl rfl (fun c => ?_) (fun c => ?_)
      · have hc := (bt_test (by omega)).mp c
        repeat refine x_s rfl rfl ?_
        refine x_br rfl rfl (fun c => ?_) (fun c => absurd c (fun z => z rfl))
        repeat refine x_s rfl rfl ?_
        refine x_ald rfl rfl rfl (k := Z.2.1 k) rfl (by omega) (by decide) (xav_rows (by omega)) ?_
        repeat refine x_s rfl rfl ?_
        refine x_ald rfl rfl rfl (k := k) (rfl) (by omega) (by decide) rfl ?_
        rw [z2.2.1]
        refine x_ald rfl (SH_rows (by omega)) rfl (k := Z.2.2.1 k) (rfl) (by omega) (by decide) rfl ?_
        rw [((K1.1 _ z3.1).2.1 _ z3.2).1]
        exact fin _ d1 _ hs (by simp [hc])
      · have hc : bt b (Z.2.1 k) = true := by
          cases hc : bt b (Z.2.1 k)
          · exact absurd ((bt_test (by omega)).mpr hc) c
          · rfl
        repeat refine x_s rfl rfl ?_
        refine x_br rfl rfl (fun c => absurd c (by decide)) (fun c => ?_)
        repeat refine x_s rfl rfl ?_
        refine x_ald rfl rfl rfl (k := k) (rfl) (by omega) (by decide) rfl ?_
        rw [z2.2.1]
        repeat refine x_s rfl rfl ?_
        refine x_cv (c_shownBesides d1 L H1 R K1 z3.1 z3.2 ht hx hy (H71_sm R h7 hs (by decide))) rfl rfl rfl (by decide) rfl (by decide) rfl (Nat.le_of_ble_eq_true rfl) (by decide) (by decide) (by decide) ?_
        rintro _ _ ⟨rfl, d2, rfl, hs2⟩
        iterate 1 refine x_s rfl rfl ?_
        exact fin _ d2 _ (sm_go hs hs2) (by simp [hc])
  refine Cn.intro gX11_seenHolds rfl (Nat.le_of_ble_eq_true rfl) rfl ?_
  iterate 2 refine x_s rfl rfl ?_
  exact lp 0 (Nat.zero_le _) rfl d sm_rfl _ _ _
set_option maxRecDepth 100000 in
set_option maxHeartbeats 8000000 in
theorem c_isSuspect (H : HC d F) (R : RG F) (K : HW d F) (HZ0 : HZ d Z) (R2 : RZ F Z) {t p : Nat} (ht : t < 100) (hp : p < F.1 0 0) (h7 : H71 d F t) : Cn mX11_isSuspect false 7 0 0 [.ref 0, .int (nI p), .int (nI t)] (W0 d L) (qS [69, 40, 70] d L (bI (isS F Z t p))) := by
  have r1 := R.1
  have r4 := R.2.2.2.1 p hp
  have h3 := H.2.2.2.1 p hp
  have lp : ∀ k, k ≤ 9 → aF (fun j => sHo F Z t (F.1 1 p) (F.1 2 p) (bF (fun n => hl F n p (j + 1) t) (F.1 4 0))) k = false → ∀ d1, sm [69, 40, 70] d d1 → Ex mX11_isSuspect false 7 0 0 36 [some (.ref 0), some (.int (nI p)), some (.int (nI t)), some (.int (nI (F.1 1 p))), some (.int (nI (F.1 2 p))), some (.int (nI (k + 1)))] [] (W0 d1 L) (qS [69, 40, 70] d L (bI (isS F Z t p))) nX := by
    refine x_down _ ?_ ?_
    · intro ha d1 hs
      repeat refine x_s rfl rfl ?_
      refine x_br rfl rfl (fun c => ?_) (fun c => absurd c (fun z => z (by decide)))
      repeat refine x_s rfl rfl ?_
      exact x_iret rfl rfl rfl ⟨by rw [isS, ha]; rfl, d1, rfl, hs⟩
    · intro k hk ih ha d1 hs
      have H1 := HC_sm H hs (by decide)
      repeat refine x_s rfl rfl ?_
      refine x_br rfl rfl (fun c => absurd c (nI_nlt (a := 9) (by omega) (by omega))) (fun c => ?_)
      repeat refine x_s rfl rfl ?_
      refine x_cv (c_hearersOfLie d1 L H1 R (p := p) (dg := k + 1) (ho := t) hp (by omega)) rfl rfl rfl (by decide) rfl (by decide) rfl (Nat.le_of_ble_eq_true rfl) (by decide) (by decide) (by decide) ?_
      rintro _ _ ⟨rfl, d2, rfl, hs2⟩
      have hs12 := sm_go hs (sm_in hs2 (by decide))
      refine x_cv (c_seenHolds d2 L (HC_sm H1 hs2 (by decide)) R (HW_sm R K hs12 (by decide)) (HZ_sm HZ0 hs12 (by decide)) R2 ht (x := F.1 1 p) (y := F.1 2 p) (by omega) (by omega) (H71_sm R h7 hs12 (by decide)) _) rfl rfl rfl (by decide) rfl (by decide) rfl (Nat.le_of_ble_eq_true rfl) (by decide) (by decide) (by decide) ?_
      rintro _ _ ⟨rfl, d3, rfl, hs3⟩
      have hs13 := sm_go hs12 (sm_in hs3 (by decide))
      refine x_br rfl rfl (fun c => ?_) (fun c => ?_)
      · iterate 2 refine x_s rfl rfl ?_
        rw [nI_1]
        exact ih (aF_s0 ha (bI_0.mp c)) d3 hs13
      · repeat refine x_s rfl rfl ?_
        refine x_iret rfl rfl rfl ⟨?_, d3, rfl, hs13⟩
        rw [isS, aF_iff.mpr ⟨k, hk, bI_n0.mp c⟩]
        rfl
  refine Cn.intro gX11_isSuspect rfl (Nat.le_of_ble_eq_true rfl) rfl ?_
  repeat refine x_s rfl rfl ?_
  refine x_ald rfl rfl rfl (k := p) (rfl) (by omega) (by decide) rfl ?_
  rw [h3.1]
  repeat refine x_s rfl rfl ?_
  refine x_ald rfl rfl rfl (k := p) (rfl) (by omega) (by decide) rfl ?_
  rw [h3.2.1]
  iterate 3 refine x_s rfl rfl ?_
  exact lp 0 (Nat.zero_le _) rfl d sm_rfl
set_option maxRecDepth 100000 in
set_option maxHeartbeats 8000000 in
theorem c_hearersFrom (H : HC d F) (R : RG F) {x y : Nat} (hx : x ≤ 40) (hy : y ≤ 40) {tf : Nat → Nat → Bool} (hL : ∀ n, n < F.1 4 0 → L 111 n = lB (tf n) 41) : Cn mX11_hearersFrom false 4 0 0 [.ref 0, .int (nI x), .int (nI y)] (W0 d L) (qP d L (bF (fun n => tf n (fxy F n x y)) (F.1 4 0))) := by
  have r2 := R.2.1
  have lp : ∀ k, k ≤ F.1 4 0 → ∀ a, a = bF (fun n => tf n (fxy F n x y)) k → ∀ o, Ex mX11_hearersFrom false 4 0 0 17 [some (.ref 0), some (.int (nI x)), some (.int (nI y)), some (.ref 29), some (.int a), some (.int (nI k)), o] [] (W0 d L) (qP d L (bF (fun n => tf n (fxy F n x y)) (F.1 4 0))) nX := by
    refine x_down _ ?_ ?_
    · intro a ha o
      repeat refine x_s rfl rfl ?_
      refine x_br rfl rfl (fun c => ?_) (fun c => absurd c (fun z => z (lp_x H.2.1)))
      repeat refine x_s rfl rfl ?_
      exact x_iret rfl rfl rfl ⟨by rw [ha], rfl⟩
    · intro k hk ih a ha o
      have h4 := H.2.2.2.2.1 k hk
      have r5 := R.2.2.2.2.1 k hk
      have hf : fxy F k x y ≤ 40 := by
        have e1 := dif_le (a := x) (b := F.1 5 k) (m := 40) (by omega) (by omega)
        have e2 := dif_le (a := y) (b := F.1 6 k) (m := 40) (by omega) (by omega)
        unfold fxy
        split <;> omega
      have hb := lB_bt (tf k) 41 (fxy F k x y) (by decide)
      rw [decide_eq_true (by omega), Bool.true_and] at hb
      repeat refine x_s rfl rfl ?_
      refine x_br rfl rfl (fun c => absurd c (lp_c H.2.1 hk (by omega))) (fun c => ?_)
      repeat refine x_s rfl rfl ?_
      refine x_ald rfl rfl rfl (k := k) (rfl) (by omega) (by decide) rfl ?_
      repeat refine x_s rfl rfl ?_
      refine x_ald rfl rfl rfl (k := k) (rfl) (by omega) (by decide) rfl ?_
      repeat refine x_s rfl rfl ?_
      rw [h4.1, h4.2.1]
      refine x_cs (c_farOf d L (a := x) (a' := F.1 5 k) (b := y) (b' := F.1 6 k) (by omega) (by omega) (by omega) (by omega)) rfl rfl rfl (by decide) (Nat.le_of_ble_eq_true rfl) (by decide) (by decide) (by decide) ?_
      rintro _ _ ⟨rfl, rfl⟩
      repeat refine x_s rfl rfl ?_
      refine x_ald rfl rfl rfl (k := k) (rfl) (by omega) (by decide) rfl ?_
      rw [hL k hk]
      repeat refine x_s rfl rfl ?_
      refine x_br rfl rfl (fun c => ?_) (fun c => ?_)
      · have hc := hb.symm.trans ((bL_test (by omega)).mp c)
        iterate 2 refine x_s rfl rfl ?_
        rw [nI_1]
        exact ih _ (by simp [bF, hc, ha]) _
      · have hc : tf k (fxy F k x y) = true := by
          cases hc : tf k (fxy F k x y)
          · exact absurd ((bL_test (by omega)).mpr (hb.trans hc)) c
          · rfl
        iterate 8 refine x_s rfl rfl ?_
        rw [nI_1]
        exact ih _ (by simp [bF, hc, ha]) _
  refine Cn.intro gX11_hearersFrom rfl (Nat.le_of_ble_eq_true rfl) rfl ?_
  iterate 9 refine x_s rfl rfl ?_
  exact lp 0 (Nat.zero_le _) 0 rfl _
set_option maxRecDepth 100000 in
set_option maxHeartbeats 8000000 in
theorem c_unlikeThings (H : HC d F) (R : RG F) {x y : Nat} (hx : x ≤ 40) (hy : y ≤ 40) {tf : Nat → Nat → Bool} (hL : ∀ p, p < F.1 0 0 → L 111 p = lB (tf p) 41) (b : Int32) : Cn mX11_unlikeThings false 4 0 0 [.ref 0, .int b, .int (nI x), .int (nI y)] (W0 d L) (qP d L (bc (thg F tf b x y (F.1 0 0)))) := by
  have r1 := R.1
  have lp : ∀ k, k ≤ F.1 0 0 → ∀ a, a = thg F tf b x y k → ∀ o1 o2 o3, Ex mX11_unlikeThings false 4 0 0 18 [some (.ref 0), some (.int b), some (.int (nI x)), some (.int (nI y)), some (.ref 25), some (.int a), some (.int (nI k)), o1, o2, o3] [] (W0 d L) (qP d L (bc (thg F tf b x y (F.1 0 0)))) nX := by
    refine x_down _ ?_ ?_
    · intro a ha o1 o2 o3
      repeat refine x_s rfl rfl ?_
      refine x_br rfl rfl (fun c => ?_) (fun c => absurd c (fun z => z (lp_x H.1)))
      repeat refine x_s rfl rfl ?_
      refine x_cs (c_bitCount d L a) rfl rfl rfl (by decide) (Nat.le_of_ble_eq_true rfl) (by decide) (by decide) (by decide) ?_
      rintro _ _ ⟨rfl, rfl⟩
      exact x_iret rfl rfl rfl ⟨by rw [ha], rfl⟩
    · intro k hk ih a ha o1 o2 o3
      have h3 := H.2.2.2.1 k hk
      have r4 := R.2.2.2.1 k hk
      have hf : fpy F k x y ≤ 40 := by
        have e1 := dif_le (a := F.1 1 k) (b := x) (m := 40) (by omega) (by omega)
        have e2 := dif_le (a := F.1 2 k) (b := y) (m := 40) (by omega) (by omega)
        unfold fpy
        split <;> omega
      have hb := lB_bt (tf k) 41 (fpy F k x y) (by decide)
      rw [decide_eq_true (by omega), Bool.true_and] at hb
      repeat refine x_s rfl rfl ?_
      refine x_br rfl rfl (fun c => absurd c (lp_c H.1 hk (by omega))) (fun c => ?_)
      repeat refine x_s rfl rfl ?_
      refine x_br rfl rfl (fun c => ?_) (fun c => ?_)
      · have hc := (bt_test (by omega)).mp c
        iterate 2 refine x_s rfl rfl ?_
        rw [nI_1]
        exact ih _ (by simp [thg, hc, ha]) _ _ _
      · have hc : bt b k = true := by
          cases hc : bt b k
          · exact absurd ((bt_test (by omega)).mpr hc) c
          · rfl
        repeat refine x_s rfl rfl ?_
        refine x_ald rfl rfl rfl (k := k) (rfl) (by omega) (by decide) rfl ?_
        rw [h3.1]
        repeat refine x_s rfl rfl ?_
        refine x_ald rfl rfl rfl (k := k) (rfl) (by omega) (by decide) rfl ?_
        rw [h3.2.1]
        repeat refine x_s rfl rfl ?_
        refine x_ald rfl rfl rfl (k := k) (rfl) (by omega) (by decide) rfl ?_
        rw [hL k hk]
        repeat refine x_s rfl rfl ?_
        refine x_cs (c_farOf d L (a := F.1 1 k) (a' := x) (b := F.1 2 k) (b' := y) (by omega) (by omega) (by omega) (by omega)) rfl rfl rfl (by decide) (Nat.le_of_ble_eq_true rfl) (by decide) (by decide) (by decide) ?_
        rintro _ _ ⟨rfl, rfl⟩
        repeat refine x_s rfl rfl ?_
        refine x_br rfl rfl (fun c2 => ?_) (fun c2 => ?_)
        · have hc2 := hb.symm.trans ((bL_test (by omega)).mp c2)
          repeat refine x_s rfl rfl ?_
          refine x_br rfl rfl (fun c => ?_) (fun c => absurd c (fun z => z rfl))
          iterate 5 refine x_s rfl rfl ?_
          rw [nI_1]
          exact ih _ (by simp [thg, hc, hc2, ha]) _ _ _
        · have hc2 : tf k (fpy F k x y) = true := by
            cases hc : tf k (fpy F k x y)
            · exact absurd ((bL_test (by omega)).mpr (hb.trans hc)) c2
            · rfl
          repeat refine x_s rfl rfl ?_
          refine x_br rfl rfl (fun c => absurd c (by decide)) (fun c => ?_)
          repeat refine x_s rfl rfl ?_
          refine x_cs (c_sideOf d L (nI (F.1 1 k) - nI x) (nI (F.1 2 k) - nI y)) rfl rfl rfl (by decide) (Nat.le_of_ble_eq_true rfl) (by decide) (by decide) (by decide) ?_
          rintro _ _ ⟨rfl, rfl⟩
          rw [nsub_tI (by omega) (by omega), nsub_tI (by omega) (by omega)]
          iterate 6 refine x_s rfl rfl ?_
          rw [nI_1]
          exact ih _ (by simp [thg, hc, hc2, ha]) _ _ _
  refine Cn.intro gX11_unlikeThings rfl (Nat.le_of_ble_eq_true rfl) rfl ?_
  iterate 9 refine x_s rfl rfl ?_
  exact lp 0 (Nat.zero_le _) 0 rfl _ _ _
end
