/-! THE MODEL: whom a needle points at; the court -/
theorem sd_8 (a b : Int) : sd a b ≤ 8 ∧ (sd a b = 8 ↔ a = 0 ∧ b = 0) := by
  have ea : iab a = 0 ↔ a = 0 := by unfold iab; split <;> omega
  have eb : iab b = 0 ↔ b = 0 := by unfold iab; split <;> omega
  unfold sd
  repeat' split
  all_goals omega
section
variable (d : Nat → Nat → Int32) (L : Nat → Nat → Int64) {F : Fr} {xp xn : Bool}
set_option maxRecDepth 100000 in
set_option maxHeartbeats 1600000 in
theorem k_isAt (H : HL d F xp xn) (R : RM F xp xn) {n p : Nat} (hn : DN F xn n) (hp : DP F xp p) : Cn mX12_isAt false 1 0 0 [.ref 112, .int (nI n), .int (nI p)] (W0 d L) (qP d L (bI (!mv F n p))) := by
  have n7 := DN7 R hn
  have p11 := DP11 R hp
  have h4 := H.2.2.2.1 p hp
  have h5 := H.2.2.2.2.1 n hn
  have r4 := R.2.2.2.1 p hp
  have r5 := R.2.2.2.2.1 n hn
  refine Cn.intro gX12_isAt rfl (Nat.le_of_ble_eq_true rfl) rfl ?_
  repeat refine x_s rfl rfl ?_
  refine x_ald rfl rfl rfl (k := n) (rfl) (by omega) (by decide) rfl ?_
  repeat refine x_s rfl rfl ?_
  refine x_ald rfl rfl rfl (k := p) (rfl) (by omega) (by decide) rfl ?_
  rw [h5.1, h4.1]
  refine x_br rfl rfl (fun c1 => ?_) (fun c1 => ?_)
  · have z : ¬ dx F n p = 0 := fun z => c1 (by congr 1; unfold dx at z; omega)
    repeat refine x_s rfl rfl ?_
    refine x_iret rfl rfl rfl ⟨congrArg (fun z => some (Value.int z)) ?_, rfl⟩
    rw [mv, decide_eq_true z]
    rfl
  · have z : dx F n p = 0 := by
      have := (nI_eq (by omega) (by omega)).mp c1
      unfold dx
      omega
    repeat refine x_s rfl rfl ?_
    refine x_ald rfl rfl rfl (k := n) (rfl) (by omega) (by decide) rfl ?_
    repeat refine x_s rfl rfl ?_
    refine x_ald rfl rfl rfl (k := p) (rfl) (by omega) (by decide) rfl ?_
    rw [h5.2.1, h4.2.1]
    refine x_br rfl rfl (fun c2 => ?_) (fun c2 => ?_)
    · have z2 : ¬ dy F n p = 0 := fun z => c2 (by congr 1; unfold dy at z; omega)
      repeat refine x_s rfl rfl ?_
      refine x_iret rfl rfl rfl ⟨congrArg (fun z => some (Value.int z)) ?_, rfl⟩
      rw [mv, decide_eq_true z2, Bool.or_true]
      rfl
    · have z2 : dy F n p = 0 := by
        have := (nI_eq (by omega) (by omega)).mp c2
        unfold dy
        omega
      repeat refine x_s rfl rfl ?_
      refine x_iret rfl rfl rfl ⟨congrArg (fun z => some (Value.int z)) ?_, rfl⟩
      rw [mv, decide_eq_false (fun q => q z), decide_eq_false (fun q => q z2)]
      rfl
set_option maxRecDepth 100000 in
set_option maxHeartbeats 1600000 in
theorem k_isPointed (H : HL d F xp xn) (R : RM F xp xn) {n p : Nat} (hn : DN F xn n) (hp : DP F xp p) (v : Int32) : Cn mX12_isPointed false 3 0 0 [.ref 112, .int (nI n), .int (nI p), .int v] (W0 d L) (qP d L (bI (pt F n p v))) := by
  have n7 := DN7 R hn
  have p11 := DP11 R hp
  have h4 := H.2.2.2.1 p hp
  have h5 := H.2.2.2.2.1 n hn
  have r4 := R.2.2.2.1 p hp
  have r5 := R.2.2.2.2.1 n hn
  have s8 := sd_8 (dx F n p) (dy F n p)
  have no : pt F n p v = false → bI (pt F n p v) = 0 := fun h => by rw [h]; rfl
  have tx : (nI (F.1 1 p) - nI (F.1 5 n)).toInt = dx F n p := nsub_tI (by omega) (by omega)
  have ty : (nI (F.1 2 p) - nI (F.1 6 n)).toInt = dy F n p := nsub_tI (by omega) (by omega)
  refine Cn.intro gX12_isPointed rfl (Nat.le_of_ble_eq_true rfl) rfl ?_
  repeat refine x_s rfl rfl ?_
  refine x_br rfl rfl (fun c1 => ?_) (fun c1 => ?_)
  · repeat refine x_s rfl rfl ?_
    refine x_iret rfl rfl rfl ⟨congrArg (fun z => some (Value.int z)) ?_, rfl⟩
    rw [lt0] at c1
    refine (no ?_).symm
    have : ¬ v = sid F n p := fun z => by
      rw [z, sid, nI_tI (by omega)] at c1
      omega
    rw [pt, decide_eq_false this, Bool.and_false]
  repeat refine x_s rfl rfl ?_
  refine x_br rfl rfl (fun c2 => ?_) (fun c2 => ?_)
  · repeat refine x_s rfl rfl ?_
    refine x_iret rfl rfl rfl ⟨congrArg (fun z => some (Value.int z)) ?_, rfl⟩
    rw [ile, show (8 : Int32).toInt = 8 from rfl] at c2
    refine (no ?_).symm
    by_cases h8 : v = 8
    · rw [pt, decide_eq_false (fun q => q h8), Bool.false_and]
    · have : ¬ v = sid F n p := fun z => by
        rw [z, sid, nI_tI (by omega)] at c2
        exact h8 (by rw [z, sid, show sd (dx F n p) (dy F n p) = 8 by omega]; rfl)
      rw [pt, decide_eq_false this, Bool.and_false]
  have v8 : ¬ v = 8 := fun z => by
    rw [z] at c2
    exact c2 (by decide)
  repeat refine x_s rfl rfl ?_
  refine x_cv (k_isAt d L H R hn hp) rfl rfl rfl (by decide) rfl (by decide) rfl (Nat.le_of_ble_eq_true rfl) (by decide) (by decide) (by decide) ?_
  rintro _ _ ⟨rfl, rfl⟩
  refine x_br rfl rfl (fun c3 => ?_) (fun c3 => ?_)
  · repeat refine x_s rfl rfl ?_
    refine x_iret rfl rfl rfl ⟨congrArg (fun z => some (Value.int z)) ?_, rfl⟩
    refine (no ?_).symm
    have hm := bI_n0.mp c3
    have hz : mv F n p = false := by cases hq : mv F n p <;> simp_all
    have : ¬ v = sid F n p := fun z => by
      unfold mv at hz
      simp at hz
      exact v8 (by rw [z, sid, s8.2.mpr hz]; rfl)
    rw [pt, decide_eq_false this, Bool.and_false]
  repeat refine x_s rfl rfl ?_
  refine x_ald rfl rfl rfl (k := p) (rfl) (by omega) (by decide) rfl ?_
  repeat refine x_s rfl rfl ?_
  refine x_ald rfl rfl rfl (k := n) (rfl) (by omega) (by decide) rfl ?_
  rw [h4.1, h5.1]
  repeat refine x_s rfl rfl ?_
  refine x_ald rfl rfl rfl (k := p) (rfl) (by omega) (by decide) rfl ?_
  repeat refine x_s rfl rfl ?_
  refine x_ald rfl rfl rfl (k := n) (rfl) (by omega) (by decide) rfl ?_
  rw [h4.2.1, h5.2.1]
  repeat refine x_s rfl rfl ?_
  refine x_cs (k_sideOf d L (nI (F.1 1 p) - nI (F.1 5 n)) (nI (F.1 2 p) - nI (F.1 6 n))) rfl rfl rfl (by decide) (Nat.le_of_ble_eq_true rfl) (by decide) (by decide) (by decide) ?_
  rintro _ _ ⟨rfl, rfl⟩
  rw [tx, ty]
  repeat refine x_s rfl rfl ?_
  refine x_br rfl rfl (fun c4 => ?_) (fun c4 => ?_)
  · repeat refine x_s rfl rfl ?_
    refine x_iret rfl rfl rfl ⟨congrArg (fun z => some (Value.int z)) ?_, rfl⟩
    refine (no ?_).symm
    have : ¬ v = sid F n p := fun z => c4 z.symm
    rw [pt, decide_eq_false this, Bool.and_false]
  · repeat refine x_s rfl rfl ?_
    refine x_iret rfl rfl rfl ⟨congrArg (fun z => some (Value.int z)) ?_, rfl⟩
    have : v = sid F n p := c4.symm
    rw [pt, decide_eq_true v8, decide_eq_true this]
    rfl
set_option maxRecDepth 100000 in
set_option maxHeartbeats 1600000 in
theorem k_laysShown (H : HL d F xp xn) (R : RM F xp xn) {h : Nat} (hh : h < 100) : Cn mX12_laysShown false 7 0 0 [.ref 112, .int (nI h)] (W0 d L) (fun r q => r = none ∧ ∃ d', q = W0 d' L ∧ sm [130, 131, 138] d d' ∧ ∀ n, n < F.1 4 0 → d' 138 n = sh F n h) := by
  have r2 := R.2.1
  have lp : ∀ k, k ≤ F.1 4 0 → ∀ d1, sm [130, 131, 138] d d1 → (∀ n, n < k → d1 138 n = sh F n h) → Ex mX12_laysShown false 7 0 0 2 [some (.ref 112), some (.int (nI h)), some (.int (nI k))] [] (W0 d1 L) (fun r q => r = none ∧ ∃ d', q = W0 d' L ∧ sm [130, 131, 138] d d' ∧ ∀ n, n < F.1 4 0 → d' 138 n = sh F n h) nX := by
    refine x_down _ ?_ ?_
    · intro d1 hs hj
      have H1 := HL_sm H hs (by decide)
      repeat refine x_s rfl rfl ?_
      refine x_br rfl rfl (fun c => ?_) (fun c => absurd c (fun z => z (lp_x H1.2.1)))
      exact x_vret rfl rfl ⟨rfl, d1, rfl, hs, hj⟩
    · intro k hk ih d1 hs hj
      have H1 := HL_sm H hs (by decide)
      repeat refine x_s rfl rfl ?_
      refine x_br rfl rfl (fun c => absurd c (lp_c H1.2.1 hk (by omega))) (fun c => ?_)
      repeat refine x_s rfl rfl ?_
      refine x_cv (k_showsIn d1 L H1 R (n := k) (Or.inl hk) hh) rfl rfl rfl (by decide) rfl (by decide) rfl (Nat.le_of_ble_eq_true rfl) (by decide) (by decide) (by decide) ?_
      rintro _ _ ⟨rfl, d2, rfl, hs2⟩
      refine x_iast rfl rfl (k := k) (rfl) (by omega) (by decide) rfl ?_
      iterate 2 refine x_s rfl rfl ?_
      rw [nI_1]
      refine ih _ (sm_up (sm_go hs (sm_in hs2 (by decide))) (by decide)) ?_
      intro n hn
      by_cases e : n = k
      · subst e
        exact up2_eq
      · rw [up2_k e, hs2 138 (by decide)]
        exact hj n (by omega)
  refine Cn.intro gX12_laysShown rfl (Nat.le_of_ble_eq_true rfl) rfl ?_
  iterate 2 refine x_s rfl rfl ?_
  exact lp 0 (Nat.zero_le _) d sm_rfl (fun n hn => by omega)
set_option maxRecDepth 100000 in
set_option maxHeartbeats 1600000 in
theorem k_saidBy (H : HL d F xp xn) (R : RM F xp xn) {p h : Nat} (hp : p < F.1 0 0) (hh : h < 100) : Cn mX12_saidBy false 1 0 0 [.ref 112, .int (nI p), .int (nI h)] (W0 d L) (qP d L (nI (sai F h p))) := by
  have r1 := R.1
  have r3 := R.2.2.1
  have lp : ∀ k, k ≤ F.1 9 0 → ∀ a, a = nI (cF (fun s => decide (F.1 11 s = p) && decide (F.1 10 s ≤ h)) k) → Ex mX12_saidBy false 1 0 0 5 [some (.ref 112), some (.int (nI p)), some (.int (nI h)), some (.int a), some (.int (nI k))] [] (W0 d L) (qP d L (nI (sai F h p))) nX := by
    refine x_down _ ?_ ?_
    · intro a ha
      repeat refine x_s rfl rfl ?_
      refine x_br rfl rfl (fun c => ?_) (fun c => absurd c (fun z => z (lp_x H.2.2.1)))
      repeat refine x_s rfl rfl ?_
      exact x_iret rfl rfl rfl ⟨by rw [ha]; rfl, rfl⟩
    · intro k hk ih a ha
      have h6 := H.2.2.2.2.2.1 k hk
      have r6 := R.2.2.2.2.2 k hk
      have p11 := DP11 R r6.2.1
      repeat refine x_s rfl rfl ?_
      refine x_br rfl rfl (fun c => absurd c (lp_c H.2.2.1 hk (by omega))) (fun c => ?_)
      repeat refine x_s rfl rfl ?_
      refine x_ald rfl rfl rfl (k := k) (rfl) (by omega) (by decide) rfl ?_
      rw [h6.2.1]
      repeat refine x_s rfl rfl ?_
      refine x_br rfl rfl (fun c1 => ?_) (fun c1 => ?_)
      · have e : ¬ F.1 11 k = p := fun z => c1 (by rw [z])
        iterate 5 refine x_s rfl rfl ?_
        rw [nI_1]
        refine ih _ ?_
        rw [ha, cF, if_neg (by simp [e])]
        exact Int32.add_zero _
      · have e : F.1 11 k = p := (nI_eq (by omega) (by omega)).mp c1
        repeat refine x_s rfl rfl ?_
        refine x_ald rfl rfl rfl (k := k) (rfl) (by omega) (by decide) rfl ?_
        rw [h6.1]
        repeat refine x_s rfl rfl ?_
        refine x_br rfl rfl (fun c2 => ?_) (fun c2 => ?_)
        · have e2 : ¬ F.1 10 k ≤ h := fun z => absurd c2 (nI_nlt z (by omega))
          iterate 5 refine x_s rfl rfl ?_
          rw [nI_1]
          refine ih _ ?_
          rw [ha, cF, if_neg (by simp [e2])]
          exact Int32.add_zero _
        · have e2 : F.1 10 k ≤ h := by
            rcases Nat.lt_or_ge h (F.1 10 k) with z | z
            · exact absurd (nI_lt z (by omega)) c2
            · exact z
          iterate 6 refine x_s rfl rfl ?_
          rw [nI_1 k]
          refine ih _ ?_
          rw [ha, cF, if_pos (by simp [e, e2]), nI_1]
  refine Cn.intro gX12_saidBy rfl (Nat.le_of_ble_eq_true rfl) rfl ?_
  iterate 4 refine x_s rfl rfl ?_
  exact lp 0 (Nat.zero_le _) 0 rfl
set_option maxRecDepth 100000 in
set_option maxHeartbeats 1600000 in
theorem k_courts (H : HL d F xp xn) (R : RM F xp xn) {v : Nat → Int32} (hv : ∀ n, n < F.1 4 0 → d 138 n = v n) {p h : Nat} (hp : p < F.1 0 0) (hh : h < 100) (x : Int32) : Cn mX12_courts false 4 0 0 [.ref 112, .int (nI p), .int (nI h), .int x] (W0 d L) (qS [130, 131] d L (wgh F v (sai F h) h (bt x) p)) := by
  have r1 := R.1
  have r2 := R.2.1
  have lp : ∀ k, k ≤ F.1 4 0 → ∀ a b, a = nI (cF (fun n => bt x n && pt F n p (v n)) k) → b = nI (cF (fun n => bt x n && fl F n p (v n)) k) → Ex mX12_courts false 4 0 0 9 [some (.ref 112), some (.int (nI p)), some (.int (nI h)), some (.int x), some (.int a), some (.int b), some (.int (nI k))] [] (W0 d L) (qS [130, 131] d L (wgh F v (sai F h) h (bt x) p)) nX := by
    refine x_down _ ?_ ?_
    · intro a b ha hb
      have h4 := H.2.2.2.1 p (Or.inl hp)
      have hR := H.2.2.2.2.2.2.2
      repeat refine x_s rfl rfl ?_
      refine x_br rfl rfl (fun c => ?_) (fun c => absurd c (fun z => z (lp_x H.2.1)))
      repeat refine x_s rfl rfl ?_
      cases hg : F.2.2 with
      | none =>
        rw [hg] at hR
        have hR' : d 112 4 = -1 := hR
        refine x_br rfl rfl (fun c => absurd c (fun z => z hR')) (fun c => ?_)
        repeat refine x_s rfl rfl ?_
        refine x_iret rfl rfl rfl ⟨?_, d, rfl, sm_rfl⟩
        rw [ha, wgh, hg]
      | some g =>
        rw [hg] at hR
        obtain ⟨T, at0, t1, t2, t3, t4, t5, t6, t7⟩ := hR
        refine x_br rfl rfl (fun c => ?_) (fun c => absurd c (fun z => absurd (t1.symm.trans z) (by rw [ieq, nI_tI (by omega), show (-1 : Int32).toInt = -1 from rfl]; omega)))
        repeat refine x_s rfl rfl ?_
        refine x_iast rfl rfl (k := 6) (rfl) (by omega) (by decide) rfl ?_
        generalize g1 : up2 d 130 6 a = d1
        have s1 : sm [130] d d1 := by rw [← g1]; exact sm_up sm_rfl (by decide)
        repeat refine x_s rfl rfl ?_
        refine x_iast rfl rfl (k := 7) (rfl) (by omega) (by decide) rfl ?_
        generalize g2 : up2 d1 130 7 b = d2
        have s2 : sm [130] d d2 := by rw [← g2]; exact sm_up s1 (by decide)
        have H2 := HL_sm H s2 (by decide)
        repeat refine x_s rfl rfl ?_
        refine x_ald rfl rfl rfl (k := p) (rfl) (by omega) (by decide) rfl ?_
        rw [(H2.2.2.2.1 p (Or.inl hp)).2.2]
        refine x_iast rfl rfl (k := 4) (rfl) (by omega) (by decide) rfl ?_
        generalize g3 : up2 d2 130 4 (nI (F.1 3 p)) = d3
        have s3 : sm [130] d d3 := by rw [← g3]; exact sm_up s2 (by decide)
        have H3 := HL_sm H s3 (by decide)
        repeat refine x_s rfl rfl ?_
        refine x_cv (k_saidBy d3 L H3 R hp hh) rfl rfl rfl (by decide) rfl (by decide) rfl (Nat.le_of_ble_eq_true rfl) (by decide) (by decide) (by decide) ?_
        rintro _ _ ⟨rfl, rfl⟩
        refine x_iast rfl rfl (k := 8) (rfl) (by omega) (by decide) rfl ?_
        generalize g4 : up2 d3 130 8 (nI (sai F h p)) = d4
        have s4 : sm [130] d d4 := by rw [← g4]; exact sm_up s3 (by decide)
        repeat refine x_s rfl rfl ?_
        refine x_iast rfl rfl (k := 5) (rfl) (by omega) (by decide) rfl ?_
        generalize g5 : up2 d4 130 5 (nI h) = d5
        have s5 : sm [130] d d5 := by rw [← g5]; exact sm_up s4 (by decide)
        repeat refine x_s rfl rfl ?_
        have hvv : ∀ i, i < 5 → pmC i < 9 ∧ d5 130 (pmC i) = vc (cF (fun n => bt x n && pt F n p (v n)) (F.1 4 0)) (cF (fun n => bt x n && fl F n p (v n)) (F.1 4 0)) (F.1 3 p) (sai F h p) h i := by
          intro i hi
          subst g5 g4 g3 g2 g1 ha hb
          rcases (by omega : i = 0 ∨ i = 1 ∨ i = 2 ∨ i = 3 ∨ i = 4) with rfl | rfl | rfl | rfl | rfl <;> exact ⟨by decide, rfl⟩
        have K := k_reckons d5 L pmC _ hvv t2 (by rw [s5 117 (by decide)]; exact t3) (by rw [s5 117 (by decide)]; exact t4) t5 t6
        rw [t7] at K
        have e6 : d5 112 4 = nI at0 := by rw [s5 112 (by decide)]; exact t1
        rw [e6]
        refine x_cv (K) rfl rfl rfl (by decide) rfl (by decide) rfl (Nat.le_of_ble_eq_true rfl) (by decide) (by decide) (by decide) ?_
        rintro _ _ ⟨rfl, d7, rfl, hs2⟩
        refine x_iret rfl rfl rfl ⟨?_, d7, rfl, sm_go (sm_in s5 (by decide)) (sm_in hs2 (by decide))⟩
        rw [wgh, hg]
    · intro k hk ih a b ha hb
      have v1 := hv k hk
      repeat refine x_s rfl rfl ?_
      refine x_br rfl rfl (fun c => absurd c (lp_c H.2.1 hk (by omega))) (fun c => ?_)
      repeat refine x_s rfl rfl ?_
      refine x_br rfl rfl (fun c1 => ?_) (fun c1 => ?_)
      · have hc : bt x k = true := by
          cases hc : bt x k
          · exact absurd ((bt_test (by omega)).mpr hc) c1
          · rfl
        repeat refine x_s rfl rfl ?_
        refine x_ald rfl rfl rfl (k := k) (rfl) (by omega) (by decide) rfl ?_
        rw [v1]
        refine x_cv (k_isPointed d L H R (n := k) (p := p) (Or.inl hk) (Or.inl hp) (v k)) rfl rfl rfl (by decide) rfl (by decide) rfl (Nat.le_of_ble_eq_true rfl) (by decide) (by decide) (by decide) ?_
        rintro _ _ ⟨rfl, rfl⟩
        have fin2 : ∀ (a2 : Int32), a2 = nI (cF (fun n => bt x n && pt F n p (v n)) (k + 1)) → Ex mX12_courts false 4 0 0 57 [some (.ref 112), some (.int (nI p)), some (.int (nI h)), some (.int x), some (.int a2), some (.int b), some (.int (nI k))] [] (W0 d L) (qS [130, 131] d L (wgh F v (sai F h) h (bt x) p)) nX := by
          intro a2 ha2
          repeat refine x_s rfl rfl ?_
          refine x_ald rfl rfl rfl (k := k) (rfl) (by omega) (by decide) rfl ?_
          rw [v1]
          repeat refine x_s rfl rfl ?_
          refine x_br rfl rfl (fun c3 => ?_) (fun c3 => ?_)
          · have c4 : ¬ v k = 8 := c3
            iterate 5 refine x_s rfl rfl ?_
            rw [nI_1]
            refine ih _ _ ha2 ?_
            rw [hb, cF, if_neg (by simp [fl, c4])]
            exact Int32.add_zero _
          · have c4 : v k = 8 := c3
            have s8 := sd_8 (dx F k p) (dy F k p)
            repeat refine x_s rfl rfl ?_
            refine x_cv (k_isAt d L H R (n := k) (p := p) (Or.inl hk) (Or.inl hp)) rfl rfl rfl (by decide) rfl (by decide) rfl (Nat.le_of_ble_eq_true rfl) (by decide) (by decide) (by decide) ?_
            rintro _ _ ⟨rfl, rfl⟩
            refine x_br rfl rfl (fun c5 => ?_) (fun c5 => ?_)
            · have hm : mv F k p = true := by
                have := bI_0.mp c5
                cases hq : mv F k p <;> simp_all
              have nf : ¬ v k = sid F k p := fun z => by
                rw [c4] at z
                have e8 : sd (dx F k p) (dy F k p) = 8 := by
                  have := congrArg Int32.toInt z
                  rw [sid, nI_tI (by omega), show (8 : Int32).toInt = 8 from rfl] at this
                  omega
                have := s8.2.mp e8
                rw [mv, this.1, this.2] at hm
                simp at hm
              iterate 5 refine x_s rfl rfl ?_
              rw [nI_1]
              refine ih _ _ ha2 ?_
              rw [hb, cF, if_neg (by simp [fl, nf])]
              exact Int32.add_zero _
            · have hm : mv F k p = false := by
                have := bI_n0.mp c5
                cases hq : mv F k p <;> simp_all
              have yf : v k = sid F k p := by
                unfold mv at hm
                simp at hm
                rw [c4, sid, s8.2.mpr hm]
                rfl
              iterate 6 refine x_s rfl rfl ?_
              rw [nI_1 k]
              refine ih _ _ ha2 ?_
              rw [hb, cF, if_pos (by simp only [fl, hc, decide_eq_true c4, decide_eq_true yf]; rfl), nI_1]
        refine x_br rfl rfl (fun c2 => ?_) (fun c2 => ?_)
        · iterate 3 refine x_s rfl rfl ?_
          refine fin2 _ ?_
          rw [ha, cF, if_neg (by simp [bI_0.mp c2])]
          exact Int32.add_zero _
        · iterate 4 refine x_s rfl rfl ?_
          refine fin2 _ ?_
          rw [ha, cF, if_pos (by simp [bI_n0.mp c2, hc]), nI_1]
      · have hc := (bt_test (by omega)).mp c1
        iterate 3 refine x_s rfl rfl ?_
        rw [nI_1]
        exact ih _ _ (by rw [ha, cF, if_neg (by simp [hc])]) (by rw [hb, cF, if_neg (by simp [hc])])
  refine Cn.intro gX12_courts rfl (Nat.le_of_ble_eq_true rfl) rfl ?_
  iterate 6 refine x_s rfl rfl ?_
  exact lp 0 (Nat.zero_le _) 0 0 rfl rfl
set_option maxRecDepth 100000 in
set_option maxHeartbeats 1600000 in
theorem k_accusedBy (H : HL d F xp xn) (R : RM F xp xn) {v : Nat → Int32} (hv : ∀ n, n < F.1 4 0 → d 138 n = v n) {h : Nat} (hh : h < 100) (x : Int32) : Cn mX12_accusedBy false 5 0 0 [.ref 112, .int (nI h), .int x] (W0 d L) (qS [130, 131] d L (acc F v (sai F h) h (bt x))) := by
  have r1 := R.1
  have lp : ∀ k, k ≤ F.1 0 0 → ∀ a b, (a, b) = bst (wgh F v (sai F h) h (bt x)) k → ∀ d1, sm [130, 131] d d1 → ∀ o, Ex mX12_accusedBy false 5 0 0 8 [some (.ref 112), some (.int (nI h)), some (.int x), some (.int a), some (.int b), some (.int (nI k)), o] [] (W0 d1 L) (qS [130, 131] d L (acc F v (sai F h) h (bt x))) nX := by
    refine x_down _ ?_ ?_
    · intro a b ha d1 hs o
      have H1 := HL_sm H hs (by decide)
      repeat refine x_s rfl rfl ?_
      refine x_br rfl rfl (fun c => ?_) (fun c => absurd c (fun z => z (lp_x H1.1)))
      repeat refine x_s rfl rfl ?_
      refine x_iret rfl rfl rfl ⟨?_, d1, rfl, hs⟩
      rw [acc, ← ha]
    · intro k hk ih a b ha d1 hs o
      have H1 := HL_sm H hs (by decide)
      repeat refine x_s rfl rfl ?_
      refine x_br rfl rfl (fun c => absurd c (lp_c H1.1 hk (by omega))) (fun c => ?_)
      repeat refine x_s rfl rfl ?_
      refine x_cv (k_courts d1 L H1 R (v := v) (by rw [hs 138 (by decide)]; exact hv) hk hh x) rfl rfl rfl (by decide) rfl (by decide) rfl (Nat.le_of_ble_eq_true rfl) (by decide) (by decide) (by decide) ?_
      rintro _ _ ⟨rfl, d2, rfl, hs2⟩
      repeat refine x_s rfl rfl ?_
      refine x_br rfl rfl (fun c => ?_) (fun c => ?_)
      · iterate 6 refine x_s rfl rfl ?_
        rw [nI_1]
        refine ih _ _ ?_ d2 (sm_go hs hs2) _
        rw [bst, ← ha]
        exact (if_pos c).symm
      · iterate 3 refine x_s rfl rfl ?_
        rw [nI_1]
        refine ih _ _ ?_ d2 (sm_go hs hs2) _
        rw [bst, ← ha]
        exact (if_neg c).symm
  refine Cn.intro gX12_accusedBy rfl (Nat.le_of_ble_eq_true rfl) rfl ?_
  iterate 6 refine x_s rfl rfl ?_
  exact lp 0 (Nat.zero_le _) _ _ rfl d sm_rfl _
theorem b_63 : ∀ n, n < 6 → bt 63 n = true := by decide +kernel
set_option maxRecDepth 100000 in
set_option maxHeartbeats 1600000 in
theorem k_accusedIn (H : HL d F xp xn) (R : RM F xp xn) {h : Nat} (hh : h < 100) : Cn mX12_accusedIn false 8 0 0 [.ref 112, .int (nI h)] (W0 d L) (qS [130, 131, 138] d L (accI F h)) := by
  refine Cn.intro gX12_accusedIn rfl (Nat.le_of_ble_eq_true rfl) rfl ?_
  repeat refine x_s rfl rfl ?_
  refine x_cv (k_laysShown d L H R hh) rfl rfl rfl (by decide) rfl (by decide) rfl (Nat.le_of_ble_eq_true rfl) (by decide) (by decide) (by decide) ?_
  rintro _ _ ⟨rfl, d1, rfl, hs, hv⟩
  repeat refine x_s rfl rfl ?_
  refine x_cv (k_accusedBy d1 L (HL_sm H hs (by decide)) R hv hh 63) rfl rfl rfl (by decide) rfl (by decide) rfl (Nat.le_of_ble_eq_true rfl) (by decide) (by decide) (by decide) ?_
  rintro _ _ ⟨rfl, d2, rfl, hs2⟩
  refine x_iret rfl rfl rfl ⟨?_, d2, rfl, sm_go hs (sm_in hs2 (by decide))⟩
  rw [accI, acc_cong (v' := fun n => sh F n h) (sa' := sai F h) (ms' := tt) (fun _ _ => rfl) (fun _ _ => rfl) (fun n hn => b_63 n (by have := R.2.1; omega))]
end
