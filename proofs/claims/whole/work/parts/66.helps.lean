/-! THE MODEL: what its calls share -/
theorem up2_self {α : Type} (f : Nat → Nat → α) (c k : Nat) : up2 f c k (f c k) = f := by
  funext c' k'
  unfold up2
  split
  · rename_i h
    subst h
    split
    · rename_i h2
      rw [h2]
    · rfl
  · rfl
theorem fst0_self (F : Fr) : fst0 F (F.1 9 0) = F := by
  unfold fst0
  rw [up2_self]
theorem RM_of {F : Fr} (R : RG F) : RM F false false := by
  obtain ⟨r1, r2, r3, r4, r5, r6⟩ := R
  refine ⟨r1, r2, by omega, fun p hp => ?_, fun n hn => ?_, fun s hs => ⟨(r6 s hs).1, Or.inl (r6 s hs).2.1, (r6 s hs).2.2⟩⟩
  · rcases hp with h | h
    · exact r4 p h
    · exact absurd h.1 (by decide)
  · rcases hn with h | h
    · exact r5 n h
    · exact absurd h.1 (by decide)
theorem RM_0 {F : Fr} (R : RG F) : RM (fst0 F 0) false false := by
  obtain ⟨r1, r2, r3, r4, r5, r6⟩ := RM_of R
  exact ⟨r1, r2, Nat.zero_le _, r4, r5, fun s hs => absurd hs (Nat.not_lt_zero _)⟩
/-- one saying more in the listing -/
theorem HL_tl {d : Nat → Nat → Int32} {F : Fr} {xp xn : Bool} (H : HL d F xp xn) (x y z : Nat) : HL (up2 (up2 (up2 (up2 d 132 (F.1 9 0) (nI x)) 133 (F.1 9 0) (nI y)) 134 (F.1 9 0) (nI z)) 112 46 (nI (F.1 9 0 + 1))) (tl F.1 x y z, F.2) xp xn := by
  obtain ⟨h1, h2, h3, h4, h5, h6, h7, h8⟩ := H
  refine ⟨h1, h2, rfl, h4, h5, fun s hs => ?_, h7, h8⟩
  have hs' : s < F.1 9 0 + 1 := hs
  show (if s = F.1 9 0 then nI x else d 132 s) = nI (if s = F.1 9 0 then x else F.1 10 s) ∧ (if s = F.1 9 0 then nI y else d 133 s) = nI (if s = F.1 9 0 then y else F.1 11 s) ∧ (if s = F.1 9 0 then nI z else d 134 s) = nI (if s = F.1 9 0 then z else F.1 12 s)
  by_cases e : s = F.1 9 0
  · simp [e]
  · simp only [if_neg e]
    exact h6 s (by omega)
theorem RM_tl {F : Fr} {xp xn : Bool} (R : RM F xp xn) {x y z : Nat} (h0 : F.1 9 0 < 120) (h1 : x < 100) (h2 : DP F xp y) (h3 : z ≤ 9) : RM (tl F.1 x y z, F.2) xp xn := by
  obtain ⟨r1, r2, r3, r4, r5, r6⟩ := R
  refine ⟨r1, r2, ?_, r4, r5, fun s hs => ?_⟩
  · show F.1 9 0 + 1 ≤ 120
    omega
  · have hs' : s < F.1 9 0 + 1 := hs
    show (if s = F.1 9 0 then x else F.1 10 s) < 100 ∧ DP F xp (if s = F.1 9 0 then y else F.1 11 s) ∧ (if s = F.1 9 0 then z else F.1 12 s) ≤ 9
    by_cases e : s = F.1 9 0
    · simp only [if_pos e]
      exact ⟨h1, h2, h3⟩
    · simp only [if_neg e]
      exact r6 s (by omega)
def HZM (d : Nat → Nat → Int32) (Z : Sn) : Prop := d 112 56 = nI Z.1 ∧ ∀ i, i < Z.1 → d 141 (3 * i) = nI (Z.2.1 i) ∧ d 141 (3 * i + 1) = nI (Z.2.2.1 i) ∧ d 141 (3 * i + 2) = Z.2.2.2 i
theorem HZM_sm {S : List Nat} {d d' : Nat → Nat → Int32} {Z : Sn} (H : HZM d Z) (h : sm S d d') (h1 : 112 ∉ S) (h2 : 141 ∉ S) : HZM d' Z := by
  unfold HZM
  rw [h 112 h1, h 141 h2]
  exact H
theorem HZM_mS {d d' : Nat → Nat → Int32} {Z : Sn} (H : HZM d Z) (h : mS d d') : HZM d' Z := by
  unfold HZM
  rw [h.2.1 56 (by decide) (by decide) (by decide), h.1 141 (by decide)]
  exact H
theorem mul3 {k : Nat} (hk : k < 100) : (3 : Int32) * nI k = nI (3 * k) := by
  unfold nI
  rw [show (3 : Int32) = Int32.ofNat 3 from rfl, Int32.ofNat_mul]
section
variable (d : Nat → Nat → Int32) (L : Nat → Nat → Int64) {F : Fr} {xp xn : Bool} {Z : Sn}
set_option maxRecDepth 100000 in
set_option maxHeartbeats 1600000 in
theorem k_heardBy (H : HL d F xp xn) (R : RM F xp xn) {s : Nat} (hs0 : s < F.1 9 0) : Cn mX12_heardBy false 5 0 0 [.ref 112, .int (nI s)] (W0 d L) (qS [130, 131] d L (bF (fun n => hr F n s) (F.1 4 0))) := by
  have r2 := R.2.1
  have lp : ∀ k, k ≤ F.1 4 0 → ∀ a, a = bF (fun n => hr F n s) k → ∀ d1, sm [130, 131] d d1 → Ex mX12_heardBy false 5 0 0 4 [some (.ref 112), some (.int (nI s)), some (.int a), some (.int (nI k))] [] (W0 d1 L) (qS [130, 131] d L (bF (fun n => hr F n s) (F.1 4 0))) nX := by
    refine x_down _ ?_ ?_
    · intro a ha d1 hs
      have H1 := HL_sm H hs (by decide)
      repeat refine x_s rfl rfl ?_
      refine x_br rfl rfl (fun c => ?_) (fun c => absurd c (fun z => z (lp_x H1.2.1)))
      repeat refine x_s rfl rfl ?_
      exact x_iret rfl rfl rfl ⟨by rw [ha], d1, rfl, hs⟩
    · intro k hk ih a ha d1 hs
      have H1 := HL_sm H hs (by decide)
      repeat refine x_s rfl rfl ?_
      refine x_br rfl rfl (fun c => absurd c (lp_c H1.2.1 hk (by omega))) (fun c => ?_)
      repeat refine x_s rfl rfl ?_
      refine x_cv (k_hears d1 L H1 R (n := k) (s := s) (Or.inl hk) hs0) rfl rfl rfl (by decide) rfl (by decide) rfl (Nat.le_of_ble_eq_true rfl) (by decide) (by decide) (by decide) ?_
      rintro _ _ ⟨rfl, d2, rfl, hs2⟩
      refine x_br rfl rfl (fun c => ?_) (fun c => ?_)
      · iterate 5 refine x_s rfl rfl ?_
        rw [nI_1, or_0]
        exact ih _ (by simp [bF, bI_0.mp c, ha]) _ (sm_go hs hs2)
      · iterate 8 refine x_s rfl rfl ?_
        rw [nI_1]
        exact ih _ (by simp [bF, bI_n0.mp c, ha]) _ (sm_go hs hs2)
  refine Cn.intro gX12_heardBy rfl (Nat.le_of_ble_eq_true rfl) rfl ?_
  iterate 4 refine x_s rfl rfl ?_
  exact lp 0 (Nat.zero_le _) 0 rfl d sm_rfl
set_option maxRecDepth 100000 in
set_option maxHeartbeats 1600000 in
theorem k_plantedNow (H : HL d F xp xn) (R : RM F xp xn) (HZ0 : HZM d Z) (z1 : Z.1 ≤ 8) (z2 : ∀ i, i < Z.1 → Z.2.1 i < F.1 4 0 ∧ Z.2.2.1 i < 100) : Cn mX12_plantedNow false 7 0 0 [.ref 112] (W0 d L) (qS [130, 131] d L (plz F Z Z.1)) := by
  have r2 := R.2.1
  have lp : ∀ k, k ≤ Z.1 → ∀ a, a = plz F Z k → ∀ d1, sm [130, 131] d d1 → Ex mX12_plantedNow false 7 0 0 4 [some (.ref 112), some (.int a), some (.int (nI k))] [] (W0 d1 L) (qS [130, 131] d L (plz F Z Z.1)) nX := by
    refine x_down _ ?_ ?_
    · intro a ha d1 hs
      have Z1 := HZM_sm HZ0 hs (by decide) (by decide)
      repeat refine x_s rfl rfl ?_
      refine x_br rfl rfl (fun c => ?_) (fun c => absurd c (fun z => z (lp_x Z1.1)))
      repeat refine x_s rfl rfl ?_
      exact x_iret rfl rfl rfl ⟨by rw [ha], d1, rfl, hs⟩
    · intro k hk ih a ha d1 hs
      have H1 := HL_sm H hs (by decide)
      have Z1 := HZM_sm HZ0 hs (by decide) (by decide)
      have q := Z1.2 k hk
      have q2 := z2 k hk
      repeat refine x_s rfl rfl ?_
      refine x_br rfl rfl (fun c => absurd c (lp_c Z1.1 hk (by omega))) (fun c => ?_)
      repeat refine x_s rfl rfl ?_
      rw [mul3 (by omega)]
      refine x_ald rfl rfl rfl (k := 3 * k) (rfl) (by omega) (by decide) rfl ?_
      repeat refine x_s rfl rfl ?_
      rw [mul3 (by omega), nI_1]
      refine x_ald rfl rfl rfl (k := 3 * k + 1) (rfl) (by omega) (by decide) rfl ?_
      rw [q.1, q.2.1]
      refine x_cv (k_showsIn d1 L H1 R (n := Z.2.1 k) (h := Z.2.2.1 k) (Or.inl q2.1) q2.2) rfl rfl rfl (by decide) rfl (by decide) rfl (Nat.le_of_ble_eq_true rfl) (by decide) (by decide) (by decide) ?_
      rintro _ _ ⟨rfl, d2, rfl, hs2⟩
      have Z2 := (HZM_sm Z1 hs2 (by decide) (by decide)).2 k hk
      repeat refine x_s rfl rfl ?_
      rw [mul3 (by omega), show nI (3 * k) + 2 = nI (3 * k + 2) from nI_add (3 * k) 2]
      refine x_ald rfl rfl rfl (k := 3 * k + 2) (rfl) (by omega) (by decide) rfl ?_
      rw [Z2.2.2]
      refine x_br rfl rfl (fun c1 => ?_) (fun c1 => ?_)
      · have c2 : sh F (Z.2.1 k) (Z.2.2.1 k) = Z.2.2.2 k := c1
        iterate 5 refine x_s rfl rfl ?_
        rw [nI_1, or_0]
        exact ih _ (by rw [ha, plz, if_pos c2]) d2 (sm_go hs hs2)
      · have c2 : ¬ sh F (Z.2.1 k) (Z.2.2.1 k) = Z.2.2.2 k := c1
        repeat refine x_s rfl rfl ?_
        rw [mul3 (by omega)]
        refine x_ald rfl rfl rfl (k := 3 * k) (rfl) (by omega) (by decide) rfl ?_
        rw [Z2.1]
        iterate 6 refine x_s rfl rfl ?_
        rw [nI_1 k]
        exact ih _ (by rw [ha, plz, if_neg c2]) d2 (sm_go hs hs2)
  refine Cn.intro gX12_plantedNow rfl (Nat.le_of_ble_eq_true rfl) rfl ?_
  iterate 4 refine x_s rfl rfl ?_
  exact lp 0 (Nat.zero_le _) 0 rfl d sm_rfl
set_option maxRecDepth 100000 in
set_option maxHeartbeats 1600000 in
theorem k_pointedBy (H : HL d F xp xn) (R : RM F xp xn) {n h : Nat} (hn : n < F.1 4 0) (hh : h < 100) : Cn mX12_pointedBy false 7 0 0 [.ref 112, .int (nI n), .int (nI h)] (W0 d L) (qS [130, 131] d L (pb F h n)) := by
  have r1 := R.1
  refine Cn.intro gX12_pointedBy rfl (Nat.le_of_ble_eq_true rfl) rfl ?_
  repeat refine x_s rfl rfl ?_
  refine x_cv (k_showsIn d L H R (n := n) (h := h) (Or.inl hn) hh) rfl rfl rfl (by decide) rfl (by decide) rfl (Nat.le_of_ble_eq_true rfl) (by decide) (by decide) (by decide) ?_
  rintro _ _ ⟨rfl, d1, rfl, hs⟩
  have H1 := HL_sm H hs (by decide)
  have lp : ∀ k, k ≤ F.1 0 0 → ∀ a, a = bF (fun p => pt F n p (sh F n h)) k → Ex mX12_pointedBy false 7 0 0 13 [some (.ref 112), some (.int (nI n)), some (.int (nI h)), some (.int (sh F n h)), some (.int a), some (.int (nI k))] [] (W0 d1 L) (qS [130, 131] d L (pb F h n)) nX := by
    refine x_down _ ?_ ?_
    · intro a ha
      repeat refine x_s rfl rfl ?_
      refine x_br rfl rfl (fun c => ?_) (fun c => absurd c (fun z => z (lp_x H1.1)))
      repeat refine x_s rfl rfl ?_
      exact x_iret rfl rfl rfl ⟨by rw [ha]; rfl, d1, rfl, hs⟩
    · intro k hk ih a ha
      repeat refine x_s rfl rfl ?_
      refine x_br rfl rfl (fun c => absurd c (lp_c H1.1 hk (by omega))) (fun c => ?_)
      repeat refine x_s rfl rfl ?_
      refine x_cv (k_isPointed d1 L H1 R (n := n) (p := k) (Or.inl hn) (Or.inl hk) (sh F n h)) rfl rfl rfl (by decide) rfl (by decide) rfl (Nat.le_of_ble_eq_true rfl) (by decide) (by decide) (by decide) ?_
      rintro _ _ ⟨rfl, rfl⟩
      refine x_br rfl rfl (fun c => ?_) (fun c => ?_)
      · iterate 5 refine x_s rfl rfl ?_
        rw [nI_1, or_0]
        exact ih _ (by simp [bF, bI_0.mp c, ha])
      · iterate 8 refine x_s rfl rfl ?_
        rw [nI_1]
        exact ih _ (by simp [bF, bI_n0.mp c, ha])
  iterate 5 refine x_s rfl rfl ?_
  exact lp 0 (Nat.zero_le _) 0 rfl
set_option maxRecDepth 100000 in
set_option maxHeartbeats 1600000 in
theorem k_quivers (H : HL d F xp xn) (R : RM F xp xn) {n : Nat} (hn : n < F.1 4 0) : Cn mX12_quivers false 7 0 0 [.ref 112, .int (nI n)] (W0 d L) (qS [130, 131] d L (nI (cF (fun j => decide (sh F n (j + 1) ≠ sh F n j)) 99))) := by
  have lp : ∀ k, k ≤ 99 → ∀ a, a = nI (cF (fun j => decide (sh F n (j + 1) ≠ sh F n j)) k) → ∀ d1, sm [130, 131] d d1 → ∀ o, Ex mX12_quivers false 7 0 0 12 [some (.ref 112), some (.int (nI n)), some (.int a), some (.int (sh F n k)), some (.int (nI (k + 1))), o] [] (W0 d1 L) (qS [130, 131] d L (nI (cF (fun j => decide (sh F n (j + 1) ≠ sh F n j)) 99))) nX := by
    refine x_down _ ?_ ?_
    · intro a ha d1 hs o
      repeat refine x_s rfl rfl ?_
      refine x_br rfl rfl (fun c => ?_) (fun c => absurd c (fun z => z (by decide)))
      repeat refine x_s rfl rfl ?_
      exact x_iret rfl rfl rfl ⟨by rw [ha], d1, rfl, hs⟩
    · intro k hk ih a ha d1 hs o
      have H1 := HL_sm H hs (by decide)
      repeat refine x_s rfl rfl ?_
      refine x_br rfl rfl (fun c => absurd c (nI_ge (b := 100) (by omega) (by decide))) (fun c => ?_)
      repeat refine x_s rfl rfl ?_
      refine x_cv (k_showsIn d1 L H1 R (n := n) (h := k + 1) (Or.inl hn) (by omega)) rfl rfl rfl (by decide) rfl (by decide) rfl (Nat.le_of_ble_eq_true rfl) (by decide) (by decide) (by decide) ?_
      rintro _ _ ⟨rfl, d2, rfl, hs2⟩
      repeat refine x_s rfl rfl ?_
      refine x_br rfl rfl (fun c1 => ?_) (fun c1 => ?_)
      · have c2 : sh F n (k + 1) = sh F n k := c1
        iterate 7 refine x_s rfl rfl ?_
        rw [nI_1]
        exact ih _ (by rw [ha, cF, if_neg (by simp [c2])]; exact Int32.add_zero _) d2 (sm_go hs hs2) _
      · have c2 : ¬ sh F n (k + 1) = sh F n k := c1
        iterate 8 refine x_s rfl rfl ?_
        rw [nI_1 (k + 1)]
        exact ih _ (by rw [ha, cF, if_pos (by simp [c2]), nI_1]) d2 (sm_go hs hs2) _
  refine Cn.intro gX12_quivers rfl (Nat.le_of_ble_eq_true rfl) rfl ?_
  repeat refine x_s rfl rfl ?_
  refine x_cv (k_showsIn d L H R (n := n) (h := 0) (Or.inl hn) (by decide)) rfl rfl rfl (by decide) rfl (by decide) rfl (Nat.le_of_ble_eq_true rfl) (by decide) (by decide) (by decide) ?_
  rintro _ _ ⟨rfl, d1, rfl, hs⟩
  iterate 3 refine x_s rfl rfl ?_
  exact lp 0 (Nat.zero_le _) 0 rfl d1 hs _
theorem wo_eq {n p : Nat} {v : Int32} : (pt F n p v || (decide (v = 8) && !mv F n p)) = decide (sid F n p = v) := by
  have s8 := sd_8 (dx F n p) (dy F n p)
  by_cases h : v = sid F n p
  · rw [decide_eq_true h.symm]
    by_cases h8 : v = 8
    · have e8 : sd (dx F n p) (dy F n p) = 8 := by
        have := congrArg Int32.toInt (h8.symm.trans h)
        rw [sid, nI_tI (by omega), show (8 : Int32).toInt = 8 from rfl] at this
        omega
      have z := s8.2.mp e8
      have hm : mv F n p = false := by rw [mv, z.1, z.2]; rfl
      rw [hm, decide_eq_true h8]
      simp
    · rw [pt, decide_eq_true h8, decide_eq_true h]
      rfl
  · have hn' : ¬ sid F n p = v := fun z => h z.symm
    rw [decide_eq_false hn', pt, decide_eq_false h, Bool.and_false, Bool.false_or]
    by_cases h8 : v = 8
    · have hm : mv F n p = true := by
        cases hm : mv F n p
        · exfalso
          unfold mv at hm
          simp at hm
          exact h (by rw [h8, sid, s8.2.mpr hm]; rfl)
        · rfl
      rw [hm]
      simp
    · rw [decide_eq_false h8]
      rfl
set_option maxRecDepth 100000 in
set_option maxHeartbeats 1600000 in
theorem k_worthOf (H : HL d F xp xn) (R : RM F xp xn) {n : Nat} (hn : n < F.1 4 0) : Cn mX12_worthOf false 7 0 0 [.ref 112, .int (nI n)] (W0 d L) (qS [130, 131] d L (wo F n (F.1 9 0))) := by
  have r3 := R.2.2.1
  have lp : ∀ k, k ≤ F.1 9 0 → ∀ a, a = wo F n k → ∀ d1, sm [130, 131] d d1 → ∀ o, Ex mX12_worthOf false 7 0 0 4 [some (.ref 112), some (.int (nI n)), some (.int a), some (.int (nI k)), o] [] (W0 d1 L) (qS [130, 131] d L (wo F n (F.1 9 0))) nX := by
    refine x_down _ ?_ ?_
    · intro a ha d1 hs o
      have H1 := HL_sm H hs (by decide)
      repeat refine x_s rfl rfl ?_
      refine x_br rfl rfl (fun c => ?_) (fun c => absurd c (fun z => z (lp_x H1.2.2.1)))
      repeat refine x_s rfl rfl ?_
      exact x_iret rfl rfl rfl ⟨by rw [ha], d1, rfl, hs⟩
    · intro k hk ih a ha d1 hs o
      have H1 := HL_sm H hs (by decide)
      have r6 := R.2.2.2.2.2 k hk
      repeat refine x_s rfl rfl ?_
      refine x_br rfl rfl (fun c => absurd c (lp_c H1.2.2.1 hk (by omega))) (fun c => ?_)
      repeat refine x_s rfl rfl ?_
      refine x_cv (k_hears d1 L H1 R (n := n) (s := k) (Or.inl hn) hk) rfl rfl rfl (by decide) rfl (by decide) rfl (Nat.le_of_ble_eq_true rfl) (by decide) (by decide) (by decide) ?_
      rintro _ _ ⟨rfl, d2, rfl, hs2⟩
      have H2 := HL_sm H1 hs2 (by decide)
      refine x_br rfl rfl (fun c1 => ?_) (fun c1 => ?_)
      · have hc := bI_n0.mp c1
        repeat refine x_s rfl rfl ?_
        refine x_ald rfl rfl rfl (k := k) (rfl) (by omega) (by decide) rfl ?_
        rw [(H2.2.2.2.2.2.1 k hk).1]
        refine x_cv (k_showsIn d2 L H2 R (n := n) (h := F.1 10 k) (Or.inl hn) r6.1) rfl rfl rfl (by decide) rfl (by decide) rfl (Nat.le_of_ble_eq_true rfl) (by decide) (by decide) (by decide) ?_
        rintro _ _ ⟨rfl, d3, rfl, hs3⟩
        have H3 := HL_sm H2 hs3 (by decide)
        have h63 := H3.2.2.2.2.2.1 k hk
        have hs13 := sm_go hs (sm_go hs2 hs3)
        have we := wo_eq (F := F) (n := n) (p := F.1 11 k) (v := sh F n (F.1 10 k))
        have yes : sid F n (F.1 11 k) = sh F n (F.1 10 k) → Ex mX12_worthOf false 7 0 0 75 [some (.ref 112), some (.int (nI n)), some (.int a), some (.int (nI k)), some (.int (sh F n (F.1 10 k)))] [.int a] (W0 d3 L) (qS [130, 131] d L (wo F n (F.1 9 0))) nX := by
          intro h
          iterate 6 refine x_s rfl rfl ?_
          rw [nI_1]
          exact ih _ (by rw [wo, if_pos hc, if_pos h, ha]) d3 hs13 _
        have no : ¬ sid F n (F.1 11 k) = sh F n (F.1 10 k) → Ex mX12_worthOf false 7 0 0 79 [some (.ref 112), some (.int (nI n)), some (.int a), some (.int (nI k)), some (.int (sh F n (F.1 10 k)))] [.int a] (W0 d3 L) (qS [130, 131] d L (wo F n (F.1 9 0))) nX := by
          intro h
          iterate 5 refine x_s rfl rfl ?_
          rw [nI_1]
          exact ih _ (by rw [wo, if_pos hc, if_neg h, ha]) d3 hs13 _
        repeat refine x_s rfl rfl ?_
        refine x_ald rfl rfl rfl (k := k) (rfl) (by omega) (by decide) rfl ?_
        rw [h63.2.1]
        repeat refine x_s rfl rfl ?_
        refine x_cv (k_isPointed d3 L H3 R (n := n) (p := F.1 11 k) (Or.inl hn) r6.2.1 (sh F n (F.1 10 k))) rfl rfl rfl (by decide) rfl (by decide) rfl (Nat.le_of_ble_eq_true rfl) (by decide) (by decide) (by decide) ?_
        rintro _ _ ⟨rfl, rfl⟩
        refine x_br rfl rfl (fun c2 => ?_) (fun c2 => ?_)
        · refine yes (of_decide_eq_true (we.symm.trans ?_))
          rw [bI_n0.mp c2]
          rfl
        · have hp := bI_0.mp c2
          rw [hp, Bool.false_or] at we
          repeat refine x_s rfl rfl ?_
          refine x_br rfl rfl (fun c3 => ?_) (fun c3 => ?_)
          · refine no (of_decide_eq_false (we.symm.trans ?_))
            rw [decide_eq_false c3]
            rfl
          · repeat refine x_s rfl rfl ?_
            refine x_ald rfl rfl rfl (k := k) (rfl) (by omega) (by decide) rfl ?_
            rw [h63.2.1]
            refine x_cv (k_isAt d3 L H3 R (n := n) (p := F.1 11 k) (Or.inl hn) r6.2.1) rfl rfl rfl (by decide) rfl (by decide) rfl (Nat.le_of_ble_eq_true rfl) (by decide) (by decide) (by decide) ?_
            rintro _ _ ⟨rfl, rfl⟩
            have c3' : sh F n (F.1 10 k) = 8 := c3
            rw [decide_eq_true c3', Bool.true_and] at we
            refine x_br rfl rfl (fun c4 => ?_) (fun c4 => ?_)
            · exact no (of_decide_eq_false (we.symm.trans (bI_0.mp c4)))
            · exact yes (of_decide_eq_true (we.symm.trans (bI_n0.mp c4)))
      · have hc := bI_0.mp c1
        iterate 3 refine x_s rfl rfl ?_
        rw [nI_1]
        exact ih _ (by rw [wo, if_neg (by rw [hc]; decide), ha]) d2 (sm_go hs hs2) _
  refine Cn.intro gX12_worthOf rfl (Nat.le_of_ble_eq_true rfl) rfl ?_
  iterate 4 refine x_s rfl rfl ?_
  exact lp 0 (Nat.zero_le _) 0 rfl d sm_rfl _
end
