/-! THE CALLS (model): pardon, apart, ears, plan -/
theorem and_bF {f : Nat → Bool} {x : Int32} {n : Nat} (hn : n ≤ 32) : bF f n &&& x = 0 ↔ aF (fun i => bt x i && f i) n = false := by
  constructor
  · intro h
    rw [aF_no]
    intro i hi
    have := congrArg (fun z => bt z i) h
    simp only [b_and, b_0, bF_bt f n i hn, decide_eq_true hi] at this
    show (bt x i && f i) = false
    cases hx : bt x i <;> cases hf : f i <;> simp_all
  · intro h
    rw [aF_no] at h
    apply b_ext
    intro i hi
    rw [b_and, bF_bt f n i hn, b_0]
    by_cases hin : i < n
    · have := h i hin
      cases hx : bt x i <;> cases hf : f i <;> simp_all
    · simp [hin]
theorem pow_64 {m : Nat} (h : m ≤ 6) : 2 ^ m ≤ 64 := Nat.le_trans (Nat.pow_le_pow_right (by decide) h) (by decide)
theorem pow_1k {m : Nat} (h : m ≤ 10) : 2 ^ m ≤ 1024 := Nat.le_trans (Nat.pow_le_pow_right (by decide) h) (by decide)
theorem mB_y {T : Int32 → Bool} {k : Nat} {b : Int32} (hb : b = mB T k) (h : b = -1 ∨ pcI (nI k) < pcI b) (hT : T (nI k) = true) : nI k = mB T (k + 1) := by
  unfold mB
  rw [← hb, if_pos]
  rw [hT, Bool.and_true, Bool.or_eq_true]
  exact h.elim (fun z => Or.inl (decide_eq_true z)) (fun z => Or.inr (decide_eq_true z))
theorem mB_n1 {T : Int32 → Bool} {k : Nat} {b : Int32} (hb : b = mB T k) (hT : T (nI k) = false) : b = mB T (k + 1) := by
  unfold mB
  rw [← hb, if_neg]
  rw [hT, Bool.and_false]
  decide
theorem mB_n2 {T : Int32 → Bool} {k : Nat} {b : Int32} (hb : b = mB T k) (h1 : ¬ b = -1) (h2 : ¬ pcI (nI k) < pcI b) : b = mB T (k + 1) := by
  unfold mB
  rw [← hb, if_neg]
  rw [decide_eq_false h1, decide_eq_false h2]
  exact Bool.false_ne_true
theorem mP_y {T : Int32 → Bool} {k : Nat} {b : Int32} (hb : b = mP T k) (h3 : ¬ 3 < pcI (nI k)) (h : b = -1 ∨ pcI (nI k) < pcI b) (hT : T (nI k) = true) : nI k = mP T (k + 1) := by
  unfold mP
  rw [← hb, if_pos]
  rw [hT, Bool.and_true, decide_eq_false h3]
  show (true && _) = true
  rw [Bool.true_and, Bool.or_eq_true]
  exact h.elim (fun z => Or.inl (decide_eq_true z)) (fun z => Or.inr (decide_eq_true z))
theorem mP_n1 {T : Int32 → Bool} {k : Nat} {b : Int32} (hb : b = mP T k) (hT : T (nI k) = false) : b = mP T (k + 1) := by
  unfold mP
  rw [← hb, if_neg]
  rw [hT, Bool.and_false, Bool.and_false]
  decide
theorem mP_n2 {T : Int32 → Bool} {k : Nat} {b : Int32} (hb : b = mP T k) (h1 : ¬ b = -1) (h2 : ¬ pcI (nI k) < pcI b) : b = mP T (k + 1) := by
  unfold mP
  rw [← hb, if_neg]
  rw [decide_eq_false h1, decide_eq_false h2]
  show ¬ ((_ && (false && _)) = true)
  rw [Bool.false_and, Bool.and_false]
  decide
theorem mP_n3 {T : Int32 → Bool} {k : Nat} {b : Int32} (hb : b = mP T k) (h3 : 3 < pcI (nI k)) : b = mP T (k + 1) := by
  unfold mP
  rw [← hb, if_neg]
  rw [decide_eq_true h3]
  exact Bool.false_ne_true
/-- two rows more stand as they stood -/
def mQ (d d' : Nat → Nat → Int32) : Prop := mS d d' ∧ d' 139 = d 139 ∧ d' 140 = d 140
theorem mQ_rfl {d : Nat → Nat → Int32} : mQ d d := ⟨mS_rfl, rfl, rfl⟩
theorem mQ_f {d d' : Nat → Nat → Int32} {k : Nat} {x : Int32} (h : mQ d d') (hk : k = 0 ∨ k = 46 ∨ k = 58) : mQ d (up2 d' 112 k x) := ⟨mS_f h.1 hk, (up2_ne (by decide)).trans h.2.1, (up2_ne (by decide)).trans h.2.2⟩
theorem mQ_c {d d' : Nat → Nat → Int32} {c k : Nat} {x : Int32} (h : mQ d d') (hc : c ∈ [132, 133, 134, 135, 136, 137]) : mQ d (up2 d' c k x) := by
  refine ⟨mS_c h.1 (by revert hc; intro hc; simp only [List.mem_cons, List.not_mem_nil, or_false] at hc ⊢; omega), (up2_ne ?_).trans h.2.1, (up2_ne ?_).trans h.2.2⟩
  · rintro rfl
    exact absurd hc (by decide)
  · rintro rfl
    exact absurd hc (by decide)
section
variable (d : Nat → Nat → Int32) (L : Nat → Nat → Int64) {F : Fr} {Z : Sn}
set_option maxRecDepth 100000 in
set_option maxHeartbeats 1600000 in
theorem k_lays0q (H : HB d F) (R : RG F) (b : Bool) : Cn mX12_lays0 false 2 0 0 [.ref 112, .int (bI b)] (W0 d L) (fun r h => r = none ∧ ∃ d', h = W0 d' L ∧ mQ d d' ∧ d' 112 0 = d 112 0 ∧ HL d' (fst0 F (if b then F.1 9 0 else 0)) false false) := by
  have r2 := R.2.1
  have r3 := R.2.2.1
  have nd : ∀ m, m = (if b then F.1 9 0 else 0) → ∀ k, k ≤ 6 → ∀ d1, mQ d d1 → d1 112 0 = d 112 0 → d1 112 46 = nI m → (∀ s, s < m → d1 132 s = nI (F.1 10 s) ∧ d1 133 s = nI (F.1 11 s) ∧ d1 134 s = nI (F.1 12 s)) → (∀ n, n < k → d1 135 n = d 128 (49 + n) ∧ d1 136 n = d 128 (55 + n) ∧ d1 137 n = d 128 (61 + n)) → Ex mX12_lays0 false 2 0 0 59 [some (.ref 112), some (.int (bI b)), some (.int (nI k))] [] (W0 d1 L) (fun r h => r = none ∧ ∃ d', h = W0 d' L ∧ mQ d d' ∧ d' 112 0 = d 112 0 ∧ HL d' (fst0 F (if b then F.1 9 0 else 0)) false false) nX := by
    intro m hm
    refine x_down _ ?_ ?_
    · intro d1 hs h0 h46 hl hn
      repeat refine x_s rfl rfl ?_
      refine x_br rfl rfl (fun c => ?_) (fun c => absurd c (fun z => z (by decide)))
      refine x_vret rfl rfl ⟨rfl, d1, rfl, hs, h0, ?_⟩
      rw [← hm]
      obtain ⟨a1, a2, a3, a4, a5, a6, a7, a8⟩ := HB_mS R H hs.1
      have q5 := H.2.2.2.2.1
      refine ⟨a1, a2, h46, fun p hp => ?_, fun n hn0 => ?_, hl, a6, a7⟩
      · rcases hp with hp | hp
        · exact a3 p hp
        · exact absurd hp.1 (by decide)
      · rcases hn0 with hn0 | hn0
        · have hn' : n < F.1 4 0 := hn0
          obtain ⟨b1, b2, b3⟩ := hn n (by omega)
          have q := q5.2.2 n hn'
          simp only [Nat.zero_add] at q
          exact ⟨b1.trans q.1, b2.trans q.2.1, a4 n hn', b3.trans q.2.2⟩
        · exact absurd hn0.1 (by decide)
    · intro k hk ih d1 hs h0 h46 hl hn
      have e128 : d1 128 = d 128 := hs.1.1 128 (by decide)
      repeat refine x_s rfl rfl ?_
      refine x_br rfl rfl (fun c => absurd c (nI_ge (b := 6) hk (by decide))) (fun c => ?_)
      repeat refine x_s rfl rfl ?_
      rw [show (49 : Int32) + nI k = nI (49 + k) from nI_add 49 k]
      refine x_ald rfl rfl rfl (k := 49 + k) (rfl) (by omega) (by decide) rfl ?_
      refine x_iast rfl rfl (k := k) (rfl) (by omega) (by decide) rfl ?_
      repeat refine x_s rfl rfl ?_
      rw [show (55 : Int32) + nI k = nI (55 + k) from nI_add 55 k]
      refine x_ald rfl rfl rfl (k := 55 + k) (rfl) (by omega) (by decide) rfl ?_
      refine x_iast rfl rfl (k := k) (rfl) (by omega) (by decide) rfl ?_
      repeat refine x_s rfl rfl ?_
      rw [show (61 : Int32) + nI k = nI (61 + k) from nI_add 61 k]
      refine x_ald rfl rfl rfl (k := 61 + k) (rfl) (by omega) (by decide) rfl ?_
      refine x_iast rfl rfl (k := k) (rfl) (by omega) (by decide) rfl ?_
      iterate 2 refine x_s rfl rfl ?_
      rw [nI_1]
      refine ih _ (mQ_c (mQ_c (mQ_c hs (by decide)) (by decide)) (by decide)) h0 h46 hl ?_
      intro n hn2
      by_cases e : n = k
      · subst e
        refine ⟨?_, ?_, ?_⟩
        · exact (show (if n = n then d1 128 (49 + n) else d1 135 n) = _ by rw [if_pos rfl, e128])
        · exact (show (if n = n then d1 128 (55 + n) else d1 136 n) = _ by rw [if_pos rfl, e128])
        · exact (show (if n = n then d1 128 (61 + n) else d1 137 n) = _ by rw [if_pos rfl, e128])
      · have q := hn n (by omega)
        exact ⟨(show (if n = k then d1 128 (49 + k) else d1 135 n) = _ by rw [if_neg e]; exact q.1), (show (if n = k then d1 128 (55 + k) else d1 136 n) = _ by rw [if_neg e]; exact q.2.1), (show (if n = k then d1 128 (61 + k) else d1 137 n) = _ by rw [if_neg e]; exact q.2.2)⟩
  have row := H.2.2.2.2.1
  have r128 : d 128 0 = nI (F.1 9 0) := row.1
  have sy : ∀ k, k ≤ F.1 9 0 → ∀ d1, (b = false → k = 0) → mQ d d1 → d1 112 0 = d 112 0 → d1 112 46 = nI k → (∀ s, s < k → d1 132 s = nI (F.1 10 s) ∧ d1 133 s = nI (F.1 11 s) ∧ d1 134 s = nI (F.1 12 s)) → Ex mX12_lays0 false 2 0 0 7 [some (.ref 112), some (.int (bI b)), some (.int (nI k))] [] (W0 d1 L) (fun r h => r = none ∧ ∃ d', h = W0 d' L ∧ mQ d d' ∧ d' 112 0 = d 112 0 ∧ HL d' (fst0 F (if b then F.1 9 0 else 0)) false false) nX := by
    refine x_down _ ?_ ?_
    · intro d1 hb hs h0 h46 hl
      have e128 : d1 128 = d 128 := hs.1.1 128 (by decide)
      repeat refine x_s rfl rfl ?_
      refine x_ald rfl rfl rfl (k := 0) (rfl) (by omega) (by decide) rfl ?_
      refine x_br rfl rfl (fun c => ?_) (fun c => absurd c (fun z => z (by rw [e128, r128]; exact Int32.le_refl _)))
      iterate 2 refine x_s rfl rfl ?_
      refine nd (F.1 9 0) ?_ 0 (by decide) d1 hs h0 h46 hl (fun n hn => by omega)
      cases b
      · exact hb rfl
      · rfl
    · intro k hk ih d1 hb hs h0 h46 hl
      have e128 : d1 128 = d 128 := hs.1.1 128 (by decide)
      have q := row.2.1 k hk
      simp only [Nat.zero_add] at q
      repeat refine x_s rfl rfl ?_
      refine x_ald rfl rfl rfl (k := 0) (rfl) (by omega) (by decide) rfl ?_
      refine x_br rfl rfl (fun c => absurd c (by rw [e128, r128]; exact nI_ge hk (by omega))) (fun c => ?_)
      repeat refine x_s rfl rfl ?_
      cases b
      · have hb0 := hb rfl
        subst hb0
        refine x_br rfl rfl (fun c => ?_) (fun c => absurd c (fun z => z rfl))
        iterate 2 refine x_s rfl rfl ?_
        exact nd 0 rfl 0 (by decide) d1 hs h0 h46 (fun s hs => by omega) (fun n hn => by omega)
      · refine x_br rfl rfl (fun c => absurd c (by decide)) (fun c => ?_)
        repeat refine x_s rfl rfl ?_
        rw [show (1 : Int32) + nI k = nI (1 + k) from nI_add 1 k]
        refine x_ald rfl rfl rfl (k := 1 + k) (rfl) (by omega) (by decide) rfl ?_
        repeat refine x_s rfl rfl ?_
        rw [show (17 : Int32) + nI k = nI (17 + k) from nI_add 17 k]
        refine x_ald rfl rfl rfl (k := 17 + k) (rfl) (by omega) (by decide) rfl ?_
        repeat refine x_s rfl rfl ?_
        rw [show (33 : Int32) + nI k = nI (33 + k) from nI_add 33 k]
        refine x_ald rfl rfl rfl (k := 33 + k) (rfl) (by omega) (by decide) rfl ?_
        rw [e128, q.1, q.2.1, q.2.2]
        refine x_cv (k_adds d1 L h46 (by omega) _ _ _) rfl rfl rfl (by decide) rfl (by decide) rfl (Nat.le_of_ble_eq_true rfl) (by decide) (by decide) (by decide) ?_
        rintro _ _ ⟨rfl, rfl⟩
        iterate 2 refine x_s rfl rfl ?_
        rw [nI_1]
        refine ih _ (fun z => by cases z) (mQ_f (mQ_c (mQ_c (mQ_c hs (by decide)) (by decide)) (by decide)) (by simp)) h0 rfl ?_
        intro s hs2
        by_cases e : s = k
        · subst e
          exact ⟨if_pos rfl, if_pos rfl, if_pos rfl⟩
        · have q2 := hl s (by omega)
          exact ⟨(if_neg e).trans q2.1, (if_neg e).trans q2.2.1, (if_neg e).trans q2.2.2⟩
  refine Cn.intro gX12_lays0 rfl (Nat.le_of_ble_eq_true rfl) rfl ?_
  repeat refine x_s rfl rfl ?_
  refine x_put rfl rfl (by decide) rfl ⟨rfl, rfl⟩ (Or.inl rfl) ?_
  iterate 2 refine x_s rfl rfl ?_
  exact sy 0 (Nat.zero_le _) _ (fun _ => rfl) (mQ_f mQ_rfl (by simp)) rfl rfl (fun s hs => by omega)
set_option maxRecDepth 100000 in
set_option maxHeartbeats 1600000 in
theorem k_laysLieq (H : HB d F) (R : RG F) {p dg ho : Nat} : Cn mX12_laysLie false 4 0 0 [.ref 112, .int (nI p), .int (nI dg), .int (nI ho)] (W0 d L) (fun r h => r = none ∧ ∃ d', h = W0 d' L ∧ mQ d d' ∧ d' 112 0 = d 112 0 ∧ HL d' (oneL F p dg ho) false false) := by
  refine Cn.intro gX12_laysLie rfl (Nat.le_of_ble_eq_true rfl) rfl ?_
  repeat refine x_s rfl rfl ?_
  refine x_cv (k_lays0q d L H R false) rfl rfl rfl (by decide) rfl (by decide) rfl (Nat.le_of_ble_eq_true rfl) (by decide) (by decide) (by decide) ?_
  rintro _ _ ⟨rfl, d1, rfl, m1, t1, H1⟩
  rw [if_neg (by decide)] at H1
  repeat refine x_s rfl rfl ?_
  refine x_cv (k_adds d1 L (n := 0) H1.2.2.1 (by decide) _ _ _) rfl rfl rfl (by decide) rfl (by decide) rfl (Nat.le_of_ble_eq_true rfl) (by decide) (by decide) (by decide) ?_
  rintro _ _ ⟨rfl, rfl⟩
  exact x_vret rfl rfl ⟨rfl, _, rfl, mQ_f (mQ_c (mQ_c (mQ_c m1 (by decide)) (by decide)) (by decide)) (by simp), t1, HL_tl H1 ho p dg⟩
set_option maxRecDepth 100000 in
set_option maxHeartbeats 1600000 in
theorem k_bits (x : Int32) : Cn mX12_bits false 1 0 0 [.int x] (W0 d L) (qP d L (pcI x)) := by
  have lp : ∀ k, k ≤ 16 → ∀ a, a = nI (cF (bt x) k) → Ex mX12_bits false 1 0 0 4 [some (.int x), some (.int a), some (.int (nI k))] [] (W0 d L) (qP d L (pcI x)) nX := by
    refine x_down _ ?_ ?_
    · intro a ha
      repeat refine x_s rfl rfl ?_
      refine x_br rfl rfl (fun c => ?_) (fun c => absurd c (fun z => z (by decide)))
      repeat refine x_s rfl rfl ?_
      exact x_iret rfl rfl rfl ⟨by rw [ha]; rfl, rfl⟩
    · intro k hk ih a ha
      repeat refine x_s rfl rfl ?_
      refine x_br rfl rfl (fun c => absurd c (nI_ge (b := 16) hk (by decide))) (fun c => ?_)
      iterate 10 refine x_s rfl rfl ?_
      rw [nI_1 k]
      refine ih _ ?_
      cases hb : bt x k
      · rw [(bt_test (by omega)).mpr hb, cF, if_neg (by rw [hb]; decide), ha]
        exact Int32.add_zero _
      · rw [(bt_test1 (by omega)).mpr hb, cF, if_pos hb, ha, nI_1]
  refine Cn.intro gX12_bits rfl (Nat.le_of_ble_eq_true rfl) rfl ?_
  iterate 4 refine x_s rfl rfl ?_
  exact lp 0 (Nat.zero_le _) 0 rfl
set_option maxRecDepth 100000 in
set_option maxHeartbeats 1600000 in
theorem q_pardon (H : HB d F) (R : RG F) (x y : Int32) : Cn mX12_pardon false 14 0 0 [.ref 112, .int x, .int y] (W0 d L) (qM d L (inB x (F.1 0 0) && inB y 100) (fI (prd F (iN y) (iN x)) (F.1 4 0) 0 (2 ^ F.1 4 0)) (1)) := by
  have r1 := R.1
  have r2 := R.2.1
  have r3 := R.2.2.1
  refine Cn.intro gX12_pardon rfl (Nat.le_of_ble_eq_true rfl) rfl ?_
  repeat refine x_s rfl rfl ?_
  refine x_put rfl rfl (by decide) rfl ⟨rfl, rfl⟩ (Or.inl rfl) ?_
  have m0 : mS d (up2 d 112 0 0) := mS_0 0
  have z0 : up2 d 112 0 0 112 0 = 0 := up2_eq
  have H0 := HB_mS R H m0
  generalize hd0 : up2 d 112 0 0 = d0 at m0 z0 H0 ⊢
  repeat refine x_s rfl rfl ?_
  refine x_cv (k_isPerson d0 L z0 H0.1 (by omega) x) rfl rfl rfl (by decide) rfl (by decide) rfl (Nat.le_of_ble_eq_true rfl) (by decide) (by decide) (by decide) ?_
  rintro _ _ ⟨rfl, rfl⟩
  cases hb : inB x (F.1 0 0)
  · rw [if_neg (by decide)]
    refine x_br rfl rfl (fun c => ?_) (fun c => absurd c (fun z => z rfl))
    repeat refine x_s rfl rfl ?_
    exact x_iret rfl rfl rfl ⟨rfl, _, rfl, mS_f m0 (Or.inl rfl), rfl⟩
  rw [if_pos rfl]
  refine x_br rfl rfl (fun c => absurd c (by decide)) (fun c => ?_)
  repeat refine x_s rfl rfl ?_
  refine x_cv (k_isHour d0 L z0 y) rfl rfl rfl (by decide) rfl (by decide) rfl (Nat.le_of_ble_eq_true rfl) (by decide) (by decide) (by decide) ?_
  rintro _ _ ⟨rfl, rfl⟩
  cases hb2 : inB y 100
  · rw [if_neg (by decide)]
    refine x_br rfl rfl (fun c => absurd c (fun z => z rfl)) (fun c => ?_)
    repeat refine x_s rfl rfl ?_
    exact x_iret rfl rfl rfl ⟨rfl, _, rfl, mS_f m0 (Or.inl rfl), rfl⟩
  rw [if_pos rfl]
  refine x_br rfl rfl (fun c => ?_) (fun c => absurd c (fun z => absurd z (by decide)))
  obtain ⟨q1, q2, q3⟩ := inB_iN hb
  generalize iN x = p at q1 q2 q3 ⊢
  subst q2
  obtain ⟨s1, s2, s3⟩ := inB_iN hb2
  generalize iN y = t at s1 s2 s3 ⊢
  subst s2
  repeat refine x_s rfl rfl ?_
  refine x_cv (k_lays0 d0 L H0 R true) rfl rfl rfl (by decide) rfl (by decide) rfl (Nat.le_of_ble_eq_true rfl) (by decide) (by decide) (by decide) ?_
  rintro _ _ ⟨rfl, d1, rfl, m1, t1, H1⟩
  rw [if_pos rfl, fst0_self] at H1
  have M1 := mS_tr m0 m1
  have T1 : d1 112 0 = 0 := t1.trans z0
  have RM1 := RM_of R
  rw [fI_mB _ (by omega)]
  generalize hT : prd F t p = T
  have p64 := pow_64 r2
  repeat refine x_s rfl rfl ?_
  refine x_cv (k_laysShown d1 L H1 RM1 s1) rfl rfl rfl (by decide) rfl (by decide) rfl (Nat.le_of_ble_eq_true rfl) (by decide) (by decide) (by decide) ?_
  rintro _ _ ⟨rfl, d2, rfl, hs2, hv2⟩
  have lp : ∀ k, k ≤ 2 ^ F.1 4 0 → ∀ b, b = mB T k → ∀ d3, sm [130, 131] d2 d3 → Ex mX12_pardon false 14 0 0 38 [some (.ref 112), some (.int (nI p)), some (.int (nI t)), some (.int b), some (.int (nI k))] [] (W0 d3 L) (qM d L true (mB T (2 ^ F.1 4 0)) 1) nX := by
    have H2 := HL_sm H1 hs2 (by decide)
    have M2 := mS_go M1 hs2 (by decide) (by decide) (by decide) (by decide) (by decide)
    have T2 : d2 112 0 = 0 := by rw [hs2 112 (by decide)]; exact T1
    refine x_down _ ?_ ?_
    · intro b hb d3 hs3
      have H3 := HL_sm H2 hs3 (by decide)
      have hN : (1 : Int32) <<< (d3 112 2 &&& 31) = nI (2 ^ F.1 4 0) := by rw [H3.2.1]; exact p2_I _ (by omega)
      repeat refine x_s rfl rfl ?_
      refine x_br rfl rfl (fun c => ?_) (fun c => absurd c (fun z => z (lp_x hN)))
      repeat refine x_s rfl rfl ?_
      exact x_iret rfl rfl rfl ⟨by rw [hb]; rfl, d3, rfl, mS_go M2 hs3 (by decide) (by decide) (by decide) (by decide) (by decide), by rw [hs3 112 (by decide)]; exact T2⟩
    · intro k hk ih b hb d3 hs3
      have H3 := HL_sm H2 hs3 (by decide)
      have hN : (1 : Int32) <<< (d3 112 2 &&& 31) = nI (2 ^ F.1 4 0) := by rw [H3.2.1]; exact p2_I _ (by omega)
      have skip : ∀ b', b' = mB T (k + 1) → ∀ d4, sm [130, 131] d2 d4 → Ex mX12_pardon false 14 0 0 85 [some (.ref 112), some (.int (nI p)), some (.int (nI t)), some (.int b'), some (.int (nI k))] [] (W0 d4 L) (qM d L true (mB T (2 ^ F.1 4 0)) 1) nX := by
        intro b' hb' d4 hs4
        iterate 2 refine x_s rfl rfl ?_
        rw [nI_1]
        exact ih _ hb' d4 hs4
      have test : (b = -1 ∨ pcI (nI k) < pcI b) → Ex mX12_pardon false 14 0 0 66 [some (.ref 112), some (.int (nI p)), some (.int (nI t)), some (.int b), some (.int (nI k))] [] (W0 d3 L) (qM d L true (mB T (2 ^ F.1 4 0)) 1) nX := by
        intro hor
        repeat refine x_s rfl rfl ?_
        refine x_cv (k_accusedBy d3 L H3 RM1 (v := fun n => sh F n t) (fun n hn => by rw [hs3 138 (by decide)]; exact hv2 n hn) s1 (63 &&& (nI k ^^^ (-1)))) rfl rfl rfl (by decide) rfl (by decide) rfl (Nat.le_of_ble_eq_true rfl) (by decide) (by decide) (by decide) ?_
        rintro _ _ ⟨rfl, d4, rfl, hs4⟩
        rw [acc_cong (v' := fun n => sh F n t) (sa' := sai F t) (ms' := bt (nI k ^^^ (-1))) (fun _ _ => rfl) (fun _ _ => rfl) (fun n hn => by rw [b_and, b_63 n (by omega), Bool.true_and])]
        repeat refine x_s rfl rfl ?_
        refine x_br rfl rfl (fun c1 => ?_) (fun c1 => ?_)
        · exact skip b (mB_n1 hb (by rw [← hT, prd, decide_eq_false (fun z => z c1)])) d4 (sm_go hs3 hs4)
        · have c2 : T (nI k) = true := by rw [← hT, prd]; exact decide_eq_true c1
          iterate 2 refine x_s rfl rfl ?_
          exact skip (nI k) (mB_y hb hor c2) d4 (sm_go hs3 hs4)
      repeat refine x_s rfl rfl ?_
      refine x_br rfl rfl (fun c => absurd c (lp_c hN hk (by omega))) (fun c => ?_)
      repeat refine x_s rfl rfl ?_
      refine x_br rfl rfl (fun c1 => ?_) (fun c1 => ?_)
      · exact test (Or.inl c1)
      · repeat refine x_s rfl rfl ?_
        refine x_cs (k_bits d3 L (nI k)) rfl rfl rfl (by decide) (Nat.le_of_ble_eq_true rfl) (by decide) (by decide) (by decide) ?_
        rintro _ _ ⟨rfl, rfl⟩
        repeat refine x_s rfl rfl ?_
        refine x_cs (k_bits d3 L b) rfl rfl rfl (by decide) (Nat.le_of_ble_eq_true rfl) (by decide) (by decide) (by decide) ?_
        rintro _ _ ⟨rfl, rfl⟩
        refine x_br rfl rfl (fun c2 => ?_) (fun c2 => ?_)
        · exact skip b (mB_n2 hb c1 (Int32.not_lt.mpr c2)) d3 hs3
        · exact test (Or.inr (Int32.not_le.mp c2))
  iterate 4 refine x_s rfl rfl ?_
  exact lp 0 (Nat.zero_le _) (-1) rfl d2 sm_rfl
theorem tA_eq (R : RG F) (dg ho : Nat) (x : Int32) : tA F dg ho x = !(aF (fun p => aF (fun q => !(aF (fun n => bt x n && decide (shA F dg ho n q ≠ shA F dg ho n p)) (F.1 4 0))) p) (F.1 0 0)) := by
  have r2 := R.2.1
  unfold tA
  congr 2
  funext p
  congr 1
  funext q
  have e : aF (fun n => bt x n && decide (shA F dg ho n q ≠ shA F dg ho n p)) (F.1 4 0) = aF (fun n => bt x n && decide (shA F dg ho n p ≠ shA F dg ho n q)) (F.1 4 0) := by
    congr 1
    funext n
    congr 2
    exact propext ⟨Ne.symm, Ne.symm⟩
  rw [e]
  have h := and_bF (f := fun n => decide (shA F dg ho n p ≠ shA F dg ho n q)) (x := x) (n := F.1 4 0) (by omega)
  show decide (bF (fun n => decide (shA F dg ho n p ≠ shA F dg ho n q)) (F.1 4 0) &&& x = 0) = _
  cases ha : aF (fun n => bt x n && decide (shA F dg ho n p ≠ shA F dg ho n q)) (F.1 4 0)
  · exact decide_eq_true (h.mpr ha)
  · exact decide_eq_false (fun z => by rw [h.mp z] at ha; cases ha)
theorem mul10 {k : Nat} : (10 : Int32) * nI k = nI (10 * k) := by
  unfold nI
  rw [show (10 : Int32) = Int32.ofNat 10 from rfl, Int32.ofNat_mul]
set_option maxRecDepth 100000 in
set_option maxHeartbeats 1600000 in
theorem k_areApart (R : RG F) (e1 : d 112 1 = nI (F.1 0 0)) (e2 : d 112 2 = nI (F.1 4 0)) {dg ho : Nat} (hv : ∀ n p, n < F.1 4 0 → p < F.1 0 0 → d 140 (10 * n + p) = shA F dg ho n p) (x : Int32) : Cn mX12_areApart false 1 0 0 [.ref 112, .int x] (W0 d L) (qP d L (bI (tA F dg ho x))) := by
  have r1 := R.1
  have r2 := R.2.1
  rw [tA_eq R]
  generalize hu : (fun q p => aF (fun n => bt x n && decide (shA F dg ho n q ≠ shA F dg ho n p)) (F.1 4 0)) = u
  have hu' : ∀ q p, aF (fun n => bt x n && decide (shA F dg ho n q ≠ shA F dg ho n p)) (F.1 4 0) = u q p := fun q p => by rw [← hu]
  have eV : (!(aF (fun p => aF (fun q => !(aF (fun n => bt x n && decide (shA F dg ho n q ≠ shA F dg ho n p)) (F.1 4 0))) p) (F.1 0 0))) = !(aF (fun p => aF (fun q => !(u q p)) p) (F.1 0 0)) := by simp only [hu']
  rw [eV]
  have lpA : ∀ a, a ≤ F.1 0 0 → (∀ q p, q < a → q < p → p < F.1 0 0 → u q p = true) → ∀ o1 o2 o3, Ex mX12_areApart false 1 0 0 2 [some (.ref 112), some (.int x), some (.int (nI a)), o1, o2, o3] [] (W0 d L) (qP d L (bI (!(aF (fun p => aF (fun q => !(u q p)) p) (F.1 0 0))))) nX := by
    refine x_down _ ?_ ?_
    · intro hall o1 o2 o3
      repeat refine x_s rfl rfl ?_
      refine x_br rfl rfl (fun c => ?_) (fun c => absurd c (fun z => z (lp_x e1)))
      repeat refine x_s rfl rfl ?_
      refine x_iret rfl rfl rfl ⟨?_, rfl⟩
      have : aF (fun p => aF (fun q => !(u q p)) p) (F.1 0 0) = false := by
        rw [aF_no]
        intro p hp
        rw [aF_no]
        intro q hq
        rw [hall q p (by omega) hq hp]
        rfl
      rw [this]
      rfl
    · intro a ha ih hall o1 o2 o3
      have lpB : ∀ b, b ≤ F.1 0 0 → a < b → (∀ p, a < p → p < b → u a p = true) → ∀ o2 o3, Ex mX12_areApart false 1 0 0 14 [some (.ref 112), some (.int x), some (.int (nI a)), some (.int (nI b)), o2, o3] [] (W0 d L) (qP d L (bI (!(aF (fun p => aF (fun q => !(u q p)) p) (F.1 0 0))))) nX := by
        refine x_down _ ?_ ?_
        · intro hab hrow o2 o3
          repeat refine x_s rfl rfl ?_
          refine x_br rfl rfl (fun c => ?_) (fun c => absurd c (fun z => z (lp_x e1)))
          iterate 2 refine x_s rfl rfl ?_
          rw [nI_1]
          refine ih ?_ _ _ _
          intro q p h1 h2 h3
          by_cases e : q = a
          · subst e
            exact hrow p h2 h3
          · exact hall q p (by omega) h2 h3
        · intro b hb ih2 hab hrow o2 o3
          have lpN : ∀ n, n ≤ F.1 4 0 → ∀ t, t = bI (aF (fun n => bt x n && decide (shA F dg ho n a ≠ shA F dg ho n b)) n) → Ex mX12_areApart false 1 0 0 28 [some (.ref 112), some (.int x), some (.int (nI a)), some (.int (nI b)), some (.int t), some (.int (nI n))] [] (W0 d L) (qP d L (bI (!(aF (fun p => aF (fun q => !(u q p)) p) (F.1 0 0))))) nX := by
            refine x_down _ ?_ ?_
            · intro t ht
              rw [hu'] at ht
              repeat refine x_s rfl rfl ?_
              refine x_br rfl rfl (fun c => ?_) (fun c => absurd c (fun z => z (lp_x e2)))
              repeat refine x_s rfl rfl ?_
              refine x_br rfl rfl (fun c1 => ?_) (fun c1 => ?_)
              · have c2 : u a b = true := by rw [ht] at c1; exact bI_n0.mp c1
                iterate 2 refine x_s rfl rfl ?_
                rw [nI_1]
                refine ih2 (by omega) ?_ _ _
                intro p h1 h2
                by_cases e : p = b
                · subst e
                  exact c2
                · exact hrow p h1 (by omega)
              · have c2 : u a b = false := by
                  rw [ht] at c1
                  cases hh : u a b
                  · rfl
                  · rw [hh] at c1
                    exact absurd c1 (by decide)
                repeat refine x_s rfl rfl ?_
                refine x_iret rfl rfl rfl ⟨?_, rfl⟩
                have : aF (fun p => aF (fun q => !(u q p)) p) (F.1 0 0) = true := aF_iff.mpr ⟨b, hb, aF_iff.mpr ⟨a, hab, by rw [c2]; rfl⟩⟩
                rw [this]
                rfl
            · intro n hn ih3 t ht
              have at84 : ∀ t', t' = bI (aF (fun n => bt x n && decide (shA F dg ho n a ≠ shA F dg ho n b)) (n + 1)) → Ex mX12_areApart false 1 0 0 84 [some (.ref 112), some (.int x), some (.int (nI a)), some (.int (nI b)), some (.int t), some (.int (nI n))] [.int t'] (W0 d L) (qP d L (bI (!(aF (fun p => aF (fun q => !(u q p)) p) (F.1 0 0))))) nX := by
                intro t' ht'
                iterate 3 refine x_s rfl rfl ?_
                rw [nI_1]
                exact ih3 _ ht'
              repeat refine x_s rfl rfl ?_
              refine x_br rfl rfl (fun c => absurd c (lp_c e2 hn (by omega))) (fun c => ?_)
              repeat refine x_s rfl rfl ?_
              refine x_br rfl rfl (fun c1 => ?_) (fun c1 => ?_)
              · have c2 : aF (fun n => bt x n && decide (shA F dg ho n a ≠ shA F dg ho n b)) n = true := by rw [ht] at c1; exact bI_n0.mp c1
                iterate 2 refine x_s rfl rfl ?_
                exact at84 _ (by rw [aF, c2]; rfl)
              · have c2 : aF (fun n => bt x n && decide (shA F dg ho n a ≠ shA F dg ho n b)) n = false := by
                  rw [ht] at c1
                  cases hh : aF (fun n => bt x n && decide (shA F dg ho n a ≠ shA F dg ho n b)) n
                  · rfl
                  · rw [hh] at c1
                    exact absurd c1 (by decide)
                repeat refine x_s rfl rfl ?_
                refine x_br rfl rfl (fun c3 => ?_) (fun c3 => ?_)
                · have c4 : bt x n = false := by
                    cases hh : bt x n
                    · rfl
                    · exact absurd ((bt_test1 (by omega)).mpr hh) c3
                  iterate 1 refine x_s rfl rfl ?_
                  exact at84 _ (by rw [aF, c2, c4]; rfl)
                · have c4 : bt x n = true := (bt_test1 (by omega)).mp c3
                  repeat refine x_s rfl rfl ?_
                  rw [mul10, nI_add]
                  refine x_ald rfl rfl rfl (k := 10 * n + a) (rfl) (by omega) (by decide) rfl ?_
                  rw [hv n a hn ha]
                  repeat refine x_s rfl rfl ?_
                  rw [mul10, nI_add]
                  refine x_ald rfl rfl rfl (k := 10 * n + b) (rfl) (by omega) (by decide) rfl ?_
                  rw [hv n b hn hb]
                  refine x_br rfl rfl (fun c5 => ?_) (fun c5 => ?_)
                  · have c6 : shA F dg ho n a = shA F dg ho n b := c5
                    iterate 1 refine x_s rfl rfl ?_
                    exact at84 _ (by rw [aF, c2, c6]; simp; rfl)
                  · have c6 : ¬ shA F dg ho n a = shA F dg ho n b := c5
                    iterate 2 refine x_s rfl rfl ?_
                    exact at84 _ (by rw [aF, c2, c4]; simp [c6]; rfl)
          repeat refine x_s rfl rfl ?_
          refine x_br rfl rfl (fun c => absurd c (lp_c e1 hb (by omega))) (fun c => ?_)
          iterate 4 refine x_s rfl rfl ?_
          exact lpN 0 (Nat.zero_le _) 0 rfl
      repeat refine x_s rfl rfl ?_
      refine x_br rfl rfl (fun c => absurd c (lp_c e1 ha (by omega))) (fun c => ?_)
      iterate 4 refine x_s rfl rfl ?_
      rw [nI_1]
      exact lpB (a + 1) (by omega) (by omega) (fun p h1 h2 => by omega) _ _
  refine Cn.intro gX12_areApart rfl (Nat.le_of_ble_eq_true rfl) rfl ?_
  iterate 2 refine x_s rfl rfl ?_
  exact lpA 0 (Nat.zero_le _) (fun q p h => by omega) _ _ _
set_option maxRecDepth 100000 in
set_option maxHeartbeats 1600000 in
theorem q_apart (H : HB d F) (R : RG F) (x y : Int32) : Cn mX12_apart false 14 0 0 [.ref 112, .int x, .int y] (W0 d L) (qM d L (inL x y) (fI (tA F (iN x) (iN y)) (F.1 4 0) 0 (2 ^ F.1 4 0)) (1)) := by
  have r1 := R.1
  have r2 := R.2.1
  have r3 := R.2.2.1
  refine Cn.intro gX12_apart rfl (Nat.le_of_ble_eq_true rfl) rfl ?_
  repeat refine x_s rfl rfl ?_
  refine x_put rfl rfl (by decide) rfl ⟨rfl, rfl⟩ (Or.inl rfl) ?_
  have m0 : mS d (up2 d 112 0 0) := mS_0 0
  have z0 : up2 d 112 0 0 112 0 = 0 := up2_eq
  have H0 := HB_mS R H m0
  generalize hd0 : up2 d 112 0 0 = d0 at m0 z0 H0 ⊢
  have at31 : ∀ b, b = bI (inL x y) → (inL x y = true → Ex mX12_apart false 14 0 0 40 [some (.ref 112), some (.int x), some (.int y), none, none] [] (W0 d0 L) (qM d L true (fI (tA F (iN x) (iN y)) (F.1 4 0) 0 (2 ^ F.1 4 0)) 1) nX) → Ex mX12_apart false 14 0 0 31 [some (.ref 112), some (.int x), some (.int y), none, none] [.int b, .ref 112] (W0 d0 L) (qM d L (inL x y) (fI (tA F (iN x) (iN y)) (F.1 4 0) 0 (2 ^ F.1 4 0)) 1) nX := by
    intro b hb k
    subst hb
    repeat refine x_s rfl rfl ?_
    refine x_cv (k_right d0 L z0 (inL x y) 1 (by decide)) rfl rfl rfl (by decide) rfl (by decide) rfl (Nat.le_of_ble_eq_true rfl) (by decide) (by decide) (by decide) ?_
    rintro _ _ ⟨rfl, rfl⟩
    cases hb : inL x y
    · rw [if_neg (by decide)]
      refine x_br rfl rfl (fun c => absurd c (fun z => z rfl)) (fun c => ?_)
      repeat refine x_s rfl rfl ?_
      exact x_iret rfl rfl rfl ⟨rfl, _, rfl, mS_f m0 (Or.inl rfl), rfl⟩
    · rw [if_pos rfl]
      refine x_br rfl rfl (fun c => ?_) (fun c => absurd c (fun z => absurd z (by decide)))
      exact k hb
  suffices main : inL x y = true → Ex mX12_apart false 14 0 0 40 [some (.ref 112), some (.int x), some (.int y), none, none] [] (W0 d0 L) (qM d L true (fI (tA F (iN x) (iN y)) (F.1 4 0) 0 (2 ^ F.1 4 0)) 1) nX by
    repeat refine x_s rfl rfl ?_
    refine x_cs (k_within d0 L x 1 9) rfl rfl rfl (by decide) (Nat.le_of_ble_eq_true rfl) (by decide) (by decide) (by decide) ?_
    rintro _ _ ⟨rfl, rfl⟩
    rw [wi_L]
    refine x_br rfl rfl (fun c1 => ?_) (fun c1 => ?_)
    · iterate 1 refine x_s rfl rfl ?_
      exact at31 _ (by rw [inL, bI_0.mp c1]; rfl) main
    · repeat refine x_s rfl rfl ?_
      refine x_cs (k_within d0 L y 0 99) rfl rfl rfl (by decide) (Nat.le_of_ble_eq_true rfl) (by decide) (by decide) (by decide) ?_
      rintro _ _ ⟨rfl, rfl⟩
      rw [wi_B (m := 99) rfl]
      refine x_br rfl rfl (fun c2 => ?_) (fun c2 => ?_)
      · iterate 1 refine x_s rfl rfl ?_
        exact at31 _ (by rw [inL, bI_0.mp c2, Bool.and_false]; rfl) main
      · iterate 2 refine x_s rfl rfl ?_
        exact at31 _ (by rw [inL, bI_n0.mp c1, bI_n0.mp c2]; rfl) main
  intro hb
  obtain ⟨⟨l1, l2, l3⟩, t1', t2'⟩ := inL_iN hb
  generalize iN x = dg at l1 l2 l3 ⊢
  generalize iN y = ho at t1' t2' ⊢
  subst l3
  subst t2'
  rw [fI_mB _ (by omega)]
  generalize hT : tA F dg ho = T
  have p64 := pow_64 r2
  have loop : ∀ d1, mS d d1 → d1 112 0 = 0 → (∀ n p, n < F.1 4 0 → p < F.1 0 0 → d1 140 (10 * n + p) = shA F dg ho n p) → ∀ k, k ≤ 2 ^ F.1 4 0 → ∀ b, b = mB T k → Ex mX12_apart false 14 0 0 105 [some (.ref 112), some (.int (nI dg)), some (.int (nI ho)), some (.int b), some (.int (nI k))] [] (W0 d1 L) (qM d L true (mB T (2 ^ F.1 4 0)) 1) nX := by
    intro d1 M1 T1 hv
    have H1 := HB_mS R H M1
    have hN : (1 : Int32) <<< (d1 112 2 &&& 31) = nI (2 ^ F.1 4 0) := by rw [H1.2.1]; exact p2_I _ (by omega)
    refine x_down _ ?_ ?_
    · intro b hb
      repeat refine x_s rfl rfl ?_
      refine x_br rfl rfl (fun c => ?_) (fun c => absurd c (fun z => z (lp_x hN)))
      repeat refine x_s rfl rfl ?_
      exact x_iret rfl rfl rfl ⟨by rw [hb]; rfl, d1, rfl, M1, T1⟩
    · intro k hk ih b hb
      have skip : ∀ b', b' = mB T (k + 1) → Ex mX12_apart false 14 0 0 145 [some (.ref 112), some (.int (nI dg)), some (.int (nI ho)), some (.int b'), some (.int (nI k))] [] (W0 d1 L) (qM d L true (mB T (2 ^ F.1 4 0)) 1) nX := by
        intro b' hb'
        iterate 2 refine x_s rfl rfl ?_
        rw [nI_1]
        exact ih _ hb'
      have test : (b = -1 ∨ pcI (nI k) < pcI b) → Ex mX12_apart false 14 0 0 133 [some (.ref 112), some (.int (nI dg)), some (.int (nI ho)), some (.int b), some (.int (nI k))] [] (W0 d1 L) (qM d L true (mB T (2 ^ F.1 4 0)) 1) nX := by
        intro hor
        repeat refine x_s rfl rfl ?_
        refine x_cv (k_areApart d1 L R H1.1 H1.2.1 hv (nI k)) rfl rfl rfl (by decide) rfl (by decide) rfl (Nat.le_of_ble_eq_true rfl) (by decide) (by decide) (by decide) ?_
        rintro _ _ ⟨rfl, rfl⟩
        rw [hT]
        refine x_br rfl rfl (fun c1 => ?_) (fun c1 => ?_)
        · exact skip b (mB_n1 hb (bI_0.mp c1))
        · iterate 2 refine x_s rfl rfl ?_
          exact skip (nI k) (mB_y hb hor (bI_n0.mp c1))
      repeat refine x_s rfl rfl ?_
      refine x_br rfl rfl (fun c => absurd c (lp_c hN hk (by omega))) (fun c => ?_)
      repeat refine x_s rfl rfl ?_
      refine x_br rfl rfl (fun c1 => ?_) (fun c1 => ?_)
      · exact test (Or.inl c1)
      · repeat refine x_s rfl rfl ?_
        refine x_cs (k_bits d1 L (nI k)) rfl rfl rfl (by decide) (Nat.le_of_ble_eq_true rfl) (by decide) (by decide) (by decide) ?_
        rintro _ _ ⟨rfl, rfl⟩
        repeat refine x_s rfl rfl ?_
        refine x_cs (k_bits d1 L b) rfl rfl rfl (by decide) (Nat.le_of_ble_eq_true rfl) (by decide) (by decide) (by decide) ?_
        rintro _ _ ⟨rfl, rfl⟩
        refine x_br rfl rfl (fun c2 => ?_) (fun c2 => ?_)
        · exact skip b (mB_n2 hb c1 (Int32.not_lt.mpr c2))
        · exact test (Or.inr (Int32.not_le.mp c2))
  have fill : ∀ k, k ≤ F.1 0 0 → ∀ d1, mS d d1 → d1 112 0 = 0 → (∀ n p, n < F.1 4 0 → p < k → d1 140 (10 * n + p) = shA F dg ho n p) → ∀ o, Ex mX12_apart false 14 0 0 42 [some (.ref 112), some (.int (nI dg)), some (.int (nI ho)), some (.int (nI k)), o] [] (W0 d1 L) (qM d L true (mB T (2 ^ F.1 4 0)) 1) nX := by
    refine x_down _ ?_ ?_
    · intro d1 M1 T1 hv o
      have H1 := HB_mS R H M1
      repeat refine x_s rfl rfl ?_
      refine x_br rfl rfl (fun c => ?_) (fun c => absurd c (fun z => z (lp_x H1.1)))
      iterate 4 refine x_s rfl rfl ?_
      exact loop d1 M1 T1 hv 0 (Nat.zero_le _) (-1) rfl
    · intro k hk ih d1 M1 T1 hv o
      have H1 := HB_mS R H M1
      repeat refine x_s rfl rfl ?_
      refine x_br rfl rfl (fun c => absurd c (lp_c H1.1 hk (by omega))) (fun c => ?_)
      repeat refine x_s rfl rfl ?_
      refine x_cv (k_laysLieq d1 L H1 R (p := k) (dg := dg) (ho := ho)) rfl rfl rfl (by decide) rfl (by decide) rfl (Nat.le_of_ble_eq_true rfl) (by decide) (by decide) (by decide) ?_
      rintro _ _ ⟨rfl, d2, rfl, m2, t2, H2⟩
      have M2 := mS_tr M1 m2.1
      have T2 : d2 112 0 = 0 := t2.trans T1
      have v2 : ∀ n p, n < F.1 4 0 → p < k → d2 140 (10 * n + p) = shA F dg ho n p := by
        intro n p hn hp
        rw [m2.2.2]
        exact hv n p hn hp
      have inn : ∀ n, n ≤ F.1 4 0 → ∀ d3, sm [130, 131, 140] d2 d3 → (∀ n p, n < F.1 4 0 → p < k → d3 140 (10 * n + p) = shA F dg ho n p) → (∀ m, m < n → d3 140 (10 * m + k) = shA F dg ho m k) → Ex mX12_apart false 14 0 0 60 [some (.ref 112), some (.int (nI dg)), some (.int (nI ho)), some (.int (nI k)), some (.int (nI n))] [] (W0 d3 L) (qM d L true (mB T (2 ^ F.1 4 0)) 1) nX := by
        refine x_down _ ?_ ?_
        · intro d3 hs3 v3 w3
          have H3 := HL_sm H2 hs3 (by decide)
          repeat refine x_s rfl rfl ?_
          refine x_br rfl rfl (fun c => ?_) (fun c => absurd c (fun z => z (lp_x H3.2.1)))
          iterate 2 refine x_s rfl rfl ?_
          rw [nI_1]
          refine ih d3 (mS_go M2 hs3 (by decide) (by decide) (by decide) (by decide) (by decide)) (by rw [hs3 112 (by decide)]; exact T2) ?_ _
          intro n p hn hp
          by_cases e : p = k
          · subst e
            exact w3 n hn
          · exact v3 n p hn (by omega)
        · intro n hn ih2 d3 hs3 v3 w3
          have H3 := HL_sm H2 hs3 (by decide)
          repeat refine x_s rfl rfl ?_
          refine x_br rfl rfl (fun c => absurd c (lp_c (n := F.1 4 0) H3.2.1 hn (by omega))) (fun c => ?_)
          repeat refine x_s rfl rfl ?_
          refine x_cv (k_showsIn d3 L H3 (RM_one R hk l2 t1') (n := n) (h := ho) (Or.inl hn) t1') rfl rfl rfl (by decide) rfl (by decide) rfl (Nat.le_of_ble_eq_true rfl) (by decide) (by decide) (by decide) ?_
          rintro _ _ ⟨rfl, d4, rfl, hs4⟩
          rw [sh_one, mul10, nI_add]
          refine x_iast rfl rfl (k := 10 * n + k) (rfl) (by omega) (by decide) rfl ?_
          iterate 2 refine x_s rfl rfl ?_
          rw [nI_1]
          refine ih2 _ (sm_up (sm_go hs3 (sm_in hs4 (by decide))) (by decide)) ?_ ?_
          · intro m p hm hp
            rw [up2_k (by omega), hs4 140 (by decide)]
            exact v3 m p hm hp
          · intro m hm
            by_cases e : m = n
            · subst e
              exact up2_eq
            · rw [up2_k (by omega), hs4 140 (by decide)]
              exact w3 m (by omega)
      iterate 2 refine x_s rfl rfl ?_
      exact inn 0 (Nat.zero_le _) d2 sm_rfl v2 (fun m hm => by omega)
  iterate 2 refine x_s rfl rfl ?_
  exact fill 0 (Nat.zero_le _) d0 m0 z0 (fun n p hn hp => by omega) _
set_option maxRecDepth 100000 in
set_option maxHeartbeats 1600000 in
theorem q_ears (H : HB d F) (R : RG F) (x y : Int32) : Cn mX12_ears false 14 0 0 [.ref 112, .int x, .int y] (W0 d L) (qM d L (inL x y) (fI (hA F (iN x) (iN y)) (F.1 4 0) 0 (2 ^ F.1 4 0)) (1)) := by
  have r1 := R.1
  have r2 := R.2.1
  have r3 := R.2.2.1
  refine Cn.intro gX12_ears rfl (Nat.le_of_ble_eq_true rfl) rfl ?_
  repeat refine x_s rfl rfl ?_
  refine x_put rfl rfl (by decide) rfl ⟨rfl, rfl⟩ (Or.inl rfl) ?_
  have m0 : mS d (up2 d 112 0 0) := mS_0 0
  have z0 : up2 d 112 0 0 112 0 = 0 := up2_eq
  have H0 := HB_mS R H m0
  generalize hd0 : up2 d 112 0 0 = d0 at m0 z0 H0 ⊢
  have at31 : ∀ b, b = bI (inL x y) → (inL x y = true → Ex mX12_ears false 14 0 0 40 [some (.ref 112), some (.int x), some (.int y), none, none, none, none] [] (W0 d0 L) (qM d L true (fI (hA F (iN x) (iN y)) (F.1 4 0) 0 (2 ^ F.1 4 0)) 1) nX) → Ex mX12_ears false 14 0 0 31 [some (.ref 112), some (.int x), some (.int y), none, none, none, none] [.int b, .ref 112] (W0 d0 L) (qM d L (inL x y) (fI (hA F (iN x) (iN y)) (F.1 4 0) 0 (2 ^ F.1 4 0)) 1) nX := by
    intro b hb k
    subst hb
    repeat refine x_s rfl rfl ?_
    refine x_cv (k_right d0 L z0 (inL x y) 1 (by decide)) rfl rfl rfl (by decide) rfl (by decide) rfl (Nat.le_of_ble_eq_true rfl) (by decide) (by decide) (by decide) ?_
    rintro _ _ ⟨rfl, rfl⟩
    cases hb : inL x y
    · rw [if_neg (by decide)]
      refine x_br rfl rfl (fun c => absurd c (fun z => z rfl)) (fun c => ?_)
      repeat refine x_s rfl rfl ?_
      exact x_iret rfl rfl rfl ⟨rfl, _, rfl, mS_f m0 (Or.inl rfl), rfl⟩
    · rw [if_pos rfl]
      refine x_br rfl rfl (fun c => ?_) (fun c => absurd c (fun z => absurd z (by decide)))
      exact k hb
  suffices main : inL x y = true → Ex mX12_ears false 14 0 0 40 [some (.ref 112), some (.int x), some (.int y), none, none, none, none] [] (W0 d0 L) (qM d L true (fI (hA F (iN x) (iN y)) (F.1 4 0) 0 (2 ^ F.1 4 0)) 1) nX by
    repeat refine x_s rfl rfl ?_
    refine x_cs (k_within d0 L x 1 9) rfl rfl rfl (by decide) (Nat.le_of_ble_eq_true rfl) (by decide) (by decide) (by decide) ?_
    rintro _ _ ⟨rfl, rfl⟩
    rw [wi_L]
    refine x_br rfl rfl (fun c1 => ?_) (fun c1 => ?_)
    · iterate 1 refine x_s rfl rfl ?_
      exact at31 _ (by rw [inL, bI_0.mp c1]; rfl) main
    · repeat refine x_s rfl rfl ?_
      refine x_cs (k_within d0 L y 0 99) rfl rfl rfl (by decide) (Nat.le_of_ble_eq_true rfl) (by decide) (by decide) (by decide) ?_
      rintro _ _ ⟨rfl, rfl⟩
      rw [wi_B (m := 99) rfl]
      refine x_br rfl rfl (fun c2 => ?_) (fun c2 => ?_)
      · iterate 1 refine x_s rfl rfl ?_
        exact at31 _ (by rw [inL, bI_0.mp c2, Bool.and_false]; rfl) main
      · iterate 2 refine x_s rfl rfl ?_
        exact at31 _ (by rw [inL, bI_n0.mp c1, bI_n0.mp c2]; rfl) main
  intro hb
  obtain ⟨⟨l1, l2, l3⟩, t1', t2'⟩ := inL_iN hb
  generalize iN x = dg at l1 l2 l3 ⊢
  generalize iN y = ho at t1' t2' ⊢
  subst l3
  subst t2'
  rw [fI_mB _ (by omega)]
  generalize hT : hA F dg ho = T
  have p64 := pow_64 r2
  have loop : ∀ d1, mS d d1 → d1 112 0 = 0 → (∀ p, p < F.1 0 0 → d1 140 p = bF (fun n => hl F n p dg ho) (F.1 4 0)) → ∀ k, k ≤ 2 ^ F.1 4 0 → ∀ b, b = mB T k → ∀ o1 o2, Ex mX12_ears false 14 0 0 79 [some (.ref 112), some (.int (nI dg)), some (.int (nI ho)), some (.int b), some (.int (nI k)), o1, o2] [] (W0 d1 L) (qM d L true (mB T (2 ^ F.1 4 0)) 1) nX := by
    intro d1 M1 T1 hv
    have H1 := HB_mS R H M1
    have hN : (1 : Int32) <<< (d1 112 2 &&& 31) = nI (2 ^ F.1 4 0) := by rw [H1.2.1]; exact p2_I _ (by omega)
    refine x_down _ ?_ ?_
    · intro b hb o1 o2
      repeat refine x_s rfl rfl ?_
      refine x_br rfl rfl (fun c => ?_) (fun c => absurd c (fun z => z (lp_x hN)))
      repeat refine x_s rfl rfl ?_
      exact x_iret rfl rfl rfl ⟨by rw [hb]; rfl, d1, rfl, M1, T1⟩
    · intro k hk ih b hb o1 o2
      have skip : ∀ b', b' = mB T (k + 1) → ∀ o1 o2, Ex mX12_ears false 14 0 0 164 [some (.ref 112), some (.int (nI dg)), some (.int (nI ho)), some (.int b'), some (.int (nI k)), o1, o2] [] (W0 d1 L) (qM d L true (mB T (2 ^ F.1 4 0)) 1) nX := by
        intro b' hb' o1 o2
        iterate 2 refine x_s rfl rfl ?_
        rw [nI_1]
        exact ih _ hb' _ _
      have test : (b = -1 ∨ pcI (nI k) < pcI b) → Ex mX12_ears false 14 0 0 110 [some (.ref 112), some (.int (nI dg)), some (.int (nI ho)), some (.int b), some (.int (nI k)), o1, o2] [] (W0 d1 L) (qM d L true (mB T (2 ^ F.1 4 0)) 1) nX := by
        intro hor
        have inn : ∀ j, j ≤ F.1 0 0 → ∀ a, a = bI (!(aF (fun p => decide (bF (fun n => hl F n p dg ho) (F.1 4 0) &&& nI k = 0)) j)) → Ex mX12_ears false 14 0 0 116 [some (.ref 112), some (.int (nI dg)), some (.int (nI ho)), some (.int b), some (.int (nI k)), some (.int a), some (.int (nI j))] [] (W0 d1 L) (qM d L true (mB T (2 ^ F.1 4 0)) 1) nX := by
          refine x_down _ ?_ ?_
          · intro a ha
            have ha2 : a = bI (T (nI k)) := by rw [ha, ← hT]; rfl
            repeat refine x_s rfl rfl ?_
            refine x_br rfl rfl (fun c => ?_) (fun c => absurd c (fun z => z (lp_x H1.1)))
            repeat refine x_s rfl rfl ?_
            refine x_br rfl rfl (fun c1 => ?_) (fun c1 => ?_)
            · exact skip b (mB_n1 hb (by rw [ha2] at c1; exact bI_0.mp c1)) _ _
            · iterate 2 refine x_s rfl rfl ?_
              exact skip (nI k) (mB_y hb hor (by rw [ha2] at c1; exact bI_n0.mp c1)) _ _
          · intro j hj ih2 a ha
            have at148 : ∀ a', a' = bI (!(aF (fun p => decide (bF (fun n => hl F n p dg ho) (F.1 4 0) &&& nI k = 0)) (j + 1))) → Ex mX12_ears false 14 0 0 148 [some (.ref 112), some (.int (nI dg)), some (.int (nI ho)), some (.int b), some (.int (nI k)), some (.int a), some (.int (nI j))] [.int a'] (W0 d1 L) (qM d L true (mB T (2 ^ F.1 4 0)) 1) nX := by
              intro a' ha'
              iterate 3 refine x_s rfl rfl ?_
              rw [nI_1]
              exact ih2 _ ha'
            repeat refine x_s rfl rfl ?_
            refine x_br rfl rfl (fun c => absurd c (lp_c H1.1 hj (by omega))) (fun c => ?_)
            repeat refine x_s rfl rfl ?_
            refine x_br rfl rfl (fun c1 => ?_) (fun c1 => ?_)
            · have c2 : aF (fun p => decide (bF (fun n => hl F n p dg ho) (F.1 4 0) &&& nI k = 0)) j = true := by
                rw [ha] at c1
                have := bI_0.mp c1
                cases hh : aF (fun p => decide (bF (fun n => hl F n p dg ho) (F.1 4 0) &&& nI k = 0)) j
                · rw [hh] at this
                  cases this
                · rfl
              iterate 1 refine x_s rfl rfl ?_
              exact at148 _ (by rw [aF, c2]; rfl)
            · have c2 : aF (fun p => decide (bF (fun n => hl F n p dg ho) (F.1 4 0) &&& nI k = 0)) j = false := by
                rw [ha] at c1
                have := bI_n0.mp c1
                cases hh : aF (fun p => decide (bF (fun n => hl F n p dg ho) (F.1 4 0) &&& nI k = 0)) j
                · rfl
                · rw [hh] at this
                  cases this
              repeat refine x_s rfl rfl ?_
              refine x_ald rfl rfl rfl (k := j) (rfl) (by omega) (by decide) rfl ?_
              rw [hv j hj]
              repeat refine x_s rfl rfl ?_
              refine x_br rfl rfl (fun c3 => ?_) (fun c3 => ?_)
              · have c4 : bF (fun n => hl F n j dg ho) (F.1 4 0) &&& nI k = 0 := c3
                iterate 1 refine x_s rfl rfl ?_
                exact at148 _ (by rw [aF, c2, decide_eq_true c4]; rfl)
              · have c4 : ¬ bF (fun n => hl F n j dg ho) (F.1 4 0) &&& nI k = 0 := c3
                iterate 2 refine x_s rfl rfl ?_
                exact at148 _ (by rw [aF, c2, decide_eq_false c4]; rfl)
        iterate 4 refine x_s rfl rfl ?_
        exact inn 0 (Nat.zero_le _) 1 rfl
      repeat refine x_s rfl rfl ?_
      refine x_br rfl rfl (fun c => absurd c (lp_c hN hk (by omega))) (fun c => ?_)
      repeat refine x_s rfl rfl ?_
      refine x_br rfl rfl (fun c1 => ?_) (fun c1 => ?_)
      · exact test (Or.inl c1)
      · repeat refine x_s rfl rfl ?_
        refine x_cs (k_bits d1 L (nI k)) rfl rfl rfl (by decide) (Nat.le_of_ble_eq_true rfl) (by decide) (by decide) (by decide) ?_
        rintro _ _ ⟨rfl, rfl⟩
        repeat refine x_s rfl rfl ?_
        refine x_cs (k_bits d1 L b) rfl rfl rfl (by decide) (Nat.le_of_ble_eq_true rfl) (by decide) (by decide) (by decide) ?_
        rintro _ _ ⟨rfl, rfl⟩
        refine x_br rfl rfl (fun c2 => ?_) (fun c2 => ?_)
        · exact test (Or.inr c2)
        · iterate 1 refine x_s rfl rfl ?_
          exact skip b (mB_n2 hb c1 c2) _ _
  have fill : ∀ k, k ≤ F.1 0 0 → ∀ d1, mS d d1 → d1 112 0 = 0 → (∀ p, p < k → d1 140 p = bF (fun n => hl F n p dg ho) (F.1 4 0)) → ∀ o1 o2 o3, Ex mX12_ears false 14 0 0 42 [some (.ref 112), some (.int (nI dg)), some (.int (nI ho)), some (.int (nI k)), o1, o2, o3] [] (W0 d1 L) (qM d L true (mB T (2 ^ F.1 4 0)) 1) nX := by
    refine x_down _ ?_ ?_
    · intro d1 M1 T1 hv o1 o2 o3
      have H1 := HB_mS R H M1
      repeat refine x_s rfl rfl ?_
      refine x_br rfl rfl (fun c => ?_) (fun c => absurd c (fun z => z (lp_x H1.1)))
      iterate 4 refine x_s rfl rfl ?_
      exact loop d1 M1 T1 hv 0 (Nat.zero_le _) (-1) rfl _ _
    · intro k hk ih d1 M1 T1 hv o1 o2 o3
      have H1 := HB_mS R H M1
      repeat refine x_s rfl rfl ?_
      refine x_br rfl rfl (fun c => absurd c (lp_c H1.1 hk (by omega))) (fun c => ?_)
      repeat refine x_s rfl rfl ?_
      refine x_cv (k_laysLieq d1 L H1 R (p := k) (dg := dg) (ho := ho)) rfl rfl rfl (by decide) rfl (by decide) rfl (Nat.le_of_ble_eq_true rfl) (by decide) (by decide) (by decide) ?_
      rintro _ _ ⟨rfl, d2, rfl, m2, t2, H2⟩
      have M2 := mS_tr M1 m2.1
      have T2 : d2 112 0 = 0 := t2.trans T1
      repeat refine x_s rfl rfl ?_
      refine x_cv (k_heardBy d2 L H2 (RM_one R hk l2 t1') (s := 0) (show 0 < 1 by decide)) rfl rfl rfl (by decide) rfl (by decide) rfl (Nat.le_of_ble_eq_true rfl) (by decide) (by decide) (by decide) ?_
      rintro _ _ ⟨rfl, d3, rfl, hs3⟩
      have e3 : bF (fun n => hr (oneL F k dg ho) n 0) ((oneL F k dg ho).1 4 0) = bF (fun n => hl F n k dg ho) (F.1 4 0) := by
        refine bF_cong (n := F.1 4 0) (fun n _ => ?_)
        show hl (oneL F k dg ho) n k dg ho = _
        exact hl_s (oneL_s F k dg ho) n k dg ho
      rw [e3]
      refine x_iast rfl rfl (k := k) (rfl) (by omega) (by decide) rfl ?_
      iterate 2 refine x_s rfl rfl ?_
      rw [nI_1]
      have M3 := mS_go M2 hs3 (by decide) (by decide) (by decide) (by decide) (by decide)
      refine ih _ (mS_c M3 (by decide)) ?_ ?_ _ _ _
      · show d3 112 0 = 0
        rw [hs3 112 (by decide)]
        exact T2
      · intro p hp
        by_cases e : p = k
        · subst e
          exact up2_eq
        · rw [up2_k e, hs3 140 (by decide), m2.2.2]
          exact hv p (by omega)
  iterate 2 refine x_s rfl rfl ?_
  exact fill 0 (Nat.zero_le _) d0 m0 z0 (fun p hp => by omega) _ _ _
set_option maxRecDepth 100000 in
set_option maxHeartbeats 1600000 in
theorem k_areShowing {xp xn : Bool} (H : HL d F xp xn) (R : RM F xp xn) {h : Nat} (hh : h < 100) (x v : Int32) : Cn mX12_areShowing false 8 0 0 [.ref 112, .int x, .int (nI h), .int v] (W0 d L) (qS [130, 131] d L (bI (!(aF (fun n => bt x n && decide (sh F n h ≠ v)) (F.1 4 0))))) := by
  have r2 := R.2.1
  have lp : ∀ k, k ≤ F.1 4 0 → aF (fun n => bt x n && decide (sh F n h ≠ v)) k = false → ∀ d1, sm [130, 131] d d1 → Ex mX12_areShowing false 8 0 0 3 [some (.ref 112), some (.int x), some (.int (nI h)), some (.int v), some (.int (nI k))] [] (W0 d1 L) (qS [130, 131] d L (bI (!(aF (fun n => bt x n && decide (sh F n h ≠ v)) (F.1 4 0))))) nX := by
    refine x_down _ ?_ ?_
    · intro ha d1 hs
      have H1 := HL_sm H hs (by decide)
      repeat refine x_s rfl rfl ?_
      refine x_br rfl rfl (fun c => ?_) (fun c => absurd c (fun z => z (lp_x H1.2.1)))
      repeat refine x_s rfl rfl ?_
      exact x_iret rfl rfl rfl ⟨by rw [ha]; rfl, d1, rfl, hs⟩
    · intro k hk ih ha d1 hs
      have H1 := HL_sm H hs (by decide)
      repeat refine x_s rfl rfl ?_
      refine x_br rfl rfl (fun c => absurd c (lp_c H1.2.1 hk (by omega))) (fun c => ?_)
      repeat refine x_s rfl rfl ?_
      refine x_br rfl rfl (fun c1 => ?_) (fun c1 => ?_)
      · have c2 : bt x k = false := by
          cases hx : bt x k
          · rfl
          · exact absurd ((bt_test1 (by omega)).mpr hx) c1
        iterate 2 refine x_s rfl rfl ?_
        rw [nI_1]
        exact ih (by rw [aF, ha, c2]; rfl) d1 hs
      · have c2 : bt x k = true := (bt_test1 (by omega)).mp c1
        repeat refine x_s rfl rfl ?_
        refine x_cv (k_showsIn d1 L H1 R (n := k) (h := h) (Or.inl hk) hh) rfl rfl rfl (by decide) rfl (by decide) rfl (Nat.le_of_ble_eq_true rfl) (by decide) (by decide) (by decide) ?_
        rintro _ _ ⟨rfl, d2, rfl, hs2⟩
        repeat refine x_s rfl rfl ?_
        refine x_br rfl rfl (fun c3 => ?_) (fun c3 => ?_)
        · have c4 : sh F k h = v := c3
          iterate 2 refine x_s rfl rfl ?_
          rw [nI_1]
          exact ih (by rw [aF, ha, c4]; simp) d2 (sm_go hs hs2)
        · have c4 : ¬ sh F k h = v := c3
          repeat refine x_s rfl rfl ?_
          refine x_iret rfl rfl rfl ⟨?_, d2, rfl, sm_go hs hs2⟩
          rw [aF_iff.mpr ⟨k, hk, by rw [c2]; simpa using c4⟩]
          rfl
  refine Cn.intro gX12_areShowing rfl (Nat.le_of_ble_eq_true rfl) rfl ?_
  iterate 2 refine x_s rfl rfl ?_
  exact lp 0 (Nat.zero_le _) rfl d sm_rfl
theorem addL_n (F : Fr) (ho : Nat) (y : Int32) : ∀ k, (addL F ho y k).1 9 0 ≤ F.1 9 0 + k
  | 0 => Nat.le_refl _
  | k + 1 => by
    have ih := addL_n F ho y k
    unfold addL
    split
    · show (addL F ho y k).1 9 0 + 1 ≤ _
      omega
    · omega
theorem addL_RM (R : RG F) {ho : Nat} (hh : ho < 100) (y : Int32) : ∀ k, k ≤ F.1 0 0 → RM (addL F ho y k) false false
  | 0, _ => RM_of R
  | k + 1, hk => by
    have ih := addL_RM R hh y k (by omega)
    have nn := addL_n F ho y k
    have r1 := R.1
    have r3 := R.2.2.1
    have e0 : (addL F ho y k).1 0 = F.1 0 := (addL_s F ho y k).1 0 (by decide)
    unfold addL
    split
    · have := RM_tl ih (x := ho) (y := k) (z := 9) (by omega) hh (Or.inl (by rw [e0]; omega)) (by decide)
      rw [addL_2] at this
      exact this
    · exact ih
set_option maxRecDepth 100000 in
set_option maxHeartbeats 1600000 in
theorem q_plan (H : HB d F) (R : RG F) (x y z : Int32) : Cn mX12_plan false 14 0 0 [.ref 112, .int x, .int y, .int z] (W0 d L) (qM d L (inB y 100 && (inB x (2 ^ F.1 4 0) && inB z 10)) (fP (fun s => aS F x (iN y) s z) (F.1 0 0) 0 (2 ^ F.1 0 0)) (if inB y 100 then 2 else 1)) := by
  have r1 := R.1
  have r2 := R.2.1
  have r3 := R.2.2.1
  refine Cn.intro gX12_plan rfl (Nat.le_of_ble_eq_true rfl) rfl ?_
  repeat refine x_s rfl rfl ?_
  refine x_put rfl rfl (by decide) rfl ⟨rfl, rfl⟩ (Or.inl rfl) ?_
  have m0 : mS d (up2 d 112 0 0) := mS_0 0
  have z0 : up2 d 112 0 0 112 0 = 0 := up2_eq
  have H0 := HB_mS R H m0
  generalize hd0 : up2 d 112 0 0 = d0 at m0 z0 H0 ⊢
  repeat refine x_s rfl rfl ?_
  refine x_cv (k_isHour d0 L z0 y) rfl rfl rfl (by decide) rfl (by decide) rfl (Nat.le_of_ble_eq_true rfl) (by decide) (by decide) (by decide) ?_
  rintro _ _ ⟨rfl, rfl⟩
  cases hb : inB y 100
  · rw [if_neg (by decide)]
    refine x_br rfl rfl (fun c => ?_) (fun c => absurd c (fun z => z rfl))
    repeat refine x_s rfl rfl ?_
    exact x_iret rfl rfl rfl ⟨rfl, _, rfl, mS_f m0 (Or.inl rfl), rfl⟩
  rw [if_pos rfl]
  refine x_br rfl rfl (fun c => absurd c (by decide)) (fun c => ?_)
  have at43 : ∀ b, b = bI (inB x (2 ^ F.1 4 0) && inB z 10) → ((inB x (2 ^ F.1 4 0) && inB z 10) = true → Ex mX12_plan false 14 0 0 52 [some (.ref 112), some (.int x), some (.int y), some (.int z), none, none, none] [] (W0 d0 L) (qM d L true (fP (fun s => aS F x (iN y) s z) (F.1 0 0) 0 (2 ^ F.1 0 0)) 2) nX) → Ex mX12_plan false 14 0 0 43 [some (.ref 112), some (.int x), some (.int y), some (.int z), none, none, none] [.int b, .ref 112] (W0 d0 L) (qM d L (true && (inB x (2 ^ F.1 4 0) && inB z 10)) (fP (fun s => aS F x (iN y) s z) (F.1 0 0) 0 (2 ^ F.1 0 0)) (if true then 2 else 1)) nX := by
    intro b hb2 k
    subst hb2
    repeat refine x_s rfl rfl ?_
    refine x_cv (k_right d0 L z0 (inB x (2 ^ F.1 4 0) && inB z 10) 2 (by decide)) rfl rfl rfl (by decide) rfl (by decide) rfl (Nat.le_of_ble_eq_true rfl) (by decide) (by decide) (by decide) ?_
    rintro _ _ ⟨rfl, rfl⟩
    cases hb3 : (inB x (2 ^ F.1 4 0) && inB z 10)
    · rw [if_neg (by decide)]
      refine x_br rfl rfl (fun c => absurd c (fun z => z rfl)) (fun c => ?_)
      repeat refine x_s rfl rfl ?_
      exact x_iret rfl rfl rfl ⟨rfl, _, rfl, mS_f m0 (Or.inl rfl), rfl⟩
    · rw [if_pos rfl]
      refine x_br rfl rfl (fun c => ?_) (fun c => absurd c (fun z => absurd z (by decide)))
      exact k hb3
  have hN4 : (1 : Int32) <<< (d0 112 2 &&& 31) = nI (2 ^ F.1 4 0) := by rw [H0.2.1]; exact p2_I _ (by omega)
  have p64 := pow_64 r2
  suffices main : (inB x (2 ^ F.1 4 0) && inB z 10) = true → Ex mX12_plan false 14 0 0 52 [some (.ref 112), some (.int x), some (.int y), some (.int z), none, none, none] [] (W0 d0 L) (qM d L true (fP (fun s => aS F x (iN y) s z) (F.1 0 0) 0 (2 ^ F.1 0 0)) 2) nX by
    repeat refine x_s rfl rfl ?_
    refine x_br rfl rfl (fun c1 => ?_) (fun c1 => ?_)
    · iterate 1 refine x_s rfl rfl ?_
      exact at43 _ (by rw [inB_f1 c1]; rfl) main
    · repeat refine x_s rfl rfl ?_
      refine x_br rfl rfl (fun c2 => ?_) (fun c2 => ?_)
      · iterate 1 refine x_s rfl rfl ?_
        exact at43 _ (by rw [inB_f2 hN4 (by omega) (Int32.not_lt.mpr c2)]; rfl) main
      · repeat refine x_s rfl rfl ?_
        refine x_cs (k_within d0 L z 0 9) rfl rfl rfl (by decide) (Nat.le_of_ble_eq_true rfl) (by decide) (by decide) (by decide) ?_
        rintro _ _ ⟨rfl, rfl⟩
        rw [wi_B (m := 9) rfl]
        refine x_br rfl rfl (fun c3 => ?_) (fun c3 => ?_)
        · iterate 1 refine x_s rfl rfl ?_
          exact at43 _ (by rw [bI_0.mp c3, Bool.and_false]; rfl) main
        · iterate 2 refine x_s rfl rfl ?_
          exact at43 _ (by rw [inB_t hN4 (by omega) c1 (Int32.not_le.mp c2), bI_n0.mp c3]; rfl) main
  intro _
  obtain ⟨q1, q2, q3⟩ := inB_iN hb
  generalize iN y = t at q1 q2 q3 ⊢
  subst q2
  rw [fP_mP _ (by omega)]
  generalize hT : (fun s => aS F x t s z) = T
  have p1k := pow_1k r1
  have loop : ∀ k, k ≤ 2 ^ F.1 0 0 → ∀ b, b = mP T k → ∀ d1, mS d d1 → d1 112 0 = 0 → ∀ o, Ex mX12_plan false 14 0 0 58 [some (.ref 112), some (.int x), some (.int (nI t)), some (.int z), some (.int b), some (.int (nI k)), o] [] (W0 d1 L) (qM d L true (mP T (2 ^ F.1 0 0)) 2) nX := by
    refine x_down _ ?_ ?_
    · intro b hb d1 M1 T1 o
      have H1 := HB_mS R H M1
      have hN : (1 : Int32) <<< (d1 112 1 &&& 31) = nI (2 ^ F.1 0 0) := by rw [H1.1]; exact p2_I _ (by omega)
      repeat refine x_s rfl rfl ?_
      refine x_br rfl rfl (fun c => ?_) (fun c => absurd c (fun z => z (lp_x hN)))
      repeat refine x_s rfl rfl ?_
      exact x_iret rfl rfl rfl ⟨by rw [hb]; rfl, d1, rfl, M1, T1⟩
    · intro k hk ih b hb d1 M1 T1 o
      have H1 := HB_mS R H M1
      have hN : (1 : Int32) <<< (d1 112 1 &&& 31) = nI (2 ^ F.1 0 0) := by rw [H1.1]; exact p2_I _ (by omega)
      have skip : ∀ b', b' = mP T (k + 1) → ∀ d4, mS d d4 → d4 112 0 = 0 → ∀ o, Ex mX12_plan false 14 0 0 157 [some (.ref 112), some (.int x), some (.int (nI t)), some (.int z), some (.int b'), some (.int (nI k)), o] [] (W0 d4 L) (qM d L true (mP T (2 ^ F.1 0 0)) 2) nX := by
        intro b' hb' d4 M4 T4 o
        iterate 2 refine x_s rfl rfl ?_
        rw [nI_1]
        exact ih _ hb' d4 M4 T4 _
      have test : ¬ 3 < pcI (nI k) → (b = -1 ∨ pcI (nI k) < pcI b) → Ex mX12_plan false 14 0 0 100 [some (.ref 112), some (.int x), some (.int (nI t)), some (.int z), some (.int b), some (.int (nI k)), o] [] (W0 d1 L) (qM d L true (mP T (2 ^ F.1 0 0)) 2) nX := by
        intro h3 hor
        have inn : ∀ j, j ≤ F.1 0 0 → ∀ d2, mS d d2 → d2 112 0 = 0 → HL d2 (addL F t (nI k) j) false false → Ex mX12_plan false 14 0 0 108 [some (.ref 112), some (.int x), some (.int (nI t)), some (.int z), some (.int b), some (.int (nI k)), some (.int (nI j))] [] (W0 d2 L) (qM d L true (mP T (2 ^ F.1 0 0)) 2) nX := by
          refine x_down _ ?_ ?_
          · intro d2 M2 T2 H2
            have e0 := HB_mS R H M2
            have e4 : (addL F t (nI k) (F.1 0 0)).1 4 = F.1 4 := (addL_s F t (nI k) (F.1 0 0)).1 4 (by decide)
            repeat refine x_s rfl rfl ?_
            refine x_br rfl rfl (fun c => ?_) (fun c => absurd c (fun z => z (lp_x e0.1)))
            repeat refine x_s rfl rfl ?_
            refine x_cv (k_areShowing d2 L H2 (addL_RM R q1 (nI k) (F.1 0 0) (Nat.le_refl _)) q1 x z) rfl rfl rfl (by decide) rfl (by decide) rfl (Nat.le_of_ble_eq_true rfl) (by decide) (by decide) (by decide) ?_
            rintro _ _ ⟨rfl, d3, rfl, hs3⟩
            have M3 := mS_go M2 hs3 (by decide) (by decide) (by decide) (by decide) (by decide)
            have T3 : d3 112 0 = 0 := by rw [hs3 112 (by decide)]; exact T2
            have eT : (!(aF (fun n => bt x n && decide (sh (addL F t (nI k) (F.1 0 0)) n t ≠ z)) ((addL F t (nI k) (F.1 0 0)).1 4 0))) = T (nI k) := by
              rw [← hT, e4]
              show _ = !(aF (fun n => bt x n && decide (sBL F n t (nI k) ≠ z)) (F.1 4 0))
              simp only [sh_addL]
            rw [eT]
            refine x_br rfl rfl (fun c1 => ?_) (fun c1 => ?_)
            · exact skip b (mP_n1 hb (bI_0.mp c1)) d3 M3 T3 _
            · iterate 2 refine x_s rfl rfl ?_
              exact skip (nI k) (mP_y hb h3 hor (bI_n0.mp c1)) d3 M3 T3 _
          · intro j hj ih2 d2 M2 T2 H2
            have e0 := HB_mS R H M2
            have nn := addL_n F t (nI k) j
            repeat refine x_s rfl rfl ?_
            refine x_br rfl rfl (fun c => absurd c (lp_c e0.1 hj (by omega))) (fun c => ?_)
            repeat refine x_s rfl rfl ?_
            refine x_br rfl rfl (fun c1 => ?_) (fun c1 => ?_)
            · have c2 : bt (nI k) j = false := by
                cases hx : bt (nI k) j
                · rfl
                · exact absurd ((bt_test1 (by omega)).mpr hx) c1
              iterate 2 refine x_s rfl rfl ?_
              rw [nI_1]
              refine ih2 d2 M2 T2 ?_
              rw [addL, if_neg (by rw [c2]; decide)]
              exact H2
            · have c2 : bt (nI k) j = true := (bt_test1 (by omega)).mp c1
              repeat refine x_s rfl rfl ?_
              refine x_cv (k_adds d2 L H2.2.2.1 (by omega) _ _ _) rfl rfl rfl (by decide) rfl (by decide) rfl (Nat.le_of_ble_eq_true rfl) (by decide) (by decide) (by decide) ?_
              rintro _ _ ⟨rfl, rfl⟩
              iterate 2 refine x_s rfl rfl ?_
              rw [nI_1 j]
              refine ih2 _ (mS_f (mS_c (mS_c (mS_c M2 (by decide)) (by decide)) (by decide)) (by simp)) T2 ?_
              rw [addL, if_pos c2]
              have := HL_tl H2 t j 9
              rw [addL_2] at this
              exact this
        repeat refine x_s rfl rfl ?_
        refine x_cv (k_lays0 d1 L H1 R true) rfl rfl rfl (by decide) rfl (by decide) rfl (Nat.le_of_ble_eq_true rfl) (by decide) (by decide) (by decide) ?_
        rintro _ _ ⟨rfl, d2, rfl, m2, t2, H2⟩
        rw [if_pos rfl, fst0_self] at H2
        iterate 2 refine x_s rfl rfl ?_
        exact inn 0 (Nat.zero_le _) d2 (mS_tr M1 m2) (t2.trans T1) H2
      repeat refine x_s rfl rfl ?_
      refine x_br rfl rfl (fun c => absurd c (lp_c hN hk (by omega))) (fun c => ?_)
      repeat refine x_s rfl rfl ?_
      refine x_cs (k_bits d1 L (nI k)) rfl rfl rfl (by decide) (Nat.le_of_ble_eq_true rfl) (by decide) (by decide) (by decide) ?_
      rintro _ _ ⟨rfl, rfl⟩
      repeat refine x_s rfl rfl ?_
      refine x_br rfl rfl (fun c0 => ?_) (fun c0 => ?_)
      · exact skip b (mP_n3 hb c0) d1 M1 T1 _
      · repeat refine x_s rfl rfl ?_
        refine x_br rfl rfl (fun c1 => ?_) (fun c1 => ?_)
        · exact test c0 (Or.inl c1)
        · repeat refine x_s rfl rfl ?_
          refine x_cs (k_bits d1 L (nI k)) rfl rfl rfl (by decide) (Nat.le_of_ble_eq_true rfl) (by decide) (by decide) (by decide) ?_
          rintro _ _ ⟨rfl, rfl⟩
          repeat refine x_s rfl rfl ?_
          refine x_cs (k_bits d1 L b) rfl rfl rfl (by decide) (Nat.le_of_ble_eq_true rfl) (by decide) (by decide) (by decide) ?_
          rintro _ _ ⟨rfl, rfl⟩
          refine x_br rfl rfl (fun c2 => ?_) (fun c2 => ?_)
          · exact test c0 (Or.inr c2)
          · iterate 1 refine x_s rfl rfl ?_
            exact skip b (mP_n2 hb c1 c2) d1 M1 T1 _
  iterate 4 refine x_s rfl rfl ?_
  exact loop 0 (Nat.zero_le _) (-1) rfl d0 m0 z0 _
end
