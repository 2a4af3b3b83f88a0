/-! THE COURT -/
def HK (d : Nat → Nat → Int32) (F : Fr) (v : Nat → Int32) (sa : Nat → Nat) : Prop := (∀ n, n < F.1 4 0 → d 78 n = v n) ∧ ∀ p, p < F.1 0 0 → d 79 p = nI (sa p)
theorem HK_sm {S : List Nat} {d d' : Nat → Nat → Int32} {F : Fr} {v : Nat → Int32} {sa : Nat → Nat} (H : HK d F v sa) (h : sm S d d') (h1 : 78 ∉ S) (h2 : 79 ∉ S) : HK d' F v sa := by
  unfold HK
  rw [h 78 h1, h 79 h2]
  exact H
section
variable (d : Nat → Nat → Int32) (L : Nat → Nat → Int64) {F : Fr}
set_option maxRecDepth 100000 in
set_option maxHeartbeats 8000000 in
theorem c_weigh (H : HC d F) (R : RG F) (K : HW d F) {v : Nat → Int32} {sa : Nat → Nat} (C : HK d F v sa) {p ho : Nat} (hp : p < F.1 0 0) (x : Int32) : Cn mX1_weigh false 3 0 0 [.ref 77, .ref 23, .int (nI p), .int (nI ho), .int x] (W0 d L) (qS [43, 80] d L (wgh F v sa ho (bt x) p)) := by
  have r1 := R.1
  have r2 := R.2.1
  have lp : ∀ k, k ≤ F.1 4 0 → ∀ a b, a = nI (cF (fun n => bt x n && pt F n p (v n)) k) → b = nI (cF (fun n => bt x n && fl F n p (v n)) k) → Ex mX1_weigh false 3 0 0 9 [some (.ref 77), some (.ref 23), some (.int (nI p)), some (.int (nI ho)), some (.int x), some (.int a), some (.int b), some (.int (nI k))] [] (W0 d L) (qS [43, 80] d L (wgh F v sa ho (bt x) p)) nX := by
    refine x_down _ ?_ ?_
    · intro a b ha hb
      obtain ⟨h1, h2, h3, h4, h5, h6, h7, h8⟩ := H
      repeat refine x_s rfl rfl ?_
      refine x_br rfl rfl (fun c => ?_) (fun c => absurd c (fun z => z (lp_x h2)))
      repeat refine x_s rfl rfl ?_
      cases hg : F.2.2 with
      | none =>
        rw [hg] at h8
        have h8' : d 41 0 = 0 := h8
        refine x_br rfl rfl (fun c => absurd c (fun z => z h8')) (fun c => ?_)
        repeat refine x_s rfl rfl ?_
        refine x_iret rfl rfl rfl ⟨?_, d, rfl, sm_rfl⟩
        rw [ha, wgh, hg]
      | some g =>
        rw [hg] at h8
        obtain ⟨T, t1, t2, t3, t4, t5, t6⟩ := h8
        refine x_br rfl rfl (fun c => ?_) (fun c => absurd c (fun z => nI_ne0 t1 (by omega) (t3.symm.trans z)))
        repeat refine x_s rfl rfl ?_
        refine x_iast rfl rfl (k := 0) (rfl) (by omega) (by decide) rfl ?_
        repeat refine x_s rfl rfl ?_
        refine x_iast rfl rfl (k := 1) (rfl) (by omega) (by decide) rfl ?_
        repeat refine x_s rfl rfl ?_
        refine x_ald rfl rfl rfl (k := p) (rfl) (by omega) (by decide) rfl ?_
        refine x_iast rfl rfl (k := 2) (rfl) (by omega) (by decide) rfl ?_
        repeat refine x_s rfl rfl ?_
        refine x_ald rfl rfl rfl (k := p) (rfl) (by omega) (by decide) rfl ?_
        refine x_iast rfl rfl (k := 3) (rfl) (by omega) (by decide) rfl ?_
        repeat refine x_s rfl rfl ?_
        refine x_iast rfl rfl (k := 4) (rfl) (by omega) (by decide) rfl ?_
        repeat refine x_s rfl rfl ?_
        refine x_cv (c_run41 _ L T t3 t2 t4 t5) rfl rfl rfl (by decide) rfl (by decide) rfl (Nat.le_of_ble_eq_true rfl) (by decide) (by decide) (by decide) ?_
        rintro _ _ ⟨rfl, f, rfl⟩
        refine x_iret rfl rfl rfl ⟨?_, _, rfl, sm_uC (sm_up (sm_up (sm_up (sm_up (sm_up sm_rfl (by decide)) (by decide)) (by decide)) (by decide)) (by decide)) (by decide)⟩
        refine congrArg (fun z => some (Value.int z)) ?_
        rw [wgh, hg]
        refine (t6 _).trans (g_ext t6 ?_)
        intro i hi
        rcases (by omega : i = 0 ∨ i = 1 ∨ i = 2 ∨ i = 3 ∨ i = 4) with rfl | rfl | rfl | rfl | rfl
        · exact ha
        · exact hb
        · exact (h4 p hp).2.2
        · exact C.2 p hp
        · rfl
    · intro k hk ih a b ha hb
      have k1 := (K.1 k hk).2.2 p hp
      have v1 := C.1 k hk
      repeat refine x_s rfl rfl ?_
      refine x_br rfl rfl (fun c => absurd c (lp_c H.2.1 hk (by omega))) (fun c => ?_)
      repeat refine x_s rfl rfl ?_
      refine x_br rfl rfl (fun c => ?_) (fun c => ?_)
      · have hc := (bt_test (by omega)).mp c
        iterate 2 refine x_s rfl rfl ?_
        rw [nI_1]
        exact ih _ _ (by simp [cF, hc, ha]) (by simp [cF, hc, hb])
      · have hc : bt x k = true := by
          cases hc : bt x k
          · exact absurd ((bt_test (by omega)).mpr hc) c
          · rfl
        repeat refine x_s rfl rfl ?_
        refine x_ald rfl rfl rfl (k := k) (rfl) (by omega) (by decide) rfl ?_
        repeat refine x_s rfl rfl ?_
        refine x_ald rfl rfl rfl (k := k) rfl (by omega) (by decide) (xav_sides (by omega)) ?_
        repeat refine x_s rfl rfl ?_
        refine x_ald rfl (SH_sides (by omega)) rfl (k := p) (rfl) (by omega) (by decide) rfl ?_
        rw [k1, v1]
        refine x_br rfl rfl (fun c2 => ?_) (fun c2 => ?_)
        · have c3 : ¬ v k = sid F k p := c2
          iterate 2 refine x_s rfl rfl ?_
          rw [nI_1]
          exact ih _ _ (by simp [cF, hc, ha, pt, c3]) (by simp [cF, hc, hb, fl, c3])
        · have c3 : v k = sid F k p := c2
          repeat refine x_s rfl rfl ?_
          refine x_ald rfl rfl rfl (k := k) (rfl) (by omega) (by decide) rfl ?_
          rw [v1]
          repeat refine x_s rfl rfl ?_
          refine x_br rfl rfl (fun c4 => ?_) (fun c4 => ?_)
          · have c5 : ¬ v k = 8 := c4
            iterate 3 refine x_s rfl rfl ?_
            rw [nI_1 k]
            refine ih _ _ ?_ ?_
            · rw [ha, nI_1, cF, if_pos (by rw [hc, pt, decide_eq_true c5, decide_eq_true c3]; rfl)]
            · rw [hb, cF, if_neg (by rw [hc, fl, decide_eq_false c5]; simp)]
          · have c5 : v k = 8 := c4
            iterate 4 refine x_s rfl rfl ?_
            rw [nI_1 k]
            refine ih _ _ ?_ ?_
            · rw [ha, cF, if_neg (by rw [hc, pt, decide_eq_false (show ¬ v k ≠ 8 from fun z => z c5)]; simp)]
            · rw [hb, nI_1, cF, if_pos (by rw [hc, fl, decide_eq_true c5, decide_eq_true c3]; rfl)]
  refine Cn.intro gX1_weigh rfl (Nat.le_of_ble_eq_true rfl) rfl ?_
  iterate 6 refine x_s rfl rfl ?_
  exact lp 0 (Nat.zero_le _) 0 0 rfl rfl
set_option maxRecDepth 100000 in
set_option maxHeartbeats 8000000 in
theorem c_accuse (H : HC d F) (R : RG F) (K : HW d F) {v : Nat → Int32} {sa : Nat → Nat} (C : HK d F v sa) {ho : Nat} (x : Int32) : Cn mX1_accuse false 4 0 0 [.ref 77, .ref 23, .int (nI ho), .int x] (W0 d L) (qS [43, 80] d L (acc F v sa ho (bt x))) := by
  have r1 := R.1
  have lp : ∀ k, k ≤ F.1 0 0 → ∀ a b, (a, b) = bst (wgh F v sa ho (bt x)) k → ∀ d1, sm [43, 80] d d1 → ∀ o, Ex mX1_accuse false 4 0 0 9 [some (.ref 77), some (.ref 23), some (.int (nI ho)), some (.int x), some (.int a), some (.int b), some (.int (nI k)), o] [] (W0 d1 L) (qS [43, 80] d L (acc F v sa ho (bt x))) nX := by
    refine x_down _ ?_ ?_
    · intro a b ha d1 hs o
      have H1 := HC_sm H hs (by decide)
      repeat refine x_s rfl rfl ?_
      refine x_br rfl rfl (fun c => ?_) (fun c => absurd c (fun z => z (lp_x H1.1)))
      repeat refine x_s rfl rfl ?_
      refine x_iret rfl rfl rfl ⟨?_, d1, rfl, hs⟩
      rw [acc, ← ha]
    · intro k hk ih a b ha d1 hs o
      have H1 := HC_sm H hs (by decide)
      repeat refine x_s rfl rfl ?_
      refine x_br rfl rfl (fun c => absurd c (lp_c H1.1 hk (by omega))) (fun c => ?_)
      repeat refine x_s rfl rfl ?_
      refine x_cv (c_weigh d1 L H1 R (HW_sm R K hs (by decide)) (HK_sm C hs (by decide) (by decide)) (ho := ho) hk x) rfl rfl rfl (by decide) rfl (by decide) rfl (Nat.le_of_ble_eq_true rfl) (by decide) (by decide) (by decide) ?_
      rintro _ _ ⟨rfl, d2, rfl, hs2⟩
      repeat refine x_s rfl rfl ?_
      refine x_br rfl rfl (fun c => ?_) (fun c => ?_)
      · iterate 2 refine x_s rfl rfl ?_
        rw [nI_1]
        refine ih _ _ ?_ d2 (sm_go hs hs2) _
        rw [bst, ← ha]
        exact (if_neg (Int32.not_lt.mpr c)).symm
      · iterate 6 refine x_s rfl rfl ?_
        rw [nI_1]
        refine ih _ _ ?_ d2 (sm_go hs hs2) _
        rw [bst, ← ha]
        exact (if_pos (Int32.not_le.mp c)).symm
  refine Cn.intro gX1_accuse rfl (Nat.le_of_ble_eq_true rfl) rfl ?_
  iterate 6 refine x_s rfl rfl ?_
  exact lp 0 (Nat.zero_le _) _ _ rfl d sm_rfl _
set_option maxRecDepth 100000 in
set_option maxHeartbeats 8000000 in
theorem c_silence : Cn mX1_silence false 2 0 0 [.ref 77] (W0 d L) (fun r h => r = none ∧ ∃ d', h = W0 d' L ∧ sm [78, 79] d d' ∧ ∀ F : Fr, RG F → HK d' F (fun _ => -1) (fun _ => 0)) := by
  refine Cn.intro gX1_silence rfl (Nat.le_of_ble_eq_true rfl) rfl ?_
  repeat refine x_s rfl rfl ?_
  refine x_cs (c_fill d L (b := 78) (n := 6) (Or.inr (Or.inl ⟨rfl, rfl⟩)) (-1)) rfl rfl rfl (by decide) (Nat.le_of_ble_eq_true rfl) (by decide) (by decide) (by decide) ?_
  rintro _ _ ⟨rfl, d1, rfl, hs, h1⟩
  repeat refine x_s rfl rfl ?_
  refine x_cs (c_fill d1 L (b := 79) (n := 10) (Or.inr (Or.inr ⟨rfl, rfl⟩)) 0) rfl rfl rfl (by decide) (Nat.le_of_ble_eq_true rfl) (by decide) (by decide) (by decide) ?_
  rintro _ _ ⟨rfl, d2, rfl, hs2, h2⟩
  refine x_vret rfl rfl ⟨rfl, d2, rfl, sm_tr hs hs2 (by simp), fun F R => ⟨fun n hn => ?_, fun p hp => h2 p (by have := R.1; omega)⟩⟩
  rw [hs2 78 (by decide)]
  exact h1 n (by have := R.2.1; omega)
set_option maxRecDepth 100000 in
set_option maxHeartbeats 8000000 in
theorem c_hearOne (H : HC d F) (R : RG F) (K : HW d F) {v : Nat → Int32} {sa : Nat → Nat} (C : HK d F v sa) {p dg ho : Nat} (hp : p < F.1 0 0) (hd : dg ≤ 1000) : Cn mX1_hearOne false 6 0 0 [.ref 77, .ref 23, .int (nI p), .int (nI dg), .int (nI ho)] (W0 d L) (fun r h => r = none ∧ ∃ d', h = W0 d' L ∧ sm [40, 70, 78, 79] d d' ∧ HK d' F (fun n => if hl F n p dg ho then sid F n p else v n) (fun q => if q = p then sa p + 1 else sa q)) := by
  have r1 := R.1
  have r2 := R.2.1
  have lp : ∀ k, k ≤ F.1 4 0 → ∀ d1, sm [40, 70, 78, 79] d d1 → (∀ n, n < F.1 4 0 → d1 78 n = if n < k ∧ hl F n p dg ho = true then sid F n p else v n) → (∀ q, q < F.1 0 0 → d1 79 q = nI (if q = p then sa p + 1 else sa q)) → Ex mX1_hearOne false 6 0 0 24 [some (.ref 77), some (.ref 23), some (.int (nI p)), some (.int (nI dg)), some (.int (nI ho)), some (.int (nI k))] [] (W0 d1 L) (fun r h => r = none ∧ ∃ d', h = W0 d' L ∧ sm [40, 70, 78, 79] d d' ∧ HK d' F (fun n => if hl F n p dg ho then sid F n p else v n) (fun q => if q = p then sa p + 1 else sa q)) nX := by
    refine x_down _ ?_ ?_
    · intro d1 hs h8 h9
      have H1 := HC_sm H hs (by decide)
      repeat refine x_s rfl rfl ?_
      refine x_br rfl rfl (fun c => ?_) (fun c => absurd c (fun z => z (lp_x H1.2.1)))
      refine x_vret rfl rfl ⟨rfl, d1, rfl, hs, fun n hn => ?_, h9⟩
      rw [h8 n hn]
      simp [hn]
    · intro k hk ih d1 hs h8 h9
      have H1 := HC_sm H hs (by decide)
      have K1 := HW_sm R K hs (by decide)
      repeat refine x_s rfl rfl ?_
      refine x_br rfl rfl (fun c => absurd c (lp_c H1.2.1 hk (by omega))) (fun c => ?_)
      repeat refine x_s rfl rfl ?_
      refine x_cv (c_hearsLie d1 L H1 R (n := k) (p := p) (dg := dg) (ho := ho) hk hp hd) rfl rfl rfl (by decide) rfl (by decide) rfl (Nat.le_of_ble_eq_true rfl) (by decide) (by decide) (by decide) ?_
      rintro _ _ ⟨rfl, d2, rfl, hs2⟩
      have K2 := HW_sm R K1 hs2 (by decide)
      refine x_br rfl rfl (fun c => ?_) (fun c => ?_)
      · have hb := bI_0.mp c
        iterate 2 refine x_s rfl rfl ?_
        rw [nI_1]
        refine ih d2 (sm_go hs (sm_in hs2 (by decide))) ?_ ?_
        · intro n hn
          rw [hs2 78 (by decide), h8 n hn]
          by_cases e : n = k
          · subst e
            simp [hb]
          · simp [show n < k ↔ n < k + 1 by omega]
        · rw [hs2 79 (by decide)]
          exact h9
      · have hb := bI_n0.mp c
        repeat refine x_s rfl rfl ?_
        refine x_ald rfl rfl rfl (k := k) rfl (by omega) (by decide) (xav_sides (by omega)) ?_
        repeat refine x_s rfl rfl ?_
        refine x_ald rfl (SH_sides (by omega)) rfl (k := p) (rfl) (by omega) (by decide) rfl ?_
        rw [(K2.1 k hk).2.2 p hp]
        refine x_iast rfl rfl (k := k) (rfl) (by omega) (by decide) rfl ?_
        iterate 2 refine x_s rfl rfl ?_
        rw [nI_1]
        refine ih _ (sm_up (sm_go hs (sm_in hs2 (by decide))) (by decide)) ?_ ?_
        · intro n hn
          by_cases e : n = k
          · subst e
            rw [up2_eq]
            simp [hb]
          · rw [up2_k e, hs2 78 (by decide), h8 n hn]
            simp [show n < k ↔ n < k + 1 by omega]
        · intro q hq
          rw [up2_ne (by decide), hs2 79 (by decide)]
          exact h9 q hq
  refine Cn.intro gX1_hearOne rfl (Nat.le_of_ble_eq_true rfl) rfl ?_
  repeat refine x_s rfl rfl ?_
  refine x_br rfl rfl (fun c => absurd c (nI_pos (by omega))) (fun c => ?_)
  repeat refine x_s rfl rfl ?_
  refine x_br rfl rfl (fun c => ?_) (fun c => absurd c (fun z => z (nI_lt (b := 10) (by omega) (by decide))))
  repeat refine x_s rfl rfl ?_
  refine x_ald rfl rfl rfl (k := p) (rfl) (by omega) (by decide) rfl ?_
  rw [C.2 p hp]
  repeat refine x_s rfl rfl ?_
  refine x_iast rfl rfl (k := p) (rfl) (by omega) (by decide) rfl ?_
  iterate 2 refine x_s rfl rfl ?_
  refine lp 0 (Nat.zero_le _) _ (sm_up sm_rfl (by decide)) ?_ ?_
  · intro n hn
    rw [up2_ne (by decide)]
    simp [C.1 n hn]
  · intro q hq
    by_cases e : q = p
    · subst e
      rw [up2_eq, nI_1]
      simp
    · rw [up2_k e, if_neg e]
      exact C.2 q hq
set_option maxRecDepth 100000 in
set_option maxHeartbeats 8000000 in
theorem c_hearAllC (H : HC d F) (R : RG F) (K : HW d F) {ho : Nat} (hh : ho < 100) : Cn mX1_hearAll false 2 0 0 [.ref 77, .ref 23, .int (nI ho)] (W0 d L) (fun r h => r = none ∧ ∃ d', h = W0 d' L ∧ sm [78, 79] d d' ∧ HK d' F (fun n => sh F n ho) (sai F ho)) := by
  have r1 := R.1
  have r2 := R.2.1
  have r3 := R.2.2.1
  have lpB : ∀ k, k ≤ F.1 4 0 → ∀ d1, sm [78, 79] d d1 → (∀ n, n < k → d1 78 n = sh F n ho) → (∀ q, q < F.1 0 0 → d1 79 q = nI (sai F ho q)) → Ex mX1_hearAll false 2 0 0 64 [some (.ref 77), some (.ref 23), some (.int (nI ho)), some (.ref 34), some (.int (nI k))] [] (W0 d1 L) (fun r h => r = none ∧ ∃ d', h = W0 d' L ∧ sm [78, 79] d d' ∧ HK d' F (fun n => sh F n ho) (sai F ho)) nX := by
    refine x_down _ ?_ ?_
    · intro d1 hs h8 h9
      have H1 := HC_sm H hs (by decide)
      repeat refine x_s rfl rfl ?_
      refine x_br rfl rfl (fun c => ?_) (fun c => absurd c (fun z => z (lp_x H1.2.1)))
      exact x_vret rfl rfl ⟨rfl, d1, rfl, hs, h8, h9⟩
    · intro k hk ih d1 hs h8 h9
      have H1 := HC_sm H hs (by decide)
      have K1 := HW_sm R K hs (by decide)
      repeat refine x_s rfl rfl ?_
      refine x_br rfl rfl (fun c => absurd c (lp_c H1.2.1 hk (by omega))) (fun c => ?_)
      repeat refine x_s rfl rfl ?_
      refine x_ald rfl rfl rfl (k := k) rfl (by omega) (by decide) (xav_rows (by omega)) ?_
      repeat refine x_s rfl rfl ?_
      refine x_ald rfl (SH_rows (by omega)) rfl (k := ho) (rfl) (by omega) (by decide) rfl ?_
      rw [((K1.1 k hk).2.1 ho hh).1]
      refine x_iast rfl rfl (k := k) (rfl) (by omega) (by decide) rfl ?_
      iterate 2 refine x_s rfl rfl ?_
      rw [nI_1]
      refine ih _ (sm_up hs (by decide)) ?_ ?_
      · intro n hn
        by_cases e : n = k
        · subst e
          exact up2_eq
        · rw [up2_k e]
          exact h8 n (by omega)
      · intro q hq
        rw [up2_ne (by decide)]
        exact h9 q hq
  have lpA : ∀ k, k ≤ F.1 9 0 → ∀ d1, sm [78, 79] d d1 → (∀ q, q < 10 → d1 79 q = nI (cF (fun s => decide (F.1 11 s = q) && decide (F.1 10 s ≤ ho)) k)) → Ex mX1_hearAll false 2 0 0 19 [some (.ref 77), some (.ref 23), some (.int (nI ho)), some (.ref 34), some (.int (nI k))] [] (W0 d1 L) (fun r h => r = none ∧ ∃ d', h = W0 d' L ∧ sm [78, 79] d d' ∧ HK d' F (fun n => sh F n ho) (sai F ho)) nX := by
    refine x_down _ ?_ ?_
    · intro d1 hs h9
      have H1 := HC_sm H hs (by decide)
      repeat refine x_s rfl rfl ?_
      refine x_br rfl rfl (fun c => ?_) (fun c => absurd c (fun z => z (lp_x H1.2.2.1)))
      iterate 2 refine x_s rfl rfl ?_
      exact lpB 0 (Nat.zero_le _) d1 hs (fun n hn => by omega) (fun q hq => h9 q (by omega))
    · intro k hk ih d1 hs h9
      have H1 := HC_sm H hs (by decide)
      have h5 := H1.2.2.2.2.2.1 k hk
      have r6 := R.2.2.2.2.2 k hk
      repeat refine x_s rfl rfl ?_
      refine x_br rfl rfl (fun c => absurd c (lp_c H1.2.2.1 hk (by omega))) (fun c => ?_)
      repeat refine x_s rfl rfl ?_
      refine x_ald rfl rfl rfl (k := k) (rfl) (by omega) (by decide) rfl ?_
      rw [h5.1]
      repeat refine x_s rfl rfl ?_
      refine x_br rfl rfl (fun c => ?_) (fun c => ?_)
      · have hc : ¬ F.1 10 k ≤ ho := fun z => absurd c (nI_nlt z (by omega))
        iterate 2 refine x_s rfl rfl ?_
        rw [nI_1]
        refine ih d1 hs (fun q hq => ?_)
        rw [h9 q hq]
        simp [cF, hc]
      · have hc : F.1 10 k ≤ ho := by
          rcases Nat.lt_or_ge ho (F.1 10 k) with z | z
          · exact absurd (nI_lt z (by omega)) c
          · exact z
        repeat refine x_s rfl rfl ?_
        refine x_ald rfl rfl rfl (k := k) (rfl) (by omega) (by decide) rfl ?_
        rw [h5.2.1]
        repeat refine x_s rfl rfl ?_
        refine x_ald rfl rfl rfl (k := F.1 11 k) (rfl) (by omega) (by decide) rfl ?_
        rw [h9 _ (by omega)]
        repeat refine x_s rfl rfl ?_
        refine x_iast rfl rfl (k := F.1 11 k) (rfl) (by omega) (by decide) rfl ?_
        iterate 2 refine x_s rfl rfl ?_
        rw [nI_1 k]
        refine ih _ (sm_up hs (by decide)) (fun q hq => ?_)
        by_cases e : q = F.1 11 k
        · subst e
          rw [up2_eq, nI_1]
          simp [cF, hc]
        · rw [up2_k e, h9 q hq]
          have e' : ¬ F.1 11 k = q := fun z => e z.symm
          simp [cF, e']
  refine Cn.intro gX1_hearAll rfl (Nat.le_of_ble_eq_true rfl) rfl ?_
  repeat refine x_s rfl rfl ?_
  refine x_cs (c_fill d L (b := 79) (n := 10) (Or.inr (Or.inr ⟨rfl, rfl⟩)) 0) rfl rfl rfl (by decide) (Nat.le_of_ble_eq_true rfl) (by decide) (by decide) (by decide) ?_
  rintro _ _ ⟨rfl, d1, rfl, hs, h1⟩
  iterate 2 refine x_s rfl rfl ?_
  exact lpA 0 (Nat.zero_le _) d1 (sm_in hs (by decide)) (fun q hq => h1 q hq)
end
