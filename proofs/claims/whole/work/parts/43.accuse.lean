/-! WHO IS ACCUSED -/
theorem cF_0 {f : Nat → Bool} : ∀ {n : Nat}, (∀ i, i < n → f i = false) → cF f n = 0
  | 0, _ => rfl
  | n + 1, h => by
    unfold cF
    rw [h n (by omega), cF_0 (fun i hi => h i (by omega))]
    rfl
theorem acc_cong {F : Fr} {v v' : Nat → Int32} {sa sa' : Nat → Nat} {ho : Nat} {ms ms' : Nat → Bool} (h1 : ∀ n, n < F.1 4 0 → v n = v' n) (h2 : ∀ p, p < F.1 0 0 → sa p = sa' p) (h3 : ∀ n, n < F.1 4 0 → ms n = ms' n) : acc F v sa ho ms = acc F v' sa' ho ms' := by
  unfold acc
  rw [bst_cong]
  intro p hp
  have e1 : cF (fun n => ms n && pt F n p (v n)) (F.1 4 0) = cF (fun n => ms' n && pt F n p (v' n)) (F.1 4 0) := cF_cong (fun n hn => by rw [h1 n hn, h3 n hn])
  have e2 : cF (fun n => ms n && fl F n p (v n)) (F.1 4 0) = cF (fun n => ms' n && fl F n p (v' n)) (F.1 4 0) := cF_cong (fun n hn => by rw [h1 n hn, h3 n hn])
  unfold wgh
  rw [e1, e2, h2 p hp]
def tt (_ : Nat) : Bool := true
def accI (F : Fr) (ho : Nat) : Int32 := acc F (fun n => sh F n ho) (sai F ho) ho tt
def accA (F : Fr) (p dg ho : Nat) : Int32 := acc F (fun n => shA F dg ho n p) (fun q => if q = p then 1 else 0) ho tt
def accB (F : Fr) (ho : Nat) (y : Int32) : Int32 := acc F (fun n => sBL F n ho y) (fun p => sai F ho p + if bt y p then 1 else 0) ho tt
theorem acc_all {F : Fr} (R : RG F) {v : Nat → Int32} {sa : Nat → Nat} {ho : Nat} : acc F v sa ho (bt (-1)) = acc F v sa ho tt := acc_cong (fun _ _ => rfl) (fun _ _ => rfl) (fun n hn => b_m1 n (by have := R.2.1; omega))
section
variable (d : Nat → Nat → Int32) (L : Nat → Nat → Int64) {F : Fr}
set_option maxRecDepth 100000 in
set_option maxHeartbeats 8000000 in
theorem c_hearBesides (H : HC d F) (R : RG F) (K : HW d F) {ho : Nat} (hh : ho < 100) (h6 : H67 d F 9 ho) (h7 : H71 d F ho) (y : Int32) : Cn mX1_hearBesides false 5 0 0 [.ref 77, .ref 23, .int (nI ho), .int y] (W0 d L) (fun r h => r = none ∧ ∃ d', h = W0 d' L ∧ sm [69, 78, 79] d d' ∧ HK d' F (fun n => sBL F n ho y) (fun p => sai F ho p + if bt y p then 1 else 0)) := by
  have r1 := R.1
  have r2 := R.2.1
  have lpB : ∀ k, k ≤ F.1 4 0 → ∀ d1, sm [69, 78, 79] d d1 → (∀ n, n < k → d1 78 n = sBL F n ho y) → (∀ q, q < F.1 0 0 → d1 79 q = nI (sai F ho q + if bt y q then 1 else 0)) → Ex mX1_hearBesides false 5 0 0 41 [some (.ref 77), some (.ref 23), some (.int (nI ho)), some (.int y), some (.int (nI k))] [] (W0 d1 L) (fun r h => r = none ∧ ∃ d', h = W0 d' L ∧ sm [69, 78, 79] d d' ∧ HK d' F (fun n => sBL F n ho y) (fun p => sai F ho p + if bt y p then 1 else 0)) nX := by
    refine x_down _ ?_ ?_
    · intro d1 hs h8 h9
      have H1 := HC_sm H hs (by decide)
      repeat refine x_s rfl rfl ?_
      refine x_br rfl rfl (fun c => ?_) (fun c => absurd c (fun z => z (lp_x H1.2.1)))
      exact x_vret rfl rfl ⟨rfl, d1, rfl, hs, h8, h9⟩
    · intro k hk ih d1 hs h8 h9
      have H1 := HC_sm H hs (by decide)
      have K1 := HW_sm R K hs (by decide)
      repeat refine x_s rfl rfl ?_
      refine x_br rfl rfl (fun c => absurd c (lp_c H1.2.1 hk (by omega))) (fun c => ?_)
      repeat refine x_s rfl rfl ?_
      refine x_cv (c_shownBesidesLies d1 L H1 R K1 hk hh (H67_sm h6 hs (by decide)) (H71_sm R h7 hs (by decide)) y) rfl rfl rfl (by decide) rfl (by decide) rfl (Nat.le_of_ble_eq_true rfl) (by decide) (by decide) (by decide) ?_
      rintro _ _ ⟨rfl, d2, rfl, hs2⟩
      refine x_iast rfl rfl (k := k) (rfl) (by omega) (by decide) rfl ?_
      iterate 2 refine x_s rfl rfl ?_
      rw [nI_1]
      refine ih _ (sm_up (sm_go hs (sm_in hs2 (by decide))) (by decide)) ?_ ?_
      · intro n hn
        by_cases e : n = k
        · subst e
          exact up2_eq
        · rw [up2_k e, hs2 78 (by decide)]
          exact h8 n (by omega)
      · intro q hq
        rw [up2_ne (by decide), hs2 79 (by decide)]
        exact h9 q hq
  have lpA : ∀ k, k ≤ 10 → ∀ d1, sm [69, 78, 79] d d1 → (∀ q, q < F.1 0 0 → d1 79 q = nI (sai F ho q + if q < k ∧ bt y q = true then 1 else 0)) → Ex mX1_hearBesides false 5 0 0 9 [some (.ref 77), some (.ref 23), some (.int (nI ho)), some (.int y), some (.int (nI k))] [] (W0 d1 L) (fun r h => r = none ∧ ∃ d', h = W0 d' L ∧ sm [69, 78, 79] d d' ∧ HK d' F (fun n => sBL F n ho y) (fun p => sai F ho p + if bt y p then 1 else 0)) nX := by
    refine x_down _ ?_ ?_
    · intro d1 hs h9
      repeat refine x_s rfl rfl ?_
      refine x_br rfl rfl (fun c => ?_) (fun c => absurd c (fun z => z (by decide)))
      iterate 2 refine x_s rfl rfl ?_
      refine lpB 0 (Nat.zero_le _) d1 hs (fun n hn => by omega) (fun q hq => ?_)
      rw [h9 q hq]
      simp [show q < 10 by omega]
    · intro k hk ih d1 hs h9
      repeat refine x_s rfl rfl ?_
      refine x_br rfl rfl (fun c => absurd c (nI_ge (b := 10) hk (by decide))) (fun c => ?_)
      repeat refine x_s rfl rfl ?_
      refine x_ald rfl rfl rfl (k := k) (rfl) (by omega) (by decide) rfl ?_
      repeat refine x_s rfl rfl ?_
      refine x_iast rfl rfl (k := k) (rfl) (by omega) (by decide) rfl ?_
      iterate 2 refine x_s rfl rfl ?_
      rw [nI_1 k]
      refine ih _ (sm_up hs (by decide)) (fun q hq => ?_)
      by_cases e : q = k
      · subst e
        rw [up2_eq, h9 q hq]
        cases hb : bt y q
        · rw [(bt_test (by omega)).mpr hb]
          simp
        · rw [(bt_test1 (by omega)).mpr hb, nI_1]
          simp
      · rw [up2_k e, h9 q hq]
        simp [show q < k ↔ q < k + 1 by omega]
  refine Cn.intro gX1_hearBesides rfl (Nat.le_of_ble_eq_true rfl) rfl ?_
  repeat refine x_s rfl rfl ?_
  refine x_cv (c_hearAllC d L H R K hh) rfl rfl rfl (by decide) rfl (by decide) rfl (Nat.le_of_ble_eq_true rfl) (by decide) (by decide) (by decide) ?_
  rintro _ _ ⟨rfl, d1, rfl, hs, hk⟩
  iterate 2 refine x_s rfl rfl ?_
  refine lpA 0 (Nat.zero_le _) d1 (sm_in hs (by decide)) (fun q hq => ?_)
  rw [hk.2 q hq]
  simp
set_option maxRecDepth 100000 in
set_option maxHeartbeats 8000000 in
theorem c_accusedIn (H : HC d F) (R : RG F) (K : HW d F) {ho : Nat} (hh : ho < 100) : Cn mX11_accusedIn false 5 0 0 [.ref 0, .int (nI ho)] (W0 d L) (qS [43, 80, 78, 79] d L (accI F ho)) := by
  refine Cn.intro gX11_accusedIn rfl (Nat.le_of_ble_eq_true rfl) rfl ?_
  repeat refine x_s rfl rfl ?_
  refine x_cv (c_hearAllC d L H R K hh) rfl rfl rfl (by decide) rfl (by decide) rfl (Nat.le_of_ble_eq_true rfl) (by decide) (by decide) (by decide) ?_
  rintro _ _ ⟨rfl, d1, rfl, hs, hk⟩
  repeat refine x_s rfl rfl ?_
  refine x_cv (c_accuse d1 L (HC_sm H hs (by decide)) R (HW_sm R K hs (by decide)) hk (-1)) rfl rfl rfl (by decide) rfl (by decide) rfl (Nat.le_of_ble_eq_true rfl) (by decide) (by decide) (by decide) ?_
  rintro _ _ ⟨rfl, d2, rfl, hs2⟩
  rw [acc_all R]
  exact x_iret rfl rfl rfl ⟨rfl, d2, rfl, sm_go (sm_in hs (by decide)) (sm_in hs2 (by decide))⟩
set_option maxRecDepth 100000 in
set_option maxHeartbeats 8000000 in
theorem c_accusedAlone (H : HC d F) (R : RG F) (K : HW d F) {p dg ho : Nat} (hp : p < F.1 0 0) (hd : dg ≤ 1000) : Cn mX11_accusedAlone false 7 0 0 [.ref 0, .int (nI p), .int (nI dg), .int (nI ho)] (W0 d L) (qS [43, 80, 78, 79, 40, 70] d L (accA F p dg ho)) := by
  refine Cn.intro gX11_accusedAlone rfl (Nat.le_of_ble_eq_true rfl) rfl ?_
  repeat refine x_s rfl rfl ?_
  refine x_cv (c_silence d L) rfl rfl rfl (by decide) rfl (by decide) rfl (Nat.le_of_ble_eq_true rfl) (by decide) (by decide) (by decide) ?_
  rintro _ _ ⟨rfl, d1, rfl, hs, hk⟩
  have H1 := HC_sm H hs (by decide)
  have K1 := HW_sm R K hs (by decide)
  repeat refine x_s rfl rfl ?_
  refine x_cv (c_hearOne d1 L H1 R K1 (hk F R) (p := p) (dg := dg) (ho := ho) hp hd) rfl rfl rfl (by decide) rfl (by decide) rfl (Nat.le_of_ble_eq_true rfl) (by decide) (by decide) (by decide) ?_
  rintro _ _ ⟨rfl, d2, rfl, hs2, hk2⟩
  repeat refine x_s rfl rfl ?_
  refine x_cv (c_accuse d2 L (HC_sm H1 hs2 (by decide)) R (HW_sm R K1 hs2 (by decide)) hk2 (-1)) rfl rfl rfl (by decide) rfl (by decide) rfl (Nat.le_of_ble_eq_true rfl) (by decide) (by decide) (by decide) ?_
  rintro _ _ ⟨rfl, d3, rfl, hs3⟩
  rw [acc_all R]
  exact x_iret rfl rfl rfl ⟨rfl, d3, rfl, sm_go (sm_in hs (by decide)) (sm_go (sm_in hs2 (by decide)) (sm_in hs3 (by decide)))⟩
end
