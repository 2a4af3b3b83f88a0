/-! WATCH: refresh -/
def SR : List Nat := [40, 70, 69, 44, 66, 46, 47, 48, 49, 50, 51, 53, 54, 55, 56, 57, 58, 60, 61, 62, 63, 64, 65]
theorem SR_n {n : Nat} (h : n < 6) : 46 + n ∈ SR ∧ 53 + n ∈ SR ∧ 60 + n ∈ SR := by
  rcases (by omega : n = 0 ∨ n = 1 ∨ n = 2 ∨ n = 3 ∨ n = 4 ∨ n = 5) with rfl | rfl | rfl | rfl | rfl | rfl <;> decide
theorem nHC {n : Nat} (h : n < 6) : 46 + n ∉ 66 :: 69 :: HCc ∧ 53 + n ∉ 66 :: 69 :: HCc := by
  rcases (by omega : n = 0 ∨ n = 1 ∨ n = 2 ∨ n = 3 ∨ n = 4 ∨ n = 5) with rfl | rfl | rfl | rfl | rfl | rfl <;> decide
/-- what refresh lays for one needle -/
def KF (d : Nat → Nat → Int32) (F : Fr) (n : Nat) : Prop := d 44 n = bF (hr F n) (F.1 9 0) ∧ (∀ h, h < 100 → d (46 + n) h = sh F n h ∧ d (53 + n) h = la F n h) ∧ ∀ p, p < F.1 0 0 → d (60 + n) p = sid F n p
theorem hu_hr (F : Fr) (n : Nat) : hu F n (F.1 8 n) = hr F n := rfl
section
variable (d : Nat → Nat → Int32) (L : Nat → Nat → Int64) {F : Fr}
set_option maxRecDepth 100000 in
set_option maxHeartbeats 8000000 in
theorem c_refresh (H : HC d F) (R : RG F) : Cn mX9_refresh false 7 0 0 [.ref 23] (W0 d L) (fun r h => r = none ∧ ∃ d', h = W0 d' L ∧ sm SR d d' ∧ HW d' F) := by
  have r1 := R.1
  have r2 := R.2.1
  have r3 := R.2.2.1
  have lpB : ∀ k, k ≤ F.1 4 0 → ∀ d1, sm SR d d1 → (∀ h, h < 100 → d1 66 h = bF (fun s => decide (F.1 10 s = h)) (F.1 9 0)) → (∀ m, m < k → KF d1 F m) → ∀ o, Ex mX9_refresh false 7 0 0 51 [some (.ref 23), some (.ref 34), some (.int (nI k)), o] [] (W0 d1 L) (fun r h => r = none ∧ ∃ d', h = W0 d' L ∧ sm SR d d' ∧ HW d' F) nX := by
    refine x_down _ ?_ ?_
    · intro d1 hs h66 hK o
      have H1 := HC_sm H hs (by decide)
      repeat refine x_s rfl rfl ?_
      refine x_br rfl rfl (fun c => ?_) (fun c => absurd c (fun z => z (lp_x H1.2.1)))
      exact x_vret rfl rfl ⟨rfl, d1, rfl, hs, hK, h66⟩
    · intro k hk ih d1 hs h66 hK o
      have hk6 : k < 6 := by omega
      have H1 := HC_sm H hs (by decide)
      have r5 := R.2.2.2.2.1 k hk
      repeat refine x_s rfl rfl ?_
      refine x_br rfl rfl (fun c => absurd c (lp_c H1.2.1 hk (by omega))) (fun c => ?_)
      iterate 2 refine x_s rfl rfl ?_
      have lpC : ∀ j, j ≤ F.1 0 0 → ∀ d2, sm [60 + k] d1 d2 → (∀ p, p < j → d2 (60 + k) p = sid F k p) → Ex mX9_refresh false 7 0 0 67 [some (.ref 23), some (.ref 34), some (.int (nI k)), some (.int (nI j))] [] (W0 d2 L) (fun r h => r = none ∧ ∃ d', h = W0 d' L ∧ sm SR d d' ∧ HW d' F) nX := by
        have dis : ∀ c, c ∈ HCc → c ∉ [60 + k] := by
          intro c hc h2
          simp only [List.mem_cons, List.not_mem_nil, or_false] at h2
          rcases (by omega : k = 0 ∨ k = 1 ∨ k = 2 ∨ k = 3 ∨ k = 4 ∨ k = 5) with rfl | rfl | rfl | rfl | rfl | rfl <;> (subst h2; revert hc; decide)
        refine x_down _ ?_ ?_
        · intro d2 hs2 hp2
          have H2 := HC_sm H1 hs2 dis
          have h4 := H2.2.2.2.2.1 k hk
          repeat refine x_s rfl rfl ?_
          refine x_br rfl rfl (fun c => ?_) (fun c => absurd c (fun z => z (lp_x H2.1)))
          repeat refine x_s rfl rfl ?_
          refine x_ald rfl rfl rfl (k := k) (rfl) (by omega) (by decide) rfl ?_
          rw [h4.2.2.2]
          refine x_cv (c_heardWithRust d2 L H2 R hk (ru := F.1 8 k) (by omega)) rfl rfl rfl (by decide) rfl (by decide) rfl (Nat.le_of_ble_eq_true rfl) (by decide) (by decide) (by decide) ?_
          rintro _ _ ⟨rfl, d3, rfl, hs3⟩
          rw [hu_hr]
          refine x_iast rfl rfl (k := k) (rfl) (by omega) (by decide) rfl ?_
          repeat refine x_s rfl rfl ?_
          refine x_ald rfl rfl rfl (k := k) (rfl) (by omega) (by decide) rfl ?_
          repeat refine x_s rfl rfl ?_
          refine x_ald rfl rfl rfl (k := k) rfl (by omega) (by decide) (xav_rows (by omega)) ?_
          repeat refine x_s rfl rfl ?_
          refine x_ald rfl rfl rfl (k := k) rfl (by omega) (by decide) (xav_lasts (by omega)) ?_
          obtain ⟨d4, hd4⟩ : ∃ d4, d4 = up2 d3 44 k (bF (hr F k) (F.1 9 0)) := ⟨_, rfl⟩
          have e44 : d4 44 k = bF (hr F k) (F.1 9 0) := by rw [hd4]; exact up2_eq
          have o44 : ∀ m, m ≠ k → d4 44 m = d3 44 m := fun m hm => by rw [hd4]; exact up2_k hm
          have hs4 : sm [44] d3 d4 := by rw [hd4]; exact sm_up sm_rfl (by decide)
          rw [← hd4, e44]
          have H3 := HC_sm H2 hs3 (by decide)
          have H4 := HC_sm H3 hs4 (by decide)
          have h66' : ∀ h, h < 100 → d4 66 h = bF (fun s => decide (F.1 10 s = h)) (F.1 9 0) := by
            intro h hh
            rw [hs4 66 (by decide), hs3 66 (by decide), hs2 66 (by simp; omega)]
            exact h66 h hh
          refine x_cv (c_fillRow d4 L H4 R h66' hk (fun s hs => by rw [bF_bt _ _ _ (by omega), decide_eq_true hs, Bool.true_and]) (SH_rows hk6) (SH_lasts hk6) (by omega) (nHC hk6).1 (nHC hk6).2) rfl rfl rfl (by decide) rfl (by decide) rfl (Nat.le_of_ble_eq_true rfl) (by decide) (by decide) (by decide) ?_
          rintro _ _ ⟨rfl, d5, rfl, hs5, hj5⟩
          iterate 2 refine x_s rfl rfl ?_
          rw [nI_1]
          refine ih d5 ?_ ?_ ?_ _
          · refine sm_go hs (sm_go (sm_in hs2 ?_) (sm_go (sm_in hs3 (by decide)) (sm_go (sm_in hs4 (by decide)) (sm_in hs5 ?_))))
            · intro c hc
              simp only [List.mem_cons, List.not_mem_nil, or_false] at hc
              rw [hc]
              exact (SR_n hk6).2.2
            · intro c hc
              simp only [List.mem_cons, List.not_mem_nil, or_false] at hc
              rcases hc with rfl | rfl | rfl
              · decide
              · exact (SR_n hk6).1
              · exact (SR_n hk6).2.1
          · intro h hh
            rw [hs5 66 (by simp; omega)]
            exact h66' h hh
          · intro m hm
            by_cases e : m = k
            · subst e
              refine ⟨?_, fun h hh => hj5 h hh, fun p hp => ?_⟩
              · rw [hs5 44 (by simp; omega)]
                exact e44
              · rw [hs5 _ (by simp; omega), hs4 _ (by simp; omega), hs3 _ (by simp; omega)]
                exact hp2 p hp
            · obtain ⟨a1, a2, a3⟩ := hK m (by omega)
              have f1 : d5 44 m = d1 44 m := by rw [hs5 44 (by simp; omega), o44 m e, hs3 44 (by decide), hs2 44 (by simp; omega)]
              have f2 : d5 (46 + m) = d1 (46 + m) := by rw [hs5 _ (by simp; omega), hs4 _ (by simp; omega), hs3 _ (by simp; omega), hs2 _ (by simp; omega)]
              have f3 : d5 (53 + m) = d1 (53 + m) := by rw [hs5 _ (by simp; omega), hs4 _ (by simp; omega), hs3 _ (by simp; omega), hs2 _ (by simp; omega)]
              have f4 : d5 (60 + m) = d1 (60 + m) := by rw [hs5 _ (by simp; omega), hs4 _ (by simp; omega), hs3 _ (by simp; omega), hs2 _ (by simp; omega)]
              unfold KF
              rw [f1, f2, f3, f4]
              exact ⟨a1, a2, a3⟩
        · intro j hj ih2 d2 hs2 hp2
          have H2 := HC_sm H1 hs2 dis
          have t := dx_t R hk hj
          repeat refine x_s rfl rfl ?_
          refine x_br rfl rfl (fun c => absurd c (lp_c H2.1 hj (by omega))) (fun c => ?_)
          repeat refine x_s rfl rfl ?_
          refine x_ald rfl rfl rfl (k := k) rfl (by omega) (by decide) (xav_sides (by omega)) ?_
          repeat refine x_s rfl rfl ?_
          refine x_cv (c_wayX d2 L H2 R hk hj) rfl rfl rfl (by decide) rfl (by decide) rfl (Nat.le_of_ble_eq_true rfl) (by decide) (by decide) (by decide) ?_
          rintro _ _ ⟨rfl, rfl⟩
          repeat refine x_s rfl rfl ?_
          refine x_cv (c_wayY d2 L H2 R hk hj) rfl rfl rfl (by decide) rfl (by decide) rfl (Nat.le_of_ble_eq_true rfl) (by decide) (by decide) (by decide) ?_
          rintro _ _ ⟨rfl, rfl⟩
          repeat refine x_s rfl rfl ?_
          refine x_cn (c_sideOf d2 L (nI (F.1 1 j) - nI (F.1 5 k)) (nI (F.1 2 j) - nI (F.1 6 k))) rfl rfl rfl (by decide) (Nat.le_of_ble_eq_true rfl) (by decide) (by decide) (by decide) ?_
          rintro _ _ ⟨rfl, rfl⟩
          rw [t.1, t.2]
          refine x_iast rfl (SH_sides (by omega)) (k := j) (rfl) (by omega) (by decide) rfl ?_
          iterate 2 refine x_s rfl rfl ?_
          rw [nI_1]
          refine ih2 _ (sm_up hs2 (by simp)) ?_
          intro p hp
          by_cases e : p = j
          · subst e
            exact up2_eq
          · rw [up2_k e]
            exact hp2 p (by omega)
      exact lpC 0 (Nat.zero_le _) d1 sm_rfl (fun p hp => by omega)
  have lpA : ∀ k, k ≤ F.1 9 0 → ∀ d1, sm [66] d d1 → (∀ h, h < 100 → d1 66 h = bF (fun s => decide (F.1 10 s = h)) k) → ∀ o, Ex mX9_refresh false 7 0 0 18 [some (.ref 23), some (.ref 34), some (.int (nI k)), o] [] (W0 d1 L) (fun r h => r = none ∧ ∃ d', h = W0 d' L ∧ sm SR d d' ∧ HW d' F) nX := by
    refine x_down _ ?_ ?_
    · intro d1 hs h66 o
      have H1 := HC_sm H hs (by decide)
      repeat refine x_s rfl rfl ?_
      refine x_br rfl rfl (fun c => ?_) (fun c => absurd c (fun z => z (lp_x H1.2.2.1)))
      iterate 2 refine x_s rfl rfl ?_
      exact lpB 0 (Nat.zero_le _) d1 (sm_in hs (by decide)) h66 (fun m hm => by omega) _
    · intro k hk ih d1 hs h66 o
      have H1 := HC_sm H hs (by decide)
      have h5 := H1.2.2.2.2.2.1 k hk
      have r6 := R.2.2.2.2.2 k hk
      repeat refine x_s rfl rfl ?_
      refine x_br rfl rfl (fun c => absurd c (lp_c H1.2.2.1 hk (by omega))) (fun c => ?_)
      repeat refine x_s rfl rfl ?_
      refine x_ald rfl rfl rfl (k := k) (rfl) (by omega) (by decide) rfl ?_
      rw [h5.1]
      repeat refine x_s rfl rfl ?_
      refine x_ald rfl rfl rfl (k := F.1 10 k) (rfl) (by omega) (by decide) rfl ?_
      repeat refine x_s rfl rfl ?_
      refine x_iast rfl rfl (k := F.1 10 k) (rfl) (by omega) (by decide) rfl ?_
      iterate 2 refine x_s rfl rfl ?_
      rw [nI_1]
      refine ih _ (sm_up hs (by decide)) ?_ _
      intro h hh
      by_cases e : h = F.1 10 k
      · subst e
        rw [up2_eq, h66 _ r6.1]
        simp [bF]
      · rw [up2_k e, h66 h hh]
        simp [bF]
        exact fun z => absurd z.symm e
  refine Cn.intro gX9_refresh rfl (Nat.le_of_ble_eq_true rfl) rfl ?_
  repeat refine x_s rfl rfl ?_
  refine x_cs (c_fill d L (b := 66) (n := 100) (Or.inl ⟨rfl, rfl⟩) 0) rfl rfl rfl (by decide) (Nat.le_of_ble_eq_true rfl) (by decide) (by decide) (by decide) ?_
  rintro _ _ ⟨rfl, d1, rfl, hs, hz⟩
  iterate 2 refine x_s rfl rfl ?_
  exact lpA 0 (Nat.zero_le _) d1 hs hz _
end
