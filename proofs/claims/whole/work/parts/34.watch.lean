/-! WATCH: who hears, who is in reach -/
/-- returns x, the world stands but for the cells S -/
abbrev qS (S : List Nat) (d : Nat → Nat → Int32) (L : Nat → Nat → Int64) (x : Int32) : xPost := fun r h => r = some (.int x) ∧ ∃ d', h = W0 d' L ∧ sm S d d'
abbrev qP (d : Nat → Nat → Int32) (L : Nat → Nat → Int64) (x : Int32) : xPost := fun r h => r = some (.int x) ∧ h = W0 d L
abbrev nX : Nat → xHp → Prop := fun _ _ => False
theorem lp_x {x : Int32} {n : Nat} (h : x = nI n) : x ≤ nI n := by rw [h]; exact Int32.le_refl _
theorem lp_c {x : Int32} {n k : Nat} (h : x = nI n) (hk : k < n) (hn : n < 1000000) : ¬ x ≤ nI k := by rw [h]; exact nI_ge hk (by omega)
theorem sm_go {S : List Nat} {d d' d'' : Nat → Nat → Int32} (h : sm S d d') (h' : sm S d' d'') : sm S d d'' := sm_tr h h' (fun _ hc => hc.elim id id)
section
variable (d : Nat → Nat → Int32) (L : Nat → Nat → Int64) {F : Fr}
set_option maxRecDepth 100000 in
set_option maxHeartbeats 8000000 in
theorem c_hearersOfLie (H : HC d F) (R : RG F) {p dg ho : Nat} (hp : p < F.1 0 0) (hd : dg ≤ 1000) : Cn mX9_hearersOfLie false 6 0 0 [.ref 23, .int (nI p), .int (nI dg), .int (nI ho)] (W0 d L) (qS [40, 70] d L (bF (fun n => hl F n p dg ho) (F.1 4 0))) := by
  have r2 := R.2.1
  have lp : ∀ k, k ≤ F.1 4 0 → ∀ a, a = bF (fun n => hl F n p dg ho) k → ∀ d1, sm [40, 70] d d1 → Ex mX9_hearersOfLie false 6 0 0 6 [some (.ref 23), some (.int (nI p)), some (.int (nI dg)), some (.int (nI ho)), some (.int a), some (.int (nI k))] [] (W0 d1 L) (qS [40, 70] d L (bF (fun n => hl F n p dg ho) (F.1 4 0))) nX := by
    refine x_down _ ?_ ?_
    · intro a ha d1 hs
      have H1 := HC_sm H hs (by decide)
      repeat refine x_s rfl rfl ?_
      refine x_br rfl rfl (fun c => ?_) (fun c => absurd c (fun z => z (lp_x H1.2.1)))
      repeat refine x_s rfl rfl ?_
      exact x_iret rfl rfl rfl ⟨by rw [ha], d1, rfl, hs⟩
    · intro k hk ih a ha d1 hs
      have H1 := HC_sm H hs (by decide)
      repeat refine x_s rfl rfl ?_
      refine x_br rfl rfl (fun c => absurd c (lp_c H1.2.1 hk (by omega))) (fun c => ?_)
      repeat refine x_s rfl rfl ?_
      refine x_cv (c_hearsLie d1 L H1 R (n := k) (p := p) (dg := dg) (ho := ho) hk hp hd) rfl rfl rfl (by decide) rfl (by decide) rfl (Nat.le_of_ble_eq_true rfl) (by decide) (by decide) (by decide) ?_
      rintro _ _ ⟨rfl, d2, rfl, hs2⟩
      refine x_br rfl rfl (fun c => ?_) (fun c => ?_)
      · have hb := bI_0.mp c
        iterate 2 refine x_s rfl rfl ?_
        rw [nI_1]
        exact ih _ (by simp [bF, hb, ha]) _ (sm_go hs hs2)
      · have hb := bI_n0.mp c
        iterate 8 refine x_s rfl rfl ?_
        rw [nI_1]
        exact ih _ (by simp [bF, hb, ha]) _ (sm_go hs hs2)
  refine Cn.intro gX9_hearersOfLie rfl (Nat.le_of_ble_eq_true rfl) rfl ?_
  iterate 4 refine x_s rfl rfl ?_
  exact lp 0 (Nat.zero_le _) 0 rfl d sm_rfl
set_option maxRecDepth 100000 in
set_option maxHeartbeats 8000000 in
theorem c_heardWithRust (H : HC d F) (R : RG F) {n ru : Nat} (hn : n < F.1 4 0) (hru : ru ≤ 1000) : Cn mX9_heardWithRust false 6 0 0 [.ref 23, .int (nI n), .int (nI ru)] (W0 d L) (qS [40, 70] d L (bF (hu F n ru) (F.1 9 0))) := by
  have r1 := R.1
  have r2 := R.2.1
  have r3 := R.2.2.1
  have r5 := R.2.2.2.2.1 n hn
  have lp : ∀ k, k ≤ F.1 9 0 → ∀ a, a = bF (hu F n ru) k → ∀ d1, sm [40, 70] d d1 → ∀ o1 o2 o3, Ex mX9_heardWithRust false 6 0 0 14 [some (.ref 23), some (.int (nI n)), some (.int (nI ru)), some (.ref 34), some (.int a), some (.int (nI k)), o1, o2, o3] [] (W0 d1 L) (qS [40, 70] d L (bF (hu F n ru) (F.1 9 0))) nX := by
    refine x_down _ ?_ ?_
    · intro a ha d1 hs o1 o2 o3
      have H1 := HC_sm H hs (by decide)
      repeat refine x_s rfl rfl ?_
      refine x_br rfl rfl (fun c => ?_) (fun c => absurd c (fun z => z (lp_x H1.2.2.1)))
      repeat refine x_s rfl rfl ?_
      exact x_iret rfl rfl rfl ⟨by rw [ha], d1, rfl, hs⟩
    · intro k hk ih a ha d1 hs o1 o2 o3
      have H1 := HC_sm H hs (by decide)
      have r6 := R.2.2.2.2.2 k hk
      have r4 := R.2.2.2.1 _ r6.2.1
      have h4 := H1.2.2.2.2.1 n hn
      have h5 := H1.2.2.2.2.2.1 k hk
      have h3 := H1.2.2.2.1 _ r6.2.1
      have hf := far_le R hn r6.2.1
      repeat refine x_s rfl rfl ?_
      refine x_br rfl rfl (fun c => absurd c (lp_c H1.2.2.1 hk (by omega))) (fun c => ?_)
      repeat refine x_s rfl rfl ?_
      refine x_ald rfl rfl rfl (k := k) (rfl) (by omega) (by decide) rfl ?_
      rw [h5.2.1]
      repeat refine x_s rfl rfl ?_
      refine x_cv (c_farBetween d1 L H1 R hn r6.2.1) rfl rfl rfl (by decide) rfl (by decide) rfl (Nat.le_of_ble_eq_true rfl) (by decide) (by decide) (by decide) ?_
      rintro _ _ ⟨rfl, rfl⟩
      repeat refine x_s rfl rfl ?_
      refine x_ald rfl rfl rfl (k := n) (rfl) (by omega) (by decide) rfl ?_
      repeat refine x_s rfl rfl ?_
      refine x_ald rfl rfl rfl (k := k) (rfl) (by omega) (by decide) rfl ?_
      repeat refine x_s rfl rfl ?_
      refine x_ald rfl rfl rfl (k := F.1 11 k) (rfl) (by omega) (by decide) rfl ?_
      repeat refine x_s rfl rfl ?_
      refine x_ald rfl rfl rfl (k := k) (rfl) (by omega) (by decide) rfl ?_
      rw [h4.2.2.1, h5.2.2, h3.2.2, h5.1]
      refine x_cv (c_turns d1 L H1 (dg := F.1 12 k) (sk := F.1 3 (F.1 11 k)) (fa := far F n (F.1 11 k)) (re := F.1 7 n) (ru := ru) (ho := F.1 10 k) (by omega) (by omega) (by omega) (by omega)) rfl rfl rfl (by decide) rfl (by decide) rfl (Nat.le_of_ble_eq_true rfl) (by decide) (by decide) (by decide) ?_
      rintro _ _ ⟨rfl, d2, rfl, hs2⟩
      refine x_br rfl rfl (fun c => ?_) (fun c => ?_)
      · have hb : hu F n ru k = false := bI_0.mp c
        iterate 2 refine x_s rfl rfl ?_
        rw [nI_1]
        exact ih _ (by simp [bF, hb, ha]) _ (sm_go hs hs2) _ _ _
      · have hb : hu F n ru k = true := bI_n0.mp c
        iterate 8 refine x_s rfl rfl ?_
        rw [nI_1]
        exact ih _ (by simp [bF, hb, ha]) _ (sm_go hs hs2) _ _ _
  refine Cn.intro gX9_heardWithRust rfl (Nat.le_of_ble_eq_true rfl) rfl ?_
  iterate 8 refine x_s rfl rfl ?_
  exact lp 0 (Nat.zero_le _) 0 rfl d sm_rfl _ _ _
set_option maxRecDepth 100000 in
set_option maxHeartbeats 8000000 in
theorem c_inReach (H : HC d F) (R : RG F) {p : Nat} (hp : p < F.1 0 0) : Cn mX9_inReach false 4 0 0 [.ref 23, .int (nI p)] (W0 d L) (qP d L (bF (fun n => decide (far F n p ≤ F.1 7 n)) (F.1 4 0))) := by
  have r2 := R.2.1
  have lp : ∀ k, k ≤ F.1 4 0 → ∀ a, a = bF (fun n => decide (far F n p ≤ F.1 7 n)) k → Ex mX9_inReach false 4 0 0 4 [some (.ref 23), some (.int (nI p)), some (.int a), some (.int (nI k))] [] (W0 d L) (qP d L (bF (fun n => decide (far F n p ≤ F.1 7 n)) (F.1 4 0))) nX := by
    refine x_down _ ?_ ?_
    · intro a ha
      repeat refine x_s rfl rfl ?_
      refine x_br rfl rfl (fun c => ?_) (fun c => absurd c (fun z => z (lp_x H.2.1)))
      repeat refine x_s rfl rfl ?_
      exact x_iret rfl rfl rfl ⟨by rw [ha], rfl⟩
    · intro k hk ih a ha
      have h4 := H.2.2.2.2.1 k hk
      have r5 := R.2.2.2.2.1 k hk
      have hf := far_le R hk hp
      repeat refine x_s rfl rfl ?_
      refine x_br rfl rfl (fun c => absurd c (lp_c H.2.1 hk (by omega))) (fun c => ?_)
      repeat refine x_s rfl rfl ?_
      refine x_cv (c_farBetween d L H R hk hp) rfl rfl rfl (by decide) rfl (by decide) rfl (Nat.le_of_ble_eq_true rfl) (by decide) (by decide) (by decide) ?_
      rintro _ _ ⟨rfl, rfl⟩
      repeat refine x_s rfl rfl ?_
      refine x_ald rfl rfl rfl (k := k) (rfl) (by omega) (by decide) rfl ?_
      rw [h4.2.2.1]
      refine x_br rfl rfl (fun c => ?_) (fun c => ?_)
      · have hb : ¬ far F k p ≤ F.1 7 k := fun z => absurd c (nI_nlt z (by omega))
        iterate 2 refine x_s rfl rfl ?_
        rw [nI_1]
        exact ih _ (by simp [bF, hb, ha])
      · have hb : far F k p ≤ F.1 7 k := by
          rcases Nat.lt_or_ge (F.1 7 k) (far F k p) with h | h
          · exact absurd (nI_lt h (by omega)) c
          · exact h
        iterate 8 refine x_s rfl rfl ?_
        rw [nI_1]
        exact ih _ (by simp [bF, hb, ha])
  refine Cn.intro gX9_inReach rfl (Nat.le_of_ble_eq_true rfl) rfl ?_
  iterate 4 refine x_s rfl rfl ?_
  exact lp 0 (Nat.zero_le _) 0 rfl
end
