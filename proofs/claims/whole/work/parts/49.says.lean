/-! SAYINGS: what is counted -/
def ltF (F : Fr) : Nat → Int32
  | 0 => -1
  | k + 1 => if ltF F k < nI (F.1 10 k) then nI (F.1 10 k) else ltF F k
def mh (F : Fr) (h : Nat) : Nat := cF (fun s => decide (F.1 10 s = h) && decide (0 < F.1 12 s)) (F.1 9 0)
def mx (f : Nat → Nat) : Nat → Nat
  | 0 => 0
  | k + 1 => if mx f k < f k then f k else mx f k
theorem mx_le {f : Nat → Nat} {m : Nat} : ∀ {n : Nat}, (∀ i, i < n → f i ≤ m) → mx f n ≤ m
  | 0, _ => Nat.zero_le _
  | n + 1, h => by
    have := mx_le (n := n) (fun i hi => h i (by omega))
    have := h n (by omega)
    unfold mx
    split <;> omega
theorem mx_ge {f : Nat → Nat} : ∀ {n i : Nat}, i < n → f i ≤ mx f n
  | 0, i, h => by omega
  | n + 1, i, h => by
    unfold mx
    by_cases e : i = n
    · subst e
      split <;> omega
    · have := mx_ge (f := f) (n := n) (i := i) (by omega)
      split <;> omega
theorem mx_hours (F : Fr) (R : RG F) : mx (fun s => mh F (F.1 10 s)) (F.1 9 0) = mx (mh F) 100 := by
  apply Nat.le_antisymm
  · exact mx_le (fun s hs => mx_ge (R.2.2.2.2.2 s hs).1)
  · apply mx_le
    intro h _
    cases hz : aF (fun s => decide (F.1 10 s = h) && decide (0 < F.1 12 s)) (F.1 9 0) with
    | false =>
      have : mh F h = 0 := cF_0 (aF_no.mp hz)
      omega
    | true =>
      obtain ⟨s, h1, h2⟩ := aF_iff.mp hz
      simp only [Bool.and_eq_true, decide_eq_true_eq] at h2
      have := mx_ge (f := fun s => mh F (F.1 10 s)) h1
      simp only [h2.1] at this
      exact this
section
variable (d : Nat → Nat → Int32) (L : Nat → Nat → Int64) {F : Fr}
set_option maxRecDepth 100000 in
set_option maxHeartbeats 8000000 in
theorem c_lies (H : HC d F) (R : RG F) : Cn mX7_lies false 1 0 0 [.ref 34] (W0 d L) (qP d L (nI (cF (fun s => decide (0 < F.1 12 s)) (F.1 9 0)))) := by
  have r3 := R.2.2.1
  have lp : ∀ k, k ≤ F.1 9 0 → ∀ a, a = nI (cF (fun s => decide (0 < F.1 12 s)) k) → Ex mX7_lies false 1 0 0 4 [some (.ref 34), some (.int a), some (.int (nI k))] [] (W0 d L) (qP d L (nI (cF (fun s => decide (0 < F.1 12 s)) (F.1 9 0)))) nX := by
    refine x_down _ ?_ ?_
    · intro a ha
      repeat refine x_s rfl rfl ?_
      refine x_br rfl rfl (fun c => ?_) (fun c => absurd c (fun z => z (lp_x H.2.2.1)))
      repeat refine x_s rfl rfl ?_
      exact x_iret rfl rfl rfl ⟨by rw [ha], rfl⟩
    · intro k hk ih a ha
      have h5 := H.2.2.2.2.2.1 k hk
      have r6 := R.2.2.2.2.2 k hk
      repeat refine x_s rfl rfl ?_
      refine x_br rfl rfl (fun c => absurd c (lp_c H.2.2.1 hk (by omega))) (fun c => ?_)
      repeat refine x_s rfl rfl ?_
      refine x_ald rfl rfl rfl (k := k) (rfl) (by omega) (by decide) rfl ?_
      rw [h5.2.2]
      refine x_br rfl rfl (fun c2 => ?_) (fun c2 => ?_)
      · have c3 : ¬ 0 < F.1 12 k := fun z => absurd c2 (nI_nle z (by omega))
        iterate 2 refine x_s rfl rfl ?_
        rw [nI_1]
        exact ih _ (by rw [ha, cF, if_neg (by simpa using c3)])
      · have c3 : 0 < F.1 12 k := by
          rcases Nat.eq_zero_or_pos (F.1 12 k) with z | z
          · rw [z] at c2
            exact absurd (by decide) c2
          · exact z
        iterate 3 refine x_s rfl rfl ?_
        rw [nI_1 k]
        exact ih _ (by simp [cF, ha, c3, nI_1])
  refine Cn.intro gX7_lies rfl (Nat.le_of_ble_eq_true rfl) rfl ?_
  iterate 4 refine x_s rfl rfl ?_
  exact lp 0 (Nat.zero_le _) 0 rfl
set_option maxRecDepth 100000 in
set_option maxHeartbeats 8000000 in
theorem c_latest (H : HC d F) (R : RG F) : Cn mX7_latest false 2 0 0 [.ref 34] (W0 d L) (qP d L (ltF F (F.1 9 0))) := by
  have r3 := R.2.2.1
  have lp : ∀ k, k ≤ F.1 9 0 → ∀ a, a = ltF F k → Ex mX7_latest false 2 0 0 4 [some (.ref 34), some (.int a), some (.int (nI k))] [] (W0 d L) (qP d L (ltF F (F.1 9 0))) nX := by
    refine x_down _ ?_ ?_
    · intro a ha
      repeat refine x_s rfl rfl ?_
      refine x_br rfl rfl (fun c => ?_) (fun c => absurd c (fun z => z (lp_x H.2.2.1)))
      repeat refine x_s rfl rfl ?_
      exact x_iret rfl rfl rfl ⟨by rw [ha], rfl⟩
    · intro k hk ih a ha
      have h5 := H.2.2.2.2.2.1 k hk
      repeat refine x_s rfl rfl ?_
      refine x_br rfl rfl (fun c => absurd c (lp_c H.2.2.1 hk (by omega))) (fun c => ?_)
      repeat refine x_s rfl rfl ?_
      refine x_ald rfl rfl rfl (k := k) (rfl) (by omega) (by decide) rfl ?_
      rw [h5.1]
      refine x_max rfl (by decide) (by decide) ?_
      iterate 3 refine x_s rfl rfl ?_
      rw [nI_1]
      exact ih _ (by rw [ha]; rfl)
  refine Cn.intro gX7_latest rfl (Nat.le_of_ble_eq_true rfl) rfl ?_
  iterate 4 refine x_s rfl rfl ?_
  exact lp 0 (Nat.zero_le _) _ rfl
set_option maxRecDepth 100000 in
set_option maxHeartbeats 8000000 in
theorem c_mostLies (H : HC d F) (R : RG F) : Cn mX7_mostLies false 2 0 0 [.ref 34] (W0 d L) (qP d L (nI (mx (fun s => mh F (F.1 10 s)) (F.1 9 0)))) := by
  have r3 := R.2.2.1
  have lp : ∀ k, k ≤ F.1 9 0 → ∀ a, a = nI (mx (fun s => mh F (F.1 10 s)) k) → ∀ o1 o2, Ex mX7_mostLies false 2 0 0 4 [some (.ref 34), some (.int a), some (.int (nI k)), o1, o2] [] (W0 d L) (qP d L (nI (mx (fun s => mh F (F.1 10 s)) (F.1 9 0)))) nX := by
    refine x_down _ ?_ ?_
    · intro a ha o1 o2
      repeat refine x_s rfl rfl ?_
      refine x_br rfl rfl (fun c => ?_) (fun c => absurd c (fun z => z (lp_x H.2.2.1)))
      repeat refine x_s rfl rfl ?_
      exact x_iret rfl rfl rfl ⟨by rw [ha], rfl⟩
    · intro k hk ih a ha o1 o2
      have h5 := H.2.2.2.2.2.1 k hk
      have r6 := R.2.2.2.2.2 k hk
      repeat refine x_s rfl rfl ?_
      refine x_br rfl rfl (fun c => absurd c (lp_c H.2.2.1 hk (by omega))) (fun c => ?_)
      have lp2 : ∀ j, j ≤ F.1 9 0 → ∀ b, b = nI (cF (fun s => decide (F.1 10 s = F.1 10 k) && decide (0 < F.1 12 s)) j) → Ex mX7_mostLies false 2 0 0 17 [some (.ref 34), some (.int a), some (.int (nI k)), some (.int b), some (.int (nI j))] [] (W0 d L) (qP d L (nI (mx (fun s => mh F (F.1 10 s)) (F.1 9 0)))) nX := by
        refine x_down _ ?_ ?_
        · intro b hb
          repeat refine x_s rfl rfl ?_
          refine x_br rfl rfl (fun c => ?_) (fun c => absurd c (fun z => z (lp_x H.2.2.1)))
          repeat refine x_s rfl rfl ?_
          refine x_max rfl (by decide) (by decide) ?_
          iterate 3 refine x_s rfl rfl ?_
          rw [nI_1]
          refine ih _ ?_ _ _
          rw [ha, hb]
          have e1 : mx (fun s => mh F (F.1 10 s)) k ≤ 16 := mx_le (fun i _ => Nat.le_trans (cF_le _ _) r3)
          have e2 : mh F (F.1 10 k) ≤ 16 := Nat.le_trans (cF_le _ _) r3
          show (if nI (mx (fun s => mh F (F.1 10 s)) k) < nI (mh F (F.1 10 k)) then nI (mh F (F.1 10 k)) else nI (mx (fun s => mh F (F.1 10 s)) k)) = _
          rw [mx]
          by_cases h : mx (fun s => mh F (F.1 10 s)) k < mh F (F.1 10 k)
          · rw [if_pos (nI_lt h (by omega)), if_pos h]
          · rw [if_neg (nI_nlt (by omega) (by omega)), if_neg h]
        · intro j hj ih2 b hb
          have h6 := H.2.2.2.2.2.1 j hj
          have r7 := R.2.2.2.2.2 j hj
          repeat refine x_s rfl rfl ?_
          refine x_br rfl rfl (fun c => absurd c (lp_c H.2.2.1 hj (by omega))) (fun c => ?_)
          repeat refine x_s rfl rfl ?_
          refine x_ald rfl rfl rfl (k := j) (rfl) (by omega) (by decide) rfl ?_
          repeat refine x_s rfl rfl ?_
          refine x_ald rfl rfl rfl (k := k) (rfl) (by omega) (by decide) rfl ?_
          rw [h6.1, h5.1]
          refine x_br rfl rfl (fun c1 => ?_) (fun c1 => ?_)
          · have c2 : ¬ F.1 10 j = F.1 10 k := fun z => c1 (by rw [z])
            iterate 2 refine x_s rfl rfl ?_
            rw [nI_1]
            exact ih2 _ (by simp [cF, hb, c2])
          · have c2 : F.1 10 j = F.1 10 k := (nI_eq (by omega) (by omega)).mp c1
            repeat refine x_s rfl rfl ?_
            refine x_ald rfl rfl rfl (k := j) (rfl) (by omega) (by decide) rfl ?_
            rw [h6.2.2]
            refine x_br rfl rfl (fun c3 => ?_) (fun c3 => ?_)
            · have c4 : ¬ 0 < F.1 12 j := fun z => absurd c3 (nI_nle z (by omega))
              iterate 2 refine x_s rfl rfl ?_
              rw [nI_1]
              exact ih2 _ (by rw [hb, cF, if_neg (by simp [c2]; omega)])
            · have c4 : 0 < F.1 12 j := by
                rcases Nat.eq_zero_or_pos (F.1 12 j) with z | z
                · rw [z] at c3
                  exact absurd (by decide) c3
                · exact z
              iterate 3 refine x_s rfl rfl ?_
              rw [nI_1 j]
              exact ih2 _ (by simp [cF, hb, c2, c4, nI_1])
      iterate 4 refine x_s rfl rfl ?_
      exact lp2 0 (Nat.zero_le _) 0 rfl
  refine Cn.intro gX7_mostLies rfl (Nat.le_of_ble_eq_true rfl) rfl ?_
  iterate 4 refine x_s rfl rfl ?_
  exact lp 0 (Nat.zero_le _) 0 rfl _ _
set_option maxRecDepth 100000 in
set_option maxHeartbeats 8000000 in
theorem c_saidBy (H : HC d F) (R : RG F) {p : Nat} (hp : p < F.1 0 0) : Cn mX7_saidBy false 1 0 0 [.ref 34, .int (nI p)] (W0 d L) (qP d L (bF (fun s => decide (F.1 11 s = p)) (F.1 9 0))) := by
  have r1 := R.1
  have r3 := R.2.2.1
  have lp : ∀ k, k ≤ F.1 9 0 → ∀ a, a = bF (fun s => decide (F.1 11 s = p)) k → Ex mX7_saidBy false 1 0 0 4 [some (.ref 34), some (.int (nI p)), some (.int a), some (.int (nI k))] [] (W0 d L) (qP d L (bF (fun s => decide (F.1 11 s = p)) (F.1 9 0))) nX := by
    refine x_down _ ?_ ?_
    · intro a ha
      repeat refine x_s rfl rfl ?_
      refine x_br rfl rfl (fun c => ?_) (fun c => absurd c (fun z => z (lp_x H.2.2.1)))
      repeat refine x_s rfl rfl ?_
      exact x_iret rfl rfl rfl ⟨by rw [ha], rfl⟩
    · intro k hk ih a ha
      have h5 := H.2.2.2.2.2.1 k hk
      have r6 := R.2.2.2.2.2 k hk
      repeat refine x_s rfl rfl ?_
      refine x_br rfl rfl (fun c => absurd c (lp_c H.2.2.1 hk (by omega))) (fun c => ?_)
      repeat refine x_s rfl rfl ?_
      refine x_ald rfl rfl rfl (k := k) (rfl) (by omega) (by decide) rfl ?_
      rw [h5.2.1]
      repeat refine x_s rfl rfl ?_
      refine x_br rfl rfl (fun c1 => ?_) (fun c1 => ?_)
      · have c2 : ¬ F.1 11 k = p := fun z => c1 (by rw [z])
        iterate 2 refine x_s rfl rfl ?_
        rw [nI_1]
        exact ih _ (by simp [bF, ha, c2])
      · have c2 : F.1 11 k = p := (nI_eq (by omega) (by omega)).mp c1
        iterate 8 refine x_s rfl rfl ?_
        rw [nI_1]
        exact ih _ (by simp [bF, ha, c2])
  refine Cn.intro gX7_saidBy rfl (Nat.le_of_ble_eq_true rfl) rfl ?_
  iterate 4 refine x_s rfl rfl ?_
  exact lp 0 (Nat.zero_le _) 0 rfl
end
