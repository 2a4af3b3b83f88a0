/-! Rule.run: the tokens are reckoned -/
theorem up2_upC {d : Nat → Nat → Int32} {b k : Nat} {f : Nat → Int32} {x : Int32} : up2 (upC d b f) b k x = upC d b (upd f k x) := by
  funext c j
  by_cases hc : c = b
  · subst hc
    rw [upC_eq, upd_up2, upC_eq]
  · rw [upC_ne hc, up2_ne hc, upC_ne hc]
section
variable (d : Nat → Nat → Int32) (L : Nat → Nat → Int64)
set_option maxRecDepth 100000 in
set_option maxHeartbeats 8000000 in
theorem c_run38 (T : List Int32) (hT : d 38 0 = nI T.length) (hlen : T.length ≤ 700) (hs : ∀ (i : Nat) (t : Int32), T[i]? = some t → d 39 i = t) (wf : wfA T 0 = true) : Cn mX6_run false 2 0 0 [.ref 38, .ref 70] (W0 d L) (fun r h => r = some (.int (evA (vlA d 70 6) T 0 (fun _ => 0))) ∧ ∃ f, h = W0 (upC d 40 f) L) := by
  refine Cn.intro gX6_run rfl (Nat.le_of_ble_eq_true rfl) rfl ?_
  generalize hE : evA (vlA d 70 6) T 0 (fun _ => 0) = E
  have loop : ∀ (R : List Int32) (i m : Nat) (f : Nat → Int32) (o : Option Value), (∀ (j : Nat) (t : Int32), R[j]? = some t → d 39 (i + j) = t) → i + R.length = T.length → wfA R m = true → m ≤ 40 → evA (vlA d 70 6) R m f = E →
      Ex mX6_run false 2 0 0 4 [some (.ref 38), some (.ref 70), some (.int (nI m)), some (.int (nI i)), o] [] (W0 (upC d 40 f) L) (fun r h => r = some (.int (E)) ∧ ∃ f, h = W0 (upC d 40 f) L) (fun _ _ => False) := by
    intro R
    induction R with
    | nil =>
      intro i m f o h1 h2 h3 h4 h5
      have hm : 0 < m := of_decide_eq_true h3
      have hi : i = T.length := by simpa using h2
      repeat refine x_s rfl rfl ?_
      refine x_br rfl rfl (fun c => ?_) (fun c => ?_)
      · refine x_s rfl rfl ?_
        refine x_br rfl rfl (fun c2 => ?_) (fun c2 => ?_)
        · exact absurd c2 (nI_nle hm (by omega))
        · repeat refine x_s rfl rfl ?_
          refine x_ald rfl rfl rfl (k := 0) rfl (by decide) (by decide) rfl ?_
          repeat refine x_s rfl rfl ?_
          refine x_iret rfl rfl rfl ⟨?_, f, rfl⟩
          rw [← h5]
          simp only [evA, hm, if_true]
          rfl
      · exact absurd (show d 38 0 ≤ nI i by rw [hT, hi]; exact Int32.le_refl _) c
    | cons t R ih =>
      intro i m f o h1 h2 h3 h4 h5
      have hi : i < T.length := by rw [List.length_cons] at h2; omega
      have h2' : i + 1 + R.length = T.length := by rw [List.length_cons] at h2; omega
      have ht : d 39 i = t := by simpa using h1 0 t rfl
      have h1' : ∀ (j : Nat) (t : Int32), R[j]? = some t → d 39 (i + 1 + j) = t := fun j t' hj => by
        have := h1 (j + 1) t' (by simpa using hj)
        rwa [show i + (j + 1) = i + 1 + j by omega] at this
      iterate 3 refine x_s rfl rfl ?_
      refine x_br rfl rfl (fun c => ?_) (fun c => ?_)
      · exact absurd (show d 38 0 ≤ nI i from c) (by rw [hT]; exact nI_ge hi (by omega))
      iterate 3 refine x_s rfl rfl ?_
      refine x_ald rfl rfl rfl (k := i) rfl (by omega) (by decide) rfl ?_
      have ht' : upC d 40 f 39 i = t := ht
      rw [ht']
      repeat refine x_s rfl rfl ?_
      unfold wfA at h3
      unfold evA at h5
      refine x_br rfl rfl (fun c1 => ?_) (fun c1 => ?_)
      · have ht11 : ¬ -11 < t := Int32.not_lt.mpr c1
        rw [if_neg ht11] at h3 h5
        repeat refine x_s rfl rfl ?_
        by_cases h19 : t = -19
        · rw [if_pos h19, Bool.and_eq_true, decide_eq_true_eq] at h3
          rw [if_pos h19] at h5
          obtain ⟨k, rfl⟩ : ∃ k, m = k + 1 := ⟨m - 1, by omega⟩
          refine x_br rfl rfl (fun c2 => absurd h19 c2) (fun c2 => ?_)
          refine x_s rfl rfl ?_
          refine x_br rfl rfl (fun c3 => absurd c3 (nI_nle (by omega) (by omega))) (fun c3 => ?_)
          repeat refine x_s rfl rfl ?_
          refine x_ald rfl rfl rfl (k := k) (nI_pred k) (by omega) (by decide) rfl ?_
          have hfk : upC d 40 f 40 k = f k := rfl
          rw [hfk]
          refine x_br rfl rfl (fun c4 => ?_) (fun c4 => ?_)
          · repeat refine x_s rfl rfl ?_
            refine x_iast rfl rfl (nI_pred k) (k := k) (by omega) (by decide) rfl ?_
            rw [up2_upC]
            iterate 3 refine x_s rfl rfl ?_
            rw [nI_1]
            refine ih (i + 1) (k + 1) _ _ h1' h2' h3.2 h4 ?_
            rw [← h5, Nat.add_sub_cancel, if_neg c4]
          · repeat refine x_s rfl rfl ?_
            refine x_iast rfl rfl (nI_pred k) (k := k) (by omega) (by decide) rfl ?_
            rw [up2_upC]
            iterate 3 refine x_s rfl rfl ?_
            rw [nI_1]
            refine ih (i + 1) (k + 1) _ _ h1' h2' h3.2 h4 ?_
            rw [← h5, Nat.add_sub_cancel, if_pos c4]
        · rw [if_neg h19, Bool.and_eq_true, decide_eq_true_eq] at h3
          rw [if_neg h19] at h5
          obtain ⟨k, rfl⟩ : ∃ k, m = k + 2 := ⟨m - 2, by omega⟩
          refine x_br rfl rfl (fun c2 => ?_) (fun c2 => absurd c2 h19)
          repeat refine x_s rfl rfl ?_
          refine x_br rfl rfl (fun c3 => absurd c3 (nI_ge (a := 1) (b := k + 2) (by omega) (by omega))) (fun c3 => ?_)
          refine x_s rfl rfl ?_
          rw [show nI (k + 2) + -1 = nI (k + 1) from pk_m1 (k + 1)]
          repeat refine x_s rfl rfl ?_
          refine x_ald rfl rfl rfl (k := k) (nI_pred k) (by omega) (by decide) rfl ?_
          repeat refine x_s rfl rfl ?_
          refine x_ald rfl rfl rfl (k := k + 1) rfl (by omega) (by decide) rfl ?_
          refine x_cs (c_join (upC d 40 f) L t (f k) (f (k + 1))) rfl rfl rfl (by decide) (Nat.le_of_ble_eq_true rfl) (by decide) (by decide) (by decide) ?_
          rintro v h' ⟨rfl, rfl⟩
          refine x_iast rfl rfl (nI_pred k) (k := k) (by omega) (by decide) rfl ?_
          rw [up2_upC]
          iterate 2 refine x_s rfl rfl ?_
          rw [nI_1]
          exact ih (i + 1) (k + 1) _ _ h1' h2' h3.2 (by omega) h5
      · have ht11 : -11 < t := Int32.not_le.mp c1
        rw [if_pos ht11, Bool.and_eq_true, decide_eq_true_eq] at h3
        rw [if_pos ht11] at h5
        repeat refine x_s rfl rfl ?_
        refine x_br rfl rfl (fun c2 => absurd c2 (nI_ge (b := 40) h3.1 (by omega))) (fun c2 => ?_)
        repeat refine x_s rfl rfl ?_
        refine x_br rfl rfl (fun c3 => ?_) (fun c3 => ?_)
        · repeat refine x_s rfl rfl ?_
          refine x_cs (c_valueAt (upC d 40 f) L (v := 70) (nv := 6) (by simp) (-1 - t)) rfl rfl rfl (by decide) (Nat.le_of_ble_eq_true rfl) (by decide) (by decide) (by decide) ?_
          rintro v h' ⟨rfl, rfl⟩
          refine x_iast rfl rfl rfl (k := m) (by omega) (by decide) rfl ?_
          rw [up2_upC]
          iterate 4 refine x_s rfl rfl ?_
          rw [nI_1, nI_1]
          refine ih (i + 1) (m + 1) _ _ h1' h2' h3.2 (by omega) ?_
          rw [← h5, if_neg (fun z => absurd c3 (Int32.not_lt.mpr z))]
          rfl
        · repeat refine x_s rfl rfl ?_
          refine x_iast rfl rfl rfl (k := m) (by omega) (by decide) rfl ?_
          rw [up2_upC]
          iterate 4 refine x_s rfl rfl ?_
          rw [nI_1, nI_1]
          refine ih (i + 1) (m + 1) _ _ h1' h2' h3.2 (by omega) ?_
          rw [← h5, if_pos (Int32.not_lt.mp c3)]
  iterate 4 refine x_s rfl rfl ?_
  have e : d = upC d 40 (d 40) := by
    funext c k
    by_cases hc : c = 40
    · subst hc
      rw [upC_eq]
    · rw [upC_ne hc]
  have := loop T 0 0 (d 40) none (fun j t hj => by rw [Nat.zero_add]; exact hs j t hj) (by omega) wf (by omega) ((evA_cong _ T 0 _ _ wf (fun i hi => by omega)).trans hE)
  rw [← e] at this
  exact this
set_option maxRecDepth 100000 in
set_option maxHeartbeats 8000000 in
theorem c_run41 (T : List Int32) (hT : d 41 0 = nI T.length) (hlen : T.length ≤ 700) (hs : ∀ (i : Nat) (t : Int32), T[i]? = some t → d 42 i = t) (wf : wfA T 0 = true) : Cn mX6_run false 2 0 0 [.ref 41, .ref 80] (W0 d L) (fun r h => r = some (.int (evA (vlA d 80 5) T 0 (fun _ => 0))) ∧ ∃ f, h = W0 (upC d 43 f) L) := by
  refine Cn.intro gX6_run rfl (Nat.le_of_ble_eq_true rfl) rfl ?_
  generalize hE : evA (vlA d 80 5) T 0 (fun _ => 0) = E
  have loop : ∀ (R : List Int32) (i m : Nat) (f : Nat → Int32) (o : Option Value), (∀ (j : Nat) (t : Int32), R[j]? = some t → d 42 (i + j) = t) → i + R.length = T.length → wfA R m = true → m ≤ 40 → evA (vlA d 80 5) R m f = E →
      Ex mX6_run false 2 0 0 4 [some (.ref 41), some (.ref 80), some (.int (nI m)), some (.int (nI i)), o] [] (W0 (upC d 43 f) L) (fun r h => r = some (.int (E)) ∧ ∃ f, h = W0 (upC d 43 f) L) (fun _ _ => False) := by
    intro R
    induction R with
    | nil =>
      intro i m f o h1 h2 h3 h4 h5
      have hm : 0 < m := of_decide_eq_true h3
      have hi : i = T.length := by simpa using h2
      repeat refine x_s rfl rfl ?_
      refine x_br rfl rfl (fun c => ?_) (fun c => ?_)
      · refine x_s rfl rfl ?_
        refine x_br rfl rfl (fun c2 => ?_) (fun c2 => ?_)
        · exact absurd c2 (nI_nle hm (by omega))
        · repeat refine x_s rfl rfl ?_
          refine x_ald rfl rfl rfl (k := 0) rfl (by decide) (by decide) rfl ?_
          repeat refine x_s rfl rfl ?_
          refine x_iret rfl rfl rfl ⟨?_, f, rfl⟩
          rw [← h5]
          simp only [evA, hm, if_true]
          rfl
      · exact absurd (show d 41 0 ≤ nI i by rw [hT, hi]; exact Int32.le_refl _) c
    | cons t R ih =>
      intro i m f o h1 h2 h3 h4 h5
      have hi : i < T.length := by rw [List.length_cons] at h2; omega
      have h2' : i + 1 + R.length = T.length := by rw [List.length_cons] at h2; omega
      have ht : d 42 i = t := by simpa using h1 0 t rfl
      have h1' : ∀ (j : Nat) (t : Int32), R[j]? = some t → d 42 (i + 1 + j) = t := fun j t' hj => by
        have := h1 (j + 1) t' (by simpa using hj)
        rwa [show i + (j + 1) = i + 1 + j by omega] at this
      iterate 3 refine x_s rfl rfl ?_
      refine x_br rfl rfl (fun c => ?_) (fun c => ?_)
      · exact absurd (show d 41 0 ≤ nI i from c) (by rw [hT]; exact nI_ge hi (by omega))
      iterate 3 refine x_s rfl rfl ?_
      refine x_ald rfl rfl rfl (k := i) rfl (by omega) (by decide) rfl ?_
      have ht' : upC d 43 f 42 i = t := ht
      rw [ht']
      repeat refine x_s rfl rfl ?_
      unfold wfA at h3
      unfold evA at h5
      refine x_br rfl rfl (fun c1 => ?_) (fun c1 => ?_)
      · have ht11 : ¬ -11 < t := Int32.not_lt.mpr c1
        rw [if_neg ht11] at h3 h5
        repeat refine x_s rfl rfl ?_
        by_cases h19 : t = -19
        · rw [if_pos h19, Bool.and_eq_true, decide_eq_true_eq] at h3
          rw [if_pos h19] at h5
          obtain ⟨k, rfl⟩ : ∃ k, m = k + 1 := ⟨m - 1, by omega⟩
          refine x_br rfl rfl (fun c2 => absurd h19 c2) (fun c2 => ?_)
          refine x_s rfl rfl ?_
          refine x_br rfl rfl (fun c3 => absurd c3 (nI_nle (by omega) (by omega))) (fun c3 => ?_)
          repeat refine x_s rfl rfl ?_
          refine x_ald rfl rfl rfl (k := k) (nI_pred k) (by omega) (by decide) rfl ?_
          have hfk : upC d 43 f 43 k = f k := rfl
          rw [hfk]
          refine x_br rfl rfl (fun c4 => ?_) (fun c4 => ?_)
          · repeat refine x_s rfl rfl ?_
            refine x_iast rfl rfl (nI_pred k) (k := k) (by omega) (by decide) rfl ?_
            rw [up2_upC]
            iterate 3 refine x_s rfl rfl ?_
            rw [nI_1]
            refine ih (i + 1) (k + 1) _ _ h1' h2' h3.2 h4 ?_
            rw [← h5, Nat.add_sub_cancel, if_neg c4]
          · repeat refine x_s rfl rfl ?_
            refine x_iast rfl rfl (nI_pred k) (k := k) (by omega) (by decide) rfl ?_
            rw [up2_upC]
            iterate 3 refine x_s rfl rfl ?_
            rw [nI_1]
            refine ih (i + 1) (k + 1) _ _ h1' h2' h3.2 h4 ?_
            rw [← h5, Nat.add_sub_cancel, if_pos c4]
        · rw [if_neg h19, Bool.and_eq_true, decide_eq_true_eq] at h3
          rw [if_neg h19] at h5
          obtain ⟨k, rfl⟩ : ∃ k, m = k + 2 := ⟨m - 2, by omega⟩
          refine x_br rfl rfl (fun c2 => ?_) (fun c2 => absurd c2 h19)
          repeat refine x_s rfl rfl ?_
          refine x_br rfl rfl (fun c3 => absurd c3 (nI_ge (a := 1) (b := k + 2) (by omega) (by omega))) (fun c3 => ?_)
          refine x_s rfl rfl ?_
          rw [show nI (k + 2) + -1 = nI (k + 1) from pk_m1 (k + 1)]
          repeat refine x_s rfl rfl ?_
          refine x_ald rfl rfl rfl (k := k) (nI_pred k) (by omega) (by decide) rfl ?_
          repeat refine x_s rfl rfl ?_
          refine x_ald rfl rfl rfl (k := k + 1) rfl (by omega) (by decide) rfl ?_
          refine x_cs (c_join (upC d 43 f) L t (f k) (f (k + 1))) rfl rfl rfl (by decide) (Nat.le_of_ble_eq_true rfl) (by decide) (by decide) (by decide) ?_
          rintro v h' ⟨rfl, rfl⟩
          refine x_iast rfl rfl (nI_pred k) (k := k) (by omega) (by decide) rfl ?_
          rw [up2_upC]
          iterate 2 refine x_s rfl rfl ?_
          rw [nI_1]
          exact ih (i + 1) (k + 1) _ _ h1' h2' h3.2 (by omega) h5
      · have ht11 : -11 < t := Int32.not_le.mp c1
        rw [if_pos ht11, Bool.and_eq_true, decide_eq_true_eq] at h3
        rw [if_pos ht11] at h5
        repeat refine x_s rfl rfl ?_
        refine x_br rfl rfl (fun c2 => absurd c2 (nI_ge (b := 40) h3.1 (by omega))) (fun c2 => ?_)
        repeat refine x_s rfl rfl ?_
        refine x_br rfl rfl (fun c3 => ?_) (fun c3 => ?_)
        · repeat refine x_s rfl rfl ?_
          refine x_cs (c_valueAt (upC d 43 f) L (v := 80) (nv := 5) (by simp) (-1 - t)) rfl rfl rfl (by decide) (Nat.le_of_ble_eq_true rfl) (by decide) (by decide) (by decide) ?_
          rintro v h' ⟨rfl, rfl⟩
          refine x_iast rfl rfl rfl (k := m) (by omega) (by decide) rfl ?_
          rw [up2_upC]
          iterate 4 refine x_s rfl rfl ?_
          rw [nI_1, nI_1]
          refine ih (i + 1) (m + 1) _ _ h1' h2' h3.2 (by omega) ?_
          rw [← h5, if_neg (fun z => absurd c3 (Int32.not_lt.mpr z))]
          rfl
        · repeat refine x_s rfl rfl ?_
          refine x_iast rfl rfl rfl (k := m) (by omega) (by decide) rfl ?_
          rw [up2_upC]
          iterate 4 refine x_s rfl rfl ?_
          rw [nI_1, nI_1]
          refine ih (i + 1) (m + 1) _ _ h1' h2' h3.2 (by omega) ?_
          rw [← h5, if_pos (Int32.not_lt.mp c3)]
  iterate 4 refine x_s rfl rfl ?_
  have e : d = upC d 43 (d 43) := by
    funext c k
    by_cases hc : c = 43
    · subst hc
      rw [upC_eq]
    · rw [upC_ne hc]
  have := loop T 0 0 (d 43) none (fun j t hj => by rw [Nat.zero_add]; exact hs j t hj) (by omega) wf (by omega) ((evA_cong _ T 0 _ _ wf (fun i hi => by omega)).trans hE)
  rw [← e] at this
  exact this
end
