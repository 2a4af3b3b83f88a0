/-! THE MODEL: rules are reckoned -/
def opM (t : Int32) : Int32 := if t = -11 then 5 else if t = -12 then 4 else if t = -13 then 6 else if t = -14 then 7 else if t = -15 then 8 else if t = -16 then 9 else if t = -17 then 10 else if t = -19 then 3 else 11
/-- a token as the model writes it -/
def ctM (pm : Nat → Nat) (t : Int32) : List Int32 := if -11 < t then (if 0 ≤ t then [1, t] else [2, nI (pm (-1 - t).toInt.toNat)]) else [opM t]
def cod (pm : Nat → Nat) : List Int32 → List Int32
  | [] => []
  | t :: r => ctM pm t ++ cod pm r
def okT (nv : Nat) : List Int32 → Bool
  | [] => true
  | t :: r => (decide (0 ≤ t) || (decide (t ≤ -11) || inB (-1 - t) nv)) && okT nv r
theorem opM_n1 (t : Int32) : ¬ opM t = 1 ∧ ¬ opM t = 2 ∧ ¬ opM t = 0 := by
  unfold opM
  repeat' split
  all_goals decide
theorem opM_3 {t : Int32} (h : ¬ t = -19) : ¬ opM t = 3 := by
  unfold opM
  repeat' split
  all_goals first | decide | exact absurd (by assumption) h
section
variable (d : Nat → Nat → Int32) (L : Nat → Nat → Int64)
set_option maxRecDepth 100000 in
set_option maxHeartbeats 8000000 in
theorem k_works (t a b : Int32) (ht : ¬ t = -19) : Cn mX12_works false 1 0 0 [.int (opM t), .int a, .int b] (W0 d L) (qP d L (evj t a b)) := by
  refine Cn.intro gX12_works rfl (Nat.le_of_ble_eq_true rfl) rfl ?_
  repeat refine x_s rfl rfl ?_
  by_cases h1 : t = -11
  · subst h1
    refine x_tsw (i := .iadd) (tgt := 58) rfl (Or.inl ⟨by decide, _, rfl, rfl⟩) ?_
    repeat' (first | refine x_s rfl rfl ?_ | refine x_br rfl rfl (fun c => ?_) (fun c => ?_))
    all_goals refine x_iret rfl rfl rfl ⟨congrArg (fun z => some (Value.int z)) ?_, rfl⟩
    all_goals simp_all [evj]
  by_cases h2 : t = -12
  · subst h2
    refine x_tsw (i := .iadd) (tgt := 44) rfl (Or.inl ⟨by decide, _, rfl, rfl⟩) ?_
    repeat' (first | refine x_s rfl rfl ?_ | refine x_br rfl rfl (fun c => ?_) (fun c => ?_))
    all_goals refine x_iret rfl rfl rfl ⟨congrArg (fun z => some (Value.int z)) ?_, rfl⟩
    all_goals simp_all [evj]
  by_cases h3 : t = -13
  · subst h3
    refine x_tsw (i := .iadd) (tgt := 72) rfl (Or.inl ⟨by decide, _, rfl, rfl⟩) ?_
    repeat refine x_s rfl rfl ?_
    refine x_br rfl rfl (fun c => ?_) (fun c => ?_)
    · repeat refine x_s rfl rfl ?_
      refine x_iret rfl rfl rfl ⟨congrArg (fun z => some (Value.int z)) ?_, rfl⟩
      simp [evj, Int32.not_lt.mpr c]
    · repeat refine x_s rfl rfl ?_
      refine x_iret rfl rfl rfl ⟨congrArg (fun z => some (Value.int z)) ?_, rfl⟩
      simp [evj, Int32.not_le.mp c]
  by_cases h4 : t = -14
  · subst h4
    refine x_tsw (i := .iadd) (tgt := 83) rfl (Or.inl ⟨by decide, _, rfl, rfl⟩) ?_
    repeat refine x_s rfl rfl ?_
    refine x_br rfl rfl (fun c => ?_) (fun c => ?_)
    · repeat refine x_s rfl rfl ?_
      refine x_iret rfl rfl rfl ⟨congrArg (fun z => some (Value.int z)) ?_, rfl⟩
      simp [evj, c]
    · repeat refine x_s rfl rfl ?_
      refine x_iret rfl rfl rfl ⟨congrArg (fun z => some (Value.int z)) ?_, rfl⟩
      simp [evj, c]
  by_cases h5 : t = -15
  · subst h5
    refine x_tsw (i := .iadd) (tgt := 94) rfl (Or.inl ⟨by decide, _, rfl, rfl⟩) ?_
    repeat refine x_s rfl rfl ?_
    refine x_iret rfl rfl rfl ⟨congrArg (fun z => some (Value.int z)) ?_, rfl⟩
    simp [evj]
  by_cases h6 : t = -16
  · subst h6
    refine x_tsw (i := .iadd) (tgt := 98) rfl (Or.inl ⟨by decide, _, rfl, rfl⟩) ?_
    repeat refine x_s rfl rfl ?_
    refine x_iret rfl rfl rfl ⟨congrArg (fun z => some (Value.int z)) ?_, rfl⟩
    simp [evj]
  by_cases h7 : t = -17
  · subst h7
    refine x_tsw (i := .iadd) (tgt := 102) rfl (Or.inl ⟨by decide, _, rfl, rfl⟩) ?_
    repeat refine x_s rfl rfl ?_
    refine x_iret rfl rfl rfl ⟨congrArg (fun z => some (Value.int z)) ?_, rfl⟩
    simp [evj]
  have e : opM t = 11 := by simp [opM, h1, h2, h3, h4, h5, h6, h7, ht]
  rw [e]
  refine x_tsw (i := .iadd) (tgt := 106) rfl (Or.inr ⟨by decide, by decide⟩) ?_
  repeat refine x_s rfl rfl ?_
  refine x_br rfl rfl (fun c => ?_) (fun c => ?_)
  · repeat refine x_s rfl rfl ?_
    refine x_idiv rfl c ?_
    refine x_iret rfl rfl rfl ⟨congrArg (fun z => some (Value.int z)) ?_, rfl⟩
    simp [evj, h1, h2, h3, h4, h5, h6, h7, c]
  · repeat refine x_s rfl rfl ?_
    refine x_iret rfl rfl rfl ⟨congrArg (fun z => some (Value.int z)) ?_, rfl⟩
    simp [evj, h1, h2, h3, h4, h5, h6, h7, c]
set_option maxRecDepth 100000 in
set_option maxHeartbeats 8000000 in
theorem k_reckons (pm : Nat → Nat) {nv : Nat} (v : Nat → Int32) (hv : ∀ i, i < nv → pm i < 9 ∧ d 130 (pm i) = v i) {T : List Int32} {at0 : Nat} (hat : at0 + (cod pm T).length < 1400) (hc : ∀ (i : Nat) (t : Int32), (cod pm T)[i]? = some t → d 117 (at0 + i) = t) (hst : d 117 (at0 + (cod pm T).length) = 0) (wf : wfA T 0 = true) (ok : okT nv T = true) : Cn mX12_reckons false 2 0 0 [.ref 112, .int (nI at0)] (W0 d L) (qS [131] d L (evA (fun i => if inB i nv then v i.toInt.toNat else 0) T 0 (fun _ => 0))) := by
  generalize hE : evA (fun i => if inB i nv then v i.toInt.toNat else 0) T 0 (fun _ => 0) = E
  have loop : ∀ (R : List Int32) (i m : Nat) (f : Nat → Int32) (o : Option Value), (∀ (j : Nat) (t : Int32), (cod pm R)[j]? = some t → d 117 (i + j) = t) → d 117 (i + (cod pm R).length) = 0 → i + (cod pm R).length < 1400 → wfA R m = true → okT nv R = true → m ≤ 40 → evA (fun i => if inB i nv then v i.toInt.toNat else 0) R m f = E →
      Ex mX12_reckons false 2 0 0 4 [some (.ref 112), some (.int (nI at0)), some (.int (nI m)), some (.int (nI i)), o] [] (W0 (upC d 131 f) L) (qS [131] d L E) nX := by
    intro R
    induction R with
    | nil =>
      intro i m f o h1 h2 h3 h4 h6 h5 h7
      have hm : 0 < m := of_decide_eq_true h4
      have h2' : upC d 131 f 117 i = 0 := h2
      repeat refine x_s rfl rfl ?_
      refine x_ald rfl rfl rfl (k := i) (rfl) (by simp [cod] at h3; omega) (by decide) rfl ?_
      rw [h2']
      refine x_br rfl rfl (fun c => ?_) (fun c => absurd c (fun z => z rfl))
      repeat refine x_s rfl rfl ?_
      refine x_ald rfl rfl rfl (k := 0) (rfl) (by omega) (by decide) rfl ?_
      refine x_iret rfl rfl rfl ⟨?_, _, rfl, sm_uC sm_rfl (by decide)⟩
      rw [← h7]
      simp only [evA, hm, if_true]
      rfl
    | cons t R ih =>
      intro i m f o h1 h2 h3 h4 h6 h5 h7
      have hi : i < 1400 := by omega
      unfold okT at h6
      rw [Bool.and_eq_true] at h6
      unfold wfA at h4
      unfold evA at h7
      by_cases ht : -11 < t
      · rw [if_pos ht, Bool.and_eq_true, decide_eq_true_eq] at h4
        rw [if_pos ht] at h7
        obtain ⟨a, b, hab, hval⟩ : ∃ a b : Int32, ctM pm t = [a, b] ∧ ((a = 1 ∧ 0 ≤ t ∧ b = t) ∨ (a = 2 ∧ ¬ 0 ≤ t ∧ b = nI (pm (-1 - t).toInt.toNat))) := by
          unfold ctM
          rw [if_pos ht]
          by_cases h0 : 0 ≤ t
          · rw [if_pos h0]
            exact ⟨1, t, rfl, Or.inl ⟨rfl, h0, rfl⟩⟩
          · rw [if_neg h0]
            exact ⟨2, _, rfl, Or.inr ⟨rfl, h0, rfl⟩⟩
        have e0 : cod pm (t :: R) = a :: b :: cod pm R := by rw [cod, hab]; rfl
        rw [e0] at h1 h2 h3
        simp only [List.length_cons] at h2 h3
        have a1 : d 117 i = a := by simpa using h1 0 a rfl
        have b1 : d 117 (i + 1) = b := by simpa using h1 1 b rfl
        have h1' : ∀ (j : Nat) (t : Int32), (cod pm R)[j]? = some t → d 117 (i + 2 + j) = t := fun j t' hj => by
          have := h1 (j + 2) t' (by simpa using hj)
          rwa [show i + (j + 2) = i + 2 + j by omega] at this
        have h2' : d 117 (i + 2 + (cod pm R).length) = 0 := by rw [← h2]; congr 1; omega
        have a1' : upC d 131 f 117 i = a := a1
        have b1' : upC d 131 f 117 (i + 1) = b := b1
        have an : ¬ a = 0 := by rcases hval with ⟨rfl, -⟩ | ⟨rfl, -⟩ <;> decide
        have fin : ∀ (x : Int32), x = (if 0 ≤ t then t else (fun i => if inB i nv then v i.toInt.toNat else 0) (-1 - t)) → Ex mX12_reckons false 2 0 0 67 [some (.ref 112), some (.int (nI at0)), some (.int (nI m)), some (.int (nI (i + 1))), some (.int a)] [.int x, .int (nI m), .ref 131] (W0 (upC d 131 f) L) (qS [131] d L E) nX := by
          intro x hx
          refine x_iast rfl rfl (k := m) (rfl) (by omega) (by decide) rfl ?_
          rw [up2_upC]
          iterate 4 refine x_s rfl rfl ?_
          rw [nI_1, nI_1]
          exact ih (i + 2) (m + 1) _ _ h1' h2' (by omega) h4.2 h6.2 (by omega) (by rw [hx]; exact h7)
        repeat refine x_s rfl rfl ?_
        refine x_ald rfl rfl rfl (k := i) (rfl) (by omega) (by decide) rfl ?_
        rw [a1']
        refine x_br rfl rfl (fun c => absurd c (an)) (fun c => ?_)
        repeat refine x_s rfl rfl ?_
        refine x_ald rfl rfl rfl (k := i) (rfl) (by omega) (by decide) rfl ?_
        rw [a1']
        iterate 2 refine x_s rfl rfl ?_
        rw [nI_1]
        rcases hval with ⟨rfl, h0, hb⟩ | ⟨rfl, h0, hb⟩
        · repeat refine x_s rfl rfl ?_
          refine x_br rfl rfl (fun c => ?_) (fun c => absurd c (fun z => z rfl))
          repeat refine x_s rfl rfl ?_
          refine x_br rfl rfl (fun c => absurd c (fun z => z rfl)) (fun c => ?_)
          repeat refine x_s rfl rfl ?_
          refine x_ald rfl rfl rfl (k := i + 1) (rfl) (by omega) (by decide) rfl ?_
          rw [b1']
          iterate 1 refine x_s rfl rfl ?_
          exact fin _ (by rw [if_pos h0, hb])
        · repeat refine x_s rfl rfl ?_
          refine x_br rfl rfl (fun c => absurd c (by decide)) (fun c => ?_)
          repeat refine x_s rfl rfl ?_
          refine x_br rfl rfl (fun c => absurd c (fun z => z rfl)) (fun c => ?_)
          repeat refine x_s rfl rfl ?_
          refine x_br rfl rfl (fun c => ?_) (fun c => absurd c (fun z => absurd z (by decide)))
          have hin : inB (-1 - t) nv = true := by
            have := h6.1
            simp only [Bool.or_eq_true, decide_eq_true_eq] at this
            rcases this with z | z | z
            · exact absurd z h0
            · exact absurd ht (Int32.not_lt.mpr z)
            · exact z
          have hlt : (-1 - t).toInt.toNat < nv := by
            unfold inB at hin
            simp only [decide_eq_true_eq] at hin
            omega
          obtain ⟨p1, p2⟩ := hv _ hlt
          repeat refine x_s rfl rfl ?_
          refine x_ald rfl rfl rfl (k := i + 1) (rfl) (by omega) (by decide) rfl ?_
          rw [b1', hb]
          refine x_ald rfl rfl rfl (k := pm (-1 - t).toInt.toNat) (rfl) (by omega) (by decide) rfl ?_
          have p2' : upC d 131 f 130 (pm (-1 - t).toInt.toNat) = v (-1 - t).toInt.toNat := p2
          rw [p2']
          exact fin _ (by rw [if_neg h0]; exact (if_pos hin).symm)
      · rw [if_neg ht] at h4 h7
        have e0 : cod pm (t :: R) = opM t :: cod pm R := by rw [cod, ctM, if_neg ht]; rfl
        rw [e0] at h1 h2 h3
        simp only [List.length_cons] at h2 h3
        have a1 : d 117 i = opM t := by simpa using h1 0 _ rfl
        have h1' : ∀ (j : Nat) (t : Int32), (cod pm R)[j]? = some t → d 117 (i + 1 + j) = t := fun j t' hj => by
          have := h1 (j + 1) t' (by simpa using hj)
          rwa [show i + (j + 1) = i + 1 + j by omega] at this
        have h2' : d 117 (i + 1 + (cod pm R).length) = 0 := by rw [← h2]; congr 1; omega
        have a1' : upC d 131 f 117 i = opM t := a1
        have hop := opM_n1 t
        repeat refine x_s rfl rfl ?_
        refine x_ald rfl rfl rfl (k := i) (rfl) (by omega) (by decide) rfl ?_
        rw [a1']
        refine x_br rfl rfl (fun c => absurd c (hop.2.2)) (fun c => ?_)
        repeat refine x_s rfl rfl ?_
        refine x_ald rfl rfl rfl (k := i) (rfl) (by omega) (by decide) rfl ?_
        rw [a1']
        iterate 2 refine x_s rfl rfl ?_
        rw [nI_1]
        repeat refine x_s rfl rfl ?_
        refine x_br rfl rfl (fun c => absurd c (hop.1)) (fun c => ?_)
        repeat refine x_s rfl rfl ?_
        refine x_br rfl rfl (fun c => ?_) (fun c => absurd c (fun z => absurd z hop.2.1))
        repeat refine x_s rfl rfl ?_
        by_cases h19 : t = -19
        · rw [if_pos h19, Bool.and_eq_true, decide_eq_true_eq] at h4
          rw [if_pos h19] at h7
          obtain ⟨k, rfl⟩ : ∃ k, m = k + 1 := ⟨m - 1, by omega⟩
          refine x_br rfl rfl (fun c => absurd c (fun z => z (by rw [h19]; rfl))) (fun c => ?_)
          repeat refine x_s rfl rfl ?_
          refine x_ald rfl rfl rfl (k := k) (nI_pred k) (by omega) (by decide) rfl ?_
          have hfk : upC d 131 f 131 k = f k := rfl
          rw [hfk]
          refine x_br rfl rfl (fun c4 => ?_) (fun c4 => ?_)
          · repeat refine x_s rfl rfl ?_
            refine x_iast rfl rfl (k := k) (nI_pred k) (by omega) (by decide) rfl ?_
            rw [up2_upC]
            iterate 2 refine x_s rfl rfl ?_
            refine ih (i + 1) (k + 1) _ _ h1' h2' (by omega) h4.2 h6.2 h5 ?_
            rw [← h7, Nat.add_sub_cancel, if_neg c4]
          · repeat refine x_s rfl rfl ?_
            refine x_iast rfl rfl (k := k) (nI_pred k) (by omega) (by decide) rfl ?_
            rw [up2_upC]
            iterate 2 refine x_s rfl rfl ?_
            refine ih (i + 1) (k + 1) _ _ h1' h2' (by omega) h4.2 h6.2 h5 ?_
            rw [← h7, Nat.add_sub_cancel, if_pos c4]
        · rw [if_neg h19, Bool.and_eq_true, decide_eq_true_eq] at h4
          rw [if_neg h19] at h7
          obtain ⟨k, rfl⟩ : ∃ k, m = k + 2 := ⟨m - 2, by omega⟩
          refine x_br rfl rfl (fun c => ?_) (fun c => absurd c (fun z => absurd z (opM_3 h19)))
          refine x_s rfl rfl ?_
          rw [show nI (k + 2) + -1 = nI (k + 1) from pk_m1 (k + 1)]
          repeat refine x_s rfl rfl ?_
          refine x_ald rfl rfl rfl (k := k) (nI_pred k) (by omega) (by decide) rfl ?_
          repeat refine x_s rfl rfl ?_
          refine x_ald rfl rfl rfl (k := k + 1) (rfl) (by omega) (by decide) rfl ?_
          refine x_cs (k_works (upC d 131 f) L t (f k) (f (k + 1)) h19) rfl rfl rfl (by decide) (Nat.le_of_ble_eq_true rfl) (by decide) (by decide) (by decide) ?_
          rintro _ _ ⟨rfl, rfl⟩
          refine x_iast rfl rfl (k := k) (nI_pred k) (by omega) (by decide) rfl ?_
          rw [up2_upC]
          iterate 1 refine x_s rfl rfl ?_
          exact ih (i + 1) (k + 1) _ _ h1' h2' (by omega) h4.2 h6.2 (by omega) h7
  refine Cn.intro gX12_reckons rfl (Nat.le_of_ble_eq_true rfl) rfl ?_
  iterate 4 refine x_s rfl rfl ?_
  have e : d = upC d 131 (d 131) := by
    funext c k
    by_cases hc : c = 131
    · subst hc
      rw [upC_eq]
    · rw [upC_ne hc]
  have := loop T at0 0 (d 131) none hc hst hat wf ok (by omega) ((evA_cong _ T 0 _ _ wf (fun i hi => by omega)).trans hE)
  rw [← e] at this
  exact this
end
