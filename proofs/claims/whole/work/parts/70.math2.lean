/-! MATHEMATICS of the calls -/
theorem bc_1024 : ∀ k, k < 1024 → bc (nI k) = nI (cF (bt (nI k)) 16) := by decide +kernel
theorem cF_and {f : Nat → Bool} {n : Nat} : ∀ {m : Nat}, n ≤ m → cF (fun i => decide (i < n) && f i) m = cF f n
  | 0, h => by
    have : n = 0 := by omega
    subst this
    rfl
  | m + 1, h => by
    by_cases e : n = m + 1
    · subst e
      exact cF_cong (fun i hi => by simp [hi])
    · rw [cF, cF_and (n := n) (m := m) (by omega)]
      rw [if_neg]
      simp
      omega
/-- an int whose bits from n on are 0 -/
theorem bt_small {x : Int32} {n : Nat} (h : ∀ i, n ≤ i → bt x i = false) : ∃ k, k < 2 ^ n ∧ x = nI k := by
  refine ⟨x.toBitVec.toNat, ?_, (nI_bv x).symm⟩
  apply Nat.lt_pow_two_of_testBit
  intro i hi
  exact h i hi
theorem bc_cF {x : Int32} {n : Nat} (hn : n ≤ 10) (h : ∀ i, n ≤ i → bt x i = false) : bc x = nI (cF (bt x) n) := by
  obtain ⟨k, hk, e⟩ := bt_small h
  have hp : 2 ^ n ≤ 1024 := Nat.le_trans (Nat.pow_le_pow_right (by decide) hn) (by decide)
  rw [e, bc_1024 k (by omega), ← e]
  congr 1
  rw [← cF_and (f := bt x) (n := n) (m := 16) (by omega)]
  apply cF_cong
  intro i _
  by_cases hi : i < n
  · simp [hi]
  · simp [hi, h i (by omega)]
theorem bc_bF {f : Nat → Bool} {n : Nat} (hn : n ≤ 10) : bc (bF f n) = nI (cF f n) := by
  rw [bc_cF hn (fun i hi => by rw [bF_bt f n i (by omega)]; simp; omega)]
  congr 1
  apply cF_cong
  intro i hi
  rw [bF_bt f n i (by omega)]
  simp [hi]
theorem plz_0 {F : Fr} {Z : Sn} : ∀ {k : Nat}, (∀ i, i < k → Z.2.1 i < 32) → (plz F Z k = 0 ↔ aF (fun i => decide (sh F (Z.2.1 i) (Z.2.2.1 i) ≠ Z.2.2.2 i)) k = false)
  | 0, _ => by simp [plz, aF]
  | k + 1, h => by
    have ih := plz_0 (F := F) (Z := Z) (k := k) (fun i hi => h i (by omega))
    unfold plz aF
    by_cases e : sh F (Z.2.1 k) (Z.2.2.1 k) = Z.2.2.2 k
    · rw [if_pos e, ih]
      simp [e]
    · rw [if_neg e]
      constructor
      · intro z
        have := congrArg (fun q => bt q (Z.2.1 k)) z
        simp only [b_or, bt_bit (h k (by omega)) (h k (by omega)), b_0] at this
        simp at this
      · intro z
        simp [e] at z
/-- one saying more: heard, or not -/
theorem sh_sBe (F : Fr) (n h t p g : Nat) : sh (tl F.1 t p g, F.2) n h = if hl F n p g t then sBe F n h t (F.1 1 p) (F.1 2 p) else sh F n h := by
  rw [sh_tl]
  unfold stp1
  cases hb : hl F n p g t
  · rw [if_neg (by simp), if_neg (by simp), sh_fin]
  · rw [if_pos rfl]
    have hle := l1_le (F := F) (B := hr F n) (h := h) (n := F.1 9 0)
    unfold sBe
    by_cases ht : t ≤ h
    · rw [if_pos (by simp [ht]), sF_eq]
      by_cases h1 : l1 F (hr F n) h (F.1 9 0) < t + 1
      · rw [if_pos h1, if_neg (by omega)]
        have z := wx_0 (F := F) (n := n) (B := Bh F n t) (k := F.1 9 0) (fun s hs => by
          unfold Bh
          cases hB : hr F n s
          · rfl
          · rw [Bool.true_and, decide_eq_false_iff_not]
            intro he
            have := l1_up (F := F) (B := hr F n) (h := h) (F.1 9 0) s hs hB (by omega)
            omega)
        rw [z.1, z.2.1, z.2.2]
        unfold fin
        rw [if_neg (by simp)]
        show nI (sg (dx F n p) (dy F n p) (mv F n p)) = nI (sg (0 + dx F n p) (0 + dy F n p) (false || mv F n p))
        rw [Int.zero_add, Int.zero_add, Bool.false_or]
      · rw [if_neg h1]
        by_cases h2 : l1 F (hr F n) h (F.1 9 0) = t + 1
        · rw [if_pos h2, if_neg (by omega)]
          have c := wx_cong (F := F) (n := n) (B := fun s => hr F n s && decide (F.1 10 s + 1 = l1 F (hr F n) h (F.1 9 0))) (C := Bh F n t) (k := F.1 9 0) (fun s _ => by
            unfold Bh
            rw [h2]
            congr 1
            simp)
          rw [c.1, c.2.1, c.2.2]
          unfold fin
          rw [if_neg (by simp; omega)]
          rfl
        · rw [if_neg h2, if_pos (by omega), sh_fin, sF_eq]
    · rw [if_neg (by simp; omega), if_pos (by omega), sh_fin]
theorem sHo_tl (F : Fr) (R : RG F) (Z : Sn) (R2 : RZ F Z) (t p g : Nat) : sHo F Z t (F.1 1 p) (F.1 2 p) (bF (fun n => hl F n p g t) (F.1 4 0)) = decide (plz (tl F.1 t p g, F.2) Z Z.1 = 0) := by
  have r2 := R.2.1
  unfold sHo
  have e : aF (fun i => decide ((if bt (bF (fun n => hl F n p g t) (F.1 4 0)) (Z.2.1 i) then sBe F (Z.2.1 i) (Z.2.2.1 i) t (F.1 1 p) (F.1 2 p) else sh F (Z.2.1 i) (Z.2.2.1 i)) ≠ Z.2.2.2 i)) Z.1 = aF (fun i => decide (sh (tl F.1 t p g, F.2) (Z.2.1 i) (Z.2.2.1 i) ≠ Z.2.2.2 i)) Z.1 := by
    have key : ∀ i, i < Z.1 → (if bt (bF (fun n => hl F n p g t) (F.1 4 0)) (Z.2.1 i) then sBe F (Z.2.1 i) (Z.2.2.1 i) t (F.1 1 p) (F.1 2 p) else sh F (Z.2.1 i) (Z.2.2.1 i)) = sh (tl F.1 t p g, F.2) (Z.2.1 i) (Z.2.2.1 i) := by
      intro i hi
      have q := R2.2 i hi
      rw [sh_sBe, bF_bt _ _ _ (by omega), decide_eq_true q.1, Bool.true_and]
    cases h : aF (fun i => decide (sh (tl F.1 t p g, F.2) (Z.2.1 i) (Z.2.2.1 i) ≠ Z.2.2.2 i)) Z.1
    · rw [aF_no] at h ⊢
      intro i hi
      rw [key i hi]
      exact h i hi
    · rw [aF_iff] at h ⊢
      obtain ⟨i, hi, q⟩ := h
      exact ⟨i, hi, by rw [key i hi]; exact q⟩
  rw [e]
  have z := plz_0 (F := (tl F.1 t p g, F.2)) (Z := Z) (k := Z.1) (fun i hi => by have := (R2.2 i hi).1; omega)
  cases h : aF (fun i => decide (sh (tl F.1 t p g, F.2) (Z.2.1 i) (Z.2.2.1 i) ≠ Z.2.2.2 i)) Z.1
  · rw [decide_eq_true (z.mpr h)]
    rfl
  · rw [decide_eq_false (fun q => by rw [z.mp q] at h; cases h)]
    rfl
/-- a saying taken for true -/
def noD (F : Fr) (k : Nat) : Fr := (up2 F.1 12 k 0, F.2)
theorem noD_s (F : Fr) (k : Nat) : saN F (noD F k) := ⟨fun i hi => by show up2 F.1 12 k 0 i = F.1 i; rw [up2_ne (by omega)], rfl⟩
theorem sh_noD (F : Fr) (n k h : Nat) : sh (noD F k) n h = shB F n (Bx F n k) h := by
  rw [sh_fin, shB_fin]
  show fin (sF (noD F k) n (hr (noD F k) n) h (F.1 9 0)) = _
  congr 1
  refine sF_cong (noD_s F k) (fun i _ => ⟨?_, rfl, rfl⟩)
  unfold Bx hr
  rw [hl_s (noD_s F k)]
  show _ = hl F n (F.1 11 i) (if i = k then 0 else F.1 12 i) (F.1 10 i)
  by_cases e : i = k
  · rw [if_pos e, decide_eq_false (fun q => q e), Bool.and_false]
    simp [hl, tn]
  · rw [if_neg e, decide_eq_true e, Bool.and_true]
theorem hr_ru (F : Fr) (n v s : Nat) : hr (ru F.1 n v, F.2) n s = hu F n v s := by
  show tn F.2.1 (F.1 12 s) (F.1 3 (F.1 11 s)) (far (ru F.1 n v, F.2) n (F.1 11 s)) (F.1 7 n) ((ru F.1 n v) 8 n) (F.1 10 s) = _
  have e1 : (ru F.1 n v) 8 n = v := if_pos rfl
  have e2 : far (ru F.1 n v, F.2) n (F.1 11 s) = far F n (F.1 11 s) := rfl
  rw [e1, e2]
  rfl
theorem bt_lii {F : Fr} {h p : Nat} (hp : p < 32) : ∀ {k : Nat}, (∀ s, s < k → F.1 11 s < 32) → bt (lii F h k) p = aF (fun s => decide (F.1 10 s = h) && (decide (0 < F.1 12 s) && decide (F.1 11 s = p))) k
  | 0, _ => by simp [lii, aF, b_0]
  | k + 1, hw => by
    have ih := bt_lii (F := F) (h := h) hp (k := k) (fun s hs => hw s (by omega))
    unfold lii aF
    by_cases e : (decide (F.1 10 k = h) && decide (0 < F.1 12 k)) = true
    · rw [if_pos e, b_or, ih, bt_bit (hw k (by omega)) hp]
      rw [Bool.and_eq_true] at e
      rw [e.1, e.2]
      congr 1
      simp [eq_comm]
    · rw [if_neg e, ih]
      have : (decide (F.1 10 k = h) && (decide (0 < F.1 12 k) && decide (F.1 11 k = p))) = false := by
        rw [← Bool.and_assoc]
        have e' := Bool.eq_false_iff.mpr e
        rw [e']
        rfl
      rw [this, Bool.or_false]
theorem bt_lia {F : Fr} {p : Nat} (hp : p < 32) (hw : ∀ s, s < F.1 9 0 → F.1 11 s < 32) : ∀ {k : Nat}, bt (lia F k) p = aF (fun s => decide (F.1 11 s = p) && (decide (0 < F.1 12 s) && decide (F.1 10 s < k))) (F.1 9 0)
  | 0 => by
    symm
    show _ = bt 0 p
    rw [b_0, aF_no]
    intro i _
    simp
  | k + 1 => by
    unfold lia
    rw [b_or, bt_lia hp hw (k := k), bt_lii hp hw]
    cases h : aF (fun s => decide (F.1 11 s = p) && (decide (0 < F.1 12 s) && decide (F.1 10 s < k + 1))) (F.1 9 0)
    · rw [Bool.or_eq_false_iff, aF_no, aF_no]
      rw [aF_no] at h
      refine ⟨fun i hi => ?_, fun i hi => ?_⟩
      · have := h i hi
        simp at this ⊢
        intro a b
        have := this a b
        omega
      · have := h i hi
        simp at this ⊢
        intro a b c
        have := this c b
        omega
    · rw [aF_iff] at h
      obtain ⟨i, hi, q⟩ := h
      simp at q
      rw [Bool.or_eq_true, aF_iff, aF_iff]
      by_cases e : F.1 10 i = k
      · exact Or.inr ⟨i, hi, by simp [e, q.1, q.2.1]⟩
      · exact Or.inl ⟨i, hi, by simp [q.1, q.2.1]; omega⟩
/-- whether p has lied up to hour h -/
def hasL (F : Fr) (h p : Nat) : Bool := aF (fun s => decide (F.1 11 s = p) && (decide (0 < F.1 12 s) && decide (F.1 10 s < h + 1))) (F.1 9 0)
theorem fls_eq (F : Fr) (R : RG F) (n h : Nat) : fls F n h = (decide (pb F h n ≠ 0) && !(aF (fun p => bt (pb F h n) p && hasL F h p) (F.1 0 0))) := by
  have r1 := R.1
  have hw : ∀ s, s < F.1 9 0 → F.1 11 s < 32 := fun s hs => by have := (R.2.2.2.2.2 s hs).2.1; omega
  unfold fls
  congr 1
  have key : ∀ p, p < 32 → bt (pb F h n &&& lia F (h + 1)) p = (bt (pb F h n) p && hasL F h p) := fun p hp => by rw [b_and, bt_lia hp hw]; rfl
  have big : ∀ p, F.1 0 0 ≤ p → bt (pb F h n) p = false := fun p hp => by
    unfold pb
    rw [bF_bt _ _ _ (by omega)]
    simp
    omega
  cases hz : aF (fun p => bt (pb F h n) p && hasL F h p) (F.1 0 0)
  · rw [aF_no] at hz
    rw [decide_eq_true]
    · rfl
    · apply b_ext
      intro p hp
      rw [key p hp, b_0]
      by_cases h1 : p < F.1 0 0
      · exact hz p h1
      · rw [big p (by omega)]
        rfl
  · rw [aF_iff] at hz
    obtain ⟨p, h1, h2⟩ := hz
    rw [decide_eq_false]
    · rfl
    · intro q
      have := key p (by omega)
      rw [q, b_0, h2] at this
      cases this
