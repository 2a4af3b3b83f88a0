/-! BITS of a long -/
def bL (x : Int64) (i : Nat) : Bool := x.toBitVec.getLsbD i
theorem bL_ext {x y : Int64} (h : ∀ i, i < 64 → bL x i = bL y i) : x = y := Int64.toBitVec_inj.mp (BitVec.eq_of_getLsbD_eq (fun i hi => h i hi))
theorem bL_and (x y : Int64) (i : Nat) : bL (x &&& y) i = (bL x i && bL y i) := by unfold bL; rw [Int64.toBitVec_and, BitVec.getLsbD_and]
theorem bL_or (x y : Int64) (i : Nat) : bL (x ||| y) i = (bL x i || bL y i) := by unfold bL; rw [Int64.toBitVec_or, BitVec.getLsbD_or]
theorem bL_0 (i : Nat) : bL 0 i = false := BitVec.getLsbD_zero
theorem bL_1 (i : Nat) : bL 1 i = decide (i = 0) := by
  unfold bL
  rw [show (1 : Int64).toBitVec = 1#64 from rfl, BitVec.getLsbD_one]
  by_cases h : i = 0 <;> simp [h]
theorem sl_l : ∀ n, n < 64 → (((nI n).toInt64 &&& 63).toBitVec.smod 64).toNat = n := by decide +kernel
theorem tp_l : ∀ n, n < 64 → ((1 : Int64) <<< ((nI n).toInt64 &&& 63)).toBitVec = BitVec.twoPow 64 n := by decide +kernel
theorem bL_shr (n : Nat) (hn : n < 64) (x : Int64) {i : Nat} (hi : i < 64) : bL (x >>> ((nI n).toInt64 &&& 63)) i = if n + i < 64 then bL x (n + i) else bL x 63 := by
  unfold bL
  rw [Int64.toBitVec_shiftRight, BitVec.sshiftRight_eq', sl_l n hn, BitVec.getLsbD_sshiftRight]
  simp only [show ¬ 64 ≤ i by omega, decide_false, Bool.not_false, Bool.true_and]
  split
  · rfl
  · rw [BitVec.msb_eq_getLsbD_last]
theorem lcmp_0 {x : Int64} : lg_cmp x 0 = 0 ↔ x = 0 := by rw [lc_eq, ← lc_eqi]
theorem bL_test {x : Int64} {k : Nat} (hk : k < 64) : lg_cmp ((x >>> ((nI k).toInt64 &&& 63)) &&& 1) 0 = 0 ↔ bL x k = false := by
  rw [lcmp_0]
  constructor
  · intro h
    have h1 := congrArg (fun z => bL z 0) h
    simp only [bL_and, bL_1, bL_0, bL_shr k hk x (i := 0) (by omega)] at h1
    simpa [hk] using h1
  · intro h
    apply bL_ext
    intro i hi
    rw [bL_and, bL_1, bL_0]
    by_cases h0 : i = 0
    · subst h0
      rw [bL_shr k hk x (by omega)]
      simp [hk, h]
    · simp [h0]
theorem lB_bt (f : Nat → Bool) : ∀ (n i : Nat), n ≤ 64 → bL (lB f n) i = (decide (i < n) && f i)
  | 0, i, _ => by simp [lB, bL_0]
  | n + 1, i, h => by
    have ih := lB_bt f n i (by omega)
    unfold lB
    by_cases hi : i < 64
    · split
      · rename_i hf
        rw [bL_or, ih]
        unfold bL
        rw [tp_l n (by omega), BitVec.getLsbD_twoPow]
        by_cases h1 : i = n
        · subst h1; simp [hf, hi]
        · by_cases h2 : i < n
          · simp [h2, show i < n + 1 by omega]
            omega
          · simp [h2, show ¬ i < n + 1 by omega]
            omega
      · rename_i hf
        rw [ih]
        by_cases h1 : i = n
        · subst h1; simp [hf]
        · by_cases h2 : i < n
          · simp [h2, show i < n + 1 by omega]
          · simp [h2, show ¬ i < n + 1 by omega]
    · unfold bL
      split
      · rw [BitVec.getLsbD_of_ge _ _ (by omega)]
        simp [show ¬ i < n + 1 by omega]
      · rw [BitVec.getLsbD_of_ge _ _ (by omega)]
        simp [show ¬ i < n + 1 by omega]
