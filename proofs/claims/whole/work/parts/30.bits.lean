/-! BITS (this family begins with the kit's laws/BITS.to-paste) -/
def bt (x : Int32) (i : Nat) : Bool := x.toBitVec.getLsbD i
theorem b_ext {x y : Int32} (h : ∀ i, i < 32 → bt x i = bt y i) : x = y := Int32.toBitVec_inj.mp (BitVec.eq_of_getLsbD_eq (fun i hi => h i hi))
theorem b_or (x y : Int32) (i : Nat) : bt (x ||| y) i = (bt x i || bt y i) := by unfold bt; rw [Int32.toBitVec_or, BitVec.getLsbD_or]
theorem b_and (x y : Int32) (i : Nat) : bt (x &&& y) i = (bt x i && bt y i) := by unfold bt; rw [Int32.toBitVec_and, BitVec.getLsbD_and]
theorem b_xor (x y : Int32) (i : Nat) : bt (x ^^^ y) i = (bt x i ^^ bt y i) := by unfold bt; rw [Int32.toBitVec_xor, BitVec.getLsbD_xor]
theorem b_big {x : Int32} {i : Nat} (h : 32 ≤ i) : bt x i = false := BitVec.getLsbD_of_ge _ _ h
theorem b_255 (i : Nat) : bt 255 i = decide (i < 8) := by
  rcases Nat.lt_or_ge i 32 with h | h
  · exact (by decide +kernel : ∀ i, i < 32 → bt 255 i = decide (i < 8)) i h
  · rw [b_big h, decide_eq_false (by omega)]
theorem b_65535 (i : Nat) : bt 65535 i = decide (i < 16) := by
  rcases Nat.lt_or_ge i 32 with h | h
  · exact (by decide +kernel : ∀ i, i < 32 → bt 65535 i = decide (i < 16)) i h
  · rw [b_big h, decide_eq_false (by omega)]
theorem b_m1 : ∀ i, i < 32 → bt (-1) i = true := by decide +kernel
theorem b_0 (i : Nat) : bt 0 i = false := BitVec.getLsbD_zero
theorem s_l : ∀ n, n < 32 → ((nI n &&& 31).toBitVec.smod 32).toNat = n := by decide +kernel
theorem s_u : ∀ n, n < 32 → (((nI n).toUInt32 &&& Int32.toUInt32 31).toBitVec % 32).toNat = n := by decide +kernel
theorem b_shl (n : Nat) (hn : n < 32) (x : Int32) {i : Nat} (hi : i < 32) : bt (x <<< (nI n &&& 31)) i = (decide (n ≤ i) && bt x (i - n)) := by
  unfold bt
  rw [Int32.toBitVec_shiftLeft]
  show (x.toBitVec <<< ((nI n &&& 31).toBitVec.smod 32).toNat).getLsbD i = _
  rw [s_l n hn, BitVec.getLsbD_shiftLeft]
  rcases Nat.lt_or_ge i n with h | h
  · simp [h, Nat.not_le.mpr h]
  · simp [hi, h, Nat.not_lt.mpr h]
theorem b_ushr (n : Nat) (hn : n < 32) (x : Int32) (i : Nat) : bt ((x.toUInt32 >>> ((nI n).toUInt32 &&& Int32.toUInt32 31)).toInt32) i = bt x (n + i) := by
  show (x.toUInt32 >>> ((nI n).toUInt32 &&& Int32.toUInt32 31)).toBitVec.getLsbD i = x.toUInt32.toBitVec.getLsbD (n + i)
  rw [UInt32.toBitVec_shiftRight]
  show (x.toUInt32.toBitVec >>> (((nI n).toUInt32 &&& Int32.toUInt32 31).toBitVec % 32).toNat).getLsbD i = _
  rw [s_u n hn, BitVec.getLsbD_ushiftRight]
theorem b_sshr (n : Nat) (hn : n < 32) (x : Int32) {i : Nat} (hi : i < 32) : bt (x >>> (nI n &&& 31)) i = if n + i < 32 then bt x (n + i) else bt x 31 := by
  unfold bt
  rw [Int32.toBitVec_shiftRight]
  show (x.toBitVec.sshiftRight ((nI n &&& 31).toBitVec.smod 32).toNat).getLsbD i = _
  rw [s_l n hn, BitVec.getLsbD_sshiftRight, BitVec.msb_eq_getLsbD_last]
  simp [hi]
theorem b_shl8 (x : Int32) {i : Nat} (hi : i < 32) : bt (x <<< ((8 : Int32) &&& 31)) i = (decide (8 ≤ i) && bt x (i - 8)) := b_shl 8 (by omega) x hi
theorem b_shl16 (x : Int32) {i : Nat} (hi : i < 32) : bt (x <<< ((16 : Int32) &&& 31)) i = (decide (16 ≤ i) && bt x (i - 16)) := b_shl 16 (by omega) x hi
theorem b_shl24 (x : Int32) {i : Nat} (hi : i < 32) : bt (x <<< ((24 : Int32) &&& 31)) i = (decide (24 ≤ i) && bt x (i - 24)) := b_shl 24 (by omega) x hi
theorem b_sshr8 (x : Int32) {i : Nat} (hi : i < 32) : bt (x >>> ((8 : Int32) &&& 31)) i = if 8 + i < 32 then bt x (8 + i) else bt x 31 := b_sshr 8 (by omega) x hi
theorem b_one (i : Nat) : bt 1 i = decide (i = 0) := by
  unfold bt
  rw [show (1 : Int32).toBitVec = 1#32 from rfl, BitVec.getLsbD_one]
  by_cases h : i = 0 <;> simp [h]
/-- a bit is asked -/
theorem bt_test {x : Int32} {k : Nat} (hk : k < 32) : (x >>> (nI k &&& 31)) &&& 1 = 0 ↔ bt x k = false := by
  constructor
  · intro h
    have h1 := congrArg (fun z => bt z 0) h
    simp only [b_and, b_one, b_0, b_sshr k hk x (i := 0) (by omega)] at h1
    simpa [hk] using h1
  · intro h
    apply b_ext
    intro i hi
    rw [b_and, b_one, b_0]
    by_cases h0 : i = 0
    · subst h0
      rw [b_sshr k hk x (by omega)]
      simp [hk, h]
    · simp [h0]
theorem bt_test1 {x : Int32} {k : Nat} (hk : k < 32) : (x >>> (nI k &&& 31)) &&& 1 = 1 ↔ bt x k = true := by
  constructor
  · intro h
    cases hb : bt x k
    · rw [(bt_test hk).mpr hb] at h
      exact absurd h (by decide)
    · rfl
  · intro h
    apply b_ext
    intro i hi
    rw [b_and, b_one]
    by_cases h0 : i = 0
    · subst h0
      rw [b_sshr k hk x (by omega)]
      simp [hk, h]
    · simp [h0]
theorem bt_bit {k i : Nat} (hk : k < 32) (hi : i < 32) : bt ((1 : Int32) <<< (nI k &&& 31)) i = decide (i = k) := by
  rw [b_shl k hk 1 hi, b_one]
  by_cases h : i = k
  · subst h; simp
  · by_cases h2 : k ≤ i
    · simp [h2]; omega
    · simp [h2]; omega
/-- the bits k below n with f k -/
def bF (f : Nat → Bool) : Nat → Int32
  | 0 => 0
  | k + 1 => if f k then bF f k ||| ((1 : Int32) <<< (nI k &&& 31)) else bF f k
theorem bF_bt (f : Nat → Bool) : ∀ (n i : Nat), n ≤ 32 → bt (bF f n) i = (decide (i < n) && f i)
  | 0, i, _ => by simp [bF, b_0]
  | n + 1, i, h => by
    have ih := bF_bt f n i (by omega)
    unfold bF
    by_cases hi : i < 32
    · split
      · rename_i hf
        rw [b_or, ih, bt_bit (by omega) hi]
        by_cases h1 : i = n
        · subst h1; simp [hf]
        · by_cases h2 : i < n
          · simp [h2, h1, show i < n + 1 by omega]
          · simp [h2, h1, show ¬ i < n + 1 by omega]
      · rename_i hf
        rw [ih]
        by_cases h1 : i = n
        · subst h1; simp [hf]
        · by_cases h2 : i < n
          · simp [h2, show i < n + 1 by omega]
          · simp [h2, show ¬ i < n + 1 by omega]
    · rw [b_big (by omega)]
      simp [show ¬ i < n + 1 by omega]
theorem bF_cong {f g : Nat → Bool} : ∀ {n : Nat}, (∀ i, i < n → f i = g i) → bF f n = bF g n
  | 0, _ => rfl
  | n + 1, h => by
    unfold bF
    rw [bF_cong (fun i hi => h i (by omega)), h n (by omega)]
theorem bF_0 {f : Nat → Bool} {n : Nat} (hn : n ≤ 32) : bF f n = 0 ↔ ∀ i, i < n → f i = false := by
  constructor
  · intro h i hi
    have h1 := bF_bt f n i hn
    rw [h, b_0] at h1
    simpa [hi] using h1.symm
  · intro h
    apply b_ext
    intro i _
    rw [bF_bt f n i hn, b_0]
    by_cases hi : i < n
    · simp [hi, h i hi]
    · simp [hi]
/-- how many k below n with f k -/
def cF (f : Nat → Bool) : Nat → Nat
  | 0 => 0
  | k + 1 => if f k then cF f k + 1 else cF f k
theorem cF_le (f : Nat → Bool) : ∀ n, cF f n ≤ n
  | 0 => Nat.le_refl _
  | n + 1 => by
    have := cF_le f n
    unfold cF
    split <;> omega
theorem cF_cong {f g : Nat → Bool} : ∀ {n : Nat}, (∀ i, i < n → f i = g i) → cF f n = cF g n
  | 0, _ => rfl
  | n + 1, h => by
    unfold cF
    rw [cF_cong (fun i hi => h i (by omega)), h n (by omega)]
/-- whether some k below n has f k -/
def aF (f : Nat → Bool) : Nat → Bool
  | 0 => false
  | k + 1 => aF f k || f k
theorem aF_iff {f : Nat → Bool} : ∀ {n : Nat}, aF f n = true ↔ ∃ i, i < n ∧ f i = true
  | 0 => by simp [aF]
  | n + 1 => by
    unfold aF
    rw [Bool.or_eq_true, aF_iff]
    constructor
    · rintro (⟨i, h1, h2⟩ | h)
      · exact ⟨i, by omega, h2⟩
      · exact ⟨n, by omega, h⟩
    · rintro ⟨i, h1, h2⟩
      by_cases h : i = n
      · subst h; exact Or.inr h2
      · exact Or.inl ⟨i, by omega, h2⟩
theorem aF_no {f : Nat → Bool} {n : Nat} : aF f n = false ↔ ∀ i, i < n → f i = false := by
  constructor
  · intro h i hi
    cases hf : f i
    · rfl
    · rw [aF_iff.mpr ⟨i, hi, hf⟩] at h
      cases h
  · intro h
    cases ha : aF f n
    · rfl
    · obtain ⟨i, h1, h2⟩ := aF_iff.mp ha
      rw [h i h1] at h2
      cases h2
theorem bF_aF {f : Nat → Bool} {n : Nat} (hn : n ≤ 32) : bF f n = 0 ↔ aF f n = false := (bF_0 hn).trans aF_no.symm
/-- the first k from k on with f k, m at most; else -1 -/
def fF (f : Nat → Bool) : Nat → Nat → Int32
  | _, 0 => -1
  | k, m + 1 => if f k then nI k else fF f (k + 1) m
theorem fF_cong {f g : Nat → Bool} : ∀ {k m : Nat}, (∀ i, k ≤ i → i < k + m → f i = g i) → fF f k m = fF g k m
  | k, 0, _ => rfl
  | k, m + 1, h => by
    unfold fF
    rw [fF_cong (k := k + 1) (m := m) (fun i h1 h2 => h i (by omega) (by omega)), h k (by omega) (by omega)]
/-- a loop, from its end -/
theorem x_down {P : Nat → Prop} (n : Nat) (hn : P n) (hs : ∀ k, k < n → P (k + 1) → P k) : ∀ k, k ≤ n → P k := by
  intro k hk
  have : ∀ j, j ≤ n → P (n - j) := by
    intro j
    induction j with
    | zero => intro _; exact hn
    | succ j ih =>
      intro hj
      have h1 := ih (by omega)
      rw [show n - j = n - (j + 1) + 1 by omega] at h1
      exact hs _ (by omega) h1
  have h := this (n - k) (by omega)
  rwa [show n - (n - k) = k by omega] at h
