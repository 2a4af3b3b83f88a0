/-! WHAT IS ASKED FIRST, again -/
abbrev qN (d : Nat → Nat → Int32) (L : Nat → Nat → Int64) (b : Bool) : xPost := fun r h => r = none ∧ h = W0 d L ∧ b = true
abbrev qT (j : Nat) (d : Nat → Nat → Int32) (L : Nat → Nat → Int64) (b : Bool) : Nat → xHp → Prop := fun k h => k = j ∧ h = W0 d L ∧ b = false
def inL (x y : Int32) : Bool := decide (1 ≤ x.toInt ∧ x.toInt ≤ 9) && inB y 100
theorem inB_t {x : Int32} {n : Nat} {c : Int32} (hc : c = nI n) (hn : n < 100000) (h1 : ¬ x < 0) (h2 : x < c) : inB x n = true := by
  rw [hc, ilt, nI_tI (by omega)] at h2
  rw [lt0] at h1
  unfold inB
  exact decide_eq_true (by omega)
theorem inB_f1 {x : Int32} {n : Nat} (h1 : x < 0) : inB x n = false := by
  rw [lt0] at h1
  unfold inB
  exact decide_eq_false (by omega)
theorem inB_f2 {x : Int32} {n : Nat} {c : Int32} (hc : c = nI n) (hn : n < 100000) (h2 : ¬ x < c) : inB x n = false := by
  rw [hc, ilt, nI_tI (by omega)] at h2
  unfold inB
  exact decide_eq_false (by omega)
theorem mk_bits : ∀ m, m < 11 → ∀ i, i < 32 → bt ((((1 : Int32) <<< (nI m &&& 31)) - 1) ^^^ (-1)) i = decide (m ≤ i) := by decide +kernel
theorem inB_pow {x : Int32} {m : Nat} (hm : m < 11) : x &&& ((((1 : Int32) <<< (nI m &&& 31)) - 1) ^^^ (-1)) = 0 ↔ inB x (2 ^ m) = true := by
  have hp : 2 ^ m ≤ 1024 := Nat.le_trans (Nat.pow_le_pow_right (by decide) (show m ≤ 10 by omega)) (by decide)
  have e1 : (x &&& ((((1 : Int32) <<< (nI m &&& 31)) - 1) ^^^ (-1)) = 0) ↔ x.toBitVec.toNat < 2 ^ m := by
    constructor
    · intro h
      apply Nat.lt_pow_two_of_testBit
      intro i hi
      by_cases h32 : i < 32
      · have h1 := congrArg (fun z => bt z i) h
        simp only [b_and, mk_bits m hm i h32, b_0] at h1
        have h2 : bt x i = false := by simpa [hi] using h1
        exact h2
      · exact Nat.testBit_lt_two_pow (Nat.lt_of_lt_of_le x.toBitVec.isLt (Nat.pow_le_pow_right (by decide) (by omega)))
    · intro h
      apply b_ext
      intro i hi
      rw [b_and, mk_bits m hm i hi, b_0]
      by_cases h2 : m ≤ i
      · have : bt x i = false := Nat.testBit_lt_two_pow (Nat.lt_of_lt_of_le h (Nat.pow_le_pow_right (by decide) h2))
        rw [this, Bool.false_and]
      · rw [decide_eq_false h2, Bool.and_false]
  rw [e1]
  have hx : x.toInt = if 2 * x.toBitVec.toNat < 2 ^ 32 then (x.toBitVec.toNat : Int) else (x.toBitVec.toNat : Int) - (2 ^ 32 : Nat) := BitVec.toInt_eq_toNat_cond _
  have hl := x.toBitVec.isLt
  unfold inB
  rw [decide_eq_true_iff, hx]
  constructor
  · intro h
    rw [if_pos (by omega)]
    omega
  · rintro ⟨h1, h2⟩
    split at h1
    · rename_i h3
      rw [if_pos h3] at h2
      omega
    · omega
section
variable (d : Nat → Nat → Int32) (L : Nat → Nat → Int64) {F : Fr}
set_option maxRecDepth 100000 in
set_option maxHeartbeats 8000000 in
theorem c_needPerson (H : HC d F) (R : RG F) (x : Int32) : Cx mX11_needPerson 8 1 6 [.ref 0, .int x] (W0 d L) (qN d L (inB x (F.1 0 0))) (qT 1 d L (inB x (F.1 0 0))) := by
  have r1 := R.1
  refine Cx.intro gX11_needPerson rfl (Nat.le_of_ble_eq_true rfl) rfl ?_
  repeat refine x_s rfl rfl ?_
  refine x_br rfl rfl (fun c1 => ?_) (fun c1 => ?_)
  · refine x_throw (Or.inr rfl) rfl rfl rfl rfl rfl (Or.inr ⟨_, rfl⟩) rfl rfl (by decide) (by decide) (by decide) (Nat.le_of_ble_eq_true rfl) ⟨rfl, rfl, inB_f1 c1⟩
  · repeat refine x_s rfl rfl ?_
    refine x_br rfl rfl (fun c2 => ?_) (fun c2 => ?_)
    · exact x_vret rfl rfl ⟨rfl, rfl, inB_t H.1 (by omega) c1 c2⟩
    · refine x_throw (Or.inr rfl) rfl rfl rfl rfl rfl (Or.inr ⟨_, rfl⟩) rfl rfl (by decide) (by decide) (by decide) (Nat.le_of_ble_eq_true rfl) ⟨rfl, rfl, inB_f2 H.1 (by omega) c2⟩
set_option maxRecDepth 100000 in
set_option maxHeartbeats 8000000 in
theorem c_needNeedle (H : HC d F) (R : RG F) (x : Int32) : Cx mX11_needNeedle 8 1 6 [.ref 0, .int x] (W0 d L) (qN d L (inB x (F.1 4 0))) (qT 1 d L (inB x (F.1 4 0))) := by
  have r1 := R.2.1
  refine Cx.intro gX11_needNeedle rfl (Nat.le_of_ble_eq_true rfl) rfl ?_
  repeat refine x_s rfl rfl ?_
  refine x_br rfl rfl (fun c1 => ?_) (fun c1 => ?_)
  · refine x_throw (Or.inr rfl) rfl rfl rfl rfl rfl (Or.inr ⟨_, rfl⟩) rfl rfl (by decide) (by decide) (by decide) (Nat.le_of_ble_eq_true rfl) ⟨rfl, rfl, inB_f1 c1⟩
  · repeat refine x_s rfl rfl ?_
    refine x_br rfl rfl (fun c2 => ?_) (fun c2 => ?_)
    · exact x_vret rfl rfl ⟨rfl, rfl, inB_t H.2.1 (by omega) c1 c2⟩
    · refine x_throw (Or.inr rfl) rfl rfl rfl rfl rfl (Or.inr ⟨_, rfl⟩) rfl rfl (by decide) (by decide) (by decide) (Nat.le_of_ble_eq_true rfl) ⟨rfl, rfl, inB_f2 H.2.1 (by omega) c2⟩
set_option maxRecDepth 100000 in
set_option maxHeartbeats 8000000 in
theorem c_needSaying (H : HC d F) (R : RG F) (x : Int32) : Cx mX11_needSaying 8 1 6 [.ref 0, .int x] (W0 d L) (qN d L (inB x (F.1 9 0))) (qT 1 d L (inB x (F.1 9 0))) := by
  have r1 := R.2.2.1
  refine Cx.intro gX11_needSaying rfl (Nat.le_of_ble_eq_true rfl) rfl ?_
  repeat refine x_s rfl rfl ?_
  refine x_br rfl rfl (fun c1 => ?_) (fun c1 => ?_)
  · refine x_throw (Or.inr rfl) rfl rfl rfl rfl rfl (Or.inr ⟨_, rfl⟩) rfl rfl (by decide) (by decide) (by decide) (Nat.le_of_ble_eq_true rfl) ⟨rfl, rfl, inB_f1 c1⟩
  · repeat refine x_s rfl rfl ?_
    refine x_br rfl rfl (fun c2 => ?_) (fun c2 => ?_)
    · exact x_vret rfl rfl ⟨rfl, rfl, inB_t H.2.2.1 (by omega) c1 c2⟩
    · refine x_throw (Or.inr rfl) rfl rfl rfl rfl rfl (Or.inr ⟨_, rfl⟩) rfl rfl (by decide) (by decide) (by decide) (Nat.le_of_ble_eq_true rfl) ⟨rfl, rfl, inB_f2 H.2.2.1 (by omega) c2⟩
set_option maxRecDepth 100000 in
set_option maxHeartbeats 8000000 in
theorem c_needWhat (x : Int32) {m : Nat} (hm : m < 1000) : Cx mX11_needWhat 8 1 6 [.int x, .int (nI m)] (W0 d L) (qN d L (inB x (m + 1))) (qT 1 d L (inB x (m + 1))) := by
  refine Cx.intro gX11_needWhat rfl (Nat.le_of_ble_eq_true rfl) rfl ?_
  repeat refine x_s rfl rfl ?_
  refine x_br rfl rfl (fun c1 => ?_) (fun c1 => ?_)
  · refine x_throw (Or.inr rfl) rfl rfl rfl rfl rfl (Or.inr ⟨_, rfl⟩) rfl rfl (by decide) (by decide) (by decide) (Nat.le_of_ble_eq_true rfl) ⟨rfl, rfl, inB_f1 c1⟩
  · repeat refine x_s rfl rfl ?_
    refine x_br rfl rfl (fun c2 => ?_) (fun c2 => ?_)
    · refine x_vret rfl rfl ⟨rfl, rfl, ?_⟩
      rw [ile, nI_tI (by omega)] at c2
      rw [lt0] at c1
      exact decide_eq_true (by omega)
    · refine x_throw (Or.inr rfl) rfl rfl rfl rfl rfl (Or.inr ⟨_, rfl⟩) rfl rfl (by decide) (by decide) (by decide) (Nat.le_of_ble_eq_true rfl) ⟨rfl, rfl, ?_⟩
      rw [ile, nI_tI (by omega)] at c2
      exact decide_eq_false (by omega)
set_option maxRecDepth 100000 in
set_option maxHeartbeats 8000000 in
theorem c_needLie (x y : Int32) : Cx mX11_needLie 8 1 6 [.int x, .int y] (W0 d L) (qN d L (inL x y)) (qT 0 d L (inL x y)) := by
  have e1 : (1 : Int32).toInt = 1 := rfl
  have e9 : (9 : Int32).toInt = 9 := rfl
  refine Cx.intro gX11_needLie rfl (Nat.le_of_ble_eq_true rfl) rfl ?_
  repeat refine x_s rfl rfl ?_
  refine x_br rfl rfl (fun c1 => ?_) (fun c1 => ?_)
  · rw [ilt, e1] at c1
    refine x_throw (Or.inl rfl) rfl rfl rfl rfl rfl (Or.inr ⟨_, rfl⟩) rfl rfl (by decide) (by decide) (by decide) (Nat.le_of_ble_eq_true rfl) ⟨rfl, rfl, ?_⟩
    rw [inL, decide_eq_false (by omega)]
    rfl
  · rw [ilt, e1] at c1
    repeat refine x_s rfl rfl ?_
    refine x_br rfl rfl (fun c2 => ?_) (fun c2 => ?_)
    · rw [ilt, e9] at c2
      refine x_throw (Or.inl rfl) rfl rfl rfl rfl rfl (Or.inr ⟨_, rfl⟩) rfl rfl (by decide) (by decide) (by decide) (Nat.le_of_ble_eq_true rfl) ⟨rfl, rfl, ?_⟩
      rw [inL, decide_eq_false (by omega)]
      rfl
    · rw [ilt, e9] at c2
      repeat refine x_s rfl rfl ?_
      refine x_cs (c_isHour d L y) rfl rfl rfl (by decide) (Nat.le_of_ble_eq_true rfl) (by decide) (by decide) (by decide) ?_
      rintro _ _ ⟨rfl, rfl⟩
      refine x_br rfl rfl (fun c3 => ?_) (fun c3 => ?_)
      · refine x_vret rfl rfl ⟨rfl, rfl, ?_⟩
        rw [inL, decide_eq_true (by omega), bI_n0.mp c3]
        rfl
      · refine x_throw (Or.inl rfl) rfl rfl rfl rfl rfl (Or.inr ⟨_, rfl⟩) rfl rfl (by decide) (by decide) (by decide) (Nat.le_of_ble_eq_true rfl) ⟨rfl, rfl, ?_⟩
        rw [inL, bI_0.mp c3, Bool.and_false]
set_option maxRecDepth 100000 in
set_option maxHeartbeats 8000000 in
theorem c_needBits (x : Int32) {m : Nat} (hm : m < 11) : Cx mX11_needBits 8 1 6 [.int x, .int (nI m)] (W0 d L) (qN d L (inB x (2 ^ m))) (qT 0 d L (inB x (2 ^ m))) := by
  refine Cx.intro gX11_needBits rfl (Nat.le_of_ble_eq_true rfl) rfl ?_
  repeat refine x_s rfl rfl ?_
  refine x_br rfl rfl (fun c1 => ?_) (fun c1 => ?_)
  · exact x_vret rfl rfl ⟨rfl, rfl, (inB_pow hm).mp c1⟩
  · refine x_throw (Or.inl rfl) rfl rfl rfl rfl rfl (Or.inr ⟨_, rfl⟩) rfl rfl (by decide) (by decide) (by decide) (Nat.le_of_ble_eq_true rfl) ⟨rfl, rfl, ?_⟩
    cases hb : inB x (2 ^ m)
    · rfl
    · exact absurd ((inB_pow hm).mpr hb) c1
set_option maxRecDepth 100000 in
set_option maxHeartbeats 8000000 in
theorem c_nextSeed (x : Int32) : Cn mX11_nextSeed false 1 0 0 [.int x] (W0 d L) (qP d L (x * 1103515245 + 12345)) := by
  refine Cn.intro gX11_nextSeed rfl (Nat.le_of_ble_eq_true rfl) rfl ?_
  repeat refine x_s rfl rfl ?_
  refine x_iret rfl rfl rfl ⟨congrArg (fun z => some (Value.int z)) ?_, rfl⟩
  rfl
set_option maxRecDepth 100000 in
set_option maxHeartbeats 8000000 in
theorem c_placeNumber (x y : Int32) : Cn mX11_placeNumber false 1 0 0 [.int x, .int y] (W0 d L) (qP d L (100 * y + x)) := by
  refine Cn.intro gX11_placeNumber rfl (Nat.le_of_ble_eq_true rfl) rfl ?_
  repeat refine x_s rfl rfl ?_
  refine x_iret rfl rfl rfl ⟨congrArg (fun z => some (Value.int z)) ?_, rfl⟩
  rfl
end
