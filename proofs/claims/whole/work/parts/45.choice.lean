/-! CHOICES, one after another: fewest first -/
def us (x y : Int32) : Int32 := (x.toUInt32 >>> (y.toUInt32 &&& Int32.toUInt32 31)).toInt32
def bcA (x : Int32) : Int32 := x - (us x 1 &&& 1431655765)
def bcB (x : Int32) : Int32 := (x &&& 858993459) + (us x 2 &&& 858993459)
def bcC (x : Int32) : Int32 := (x + us x 4) &&& 252645135
def bcD (x : Int32) : Int32 := x + us x 8
def bcE (x : Int32) : Int32 := x + us x 16
def bc (x : Int32) : Int32 := bcE (bcD (bcC (bcB (bcA x)))) &&& 63
def nc (x : Int32) (m : Nat) : Int32 := if x &&& -x = 0 then 1 else if ((x + (x &&& -x)) ||| (us ((x + (x &&& -x)) ^^^ x) 2 / (x &&& -x))) < (1 : Int32) <<< (nI m &&& 31) then ((x + (x &&& -x)) ||| (us ((x + (x &&& -x)) ^^^ x) 2 / (x &&& -x))) else ((1 : Int32) <<< ((bc x + 1) &&& 31)) - 1
/-- the first choice that holds, n at most -/
def fI (T : Int32 → Bool) (m : Nat) : Int32 → Nat → Int32
  | _, 0 => -1
  | x, n + 1 => if T x then x else fI T m (nc x m) n
def fP (T : Int32 → Bool) (m : Nat) : Int32 → Nat → Int32
  | _, 0 => -1
  | x, n + 1 => if bc x ≤ 3 then (if T x then x else fP T m (nc x m) n) else -1
theorem p2_I : ∀ m, m < 11 → (1 : Int32) <<< (nI m &&& 31) = nI (2 ^ m) := by decide +kernel
def drw (x : Int32) (n : Nat) : Nat := ((x >>> ((16 : Int32) &&& 31)) &&& 32767).toInt.toNat % n
theorem dr_u (x : Int32) : us x 16 &&& 32767 = (x >>> ((16 : Int32) &&& 31)) &&& 32767 := by
  apply b_ext
  intro i hi
  have h1 := b_ushr 16 (by decide) x i
  have h2 := b_sshr 16 (by decide) x hi
  rw [b_and, b_and]
  have e1 : bt (us x 16) i = bt x (16 + i) := h1
  have e2 : bt (x >>> ((16 : Int32) &&& 31)) i = if 16 + i < 32 then bt x (16 + i) else bt x 31 := h2
  rw [e1, e2]
  by_cases h : 16 + i < 32
  · rw [if_pos h]
  · rw [if_neg h, b_big (by omega)]
    have h3 : ∀ j, j < 32 → 15 ≤ j → bt (32767 : Int32) j = false := by decide +kernel
    rw [h3 i hi (by omega), Bool.and_false, Bool.and_false]
theorem dr_b (x : Int32) : ∃ k, k < 32768 ∧ (x >>> ((16 : Int32) &&& 31)) &&& 32767 = nI k := by
  refine ⟨(((x >>> ((16 : Int32) &&& 31)) &&& 32767).toBitVec.toNat), ?_, ?_⟩
  · rw [Int32.toBitVec_and, BitVec.toNat_and]
    exact Nat.lt_of_le_of_lt Nat.and_le_right (by decide)
  · apply Int32.toBitVec_inj.mp
    show _ = BitVec.ofNat 32 _
    rw [BitVec.ofNat_toNat]
    simp
theorem irem_N {a b : Nat} (ha : a ≤ 100000) (hb : 0 < b) (hb2 : b ≤ 100000) : nI a - nI a / nI b * nI b = nI (a % b) := by
  have e : nI a / nI b = nI (a / b) := by
    apply ieq.mpr
    rw [Int32.toInt_div, nI_tI ha, nI_tI hb2, nI_tI (Nat.le_trans (Nat.div_le_self _ _) ha), Int.tdiv_eq_ediv_of_nonneg (by omega), Int.bmod_eq_of_le (by have : (0 : Int) ≤ (a : Int) / (b : Int) := Int.ediv_nonneg (by omega) (by omega); omega) (by have : (a : Int) / (b : Int) ≤ (a : Int) := Int.ediv_le_self _ (by omega); omega)]
    norm_cast
  rw [e]
  have e2 : nI (a / b) * nI b = nI (a / b * b) := by
    unfold nI
    rw [Int32.ofNat_mul]
  rw [e2]
  have h1 := Nat.div_add_mod a b
  have h2 : a / b * b + a % b = a := by rw [Nat.mul_comm]; exact h1
  conv => lhs; lhs; rw [← h2]
  rw [← nI_add]
  rw [Int32.add_comm, Int32.add_sub_cancel]
section
variable (d : Nat → Nat → Int32) (L : Nat → Nat → Int64) {F : Fr}
set_option maxRecDepth 100000 in
set_option maxHeartbeats 8000000 in
theorem c_bitCount (x : Int32) : Cn mJ6_bitCount_0f7a4 false 1 0 0 [.int x] (W0 d L) (qP d L (bc x)) := by
  refine Cn.intro gJ6_bitCount_0f7a4 rfl (Nat.le_of_ble_eq_true rfl) rfl ?_
  iterate 8 refine x_s rfl rfl ?_
  rw [show x - ((x.toUInt32 >>> ((1 : Int32).toUInt32 &&& Int32.toUInt32 31)).toInt32 &&& 1431655765) = bcA x from rfl]
  generalize h1 : bcA x = a
  iterate 10 refine x_s rfl rfl ?_
  rw [show (a &&& 858993459) + ((a.toUInt32 >>> ((2 : Int32).toUInt32 &&& Int32.toUInt32 31)).toInt32 &&& 858993459) = bcB a from rfl]
  generalize h2 : bcB a = b
  iterate 8 refine x_s rfl rfl ?_
  rw [show (b + (b.toUInt32 >>> ((4 : Int32).toUInt32 &&& Int32.toUInt32 31)).toInt32) &&& 252645135 = bcC b from rfl]
  generalize h3 : bcC b = c
  iterate 6 refine x_s rfl rfl ?_
  rw [show c + (c.toUInt32 >>> ((8 : Int32).toUInt32 &&& Int32.toUInt32 31)).toInt32 = bcD c from rfl]
  generalize h4 : bcD c = e
  iterate 6 refine x_s rfl rfl ?_
  rw [show e + (e.toUInt32 >>> ((16 : Int32).toUInt32 &&& Int32.toUInt32 31)).toInt32 = bcE e from rfl]
  iterate 3 refine x_s rfl rfl ?_
  refine x_iret rfl rfl rfl ⟨congrArg (fun z => some (Value.int z)) ?_, rfl⟩
  unfold bc
  rw [h1, h2, h3, h4]
set_option maxRecDepth 100000 in
set_option maxHeartbeats 8000000 in
theorem c_nextChoice (x : Int32) (m : Nat) : Cn mX11_nextChoice false 2 0 0 [.int x, .int (nI m)] (W0 d L) (qP d L (nc x m)) := by
  refine Cn.intro gX11_nextChoice rfl (Nat.le_of_ble_eq_true rfl) rfl ?_
  repeat refine x_s rfl rfl ?_
  refine x_br rfl rfl (fun c1 => ?_) (fun c1 => ?_)
  · have hl : ¬ x &&& -x = 0 := c1
    generalize hlo : x &&& -x = lo at *
    iterate 11 refine x_s rfl rfl ?_
    refine x_idiv rfl hl ?_
    repeat refine x_s rfl rfl ?_
    refine x_br rfl rfl (fun c2 => ?_) (fun c2 => ?_)
    · repeat refine x_s rfl rfl ?_
      refine x_cs (c_bitCount d L x) rfl rfl rfl (by decide) (Nat.le_of_ble_eq_true rfl) (by decide) (by decide) (by decide) ?_
      rintro _ _ ⟨rfl, rfl⟩
      repeat refine x_s rfl rfl ?_
      refine x_iret rfl rfl rfl ⟨congrArg (fun z => some (Value.int z)) ?_, rfl⟩
      rw [nc, hlo, if_neg hl]
      exact (if_neg (Int32.not_lt.mpr c2)).symm
    · repeat refine x_s rfl rfl ?_
      refine x_iret rfl rfl rfl ⟨congrArg (fun z => some (Value.int z)) ?_, rfl⟩
      rw [nc, hlo, if_neg hl]
      exact (if_pos (Int32.not_le.mp c2)).symm
  · have hl : x &&& -x = 0 := c1
    repeat refine x_s rfl rfl ?_
    refine x_iret rfl rfl rfl ⟨congrArg (fun z => some (Value.int z)) ?_, rfl⟩
    rw [nc, if_pos hl]
set_option maxRecDepth 100000 in
set_option maxHeartbeats 8000000 in
theorem c_draw (x : Int32) {n : Nat} (h0 : 0 < n) (hn : n ≤ 1000) : Cn mX11_draw false 1 0 0 [.int x, .int (nI n)] (W0 d L) (qP d L (nI (drw x n))) := by
  refine Cn.intro gX11_draw rfl (Nat.le_of_ble_eq_true rfl) rfl ?_
  repeat refine x_s rfl rfl ?_
  refine x_br rfl rfl (fun c => absurd c (nI_nle h0 (by omega))) (fun c => ?_)
  repeat refine x_s rfl rfl ?_
  refine x_irem rfl (nI_ne0 h0 (by omega)) ?_
  repeat refine x_s rfl rfl ?_
  refine x_iret rfl rfl rfl ⟨congrArg (fun z => some (Value.int z)) ?_, rfl⟩
  have e : (x.toUInt32 >>> ((16 : Int32).toUInt32 &&& Int32.toUInt32 31)).toInt32 &&& 32767 = (x >>> ((16 : Int32) &&& 31)) &&& 32767 := dr_u x
  rw [e]
  unfold drw
  obtain ⟨k, hk, e2⟩ := dr_b x
  rw [e2, irem_N (by omega) h0 (by omega), nI_tI (by omega)]
  simp
end
