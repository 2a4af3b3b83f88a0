/-! WHAT IS ASKED FIRST: the component's need.. methods -/
def inB (x : Int32) (n : Nat) : Bool := decide (0 ≤ x.toInt ∧ x.toInt < (n : Int))
def bI (b : Bool) : Int32 := if b then 1 else 0
theorem nI_toI {n : Nat} (h : n < 2147483648) : (nI n).toInt = (n : Int) := nI_toInt (by omega)
theorem inB_nI {k n : Nat} (hk : k < 2147483648) : inB (nI k) n = decide (k < n) := by
  unfold inB
  rw [nI_toI hk]
  congr 1
  simp
theorem inB_of {x : Int32} {n : Nat} (h : inB x n = true) : ∃ k, k < n ∧ k < 2147483648 ∧ x = nI k := by
  unfold inB at h
  simp only [decide_eq_true_eq] at h
  have r := i32_rng x
  refine ⟨x.toInt.toNat, by omega, by omega, ?_⟩
  apply Int32.toInt_inj.mp
  rw [nI_toI (by omega)]
  omega
theorem lt0 {x : Int32} : x < 0 ↔ x.toInt < 0 := by rw [Int32.lt_iff_toInt_lt]; rfl
theorem le0 {x : Int32} : x ≤ 0 ↔ x.toInt ≤ 0 := by rw [Int32.le_iff_toInt_le]; rfl
theorem gt0 {x : Int32} : 0 < x ↔ 0 < x.toInt := by rw [Int32.lt_iff_toInt_lt]; rfl
theorem ge0 {x : Int32} : 0 ≤ x ↔ 0 ≤ x.toInt := by rw [Int32.le_iff_toInt_le]; rfl
theorem ilt {x y : Int32} : x < y ↔ x.toInt < y.toInt := Int32.lt_iff_toInt_lt
theorem ile {x y : Int32} : x ≤ y ↔ x.toInt ≤ y.toInt := Int32.le_iff_toInt_le
theorem ieq {x y : Int32} : x = y ↔ x.toInt = y.toInt := ⟨fun h => by rw [h], fun h => Int32.toInt_inj.mp h⟩
section
variable (d : Nat → Nat → Int32) (L : Nat → Nat → Int64)
set_option maxRecDepth 100000 in
set_option maxHeartbeats 4000000 in
theorem c_isHour (x : Int32) : Cn mX11_isHour false 1 0 0 [.int x] (W0 d L) (fun v h => v = some (.int (bI (inB x 100))) ∧ h = W0 d L) := by
  refine Cn.intro gX11_isHour rfl (Nat.le_of_ble_eq_true rfl) rfl ?_
  repeat' (first | refine x_s rfl rfl ?_ | refine x_br rfl rfl (fun c => ?_) (fun c => ?_))
  all_goals simp only [ilt, ile, show (0 : Int32).toInt = 0 from rfl, show (100 : Int32).toInt = 100 from rfl] at *
  all_goals refine x_iret rfl rfl rfl ⟨congrArg (fun z => some (Value.int z)) ?_, rfl⟩
  · simp [bI, inB]
    omega
  · simp [bI, inB]
    omega
  · simp [bI, inB]
    omega
set_option maxRecDepth 100000 in
set_option maxHeartbeats 4000000 in
theorem c_needHour (x : Int32) : Cx mX11_needHour 8 1 6 [.int x] (W0 d L) (fun v h => v = none ∧ h = W0 d L ∧ inB x 100 = true) (fun j h => j = 1 ∧ h = W0 d L ∧ inB x 100 = false) := by
  refine Cx.intro gX11_needHour rfl (Nat.le_of_ble_eq_true rfl) rfl ?_
  refine x_s rfl rfl ?_
  refine x_cs (c_isHour d L x) rfl rfl rfl (by decide) (by decide) (by decide) (by decide) (by decide) ?_
  rintro v h' ⟨rfl, rfl⟩
  refine x_br rfl rfl (fun c => ?_) (fun c => ?_)
  · refine x_vret rfl rfl ⟨rfl, rfl, ?_⟩
    cases hb : inB x 100
    · rw [hb] at c
      exact absurd rfl c
    · rfl
  · refine x_throw (Or.inr rfl) rfl rfl rfl rfl rfl (Or.inr ⟨_, rfl⟩) rfl rfl (by decide) (by decide) (by decide) (by decide) ⟨rfl, rfl, ?_⟩
    cases hb : inB x 100
    · rfl
    · rw [hb] at c
      exact absurd c (by decide)
end
