/-! SIDES: both classes' sideOf against one function of two whole numbers -/
def iab (a : Int) : Int := if 0 < a then a else -a
def sd (a b : Int) : Nat := if iab a = 0 ∧ iab b = 0 then 8 else if 2 * iab b < iab a then (if 0 < a then 2 else 6) else if 2 * iab a < iab b then (if 0 < b then 4 else 0) else if 0 < a then (if 0 < b then 3 else 1) else (if 0 < b then 5 else 7)
theorem lc_lt {x y : Int64} : x < y ↔ x.toInt < y.toInt := Int64.lt_iff_toInt_lt
theorem lc_eqi {x y : Int64} : x = y ↔ x.toInt = y.toInt := ⟨fun h => by rw [h], fun h => Int64.toInt_inj.mp h⟩
theorem lc_le {x y : Int64} : lg_cmp x y ≤ 0 ↔ x.toInt ≤ y.toInt := by
  unfold lg_cmp
  by_cases h1 : y < x
  · have := lc_lt.mp h1
    simp only [h1, if_true]
    exact ⟨fun h => absurd h (by decide), fun h => by omega⟩
  · have h2 : ¬ y.toInt < x.toInt := fun h => h1 (lc_lt.mpr h)
    simp only [h1, if_false]
    by_cases h3 : x = y
    · simp only [h3, if_true]
      exact ⟨fun _ => by omega, fun _ => by decide⟩
    · simp only [h3, if_false]
      exact ⟨fun _ => by omega, fun _ => by decide⟩
theorem lc_eq {x y : Int64} : lg_cmp x y = 0 ↔ x.toInt = y.toInt := by
  unfold lg_cmp
  by_cases h1 : y < x
  · have := lc_lt.mp h1
    simp only [h1, if_true]
    exact ⟨fun h => absurd h (by decide), fun h => by omega⟩
  · simp only [h1, if_false]
    by_cases h3 : x = y
    · simp [h3]
    · simp only [h3, if_false]
      exact ⟨fun h => absurd h (by decide), fun h => absurd (lc_eqi.mpr h) h3⟩
theorem lc_ge {x y : Int64} : 0 ≤ lg_cmp x y ↔ y.toInt ≤ x.toInt := by
  unfold lg_cmp
  by_cases h1 : y < x
  · have := lc_lt.mp h1
    simp only [h1, if_true]
    exact ⟨fun _ => by omega, fun _ => by decide⟩
  · have h2 : ¬ y.toInt < x.toInt := fun h => h1 (lc_lt.mpr h)
    simp only [h1, if_false]
    by_cases h3 : x = y
    · simp [h3]
    · simp only [h3, if_false]
      exact ⟨fun h => absurd h (by decide), fun h => absurd (lc_eqi.mpr (by omega)) h3⟩
theorem l0 : (0 : Int64).toInt = 0 := rfl
theorem i32_rng (x : Int32) : -2147483648 ≤ x.toInt ∧ x.toInt < 2147483648 := ⟨by have := Int32.le_toInt x; omega, by have := Int32.toInt_lt x; omega⟩
theorem l_wide (x : Int32) : x.toInt64.toInt = x.toInt := Int32.toInt_toInt64 x
theorem l_neg {x : Int64} (h1 : -2147483649 ≤ x.toInt) (h2 : x.toInt ≤ 2147483648) : (-x).toInt = -x.toInt := by
  rw [Int64.toInt_neg, Int.bmod_eq_of_le (by omega) (by omega)]
theorem l_sub0 {x : Int64} (h1 : -2147483649 ≤ x.toInt) (h2 : x.toInt ≤ 2147483648) : (0 - x).toInt = -x.toInt := by
  rw [Int64.toInt_sub, l0, Int.bmod_eq_of_le (by omega) (by omega)]
  omega
theorem l_two {x : Int64} (h1 : -2147483649 ≤ x.toInt) (h2 : x.toInt ≤ 2147483648) : (2 * x).toInt = 2 * x.toInt := by
  rw [Int64.toInt_mul, show (2 : Int64).toInt = 2 from rfl, Int.bmod_eq_of_le (by omega) (by omega)]
set_option maxRecDepth 100000 in
set_option maxHeartbeats 4000000 in
theorem c_sideOf (d : Nat → Nat → Int32) (L : Nat → Nat → Int64) (x y : Int32) : Cn mX11_sideOf false 2 0 0 [.long x.toInt64, .long y.toInt64] (W0 d L) (fun v h => v = some (.int (nI (sd x.toInt y.toInt))) ∧ h = W0 d L) := by
  refine Cn.intro gX11_sideOf rfl (Nat.le_of_ble_eq_true rfl) rfl ?_
  have rx := i32_rng x
  have ry := i32_rng y
  have wx := l_wide x
  have wy := l_wide y
  generalize x.toInt64 = X at wx ⊢
  generalize y.toInt64 = Y at wy ⊢
  iterate 1 refine x_s rfl rfl ?_
  refine x_labs rfl (by decide) (by decide) ?_
  have hw : (if 0 < X then X else -X).toInt = iab x.toInt := by
    unfold iab
    by_cases hh : (0 : Int64) < X
    · have h2 : 0 < x.toInt := by rw [← wx]; exact lc_lt.mp hh
      simp only [hh, h2, if_true]
      exact wx
    · have h2 : ¬ 0 < x.toInt := by rw [← wx]; exact fun z => hh (lc_lt.mpr z)
      simp only [hh, h2, if_false]
      rw [l_neg (by omega) (by omega), wx]
  generalize (if 0 < X then X else -X) = V at hw ⊢
  iterate 2 refine x_s rfl rfl ?_
  refine x_labs rfl (by decide) (by decide) ?_
  have hv : (if 0 < Y then Y else -Y).toInt = iab y.toInt := by
    unfold iab
    by_cases hh : (0 : Int64) < Y
    · have h2 : 0 < y.toInt := by rw [← wy]; exact lc_lt.mp hh
      simp only [hh, h2, if_true]
      exact wy
    · have h2 : ¬ 0 < y.toInt := by rw [← wy]; exact fun z => hh (lc_lt.mpr z)
      simp only [hh, h2, if_false]
      rw [l_neg (by omega) (by omega), wy]
  generalize (if 0 < Y then Y else -Y) = U at hv ⊢
  have bV : 0 ≤ V.toInt ∧ V.toInt ≤ 2147483648 := by rw [hw]; unfold iab; split <;> omega
  have bU : 0 ≤ U.toInt ∧ U.toInt ≤ 2147483648 := by rw [hv]; unfold iab; split <;> omega
  have t2U := l_two (x := U) (by omega) (by omega)
  have t2V := l_two (x := V) (by omega) (by omega)
  repeat' (first | refine x_s rfl rfl ?_ | refine x_br rfl rfl (fun c => ?_) (fun c => ?_))
  all_goals simp only [lc_le, lc_eq, t2U, t2V, hw, hv, wx, wy, l0] at *
  all_goals refine x_iret rfl rfl rfl ⟨congrArg (fun z => some (Value.int z)) ?_, rfl⟩
  all_goals unfold sd
  all_goals repeat' split
  all_goals first | rfl | (exfalso; omega)
set_option maxRecDepth 100000 in
set_option maxHeartbeats 4000000 in
theorem k_sideOf (d : Nat → Nat → Int32) (L : Nat → Nat → Int64) (x y : Int32) : Cn mX12_sideOf false 2 0 0 [.long x.toInt64, .long y.toInt64] (W0 d L) (fun v h => v = some (.int (nI (sd x.toInt y.toInt))) ∧ h = W0 d L) := by
  refine Cn.intro gX12_sideOf rfl (Nat.le_of_ble_eq_true rfl) rfl ?_
  have rx := i32_rng x
  have ry := i32_rng y
  have wx := l_wide x
  have wy := l_wide y
  generalize x.toInt64 = X at wx ⊢
  generalize y.toInt64 = Y at wy ⊢
  have nX := l_sub0 (x := X) (by omega) (by omega)
  have nY := l_sub0 (x := Y) (by omega) (by omega)
  have main : ∀ V U : Int64, V.toInt = iab x.toInt → U.toInt = iab y.toInt → Ex mX12_sideOf false 2 0 0 30 [some (.long X), none, some (.long Y), none, some (.long V), none, some (.long U), none] [] (W0 d L) (fun v h => v = some (.int (nI (sd x.toInt y.toInt))) ∧ h = W0 d L) (fun _ _ => False) := by
    intro V U hw hv
    have bV : 0 ≤ V.toInt ∧ V.toInt ≤ 2147483648 := by rw [hw]; unfold iab; split <;> omega
    have bU : 0 ≤ U.toInt ∧ U.toInt ≤ 2147483648 := by rw [hv]; unfold iab; split <;> omega
    have t2U := l_two (x := U) (by omega) (by omega)
    have t2V := l_two (x := V) (by omega) (by omega)
    have za : 0 < iab x.toInt ↔ x.toInt ≠ 0 := by unfold iab; split <;> omega
    have zb : 0 < iab y.toInt ↔ y.toInt ≠ 0 := by unfold iab; split <;> omega
    have zc : x.toInt ≤ iab x.toInt ∧ -x.toInt ≤ iab x.toInt := by unfold iab; split <;> omega
    have zd : y.toInt ≤ iab y.toInt ∧ -y.toInt ≤ iab y.toInt := by unfold iab; split <;> omega
    repeat' (first | refine x_s rfl rfl ?_ | refine x_br rfl rfl (fun c => ?_) (fun c => ?_))
    all_goals simp only [lc_le, lc_eq, lc_ge, t2U, t2V, hw, hv, wx, wy, l0] at *
    all_goals refine x_iret rfl rfl rfl ⟨congrArg (fun z => some (Value.int z)) ?_, rfl⟩
    all_goals unfold sd
    all_goals repeat' split
    all_goals first | rfl | (exfalso; omega)
  repeat refine x_s rfl rfl ?_
  refine x_br rfl rfl (fun c => ?_) (fun c => ?_)
  · have c1 := lc_ge.mp c
    rw [l0, wx] at c1
    have e1 : X.toInt = iab x.toInt := by rw [wx]; unfold iab; split <;> omega
    repeat refine x_s rfl rfl ?_
    refine x_br rfl rfl (fun c => ?_) (fun c => ?_)
    · have c2 := lc_ge.mp c
      rw [l0, wy] at c2
      iterate 2 refine x_s rfl rfl ?_
      exact main X Y e1 (by rw [wy]; unfold iab; split <;> omega)
    · have c2 := mt lc_ge.mpr c
      rw [l0, wy] at c2
      iterate 5 refine x_s rfl rfl ?_
      exact main X (0 - Y) e1 (by rw [nY, wy]; unfold iab; split <;> omega)
  · have c1 := mt lc_ge.mpr c
    rw [l0, wx] at c1
    have e1 : (0 - X).toInt = iab x.toInt := by rw [nX, wx]; unfold iab; split <;> omega
    repeat refine x_s rfl rfl ?_
    refine x_br rfl rfl (fun c => ?_) (fun c => ?_)
    · have c2 := lc_ge.mp c
      rw [l0, wy] at c2
      iterate 2 refine x_s rfl rfl ?_
      exact main (0 - X) Y e1 (by rw [wy]; unfold iab; split <;> omega)
    · have c2 := mt lc_ge.mpr c
      rw [l0, wy] at c2
      iterate 5 refine x_s rfl rfl ?_
      exact main (0 - X) (0 - Y) e1 (by rw [nY, wy]; unfold iab; split <;> omega)
