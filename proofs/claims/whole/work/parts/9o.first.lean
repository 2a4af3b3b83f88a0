/-! THE LAW'S BEGIN: both are made, and both are empty -/
def d0 : Nat → Nat → Int32 := dX12 (dX11 (fun _ _ => 0))
def L0 : Nat → Nat → Int64 := fun _ _ => 0
theorem no0 {P : Nat → Prop} : ∀ i, i < 0 → P i := fun _ h => absurd h (Nat.not_lt_zero _)
set_option maxRecDepth 100000 in
theorem LI_0 : LI d0 := by
  refine ⟨(fun _ _ => 0, none, none), 0, fun _ => (0, 0, 0, 0), fun _ _ _ => 0, (0, fun _ => 0, fun _ => 0, fun _ => 0), 0, fun _ => 0, none, ⟨⟨rfl, rfl, rfl, no0, no0, no0, rfl, rfl⟩, ⟨no0, fun h _ => rfl⟩, ⟨rfl, no0⟩, ⟨rfl, no0⟩, ⟨rfl, no0⟩, rfl⟩, ⟨⟨rfl, rfl, no0, no0, ⟨rfl, no0, no0⟩, rfl, rfl, rfl⟩, rfl, no0, ⟨rfl, no0⟩, ⟨rfl, no0⟩, rfl⟩, ⟨⟨Nat.zero_le _, Nat.zero_le _, Nat.zero_le _, no0, no0, no0⟩, Nat.zero_le _, ⟨rfl, no0⟩, ⟨Nat.zero_le _, no0⟩, Nat.zero_le _, fun _ => (by decide : 0 < 256), trivial⟩, fun k hk => ?_, rfl⟩
  rcases (by omega : k = 0 ∨ k = 1 ∨ k = 2) with rfl | rfl | rfl <;> rfl
theorem up2_out {d : Nat → Nat → Option Nat} {c0 k0 c k : Nat} {v : Option Nat} (h : c ≠ c0 ∨ k ≠ k0) (hd : d c k = none) : up2 d c0 k0 v c k = none := by
  unfold up2
  by_cases h1 : c = c0
  · rw [if_pos h1, if_neg (by omega)]
    exact hd
  · rw [if_neg h1]
    exact hd
theorem rM_out {r : Nat → Nat → Option Nat} {m N c k : Nat} (h : c ≠ m ∨ N ≤ k) (hd : r c k = none) : rM r m N c k = none := by
  unfold rM
  by_cases h1 : c = m
  · rw [if_pos h1, if_neg (by omega)]
  · rw [if_neg h1]
    exact hd
abbrev rA : Nat → Nat → Option Nat := rX12 (rX11 (fun _ _ => none) 0) 112
set_option maxRecDepth 100000 in
theorem rA_in : ∀ c, c < 146 → ∀ k, k < 70 → rA c k = R0 c k := by decide +kernel
set_option maxRecDepth 100000 in
set_option maxHeartbeats 4000000 in
theorem rA_out {c k : Nat} (h : 146 ≤ c ∨ 70 ≤ k) : rA c k = none := by
  unfold rA
  simp only [rX12, rX11, rX9, rX5, rX2, rX10, rX4, rX3, rX7, rX6, rX0, rX1, rX8]
  repeat first | refine up2_out (by omega) ?_ | refine rM_out (by omega) ?_
  rfl
theorem rA_eq : rA = R0 := by
  funext c k
  by_cases h : c < 146 ∧ k < 70
  · exact rA_in c h.1 k h.2
  · rw [rA_out (by omega), R0_far (by omega)]
set_option maxRecDepth 100000 in
theorem sA_eq : sX12 (sX11 ([] ++ [(11, 18)]) ++ [(12, 65)]) ++ [(103, 1)] = SH := by decide +kernel
set_option maxRecDepth 100000 in
set_option maxHeartbeats 4000000 in
theorem law_first {n : Nat} {xs : Nat → Int32} (hn : n ≤ 3072) : ExG (PhS n xs) false (mW []) true 70 601024 7293034 0 [some (.ref 4999), none, none, none, none, none, none] [] ([], fun _ _ => 0, fun _ _ => 0, fun _ _ => none) Qe Xe := by
  have h0 : Fw 0 ([], fun _ _ => 0, fun _ _ => 0, fun _ _ => none) := ⟨rfl, fun _ _ _ => ⟨rfl, rfl, rfl⟩⟩
  refine y_rows gCH ?_
  refine y_new (n := 18) rfl h0 (by decide) rfl rfl (by decide) (by decide) (fun (h1 : Fw 1 _) => ?_)
  refine y_s rfl rfl ?_
  refine y_ci2 (i_X11 h1 rfl (by decide)) rfl rfl (by decide) rfl rfl (Nat.le_of_ble_eq_true rfl) (by decide) (by decide) (by decide) ?_
  rintro v h' ⟨rfl, rfl, (h2 : Fw 112 _)⟩
  refine y_s rfl rfl ?_
  refine y_new (n := 65) rfl h2 (by decide) rfl rfl (by decide) (by decide) (fun (h3 : Fw 113 _) => ?_)
  have tw := xsh_e (l' := []) (v := (12, 65)) h2.1
  refine y_s rfl rfl ?_
  refine y_ci2 (i_X12 h3 tw (by decide)) rfl rfl (by decide) rfl rfl (Nat.le_of_ble_eq_true rfl) (by decide) (by decide) (by decide) ?_
  rintro v h' ⟨rfl, rfl, (h4 : Fw 145 _)⟩
  refine y_s rfl rfl ?_
  refine y_s rfl rfl ?_
  refine y_newa (n := 1) (t := 103) rfl h4 (by decide) rfl rfl rfl rfl rfl (by decide) (by decide) (fun (h5 : Fw 146 _) => ?_)
  refine y_s rfl rfl ?_
  refine y_s rfl rfl ?_
  refine y_s rfl rfl ?_
  refine y_wk ?_
  refine (show ExG _ _ _ _ _ _ _ _ (lk 0) _ (sX12 (sX11 ([] ++ [(11, 18)]) ++ [(12, 65)]) ++ [(103, 1)], d0, L0, rA) _ _ from ?_)
  rw [sA_eq, rA_eq]
  exact y_rows ⟨rfl, trivial⟩ (law_loop hn 512 0 d0 L0 _ _ (Nat.zero_le _) (by omega) (by decide) (by decide) LI_0)
