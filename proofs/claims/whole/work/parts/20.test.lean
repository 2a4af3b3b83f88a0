set_option maxRecDepth 100000 in
set_option maxHeartbeats 4000000 in
theorem c_wayX (d : Nat → Nat → Int32) (L : Nat → Nat → Int64) {n p : Nat} (hn : n < 6) (hp : p < 10) : Cn mX9_wayX false 1 0 0 [.ref 23, .int (nI n), .int (nI p)] (W0 d L) (fun v h => v = some (.int (d 26 p - d 30 n)) ∧ h = W0 d L) := by
  refine Cn.intro gX9_wayX rfl (Nat.le_of_ble_eq_true rfl) rfl ?_
  repeat refine x_s rfl rfl ?_
  refine x_ald rfl rfl rfl rfl hp (by decide) rfl ?_
  repeat refine x_s rfl rfl ?_
  refine x_ald rfl rfl rfl rfl hn (by decide) rfl ?_
  repeat refine x_s rfl rfl ?_
  exact x_iret rfl rfl rfl ⟨rfl, rfl⟩
