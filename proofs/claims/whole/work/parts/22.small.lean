/-! SMALL METHODS of the component's rows -/
section
variable (d : Nat → Nat → Int32) (L : Nat → Nat → Int64)
set_option maxRecDepth 100000 in
set_option maxHeartbeats 4000000 in
theorem c_S_add {b n : Nat} (hb : b = 13 ∨ b = 34) (hn : d b 0 = nI n) (hlt : n < 16) (x y z : Int32) : Cn mX7_add false 1 0 0 [.ref b, .int x, .int y, .int z] (W0 d L) (fun v h => v = none ∧ h = W0 (up2 (up2 (up2 (up2 d (b + 1) n x) (b + 2) n y) (b + 3) n z) b 0 (nI (n + 1))) L) := by
  rcases hb with rfl | rfl
  · refine Cn.intro gX7_add rfl (Nat.le_of_ble_eq_true rfl) rfl ?_
    repeat refine x_s rfl rfl ?_
    refine x_br rfl rfl (fun c => ?_) (fun c => ?_)
    · rw [hn] at c
      exact absurd c (nI_ge (b := 16) hlt (by omega))
    repeat refine x_s rfl rfl ?_
    refine x_iast rfl rfl hn hlt (by decide) rfl ?_
    repeat refine x_s rfl rfl ?_
    refine x_iast rfl rfl hn hlt (by decide) rfl ?_
    repeat refine x_s rfl rfl ?_
    refine x_iast rfl rfl hn hlt (by decide) rfl ?_
    repeat refine x_s rfl rfl ?_
    refine x_put rfl rfl (by decide) rfl ⟨rfl, rfl⟩ (Or.inl rfl) ?_
    have e : nI (n + 1) = d 13 0 + 1 := by rw [hn, nI_1]
    refine x_vret rfl rfl ⟨rfl, ?_⟩
    rw [e]
    rfl
  · refine Cn.intro gX7_add rfl (Nat.le_of_ble_eq_true rfl) rfl ?_
    repeat refine x_s rfl rfl ?_
    refine x_br rfl rfl (fun c => ?_) (fun c => ?_)
    · rw [hn] at c
      exact absurd c (nI_ge (b := 16) hlt (by omega))
    repeat refine x_s rfl rfl ?_
    refine x_iast rfl rfl hn hlt (by decide) rfl ?_
    repeat refine x_s rfl rfl ?_
    refine x_iast rfl rfl hn hlt (by decide) rfl ?_
    repeat refine x_s rfl rfl ?_
    refine x_iast rfl rfl hn hlt (by decide) rfl ?_
    repeat refine x_s rfl rfl ?_
    refine x_put rfl rfl (by decide) rfl ⟨rfl, rfl⟩ (Or.inl rfl) ?_
    have e : nI (n + 1) = d 34 0 + 1 := by rw [hn, nI_1]
    refine x_vret rfl rfl ⟨rfl, ?_⟩
    rw [e]
    rfl
set_option maxRecDepth 100000 in
set_option maxHeartbeats 4000000 in
theorem c_S_drop {n : Nat} (hn : d 34 0 = nI (n + 1)) (hlt : n < 16) : Cn mX7_dropLast false 1 0 0 [.ref 34] (W0 d L) (fun v h => v = none ∧ h = W0 (up2 d 34 0 (nI n)) L) := by
  refine Cn.intro gX7_dropLast rfl (Nat.le_of_ble_eq_true rfl) rfl ?_
  repeat refine x_s rfl rfl ?_
  refine x_br rfl rfl (fun c => ?_) (fun c => ?_)
  · rw [hn] at c
    exact absurd c (nI_nle (by omega) (by omega))
  repeat refine x_s rfl rfl ?_
  refine x_put rfl rfl (by decide) rfl ⟨rfl, rfl⟩ (Or.inl rfl) ?_
  refine x_vret rfl rfl ⟨rfl, ?_⟩
  rw [show nI n = d 34 0 - 1 by rw [hn, nI_pred]]
set_option maxRecDepth 100000 in
set_option maxHeartbeats 4000000 in
theorem c_N_setRust {n k : Nat} (hn : d 29 0 = nI n) (hk : k < n) (hlt : n ≤ 6) (x : Int32) : Cn mX3_setRust false 1 0 0 [.ref 29, .int (nI k), .int x] (W0 d L) (fun v h => v = none ∧ h = W0 (up2 d 33 k x) L) := by
  refine Cn.intro gX3_setRust rfl (Nat.le_of_ble_eq_true rfl) rfl ?_
  repeat refine x_s rfl rfl ?_
  refine x_br rfl rfl (fun c => ?_) (fun c => ?_)
  · exact absurd c (nI_pos (by omega))
  repeat refine x_s rfl rfl ?_
  refine x_br rfl rfl (fun c => ?_) (fun c => ?_)
  · rw [hn] at c
    exact absurd c (nI_ge hk (by omega))
  repeat refine x_s rfl rfl ?_
  refine x_iast rfl rfl rfl (k := k) (by omega) (by decide) rfl ?_
  exact x_vret rfl rfl ⟨rfl, rfl⟩
set_option maxRecDepth 100000 in
set_option maxHeartbeats 4000000 in
theorem c_N_setPlace {n k : Nat} (hn : d 29 0 = nI n) (hk : k < n) (hlt : n ≤ 6) (x y : Int32) : Cn mX3_setPlace false 1 0 0 [.ref 29, .int (nI k), .int x, .int y] (W0 d L) (fun v h => v = none ∧ h = W0 (up2 (up2 d 30 k x) 31 k y) L) := by
  refine Cn.intro gX3_setPlace rfl (Nat.le_of_ble_eq_true rfl) rfl ?_
  repeat refine x_s rfl rfl ?_
  refine x_br rfl rfl (fun c => ?_) (fun c => ?_)
  · exact absurd c (nI_pos (by omega))
  repeat refine x_s rfl rfl ?_
  refine x_br rfl rfl (fun c => ?_) (fun c => ?_)
  · rw [hn] at c
    exact absurd c (nI_ge hk (by omega))
  repeat refine x_s rfl rfl ?_
  refine x_iast rfl rfl rfl (k := k) (by omega) (by decide) rfl ?_
  repeat refine x_s rfl rfl ?_
  refine x_iast rfl rfl rfl (k := k) (by omega) (by decide) rfl ?_
  exact x_vret rfl rfl ⟨rfl, rfl⟩
end
