/-! THE LAW'S HELPERS: a call inside a try -/
set_option maxRecDepth 100000 in
set_option maxHeartbeats 1600000 in
theorem h_fair {h : xHp} {a : Int32} {Q' : xPost} {X' : Nat → xHp → Prop} (hC : Cx mX11_fair 60 1 6 [.ref 0, .int a] h Q' X') (hs : h.1 = SH) (hQ : ∀ v h0, Q' v h0 → (∃ x, v = some (.int x)) ∧ h0.1 = SH) (hX : ∀ j h0, X' j h0 → j = 0) : Ch mL_fair 61 1 6 [.ref 0, .int a, .ref 145] h (fun r h' => (∃ x h0, Q' (some (.int x)) h0 ∧ r = some (.int 0) ∧ h' = xpL h0 145 0 x.toInt64) ∨ (∃ j, X' j h' ∧ r = some (.int 1))) := by
  refine Ch.intro gL_fair (by decide) (Nat.le_of_ble_eq_true rfl) rfl ?_
  repeat refine x_s rfl rfl ?_
  refine x_xcv hC rfl rfl rfl rfl (by decide) (by rw [hs]; rfl) (by decide) rfl (by decide) (by decide) (by decide) (by decide) ?_ ?_
  · intro v h0 hq
    obtain ⟨⟨x, rfl⟩, s0⟩ := hQ v h0 hq
    repeat refine x_s rfl rfl ?_
    refine x_last rfl (by rw [s0]; rfl) (k := 0) rfl (by decide) (by decide) rfl ?_
    repeat refine x_s rfl rfl ?_
    exact x_iret rfl rfl rfl (Or.inl ⟨x, h0, hq, rfl, rfl⟩)
  · intro j h0 hx
    obtain rfl := hX j h0 hx
    refine ⟨Or.inl rfl, 12, 13, _, _, _, _, rfl, rfl, Or.inr ⟨3, rfl, by decide⟩, ?_⟩
    repeat refine x_s rfl rfl ?_
    exact x_iret rfl rfl rfl (Or.inr ⟨0, hx, rfl⟩)
set_option maxRecDepth 100000 in
set_option maxHeartbeats 1600000 in
theorem h_count {h : xHp} {a : Int32} {Q' : xPost} {X' : Nat → xHp → Prop} (hC : Cx mX11_count 20 6 36 [.ref 0, .int a] h Q' X') (hs : h.1 = SH) (hQ : ∀ v h0, Q' v h0 → (∃ x, v = some (.int x)) ∧ h0.1 = SH) (hX : ∀ j h0, X' j h0 → j = 1) : Ch mL_count 21 6 36 [.ref 0, .int a, .ref 145] h (fun r h' => (∃ x h0, Q' (some (.int x)) h0 ∧ r = some (.int 0) ∧ h' = xpL h0 145 0 x.toInt64) ∨ (∃ j, X' j h' ∧ r = some (.int 1))) := by
  refine Ch.intro gL_count (by decide) (Nat.le_of_ble_eq_true rfl) rfl ?_
  repeat refine x_s rfl rfl ?_
  refine x_xcv hC rfl rfl rfl rfl (by decide) (by rw [hs]; rfl) (by decide) rfl (by decide) (by decide) (by decide) (by decide) ?_ ?_
  · intro v h0 hq
    obtain ⟨⟨x, rfl⟩, s0⟩ := hQ v h0 hq
    repeat refine x_s rfl rfl ?_
    refine x_last rfl (by rw [s0]; rfl) (k := 0) rfl (by decide) (by decide) rfl ?_
    repeat refine x_s rfl rfl ?_
    exact x_iret rfl rfl rfl (Or.inl ⟨x, h0, hq, rfl, rfl⟩)
  · intro j h0 hx
    obtain rfl := hX j h0 hx
    refine ⟨Or.inr rfl, 12, 13, _, _, _, _, rfl, rfl, Or.inr ⟨3, rfl, by decide⟩, ?_⟩
    repeat refine x_s rfl rfl ?_
    exact x_iret rfl rfl rfl (Or.inr ⟨1, hx, rfl⟩)
set_option maxRecDepth 100000 in
set_option maxHeartbeats 1600000 in
theorem h_one {h : xHp} {a b : Int32} {Q' : xPost} {X' : Nat → xHp → Prop} (hC : Cx mX11_one 20 6 36 [.ref 0, .int a, .int b] h Q' X') (hs : h.1 = SH) (hQ : ∀ v h0, Q' v h0 → (∃ x, v = some (.int x)) ∧ h0.1 = SH) (hX : ∀ j h0, X' j h0 → j = 1) : Ch mL_one 21 6 36 [.ref 0, .int a, .int b, .ref 145] h (fun r h' => (∃ x h0, Q' (some (.int x)) h0 ∧ r = some (.int 0) ∧ h' = xpL h0 145 0 x.toInt64) ∨ (∃ j, X' j h' ∧ r = some (.int 1))) := by
  refine Ch.intro gL_one (by decide) (Nat.le_of_ble_eq_true rfl) rfl ?_
  repeat refine x_s rfl rfl ?_
  refine x_xcv hC rfl rfl rfl rfl (by decide) (by rw [hs]; rfl) (by decide) rfl (by decide) (by decide) (by decide) (by decide) ?_ ?_
  · intro v h0 hq
    obtain ⟨⟨x, rfl⟩, s0⟩ := hQ v h0 hq
    repeat refine x_s rfl rfl ?_
    refine x_last rfl (by rw [s0]; rfl) (k := 0) rfl (by decide) (by decide) rfl ?_
    repeat refine x_s rfl rfl ?_
    exact x_iret rfl rfl rfl (Or.inl ⟨x, h0, hq, rfl, rfl⟩)
  · intro j h0 hx
    obtain rfl := hX j h0 hx
    refine ⟨Or.inr rfl, 13, 15, _, _, _, _, rfl, rfl, Or.inl ⟨4, rfl, by decide⟩, ?_⟩
    repeat refine x_s rfl rfl ?_
    exact x_iret rfl rfl rfl (Or.inr ⟨1, hx, rfl⟩)
set_option maxRecDepth 100000 in
set_option maxHeartbeats 1600000 in
theorem h_needle {h : xHp} {a b : Int32} {Q' : xPost} {X' : Nat → xHp → Prop} (hC : Cx mX11_needle 20 6 36 [.ref 0, .int a, .int b] h Q' X') (hs : h.1 = SH) (hQ : ∀ v h0, Q' v h0 → (∃ x, v = some (.int x)) ∧ h0.1 = SH) (hX : ∀ j h0, X' j h0 → j = 1) : Ch mL_needle 21 6 36 [.ref 0, .int a, .int b, .ref 145] h (fun r h' => (∃ x h0, Q' (some (.int x)) h0 ∧ r = some (.int 0) ∧ h' = xpL h0 145 0 x.toInt64) ∨ (∃ j, X' j h' ∧ r = some (.int 1))) := by
  refine Ch.intro gL_needle (by decide) (Nat.le_of_ble_eq_true rfl) rfl ?_
  repeat refine x_s rfl rfl ?_
  refine x_xcv hC rfl rfl rfl rfl (by decide) (by rw [hs]; rfl) (by decide) rfl (by decide) (by decide) (by decide) (by decide) ?_ ?_
  · intro v h0 hq
    obtain ⟨⟨x, rfl⟩, s0⟩ := hQ v h0 hq
    repeat refine x_s rfl rfl ?_
    refine x_last rfl (by rw [s0]; rfl) (k := 0) rfl (by decide) (by decide) rfl ?_
    repeat refine x_s rfl rfl ?_
    exact x_iret rfl rfl rfl (Or.inl ⟨x, h0, hq, rfl, rfl⟩)
  · intro j h0 hx
    obtain rfl := hX j h0 hx
    refine ⟨Or.inr rfl, 13, 15, _, _, _, _, rfl, rfl, Or.inl ⟨4, rfl, by decide⟩, ?_⟩
    repeat refine x_s rfl rfl ?_
    exact x_iret rfl rfl rfl (Or.inr ⟨1, hx, rfl⟩)
set_option maxRecDepth 100000 in
set_option maxHeartbeats 1600000 in
theorem h_saying {h : xHp} {a b : Int32} {Q' : xPost} {X' : Nat → xHp → Prop} (hC : Cx mX11_saying 20 6 36 [.ref 0, .int a, .int b] h Q' X') (hs : h.1 = SH) (hQ : ∀ v h0, Q' v h0 → (∃ x, v = some (.int x)) ∧ h0.1 = SH) (hX : ∀ j h0, X' j h0 → j = 1) : Ch mL_saying 21 6 36 [.ref 0, .int a, .int b, .ref 145] h (fun r h' => (∃ x h0, Q' (some (.int x)) h0 ∧ r = some (.int 0) ∧ h' = xpL h0 145 0 x.toInt64) ∨ (∃ j, X' j h' ∧ r = some (.int 1))) := by
  refine Ch.intro gL_saying (by decide) (Nat.le_of_ble_eq_true rfl) rfl ?_
  repeat refine x_s rfl rfl ?_
  refine x_xcv hC rfl rfl rfl rfl (by decide) (by rw [hs]; rfl) (by decide) rfl (by decide) (by decide) (by decide) (by decide) ?_ ?_
  · intro v h0 hq
    obtain ⟨⟨x, rfl⟩, s0⟩ := hQ v h0 hq
    repeat refine x_s rfl rfl ?_
    refine x_last rfl (by rw [s0]; rfl) (k := 0) rfl (by decide) (by decide) rfl ?_
    repeat refine x_s rfl rfl ?_
    exact x_iret rfl rfl rfl (Or.inl ⟨x, h0, hq, rfl, rfl⟩)
  · intro j h0 hx
    obtain rfl := hX j h0 hx
    refine ⟨Or.inr rfl, 13, 15, _, _, _, _, rfl, rfl, Or.inl ⟨4, rfl, by decide⟩, ?_⟩
    repeat refine x_s rfl rfl ?_
    exact x_iret rfl rfl rfl (Or.inr ⟨1, hx, rfl⟩)
set_option maxRecDepth 100000 in
set_option maxHeartbeats 1600000 in
theorem h_shows {h : xHp} {a b : Int32} {Q' : xPost} {X' : Nat → xHp → Prop} (hC : Cx mX11_shows 20 6 36 [.ref 0, .int a, .int b] h Q' X') (hs : h.1 = SH) (hQ : ∀ v h0, Q' v h0 → (∃ x, v = some (.int x)) ∧ h0.1 = SH) (hX : ∀ j h0, X' j h0 → j = 1) : Ch mL_shows 21 6 36 [.ref 0, .int a, .int b, .ref 145] h (fun r h' => (∃ x h0, Q' (some (.int x)) h0 ∧ r = some (.int 0) ∧ h' = xpL h0 145 0 x.toInt64) ∨ (∃ j, X' j h' ∧ r = some (.int 1))) := by
  refine Ch.intro gL_shows (by decide) (Nat.le_of_ble_eq_true rfl) rfl ?_
  repeat refine x_s rfl rfl ?_
  refine x_xcv hC rfl rfl rfl rfl (by decide) (by rw [hs]; rfl) (by decide) rfl (by decide) (by decide) (by decide) (by decide) ?_ ?_
  · intro v h0 hq
    obtain ⟨⟨x, rfl⟩, s0⟩ := hQ v h0 hq
    repeat refine x_s rfl rfl ?_
    refine x_last rfl (by rw [s0]; rfl) (k := 0) rfl (by decide) (by decide) rfl ?_
    repeat refine x_s rfl rfl ?_
    exact x_iret rfl rfl rfl (Or.inl ⟨x, h0, hq, rfl, rfl⟩)
  · intro j h0 hx
    obtain rfl := hX j h0 hx
    refine ⟨Or.inr rfl, 13, 15, _, _, _, _, rfl, rfl, Or.inl ⟨4, rfl, by decide⟩, ?_⟩
    repeat refine x_s rfl rfl ?_
    exact x_iret rfl rfl rfl (Or.inr ⟨1, hx, rfl⟩)
set_option maxRecDepth 100000 in
set_option maxHeartbeats 1600000 in
theorem h_last {h : xHp} {a b : Int32} {Q' : xPost} {X' : Nat → xHp → Prop} (hC : Cx mX11_last 20 6 36 [.ref 0, .int a, .int b] h Q' X') (hs : h.1 = SH) (hQ : ∀ v h0, Q' v h0 → (∃ x, v = some (.int x)) ∧ h0.1 = SH) (hX : ∀ j h0, X' j h0 → j = 1) : Ch mL_last 21 6 36 [.ref 0, .int a, .int b, .ref 145] h (fun r h' => (∃ x h0, Q' (some (.int x)) h0 ∧ r = some (.int 0) ∧ h' = xpL h0 145 0 x.toInt64) ∨ (∃ j, X' j h' ∧ r = some (.int 1))) := by
  refine Ch.intro gL_last (by decide) (Nat.le_of_ble_eq_true rfl) rfl ?_
  repeat refine x_s rfl rfl ?_
  refine x_xcv hC rfl rfl rfl rfl (by decide) (by rw [hs]; rfl) (by decide) rfl (by decide) (by decide) (by decide) (by decide) ?_ ?_
  · intro v h0 hq
    obtain ⟨⟨x, rfl⟩, s0⟩ := hQ v h0 hq
    repeat refine x_s rfl rfl ?_
    refine x_last rfl (by rw [s0]; rfl) (k := 0) rfl (by decide) (by decide) rfl ?_
    repeat refine x_s rfl rfl ?_
    exact x_iret rfl rfl rfl (Or.inl ⟨x, h0, hq, rfl, rfl⟩)
  · intro j h0 hx
    obtain rfl := hX j h0 hx
    refine ⟨Or.inr rfl, 13, 15, _, _, _, _, rfl, rfl, Or.inl ⟨4, rfl, by decide⟩, ?_⟩
    repeat refine x_s rfl rfl ?_
    exact x_iret rfl rfl rfl (Or.inr ⟨1, hx, rfl⟩)
set_option maxRecDepth 100000 in
set_option maxHeartbeats 1600000 in
theorem h_points {h : xHp} {a b : Int32} {Q' : xPost} {X' : Nat → xHp → Prop} (hC : Cx mX11_points 20 6 36 [.ref 0, .int a, .int b] h Q' X') (hs : h.1 = SH) (hQ : ∀ v h0, Q' v h0 → (∃ x, v = some (.int x)) ∧ h0.1 = SH) (hX : ∀ j h0, X' j h0 → j = 1) : Ch mL_points 21 6 36 [.ref 0, .int a, .int b, .ref 145] h (fun r h' => (∃ x h0, Q' (some (.int x)) h0 ∧ r = some (.int 0) ∧ h' = xpL h0 145 0 x.toInt64) ∨ (∃ j, X' j h' ∧ r = some (.int 1))) := by
  refine Ch.intro gL_points (by decide) (Nat.le_of_ble_eq_true rfl) rfl ?_
  repeat refine x_s rfl rfl ?_
  refine x_xcv hC rfl rfl rfl rfl (by decide) (by rw [hs]; rfl) (by decide) rfl (by decide) (by decide) (by decide) (by decide) ?_ ?_
  · intro v h0 hq
    obtain ⟨⟨x, rfl⟩, s0⟩ := hQ v h0 hq
    repeat refine x_s rfl rfl ?_
    refine x_last rfl (by rw [s0]; rfl) (k := 0) rfl (by decide) (by decide) rfl ?_
    repeat refine x_s rfl rfl ?_
    exact x_iret rfl rfl rfl (Or.inl ⟨x, h0, hq, rfl, rfl⟩)
  · intro j h0 hx
    obtain rfl := hX j h0 hx
    refine ⟨Or.inr rfl, 13, 15, _, _, _, _, rfl, rfl, Or.inl ⟨4, rfl, by decide⟩, ?_⟩
    repeat refine x_s rfl rfl ?_
    exact x_iret rfl rfl rfl (Or.inr ⟨1, hx, rfl⟩)
set_option maxRecDepth 100000 in
set_option maxHeartbeats 1600000 in
theorem h_accused {h : xHp} {a : Int32} {Q' : xPost} {X' : Nat → xHp → Prop} (hC : Cx mX11_accused 20 6 36 [.ref 0, .int a] h Q' X') (hs : h.1 = SH) (hQ : ∀ v h0, Q' v h0 → (∃ x, v = some (.int x)) ∧ h0.1 = SH) (hX : ∀ j h0, X' j h0 → j = 1) : Ch mL_accused 21 6 36 [.ref 0, .int a, .ref 145] h (fun r h' => (∃ x h0, Q' (some (.int x)) h0 ∧ r = some (.int 0) ∧ h' = xpL h0 145 0 x.toInt64) ∨ (∃ j, X' j h' ∧ r = some (.int 1))) := by
  refine Ch.intro gL_accused (by decide) (Nat.le_of_ble_eq_true rfl) rfl ?_
  repeat refine x_s rfl rfl ?_
  refine x_xcv hC rfl rfl rfl rfl (by decide) (by rw [hs]; rfl) (by decide) rfl (by decide) (by decide) (by decide) (by decide) ?_ ?_
  · intro v h0 hq
    obtain ⟨⟨x, rfl⟩, s0⟩ := hQ v h0 hq
    repeat refine x_s rfl rfl ?_
    refine x_last rfl (by rw [s0]; rfl) (k := 0) rfl (by decide) (by decide) rfl ?_
    repeat refine x_s rfl rfl ?_
    exact x_iret rfl rfl rfl (Or.inl ⟨x, h0, hq, rfl, rfl⟩)
  · intro j h0 hx
    obtain rfl := hX j h0 hx
    refine ⟨Or.inr rfl, 12, 13, _, _, _, _, rfl, rfl, Or.inr ⟨3, rfl, by decide⟩, ?_⟩
    repeat refine x_s rfl rfl ?_
    exact x_iret rfl rfl rfl (Or.inr ⟨1, hx, rfl⟩)
set_option maxRecDepth 100000 in
set_option maxHeartbeats 1600000 in
theorem h_tell {h : xHp} {a b c : Int32} {Q' : xPost} {X' : Nat → xHp → Prop} (hC : Cx mX11_tell 20 6 36 [.ref 0, .int a, .int b, .int c] h Q' X') (hs : h.1 = SH) (hQ : ∀ v h0, Q' v h0 → (∃ x, v = some (.int x)) ∧ h0.1 = SH) (hX : ∀ j h0, X' j h0 → j = 1) : Ch mL_tell 21 6 36 [.ref 0, .int a, .int b, .int c, .ref 145] h (fun r h' => (∃ x h0, Q' (some (.int x)) h0 ∧ r = some (.int 0) ∧ h' = xpL h0 145 0 x.toInt64) ∨ (∃ j, X' j h' ∧ r = some (.int 1))) := by
  refine Ch.intro gL_tell (by decide) (Nat.le_of_ble_eq_true rfl) rfl ?_
  repeat refine x_s rfl rfl ?_
  refine x_xcv hC rfl rfl rfl rfl (by decide) (by rw [hs]; rfl) (by decide) rfl (by decide) (by decide) (by decide) (by decide) ?_ ?_
  · intro v h0 hq
    obtain ⟨⟨x, rfl⟩, s0⟩ := hQ v h0 hq
    repeat refine x_s rfl rfl ?_
    refine x_last rfl (by rw [s0]; rfl) (k := 0) rfl (by decide) (by decide) rfl ?_
    repeat refine x_s rfl rfl ?_
    exact x_iret rfl rfl rfl (Or.inl ⟨x, h0, hq, rfl, rfl⟩)
  · intro j h0 hx
    obtain rfl := hX j h0 hx
    refine ⟨Or.inr rfl, 15, 17, _, _, _, _, rfl, rfl, Or.inl ⟨5, rfl, by decide⟩, ?_⟩
    repeat refine x_s rfl rfl ?_
    exact x_iret rfl rfl rfl (Or.inr ⟨1, hx, rfl⟩)
set_option maxRecDepth 100000 in
set_option maxHeartbeats 1600000 in
theorem h_rust {h : xHp} {a b : Int32} {Q' : xPost} {X' : Nat → xHp → Prop} (hC : Cx mX11_rust 20 6 36 [.ref 0, .int a, .int b] h Q' X') (hs : h.1 = SH) (hQ : ∀ v h0, Q' v h0 → (∃ x, v = some (.int x)) ∧ h0.1 = SH) (hX : ∀ j h0, X' j h0 → j = 1) : Ch mL_rust 21 6 36 [.ref 0, .int a, .int b, .ref 145] h (fun r h' => (∃ x h0, Q' (some (.int x)) h0 ∧ r = some (.int 0) ∧ h' = xpL h0 145 0 x.toInt64) ∨ (∃ j, X' j h' ∧ r = some (.int 1))) := by
  refine Ch.intro gL_rust (by decide) (Nat.le_of_ble_eq_true rfl) rfl ?_
  repeat refine x_s rfl rfl ?_
  refine x_xcv hC rfl rfl rfl rfl (by decide) (by rw [hs]; rfl) (by decide) rfl (by decide) (by decide) (by decide) (by decide) ?_ ?_
  · intro v h0 hq
    obtain ⟨⟨x, rfl⟩, s0⟩ := hQ v h0 hq
    repeat refine x_s rfl rfl ?_
    refine x_last rfl (by rw [s0]; rfl) (k := 0) rfl (by decide) (by decide) rfl ?_
    repeat refine x_s rfl rfl ?_
    exact x_iret rfl rfl rfl (Or.inl ⟨x, h0, hq, rfl, rfl⟩)
  · intro j h0 hx
    obtain rfl := hX j h0 hx
    refine ⟨Or.inr rfl, 13, 15, _, _, _, _, rfl, rfl, Or.inl ⟨4, rfl, by decide⟩, ?_⟩
    repeat refine x_s rfl rfl ?_
    exact x_iret rfl rfl rfl (Or.inr ⟨1, hx, rfl⟩)
set_option maxRecDepth 100000 in
set_option maxHeartbeats 1600000 in
theorem h_carry {h : xHp} {a b c : Int32} {Q' : xPost} {X' : Nat → xHp → Prop} (hC : Cx mX11_carry 20 6 36 [.ref 0, .int a, .int b, .int c] h Q' X') (hs : h.1 = SH) (hQ : ∀ v h0, Q' v h0 → (∃ x, v = some (.int x)) ∧ h0.1 = SH) (hX : ∀ j h0, X' j h0 → j = 1) : Ch mL_carry 21 6 36 [.ref 0, .int a, .int b, .int c, .ref 145] h (fun r h' => (∃ x h0, Q' (some (.int x)) h0 ∧ r = some (.int 0) ∧ h' = xpL h0 145 0 x.toInt64) ∨ (∃ j, X' j h' ∧ r = some (.int 1))) := by
  refine Ch.intro gL_carry (by decide) (Nat.le_of_ble_eq_true rfl) rfl ?_
  repeat refine x_s rfl rfl ?_
  refine x_xcv hC rfl rfl rfl rfl (by decide) (by rw [hs]; rfl) (by decide) rfl (by decide) (by decide) (by decide) (by decide) ?_ ?_
  · intro v h0 hq
    obtain ⟨⟨x, rfl⟩, s0⟩ := hQ v h0 hq
    repeat refine x_s rfl rfl ?_
    refine x_last rfl (by rw [s0]; rfl) (k := 0) rfl (by decide) (by decide) rfl ?_
    repeat refine x_s rfl rfl ?_
    exact x_iret rfl rfl rfl (Or.inl ⟨x, h0, hq, rfl, rfl⟩)
  · intro j h0 hx
    obtain rfl := hX j h0 hx
    refine ⟨Or.inr rfl, 15, 17, _, _, _, _, rfl, rfl, Or.inl ⟨5, rfl, by decide⟩, ?_⟩
    repeat refine x_s rfl rfl ?_
    exact x_iret rfl rfl rfl (Or.inr ⟨1, hx, rfl⟩)
set_option maxRecDepth 100000 in
set_option maxHeartbeats 1600000 in
theorem h_just {h : xHp} {a b c : Int32} {Q' : xPost} {X' : Nat → xHp → Prop} (hC : Cx mX11_just 20 6 36 [.ref 0, .int a, .int b, .int c] h Q' X') (hs : h.1 = SH) (hQ : ∀ v h0, Q' v h0 → (∃ x, v = some (.int x)) ∧ h0.1 = SH) (hX : ∀ j h0, X' j h0 → j = 1 ∨ j = 0) : Ch mL_just 21 6 36 [.ref 0, .int a, .int b, .int c, .ref 145] h (fun r h' => (∃ x h0, Q' (some (.int x)) h0 ∧ r = some (.int 0) ∧ h' = xpL h0 145 0 x.toInt64) ∨ (∃ j, X' j h' ∧ r = some (.int (if j = 1 then 1 else 2)))) := by
  refine Ch.intro gL_just (by decide) (Nat.le_of_ble_eq_true rfl) rfl ?_
  repeat refine x_s rfl rfl ?_
  refine x_xcv hC rfl rfl rfl rfl (by decide) (by rw [hs]; rfl) (by decide) rfl (by decide) (by decide) (by decide) (by decide) ?_ ?_
  · intro v h0 hq
    obtain ⟨⟨x, rfl⟩, s0⟩ := hQ v h0 hq
    repeat refine x_s rfl rfl ?_
    refine x_last rfl (by rw [s0]; rfl) (k := 0) rfl (by decide) (by decide) rfl ?_
    repeat refine x_s rfl rfl ?_
    exact x_iret rfl rfl rfl (Or.inl ⟨x, h0, hq, rfl, rfl⟩)
  · intro j h0 hx
    rcases hX j h0 hx with rfl | rfl
    · refine ⟨Or.inr rfl, 15, 17, _, _, _, _, rfl, rfl, Or.inl ⟨5, rfl, by decide⟩, ?_⟩
      repeat refine x_s rfl rfl ?_
      exact x_iret rfl rfl rfl (Or.inr ⟨1, hx, rfl⟩)
    · refine ⟨Or.inl rfl, 19, 21, _, _, _, _, rfl, rfl, Or.inl ⟨5, rfl, by decide⟩, ?_⟩
      repeat refine x_s rfl rfl ?_
      exact x_iret rfl rfl rfl (Or.inr ⟨0, hx, rfl⟩)
set_option maxRecDepth 100000 in
set_option maxHeartbeats 1600000 in
theorem h_apart {h : xHp} {a b : Int32} {Q' : xPost} {X' : Nat → xHp → Prop} (hC : Cx mX11_apart 20 6 36 [.ref 0, .int a, .int b] h Q' X') (hs : h.1 = SH) (hQ : ∀ v h0, Q' v h0 → (∃ x, v = some (.int x)) ∧ h0.1 = SH) (hX : ∀ j h0, X' j h0 → j = 0) : Ch mL_apart 21 6 36 [.ref 0, .int a, .int b, .ref 145] h (fun r h' => (∃ x h0, Q' (some (.int x)) h0 ∧ r = some (.int 0) ∧ h' = xpL h0 145 0 x.toInt64) ∨ (∃ j, X' j h' ∧ r = some (.int 1))) := by
  refine Ch.intro gL_apart (by decide) (Nat.le_of_ble_eq_true rfl) rfl ?_
  repeat refine x_s rfl rfl ?_
  refine x_xcv hC rfl rfl rfl rfl (by decide) (by rw [hs]; rfl) (by decide) rfl (by decide) (by decide) (by decide) (by decide) ?_ ?_
  · intro v h0 hq
    obtain ⟨⟨x, rfl⟩, s0⟩ := hQ v h0 hq
    repeat refine x_s rfl rfl ?_
    refine x_last rfl (by rw [s0]; rfl) (k := 0) rfl (by decide) (by decide) rfl ?_
    repeat refine x_s rfl rfl ?_
    exact x_iret rfl rfl rfl (Or.inl ⟨x, h0, hq, rfl, rfl⟩)
  · intro j h0 hx
    obtain rfl := hX j h0 hx
    refine ⟨Or.inl rfl, 13, 15, _, _, _, _, rfl, rfl, Or.inl ⟨4, rfl, by decide⟩, ?_⟩
    repeat refine x_s rfl rfl ?_
    exact x_iret rfl rfl rfl (Or.inr ⟨0, hx, rfl⟩)
set_option maxRecDepth 100000 in
set_option maxHeartbeats 1600000 in
theorem h_alibi {h : xHp} {a b c : Int32} {Q' : xPost} {X' : Nat → xHp → Prop} (hC : Cx mX11_alibi 20 6 36 [.ref 0, .int a, .int b, .int c] h Q' X') (hs : h.1 = SH) (hQ : ∀ v h0, Q' v h0 → (∃ x, v = some (.int x)) ∧ h0.1 = SH) (hX : ∀ j h0, X' j h0 → j = 1 ∨ j = 0) : Ch mL_alibi 21 6 36 [.ref 0, .int a, .int b, .int c, .ref 145] h (fun r h' => (∃ x h0, Q' (some (.int x)) h0 ∧ r = some (.int 0) ∧ h' = xpL h0 145 0 x.toInt64) ∨ (∃ j, X' j h' ∧ r = some (.int (if j = 1 then 1 else 2)))) := by
  refine Ch.intro gL_alibi (by decide) (Nat.le_of_ble_eq_true rfl) rfl ?_
  repeat refine x_s rfl rfl ?_
  refine x_xcv hC rfl rfl rfl rfl (by decide) (by rw [hs]; rfl) (by decide) rfl (by decide) (by decide) (by decide) (by decide) ?_ ?_
  · intro v h0 hq
    obtain ⟨⟨x, rfl⟩, s0⟩ := hQ v h0 hq
    repeat refine x_s rfl rfl ?_
    refine x_last rfl (by rw [s0]; rfl) (k := 0) rfl (by decide) (by decide) rfl ?_
    repeat refine x_s rfl rfl ?_
    exact x_iret rfl rfl rfl (Or.inl ⟨x, h0, hq, rfl, rfl⟩)
  · intro j h0 hx
    rcases hX j h0 hx with rfl | rfl
    · refine ⟨Or.inr rfl, 15, 17, _, _, _, _, rfl, rfl, Or.inl ⟨5, rfl, by decide⟩, ?_⟩
      repeat refine x_s rfl rfl ?_
      exact x_iret rfl rfl rfl (Or.inr ⟨1, hx, rfl⟩)
    · refine ⟨Or.inl rfl, 19, 21, _, _, _, _, rfl, rfl, Or.inl ⟨5, rfl, by decide⟩, ?_⟩
      repeat refine x_s rfl rfl ?_
      exact x_iret rfl rfl rfl (Or.inr ⟨0, hx, rfl⟩)
set_option maxRecDepth 100000 in
set_option maxHeartbeats 1600000 in
theorem h_plan {h : xHp} {a b c : Int32} {Q' : xPost} {X' : Nat → xHp → Prop} (hC : Cx mX11_plan 20 6 36 [.ref 0, .int a, .int b, .int c] h Q' X') (hs : h.1 = SH) (hQ : ∀ v h0, Q' v h0 → (∃ x, v = some (.int x)) ∧ h0.1 = SH) (hX : ∀ j h0, X' j h0 → j = 1 ∨ j = 0) : Ch mL_plan 21 6 36 [.ref 0, .int a, .int b, .int c, .ref 145] h (fun r h' => (∃ x h0, Q' (some (.int x)) h0 ∧ r = some (.int 0) ∧ h' = xpL h0 145 0 x.toInt64) ∨ (∃ j, X' j h' ∧ r = some (.int (if j = 1 then 1 else 2)))) := by
  refine Ch.intro gL_plan (by decide) (Nat.le_of_ble_eq_true rfl) rfl ?_
  repeat refine x_s rfl rfl ?_
  refine x_xcv hC rfl rfl rfl rfl (by decide) (by rw [hs]; rfl) (by decide) rfl (by decide) (by decide) (by decide) (by decide) ?_ ?_
  · intro v h0 hq
    obtain ⟨⟨x, rfl⟩, s0⟩ := hQ v h0 hq
    repeat refine x_s rfl rfl ?_
    refine x_last rfl (by rw [s0]; rfl) (k := 0) rfl (by decide) (by decide) rfl ?_
    repeat refine x_s rfl rfl ?_
    exact x_iret rfl rfl rfl (Or.inl ⟨x, h0, hq, rfl, rfl⟩)
  · intro j h0 hx
    rcases hX j h0 hx with rfl | rfl
    · refine ⟨Or.inr rfl, 15, 17, _, _, _, _, rfl, rfl, Or.inl ⟨5, rfl, by decide⟩, ?_⟩
      repeat refine x_s rfl rfl ?_
      exact x_iret rfl rfl rfl (Or.inr ⟨1, hx, rfl⟩)
    · refine ⟨Or.inl rfl, 19, 21, _, _, _, _, rfl, rfl, Or.inl ⟨5, rfl, by decide⟩, ?_⟩
      repeat refine x_s rfl rfl ?_
      exact x_iret rfl rfl rfl (Or.inr ⟨0, hx, rfl⟩)
set_option maxRecDepth 100000 in
set_option maxHeartbeats 1600000 in
theorem h_see {h : xHp} {a b c : Int32} {Q' : xPost} {X' : Nat → xHp → Prop} (hC : Cx mX11_see 20 6 36 [.ref 0, .int a, .int b, .int c] h Q' X') (hs : h.1 = SH) (hQ : ∀ v h0, Q' v h0 → (∃ x, v = some (.int x)) ∧ h0.1 = SH) (hX : ∀ j h0, X' j h0 → j = 1) : Ch mL_see 21 6 36 [.ref 0, .int a, .int b, .int c, .ref 145] h (fun r h' => (∃ x h0, Q' (some (.int x)) h0 ∧ r = some (.int 0) ∧ h' = xpL h0 145 0 x.toInt64) ∨ (∃ j, X' j h' ∧ r = some (.int 1))) := by
  refine Ch.intro gL_see (by decide) (Nat.le_of_ble_eq_true rfl) rfl ?_
  repeat refine x_s rfl rfl ?_
  refine x_xcv hC rfl rfl rfl rfl (by decide) (by rw [hs]; rfl) (by decide) rfl (by decide) (by decide) (by decide) (by decide) ?_ ?_
  · intro v h0 hq
    obtain ⟨⟨x, rfl⟩, s0⟩ := hQ v h0 hq
    repeat refine x_s rfl rfl ?_
    refine x_last rfl (by rw [s0]; rfl) (k := 0) rfl (by decide) (by decide) rfl ?_
    repeat refine x_s rfl rfl ?_
    exact x_iret rfl rfl rfl (Or.inl ⟨x, h0, hq, rfl, rfl⟩)
  · intro j h0 hx
    obtain rfl := hX j h0 hx
    refine ⟨Or.inr rfl, 15, 17, _, _, _, _, rfl, rfl, Or.inl ⟨5, rfl, by decide⟩, ?_⟩
    repeat refine x_s rfl rfl ?_
    exact x_iret rfl rfl rfl (Or.inr ⟨1, hx, rfl⟩)
set_option maxRecDepth 100000 in
set_option maxHeartbeats 1600000 in
theorem h_suspects {h : xHp} {a : Int32} {Q' : xPost} {X' : Nat → xHp → Prop} (hC : Cx mX11_suspects 20 6 36 [.ref 0, .int a] h Q' X') (hs : h.1 = SH) (hQ : ∀ v h0, Q' v h0 → (∃ x, v = some (.int x)) ∧ h0.1 = SH) (hX : ∀ j h0, X' j h0 → j = 1) : Ch mL_suspects 21 6 36 [.ref 0, .int a, .ref 145] h (fun r h' => (∃ x h0, Q' (some (.int x)) h0 ∧ r = some (.int 0) ∧ h' = xpL h0 145 0 x.toInt64) ∨ (∃ j, X' j h' ∧ r = some (.int 1))) := by
  refine Ch.intro gL_suspects (by decide) (Nat.le_of_ble_eq_true rfl) rfl ?_
  repeat refine x_s rfl rfl ?_
  refine x_xcv hC rfl rfl rfl rfl (by decide) (by rw [hs]; rfl) (by decide) rfl (by decide) (by decide) (by decide) (by decide) ?_ ?_
  · intro v h0 hq
    obtain ⟨⟨x, rfl⟩, s0⟩ := hQ v h0 hq
    repeat refine x_s rfl rfl ?_
    refine x_last rfl (by rw [s0]; rfl) (k := 0) rfl (by decide) (by decide) rfl ?_
    repeat refine x_s rfl rfl ?_
    exact x_iret rfl rfl rfl (Or.inl ⟨x, h0, hq, rfl, rfl⟩)
  · intro j h0 hx
    obtain rfl := hX j h0 hx
    refine ⟨Or.inr rfl, 12, 13, _, _, _, _, rfl, rfl, Or.inr ⟨3, rfl, by decide⟩, ?_⟩
    repeat refine x_s rfl rfl ?_
    exact x_iret rfl rfl rfl (Or.inr ⟨1, hx, rfl⟩)
set_option maxRecDepth 100000 in
set_option maxHeartbeats 1600000 in
theorem h_spots {h : xHp} {a b : Int32} {Q' : xPost} {X' : Nat → xHp → Prop} (hC : Cx mX11_spots 20 6 36 [.ref 0, .int a, .int b] h Q' X') (hs : h.1 = SH) (hQ : ∀ v h0, Q' v h0 → (∃ x, v = some (.int x)) ∧ h0.1 = SH) (hX : ∀ j h0, X' j h0 → j = 1) : Ch mL_spots 21 6 36 [.ref 0, .int a, .int b, .ref 145] h (fun r h' => (∃ x h0, Q' (some (.int x)) h0 ∧ r = some (.int 0) ∧ h' = xpL h0 145 0 x.toInt64) ∨ (∃ j, X' j h' ∧ r = some (.int 1))) := by
  refine Ch.intro gL_spots (by decide) (Nat.le_of_ble_eq_true rfl) rfl ?_
  repeat refine x_s rfl rfl ?_
  refine x_xcv hC rfl rfl rfl rfl (by decide) (by rw [hs]; rfl) (by decide) rfl (by decide) (by decide) (by decide) (by decide) ?_ ?_
  · intro v h0 hq
    obtain ⟨⟨x, rfl⟩, s0⟩ := hQ v h0 hq
    repeat refine x_s rfl rfl ?_
    refine x_last rfl (by rw [s0]; rfl) (k := 0) rfl (by decide) (by decide) rfl ?_
    repeat refine x_s rfl rfl ?_
    exact x_iret rfl rfl rfl (Or.inl ⟨x, h0, hq, rfl, rfl⟩)
  · intro j h0 hx
    obtain rfl := hX j h0 hx
    refine ⟨Or.inr rfl, 13, 15, _, _, _, _, rfl, rfl, Or.inl ⟨4, rfl, by decide⟩, ?_⟩
    repeat refine x_s rfl rfl ?_
    exact x_iret rfl rfl rfl (Or.inr ⟨1, hx, rfl⟩)
set_option maxRecDepth 100000 in
set_option maxHeartbeats 1600000 in
theorem h_saucer {h : xHp} {a b c : Int32} {Q' : xPost} {X' : Nat → xHp → Prop} (hC : Cx mX11_saucer 20 6 36 [.ref 0, .int a, .int b, .int c] h Q' X') (hs : h.1 = SH) (hQ : ∀ v h0, Q' v h0 → (∃ x, v = some (.int x)) ∧ h0.1 = SH) (hX : ∀ j h0, X' j h0 → j = 1 ∨ j = 0) : Ch mL_saucer 21 6 36 [.ref 0, .int a, .int b, .int c, .ref 145] h (fun r h' => (∃ x h0, Q' (some (.int x)) h0 ∧ r = some (.int 0) ∧ h' = xpL h0 145 0 x.toInt64) ∨ (∃ j, X' j h' ∧ r = some (.int (if j = 1 then 1 else 2)))) := by
  refine Ch.intro gL_saucer (by decide) (Nat.le_of_ble_eq_true rfl) rfl ?_
  repeat refine x_s rfl rfl ?_
  refine x_xcv hC rfl rfl rfl rfl (by decide) (by rw [hs]; rfl) (by decide) rfl (by decide) (by decide) (by decide) (by decide) ?_ ?_
  · intro v h0 hq
    obtain ⟨⟨x, rfl⟩, s0⟩ := hQ v h0 hq
    repeat refine x_s rfl rfl ?_
    refine x_last rfl (by rw [s0]; rfl) (k := 0) rfl (by decide) (by decide) rfl ?_
    repeat refine x_s rfl rfl ?_
    exact x_iret rfl rfl rfl (Or.inl ⟨x, h0, hq, rfl, rfl⟩)
  · intro j h0 hx
    rcases hX j h0 hx with rfl | rfl
    · refine ⟨Or.inr rfl, 15, 17, _, _, _, _, rfl, rfl, Or.inl ⟨5, rfl, by decide⟩, ?_⟩
      repeat refine x_s rfl rfl ?_
      exact x_iret rfl rfl rfl (Or.inr ⟨1, hx, rfl⟩)
    · refine ⟨Or.inl rfl, 19, 21, _, _, _, _, rfl, rfl, Or.inl ⟨5, rfl, by decide⟩, ?_⟩
      repeat refine x_s rfl rfl ?_
      exact x_iret rfl rfl rfl (Or.inr ⟨0, hx, rfl⟩)
set_option maxRecDepth 100000 in
set_option maxHeartbeats 1600000 in
theorem h_game {h : xHp} {a b c e g : Int32} {Q' : xPost} {X' : Nat → xHp → Prop} (hC : Cx mX11_game 20 6 36 [.ref 0, .int a, .int b, .int c, .int e, .int g] h Q' X') (hs : h.1 = SH) (hQ : ∀ v h0, Q' v h0 → (∃ x, v = some (.int x)) ∧ h0.1 = SH) (hX : ∀ j h0, X' j h0 → j = 1 ∨ j = 0) : Ch mL_game 21 6 36 [.ref 0, .int a, .int b, .int c, .int e, .int g, .ref 145] h (fun r h' => (∃ x h0, Q' (some (.int x)) h0 ∧ r = some (.int 0) ∧ h' = xpL h0 145 0 x.toInt64) ∨ (∃ j, X' j h' ∧ r = some (.int (if j = 1 then 1 else 2)))) := by
  refine Ch.intro gL_game (by decide) (Nat.le_of_ble_eq_true rfl) rfl ?_
  repeat refine x_s rfl rfl ?_
  refine x_xcv hC rfl rfl rfl rfl (by decide) (by rw [hs]; rfl) (by decide) rfl (by decide) (by decide) (by decide) (by decide) ?_ ?_
  · intro v h0 hq
    obtain ⟨⟨x, rfl⟩, s0⟩ := hQ v h0 hq
    repeat refine x_s rfl rfl ?_
    refine x_last rfl (by rw [s0]; rfl) (k := 0) rfl (by decide) (by decide) rfl ?_
    repeat refine x_s rfl rfl ?_
    exact x_iret rfl rfl rfl (Or.inl ⟨x, h0, hq, rfl, rfl⟩)
  · intro j h0 hx
    rcases hX j h0 hx with rfl | rfl
    · refine ⟨Or.inr rfl, 19, 21, _, _, _, _, rfl, rfl, Or.inl ⟨7, rfl, by decide⟩, ?_⟩
      repeat refine x_s rfl rfl ?_
      exact x_iret rfl rfl rfl (Or.inr ⟨1, hx, rfl⟩)
    · refine ⟨Or.inl rfl, 23, 25, _, _, _, _, rfl, rfl, Or.inl ⟨7, rfl, by decide⟩, ?_⟩
      repeat refine x_s rfl rfl ?_
      exact x_iret rfl rfl rfl (Or.inr ⟨0, hx, rfl⟩)
set_option maxRecDepth 100000 in
set_option maxHeartbeats 1600000 in
theorem h_years {h : xHp} {a b c : Int32} {Q' : xPost} {X' : Nat → xHp → Prop} (hC : Cx mX11_years 20 6 36 [.ref 0, .int a, .int b, .int c] h Q' X') (hs : h.1 = SH) (hQ : ∀ v h0, Q' v h0 → (∃ x, v = some (.int x)) ∧ h0.1 = SH) (hX : ∀ j h0, X' j h0 → j = 1 ∨ j = 0) : Ch mL_years 21 6 36 [.ref 0, .int a, .int b, .int c, .ref 145] h (fun r h' => (∃ x h0, Q' (some (.int x)) h0 ∧ r = some (.int 0) ∧ h' = xpL h0 145 0 x.toInt64) ∨ (∃ j, X' j h' ∧ r = some (.int (if j = 1 then 1 else 2)))) := by
  refine Ch.intro gL_years (by decide) (Nat.le_of_ble_eq_true rfl) rfl ?_
  repeat refine x_s rfl rfl ?_
  refine x_xcv hC rfl rfl rfl rfl (by decide) (by rw [hs]; rfl) (by decide) rfl (by decide) (by decide) (by decide) (by decide) ?_ ?_
  · intro v h0 hq
    obtain ⟨⟨x, rfl⟩, s0⟩ := hQ v h0 hq
    repeat refine x_s rfl rfl ?_
    refine x_last rfl (by rw [s0]; rfl) (k := 0) rfl (by decide) (by decide) rfl ?_
    repeat refine x_s rfl rfl ?_
    exact x_iret rfl rfl rfl (Or.inl ⟨x, h0, hq, rfl, rfl⟩)
  · intro j h0 hx
    rcases hX j h0 hx with rfl | rfl
    · refine ⟨Or.inr rfl, 15, 17, _, _, _, _, rfl, rfl, Or.inl ⟨5, rfl, by decide⟩, ?_⟩
      repeat refine x_s rfl rfl ?_
      exact x_iret rfl rfl rfl (Or.inr ⟨1, hx, rfl⟩)
    · refine ⟨Or.inl rfl, 19, 21, _, _, _, _, rfl, rfl, Or.inl ⟨5, rfl, by decide⟩, ?_⟩
      repeat refine x_s rfl rfl ?_
      exact x_iret rfl rfl rfl (Or.inr ⟨0, hx, rfl⟩)
set_option maxRecDepth 100000 in
set_option maxHeartbeats 1600000 in
theorem h_shown {h : xHp} {a b : Int32} {Q' : xPost} {X' : Nat → xHp → Prop} (hC : Cx mX11_shown 20 6 36 [.ref 0, .int a, .int b] h Q' X') (hs : h.1 = SH) (hQ : ∀ v h0, Q' v h0 → (∃ x, v = some (.int x)) ∧ h0.1 = SH) (hX : ∀ j h0, X' j h0 → j = 1) : Ch mL_shown 21 6 36 [.ref 0, .int a, .int b, .ref 145] h (fun r h' => (∃ x h0, Q' (some (.int x)) h0 ∧ r = some (.int 0) ∧ h' = xpL h0 145 0 x.toInt64) ∨ (∃ j, X' j h' ∧ r = some (.int 1))) := by
  refine Ch.intro gL_shown (by decide) (Nat.le_of_ble_eq_true rfl) rfl ?_
  repeat refine x_s rfl rfl ?_
  refine x_xcv hC rfl rfl rfl rfl (by decide) (by rw [hs]; rfl) (by decide) rfl (by decide) (by decide) (by decide) (by decide) ?_ ?_
  · intro v h0 hq
    obtain ⟨⟨x, rfl⟩, s0⟩ := hQ v h0 hq
    repeat refine x_s rfl rfl ?_
    refine x_last rfl (by rw [s0]; rfl) (k := 0) rfl (by decide) (by decide) rfl ?_
    repeat refine x_s rfl rfl ?_
    exact x_iret rfl rfl rfl (Or.inl ⟨x, h0, hq, rfl, rfl⟩)
  · intro j h0 hx
    obtain rfl := hX j h0 hx
    refine ⟨Or.inr rfl, 13, 15, _, _, _, _, rfl, rfl, Or.inl ⟨4, rfl, by decide⟩, ?_⟩
    repeat refine x_s rfl rfl ?_
    exact x_iret rfl rfl rfl (Or.inr ⟨1, hx, rfl⟩)
set_option maxRecDepth 100000 in
set_option maxHeartbeats 1600000 in
theorem h_named {h : xHp} {a b : Int32} {Q' : xPost} {X' : Nat → xHp → Prop} (hC : Cx mX11_named 20 6 36 [.ref 0, .int a, .int b] h Q' X') (hs : h.1 = SH) (hQ : ∀ v h0, Q' v h0 → (∃ x, v = some (.int x)) ∧ h0.1 = SH) (hX : ∀ j h0, X' j h0 → j = 1) : Ch mL_named 21 6 36 [.ref 0, .int a, .int b, .ref 145] h (fun r h' => (∃ x h0, Q' (some (.int x)) h0 ∧ r = some (.int 0) ∧ h' = xpL h0 145 0 x.toInt64) ∨ (∃ j, X' j h' ∧ r = some (.int 1))) := by
  refine Ch.intro gL_named (by decide) (Nat.le_of_ble_eq_true rfl) rfl ?_
  repeat refine x_s rfl rfl ?_
  refine x_xcv hC rfl rfl rfl rfl (by decide) (by rw [hs]; rfl) (by decide) rfl (by decide) (by decide) (by decide) (by decide) ?_ ?_
  · intro v h0 hq
    obtain ⟨⟨x, rfl⟩, s0⟩ := hQ v h0 hq
    repeat refine x_s rfl rfl ?_
    refine x_last rfl (by rw [s0]; rfl) (k := 0) rfl (by decide) (by decide) rfl ?_
    repeat refine x_s rfl rfl ?_
    exact x_iret rfl rfl rfl (Or.inl ⟨x, h0, hq, rfl, rfl⟩)
  · intro j h0 hx
    obtain rfl := hX j h0 hx
    refine ⟨Or.inr rfl, 13, 15, _, _, _, _, rfl, rfl, Or.inl ⟨4, rfl, by decide⟩, ?_⟩
    repeat refine x_s rfl rfl ?_
    exact x_iret rfl rfl rfl (Or.inr ⟨1, hx, rfl⟩)
set_option maxRecDepth 100000 in
set_option maxHeartbeats 1600000 in
theorem h_butFor {h : xHp} {a : Int32} {Q' : xPost} {X' : Nat → xHp → Prop} (hC : Cx mX11_butFor 20 6 36 [.ref 0, .int a] h Q' X') (hs : h.1 = SH) (hQ : ∀ v h0, Q' v h0 → (∃ x, v = some (.int x)) ∧ h0.1 = SH) (hX : ∀ j h0, X' j h0 → j = 1) : Ch mL_butFor 21 6 36 [.ref 0, .int a, .ref 145] h (fun r h' => (∃ x h0, Q' (some (.int x)) h0 ∧ r = some (.int 0) ∧ h' = xpL h0 145 0 x.toInt64) ∨ (∃ j, X' j h' ∧ r = some (.int 1))) := by
  refine Ch.intro gL_butFor (by decide) (Nat.le_of_ble_eq_true rfl) rfl ?_
  repeat refine x_s rfl rfl ?_
  refine x_xcv hC rfl rfl rfl rfl (by decide) (by rw [hs]; rfl) (by decide) rfl (by decide) (by decide) (by decide) (by decide) ?_ ?_
  · intro v h0 hq
    obtain ⟨⟨x, rfl⟩, s0⟩ := hQ v h0 hq
    repeat refine x_s rfl rfl ?_
    refine x_last rfl (by rw [s0]; rfl) (k := 0) rfl (by decide) (by decide) rfl ?_
    repeat refine x_s rfl rfl ?_
    exact x_iret rfl rfl rfl (Or.inl ⟨x, h0, hq, rfl, rfl⟩)
  · intro j h0 hx
    obtain rfl := hX j h0 hx
    refine ⟨Or.inr rfl, 12, 13, _, _, _, _, rfl, rfl, Or.inr ⟨3, rfl, by decide⟩, ?_⟩
    repeat refine x_s rfl rfl ?_
    exact x_iret rfl rfl rfl (Or.inr ⟨1, hx, rfl⟩)
set_option maxRecDepth 100000 in
set_option maxHeartbeats 1600000 in
theorem h_rusted {h : xHp} {a : Int32} {Q' : xPost} {X' : Nat → xHp → Prop} (hC : Cx mX11_rusted 20 6 36 [.ref 0, .int a] h Q' X') (hs : h.1 = SH) (hQ : ∀ v h0, Q' v h0 → (∃ x, v = some (.int x)) ∧ h0.1 = SH) (hX : ∀ j h0, X' j h0 → j = 1) : Ch mL_rusted 21 6 36 [.ref 0, .int a, .ref 145] h (fun r h' => (∃ x h0, Q' (some (.int x)) h0 ∧ r = some (.int 0) ∧ h' = xpL h0 145 0 x.toInt64) ∨ (∃ j, X' j h' ∧ r = some (.int 1))) := by
  refine Ch.intro gL_rusted (by decide) (Nat.le_of_ble_eq_true rfl) rfl ?_
  repeat refine x_s rfl rfl ?_
  refine x_xcv hC rfl rfl rfl rfl (by decide) (by rw [hs]; rfl) (by decide) rfl (by decide) (by decide) (by decide) (by decide) ?_ ?_
  · intro v h0 hq
    obtain ⟨⟨x, rfl⟩, s0⟩ := hQ v h0 hq
    repeat refine x_s rfl rfl ?_
    refine x_last rfl (by rw [s0]; rfl) (k := 0) rfl (by decide) (by decide) rfl ?_
    repeat refine x_s rfl rfl ?_
    exact x_iret rfl rfl rfl (Or.inl ⟨x, h0, hq, rfl, rfl⟩)
  · intro j h0 hx
    obtain rfl := hX j h0 hx
    refine ⟨Or.inr rfl, 12, 13, _, _, _, _, rfl, rfl, Or.inr ⟨3, rfl, by decide⟩, ?_⟩
    repeat refine x_s rfl rfl ?_
    exact x_iret rfl rfl rfl (Or.inr ⟨1, hx, rfl⟩)
set_option maxRecDepth 100000 in
set_option maxHeartbeats 1600000 in
theorem h_ears {h : xHp} {a b : Int32} {Q' : xPost} {X' : Nat → xHp → Prop} (hC : Cx mX11_ears 20 6 36 [.ref 0, .int a, .int b] h Q' X') (hs : h.1 = SH) (hQ : ∀ v h0, Q' v h0 → (∃ x, v = some (.int x)) ∧ h0.1 = SH) (hX : ∀ j h0, X' j h0 → j = 0) : Ch mL_ears 21 6 36 [.ref 0, .int a, .int b, .ref 145] h (fun r h' => (∃ x h0, Q' (some (.int x)) h0 ∧ r = some (.int 0) ∧ h' = xpL h0 145 0 x.toInt64) ∨ (∃ j, X' j h' ∧ r = some (.int 1))) := by
  refine Ch.intro gL_ears (by decide) (Nat.le_of_ble_eq_true rfl) rfl ?_
  repeat refine x_s rfl rfl ?_
  refine x_xcv hC rfl rfl rfl rfl (by decide) (by rw [hs]; rfl) (by decide) rfl (by decide) (by decide) (by decide) (by decide) ?_ ?_
  · intro v h0 hq
    obtain ⟨⟨x, rfl⟩, s0⟩ := hQ v h0 hq
    repeat refine x_s rfl rfl ?_
    refine x_last rfl (by rw [s0]; rfl) (k := 0) rfl (by decide) (by decide) rfl ?_
    repeat refine x_s rfl rfl ?_
    exact x_iret rfl rfl rfl (Or.inl ⟨x, h0, hq, rfl, rfl⟩)
  · intro j h0 hx
    obtain rfl := hX j h0 hx
    refine ⟨Or.inl rfl, 13, 15, _, _, _, _, rfl, rfl, Or.inl ⟨4, rfl, by decide⟩, ?_⟩
    repeat refine x_s rfl rfl ?_
    exact x_iret rfl rfl rfl (Or.inr ⟨0, hx, rfl⟩)
set_option maxRecDepth 100000 in
set_option maxHeartbeats 1600000 in
theorem h_hideouts {h : xHp} {a b c e : Int32} {Q' : xPost} {X' : Nat → xHp → Prop} (hC : Cx mX11_hideouts 20 6 36 [.ref 0, .int a, .int b, .int c, .int e] h Q' X') (hs : h.1 = SH) (hQ : ∀ v h0, Q' v h0 → (∃ x, v = some (.int x)) ∧ h0.1 = SH) (hX : ∀ j h0, X' j h0 → j = 1 ∨ j = 0) : Ch mL_hideouts 21 6 36 [.ref 0, .int a, .int b, .int c, .int e, .ref 145] h (fun r h' => (∃ x h0, Q' (some (.int x)) h0 ∧ r = some (.int 0) ∧ h' = xpL h0 145 0 x.toInt64) ∨ (∃ j, X' j h' ∧ r = some (.int (if j = 1 then 1 else 2)))) := by
  refine Ch.intro gL_hideouts (by decide) (Nat.le_of_ble_eq_true rfl) rfl ?_
  repeat refine x_s rfl rfl ?_
  refine x_xcv hC rfl rfl rfl rfl (by decide) (by rw [hs]; rfl) (by decide) rfl (by decide) (by decide) (by decide) (by decide) ?_ ?_
  · intro v h0 hq
    obtain ⟨⟨x, rfl⟩, s0⟩ := hQ v h0 hq
    repeat refine x_s rfl rfl ?_
    refine x_last rfl (by rw [s0]; rfl) (k := 0) rfl (by decide) (by decide) rfl ?_
    repeat refine x_s rfl rfl ?_
    exact x_iret rfl rfl rfl (Or.inl ⟨x, h0, hq, rfl, rfl⟩)
  · intro j h0 hx
    rcases hX j h0 hx with rfl | rfl
    · refine ⟨Or.inr rfl, 17, 19, _, _, _, _, rfl, rfl, Or.inl ⟨6, rfl, by decide⟩, ?_⟩
      repeat refine x_s rfl rfl ?_
      exact x_iret rfl rfl rfl (Or.inr ⟨1, hx, rfl⟩)
    · refine ⟨Or.inl rfl, 21, 23, _, _, _, _, rfl, rfl, Or.inl ⟨6, rfl, by decide⟩, ?_⟩
      repeat refine x_s rfl rfl ?_
      exact x_iret rfl rfl rfl (Or.inr ⟨0, hx, rfl⟩)
set_option maxRecDepth 100000 in
set_option maxHeartbeats 1600000 in
theorem h_pardon {h : xHp} {a b : Int32} {Q' : xPost} {X' : Nat → xHp → Prop} (hC : Cx mX11_pardon 20 6 36 [.ref 0, .int a, .int b] h Q' X') (hs : h.1 = SH) (hQ : ∀ v h0, Q' v h0 → (∃ x, v = some (.int x)) ∧ h0.1 = SH) (hX : ∀ j h0, X' j h0 → j = 1) : Ch mL_pardon 21 6 36 [.ref 0, .int a, .int b, .ref 145] h (fun r h' => (∃ x h0, Q' (some (.int x)) h0 ∧ r = some (.int 0) ∧ h' = xpL h0 145 0 x.toInt64) ∨ (∃ j, X' j h' ∧ r = some (.int 1))) := by
  refine Ch.intro gL_pardon (by decide) (Nat.le_of_ble_eq_true rfl) rfl ?_
  repeat refine x_s rfl rfl ?_
  refine x_xcv hC rfl rfl rfl rfl (by decide) (by rw [hs]; rfl) (by decide) rfl (by decide) (by decide) (by decide) (by decide) ?_ ?_
  · intro v h0 hq
    obtain ⟨⟨x, rfl⟩, s0⟩ := hQ v h0 hq
    repeat refine x_s rfl rfl ?_
    refine x_last rfl (by rw [s0]; rfl) (k := 0) rfl (by decide) (by decide) rfl ?_
    repeat refine x_s rfl rfl ?_
    exact x_iret rfl rfl rfl (Or.inl ⟨x, h0, hq, rfl, rfl⟩)
  · intro j h0 hx
    obtain rfl := hX j h0 hx
    refine ⟨Or.inr rfl, 13, 15, _, _, _, _, rfl, rfl, Or.inl ⟨4, rfl, by decide⟩, ?_⟩
    repeat refine x_s rfl rfl ?_
    exact x_iret rfl rfl rfl (Or.inr ⟨1, hx, rfl⟩)
set_option maxRecDepth 100000 in
set_option maxHeartbeats 1600000 in
theorem h_falsely {h : xHp} {a : Int32} {Q' : xPost} {X' : Nat → xHp → Prop} (hC : Cx mX11_falsely 20 6 36 [.ref 0, .int a] h Q' X') (hs : h.1 = SH) (hQ : ∀ v h0, Q' v h0 → (∃ x, v = some (.int x)) ∧ h0.1 = SH) (hX : ∀ j h0, X' j h0 → j = 1) : Ch mL_falsely 21 6 36 [.ref 0, .int a, .ref 145] h (fun r h' => (∃ x h0, Q' (some (.int x)) h0 ∧ r = some (.int 0) ∧ h' = xpL h0 145 0 x.toInt64) ∨ (∃ j, X' j h' ∧ r = some (.int 1))) := by
  refine Ch.intro gL_falsely (by decide) (Nat.le_of_ble_eq_true rfl) rfl ?_
  repeat refine x_s rfl rfl ?_
  refine x_xcv hC rfl rfl rfl rfl (by decide) (by rw [hs]; rfl) (by decide) rfl (by decide) (by decide) (by decide) (by decide) ?_ ?_
  · intro v h0 hq
    obtain ⟨⟨x, rfl⟩, s0⟩ := hQ v h0 hq
    repeat refine x_s rfl rfl ?_
    refine x_last rfl (by rw [s0]; rfl) (k := 0) rfl (by decide) (by decide) rfl ?_
    repeat refine x_s rfl rfl ?_
    exact x_iret rfl rfl rfl (Or.inl ⟨x, h0, hq, rfl, rfl⟩)
  · intro j h0 hx
    obtain rfl := hX j h0 hx
    refine ⟨Or.inr rfl, 12, 13, _, _, _, _, rfl, rfl, Or.inr ⟨3, rfl, by decide⟩, ?_⟩
    repeat refine x_s rfl rfl ?_
    exact x_iret rfl rfl rfl (Or.inr ⟨1, hx, rfl⟩)
set_option maxRecDepth 100000 in
set_option maxHeartbeats 1600000 in
theorem h_first {h : xHp} {a : Int32} {Q' : xPost} {X' : Nat → xHp → Prop} (hC : Cx mX11_first 20 6 36 [.ref 0, .int a] h Q' X') (hs : h.1 = SH) (hQ : ∀ v h0, Q' v h0 → (∃ x, v = some (.int x)) ∧ h0.1 = SH) (hX : ∀ j h0, X' j h0 → j = 1) : Ch mL_first 21 6 36 [.ref 0, .int a, .ref 145] h (fun r h' => (∃ x h0, Q' (some (.int x)) h0 ∧ r = some (.int 0) ∧ h' = xpL h0 145 0 x.toInt64) ∨ (∃ j, X' j h' ∧ r = some (.int 1))) := by
  refine Ch.intro gL_first (by decide) (Nat.le_of_ble_eq_true rfl) rfl ?_
  repeat refine x_s rfl rfl ?_
  refine x_xcv hC rfl rfl rfl rfl (by decide) (by rw [hs]; rfl) (by decide) rfl (by decide) (by decide) (by decide) (by decide) ?_ ?_
  · intro v h0 hq
    obtain ⟨⟨x, rfl⟩, s0⟩ := hQ v h0 hq
    repeat refine x_s rfl rfl ?_
    refine x_last rfl (by rw [s0]; rfl) (k := 0) rfl (by decide) (by decide) rfl ?_
    repeat refine x_s rfl rfl ?_
    exact x_iret rfl rfl rfl (Or.inl ⟨x, h0, hq, rfl, rfl⟩)
  · intro j h0 hx
    obtain rfl := hX j h0 hx
    refine ⟨Or.inr rfl, 12, 13, _, _, _, _, rfl, rfl, Or.inr ⟨3, rfl, by decide⟩, ?_⟩
    repeat refine x_s rfl rfl ?_
    exact x_iret rfl rfl rfl (Or.inr ⟨1, hx, rfl⟩)
set_option maxRecDepth 100000 in
set_option maxHeartbeats 1600000 in
theorem h_busiest {h : xHp} {a : Int32} {Q' : xPost} {X' : Nat → xHp → Prop} (hC : Cx mX11_busiest 20 6 36 [.ref 0, .int a] h Q' X') (hs : h.1 = SH) (hQ : ∀ v h0, Q' v h0 → (∃ x, v = some (.int x)) ∧ h0.1 = SH) (hX : ∀ j h0, X' j h0 → j = 1) : Ch mL_busiest 21 6 36 [.ref 0, .int a, .ref 145] h (fun r h' => (∃ x h0, Q' (some (.int x)) h0 ∧ r = some (.int 0) ∧ h' = xpL h0 145 0 x.toInt64) ∨ (∃ j, X' j h' ∧ r = some (.int 1))) := by
  refine Ch.intro gL_busiest (by decide) (Nat.le_of_ble_eq_true rfl) rfl ?_
  repeat refine x_s rfl rfl ?_
  refine x_xcv hC rfl rfl rfl rfl (by decide) (by rw [hs]; rfl) (by decide) rfl (by decide) (by decide) (by decide) (by decide) ?_ ?_
  · intro v h0 hq
    obtain ⟨⟨x, rfl⟩, s0⟩ := hQ v h0 hq
    repeat refine x_s rfl rfl ?_
    refine x_last rfl (by rw [s0]; rfl) (k := 0) rfl (by decide) (by decide) rfl ?_
    repeat refine x_s rfl rfl ?_
    exact x_iret rfl rfl rfl (Or.inl ⟨x, h0, hq, rfl, rfl⟩)
  · intro j h0 hx
    obtain rfl := hX j h0 hx
    refine ⟨Or.inr rfl, 12, 13, _, _, _, _, rfl, rfl, Or.inr ⟨3, rfl, by decide⟩, ?_⟩
    repeat refine x_s rfl rfl ?_
    exact x_iret rfl rfl rfl (Or.inr ⟨1, hx, rfl⟩)
