/-! WATCH: ways, distances, what a needle hears -/
theorem nI_tI {a : Nat} (h : a ≤ 100000) : (nI a).toInt = (a : Int) := nI_toI (by omega)
theorem sub_tI {x y : Int32} (hx : -100000 ≤ x.toInt ∧ x.toInt ≤ 100000) (hy : -100000 ≤ y.toInt ∧ y.toInt ≤ 100000) : (x - y).toInt = x.toInt - y.toInt := by
  rw [Int32.toInt_sub, Int.bmod_eq_of_le (by omega) (by omega)]
theorem add_tI {x y : Int32} (hx : -100000 ≤ x.toInt ∧ x.toInt ≤ 100000) (hy : -100000 ≤ y.toInt ∧ y.toInt ≤ 100000) : (x + y).toInt = x.toInt + y.toInt := by
  rw [Int32.toInt_add, Int.bmod_eq_of_le (by omega) (by omega)]
theorem nsub_tI {a b : Nat} (ha : a ≤ 100000) (hb : b ≤ 100000) : (nI a - nI b).toInt = (a : Int) - (b : Int) := by
  rw [sub_tI (by rw [nI_tI ha]; omega) (by rw [nI_tI hb]; omega), nI_tI ha, nI_tI hb]
theorem i0 : (0 : Int32).toInt = 0 := rfl
theorem nI_ofI {x : Int32} {a : Nat} (ha : a ≤ 100000) (h : x.toInt = (a : Int)) : x = nI a := ieq.mpr (by rw [h, nI_tI ha])
theorem f_abs {a b : Nat} (ha : a ≤ 1000) (hb : b ≤ 1000) : (if 0 ≤ nI a - nI b then nI a - nI b else 0 - (nI a - nI b)) = nI (dif a b) := by
  have e := nsub_tI (a := a) (b := b) (by omega) (by omega)
  apply nI_ofI (by unfold dif; split <;> omega)
  unfold dif
  by_cases h : a < b
  · rw [if_neg (by rw [ge0, e]; omega), if_pos h, sub_tI (by rw [i0]; omega) (by rw [e]; omega), e, i0]
    omega
  · rw [if_pos (by rw [ge0, e]; omega), if_neg h, e]
    omega
theorem dif_le {a b m : Nat} (ha : a ≤ m) (hb : b ≤ m) : dif a b ≤ m := by unfold dif; split <;> omega
section
variable (d : Nat → Nat → Int32) (L : Nat → Nat → Int64) {F : Fr}
set_option maxRecDepth 100000 in
set_option maxHeartbeats 8000000 in
theorem c_farOf {a b a' b' : Nat} (ha : a ≤ 1000) (hb : b ≤ 1000) (ha' : a' ≤ 1000) (hb' : b' ≤ 1000) : Cn mX11_farOf false 2 0 0 [.int (nI a - nI a'), .int (nI b - nI b')] (W0 d L) (fun v h => v = some (.int (nI (if dif a a' < dif b b' then dif b b' else dif a a'))) ∧ h = W0 d L) := by
  refine Cn.intro gX11_farOf rfl (Nat.le_of_ble_eq_true rfl) rfl ?_
  refine x_s rfl rfl ?_
  refine x_abs rfl (by decide) (by decide) ?_
  rw [f_abs ha ha']
  refine x_s rfl rfl ?_
  refine x_abs rfl (by decide) (Nat.le_of_ble_eq_true rfl) ?_
  rw [f_abs hb hb']
  refine x_max rfl (by decide) (by decide) ?_
  refine x_iret rfl rfl rfl ⟨congrArg (fun z => some (Value.int z)) ?_, rfl⟩
  have h1 := dif_le (a := a) (b := a') ha ha'
  have h2 := dif_le (a := b) (b := b') hb hb'
  by_cases h : dif a a' < dif b b'
  · rw [if_pos h, if_pos (nI_lt h (by omega))]
  · rw [if_neg h, if_neg (nI_nlt (by omega) (by omega))]
set_option maxRecDepth 100000 in
set_option maxHeartbeats 8000000 in
theorem c_wayX (H : HC d F) {n p : Nat} (R : RG F) (hn : n < F.1 4 0) (hp : p < F.1 0 0) : Cn mX9_wayX false 1 0 0 [.ref 23, .int (nI n), .int (nI p)] (W0 d L) (fun v h => v = some (.int (nI (F.1 1 p) - nI (F.1 5 n))) ∧ h = W0 d L) := by
  obtain ⟨-, -, -, h3, h4, -⟩ := H
  have r1 := R.1
  have r2 := R.2.1
  refine Cn.intro gX9_wayX rfl (Nat.le_of_ble_eq_true rfl) rfl ?_
  repeat refine x_s rfl rfl ?_
  refine x_ald rfl rfl rfl (k := p) (rfl) (by omega) (by decide) rfl ?_
  repeat refine x_s rfl rfl ?_
  refine x_ald rfl rfl rfl (k := n) (rfl) (by omega) (by decide) rfl ?_
  repeat refine x_s rfl rfl ?_
  refine x_iret rfl rfl rfl ⟨congrArg (fun z => some (Value.int z)) ?_, rfl⟩
  show d 26 p - d 30 n = _
  rw [(h3 p hp).1, (h4 n hn).1]
set_option maxRecDepth 100000 in
set_option maxHeartbeats 8000000 in
theorem c_wayY (H : HC d F) {n p : Nat} (R : RG F) (hn : n < F.1 4 0) (hp : p < F.1 0 0) : Cn mX9_wayY false 1 0 0 [.ref 23, .int (nI n), .int (nI p)] (W0 d L) (fun v h => v = some (.int (nI (F.1 2 p) - nI (F.1 6 n))) ∧ h = W0 d L) := by
  obtain ⟨-, -, -, h3, h4, -⟩ := H
  have r1 := R.1
  have r2 := R.2.1
  refine Cn.intro gX9_wayY rfl (Nat.le_of_ble_eq_true rfl) rfl ?_
  repeat refine x_s rfl rfl ?_
  refine x_ald rfl rfl rfl (k := p) (rfl) (by omega) (by decide) rfl ?_
  repeat refine x_s rfl rfl ?_
  refine x_ald rfl rfl rfl (k := n) (rfl) (by omega) (by decide) rfl ?_
  repeat refine x_s rfl rfl ?_
  refine x_iret rfl rfl rfl ⟨congrArg (fun z => some (Value.int z)) ?_, rfl⟩
  show d 27 p - d 31 n = _
  rw [(h3 p hp).2.1, (h4 n hn).2.1]
set_option maxRecDepth 100000 in
set_option maxHeartbeats 8000000 in
theorem c_farBetween (H : HC d F) {n p : Nat} (R : RG F) (hn : n < F.1 4 0) (hp : p < F.1 0 0) : Cn mX9_farBetween false 3 0 0 [.ref 23, .int (nI n), .int (nI p)] (W0 d L) (fun v h => v = some (.int (nI (far F n p))) ∧ h = W0 d L) := by
  have r4 := R.2.2.2.1 p hp
  have r5 := R.2.2.2.2.1 n hn
  refine Cn.intro gX9_farBetween rfl (Nat.le_of_ble_eq_true rfl) rfl ?_
  repeat refine x_s rfl rfl ?_
  refine x_cv (c_wayX d L H R hn hp) rfl rfl rfl (by decide) rfl (by decide) rfl (Nat.le_of_ble_eq_true rfl) (by decide) (by decide) (by decide) ?_
  rintro _ _ ⟨rfl, rfl⟩
  repeat refine x_s rfl rfl ?_
  refine x_cv (c_wayY d L H R hn hp) rfl rfl rfl (by decide) rfl (by decide) rfl (Nat.le_of_ble_eq_true rfl) (by decide) (by decide) (by decide) ?_
  rintro _ _ ⟨rfl, rfl⟩
  refine x_cn (c_farOf d L (a := F.1 1 p) (a' := F.1 5 n) (b := F.1 2 p) (b' := F.1 6 n) (by omega) (by omega) (by omega) (by omega)) rfl rfl rfl (by decide) (Nat.le_of_ble_eq_true rfl) (by decide) (by decide) (by decide) ?_
  rintro _ _ ⟨rfl, rfl⟩
  refine x_iret rfl rfl rfl ⟨congrArg (fun z => some (Value.int z)) ?_, rfl⟩
  rfl
end
