/-! ACTS undone; copies -/
theorem cpy0 {f g : Nat → Int32} {n j : Nat} (h : j < n) : va_cpy f g 0 0 n j = f j := by
  rw [pk_cpy_in (by omega) (by omega)]
  congr 1
  omega
section
variable (d : Nat → Nat → Int32) (L : Nat → Nat → Int64) {F : Fr}
set_option maxRecDepth 100000 in
set_option maxHeartbeats 8000000 in
theorem c_revert (H : HC d F) {n : Nat} {e : Nat × Nat × Nat × Nat} (hn : d 81 0 = nI (n + 1)) (hn2 : n < 40) (e1 : d 82 n = nI e.1) (e2 : d 83 n = nI e.2.1) (e3 : d 84 n = nI e.2.2.1) (e4 : d 85 n = nI e.2.2.2) (hv : vE e F.1) : Cn mX0_revertLast false 3 0 0 [.ref 81, .ref 24] (W0 d L) (fun r h => r = none ∧ ∃ d', h = W0 d' L ∧ sm [81, 34, 35, 36, 37, 33, 30, 31] d d' ∧ d' 81 0 = nI n ∧ HC d' (rv e F.1, F.2)) := by
  have hs1 : sm [81] d (up2 d 81 0 (nI n)) := sm_up sm_rfl (by decide)
  have H1 : HC (up2 d 81 0 (nI n)) F := HC_sm H hs1 (by decide)
  have e0 : d 81 0 - 1 = nI n := by rw [hn, nI_pred]
  refine Cn.intro gX0_revertLast rfl (Nat.le_of_ble_eq_true rfl) rfl ?_
  repeat refine x_s rfl rfl ?_
  refine x_br rfl rfl (fun c => ?_) (fun c => absurd c (fun z => z (by rw [hn]; exact nI_lt (a := 0) (by omega) (by omega))))
  repeat refine x_s rfl rfl ?_
  rw [e0]
  refine x_put rfl rfl (by decide) rfl ⟨rfl, rfl⟩ (Or.inl rfl) ?_
  repeat refine x_s rfl rfl ?_
  refine x_ald rfl rfl rfl (k := n) (rfl) (by omega) (by decide) rfl ?_
  repeat refine x_s rfl rfl ?_
  refine x_ald rfl rfl rfl (k := n) (rfl) (by omega) (by decide) rfl ?_
  repeat refine x_s rfl rfl ?_
  refine x_ald rfl rfl rfl (k := n) (rfl) (by omega) (by decide) rfl ?_
  repeat refine x_s rfl rfl ?_
  refine x_ald rfl rfl rfl (k := n) (rfl) (by omega) (by decide) rfl ?_
  have e1' : up2 d 81 0 (nI n) 82 n = nI e.1 := e1
  have e2' : up2 d 81 0 (nI n) 83 n = nI e.2.1 := e2
  have e3' : up2 d 81 0 (nI n) 84 n = nI e.2.2.1 := e3
  have e4' : up2 d 81 0 (nI n) 85 n = nI e.2.2.2 := e4
  rw [e1', e2', e3', e4']
  obtain ⟨k, a, b, c⟩ := e
  rcases hv with ⟨rfl, hv, hv2⟩ | ⟨rfl, hv⟩ | ⟨rfl, hv, hv2⟩ | ⟨rfl, hv, hv2⟩
  · refine x_tsw (i := .iadd) (tgt := 84) rfl (Or.inl ⟨by show ¬ (nI 0).toInt < 0 ∧ ¬ 2 < (nI 0).toInt; decide, _, rfl, rfl⟩) ?_
    repeat refine x_s rfl rfl ?_
    refine x_cv (c_S_drop _ L (n := F.1 9 0 - 1) (show up2 d 81 0 (nI n) 34 0 = nI (F.1 9 0 - 1 + 1) by rw [show F.1 9 0 - 1 + 1 = F.1 9 0 by omega]; exact H.2.2.1) (by omega)) rfl rfl rfl (by decide) rfl (by decide) rfl (Nat.le_of_ble_eq_true rfl) (by decide) (by decide) (by decide) ?_
    rintro _ _ ⟨rfl, rfl⟩
    repeat refine x_s rfl rfl ?_
    exact x_vret rfl rfl ⟨rfl, _, rfl, sm_up (sm_in hs1 (by decide)) (by decide), rfl, HC_drop H1⟩
  · refine x_tsw (i := .iadd) (tgt := 94) rfl (Or.inl ⟨by show ¬ (nI 1).toInt < 0 ∧ ¬ 2 < (nI 1).toInt; decide, _, rfl, rfl⟩) ?_
    repeat refine x_s rfl rfl ?_
    refine x_cv (c_S_add _ L (b := 34) (n := F.1 9 0) (Or.inr rfl) (show up2 d 81 0 (nI n) 34 0 = nI (F.1 9 0) from H.2.2.1) hv _ _ _) rfl rfl rfl (by decide) rfl (by decide) rfl (Nat.le_of_ble_eq_true rfl) (by decide) (by decide) (by decide) ?_
    rintro _ _ ⟨rfl, rfl⟩
    repeat refine x_s rfl rfl ?_
    exact x_vret rfl rfl ⟨rfl, _, rfl, sm_up (sm_up (sm_up (sm_up (sm_in hs1 (by decide)) (by decide)) (by decide)) (by decide)) (by decide), rfl, HC_add H1 a b c⟩
  · refine x_tsw (i := .iadd) (tgt := 108) rfl (Or.inl ⟨by show ¬ (nI 2).toInt < 0 ∧ ¬ 2 < (nI 2).toInt; decide, _, rfl, rfl⟩) ?_
    repeat refine x_s rfl rfl ?_
    refine x_cv (c_N_setRust _ L (n := F.1 4 0) (k := a) (show up2 d 81 0 (nI n) 29 0 = nI (F.1 4 0) from H.2.1) hv hv2 _) rfl rfl rfl (by decide) rfl (by decide) rfl (Nat.le_of_ble_eq_true rfl) (by decide) (by decide) (by decide) ?_
    rintro _ _ ⟨rfl, rfl⟩
    repeat refine x_s rfl rfl ?_
    exact x_vret rfl rfl ⟨rfl, _, rfl, sm_up (sm_in hs1 (by decide)) (by decide), rfl, HC_rust H1 a b⟩
  · refine x_tsw (i := .iadd) (tgt := 120) rfl (Or.inr ⟨by show (nI 3).toInt < 0 ∨ 2 < (nI 3).toInt; decide, by decide⟩) ?_
    repeat refine x_s rfl rfl ?_
    refine x_cv (c_N_setPlace _ L (n := F.1 4 0) (k := a) (show up2 d 81 0 (nI n) 29 0 = nI (F.1 4 0) from H.2.1) hv hv2 _ _) rfl rfl rfl (by decide) rfl (by decide) rfl (Nat.le_of_ble_eq_true rfl) (by decide) (by decide) (by decide) ?_
    rintro _ _ ⟨rfl, rfl⟩
    exact x_vret rfl rfl ⟨rfl, _, rfl, sm_up (sm_up (sm_in hs1 (by decide)) (by decide)) (by decide), rfl, HC_place H1 a b c⟩
set_option maxRecDepth 100000 in
set_option maxHeartbeats 8000000 in
theorem c_Z_add {n : Nat} (hn : d 86 0 = nI n) (hlt : n < 8) (x y z : Int32) : Cn mX8_add false 1 0 0 [.ref 86, .int x, .int y, .int z] (W0 d L) (fun v h => v = none ∧ h = W0 (up2 (up2 (up2 (up2 d 87 n x) 88 n y) 89 n z) 86 0 (nI (n + 1))) L) := by
  refine Cn.intro gX8_add rfl (Nat.le_of_ble_eq_true rfl) rfl ?_
  repeat refine x_s rfl rfl ?_
  refine x_br rfl rfl (fun c => absurd c (by rw [hn]; exact nI_ge (b := 8) hlt (by decide))) (fun c => ?_)
  repeat refine x_s rfl rfl ?_
  refine x_iast rfl rfl (k := n) (hn) (by omega) (by decide) rfl ?_
  repeat refine x_s rfl rfl ?_
  refine x_iast rfl rfl (k := n) (hn) (by omega) (by decide) rfl ?_
  repeat refine x_s rfl rfl ?_
  refine x_iast rfl rfl (k := n) (hn) (by omega) (by decide) rfl ?_
  repeat refine x_s rfl rfl ?_
  refine x_put rfl rfl (by decide) rfl ⟨rfl, rfl⟩ (Or.inl rfl) ?_
  have e : nI (n + 1) = d 86 0 + 1 := by rw [hn, nI_1]
  refine x_vret rfl rfl ⟨rfl, ?_⟩
  rw [e]
  rfl
set_option maxRecDepth 100000 in
set_option maxHeartbeats 8000000 in
theorem c_S_copy {a b : Nat} (hab : (a = 34 ∧ b = 90) ∨ (a = 90 ∧ b = 34)) : Cn mX7_copyFrom false 3 0 0 [.ref b, .ref a] (W0 d L) (fun r h => r = none ∧ ∃ d', h = W0 d' L ∧ sm [b, b + 1, b + 2, b + 3] d d' ∧ d' b 0 = d a 0 ∧ ∀ j, j < 16 → d' (b + 1) j = d (a + 1) j ∧ d' (b + 2) j = d (a + 2) j ∧ d' (b + 3) j = d (a + 3) j) := by
  rcases hab with ⟨rfl, rfl⟩ | ⟨rfl, rfl⟩
  all_goals
    refine Cn.intro gX7_copyFrom rfl (Nat.le_of_ble_eq_true rfl) rfl ?_
    repeat refine x_s rfl rfl ?_
    refine x_put rfl rfl (by decide) rfl ⟨rfl, rfl⟩ (Or.inl rfl) ?_
    repeat refine x_s rfl rfl ?_
    refine x_acp (sn := 0) (dn := 0) (n := 16) rfl rfl rfl rfl rfl rfl (by decide) (by decide) (by decide) (by decide) (by decide) (Nat.le_of_ble_eq_true rfl) rfl ?_
    repeat refine x_s rfl rfl ?_
    refine x_acp (sn := 0) (dn := 0) (n := 16) rfl rfl rfl rfl rfl rfl (by decide) (by decide) (by decide) (by decide) (by decide) (Nat.le_of_ble_eq_true rfl) rfl ?_
    repeat refine x_s rfl rfl ?_
    refine x_acp (sn := 0) (dn := 0) (n := 16) rfl rfl rfl rfl rfl rfl (by decide) (by decide) (by decide) (by decide) (by decide) (Nat.le_of_ble_eq_true rfl) rfl ?_
    exact x_vret rfl rfl ⟨rfl, _, rfl, sm_uC (sm_uC (sm_uC (sm_up sm_rfl (by decide)) (by decide)) (by decide)) (by decide), rfl, fun j hj => ⟨cpy0 hj, cpy0 hj, cpy0 hj⟩⟩
set_option maxRecDepth 100000 in
set_option maxHeartbeats 8000000 in
theorem c_N_copy {a b : Nat} (hab : (a = 29 ∧ b = 94) ∨ (a = 94 ∧ b = 29)) : Cn mX3_copyFrom false 3 0 0 [.ref b, .ref a] (W0 d L) (fun r h => r = none ∧ ∃ d', h = W0 d' L ∧ sm [b, b + 1, b + 2, b + 3, b + 4] d d' ∧ d' b 0 = d a 0 ∧ ∀ j, j < 6 → d' (b + 1) j = d (a + 1) j ∧ d' (b + 2) j = d (a + 2) j ∧ d' (b + 3) j = d (a + 3) j ∧ d' (b + 4) j = d (a + 4) j) := by
  rcases hab with ⟨rfl, rfl⟩ | ⟨rfl, rfl⟩
  all_goals
    refine Cn.intro gX3_copyFrom rfl (Nat.le_of_ble_eq_true rfl) rfl ?_
    repeat refine x_s rfl rfl ?_
    refine x_put rfl rfl (by decide) rfl ⟨rfl, rfl⟩ (Or.inl rfl) ?_
    repeat refine x_s rfl rfl ?_
    refine x_acp (sn := 0) (dn := 0) (n := 6) rfl rfl rfl rfl rfl rfl (by decide) (by decide) (by decide) (by decide) (by decide) (Nat.le_of_ble_eq_true rfl) rfl ?_
    repeat refine x_s rfl rfl ?_
    refine x_acp (sn := 0) (dn := 0) (n := 6) rfl rfl rfl rfl rfl rfl (by decide) (by decide) (by decide) (by decide) (by decide) (Nat.le_of_ble_eq_true rfl) rfl ?_
    repeat refine x_s rfl rfl ?_
    refine x_acp (sn := 0) (dn := 0) (n := 6) rfl rfl rfl rfl rfl rfl (by decide) (by decide) (by decide) (by decide) (by decide) (Nat.le_of_ble_eq_true rfl) rfl ?_
    repeat refine x_s rfl rfl ?_
    refine x_acp (sn := 0) (dn := 0) (n := 6) rfl rfl rfl rfl rfl rfl (by decide) (by decide) (by decide) (by decide) (by decide) (Nat.le_of_ble_eq_true rfl) rfl ?_
    exact x_vret rfl rfl ⟨rfl, _, rfl, sm_uC (sm_uC (sm_uC (sm_uC (sm_up sm_rfl (by decide)) (by decide)) (by decide)) (by decide)) (by decide), rfl, fun j hj => ⟨cpy0 hj, cpy0 hj, cpy0 hj, cpy0 hj⟩⟩
set_option maxRecDepth 100000 in
set_option maxHeartbeats 8000000 in
theorem c_A_copy {a b : Nat} (hab : (a = 81 ∧ b = 99) ∨ (a = 99 ∧ b = 81)) : Cn mX0_copyFrom false 3 0 0 [.ref b, .ref a] (W0 d L) (fun r h => r = none ∧ ∃ d', h = W0 d' L ∧ sm [b, b + 1, b + 2, b + 3, b + 4] d d' ∧ d' b 0 = d a 0 ∧ ∀ j, j < 40 → d' (b + 1) j = d (a + 1) j ∧ d' (b + 2) j = d (a + 2) j ∧ d' (b + 3) j = d (a + 3) j ∧ d' (b + 4) j = d (a + 4) j) := by
  rcases hab with ⟨rfl, rfl⟩ | ⟨rfl, rfl⟩
  all_goals
    refine Cn.intro gX0_copyFrom rfl (Nat.le_of_ble_eq_true rfl) rfl ?_
    repeat refine x_s rfl rfl ?_
    refine x_put rfl rfl (by decide) rfl ⟨rfl, rfl⟩ (Or.inl rfl) ?_
    repeat refine x_s rfl rfl ?_
    refine x_acp (sn := 0) (dn := 0) (n := 40) rfl rfl rfl rfl rfl rfl (by decide) (by decide) (by decide) (by decide) (by decide) (Nat.le_of_ble_eq_true rfl) rfl ?_
    repeat refine x_s rfl rfl ?_
    refine x_acp (sn := 0) (dn := 0) (n := 40) rfl rfl rfl rfl rfl rfl (by decide) (by decide) (by decide) (by decide) (by decide) (Nat.le_of_ble_eq_true rfl) rfl ?_
    repeat refine x_s rfl rfl ?_
    refine x_acp (sn := 0) (dn := 0) (n := 40) rfl rfl rfl rfl rfl rfl (by decide) (by decide) (by decide) (by decide) (by decide) (Nat.le_of_ble_eq_true rfl) rfl ?_
    repeat refine x_s rfl rfl ?_
    refine x_acp (sn := 0) (dn := 0) (n := 40) rfl rfl rfl rfl rfl rfl (by decide) (by decide) (by decide) (by decide) (by decide) (Nat.le_of_ble_eq_true rfl) rfl ?_
    exact x_vret rfl rfl ⟨rfl, _, rfl, sm_uC (sm_uC (sm_uC (sm_uC (sm_up sm_rfl (by decide)) (by decide)) (by decide)) (by decide)) (by decide), rfl, fun j hj => ⟨cpy0 hj, cpy0 hj, cpy0 hj, cpy0 hj⟩⟩
set_option maxRecDepth 100000 in
set_option maxHeartbeats 8000000 in
theorem c_Z_copy {a b : Nat} (hab : (a = 86 ∧ b = 104) ∨ (a = 104 ∧ b = 86)) : Cn mX8_copyFrom false 3 0 0 [.ref b, .ref a] (W0 d L) (fun r h => r = none ∧ ∃ d', h = W0 d' L ∧ sm [b, b + 1, b + 2, b + 3] d d' ∧ d' b 0 = d a 0 ∧ ∀ j, j < 8 → d' (b + 1) j = d (a + 1) j ∧ d' (b + 2) j = d (a + 2) j ∧ d' (b + 3) j = d (a + 3) j) := by
  rcases hab with ⟨rfl, rfl⟩ | ⟨rfl, rfl⟩
  all_goals
    refine Cn.intro gX8_copyFrom rfl (Nat.le_of_ble_eq_true rfl) rfl ?_
    repeat refine x_s rfl rfl ?_
    refine x_put rfl rfl (by decide) rfl ⟨rfl, rfl⟩ (Or.inl rfl) ?_
    repeat refine x_s rfl rfl ?_
    refine x_acp (sn := 0) (dn := 0) (n := 8) rfl rfl rfl rfl rfl rfl (by decide) (by decide) (by decide) (by decide) (by decide) (Nat.le_of_ble_eq_true rfl) rfl ?_
    repeat refine x_s rfl rfl ?_
    refine x_acp (sn := 0) (dn := 0) (n := 8) rfl rfl rfl rfl rfl rfl (by decide) (by decide) (by decide) (by decide) (by decide) (Nat.le_of_ble_eq_true rfl) rfl ?_
    repeat refine x_s rfl rfl ?_
    refine x_acp (sn := 0) (dn := 0) (n := 8) rfl rfl rfl rfl rfl rfl (by decide) (by decide) (by decide) (by decide) (by decide) (Nat.le_of_ble_eq_true rfl) rfl ?_
    exact x_vret rfl rfl ⟨rfl, _, rfl, sm_uC (sm_uC (sm_uC (sm_up sm_rfl (by decide)) (by decide)) (by decide)) (by decide), rfl, fun j hj => ⟨cpy0 hj, cpy0 hj, cpy0 hj⟩⟩
end
