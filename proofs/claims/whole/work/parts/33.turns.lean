/-! WATCH: turns, and who hears -/
theorem g_ext {g : (Nat → Int32) → Int32} {T : List Int32} {nv : Nat} (hg : ∀ vals : Nat → Int32, evA (fun i => if inB i nv then vals i.toInt.toNat else 0) T 0 (fun _ => 0) = g vals) {v w : Nat → Int32} (h : ∀ i, i < nv → v i = w i) : g v = g w := by
  rw [← hg v, ← hg w]
  congr 1
  funext i
  by_cases hi : inB i nv
  · rw [if_pos hi, if_pos hi]
    apply h
    unfold inB at hi
    simp only [decide_eq_true_eq] at hi
    omega
  · rw [if_neg hi, if_neg hi]
theorem bI_of {b : Bool} {x : Int32} (h1 : b = true → x = 1) (h2 : b = false → x = 0) : x = bI b := by
  cases b
  · exact h2 rfl
  · exact h1 rfl
theorem bI_0 {b : Bool} : bI b = 0 ↔ b = false := by cases b <;> decide
theorem bI_n0 {b : Bool} : ¬ bI b = 0 ↔ b = true := by cases b <;> decide
theorem nar_b (b : Bool) : narrow .boolean (.int (bI b)) = .int (bI b) := by cases b <;> rfl
section
variable (d : Nat → Nat → Int32) (L : Nat → Nat → Int64) {F : Fr}
set_option maxRecDepth 100000 in
set_option maxHeartbeats 8000000 in
theorem c_turns (H : HC d F) {dg sk fa re ru ho : Nat} (h1 : dg ≤ 1000) (h3 : fa ≤ 1000) (h4 : re ≤ 1000) (h5 : ru ≤ 1000) : Cn mX9_turns false 4 0 0 [.ref 23, .int (nI dg), .int (nI sk), .int (nI fa), .int (nI re), .int (nI ru), .int (nI ho)] (W0 d L) (fun v h => v = some (.int (bI (tn F.2.1 dg sk fa re ru ho))) ∧ ∃ d', h = W0 d' L ∧ sm [40, 70] d d') := by
  obtain ⟨-, -, -, -, -, -, hR, -⟩ := H
  refine Cn.intro gX9_turns rfl (Nat.le_of_ble_eq_true rfl) rfl ?_
  repeat refine x_s rfl rfl ?_
  refine x_br rfl rfl (fun c => ?_) (fun c => ?_)
  · have hd : 0 < dg := by
      rcases Nat.eq_zero_or_pos dg with h | h
      · subst h
        exact absurd c (by decide)
      · exact h
    repeat refine x_s rfl rfl ?_
    cases hg : F.2.1 with
    | none =>
      rw [hg] at hR
      have hR' : d 38 0 = 0 := hR
      refine x_br rfl rfl (fun c => absurd c (fun z => z hR')) (fun c => ?_)
      repeat refine x_s rfl rfl ?_
      refine x_br rfl rfl (fun c1 => ?_) (fun c1 => ?_)
      · repeat refine x_s rfl rfl ?_
        refine x_iret rfl rfl rfl ⟨congrArg (fun z => some (Value.int z)) ?_, ⟨d, rfl, sm_rfl⟩⟩
        have e : ¬ fa ≤ re := fun z => absurd c1 (nI_nlt z (by omega))
        simp [bI, tn, e]
      · repeat refine x_s rfl rfl ?_
        have e : fa ≤ re := by
          rcases Nat.lt_or_ge re fa with h | h
          · exact absurd (nI_lt h (by omega)) c1
          · exact h
        refine x_br rfl rfl (fun c2 => ?_) (fun c2 => ?_)
        · repeat refine x_s rfl rfl ?_
          refine x_iret rfl rfl rfl ⟨congrArg (fun z => some (Value.int z)) ?_, ⟨d, rfl, sm_rfl⟩⟩
          have e2 : ¬ ru < dg := fun z => absurd c2 (nI_ge z (by omega))
          simp [bI, tn, e2]
        · repeat refine x_s rfl rfl ?_
          refine x_iret rfl rfl rfl ⟨congrArg (fun z => some (Value.int z)) ?_, ⟨d, rfl, sm_rfl⟩⟩
          have e2 : ru < dg := by
            rcases Nat.lt_or_ge ru dg with h | h
            · exact h
            · exact absurd (nI_le h (by omega)) c2
          simp [bI, tn, e, e2, hd]
    | some g =>
      rw [hg] at hR
      obtain ⟨T, t1, t2, t3, t4, t5, t6⟩ := hR
      refine x_br rfl rfl (fun c => ?_) (fun c => absurd c (fun z => nI_ne0 t1 (by omega) (t3.symm.trans z)))
      repeat refine x_s rfl rfl ?_
      refine x_iast rfl rfl (k := 0) (rfl) (by omega) (by decide) rfl ?_
      repeat refine x_s rfl rfl ?_
      refine x_iast rfl rfl (k := 1) (rfl) (by omega) (by decide) rfl ?_
      repeat refine x_s rfl rfl ?_
      refine x_iast rfl rfl (k := 2) (rfl) (by omega) (by decide) rfl ?_
      repeat refine x_s rfl rfl ?_
      refine x_iast rfl rfl (k := 3) (rfl) (by omega) (by decide) rfl ?_
      repeat refine x_s rfl rfl ?_
      refine x_iast rfl rfl (k := 4) (rfl) (by omega) (by decide) rfl ?_
      repeat refine x_s rfl rfl ?_
      refine x_iast rfl rfl (k := 5) (rfl) (by omega) (by decide) rfl ?_
      repeat refine x_s rfl rfl ?_
      refine x_cv (c_run38 _ L T t3 t2 t4 t5) rfl rfl rfl (by decide) rfl (by decide) rfl (Nat.le_of_ble_eq_true rfl) (by decide) (by decide) (by decide) ?_
      rintro _ _ ⟨rfl, f, rfl⟩
      have e : evA (vlA (up2 (up2 (up2 (up2 (up2 (up2 d 70 0 (nI dg)) 70 1 (nI sk)) 70 2 (nI fa)) 70 3 (nI re)) 70 4 (nI ru)) 70 5 (nI ho)) 70 6) T 0 (fun _ => 0) = g (vt dg sk fa re ru ho) := by
        refine (t6 _).trans (g_ext t6 ?_)
        intro i hi
        rcases (by omega : i = 0 ∨ i = 1 ∨ i = 2 ∨ i = 3 ∨ i = 4 ∨ i = 5) with rfl | rfl | rfl | rfl | rfl | rfl <;> rfl
      rw [e]
      have hs : sm [40, 70] d (upC (up2 (up2 (up2 (up2 (up2 (up2 d 70 0 (nI dg)) 70 1 (nI sk)) 70 2 (nI fa)) 70 3 (nI re)) 70 4 (nI ru)) 70 5 (nI ho)) 40 f) := sm_uC (sm_up (sm_up (sm_up (sm_up (sm_up (sm_up sm_rfl (by decide)) (by decide)) (by decide)) (by decide)) (by decide)) (by decide)) (by decide)
      refine x_br rfl rfl (fun c1 => ?_) (fun c1 => ?_)
      · repeat refine x_s rfl rfl ?_
        refine x_iret rfl rfl rfl ⟨congrArg (fun z => some (Value.int z)) ?_, ⟨_, rfl, hs⟩⟩
        simp [bI, tn, hd, Int32.not_lt.mpr c1]
      · repeat refine x_s rfl rfl ?_
        refine x_iret rfl rfl rfl ⟨congrArg (fun z => some (Value.int z)) ?_, ⟨_, rfl, hs⟩⟩
        simp [bI, tn, hd, Int32.not_le.mp c1]
  · have hd : dg = 0 := by
      rcases Nat.eq_zero_or_pos dg with h | h
      · exact h
      · exact absurd (nI_lt (a := 0) h (by omega)) c
    repeat refine x_s rfl rfl ?_
    refine x_iret rfl rfl rfl ⟨congrArg (fun z => some (Value.int z)) ?_, ⟨d, rfl, sm_rfl⟩⟩
    simp [bI, tn, hd]
theorem far_le (R : RG F) {n p : Nat} (hn : n < F.1 4 0) (hp : p < F.1 0 0) : far F n p ≤ 40 := by
  have r4 := R.2.2.2.1 p hp
  have r5 := R.2.2.2.2.1 n hn
  have h1 := dif_le (a := F.1 1 p) (b := F.1 5 n) (m := 40) (by omega) (by omega)
  have h2 := dif_le (a := F.1 2 p) (b := F.1 6 n) (m := 40) (by omega) (by omega)
  unfold far
  split <;> omega
set_option maxRecDepth 100000 in
set_option maxHeartbeats 8000000 in
theorem c_hearsLie (H : HC d F) (R : RG F) {n p dg ho : Nat} (hn : n < F.1 4 0) (hp : p < F.1 0 0) (hd : dg ≤ 1000) : Cn mX9_hearsLie false 5 0 0 [.ref 23, .int (nI n), .int (nI p), .int (nI dg), .int (nI ho)] (W0 d L) (fun v h => v = some (.int (bI (hl F n p dg ho))) ∧ ∃ d', h = W0 d' L ∧ sm [40, 70] d d') := by
  have r4 := R.2.2.2.1 p hp
  have r5 := R.2.2.2.2.1 n hn
  have r1 := R.1
  have r2 := R.2.1
  have h3 := H.2.2.2.1 p hp
  have h4 := H.2.2.2.2.1 n hn
  have hf := far_le R hn hp
  refine Cn.intro gX9_hearsLie rfl (Nat.le_of_ble_eq_true rfl) rfl ?_
  repeat refine x_s rfl rfl ?_
  refine x_ald rfl rfl rfl (k := p) (rfl) (by omega) (by decide) rfl ?_
  repeat refine x_s rfl rfl ?_
  refine x_cv (c_farBetween d L H R hn hp) rfl rfl rfl (by decide) rfl (by decide) rfl (Nat.le_of_ble_eq_true rfl) (by decide) (by decide) (by decide) ?_
  rintro _ _ ⟨rfl, rfl⟩
  repeat refine x_s rfl rfl ?_
  refine x_ald rfl rfl rfl (k := n) (rfl) (by omega) (by decide) rfl ?_
  repeat refine x_s rfl rfl ?_
  refine x_ald rfl rfl rfl (k := n) (rfl) (by omega) (by decide) rfl ?_
  repeat refine x_s rfl rfl ?_
  rw [h3.2.2, h4.2.2.1, h4.2.2.2]
  refine x_cv (c_turns d L H (dg := dg) (sk := F.1 3 p) (fa := far F n p) (re := F.1 7 n) (ru := F.1 8 n) (ho := ho) hd (by omega) (by omega) (by omega)) rfl rfl rfl (by decide) rfl (by decide) rfl (Nat.le_of_ble_eq_true rfl) (by decide) (by decide) (by decide) ?_
  rintro _ _ ⟨rfl, d', rfl, hs⟩
  exact x_iret rfl rfl (nar_b _) ⟨rfl, d', rfl, hs⟩
end
