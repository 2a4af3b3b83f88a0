/-! THE LAW'S OTHER CASES -/
theorem SAm {d d1 : Nat → Nat → Int32} (h : sm SA d d1) : ∀ c, 112 ≤ c → d1 c = d c := fun c hc => h c (by
  simp only [SA, SR, List.mem_cons, List.mem_append, List.not_mem_nil, or_false, List.cons_append, List.nil_append]
  omega)
theorem kN_le {n : Nat} (h : n ≤ 40) : kN n ≤ 40 := by
  unfold kN
  split <;> omega
theorem by0_lt (x : Int32) (s : Nat) : by0 x s < 256 := by
  obtain ⟨j, hj, e⟩ := pk_andE (x >>> (nI s &&& 31)) (m := 255) 8 rfl
  unfold by0
  rw [e]
  show (BitVec.ofNat 32 j).toNat < 256
  rw [BitVec.toNat_ofNat]
  have : j % 2 ^ 32 ≤ j := Nat.mod_le _ _
  omega
theorem pu_lt {n : Nat} {T : Nat → Nat} (h : ∀ j, T j < 256) (x : Int32) : ∀ j, pu n T x j < 256 := by
  intro j
  unfold pu
  split
  · exact by0_lt _ _
  · split
    · exact by0_lt _ _
    · split
      · exact by0_lt _ _
      · split
        · exact by0_lt _ _
        · exact h j
theorem fd_lt {n : Nat} {T : Nat → Nat} (h : ∀ j, T j < 256) (a b u e g : Int32) : ∀ j, fd n T a b u e g j < 256 := pu_lt (pu_lt (pu_lt (pu_lt (pu_lt h _) _) _) _) _
theorem RZ_sZ {F : Fr} {Z : Sn} (h : RZ F Z) {n k : Nat} {v : Int32} (h8 : Z.1 < 8) (hn : n < F.1 4 0) (hk : k < 100) : RZ F (sZ Z n k v) := by
  refine ⟨show Z.1 + 1 ≤ 8 by omega, fun i hi => ?_⟩
  have hi' : i < Z.1 + 1 := hi
  show (if i = Z.1 then n else Z.2.1 i) < F.1 4 0 ∧ (if i = Z.1 then k else Z.2.2.1 i) < 100
  by_cases e : i = Z.1
  · rw [if_pos e, if_pos e]
    exact ⟨hn, hk⟩
  · rw [if_neg e, if_neg e]
    exact h.2 i (by omega)
theorem and3 {a b c : Bool} (h : (a && (b && c)) = true) : a = true ∧ b = true ∧ c = true := by
  simpa [Bool.and_eq_true] using h
theorem and2 {a b : Bool} (h : (a && b) = true) : a = true ∧ b = true := by
  simpa [Bool.and_eq_true] using h
theorem phE (d : Nat → Nat → Int32) (L : Nat → Nat → Int64) (v : Int64) : ph (xpL (ph (W0 d L)) 145 0 v) = W0 d (fun c => up2 (fun c => L (pi1 c)) 145 0 v (pi1 c)) := by
  have h2 := ph_2 (W0 d L)
  show (SH, (ph (ph (W0 d L))).2.1, (fun c => up2 (fun c => L (pi1 c)) 145 0 v (pi1 c)), (ph (ph (W0 d L))).2.2.2) = _
  rw [h2]
set_option maxRecDepth 100000 in
set_option maxHeartbeats 1000000 in
theorem lw_feed {n j kc ks : Nat} {xs : Nat → Int32} {d : Nat → Nat → Int32} {L : Nat → Nat → Int64} (hj : j + 6 ≤ n) (hn : n ≤ 3072) (hI : LI d) (hkc : 6 ≤ kc) (hks : 36 ≤ ks) (K : ∀ d' L', LI d' → ExG (PhS n xs) false (mW []) false 70 (kc - 6) (ks - 36) 2675 (lk j) [] (W0 d' L') Qe Xe) : ExG (PhS n xs) false (mW []) false 70 kc ks 228 (lk j) [] (W0 d L) Qe Xe := by
  have hI0 := hI
  obtain ⟨F, nA, E, G, Z, m, T, I, a, b, c, jj⟩ := hI
  have a1 := a.1
  have a2 := a.2.1
  have a3 := a.2.2.1
  have a4 := a.2.2.2.1
  have a5 := a.2.2.2.2.1
  have c1 := c.1
  have c2 := c.2.1
  have c3 := c.2.2.1
  have c4 := c.2.2.2.1
  refine y_rows gC0 ?_
  refine y_s rfl rfl ?_
  refine y_s rfl rfl ?_
  refine y_s rfl rfl ?_
  refine y_s rfl rfl ?_
  refine y_s rfl rfl ?_
  refine y_sld rfl (nI_a1 j) (by omega) hn ?_
  refine y_s rfl rfl ?_
  refine y_s rfl rfl ?_
  refine y_s rfl rfl ?_
  refine y_s rfl rfl ?_
  refine y_sld rfl (nI_a2 j) (by omega) hn ?_
  refine y_s rfl rfl ?_
  refine y_s rfl rfl ?_
  refine y_s rfl rfl ?_
  refine y_s rfl rfl ?_
  refine y_sld rfl (nI_a3 j) (by omega) hn ?_
  refine y_s rfl rfl ?_
  refine y_s rfl rfl ?_
  refine y_s rfl rfl ?_
  refine y_s rfl rfl ?_
  refine y_sld rfl (nI_a4 j) (by omega) hn ?_
  refine y_s rfl rfl ?_
  refine y_s rfl rfl ?_
  refine y_s rfl rfl ?_
  refine y_s rfl rfl ?_
  refine y_sld rfl (nI_a5 j) (by omega) hn ?_
  refine y_cv (p_feed (d := d) (L := L) a5 c.2.2.2.2.1 _ _ _ _ _) rfl rfl rfl (by decide) rfl (by decide) rfl (Nat.le_of_ble_eq_true rfl) (by decide) (Nat.zero_le _) (Nat.zero_le _) ?_
  rintro v h' (⟨g, rfl, d1, rfl, s1, t1⟩ | ⟨g, rfl, rfl⟩)
  · have bb := IMm_sm b (fun c hc => s1 c (by simp only [List.mem_cons, List.not_mem_nil, or_false]; omega))
    refine y_s rfl rfl ?_
    refine y_s rfl rfl ?_
    refine y_s rfl rfl ?_
    refine y_s rfl rfl ?_
    refine y_s rfl rfl ?_
    refine y_sld rfl (nI_a1 j) (by omega) hn ?_
    refine y_s rfl rfl ?_
    refine y_s rfl rfl ?_
    refine y_s rfl rfl ?_
    refine y_s rfl rfl ?_
    refine y_sld rfl (nI_a2 j) (by omega) hn ?_
    refine y_s rfl rfl ?_
    refine y_s rfl rfl ?_
    refine y_s rfl rfl ?_
    refine y_s rfl rfl ?_
    refine y_sld rfl (nI_a3 j) (by omega) hn ?_
    refine y_s rfl rfl ?_
    refine y_s rfl rfl ?_
    refine y_s rfl rfl ?_
    refine y_s rfl rfl ?_
    refine y_sld rfl (nI_a4 j) (by omega) hn ?_
    refine y_s rfl rfl ?_
    refine y_s rfl rfl ?_
    refine y_s rfl rfl ?_
    refine y_s rfl rfl ?_
    refine y_sld rfl (nI_a5 j) (by omega) hn ?_
    refine y_cv (q_feed (d := d1) (L := L) bb.2.2.2.2.1 c.2.2.2.2.1 _ _ _ _ _) rfl rfl rfl (by decide) rfl (by decide) rfl (Nat.le_of_ble_eq_true rfl) (by decide) (Nat.zero_le _) (Nat.zero_le _) ?_
    rintro v h' (⟨g2, rfl, d2, rfl, e1, e2, e3, e4⟩ | ⟨g2, rfl, rfl⟩)
    · exact y_br rfl rfl (fun _ => y_rows ⟨rfl, trivial⟩ (y_room (by omega) (by omega) (K d2 _ (LI_feed a b c jj s1 t1 e1 e2 e4 g (fd_lt c.2.2.2.2.2.1 _ _ _ _ _))))) (fun z => absurd rfl z)
    · exact absurd g2 (by omega)
  · skip
    refine y_s rfl rfl ?_
    refine y_s rfl rfl ?_
    refine y_s rfl rfl ?_
    refine y_s rfl rfl ?_
    refine y_s rfl rfl ?_
    refine y_sld rfl (nI_a1 j) (by omega) hn ?_
    refine y_s rfl rfl ?_
    refine y_s rfl rfl ?_
    refine y_s rfl rfl ?_
    refine y_s rfl rfl ?_
    refine y_sld rfl (nI_a2 j) (by omega) hn ?_
    refine y_s rfl rfl ?_
    refine y_s rfl rfl ?_
    refine y_s rfl rfl ?_
    refine y_s rfl rfl ?_
    refine y_sld rfl (nI_a3 j) (by omega) hn ?_
    refine y_s rfl rfl ?_
    refine y_s rfl rfl ?_
    refine y_s rfl rfl ?_
    refine y_s rfl rfl ?_
    refine y_sld rfl (nI_a4 j) (by omega) hn ?_
    refine y_s rfl rfl ?_
    refine y_s rfl rfl ?_
    refine y_s rfl rfl ?_
    refine y_s rfl rfl ?_
    refine y_sld rfl (nI_a5 j) (by omega) hn ?_
    refine y_cv (q_feed (d := d) (L := L) b.2.2.2.2.1 c.2.2.2.2.1 _ _ _ _ _) rfl rfl rfl (by decide) rfl (by decide) rfl (Nat.le_of_ble_eq_true rfl) (by decide) (Nat.zero_le _) (Nat.zero_le _) ?_
    rintro v h' (⟨g2, rfl, d2, rfl, e1, e2, e3, e4⟩ | ⟨g2, rfl, rfl⟩)
    · exact absurd g2 (by omega)
    · exact y_br rfl rfl (fun _ => y_rows ⟨rfl, trivial⟩ (y_room (by omega) (by omega) (K _ _ (LI_x hI0 0)))) (fun z => absurd rfl z)
set_option maxRecDepth 100000 in
set_option maxHeartbeats 1000000 in
theorem lw_fault {n j kc ks : Nat} {xs : Nat → Int32} {d : Nat → Nat → Int32} {L : Nat → Nat → Int64} (hj : j + 6 ≤ n) (hn : n ≤ 3072) (hI : LI d) (hkc : 6 ≤ kc) (hks : 36 ≤ ks) (K : ∀ d' L', LI d' → ExG (PhS n xs) false (mW []) false 70 (kc - 6) (ks - 36) 2675 (lk j) [] (W0 d' L') Qe Xe) : ExG (PhS n xs) false (mW []) false 70 kc ks 357 (lk j) [] (W0 d L) Qe Xe := by
  have hI0 := hI
  obtain ⟨F, nA, E, G, Z, m, T, I, a, b, c, jj⟩ := hI
  have a1 := a.1
  have a2 := a.2.1
  have a3 := a.2.2.1
  have a4 := a.2.2.2.1
  have a5 := a.2.2.2.2.1
  have c1 := c.1
  have c2 := c.2.1
  have c3 := c.2.2.1
  have c4 := c.2.2.2.1
  refine y_rows gC2 ?_
  refine y_s rfl rfl ?_
  refine y_cv (p_fault (d := d) (L := L)) rfl rfl rfl (by decide) rfl (by decide) rfl (Nat.le_of_ble_eq_true rfl) (by decide) (Nat.zero_le _) (Nat.zero_le _) ?_
  rintro v h' ⟨rfl, rfl⟩
  refine y_s rfl rfl ?_
  refine y_cv (q_fault (d := d) (L := L)) rfl rfl rfl (by decide) rfl (by decide) rfl (Nat.le_of_ble_eq_true rfl) (by decide) (Nat.zero_le _) (Nat.zero_le _) ?_
  rintro v h' ⟨rfl, rfl⟩
  exact y_br rfl rfl (fun _ => y_rows ⟨rfl, trivial⟩ (y_room (by omega) (by omega) (K _ _ (LI_x hI0 0)))) (fun z => absurd jj.2.symm z)
set_option maxRecDepth 100000 in
set_option maxHeartbeats 1000000 in
theorem lw_side {n j kc ks : Nat} {xs : Nat → Int32} {d : Nat → Nat → Int32} {L : Nat → Nat → Int64} (hj : j + 6 ≤ n) (hn : n ≤ 3072) (hI : LI d) (hkc : 6 ≤ kc) (hks : 36 ≤ ks) (K : ∀ d' L', LI d' → ExG (PhS n xs) false (mW []) false 70 (kc - 6) (ks - 36) 2675 (lk j) [] (W0 d' L') Qe Xe) : ExG (PhS n xs) false (mW []) false 70 kc ks 834 (lk j) [] (W0 d L) Qe Xe := by
  have hI0 := hI
  obtain ⟨F, nA, E, G, Z, m, T, I, a, b, c, jj⟩ := hI
  have a1 := a.1
  have a2 := a.2.1
  have a3 := a.2.2.1
  have a4 := a.2.2.2.1
  have a5 := a.2.2.2.2.1
  have c1 := c.1
  have c2 := c.2.1
  have c3 := c.2.2.1
  have c4 := c.2.2.2.1
  refine y_rows gC10 ?_
  refine y_s rfl rfl ?_
  refine y_s rfl rfl ?_
  refine y_s rfl rfl ?_
  refine y_s rfl rfl ?_
  refine y_s rfl rfl ?_
  refine y_sld rfl (nI_a1 j) (by omega) hn ?_
  refine y_s rfl rfl ?_
  refine y_s rfl rfl ?_
  refine y_s rfl rfl ?_
  refine y_s rfl rfl ?_
  refine y_sld rfl (nI_a2 j) (by omega) hn ?_
  refine y_cv (p_side (d := d) (L := L) _ _) rfl rfl rfl (by decide) rfl (by decide) rfl (Nat.le_of_ble_eq_true rfl) (by decide) (Nat.zero_le _) (Nat.zero_le _) ?_
  rintro v h' ⟨rfl, rfl⟩
  refine y_s rfl rfl ?_
  refine y_s rfl rfl ?_
  refine y_s rfl rfl ?_
  refine y_s rfl rfl ?_
  refine y_s rfl rfl ?_
  refine y_sld rfl (nI_a1 j) (by omega) hn ?_
  refine y_s rfl rfl ?_
  refine y_s rfl rfl ?_
  refine y_s rfl rfl ?_
  refine y_s rfl rfl ?_
  refine y_sld rfl (nI_a2 j) (by omega) hn ?_
  refine y_cv (q_side (d := d) (L := L) _ _) rfl rfl rfl (by decide) rfl (by decide) rfl (Nat.le_of_ble_eq_true rfl) (by decide) (Nat.zero_le _) (Nat.zero_le _) ?_
  rintro v h' ⟨rfl, d2, rfl, m2, t2⟩
  exact y_br rfl rfl (fun _ => y_rows ⟨rfl, trivial⟩ (y_room (by omega) (by omega) (K _ _ (LI_q hI0 sm_rfl m2)))) (fun z => absurd rfl z)
set_option maxRecDepth 100000 in
set_option maxHeartbeats 1000000 in
theorem lw_clash {n j kc ks : Nat} {xs : Nat → Int32} {d : Nat → Nat → Int32} {L : Nat → Nat → Int64} (hj : j + 6 ≤ n) (hn : n ≤ 3072) (hI : LI d) (hkc : 6 ≤ kc) (hks : 36 ≤ ks) (K : ∀ d' L', LI d' → ExG (PhS n xs) false (mW []) false 70 (kc - 6) (ks - 36) 2675 (lk j) [] (W0 d' L') Qe Xe) : ExG (PhS n xs) false (mW []) false 70 kc ks 1181 (lk j) [] (W0 d L) Qe Xe := by
  have hI0 := hI
  obtain ⟨F, nA, E, G, Z, m, T, I, a, b, c, jj⟩ := hI
  have a1 := a.1
  have a2 := a.2.1
  have a3 := a.2.2.1
  have a4 := a.2.2.2.1
  have a5 := a.2.2.2.2.1
  have c1 := c.1
  have c2 := c.2.1
  have c3 := c.2.2.1
  have c4 := c.2.2.2.1
  refine y_rows gC17 ?_
  refine y_s rfl rfl ?_
  refine y_cv (p_clash (d := d) (L := L) a1 c1 a2) rfl rfl rfl (by decide) rfl (by decide) rfl (Nat.le_of_ble_eq_true rfl) (by decide) (Nat.zero_le _) (Nat.zero_le _) ?_
  rintro v h' ⟨rfl, rfl⟩
  refine y_s rfl rfl ?_
  refine y_cv (q_clash (d := d) (L := L) b.1 c1) rfl rfl rfl (by decide) rfl (by decide) rfl (Nat.le_of_ble_eq_true rfl) (by decide) (Nat.zero_le _) (Nat.zero_le _) ?_
  rintro v h' ⟨rfl, d2, rfl, m2, t2⟩
  exact y_br rfl rfl (fun _ => y_rows ⟨rfl, trivial⟩ (y_room (by omega) (by omega) (K _ _ (LI_q hI0 sm_rfl m2)))) (fun z => absurd rfl z)
set_option maxRecDepth 100000 in
set_option maxHeartbeats 1000000 in
theorem lw_planted {n j kc ks : Nat} {xs : Nat → Int32} {d : Nat → Nat → Int32} {L : Nat → Nat → Int64} (hj : j + 6 ≤ n) (hn : n ≤ 3072) (hI : LI d) (hkc : 6 ≤ kc) (hks : 36 ≤ ks) (K : ∀ d' L', LI d' → ExG (PhS n xs) false (mW []) false 70 (kc - 6) (ks - 36) 2675 (lk j) [] (W0 d' L') Qe Xe) : ExG (PhS n xs) false (mW []) false 70 kc ks 1593 (lk j) [] (W0 d L) Qe Xe := by
  have hI0 := hI
  obtain ⟨F, nA, E, G, Z, m, T, I, a, b, c, jj⟩ := hI
  have a1 := a.1
  have a2 := a.2.1
  have a3 := a.2.2.1
  have a4 := a.2.2.2.1
  have a5 := a.2.2.2.2.1
  have c1 := c.1
  have c2 := c.2.1
  have c3 := c.2.2.1
  have c4 := c.2.2.2.1
  refine y_rows gC24 ?_
  refine y_s rfl rfl ?_
  refine y_cv (p_planted (d := d) (L := L) c1 a2 a4 c4) rfl rfl rfl (by decide) rfl (by decide) rfl (Nat.le_of_ble_eq_true rfl) (by decide) (Nat.zero_le _) (Nat.zero_le _) ?_
  rintro v h' ⟨rfl, rfl⟩
  refine y_s rfl rfl ?_
  refine y_cv (q_planted (d := d) (L := L) b.1 c1 b.2.2.2.1 c4) rfl rfl rfl (by decide) rfl (by decide) rfl (Nat.le_of_ble_eq_true rfl) (by decide) (Nat.zero_le _) (Nat.zero_le _) ?_
  rintro v h' ⟨rfl, d2, rfl, m2, t2⟩
  exact y_br rfl rfl (fun _ => y_rows ⟨rfl, trivial⟩ (y_room (by omega) (by omega) (K _ _ (LI_q hI0 sm_rfl m2)))) (fun z => absurd rfl z)
set_option maxRecDepth 100000 in
set_option maxHeartbeats 1000000 in
theorem lw_truest {n j kc ks : Nat} {xs : Nat → Int32} {d : Nat → Nat → Int32} {L : Nat → Nat → Int64} (hj : j + 6 ≤ n) (hn : n ≤ 3072) (hI : LI d) (hkc : 6 ≤ kc) (hks : 36 ≤ ks) (K : ∀ d' L', LI d' → ExG (PhS n xs) false (mW []) false 70 (kc - 6) (ks - 36) 2675 (lk j) [] (W0 d' L') Qe Xe) : ExG (PhS n xs) false (mW []) false 70 kc ks 2526 (lk j) [] (W0 d L) Qe Xe := by
  have hI0 := hI
  obtain ⟨F, nA, E, G, Z, m, T, I, a, b, c, jj⟩ := hI
  have a1 := a.1
  have a2 := a.2.1
  have a3 := a.2.2.1
  have a4 := a.2.2.2.1
  have a5 := a.2.2.2.2.1
  have c1 := c.1
  have c2 := c.2.1
  have c3 := c.2.2.1
  have c4 := c.2.2.2.1
  refine y_rows gC38 ?_
  refine y_s rfl rfl ?_
  refine y_cv (p_truest (d := d) (L := L) a1 c1 a2) rfl rfl rfl (by decide) rfl (by decide) rfl (Nat.le_of_ble_eq_true rfl) (by decide) (Nat.zero_le _) (Nat.zero_le _) ?_
  rintro v h' ⟨rfl, rfl⟩
  refine y_s rfl rfl ?_
  refine y_cv (q_truest (d := d) (L := L) b.1 c1) rfl rfl rfl (by decide) rfl (by decide) rfl (Nat.le_of_ble_eq_true rfl) (by decide) (Nat.zero_le _) (Nat.zero_le _) ?_
  rintro v h' ⟨rfl, d2, rfl, m2, t2⟩
  exact y_br rfl rfl (fun _ => y_rows ⟨rfl, trivial⟩ (y_room (by omega) (by omega) (K _ _ (LI_q hI0 sm_rfl m2)))) (fun z => absurd rfl z)
set_option maxRecDepth 100000 in
set_option maxHeartbeats 1000000 in
theorem lw_back {n j kc ks : Nat} {xs : Nat → Int32} {d : Nat → Nat → Int32} {L : Nat → Nat → Int64} (hj : j + 6 ≤ n) (hn : n ≤ 3072) (hI : LI d) (hkc : 6 ≤ kc) (hks : 36 ≤ ks) (K : ∀ d' L', LI d' → ExG (PhS n xs) false (mW []) false 70 (kc - 6) (ks - 36) 2675 (lk j) [] (W0 d' L') Qe Xe) : ExG (PhS n xs) false (mW []) false 70 kc ks 1007 (lk j) [] (W0 d L) Qe Xe := by
  have hI0 := hI
  obtain ⟨F, nA, E, G, Z, m, T, I, a, b, c, jj⟩ := hI
  have a1 := a.1
  have a2 := a.2.1
  have a3 := a.2.2.1
  have a4 := a.2.2.2.1
  have a5 := a.2.2.2.2.1
  have c1 := c.1
  have c2 := c.2.1
  have c3 := c.2.2.1
  have c4 := c.2.2.2.1
  refine y_rows gC13 ?_
  refine y_s rfl rfl ?_
  refine y_cv (p_back (d := d) (L := L) a1 c1 a3 c2) rfl rfl rfl (by decide) rfl (by decide) rfl (Nat.le_of_ble_eq_true rfl) (by decide) (Nat.zero_le _) (Nat.zero_le _) ?_
  rintro v h' (⟨g, rfl, d1, rfl, s1, hc, hw, ha⟩ | ⟨g, rfl, rfl⟩)
  · have bb := IMm_sm b (SAm s1)
    refine y_s rfl rfl ?_
    refine y_cv (q_back (d := d1) (L := L) bb.1 c1 bb.2.1 c2 bb.2.2.1 c3.1) rfl rfl rfl (by decide) rfl (by decide) rfl (Nat.le_of_ble_eq_true rfl) (by decide) (Nat.zero_le _) (Nat.zero_le _) ?_
    rintro v h' (⟨g2, rfl, d2, rfl, ma, t0, t43, hb, hg⟩ | ⟨g2, rfl, rfl⟩)
    · exact y_br rfl rfl (fun _ => y_rows ⟨rfl, trivial⟩ (y_room (by omega) (by omega) (K _ _ (LI_chg a b c jj s1 hc hw ha ma t43 hb hg (RG_bk c1) (kN_le c2) sF0_bk (CHn_act c3 c2 c1 sF0_bk (vE_bk g c1.2.2.1) (rv_bk g)))))) (fun z => absurd rfl z)
    · exact absurd g2 (by omega)
  · have bb := IMm_sm (d' := up2 d 0 16 (d 0 16 + 1)) b (fun c hc => up2_ne (by omega))
    refine y_s rfl rfl ?_
    refine y_cv (q_back (d := up2 d 0 16 (d 0 16 + 1)) (L := L) bb.1 c1 bb.2.1 c2 bb.2.2.1 c3.1) rfl rfl rfl (by decide) rfl (by decide) rfl (Nat.le_of_ble_eq_true rfl) (by decide) (Nat.zero_le _) (Nat.zero_le _) ?_
    rintro v h' (⟨g2, rfl, d2, rfl, ma, t0, t43, hb, hg⟩ | ⟨g2, rfl, rfl⟩)
    · exact absurd g2 (by omega)
    · exact y_br rfl rfl (fun _ => y_rows ⟨rfl, trivial⟩ (y_room (by omega) (by omega) (K _ _ (LI_fail (k := 1) hI0 (by decide))))) (fun z => absurd rfl z)
set_option maxRecDepth 100000 in
set_option maxHeartbeats 1000000 in
theorem lw_undo {n j kc ks : Nat} {xs : Nat → Int32} {d : Nat → Nat → Int32} {L : Nat → Nat → Int64} (hj : j + 6 ≤ n) (hn : n ≤ 3072) (hI : LI d) (hkc : 6 ≤ kc) (hks : 36 ≤ ks) (K : ∀ d' L', LI d' → ExG (PhS n xs) false (mW []) false 70 (kc - 6) (ks - 36) 2675 (lk j) [] (W0 d' L') Qe Xe) : ExG (PhS n xs) false (mW []) false 70 kc ks 1168 (lk j) [] (W0 d L) Qe Xe := by
  have hI0 := hI
  obtain ⟨F, nA, E, G, Z, m, T, I, a, b, c, jj⟩ := hI
  have a1 := a.1
  have a2 := a.2.1
  have a3 := a.2.2.1
  have a4 := a.2.2.2.1
  have a5 := a.2.2.2.2.1
  have c1 := c.1
  have c2 := c.2.1
  have c3 := c.2.2.1
  have c4 := c.2.2.2.1
  refine y_rows gC16 ?_
  have hG : 0 < nA → vE (E (nA - 1)) F.1 ∧ eqB (rv (E (nA - 1)) F.1) (G (nA - 1)) ∧ RG (G (nA - 1), F.2) := fun h => by
    have q := c3.2 (nA - 1) (by omega)
    rw [show nA - 1 + 1 = nA by omega, c3.1] at q
    exact ⟨q.1, q.2.1, q.2.2.1⟩
  refine y_s rfl rfl ?_
  refine y_cv (p_undo (d := d) (L := L) a1 c1 a3 c2 (G (nA - 1)) hG) rfl rfl rfl (by decide) rfl (by decide) rfl (Nat.le_of_ble_eq_true rfl) (by decide) (Nat.zero_le _) (Nat.zero_le _) ?_
  rintro v h' (⟨g, rfl, d1, rfl, s1, hc, hw, ha⟩ | ⟨g, rfl, rfl⟩)
  · have bb := IMm_sm b (SAm s1)
    refine y_s rfl rfl ?_
    refine y_cv (q_undo (d := d1) (L := L) bb.1 c1 bb.2.1 c2 bb.2.2.1 (fun j hj => (c3.2 j hj).2.2.2)) rfl rfl rfl (by decide) rfl (by decide) rfl (Nat.le_of_ble_eq_true rfl) (by decide) (Nat.zero_le _) (Nat.zero_le _) ?_
    rintro v h' (⟨g2, rfl, d2, rfl, ma, t0, t43, hb, hg⟩ | ⟨g2, rfl, rfl⟩)
    · exact y_br rfl rfl (fun _ => y_rows ⟨rfl, trivial⟩ (y_room (by omega) (by omega) (K _ _ (LI_chg a b c jj s1 hc hw ha ma t43 hb hg (hG g).2.2 (by omega) (c3.2 (nA - 1) (by omega)).2.2.2 (CHn_undo c3 g))))) (fun z => absurd rfl z)
    · exact absurd g2 (by omega)
  · skip
    refine y_s rfl rfl ?_
    refine y_cv (q_undo (d := d) (L := L) b.1 c1 b.2.1 c2 b.2.2.1 (fun j hj => (c3.2 j hj).2.2.2)) rfl rfl rfl (by decide) rfl (by decide) rfl (Nat.le_of_ble_eq_true rfl) (by decide) (Nat.zero_le _) (Nat.zero_le _) ?_
    rintro v h' (⟨g2, rfl, d2, rfl, ma, t0, t43, hb, hg⟩ | ⟨g2, rfl, rfl⟩)
    · exact absurd g2 (by omega)
    · exact y_br rfl rfl (fun _ => y_rows ⟨rfl, trivial⟩ (y_room (by omega) (by omega) (K _ _ (LI_x hI0 0)))) (fun z => absurd rfl z)
set_option maxRecDepth 100000 in
set_option maxHeartbeats 1000000 in
theorem lw_forget {n j kc ks : Nat} {xs : Nat → Int32} {d : Nat → Nat → Int32} {L : Nat → Nat → Int64} (hj : j + 6 ≤ n) (hn : n ≤ 3072) (hI : LI d) (hkc : 6 ≤ kc) (hks : 36 ≤ ks) (K : ∀ d' L', LI d' → ExG (PhS n xs) false (mW []) false 70 (kc - 6) (ks - 36) 2675 (lk j) [] (W0 d' L') Qe Xe) : ExG (PhS n xs) false (mW []) false 70 kc ks 1582 (lk j) [] (W0 d L) Qe Xe := by
  have hI0 := hI
  obtain ⟨F, nA, E, G, Z, m, T, I, a, b, c, jj⟩ := hI
  have a1 := a.1
  have a2 := a.2.1
  have a3 := a.2.2.1
  have a4 := a.2.2.2.1
  have a5 := a.2.2.2.2.1
  have c1 := c.1
  have c2 := c.2.1
  have c3 := c.2.2.1
  have c4 := c.2.2.2.1
  refine y_rows gC23 ?_
  refine y_s rfl rfl ?_
  refine y_cv (p_forget (d := d) (L := L)) rfl rfl rfl (by decide) rfl (by decide) rfl (Nat.le_of_ble_eq_true rfl) (by decide) (Nat.zero_le _) (Nat.zero_le _) ?_
  rintro v h' ⟨rfl, rfl⟩
  refine y_s rfl rfl ?_
  refine y_cv (q_forget (d := up2 d 86 0 0) (L := L)) rfl rfl rfl (by decide) rfl (by decide) rfl (Nat.le_of_ble_eq_true rfl) (by decide) (Nat.zero_le _) (Nat.zero_le _) ?_
  rintro v h' ⟨rfl, rfl⟩
  refine y_s rfl rfl ?_
  refine y_rows ⟨rfl, trivial⟩ (y_room (by omega) (by omega) (K _ _ (LI_see (Z' := (0, fun _ => 0, fun _ => 0, fun _ => 0)) (d1 := up2 d 86 0 0) a b c jj (sm_up sm_rfl (by decide)) ⟨rfl, fun i hi => absurd hi (Nat.not_lt_zero _)⟩ (fun c h1 h2 => ?_) (fun k h1 h2 => ?_) ⟨rfl, fun i hi => absurd hi (Nat.not_lt_zero _)⟩ ⟨Nat.zero_le _, fun i hi => absurd hi (Nat.not_lt_zero _)⟩)))
  · rw [up2_ne h1, up2_ne h1]
  · rw [up2_k h2, up2_k h1]
set_option maxRecDepth 100000 in
set_option maxHeartbeats 1000000 in
theorem lw_image {n j kc ks : Nat} {xs : Nat → Int32} {d : Nat → Nat → Int32} {L : Nat → Nat → Int64} (hj : j + 6 ≤ n) (hn : n ≤ 3072) (hI : LI d) (hkc : 6 ≤ kc) (hks : 36 ≤ ks) (K : ∀ d' L', LI d' → ExG (PhS n xs) false (mW []) false 70 (kc - 6) (ks - 36) 2675 (lk j) [] (W0 d' L') Qe Xe) : ExG (PhS n xs) false (mW []) false 70 kc ks 2651 (lk j) [] (W0 d L) Qe Xe := by
  have hI0 := hI
  obtain ⟨F, nA, E, G, Z, m, T, I, a, b, c, jj⟩ := hI
  have a1 := a.1
  have a2 := a.2.1
  have a3 := a.2.2.1
  have a4 := a.2.2.2.1
  have a5 := a.2.2.2.2.1
  have c1 := c.1
  have c2 := c.2.1
  have c3 := c.2.2.1
  have c4 := c.2.2.2.1
  refine y_rows gC41 ?_
  refine y_s rfl rfl ?_
  refine y_cv (p_image (d := d) (L := L) a1 c1 a3 c2 a4 c4) rfl rfl rfl (by decide) rfl (by decide) rfl (Nat.le_of_ble_eq_true rfl) (by decide) (Nat.zero_le _) (Nat.zero_le _) ?_
  rintro v h' ⟨rfl, d1, rfl, h1, h2, h3, h4, h5, h6⟩
  refine y_s rfl rfl ?_
  refine y_cv (q_image (d := d1) (L := L)) rfl rfl rfl (by decide) rfl (by decide) rfl (Nat.le_of_ble_eq_true rfl) (by decide) (Nat.zero_le _) (Nat.zero_le _) ?_
  rintro v h' ⟨rfl, d2, rfl, g1, g2, g0, g3, g4, g5, g6, g7, g8⟩
  refine y_s rfl rfl ?_
  exact y_rows ⟨rfl, trivial⟩ (y_room (by omega) (by omega) (K d2 _ (LI_image a b c jj h1 h2 h3 h4 h5 h6 g1 g2 g3 g4 g5 g6 g7 g8)))
set_option maxRecDepth 100000 in
set_option maxHeartbeats 1000000 in
theorem lw_restore {n j kc ks : Nat} {xs : Nat → Int32} {d : Nat → Nat → Int32} {L : Nat → Nat → Int64} (hj : j + 6 ≤ n) (hn : n ≤ 3072) (hI : LI d) (hkc : 6 ≤ kc) (hks : 36 ≤ ks) (K : ∀ d' L', LI d' → ExG (PhS n xs) false (mW []) false 70 (kc - 6) (ks - 36) 2675 (lk j) [] (W0 d' L') Qe Xe) : ExG (PhS n xs) false (mW []) false 70 kc ks 2662 (lk j) [] (W0 d L) Qe Xe := by
  have hI0 := hI
  obtain ⟨F, nA, E, G, Z, m, T, I, a, b, c, jj⟩ := hI
  have a1 := a.1
  have a2 := a.2.1
  have a3 := a.2.2.1
  have a4 := a.2.2.2.1
  have a5 := a.2.2.2.2.1
  have c1 := c.1
  have c2 := c.2.1
  have c3 := c.2.2.1
  have c4 := c.2.2.2.1
  refine y_rows gC42 ?_
  cases I with
  | none =>
    have a6 : d 0 13 = 0 := a.2.2.2.2.2
    have b6 : d 112 59 = 0 := b.2.2.2.2.2
    refine y_s rfl rfl ?_
    refine y_cv (p_restore0 (d := d) (L := L) a6) rfl rfl rfl (by decide) rfl (by decide) rfl (Nat.le_of_ble_eq_true rfl) (by decide) (Nat.zero_le _) (Nat.zero_le _) ?_
    rintro v h' ⟨rfl, rfl⟩
    refine y_s rfl rfl ?_
    refine y_cv (q_restore0 (d := d) (L := L) b6) rfl rfl rfl (by decide) rfl (by decide) rfl (Nat.le_of_ble_eq_true rfl) (by decide) (Nat.zero_le _) (Nat.zero_le _) ?_
    rintro v h' ⟨rfl, rfl⟩
    exact y_br rfl rfl (fun _ => y_rows ⟨rfl, trivial⟩ (y_room (by omega) (by omega) (K _ _ (LI_x hI0 0)))) (fun z => absurd rfl z)
  | some q =>
    obtain ⟨f, n', E', G', Z'⟩ := q
    obtain ⟨x1, x2, x3, x4⟩ := a.2.2.2.2.2
    obtain ⟨y1, y2, y3, y4, y5⟩ := c.2.2.2.2.2.2
    have z1 : d 112 59 = 1 := b.2.2.2.2.2.1
    refine y_s rfl rfl ?_
    refine y_cv (p_restore1 (d := d) (L := L) x1 a1 y1 ⟨y2.1, y2.2.1, y2.2.2.1, y2.2.2.2.1⟩ x2 x3 y3 x4 y5) rfl rfl rfl (by decide) rfl (by decide) rfl (Nat.le_of_ble_eq_true rfl) (by decide) (Nat.zero_le _) (Nat.zero_le _) ?_
    rintro v h' ⟨rfl, d1, rfl, s1, hc, hw, ha, hz⟩
    refine y_s rfl rfl ?_
    refine y_cv (q_restore1 (d := d1) (L := L) (by rw [s1 112 (by decide)]; exact z1)) rfl rfl rfl (by decide) rfl (by decide) rfl (Nat.le_of_ble_eq_true rfl) (by decide) (Nat.zero_le _) (Nat.zero_le _) ?_
    rintro v h' ⟨rfl, d2, rfl, g1, g2, g0, g4, g5, g6, g7, g8⟩
    exact y_br rfl rfl (fun _ => y_rows ⟨rfl, trivial⟩ (y_room (by omega) (by omega) (K d2 _ (LI_restore a b c jj s1 hc hw ha hz g1 g2 g4 g5 g6 g7 g8)))) (fun z => absurd rfl z)
set_option maxRecDepth 100000 in
set_option maxHeartbeats 1000000 in
theorem tl_tell {n j kc ks : Nat} {xs : Nat → Int32} {d : Nat → Nat → Int32} {L : Nat → Nat → Int64} {kk bb : Int32} (ht : d 112 0 = kk) (ho : kk = 0 → L 145 0 = bb.toInt64) (K : ExG (PhS n xs) false (mW []) false 70 kc ks 2675 (lk j) [] (W0 d L) Qe Xe) : ExG (PhS n xs) false (mW pC12) false 70 kc ks 974 (lk5 j kk none) [.int bb] (W0 d L) Qe Xe := by
  have K' : ∀ o6, ExG (PhS n xs) false (mW pC12) false 70 kc ks 1004 (lk5 j kk o6) [] (W0 d L) Qe Xe := fun o6 => by
    refine y_s rfl rfl ?_
    exact y_fl7 (y_rows ⟨rfl, trivial⟩ K)
  refine y_s rfl rfl ?_
  refine y_s rfl rfl ?_
  refine y_cv (k_thrown (d := d) (L := L)) rfl rfl rfl (by decide) rfl (by decide) rfl (by decide) (by decide) (Nat.zero_le _) (Nat.zero_le _) ?_
  rintro v h' ⟨rfl, rfl⟩
  refine y_s rfl rfl ?_
  refine y_br rfl rfl (fun _ => ?_) (fun c => absurd ht c)
  refine y_s rfl rfl ?_
  refine y_br rfl rfl (fun _ => K' _) (fun c => ?_)
  refine y_s rfl rfl ?_
  refine y_s rfl rfl ?_
  refine y_ald rfl rfl rfl (k := 0) rfl (by decide) (by decide) rfl ?_
  refine y_s rfl rfl ?_
  refine y_s rfl rfl ?_
  refine y_s rfl rfl ?_
  exact y_br rfl rfl (fun _ => K' _) (fun z => absurd (lcmp_e (ho c)) z)
set_option maxRecDepth 100000 in
set_option maxHeartbeats 1000000 in
theorem lw_tell {n j kc ks : Nat} {xs : Nat → Int32} {d : Nat → Nat → Int32} {L : Nat → Nat → Int64} (hj : j + 6 ≤ n) (hn : n ≤ 3072) (hI : LI d) (hkc : 6 ≤ kc) (hks : 36 ≤ ks) (K : ∀ d' L', LI d' → ExG (PhS n xs) false (mW []) false 70 (kc - 6) (ks - 36) 2675 (lk j) [] (W0 d' L') Qe Xe) : ExG (PhS n xs) false (mW []) false 70 kc ks 927 (lk j) [] (W0 d L) Qe Xe := by
  have hI0 := hI
  obtain ⟨F, nA, E, G, Z, m, T, I, a, b, c, jj⟩ := hI
  have a1 := a.1
  have a2 := a.2.1
  have a3 := a.2.2.1
  have a4 := a.2.2.2.1
  have a5 := a.2.2.2.2.1
  have c1 := c.1
  have c2 := c.2.1
  have c3 := c.2.2.1
  have c4 := c.2.2.2.1
  refine y_rows gC12 ?_
  refine y_s rfl rfl ?_
  refine y_s rfl rfl ?_
  refine y_s rfl rfl ?_
  refine y_s rfl rfl ?_
  refine y_s rfl rfl ?_
  refine y_sld rfl (nI_a1 j) (by omega) hn ?_
  refine y_s rfl rfl ?_
  refine y_s rfl rfl ?_
  refine y_s rfl rfl ?_
  refine y_s rfl rfl ?_
  refine y_sld rfl (nI_a2 j) (by omega) hn ?_
  refine y_s rfl rfl ?_
  refine y_s rfl rfl ?_
  refine y_s rfl rfl ?_
  refine y_s rfl rfl ?_
  refine y_sld rfl (nI_a3 j) (by omega) hn ?_
  refine y_s rfl rfl ?_
  refine y_ch (h_tell (p_tell (d := d) (L := L) a1 c1 a3 c2 _ _ _) rfl ?_ qT_X) rfl rfl rfl (by decide) (Nat.le_of_ble_eq_true rfl) (by decide) hkc hks ?_
  · rintro v h0 ⟨-, ⟨-, rfl, d', rfl, -⟩ | ⟨-, rfl, rfl⟩⟩ <;> exact ⟨⟨_, rfl⟩, rfl⟩
  rintro v h' (⟨x, h0, ⟨g, ⟨g1, e, d1, rfl, s1, hc, hw, ha⟩ | ⟨g1, e, rfl⟩⟩, rfl, rfl⟩ | ⟨k0, ⟨rfl, rfl, g⟩, rfl⟩)
  · cases e
    have bb := IMm_sm b (SAm s1)
    refine y_s rfl rfl ?_
    refine y_s rfl rfl ?_
    refine y_s rfl rfl ?_
    refine y_s rfl rfl ?_
    refine y_s rfl rfl ?_
    refine y_s rfl rfl ?_
    refine y_sld rfl (nI_a1 j) (by omega) hn ?_
    refine y_s rfl rfl ?_
    refine y_s rfl rfl ?_
    refine y_s rfl rfl ?_
    refine y_s rfl rfl ?_
    refine y_sld rfl (nI_a2 j) (by omega) hn ?_
    refine y_s rfl rfl ?_
    refine y_s rfl rfl ?_
    refine y_s rfl rfl ?_
    refine y_s rfl rfl ?_
    refine y_sld rfl (nI_a3 j) (by omega) hn ?_
    refine y_cv (q_tell (d := d1) (L := _) bb.1 c1 bb.2.1 c2 bb.2.2.1 c3.1 _ _ _) rfl rfl rfl (by decide) rfl (by decide) rfl (Nat.le_of_ble_eq_true rfl) (by decide) (Nat.zero_le _) (Nat.zero_le _) ?_
    rintro v h' (⟨w, rfl, rfl⟩ | ⟨w, ⟨w1, rfl, d2, rfl, ma, t0, t43, hb, hg⟩ | ⟨w1, rfl, rfl⟩⟩)
    · exact absurd (g.symm.trans w) (by decide)
    · exact tl_tell t0 (fun _ => rfl) (K d2 _ (LI_chg a b c jj s1 hc hw ha ma t43 hb hg (RG_tl c1 (of_decide_eq_true (and3 g1).1) (inB_iN (and3 g1).2.1).1 (inB_iN g).1 (Nat.le_of_lt_succ (inB_iN (and3 g1).2.2).1)) (kN_le c2) sF0_tl (CHn_act c3 c2 c1 sF0_tl (vE_tl (of_decide_eq_true (and3 g1).1)) rv_tl)))
    · exact absurd (g1.symm.trans w1) (by decide)
  · cases e
    have bb := IMm_sm (d' := up2 d 0 16 (d 0 16 + 1)) b (fun c hc => up2_ne (by omega))
    refine y_s rfl rfl ?_
    refine y_s rfl rfl ?_
    refine y_s rfl rfl ?_
    refine y_s rfl rfl ?_
    refine y_s rfl rfl ?_
    refine y_s rfl rfl ?_
    refine y_sld rfl (nI_a1 j) (by omega) hn ?_
    refine y_s rfl rfl ?_
    refine y_s rfl rfl ?_
    refine y_s rfl rfl ?_
    refine y_s rfl rfl ?_
    refine y_sld rfl (nI_a2 j) (by omega) hn ?_
    refine y_s rfl rfl ?_
    refine y_s rfl rfl ?_
    refine y_s rfl rfl ?_
    refine y_s rfl rfl ?_
    refine y_sld rfl (nI_a3 j) (by omega) hn ?_
    refine y_cv (q_tell (d := up2 d 0 16 (d 0 16 + 1)) (L := _) bb.1 c1 bb.2.1 c2 bb.2.2.1 c3.1 _ _ _) rfl rfl rfl (by decide) rfl (by decide) rfl (Nat.le_of_ble_eq_true rfl) (by decide) (Nat.zero_le _) (Nat.zero_le _) ?_
    rintro v h' (⟨w, rfl, rfl⟩ | ⟨w, ⟨w1, rfl, d2, rfl, ma, t0, t43, hb, hg⟩ | ⟨w1, rfl, rfl⟩⟩)
    · exact absurd (g.symm.trans w) (by decide)
    · exact absurd (g1.symm.trans w1) (by decide)
    · exact tl_tell rfl (fun _ => rfl) (K _ _ (LI_fail (k := 1) hI0 (by decide)))
  · skip
    refine y_s rfl rfl ?_
    refine y_s rfl rfl ?_
    refine y_s rfl rfl ?_
    refine y_s rfl rfl ?_
    refine y_s rfl rfl ?_
    refine y_s rfl rfl ?_
    refine y_sld rfl (nI_a1 j) (by omega) hn ?_
    refine y_s rfl rfl ?_
    refine y_s rfl rfl ?_
    refine y_s rfl rfl ?_
    refine y_s rfl rfl ?_
    refine y_sld rfl (nI_a2 j) (by omega) hn ?_
    refine y_s rfl rfl ?_
    refine y_s rfl rfl ?_
    refine y_s rfl rfl ?_
    refine y_s rfl rfl ?_
    refine y_sld rfl (nI_a3 j) (by omega) hn ?_
    refine y_cv (q_tell (d := d) (L := _) b.1 c1 b.2.1 c2 b.2.2.1 c3.1 _ _ _) rfl rfl rfl (by decide) rfl (by decide) rfl (Nat.le_of_ble_eq_true rfl) (by decide) (Nat.zero_le _) (Nat.zero_le _) ?_
    rintro v h' (⟨w, rfl, rfl⟩ | ⟨w, ⟨w1, rfl, d2, rfl, ma, t0, t43, hb, hg⟩ | ⟨w1, rfl, rfl⟩⟩)
    · exact tl_tell rfl (fun z => absurd z (by decide)) (K _ _ (LI_x hI0 1))
    · exact absurd (g.symm.trans w) (by decide)
    · exact absurd (g.symm.trans w) (by decide)
set_option maxRecDepth 100000 in
set_option maxHeartbeats 1000000 in
theorem tl_rust {n j kc ks : Nat} {xs : Nat → Int32} {d : Nat → Nat → Int32} {L : Nat → Nat → Int64} {kk bb : Int32} (ht : d 112 0 = kk) (ho : kk = 0 → L 145 0 = bb.toInt64) (K : ExG (PhS n xs) false (mW []) false 70 kc ks 2675 (lk j) [] (W0 d L) Qe Xe) : ExG (PhS n xs) false (mW pC14) false 70 kc ks 1055 (lk5 j kk none) [.int bb] (W0 d L) Qe Xe := by
  have K' : ∀ o6, ExG (PhS n xs) false (mW pC14) false 70 kc ks 1085 (lk5 j kk o6) [] (W0 d L) Qe Xe := fun o6 => by
    refine y_s rfl rfl ?_
    exact y_fl7 (y_rows ⟨rfl, trivial⟩ K)
  refine y_s rfl rfl ?_
  refine y_s rfl rfl ?_
  refine y_cv (k_thrown (d := d) (L := L)) rfl rfl rfl (by decide) rfl (by decide) rfl (by decide) (by decide) (Nat.zero_le _) (Nat.zero_le _) ?_
  rintro v h' ⟨rfl, rfl⟩
  refine y_s rfl rfl ?_
  refine y_br rfl rfl (fun _ => ?_) (fun c => absurd ht c)
  refine y_s rfl rfl ?_
  refine y_br rfl rfl (fun _ => K' _) (fun c => ?_)
  refine y_s rfl rfl ?_
  refine y_s rfl rfl ?_
  refine y_ald rfl rfl rfl (k := 0) rfl (by decide) (by decide) rfl ?_
  refine y_s rfl rfl ?_
  refine y_s rfl rfl ?_
  refine y_s rfl rfl ?_
  exact y_br rfl rfl (fun _ => K' _) (fun z => absurd (lcmp_e (ho c)) z)
set_option maxRecDepth 100000 in
set_option maxHeartbeats 1000000 in
theorem lw_rust {n j kc ks : Nat} {xs : Nat → Int32} {d : Nat → Nat → Int32} {L : Nat → Nat → Int64} (hj : j + 6 ≤ n) (hn : n ≤ 3072) (hI : LI d) (hkc : 6 ≤ kc) (hks : 36 ≤ ks) (K : ∀ d' L', LI d' → ExG (PhS n xs) false (mW []) false 70 (kc - 6) (ks - 36) 2675 (lk j) [] (W0 d' L') Qe Xe) : ExG (PhS n xs) false (mW []) false 70 kc ks 1020 (lk j) [] (W0 d L) Qe Xe := by
  have hI0 := hI
  obtain ⟨F, nA, E, G, Z, m, T, I, a, b, c, jj⟩ := hI
  have a1 := a.1
  have a2 := a.2.1
  have a3 := a.2.2.1
  have a4 := a.2.2.2.1
  have a5 := a.2.2.2.2.1
  have c1 := c.1
  have c2 := c.2.1
  have c3 := c.2.2.1
  have c4 := c.2.2.2.1
  refine y_rows gC14 ?_
  refine y_s rfl rfl ?_
  refine y_s rfl rfl ?_
  refine y_s rfl rfl ?_
  refine y_s rfl rfl ?_
  refine y_s rfl rfl ?_
  refine y_sld rfl (nI_a1 j) (by omega) hn ?_
  refine y_s rfl rfl ?_
  refine y_s rfl rfl ?_
  refine y_s rfl rfl ?_
  refine y_s rfl rfl ?_
  refine y_sld rfl (nI_a2 j) (by omega) hn ?_
  refine y_s rfl rfl ?_
  refine y_ch (h_rust (p_rust (d := d) (L := L) a1 c1 a3 c2 _ _) rfl ?_ qT_X) rfl rfl rfl (by decide) (Nat.le_of_ble_eq_true rfl) (by decide) hkc hks ?_
  · rintro v h0 ⟨-, ⟨-, rfl, d', rfl, -⟩ | ⟨-, rfl, rfl⟩⟩ <;> exact ⟨⟨_, rfl⟩, rfl⟩
  rintro v h' (⟨x, h0, ⟨g, ⟨g1, e, d1, rfl, s1, hc, hw, ha⟩ | ⟨g1, e, rfl⟩⟩, rfl, rfl⟩ | ⟨k0, ⟨rfl, rfl, g⟩, rfl⟩)
  · cases e
    have bb := IMm_sm b (SAm s1)
    refine y_s rfl rfl ?_
    refine y_s rfl rfl ?_
    refine y_s rfl rfl ?_
    refine y_s rfl rfl ?_
    refine y_s rfl rfl ?_
    refine y_s rfl rfl ?_
    refine y_sld rfl (nI_a1 j) (by omega) hn ?_
    refine y_s rfl rfl ?_
    refine y_s rfl rfl ?_
    refine y_s rfl rfl ?_
    refine y_s rfl rfl ?_
    refine y_sld rfl (nI_a2 j) (by omega) hn ?_
    refine y_cv (q_rust (d := d1) (L := _) bb.1 c1 bb.2.1 c2 bb.2.2.1 c3.1 _ _) rfl rfl rfl (by decide) rfl (by decide) rfl (Nat.le_of_ble_eq_true rfl) (by decide) (Nat.zero_le _) (Nat.zero_le _) ?_
    rintro v h' (⟨w, rfl, rfl⟩ | ⟨w, ⟨w1, rfl, d2, rfl, ma, t0, t43, hb, hg⟩ | ⟨w1, rfl, rfl⟩⟩)
    · exact absurd (g.symm.trans w) (by decide)
    · exact tl_rust t0 (fun _ => rfl) (K d2 _ (LI_chg a b c jj s1 hc hw ha ma t43 hb hg (RG_ru c1 (Nat.le_of_lt_succ (inB_iN g1).1)) (kN_le c2) sF0_ru (CHn_act c3 c2 c1 sF0_ru (vE_ru (inB_iN g).1 c1.2.1) rv_ru)))
    · exact absurd (g1.symm.trans w1) (by decide)
  · cases e
    have bb := IMm_sm (d' := up2 d 0 16 (d 0 16 + 1)) b (fun c hc => up2_ne (by omega))
    refine y_s rfl rfl ?_
    refine y_s rfl rfl ?_
    refine y_s rfl rfl ?_
    refine y_s rfl rfl ?_
    refine y_s rfl rfl ?_
    refine y_s rfl rfl ?_
    refine y_sld rfl (nI_a1 j) (by omega) hn ?_
    refine y_s rfl rfl ?_
    refine y_s rfl rfl ?_
    refine y_s rfl rfl ?_
    refine y_s rfl rfl ?_
    refine y_sld rfl (nI_a2 j) (by omega) hn ?_
    refine y_cv (q_rust (d := up2 d 0 16 (d 0 16 + 1)) (L := _) bb.1 c1 bb.2.1 c2 bb.2.2.1 c3.1 _ _) rfl rfl rfl (by decide) rfl (by decide) rfl (Nat.le_of_ble_eq_true rfl) (by decide) (Nat.zero_le _) (Nat.zero_le _) ?_
    rintro v h' (⟨w, rfl, rfl⟩ | ⟨w, ⟨w1, rfl, d2, rfl, ma, t0, t43, hb, hg⟩ | ⟨w1, rfl, rfl⟩⟩)
    · exact absurd (g.symm.trans w) (by decide)
    · exact absurd (g1.symm.trans w1) (by decide)
    · exact tl_rust rfl (fun _ => rfl) (K _ _ (LI_fail (k := 1) hI0 (by decide)))
  · skip
    refine y_s rfl rfl ?_
    refine y_s rfl rfl ?_
    refine y_s rfl rfl ?_
    refine y_s rfl rfl ?_
    refine y_s rfl rfl ?_
    refine y_s rfl rfl ?_
    refine y_sld rfl (nI_a1 j) (by omega) hn ?_
    refine y_s rfl rfl ?_
    refine y_s rfl rfl ?_
    refine y_s rfl rfl ?_
    refine y_s rfl rfl ?_
    refine y_sld rfl (nI_a2 j) (by omega) hn ?_
    refine y_cv (q_rust (d := d) (L := _) b.1 c1 b.2.1 c2 b.2.2.1 c3.1 _ _) rfl rfl rfl (by decide) rfl (by decide) rfl (Nat.le_of_ble_eq_true rfl) (by decide) (Nat.zero_le _) (Nat.zero_le _) ?_
    rintro v h' (⟨w, rfl, rfl⟩ | ⟨w, ⟨w1, rfl, d2, rfl, ma, t0, t43, hb, hg⟩ | ⟨w1, rfl, rfl⟩⟩)
    · exact tl_rust rfl (fun z => absurd z (by decide)) (K _ _ (LI_x hI0 1))
    · exact absurd (g.symm.trans w) (by decide)
    · exact absurd (g.symm.trans w) (by decide)
set_option maxRecDepth 100000 in
set_option maxHeartbeats 1000000 in
theorem tl_carry {n j kc ks : Nat} {xs : Nat → Int32} {d : Nat → Nat → Int32} {L : Nat → Nat → Int64} {kk bb : Int32} (ht : d 112 0 = kk) (ho : kk = 0 → L 145 0 = bb.toInt64) (K : ExG (PhS n xs) false (mW []) false 70 kc ks 2675 (lk j) [] (W0 d L) Qe Xe) : ExG (PhS n xs) false (mW pC15) false 70 kc ks 1135 (lk5 j kk none) [.int bb] (W0 d L) Qe Xe := by
  have K' : ∀ o6, ExG (PhS n xs) false (mW pC15) false 70 kc ks 1165 (lk5 j kk o6) [] (W0 d L) Qe Xe := fun o6 => by
    refine y_s rfl rfl ?_
    exact y_fl7 (y_rows ⟨rfl, trivial⟩ K)
  refine y_s rfl rfl ?_
  refine y_s rfl rfl ?_
  refine y_cv (k_thrown (d := d) (L := L)) rfl rfl rfl (by decide) rfl (by decide) rfl (by decide) (by decide) (Nat.zero_le _) (Nat.zero_le _) ?_
  rintro v h' ⟨rfl, rfl⟩
  refine y_s rfl rfl ?_
  refine y_br rfl rfl (fun _ => ?_) (fun c => absurd ht c)
  refine y_s rfl rfl ?_
  refine y_br rfl rfl (fun _ => K' _) (fun c => ?_)
  refine y_s rfl rfl ?_
  refine y_s rfl rfl ?_
  refine y_ald rfl rfl rfl (k := 0) rfl (by decide) (by decide) rfl ?_
  refine y_s rfl rfl ?_
  refine y_s rfl rfl ?_
  refine y_s rfl rfl ?_
  exact y_br rfl rfl (fun _ => K' _) (fun z => absurd (lcmp_e (ho c)) z)
set_option maxRecDepth 100000 in
set_option maxHeartbeats 1000000 in
theorem lw_carry {n j kc ks : Nat} {xs : Nat → Int32} {d : Nat → Nat → Int32} {L : Nat → Nat → Int64} (hj : j + 6 ≤ n) (hn : n ≤ 3072) (hI : LI d) (hkc : 6 ≤ kc) (hks : 36 ≤ ks) (K : ∀ d' L', LI d' → ExG (PhS n xs) false (mW []) false 70 (kc - 6) (ks - 36) 2675 (lk j) [] (W0 d' L') Qe Xe) : ExG (PhS n xs) false (mW []) false 70 kc ks 1088 (lk j) [] (W0 d L) Qe Xe := by
  have hI0 := hI
  obtain ⟨F, nA, E, G, Z, m, T, I, a, b, c, jj⟩ := hI
  have a1 := a.1
  have a2 := a.2.1
  have a3 := a.2.2.1
  have a4 := a.2.2.2.1
  have a5 := a.2.2.2.2.1
  have c1 := c.1
  have c2 := c.2.1
  have c3 := c.2.2.1
  have c4 := c.2.2.2.1
  refine y_rows gC15 ?_
  refine y_s rfl rfl ?_
  refine y_s rfl rfl ?_
  refine y_s rfl rfl ?_
  refine y_s rfl rfl ?_
  refine y_s rfl rfl ?_
  refine y_sld rfl (nI_a1 j) (by omega) hn ?_
  refine y_s rfl rfl ?_
  refine y_s rfl rfl ?_
  refine y_s rfl rfl ?_
  refine y_s rfl rfl ?_
  refine y_sld rfl (nI_a2 j) (by omega) hn ?_
  refine y_s rfl rfl ?_
  refine y_s rfl rfl ?_
  refine y_s rfl rfl ?_
  refine y_s rfl rfl ?_
  refine y_sld rfl (nI_a3 j) (by omega) hn ?_
  refine y_s rfl rfl ?_
  refine y_ch (h_carry (p_carry (d := d) (L := L) a1 c1 a3 c2 _ _ _) rfl ?_ qT_X) rfl rfl rfl (by decide) (Nat.le_of_ble_eq_true rfl) (by decide) hkc hks ?_
  · rintro v h0 ⟨-, ⟨-, rfl, d', rfl, -⟩ | ⟨-, rfl, rfl⟩⟩ <;> exact ⟨⟨_, rfl⟩, rfl⟩
  rintro v h' (⟨x, h0, ⟨g, ⟨g1, e, d1, rfl, s1, hc, hw, ha⟩ | ⟨g1, e, rfl⟩⟩, rfl, rfl⟩ | ⟨k0, ⟨rfl, rfl, g⟩, rfl⟩)
  · cases e
    have bb := IMm_sm b (SAm s1)
    refine y_s rfl rfl ?_
    refine y_s rfl rfl ?_
    refine y_s rfl rfl ?_
    refine y_s rfl rfl ?_
    refine y_s rfl rfl ?_
    refine y_s rfl rfl ?_
    refine y_sld rfl (nI_a1 j) (by omega) hn ?_
    refine y_s rfl rfl ?_
    refine y_s rfl rfl ?_
    refine y_s rfl rfl ?_
    refine y_s rfl rfl ?_
    refine y_sld rfl (nI_a2 j) (by omega) hn ?_
    refine y_s rfl rfl ?_
    refine y_s rfl rfl ?_
    refine y_s rfl rfl ?_
    refine y_s rfl rfl ?_
    refine y_sld rfl (nI_a3 j) (by omega) hn ?_
    refine y_cv (q_carry (d := d1) (L := _) bb.1 c1 bb.2.1 c2 bb.2.2.1 c3.1 _ _ _) rfl rfl rfl (by decide) rfl (by decide) rfl (Nat.le_of_ble_eq_true rfl) (by decide) (Nat.zero_le _) (Nat.zero_le _) ?_
    rintro v h' (⟨w, rfl, rfl⟩ | ⟨w, ⟨w1, rfl, d2, rfl, ma, t0, t43, hb, hg⟩ | ⟨w1, rfl, rfl⟩⟩)
    · exact absurd (g.symm.trans w) (by decide)
    · exact tl_carry t0 (fun _ => rfl) (K d2 _ (LI_chg a b c jj s1 hc hw ha ma t43 hb hg (RG_ca c1 (Nat.le_of_lt_succ (inB_iN (and2 g1).1).1) (Nat.le_of_lt_succ (inB_iN (and2 g1).2).1)) (kN_le c2) sF0_ca (CHn_act c3 c2 c1 sF0_ca (vE_ca (inB_iN g).1 c1.2.1) rv_ca)))
    · exact absurd (g1.symm.trans w1) (by decide)
  · cases e
    have bb := IMm_sm (d' := up2 d 0 16 (d 0 16 + 1)) b (fun c hc => up2_ne (by omega))
    refine y_s rfl rfl ?_
    refine y_s rfl rfl ?_
    refine y_s rfl rfl ?_
    refine y_s rfl rfl ?_
    refine y_s rfl rfl ?_
    refine y_s rfl rfl ?_
    refine y_sld rfl (nI_a1 j) (by omega) hn ?_
    refine y_s rfl rfl ?_
    refine y_s rfl rfl ?_
    refine y_s rfl rfl ?_
    refine y_s rfl rfl ?_
    refine y_sld rfl (nI_a2 j) (by omega) hn ?_
    refine y_s rfl rfl ?_
    refine y_s rfl rfl ?_
    refine y_s rfl rfl ?_
    refine y_s rfl rfl ?_
    refine y_sld rfl (nI_a3 j) (by omega) hn ?_
    refine y_cv (q_carry (d := up2 d 0 16 (d 0 16 + 1)) (L := _) bb.1 c1 bb.2.1 c2 bb.2.2.1 c3.1 _ _ _) rfl rfl rfl (by decide) rfl (by decide) rfl (Nat.le_of_ble_eq_true rfl) (by decide) (Nat.zero_le _) (Nat.zero_le _) ?_
    rintro v h' (⟨w, rfl, rfl⟩ | ⟨w, ⟨w1, rfl, d2, rfl, ma, t0, t43, hb, hg⟩ | ⟨w1, rfl, rfl⟩⟩)
    · exact absurd (g.symm.trans w) (by decide)
    · exact absurd (g1.symm.trans w1) (by decide)
    · exact tl_carry rfl (fun _ => rfl) (K _ _ (LI_fail (k := 1) hI0 (by decide)))
  · skip
    refine y_s rfl rfl ?_
    refine y_s rfl rfl ?_
    refine y_s rfl rfl ?_
    refine y_s rfl rfl ?_
    refine y_s rfl rfl ?_
    refine y_s rfl rfl ?_
    refine y_sld rfl (nI_a1 j) (by omega) hn ?_
    refine y_s rfl rfl ?_
    refine y_s rfl rfl ?_
    refine y_s rfl rfl ?_
    refine y_s rfl rfl ?_
    refine y_sld rfl (nI_a2 j) (by omega) hn ?_
    refine y_s rfl rfl ?_
    refine y_s rfl rfl ?_
    refine y_s rfl rfl ?_
    refine y_s rfl rfl ?_
    refine y_sld rfl (nI_a3 j) (by omega) hn ?_
    refine y_cv (q_carry (d := d) (L := _) b.1 c1 b.2.1 c2 b.2.2.1 c3.1 _ _ _) rfl rfl rfl (by decide) rfl (by decide) rfl (Nat.le_of_ble_eq_true rfl) (by decide) (Nat.zero_le _) (Nat.zero_le _) ?_
    rintro v h' (⟨w, rfl, rfl⟩ | ⟨w, ⟨w1, rfl, d2, rfl, ma, t0, t43, hb, hg⟩ | ⟨w1, rfl, rfl⟩⟩)
    · exact tl_carry rfl (fun z => absurd z (by decide)) (K _ _ (LI_x hI0 1))
    · exact absurd (g.symm.trans w) (by decide)
    · exact absurd (g.symm.trans w) (by decide)
set_option maxRecDepth 100000 in
set_option maxHeartbeats 1000000 in
theorem tl_see {n j kc ks : Nat} {xs : Nat → Int32} {d : Nat → Nat → Int32} {L : Nat → Nat → Int64} {kk bb : Int32} (ht : d 112 0 = kk) (ho : kk = 0 → L 145 0 = bb.toInt64) (K : ExG (PhS n xs) false (mW []) false 70 kc ks 2675 (lk j) [] (W0 d L) Qe Xe) : ExG (PhS n xs) false (mW pC22) false 70 kc ks 1549 (lk5 j kk none) [.int bb] (W0 d L) Qe Xe := by
  have K' : ∀ o6, ExG (PhS n xs) false (mW pC22) false 70 kc ks 1579 (lk5 j kk o6) [] (W0 d L) Qe Xe := fun o6 => by
    refine y_s rfl rfl ?_
    exact y_fl7 (y_rows ⟨rfl, trivial⟩ K)
  refine y_s rfl rfl ?_
  refine y_s rfl rfl ?_
  refine y_cv (k_thrown (d := d) (L := L)) rfl rfl rfl (by decide) rfl (by decide) rfl (by decide) (by decide) (Nat.zero_le _) (Nat.zero_le _) ?_
  rintro v h' ⟨rfl, rfl⟩
  refine y_s rfl rfl ?_
  refine y_br rfl rfl (fun _ => ?_) (fun c => absurd ht c)
  refine y_s rfl rfl ?_
  refine y_br rfl rfl (fun _ => K' _) (fun c => ?_)
  refine y_s rfl rfl ?_
  refine y_s rfl rfl ?_
  refine y_ald rfl rfl rfl (k := 0) rfl (by decide) (by decide) rfl ?_
  refine y_s rfl rfl ?_
  refine y_s rfl rfl ?_
  refine y_s rfl rfl ?_
  exact y_br rfl rfl (fun _ => K' _) (fun z => absurd (lcmp_e (ho c)) z)
set_option maxRecDepth 100000 in
set_option maxHeartbeats 1000000 in
theorem lw_see {n j kc ks : Nat} {xs : Nat → Int32} {d : Nat → Nat → Int32} {L : Nat → Nat → Int64} (hj : j + 6 ≤ n) (hn : n ≤ 3072) (hI : LI d) (hkc : 6 ≤ kc) (hks : 36 ≤ ks) (K : ∀ d' L', LI d' → ExG (PhS n xs) false (mW []) false 70 (kc - 6) (ks - 36) 2675 (lk j) [] (W0 d' L') Qe Xe) : ExG (PhS n xs) false (mW []) false 70 kc ks 1502 (lk j) [] (W0 d L) Qe Xe := by
  have hI0 := hI
  obtain ⟨F, nA, E, G, Z, m, T, I, a, b, c, jj⟩ := hI
  have a1 := a.1
  have a2 := a.2.1
  have a3 := a.2.2.1
  have a4 := a.2.2.2.1
  have a5 := a.2.2.2.2.1
  have c1 := c.1
  have c2 := c.2.1
  have c3 := c.2.2.1
  have c4 := c.2.2.2.1
  refine y_rows gC22 ?_
  refine y_s rfl rfl ?_
  refine y_s rfl rfl ?_
  refine y_s rfl rfl ?_
  refine y_s rfl rfl ?_
  refine y_s rfl rfl ?_
  refine y_sld rfl (nI_a1 j) (by omega) hn ?_
  refine y_s rfl rfl ?_
  refine y_s rfl rfl ?_
  refine y_s rfl rfl ?_
  refine y_s rfl rfl ?_
  refine y_sld rfl (nI_a2 j) (by omega) hn ?_
  refine y_s rfl rfl ?_
  refine y_s rfl rfl ?_
  refine y_s rfl rfl ?_
  refine y_s rfl rfl ?_
  refine y_sld rfl (nI_a3 j) (by omega) hn ?_
  refine y_s rfl rfl ?_
  refine y_ch (h_see (p_see (d := d) (L := L) a1 c1 a4 c4 _ _ _) rfl ?_ qT_X) rfl rfl rfl (by decide) (Nat.le_of_ble_eq_true rfl) (by decide) hkc hks ?_
  · rintro v h0 ⟨-, ⟨-, rfl, d', rfl, -⟩ | ⟨-, rfl, rfl⟩⟩ <;> exact ⟨⟨_, rfl⟩, rfl⟩
  rintro v h' (⟨x, h0, ⟨g, ⟨g1, e, d1, rfl, s1, hz⟩ | ⟨g1, e, rfl⟩⟩, rfl, rfl⟩ | ⟨k0, ⟨rfl, rfl, g⟩, rfl⟩)
  · cases e
    have bb := IMm_sm b (fun c hc => s1 c (by simp only [List.mem_cons, List.not_mem_nil, or_false]; omega))
    refine y_s rfl rfl ?_
    refine y_s rfl rfl ?_
    refine y_s rfl rfl ?_
    refine y_s rfl rfl ?_
    refine y_s rfl rfl ?_
    refine y_s rfl rfl ?_
    refine y_sld rfl (nI_a1 j) (by omega) hn ?_
    refine y_s rfl rfl ?_
    refine y_s rfl rfl ?_
    refine y_s rfl rfl ?_
    refine y_s rfl rfl ?_
    refine y_sld rfl (nI_a2 j) (by omega) hn ?_
    refine y_s rfl rfl ?_
    refine y_s rfl rfl ?_
    refine y_s rfl rfl ?_
    refine y_s rfl rfl ?_
    refine y_sld rfl (nI_a3 j) (by omega) hn ?_
    refine y_cv (q_see (d := d1) (L := _) bb.1 c1 bb.2.2.2.1 c4.1 _ _ _) rfl rfl rfl (by decide) rfl (by decide) rfl (Nat.le_of_ble_eq_true rfl) (by decide) (Nat.zero_le _) (Nat.zero_le _) ?_
    rintro v h' (⟨w, rfl, rfl⟩ | ⟨w, ⟨w1, rfl, d2, rfl, e1, e2, t0, e4⟩ | ⟨w1, rfl, rfl⟩⟩)
    · exact absurd (g.symm.trans w) (by decide)
    · exact tl_see t0 (fun _ => rfl) (K d2 _ (LI_see a b c jj s1 hz e1 e2 e4 (RZ_sZ c4 (of_decide_eq_true (and2 g1).1) (inB_iN (and2 g).1).1 (inB_iN (and2 g).2).1)))
    · exact absurd (g1.symm.trans w1) (by decide)
  · cases e
    have bb := IMm_sm (d' := up2 d 0 17 (d 0 17 + 1)) b (fun c hc => up2_ne (by omega))
    refine y_s rfl rfl ?_
    refine y_s rfl rfl ?_
    refine y_s rfl rfl ?_
    refine y_s rfl rfl ?_
    refine y_s rfl rfl ?_
    refine y_s rfl rfl ?_
    refine y_sld rfl (nI_a1 j) (by omega) hn ?_
    refine y_s rfl rfl ?_
    refine y_s rfl rfl ?_
    refine y_s rfl rfl ?_
    refine y_s rfl rfl ?_
    refine y_sld rfl (nI_a2 j) (by omega) hn ?_
    refine y_s rfl rfl ?_
    refine y_s rfl rfl ?_
    refine y_s rfl rfl ?_
    refine y_s rfl rfl ?_
    refine y_sld rfl (nI_a3 j) (by omega) hn ?_
    refine y_cv (q_see (d := up2 d 0 17 (d 0 17 + 1)) (L := _) bb.1 c1 bb.2.2.2.1 c4.1 _ _ _) rfl rfl rfl (by decide) rfl (by decide) rfl (Nat.le_of_ble_eq_true rfl) (by decide) (Nat.zero_le _) (Nat.zero_le _) ?_
    rintro v h' (⟨w, rfl, rfl⟩ | ⟨w, ⟨w1, rfl, d2, rfl, e1, e2, t0, e4⟩ | ⟨w1, rfl, rfl⟩⟩)
    · exact absurd (g.symm.trans w) (by decide)
    · exact absurd (g1.symm.trans w1) (by decide)
    · exact tl_see rfl (fun _ => rfl) (K _ _ (LI_fail (k := 2) hI0 (by decide)))
  · skip
    refine y_s rfl rfl ?_
    refine y_s rfl rfl ?_
    refine y_s rfl rfl ?_
    refine y_s rfl rfl ?_
    refine y_s rfl rfl ?_
    refine y_s rfl rfl ?_
    refine y_sld rfl (nI_a1 j) (by omega) hn ?_
    refine y_s rfl rfl ?_
    refine y_s rfl rfl ?_
    refine y_s rfl rfl ?_
    refine y_s rfl rfl ?_
    refine y_sld rfl (nI_a2 j) (by omega) hn ?_
    refine y_s rfl rfl ?_
    refine y_s rfl rfl ?_
    refine y_s rfl rfl ?_
    refine y_s rfl rfl ?_
    refine y_sld rfl (nI_a3 j) (by omega) hn ?_
    refine y_cv (q_see (d := d) (L := _) b.1 c1 b.2.2.2.1 c4.1 _ _ _) rfl rfl rfl (by decide) rfl (by decide) rfl (Nat.le_of_ble_eq_true rfl) (by decide) (Nat.zero_le _) (Nat.zero_le _) ?_
    rintro v h' (⟨w, rfl, rfl⟩ | ⟨w, ⟨w1, rfl, d2, rfl, e1, e2, t0, e4⟩ | ⟨w1, rfl, rfl⟩⟩)
    · exact tl_see rfl (fun z => absurd z (by decide)) (K _ _ (LI_x hI0 1))
    · exact absurd (g.symm.trans w) (by decide)
    · exact absurd (g.symm.trans w) (by decide)
set_option maxRecDepth 100000 in
set_option maxHeartbeats 1000000 in
theorem tl_fair {n j kc ks : Nat} {xs : Nat → Int32} {d : Nat → Nat → Int32} {L : Nat → Nat → Int64} {kk bb : Int32} (ht : d 112 0 = kk) (ho : kk = 0 → L 145 0 = bb.toInt64) (K : ExG (PhS n xs) false (mW []) false 70 kc ks 2675 (lk j) [] (W0 d L) Qe Xe) : ExG (PhS n xs) false (mW pC1) false 70 kc ks 324 (lk5 j kk none) [.int bb] (W0 d L) Qe Xe := by
  have K' : ∀ o6, ExG (PhS n xs) false (mW pC1) false 70 kc ks 354 (lk5 j kk o6) [] (W0 d L) Qe Xe := fun o6 => by
    refine y_s rfl rfl ?_
    exact y_fl7 (y_rows ⟨rfl, trivial⟩ K)
  refine y_s rfl rfl ?_
  refine y_s rfl rfl ?_
  refine y_cv (k_thrown (d := d) (L := L)) rfl rfl rfl (by decide) rfl (by decide) rfl (by decide) (by decide) (Nat.zero_le _) (Nat.zero_le _) ?_
  rintro v h' ⟨rfl, rfl⟩
  refine y_s rfl rfl ?_
  refine y_br rfl rfl (fun _ => ?_) (fun c => absurd ht c)
  refine y_s rfl rfl ?_
  refine y_br rfl rfl (fun _ => K' _) (fun c => ?_)
  refine y_s rfl rfl ?_
  refine y_s rfl rfl ?_
  refine y_ald rfl rfl rfl (k := 0) rfl (by decide) (by decide) rfl ?_
  refine y_s rfl rfl ?_
  refine y_s rfl rfl ?_
  refine y_s rfl rfl ?_
  exact y_br rfl rfl (fun _ => K' _) (fun z => absurd (lcmp_e (ho c)) z)
set_option maxRecDepth 100000 in
set_option maxHeartbeats 1000000 in
theorem lw_fair {n j kc ks : Nat} {xs : Nat → Int32} {d : Nat → Nat → Int32} {L : Nat → Nat → Int64} (hj : j + 6 ≤ n) (hn : n ≤ 3072) (hI : LI d) (hkc : 6 ≤ kc) (hks : 36 ≤ ks) (K : ∀ d' L', LI d' → ExG (PhS n xs) false (mW []) false 70 (kc - 6) (ks - 36) 2675 (lk j) [] (W0 d' L') Qe Xe) : ExG (PhS n xs) false (mW []) false 70 kc ks 301 (lk j) [] (W0 d L) Qe Xe := by
  have hI0 := hI
  obtain ⟨F, nA, E, G, Z, m, T, I, a, b, c, jj⟩ := hI
  have a1 := a.1
  have a2 := a.2.1
  have a3 := a.2.2.1
  have a4 := a.2.2.2.1
  have a5 := a.2.2.2.2.1
  have c1 := c.1
  have c2 := c.2.1
  have c3 := c.2.2.1
  have c4 := c.2.2.2.1
  refine y_rows gC1 ?_
  by_cases hx : xs (j + 1) < 0 ∨ nI m < xs (j + 1)
  · skip
    refine y_s rfl rfl ?_
    refine y_s rfl rfl ?_
    refine y_s rfl rfl ?_
    refine y_s rfl rfl ?_
    refine y_s rfl rfl ?_
    refine y_sld rfl (nI_a1 j) (by omega) hn ?_
    refine y_s rfl rfl ?_
    refine y_ch (h_fair (p_fairX (d := d) (L := L) hx a5.1 (fun _ _ => False)) rfl (fun _ _ h => h.elim) (fun _ _ h => h.1)) rfl rfl rfl (by decide) (Nat.le_of_ble_eq_true rfl) (by decide) (by omega) (by omega) ?_
    rintro v h' (⟨x, h0, hF, -⟩ | ⟨k0, ⟨rfl, rfl⟩, rfl⟩)
    · exact hF.elim
    refine y_s rfl rfl ?_
    refine y_s rfl rfl ?_
    refine y_s rfl rfl ?_
    refine y_s rfl rfl ?_
    refine y_s rfl rfl ?_
    refine y_s rfl rfl ?_
    refine y_sld rfl (nI_a1 j) (by omega) hn ?_
    refine y_cv (k_fairX (d := d) (L := L) hx b.2.2.2.2.1.1) rfl rfl rfl (by decide) rfl (by decide) rfl (Nat.le_of_ble_eq_true rfl) (by decide) (Nat.zero_le _) (Nat.zero_le _) ?_
    rintro v h' ⟨rfl, rfl⟩
    exact tl_fair rfl (fun z => absurd z (by decide)) (y_room (by omega) (by omega) (K _ _ (LI_x (LI_x hI0 0) 1)))
  · obtain ⟨q, hq, ex⟩ : ∃ q : Nat, q ≤ m ∧ xs (j + 1) = nI q := by
      have h1 : ¬ xs (j + 1) < 0 := fun z => hx (Or.inl z)
      have h2 : ¬ nI m < xs (j + 1) := fun z => hx (Or.inr z)
      have hm := c.2.2.2.2.1
      rw [Int32.lt_iff_toInt_lt] at h1 h2
      rw [nI_toI (by omega)] at h2
      have h3 : (0 : Int32).toInt = 0 := rfl
      rw [h3] at h1
      refine ⟨(xs (j + 1)).toInt.toNat, by omega, ?_⟩
      apply Int32.toInt_inj.mp
      rw [nI_toI (by omega)]
      omega
    refine y_s rfl rfl ?_
    refine y_s rfl rfl ?_
    refine y_s rfl rfl ?_
    refine y_s rfl rfl ?_
    refine y_s rfl rfl ?_
    refine y_sld rfl (nI_a1 j) (by omega) hn ?_
    rw [ex]
    refine y_s rfl rfl ?_
    refine y_ch (h_fair (p_fair (d := d) (L := L) (n := q) (T := T) c.2.2.2.2.1 hq c.2.2.2.2.2.1 a5 rfl) rfl ?_ (fun _ _ h => h.elim)) rfl rfl rfl (by decide) (Nat.le_of_ble_eq_true rfl) (by decide) (by omega) (by omega) ?_
    · rintro v h0 ⟨d', ⟨f, rfl, -, -, rfl, -⟩ | ⟨rfl, D, rfl, -⟩⟩ <;> exact ⟨⟨_, rfl⟩, rfl⟩
    rintro v h' (⟨x, h0, ⟨d1, ⟨f, e, f1, f5, rfl, fb, hR⟩ | ⟨e, D, rfl, fg, hc, hw, dg, hR⟩⟩, rfl, rfl⟩ | ⟨k0, hF, -⟩)
    · cases e
      have bb := IMm_sm b (fun c hc => fb.1 c (by omega) (by omega) (by omega))
      refine y_s rfl rfl ?_
      refine y_s rfl rfl ?_
      refine y_s rfl rfl ?_
      refine y_s rfl rfl ?_
      refine y_s rfl rfl ?_
      refine y_s rfl rfl ?_
      refine y_sld rfl (nI_a1 j) (by omega) hn ?_
      rw [ex]
      refine y_cv (k_fair (d := d1) (L := _) (n := q) (T := T) c.2.2.2.2.1 hq c.2.2.2.2.2.1 bb.2.2.2.2.1 bb.1.2.2.2.2.2.2.2 rfl (fun D h => by rw [hR] at h; cases h)) rfl rfl rfl (by decide) rfl (by decide) rfl (Nat.le_of_ble_eq_true rfl) (by decide) (Nat.zero_le _) (Nat.zero_le _) ?_
      rintro v h' ⟨d2, L2, rfl, ml, ⟨f', rfl, mb, m13, hR'⟩ | ⟨rfl, D, -, -, hR'⟩⟩
      · cases hR.symm.trans hR'
        exact tl_fair mb.2.2.1 (fun _ => congrFun (ml 145 (by decide)) 0) (y_room (by omega) (by omega) (K d2 _ (LI_fairB a b c jj fb mb m13)))
      · cases hR.symm.trans hR'
    · cases e
      refine y_ren (Q' := Qe) (X' := Xe) rfl (fun v h' z => ⟨z.2, by rw [z.1]; exact ⟨rfl, z.2⟩⟩) (fun _ _ z => False.elim z) ?_
      rw [phE]
      refine (show ExG _ _ _ _ _ _ _ _ (lk j) [.int 0] _ _ _ from ?_)
      have bb := IMm_sm b (fun c hc => fg.1 c (by omega) (by simp only [SR, List.mem_cons, List.not_mem_nil, or_false]; omega) (by omega) (by omega))
      refine y_s rfl rfl ?_
      refine y_s rfl rfl ?_
      refine y_s rfl rfl ?_
      refine y_s rfl rfl ?_
      refine y_s rfl rfl ?_
      refine y_s rfl rfl ?_
      refine y_sld rfl (nI_a1 j) (by omega) hn ?_
      rw [ex]
      refine y_cv (k_fair (d := d1) (L := _) (n := q) (T := T) c.2.2.2.2.1 hq c.2.2.2.2.2.1 bb.2.2.2.2.1 bb.1.2.2.2.2.2.2.2 rfl (fun D' h => by rw [hR] at h; cases h; exact dg)) rfl rfl rfl (by decide) rfl (by decide) rfl (Nat.le_of_ble_eq_true rfl) (by decide) (Nat.zero_le _) (Nat.zero_le _) ?_
      rintro v h' ⟨d2, L2, rfl, ml, ⟨f', rfl, mb, m13, hR'⟩ | ⟨rfl, D', mg, hb, hR'⟩⟩
      · cases hR.symm.trans hR'
      · cases hR.symm.trans hR'
        exact tl_fair mg.2.2.1 (fun _ => congrFun (ml 145 (by decide)) 0) (y_room (by omega) (by omega) (K d2 _ (LI_fairG jj fg hc hw dg mg hb)))
    · exact hF.elim
