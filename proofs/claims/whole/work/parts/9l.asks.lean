/-! THE LAW'S CASES that only ask -/
theorem aCount_eq {d d1 : Nat → Nat → Int32} {F : Fr} {n m : Nat} {E : Ac} {G : Gs} {Z : Sn} {T : Nat → Nat} {I : Im} (a : IC d F n E Z m T I) (b : IMm d F n G Z m T I) (c : IP F n E G Z m T I) (j : IJ d) (s1 : sm SX d d1) (w : Nat) : aCount d F w = aCountM d1 F w := by
  have h1 : d 81 0 = nI n := a.2.2.1.1
  have h2 : d 86 0 = nI Z.1 := a.2.2.2.1.1
  have h3 : d 1 1 = nI m := a.2.2.2.2.1.1
  have g := SXm s1
  have k1 : d1 112 43 = nI n := by rw [g 112 (by decide)]; exact b.2.1
  have k2 : d1 112 56 = nI Z.1 := by rw [g 112 (by decide)]; exact b.2.2.2.1.1
  have k3 : d1 112 11 = nI m := by rw [g 112 (by decide)]; exact b.2.2.2.2.1.1
  have j0 := j.1 0 (by decide)
  have j1 := j.1 1 (by decide)
  have j2 := j.1 2 (by decide)
  unfold aCount aCountM
  rw [h1, h2, h3, k1, k2, k3, g 119 (by decide), j0, j1, j2, mx_hours F c.1]
set_option maxRecDepth 100000 in
set_option maxHeartbeats 1000000 in
theorem tl_count {n j kc ks : Nat} {xs : Nat → Int32} {d : Nat → Nat → Int32} {L : Nat → Nat → Int64} {kk bb : Int32} (ht : d 112 0 = kk) (ho : kk = 0 → L 145 0 = bb.toInt64) (K : ExG (PhS n xs) false (mW []) false 70 kc ks 2675 (lk j) [] (W0 d L) Qe Xe) : ExG (PhS n xs) false (mW pC3) false 70 kc ks 393 (lk5 j kk none) [.int bb] (W0 d L) Qe Xe := by
  have K' : ∀ o6, ExG (PhS n xs) false (mW pC3) false 70 kc ks 423 (lk5 j kk o6) [] (W0 d L) Qe Xe := fun o6 => by
    refine y_s rfl rfl ?_
    exact y_fl7 (y_rows ⟨rfl, trivial⟩ K)
  refine y_s rfl rfl ?_
  refine y_s rfl rfl ?_
  refine y_cv (k_thrown (d := d) (L := L)) rfl rfl rfl (by decide) rfl (by decide) rfl (by decide) (by decide) (Nat.zero_le _) (Nat.zero_le _) ?_
  rintro v h' ⟨rfl, rfl⟩
  refine y_s rfl rfl ?_
  refine y_br rfl rfl (fun _ => ?_) (fun c => absurd ht c)
  refine y_s rfl rfl ?_
  refine y_br rfl rfl (fun _ => K' _) (fun c => ?_)
  refine y_s rfl rfl ?_
  refine y_s rfl rfl ?_
  refine y_ald rfl rfl rfl (k := 0) rfl (by decide) (by decide) rfl ?_
  refine y_s rfl rfl ?_
  refine y_s rfl rfl ?_
  refine y_s rfl rfl ?_
  exact y_br rfl rfl (fun _ => K' _) (fun z => absurd (lcmp_e (ho c)) z)
set_option maxRecDepth 100000 in
set_option maxHeartbeats 1000000 in
theorem lw_count {n j kc ks : Nat} {xs : Nat → Int32} {d : Nat → Nat → Int32} {L : Nat → Nat → Int64} (hj : j + 6 ≤ n) (hn : n ≤ 3072) (hI : LI d) (hkc : 6 ≤ kc) (hks : 36 ≤ ks) (K : ∀ d' L', LI d' → ExG (PhS n xs) false (mW []) false 70 (kc - 6) (ks - 36) 2675 (lk j) [] (W0 d' L') Qe Xe) : ExG (PhS n xs) false (mW []) false 70 kc ks 370 (lk j) [] (W0 d L) Qe Xe := by
  have hI0 := hI
  obtain ⟨F, nA, E, G, Z, m, T, I, a, b, c, jj⟩ := hI
  have a1 := a.1
  have a2 := a.2.1
  have a3 := a.2.2.1
  have a4 := a.2.2.2.1
  have a5 := a.2.2.2.2.1
  have c1 := c.1
  have c2 := c.2.1
  have c3 := c.2.2.1
  have c4 := c.2.2.2.1
  refine y_rows gC3 ?_
  refine y_s rfl rfl ?_
  refine y_s rfl rfl ?_
  refine y_s rfl rfl ?_
  refine y_s rfl rfl ?_
  refine y_s rfl rfl ?_
  refine y_sld rfl (nI_a1 j) (by omega) hn ?_
  refine y_s rfl rfl ?_
  refine y_ch (h_count (p_count (d := d) (L := L) a1 c1 a2 _) rfl qG_Q qT_X) rfl rfl rfl (by decide) (Nat.le_of_ble_eq_true rfl) (by decide) hkc hks ?_
  rintro v h' (⟨x, h0, ⟨g, e, d1, L1, rfl, s1, s2⟩, rfl, rfl⟩ | ⟨k0, ⟨rfl, rfl, g⟩, rfl⟩)
  · cases e
    have bb := IMm_sm b (SXm s1)
    refine y_s rfl rfl ?_
    refine y_s rfl rfl ?_
    refine y_s rfl rfl ?_
    refine y_s rfl rfl ?_
    refine y_s rfl rfl ?_
    refine y_s rfl rfl ?_
    refine y_sld rfl (nI_a1 j) (by omega) hn ?_
    refine y_cv (q_count (d := d1) (L := _) bb.1 c1 _) rfl rfl rfl (by decide) rfl (by decide) rfl (Nat.le_of_ble_eq_true rfl) (by decide) (Nat.zero_le _) (Nat.zero_le _) ?_
    rintro v h' ⟨rfl, d2, rfl, m2, t2⟩
    rw [if_pos g] at t2 ⊢
    exact tl_count t2 (fun _ => congrArg Int32.toInt64 (aCount_eq a b c jj s1 _)) (K d2 _ (LI_q hI0 s1 m2))
  · refine y_s rfl rfl ?_
    refine y_s rfl rfl ?_
    refine y_s rfl rfl ?_
    refine y_s rfl rfl ?_
    refine y_s rfl rfl ?_
    refine y_s rfl rfl ?_
    refine y_sld rfl (nI_a1 j) (by omega) hn ?_
    refine y_cv (q_count (d := d) (L := _) b.1 c1 _) rfl rfl rfl (by decide) rfl (by decide) rfl (Nat.le_of_ble_eq_true rfl) (by decide) (Nat.zero_le _) (Nat.zero_le _) ?_
    rintro v h' ⟨rfl, d2, rfl, m2, t2⟩
    have t3 : d2 112 0 = 1 := by rw [t2]; simp [g]
    exact tl_count t3 (fun z => absurd z (by decide)) (K d2 _ (LI_q hI0 sm_rfl m2))
set_option maxRecDepth 100000 in
set_option maxHeartbeats 1000000 in
theorem tl_one {n j kc ks : Nat} {xs : Nat → Int32} {d : Nat → Nat → Int32} {L : Nat → Nat → Int64} {kk bb : Int32} (ht : d 112 0 = kk) (ho : kk = 0 → L 145 0 = bb.toInt64) (K : ExG (PhS n xs) false (mW []) false 70 kc ks 2675 (lk j) [] (W0 d L) Qe Xe) : ExG (PhS n xs) false (mW pC4) false 70 kc ks 461 (lk5 j kk none) [.int bb] (W0 d L) Qe Xe := by
  have K' : ∀ o6, ExG (PhS n xs) false (mW pC4) false 70 kc ks 491 (lk5 j kk o6) [] (W0 d L) Qe Xe := fun o6 => by
    refine y_s rfl rfl ?_
    exact y_fl7 (y_rows ⟨rfl, trivial⟩ K)
  refine y_s rfl rfl ?_
  refine y_s rfl rfl ?_
  refine y_cv (k_thrown (d := d) (L := L)) rfl rfl rfl (by decide) rfl (by decide) rfl (by decide) (by decide) (Nat.zero_le _) (Nat.zero_le _) ?_
  rintro v h' ⟨rfl, rfl⟩
  refine y_s rfl rfl ?_
  refine y_br rfl rfl (fun _ => ?_) (fun c => absurd ht c)
  refine y_s rfl rfl ?_
  refine y_br rfl rfl (fun _ => K' _) (fun c => ?_)
  refine y_s rfl rfl ?_
  refine y_s rfl rfl ?_
  refine y_ald rfl rfl rfl (k := 0) rfl (by decide) (by decide) rfl ?_
  refine y_s rfl rfl ?_
  refine y_s rfl rfl ?_
  refine y_s rfl rfl ?_
  exact y_br rfl rfl (fun _ => K' _) (fun z => absurd (lcmp_e (ho c)) z)
set_option maxRecDepth 100000 in
set_option maxHeartbeats 1000000 in
theorem lw_one {n j kc ks : Nat} {xs : Nat → Int32} {d : Nat → Nat → Int32} {L : Nat → Nat → Int64} (hj : j + 6 ≤ n) (hn : n ≤ 3072) (hI : LI d) (hkc : 6 ≤ kc) (hks : 36 ≤ ks) (K : ∀ d' L', LI d' → ExG (PhS n xs) false (mW []) false 70 (kc - 6) (ks - 36) 2675 (lk j) [] (W0 d' L') Qe Xe) : ExG (PhS n xs) false (mW []) false 70 kc ks 426 (lk j) [] (W0 d L) Qe Xe := by
  have hI0 := hI
  obtain ⟨F, nA, E, G, Z, m, T, I, a, b, c, jj⟩ := hI
  have a1 := a.1
  have a2 := a.2.1
  have a3 := a.2.2.1
  have a4 := a.2.2.2.1
  have a5 := a.2.2.2.2.1
  have c1 := c.1
  have c2 := c.2.1
  have c3 := c.2.2.1
  have c4 := c.2.2.2.1
  refine y_rows gC4 ?_
  refine y_s rfl rfl ?_
  refine y_s rfl rfl ?_
  refine y_s rfl rfl ?_
  refine y_s rfl rfl ?_
  refine y_s rfl rfl ?_
  refine y_sld rfl (nI_a1 j) (by omega) hn ?_
  refine y_s rfl rfl ?_
  refine y_s rfl rfl ?_
  refine y_s rfl rfl ?_
  refine y_s rfl rfl ?_
  refine y_sld rfl (nI_a2 j) (by omega) hn ?_
  refine y_s rfl rfl ?_
  refine y_ch (h_one (p_one (d := d) (L := L) a1 c1 a2 _ _) rfl qG_Q qT_X) rfl rfl rfl (by decide) (Nat.le_of_ble_eq_true rfl) (by decide) hkc hks ?_
  rintro v h' (⟨x, h0, ⟨g, e, d1, L1, rfl, s1, s2⟩, rfl, rfl⟩ | ⟨k0, ⟨rfl, rfl, g⟩, rfl⟩)
  · cases e
    have bb := IMm_sm b (SXm s1)
    refine y_s rfl rfl ?_
    refine y_s rfl rfl ?_
    refine y_s rfl rfl ?_
    refine y_s rfl rfl ?_
    refine y_s rfl rfl ?_
    refine y_s rfl rfl ?_
    refine y_sld rfl (nI_a1 j) (by omega) hn ?_
    refine y_s rfl rfl ?_
    refine y_s rfl rfl ?_
    refine y_s rfl rfl ?_
    refine y_s rfl rfl ?_
    refine y_sld rfl (nI_a2 j) (by omega) hn ?_
    refine y_cv (q_one (d := d1) (L := _) bb.1 c1 _ _) rfl rfl rfl (by decide) rfl (by decide) rfl (Nat.le_of_ble_eq_true rfl) (by decide) (Nat.zero_le _) (Nat.zero_le _) ?_
    rintro v h' ⟨rfl, d2, rfl, m2, t2⟩
    rw [if_pos g] at t2 ⊢
    exact tl_one t2 (fun _ => rfl) (K d2 _ (LI_q hI0 s1 m2))
  · refine y_s rfl rfl ?_
    refine y_s rfl rfl ?_
    refine y_s rfl rfl ?_
    refine y_s rfl rfl ?_
    refine y_s rfl rfl ?_
    refine y_s rfl rfl ?_
    refine y_sld rfl (nI_a1 j) (by omega) hn ?_
    refine y_s rfl rfl ?_
    refine y_s rfl rfl ?_
    refine y_s rfl rfl ?_
    refine y_s rfl rfl ?_
    refine y_sld rfl (nI_a2 j) (by omega) hn ?_
    refine y_cv (q_one (d := d) (L := _) b.1 c1 _ _) rfl rfl rfl (by decide) rfl (by decide) rfl (Nat.le_of_ble_eq_true rfl) (by decide) (Nat.zero_le _) (Nat.zero_le _) ?_
    rintro v h' ⟨rfl, d2, rfl, m2, t2⟩
    have t3 : d2 112 0 = 1 := by rw [t2]; simp [g]
    exact tl_one t3 (fun z => absurd z (by decide)) (K d2 _ (LI_q hI0 sm_rfl m2))
set_option maxRecDepth 100000 in
set_option maxHeartbeats 1000000 in
theorem tl_needle {n j kc ks : Nat} {xs : Nat → Int32} {d : Nat → Nat → Int32} {L : Nat → Nat → Int64} {kk bb : Int32} (ht : d 112 0 = kk) (ho : kk = 0 → L 145 0 = bb.toInt64) (K : ExG (PhS n xs) false (mW []) false 70 kc ks 2675 (lk j) [] (W0 d L) Qe Xe) : ExG (PhS n xs) false (mW pC5) false 70 kc ks 529 (lk5 j kk none) [.int bb] (W0 d L) Qe Xe := by
  have K' : ∀ o6, ExG (PhS n xs) false (mW pC5) false 70 kc ks 559 (lk5 j kk o6) [] (W0 d L) Qe Xe := fun o6 => by
    refine y_s rfl rfl ?_
    exact y_fl7 (y_rows ⟨rfl, trivial⟩ K)
  refine y_s rfl rfl ?_
  refine y_s rfl rfl ?_
  refine y_cv (k_thrown (d := d) (L := L)) rfl rfl rfl (by decide) rfl (by decide) rfl (by decide) (by decide) (Nat.zero_le _) (Nat.zero_le _) ?_
  rintro v h' ⟨rfl, rfl⟩
  refine y_s rfl rfl ?_
  refine y_br rfl rfl (fun _ => ?_) (fun c => absurd ht c)
  refine y_s rfl rfl ?_
  refine y_br rfl rfl (fun _ => K' _) (fun c => ?_)
  refine y_s rfl rfl ?_
  refine y_s rfl rfl ?_
  refine y_ald rfl rfl rfl (k := 0) rfl (by decide) (by decide) rfl ?_
  refine y_s rfl rfl ?_
  refine y_s rfl rfl ?_
  refine y_s rfl rfl ?_
  exact y_br rfl rfl (fun _ => K' _) (fun z => absurd (lcmp_e (ho c)) z)
set_option maxRecDepth 100000 in
set_option maxHeartbeats 1000000 in
theorem lw_needle {n j kc ks : Nat} {xs : Nat → Int32} {d : Nat → Nat → Int32} {L : Nat → Nat → Int64} (hj : j + 6 ≤ n) (hn : n ≤ 3072) (hI : LI d) (hkc : 6 ≤ kc) (hks : 36 ≤ ks) (K : ∀ d' L', LI d' → ExG (PhS n xs) false (mW []) false 70 (kc - 6) (ks - 36) 2675 (lk j) [] (W0 d' L') Qe Xe) : ExG (PhS n xs) false (mW []) false 70 kc ks 494 (lk j) [] (W0 d L) Qe Xe := by
  have hI0 := hI
  obtain ⟨F, nA, E, G, Z, m, T, I, a, b, c, jj⟩ := hI
  have a1 := a.1
  have a2 := a.2.1
  have a3 := a.2.2.1
  have a4 := a.2.2.2.1
  have a5 := a.2.2.2.2.1
  have c1 := c.1
  have c2 := c.2.1
  have c3 := c.2.2.1
  have c4 := c.2.2.2.1
  refine y_rows gC5 ?_
  refine y_s rfl rfl ?_
  refine y_s rfl rfl ?_
  refine y_s rfl rfl ?_
  refine y_s rfl rfl ?_
  refine y_s rfl rfl ?_
  refine y_sld rfl (nI_a1 j) (by omega) hn ?_
  refine y_s rfl rfl ?_
  refine y_s rfl rfl ?_
  refine y_s rfl rfl ?_
  refine y_s rfl rfl ?_
  refine y_sld rfl (nI_a2 j) (by omega) hn ?_
  refine y_s rfl rfl ?_
  refine y_ch (h_needle (p_needle (d := d) (L := L) a1 c1 a2 _ _) rfl qG_Q qT_X) rfl rfl rfl (by decide) (Nat.le_of_ble_eq_true rfl) (by decide) hkc hks ?_
  rintro v h' (⟨x, h0, ⟨g, e, d1, L1, rfl, s1, s2⟩, rfl, rfl⟩ | ⟨k0, ⟨rfl, rfl, g⟩, rfl⟩)
  · cases e
    have bb := IMm_sm b (SXm s1)
    refine y_s rfl rfl ?_
    refine y_s rfl rfl ?_
    refine y_s rfl rfl ?_
    refine y_s rfl rfl ?_
    refine y_s rfl rfl ?_
    refine y_s rfl rfl ?_
    refine y_sld rfl (nI_a1 j) (by omega) hn ?_
    refine y_s rfl rfl ?_
    refine y_s rfl rfl ?_
    refine y_s rfl rfl ?_
    refine y_s rfl rfl ?_
    refine y_sld rfl (nI_a2 j) (by omega) hn ?_
    refine y_cv (q_needle (d := d1) (L := _) bb.1 c1 _ _) rfl rfl rfl (by decide) rfl (by decide) rfl (Nat.le_of_ble_eq_true rfl) (by decide) (Nat.zero_le _) (Nat.zero_le _) ?_
    rintro v h' ⟨rfl, d2, rfl, m2, t2⟩
    rw [if_pos g] at t2 ⊢
    exact tl_needle t2 (fun _ => rfl) (K d2 _ (LI_q hI0 s1 m2))
  · refine y_s rfl rfl ?_
    refine y_s rfl rfl ?_
    refine y_s rfl rfl ?_
    refine y_s rfl rfl ?_
    refine y_s rfl rfl ?_
    refine y_s rfl rfl ?_
    refine y_sld rfl (nI_a1 j) (by omega) hn ?_
    refine y_s rfl rfl ?_
    refine y_s rfl rfl ?_
    refine y_s rfl rfl ?_
    refine y_s rfl rfl ?_
    refine y_sld rfl (nI_a2 j) (by omega) hn ?_
    refine y_cv (q_needle (d := d) (L := _) b.1 c1 _ _) rfl rfl rfl (by decide) rfl (by decide) rfl (Nat.le_of_ble_eq_true rfl) (by decide) (Nat.zero_le _) (Nat.zero_le _) ?_
    rintro v h' ⟨rfl, d2, rfl, m2, t2⟩
    have t3 : d2 112 0 = 1 := by rw [t2]; simp [g]
    exact tl_needle t3 (fun z => absurd z (by decide)) (K d2 _ (LI_q hI0 sm_rfl m2))
set_option maxRecDepth 100000 in
set_option maxHeartbeats 1000000 in
theorem tl_saying {n j kc ks : Nat} {xs : Nat → Int32} {d : Nat → Nat → Int32} {L : Nat → Nat → Int64} {kk bb : Int32} (ht : d 112 0 = kk) (ho : kk = 0 → L 145 0 = bb.toInt64) (K : ExG (PhS n xs) false (mW []) false 70 kc ks 2675 (lk j) [] (W0 d L) Qe Xe) : ExG (PhS n xs) false (mW pC6) false 70 kc ks 597 (lk5 j kk none) [.int bb] (W0 d L) Qe Xe := by
  have K' : ∀ o6, ExG (PhS n xs) false (mW pC6) false 70 kc ks 627 (lk5 j kk o6) [] (W0 d L) Qe Xe := fun o6 => by
    refine y_s rfl rfl ?_
    exact y_fl7 (y_rows ⟨rfl, trivial⟩ K)
  refine y_s rfl rfl ?_
  refine y_s rfl rfl ?_
  refine y_cv (k_thrown (d := d) (L := L)) rfl rfl rfl (by decide) rfl (by decide) rfl (by decide) (by decide) (Nat.zero_le _) (Nat.zero_le _) ?_
  rintro v h' ⟨rfl, rfl⟩
  refine y_s rfl rfl ?_
  refine y_br rfl rfl (fun _ => ?_) (fun c => absurd ht c)
  refine y_s rfl rfl ?_
  refine y_br rfl rfl (fun _ => K' _) (fun c => ?_)
  refine y_s rfl rfl ?_
  refine y_s rfl rfl ?_
  refine y_ald rfl rfl rfl (k := 0) rfl (by decide) (by decide) rfl ?_
  refine y_s rfl rfl ?_
  refine y_s rfl rfl ?_
  refine y_s rfl rfl ?_
  exact y_br rfl rfl (fun _ => K' _) (fun z => absurd (lcmp_e (ho c)) z)
set_option maxRecDepth 100000 in
set_option maxHeartbeats 1000000 in
theorem lw_saying {n j kc ks : Nat} {xs : Nat → Int32} {d : Nat → Nat → Int32} {L : Nat → Nat → Int64} (hj : j + 6 ≤ n) (hn : n ≤ 3072) (hI : LI d) (hkc : 6 ≤ kc) (hks : 36 ≤ ks) (K : ∀ d' L', LI d' → ExG (PhS n xs) false (mW []) false 70 (kc - 6) (ks - 36) 2675 (lk j) [] (W0 d' L') Qe Xe) : ExG (PhS n xs) false (mW []) false 70 kc ks 562 (lk j) [] (W0 d L) Qe Xe := by
  have hI0 := hI
  obtain ⟨F, nA, E, G, Z, m, T, I, a, b, c, jj⟩ := hI
  have a1 := a.1
  have a2 := a.2.1
  have a3 := a.2.2.1
  have a4 := a.2.2.2.1
  have a5 := a.2.2.2.2.1
  have c1 := c.1
  have c2 := c.2.1
  have c3 := c.2.2.1
  have c4 := c.2.2.2.1
  refine y_rows gC6 ?_
  refine y_s rfl rfl ?_
  refine y_s rfl rfl ?_
  refine y_s rfl rfl ?_
  refine y_s rfl rfl ?_
  refine y_s rfl rfl ?_
  refine y_sld rfl (nI_a1 j) (by omega) hn ?_
  refine y_s rfl rfl ?_
  refine y_s rfl rfl ?_
  refine y_s rfl rfl ?_
  refine y_s rfl rfl ?_
  refine y_sld rfl (nI_a2 j) (by omega) hn ?_
  refine y_s rfl rfl ?_
  refine y_ch (h_saying (p_saying (d := d) (L := L) a1 c1 a2 _ _) rfl qG_Q qT_X) rfl rfl rfl (by decide) (Nat.le_of_ble_eq_true rfl) (by decide) hkc hks ?_
  rintro v h' (⟨x, h0, ⟨g, e, d1, L1, rfl, s1, s2⟩, rfl, rfl⟩ | ⟨k0, ⟨rfl, rfl, g⟩, rfl⟩)
  · cases e
    have bb := IMm_sm b (SXm s1)
    refine y_s rfl rfl ?_
    refine y_s rfl rfl ?_
    refine y_s rfl rfl ?_
    refine y_s rfl rfl ?_
    refine y_s rfl rfl ?_
    refine y_s rfl rfl ?_
    refine y_sld rfl (nI_a1 j) (by omega) hn ?_
    refine y_s rfl rfl ?_
    refine y_s rfl rfl ?_
    refine y_s rfl rfl ?_
    refine y_s rfl rfl ?_
    refine y_sld rfl (nI_a2 j) (by omega) hn ?_
    refine y_cv (q_saying (d := d1) (L := _) bb.1 c1 _ _) rfl rfl rfl (by decide) rfl (by decide) rfl (Nat.le_of_ble_eq_true rfl) (by decide) (Nat.zero_le _) (Nat.zero_le _) ?_
    rintro v h' ⟨rfl, d2, rfl, m2, t2⟩
    rw [if_pos g] at t2 ⊢
    exact tl_saying t2 (fun _ => rfl) (K d2 _ (LI_q hI0 s1 m2))
  · refine y_s rfl rfl ?_
    refine y_s rfl rfl ?_
    refine y_s rfl rfl ?_
    refine y_s rfl rfl ?_
    refine y_s rfl rfl ?_
    refine y_s rfl rfl ?_
    refine y_sld rfl (nI_a1 j) (by omega) hn ?_
    refine y_s rfl rfl ?_
    refine y_s rfl rfl ?_
    refine y_s rfl rfl ?_
    refine y_s rfl rfl ?_
    refine y_sld rfl (nI_a2 j) (by omega) hn ?_
    refine y_cv (q_saying (d := d) (L := _) b.1 c1 _ _) rfl rfl rfl (by decide) rfl (by decide) rfl (Nat.le_of_ble_eq_true rfl) (by decide) (Nat.zero_le _) (Nat.zero_le _) ?_
    rintro v h' ⟨rfl, d2, rfl, m2, t2⟩
    have t3 : d2 112 0 = 1 := by rw [t2]; simp [g]
    exact tl_saying t3 (fun z => absurd z (by decide)) (K d2 _ (LI_q hI0 sm_rfl m2))
set_option maxRecDepth 100000 in
set_option maxHeartbeats 1000000 in
theorem tl_shows {n j kc ks : Nat} {xs : Nat → Int32} {d : Nat → Nat → Int32} {L : Nat → Nat → Int64} {kk bb : Int32} (ht : d 112 0 = kk) (ho : kk = 0 → L 145 0 = bb.toInt64) (K : ExG (PhS n xs) false (mW []) false 70 kc ks 2675 (lk j) [] (W0 d L) Qe Xe) : ExG (PhS n xs) false (mW pC7) false 70 kc ks 665 (lk5 j kk none) [.int bb] (W0 d L) Qe Xe := by
  have K' : ∀ o6, ExG (PhS n xs) false (mW pC7) false 70 kc ks 695 (lk5 j kk o6) [] (W0 d L) Qe Xe := fun o6 => by
    refine y_s rfl rfl ?_
    exact y_fl7 (y_rows ⟨rfl, trivial⟩ K)
  refine y_s rfl rfl ?_
  refine y_s rfl rfl ?_
  refine y_cv (k_thrown (d := d) (L := L)) rfl rfl rfl (by decide) rfl (by decide) rfl (by decide) (by decide) (Nat.zero_le _) (Nat.zero_le _) ?_
  rintro v h' ⟨rfl, rfl⟩
  refine y_s rfl rfl ?_
  refine y_br rfl rfl (fun _ => ?_) (fun c => absurd ht c)
  refine y_s rfl rfl ?_
  refine y_br rfl rfl (fun _ => K' _) (fun c => ?_)
  refine y_s rfl rfl ?_
  refine y_s rfl rfl ?_
  refine y_ald rfl rfl rfl (k := 0) rfl (by decide) (by decide) rfl ?_
  refine y_s rfl rfl ?_
  refine y_s rfl rfl ?_
  refine y_s rfl rfl ?_
  exact y_br rfl rfl (fun _ => K' _) (fun z => absurd (lcmp_e (ho c)) z)
set_option maxRecDepth 100000 in
set_option maxHeartbeats 1000000 in
theorem lw_shows {n j kc ks : Nat} {xs : Nat → Int32} {d : Nat → Nat → Int32} {L : Nat → Nat → Int64} (hj : j + 6 ≤ n) (hn : n ≤ 3072) (hI : LI d) (hkc : 6 ≤ kc) (hks : 36 ≤ ks) (K : ∀ d' L', LI d' → ExG (PhS n xs) false (mW []) false 70 (kc - 6) (ks - 36) 2675 (lk j) [] (W0 d' L') Qe Xe) : ExG (PhS n xs) false (mW []) false 70 kc ks 630 (lk j) [] (W0 d L) Qe Xe := by
  have hI0 := hI
  obtain ⟨F, nA, E, G, Z, m, T, I, a, b, c, jj⟩ := hI
  have a1 := a.1
  have a2 := a.2.1
  have a3 := a.2.2.1
  have a4 := a.2.2.2.1
  have a5 := a.2.2.2.2.1
  have c1 := c.1
  have c2 := c.2.1
  have c3 := c.2.2.1
  have c4 := c.2.2.2.1
  refine y_rows gC7 ?_
  refine y_s rfl rfl ?_
  refine y_s rfl rfl ?_
  refine y_s rfl rfl ?_
  refine y_s rfl rfl ?_
  refine y_s rfl rfl ?_
  refine y_sld rfl (nI_a1 j) (by omega) hn ?_
  refine y_s rfl rfl ?_
  refine y_s rfl rfl ?_
  refine y_s rfl rfl ?_
  refine y_s rfl rfl ?_
  refine y_sld rfl (nI_a2 j) (by omega) hn ?_
  refine y_s rfl rfl ?_
  refine y_ch (h_shows (p_shows (d := d) (L := L) a1 c1 a2 _ _) rfl qG_Q qT_X) rfl rfl rfl (by decide) (Nat.le_of_ble_eq_true rfl) (by decide) hkc hks ?_
  rintro v h' (⟨x, h0, ⟨g, e, d1, L1, rfl, s1, s2⟩, rfl, rfl⟩ | ⟨k0, ⟨rfl, rfl, g⟩, rfl⟩)
  · cases e
    have bb := IMm_sm b (SXm s1)
    refine y_s rfl rfl ?_
    refine y_s rfl rfl ?_
    refine y_s rfl rfl ?_
    refine y_s rfl rfl ?_
    refine y_s rfl rfl ?_
    refine y_s rfl rfl ?_
    refine y_sld rfl (nI_a1 j) (by omega) hn ?_
    refine y_s rfl rfl ?_
    refine y_s rfl rfl ?_
    refine y_s rfl rfl ?_
    refine y_s rfl rfl ?_
    refine y_sld rfl (nI_a2 j) (by omega) hn ?_
    refine y_cv (q_shows (d := d1) (L := _) bb.1 c1 _ _) rfl rfl rfl (by decide) rfl (by decide) rfl (Nat.le_of_ble_eq_true rfl) (by decide) (Nat.zero_le _) (Nat.zero_le _) ?_
    rintro v h' ⟨rfl, d2, rfl, m2, t2⟩
    rw [if_pos g] at t2 ⊢
    exact tl_shows t2 (fun _ => rfl) (K d2 _ (LI_q hI0 s1 m2))
  · refine y_s rfl rfl ?_
    refine y_s rfl rfl ?_
    refine y_s rfl rfl ?_
    refine y_s rfl rfl ?_
    refine y_s rfl rfl ?_
    refine y_s rfl rfl ?_
    refine y_sld rfl (nI_a1 j) (by omega) hn ?_
    refine y_s rfl rfl ?_
    refine y_s rfl rfl ?_
    refine y_s rfl rfl ?_
    refine y_s rfl rfl ?_
    refine y_sld rfl (nI_a2 j) (by omega) hn ?_
    refine y_cv (q_shows (d := d) (L := _) b.1 c1 _ _) rfl rfl rfl (by decide) rfl (by decide) rfl (Nat.le_of_ble_eq_true rfl) (by decide) (Nat.zero_le _) (Nat.zero_le _) ?_
    rintro v h' ⟨rfl, d2, rfl, m2, t2⟩
    have t3 : d2 112 0 = 1 := by rw [t2]; simp [g]
    exact tl_shows t3 (fun z => absurd z (by decide)) (K d2 _ (LI_q hI0 sm_rfl m2))
set_option maxRecDepth 100000 in
set_option maxHeartbeats 1000000 in
theorem tl_last {n j kc ks : Nat} {xs : Nat → Int32} {d : Nat → Nat → Int32} {L : Nat → Nat → Int64} {kk bb : Int32} (ht : d 112 0 = kk) (ho : kk = 0 → L 145 0 = bb.toInt64) (K : ExG (PhS n xs) false (mW []) false 70 kc ks 2675 (lk j) [] (W0 d L) Qe Xe) : ExG (PhS n xs) false (mW pC8) false 70 kc ks 733 (lk5 j kk none) [.int bb] (W0 d L) Qe Xe := by
  have K' : ∀ o6, ExG (PhS n xs) false (mW pC8) false 70 kc ks 763 (lk5 j kk o6) [] (W0 d L) Qe Xe := fun o6 => by
    refine y_s rfl rfl ?_
    exact y_fl7 (y_rows ⟨rfl, trivial⟩ K)
  refine y_s rfl rfl ?_
  refine y_s rfl rfl ?_
  refine y_cv (k_thrown (d := d) (L := L)) rfl rfl rfl (by decide) rfl (by decide) rfl (by decide) (by decide) (Nat.zero_le _) (Nat.zero_le _) ?_
  rintro v h' ⟨rfl, rfl⟩
  refine y_s rfl rfl ?_
  refine y_br rfl rfl (fun _ => ?_) (fun c => absurd ht c)
  refine y_s rfl rfl ?_
  refine y_br rfl rfl (fun _ => K' _) (fun c => ?_)
  refine y_s rfl rfl ?_
  refine y_s rfl rfl ?_
  refine y_ald rfl rfl rfl (k := 0) rfl (by decide) (by decide) rfl ?_
  refine y_s rfl rfl ?_
  refine y_s rfl rfl ?_
  refine y_s rfl rfl ?_
  exact y_br rfl rfl (fun _ => K' _) (fun z => absurd (lcmp_e (ho c)) z)
set_option maxRecDepth 100000 in
set_option maxHeartbeats 1000000 in
theorem lw_last {n j kc ks : Nat} {xs : Nat → Int32} {d : Nat → Nat → Int32} {L : Nat → Nat → Int64} (hj : j + 6 ≤ n) (hn : n ≤ 3072) (hI : LI d) (hkc : 6 ≤ kc) (hks : 36 ≤ ks) (K : ∀ d' L', LI d' → ExG (PhS n xs) false (mW []) false 70 (kc - 6) (ks - 36) 2675 (lk j) [] (W0 d' L') Qe Xe) : ExG (PhS n xs) false (mW []) false 70 kc ks 698 (lk j) [] (W0 d L) Qe Xe := by
  have hI0 := hI
  obtain ⟨F, nA, E, G, Z, m, T, I, a, b, c, jj⟩ := hI
  have a1 := a.1
  have a2 := a.2.1
  have a3 := a.2.2.1
  have a4 := a.2.2.2.1
  have a5 := a.2.2.2.2.1
  have c1 := c.1
  have c2 := c.2.1
  have c3 := c.2.2.1
  have c4 := c.2.2.2.1
  refine y_rows gC8 ?_
  refine y_s rfl rfl ?_
  refine y_s rfl rfl ?_
  refine y_s rfl rfl ?_
  refine y_s rfl rfl ?_
  refine y_s rfl rfl ?_
  refine y_sld rfl (nI_a1 j) (by omega) hn ?_
  refine y_s rfl rfl ?_
  refine y_s rfl rfl ?_
  refine y_s rfl rfl ?_
  refine y_s rfl rfl ?_
  refine y_sld rfl (nI_a2 j) (by omega) hn ?_
  refine y_s rfl rfl ?_
  refine y_ch (h_last (p_last (d := d) (L := L) a1 c1 a2 _ _) rfl qG_Q qT_X) rfl rfl rfl (by decide) (Nat.le_of_ble_eq_true rfl) (by decide) hkc hks ?_
  rintro v h' (⟨x, h0, ⟨g, e, d1, L1, rfl, s1, s2⟩, rfl, rfl⟩ | ⟨k0, ⟨rfl, rfl, g⟩, rfl⟩)
  · cases e
    have bb := IMm_sm b (SXm s1)
    refine y_s rfl rfl ?_
    refine y_s rfl rfl ?_
    refine y_s rfl rfl ?_
    refine y_s rfl rfl ?_
    refine y_s rfl rfl ?_
    refine y_s rfl rfl ?_
    refine y_sld rfl (nI_a1 j) (by omega) hn ?_
    refine y_s rfl rfl ?_
    refine y_s rfl rfl ?_
    refine y_s rfl rfl ?_
    refine y_s rfl rfl ?_
    refine y_sld rfl (nI_a2 j) (by omega) hn ?_
    refine y_cv (q_last (d := d1) (L := _) bb.1 c1 _ _) rfl rfl rfl (by decide) rfl (by decide) rfl (Nat.le_of_ble_eq_true rfl) (by decide) (Nat.zero_le _) (Nat.zero_le _) ?_
    rintro v h' ⟨rfl, d2, rfl, m2, t2⟩
    rw [if_pos g] at t2 ⊢
    exact tl_last t2 (fun _ => rfl) (K d2 _ (LI_q hI0 s1 m2))
  · refine y_s rfl rfl ?_
    refine y_s rfl rfl ?_
    refine y_s rfl rfl ?_
    refine y_s rfl rfl ?_
    refine y_s rfl rfl ?_
    refine y_s rfl rfl ?_
    refine y_sld rfl (nI_a1 j) (by omega) hn ?_
    refine y_s rfl rfl ?_
    refine y_s rfl rfl ?_
    refine y_s rfl rfl ?_
    refine y_s rfl rfl ?_
    refine y_sld rfl (nI_a2 j) (by omega) hn ?_
    refine y_cv (q_last (d := d) (L := _) b.1 c1 _ _) rfl rfl rfl (by decide) rfl (by decide) rfl (Nat.le_of_ble_eq_true rfl) (by decide) (Nat.zero_le _) (Nat.zero_le _) ?_
    rintro v h' ⟨rfl, d2, rfl, m2, t2⟩
    have t3 : d2 112 0 = 1 := by rw [t2]; simp [g]
    exact tl_last t3 (fun z => absurd z (by decide)) (K d2 _ (LI_q hI0 sm_rfl m2))
set_option maxRecDepth 100000 in
set_option maxHeartbeats 1000000 in
theorem tl_points {n j kc ks : Nat} {xs : Nat → Int32} {d : Nat → Nat → Int32} {L : Nat → Nat → Int64} {kk bb : Int32} (ht : d 112 0 = kk) (ho : kk = 0 → L 145 0 = bb.toInt64) (K : ExG (PhS n xs) false (mW []) false 70 kc ks 2675 (lk j) [] (W0 d L) Qe Xe) : ExG (PhS n xs) false (mW pC9) false 70 kc ks 801 (lk5 j kk none) [.int bb] (W0 d L) Qe Xe := by
  have K' : ∀ o6, ExG (PhS n xs) false (mW pC9) false 70 kc ks 831 (lk5 j kk o6) [] (W0 d L) Qe Xe := fun o6 => by
    refine y_s rfl rfl ?_
    exact y_fl7 (y_rows ⟨rfl, trivial⟩ K)
  refine y_s rfl rfl ?_
  refine y_s rfl rfl ?_
  refine y_cv (k_thrown (d := d) (L := L)) rfl rfl rfl (by decide) rfl (by decide) rfl (by decide) (by decide) (Nat.zero_le _) (Nat.zero_le _) ?_
  rintro v h' ⟨rfl, rfl⟩
  refine y_s rfl rfl ?_
  refine y_br rfl rfl (fun _ => ?_) (fun c => absurd ht c)
  refine y_s rfl rfl ?_
  refine y_br rfl rfl (fun _ => K' _) (fun c => ?_)
  refine y_s rfl rfl ?_
  refine y_s rfl rfl ?_
  refine y_ald rfl rfl rfl (k := 0) rfl (by decide) (by decide) rfl ?_
  refine y_s rfl rfl ?_
  refine y_s rfl rfl ?_
  refine y_s rfl rfl ?_
  exact y_br rfl rfl (fun _ => K' _) (fun z => absurd (lcmp_e (ho c)) z)
set_option maxRecDepth 100000 in
set_option maxHeartbeats 1000000 in
theorem lw_points {n j kc ks : Nat} {xs : Nat → Int32} {d : Nat → Nat → Int32} {L : Nat → Nat → Int64} (hj : j + 6 ≤ n) (hn : n ≤ 3072) (hI : LI d) (hkc : 6 ≤ kc) (hks : 36 ≤ ks) (K : ∀ d' L', LI d' → ExG (PhS n xs) false (mW []) false 70 (kc - 6) (ks - 36) 2675 (lk j) [] (W0 d' L') Qe Xe) : ExG (PhS n xs) false (mW []) false 70 kc ks 766 (lk j) [] (W0 d L) Qe Xe := by
  have hI0 := hI
  obtain ⟨F, nA, E, G, Z, m, T, I, a, b, c, jj⟩ := hI
  have a1 := a.1
  have a2 := a.2.1
  have a3 := a.2.2.1
  have a4 := a.2.2.2.1
  have a5 := a.2.2.2.2.1
  have c1 := c.1
  have c2 := c.2.1
  have c3 := c.2.2.1
  have c4 := c.2.2.2.1
  refine y_rows gC9 ?_
  refine y_s rfl rfl ?_
  refine y_s rfl rfl ?_
  refine y_s rfl rfl ?_
  refine y_s rfl rfl ?_
  refine y_s rfl rfl ?_
  refine y_sld rfl (nI_a1 j) (by omega) hn ?_
  refine y_s rfl rfl ?_
  refine y_s rfl rfl ?_
  refine y_s rfl rfl ?_
  refine y_s rfl rfl ?_
  refine y_sld rfl (nI_a2 j) (by omega) hn ?_
  refine y_s rfl rfl ?_
  refine y_ch (h_points (p_points (d := d) (L := L) a1 c1 a2 _ _) rfl qG_Q qT_X) rfl rfl rfl (by decide) (Nat.le_of_ble_eq_true rfl) (by decide) hkc hks ?_
  rintro v h' (⟨x, h0, ⟨g, e, d1, L1, rfl, s1, s2⟩, rfl, rfl⟩ | ⟨k0, ⟨rfl, rfl, g⟩, rfl⟩)
  · cases e
    have bb := IMm_sm b (SXm s1)
    refine y_s rfl rfl ?_
    refine y_s rfl rfl ?_
    refine y_s rfl rfl ?_
    refine y_s rfl rfl ?_
    refine y_s rfl rfl ?_
    refine y_s rfl rfl ?_
    refine y_sld rfl (nI_a1 j) (by omega) hn ?_
    refine y_s rfl rfl ?_
    refine y_s rfl rfl ?_
    refine y_s rfl rfl ?_
    refine y_s rfl rfl ?_
    refine y_sld rfl (nI_a2 j) (by omega) hn ?_
    refine y_cv (q_points (d := d1) (L := _) bb.1 c1 _ _) rfl rfl rfl (by decide) rfl (by decide) rfl (Nat.le_of_ble_eq_true rfl) (by decide) (Nat.zero_le _) (Nat.zero_le _) ?_
    rintro v h' ⟨rfl, d2, rfl, m2, t2⟩
    rw [if_pos g] at t2 ⊢
    exact tl_points t2 (fun _ => rfl) (K d2 _ (LI_q hI0 s1 m2))
  · refine y_s rfl rfl ?_
    refine y_s rfl rfl ?_
    refine y_s rfl rfl ?_
    refine y_s rfl rfl ?_
    refine y_s rfl rfl ?_
    refine y_s rfl rfl ?_
    refine y_sld rfl (nI_a1 j) (by omega) hn ?_
    refine y_s rfl rfl ?_
    refine y_s rfl rfl ?_
    refine y_s rfl rfl ?_
    refine y_s rfl rfl ?_
    refine y_sld rfl (nI_a2 j) (by omega) hn ?_
    refine y_cv (q_points (d := d) (L := _) b.1 c1 _ _) rfl rfl rfl (by decide) rfl (by decide) rfl (Nat.le_of_ble_eq_true rfl) (by decide) (Nat.zero_le _) (Nat.zero_le _) ?_
    rintro v h' ⟨rfl, d2, rfl, m2, t2⟩
    have t3 : d2 112 0 = 1 := by rw [t2]; simp [g]
    exact tl_points t3 (fun z => absurd z (by decide)) (K d2 _ (LI_q hI0 sm_rfl m2))
set_option maxRecDepth 100000 in
set_option maxHeartbeats 1000000 in
theorem tl_accused {n j kc ks : Nat} {xs : Nat → Int32} {d : Nat → Nat → Int32} {L : Nat → Nat → Int64} {kk bb : Int32} (ht : d 112 0 = kk) (ho : kk = 0 → L 145 0 = bb.toInt64) (K : ExG (PhS n xs) false (mW []) false 70 kc ks 2675 (lk j) [] (W0 d L) Qe Xe) : ExG (PhS n xs) false (mW pC11) false 70 kc ks 894 (lk5 j kk none) [.int bb] (W0 d L) Qe Xe := by
  have K' : ∀ o6, ExG (PhS n xs) false (mW pC11) false 70 kc ks 924 (lk5 j kk o6) [] (W0 d L) Qe Xe := fun o6 => by
    refine y_s rfl rfl ?_
    exact y_fl7 (y_rows ⟨rfl, trivial⟩ K)
  refine y_s rfl rfl ?_
  refine y_s rfl rfl ?_
  refine y_cv (k_thrown (d := d) (L := L)) rfl rfl rfl (by decide) rfl (by decide) rfl (by decide) (by decide) (Nat.zero_le _) (Nat.zero_le _) ?_
  rintro v h' ⟨rfl, rfl⟩
  refine y_s rfl rfl ?_
  refine y_br rfl rfl (fun _ => ?_) (fun c => absurd ht c)
  refine y_s rfl rfl ?_
  refine y_br rfl rfl (fun _ => K' _) (fun c => ?_)
  refine y_s rfl rfl ?_
  refine y_s rfl rfl ?_
  refine y_ald rfl rfl rfl (k := 0) rfl (by decide) (by decide) rfl ?_
  refine y_s rfl rfl ?_
  refine y_s rfl rfl ?_
  refine y_s rfl rfl ?_
  exact y_br rfl rfl (fun _ => K' _) (fun z => absurd (lcmp_e (ho c)) z)
set_option maxRecDepth 100000 in
set_option maxHeartbeats 1000000 in
theorem lw_accused {n j kc ks : Nat} {xs : Nat → Int32} {d : Nat → Nat → Int32} {L : Nat → Nat → Int64} (hj : j + 6 ≤ n) (hn : n ≤ 3072) (hI : LI d) (hkc : 6 ≤ kc) (hks : 36 ≤ ks) (K : ∀ d' L', LI d' → ExG (PhS n xs) false (mW []) false 70 (kc - 6) (ks - 36) 2675 (lk j) [] (W0 d' L') Qe Xe) : ExG (PhS n xs) false (mW []) false 70 kc ks 871 (lk j) [] (W0 d L) Qe Xe := by
  have hI0 := hI
  obtain ⟨F, nA, E, G, Z, m, T, I, a, b, c, jj⟩ := hI
  have a1 := a.1
  have a2 := a.2.1
  have a3 := a.2.2.1
  have a4 := a.2.2.2.1
  have a5 := a.2.2.2.2.1
  have c1 := c.1
  have c2 := c.2.1
  have c3 := c.2.2.1
  have c4 := c.2.2.2.1
  refine y_rows gC11 ?_
  refine y_s rfl rfl ?_
  refine y_s rfl rfl ?_
  refine y_s rfl rfl ?_
  refine y_s rfl rfl ?_
  refine y_s rfl rfl ?_
  refine y_sld rfl (nI_a1 j) (by omega) hn ?_
  refine y_s rfl rfl ?_
  refine y_ch (h_accused (p_accused (d := d) (L := L) a1 c1 a2 _) rfl qG_Q qT_X) rfl rfl rfl (by decide) (Nat.le_of_ble_eq_true rfl) (by decide) hkc hks ?_
  rintro v h' (⟨x, h0, ⟨g, e, d1, L1, rfl, s1, s2⟩, rfl, rfl⟩ | ⟨k0, ⟨rfl, rfl, g⟩, rfl⟩)
  · cases e
    have bb := IMm_sm b (SXm s1)
    refine y_s rfl rfl ?_
    refine y_s rfl rfl ?_
    refine y_s rfl rfl ?_
    refine y_s rfl rfl ?_
    refine y_s rfl rfl ?_
    refine y_s rfl rfl ?_
    refine y_sld rfl (nI_a1 j) (by omega) hn ?_
    refine y_cv (q_accused (d := d1) (L := _) bb.1 c1 _) rfl rfl rfl (by decide) rfl (by decide) rfl (Nat.le_of_ble_eq_true rfl) (by decide) (Nat.zero_le _) (Nat.zero_le _) ?_
    rintro v h' ⟨rfl, d2, rfl, m2, t2⟩
    rw [if_pos g] at t2 ⊢
    exact tl_accused t2 (fun _ => rfl) (K d2 _ (LI_q hI0 s1 m2))
  · refine y_s rfl rfl ?_
    refine y_s rfl rfl ?_
    refine y_s rfl rfl ?_
    refine y_s rfl rfl ?_
    refine y_s rfl rfl ?_
    refine y_s rfl rfl ?_
    refine y_sld rfl (nI_a1 j) (by omega) hn ?_
    refine y_cv (q_accused (d := d) (L := _) b.1 c1 _) rfl rfl rfl (by decide) rfl (by decide) rfl (Nat.le_of_ble_eq_true rfl) (by decide) (Nat.zero_le _) (Nat.zero_le _) ?_
    rintro v h' ⟨rfl, d2, rfl, m2, t2⟩
    have t3 : d2 112 0 = 1 := by rw [t2]; simp [g]
    exact tl_accused t3 (fun z => absurd z (by decide)) (K d2 _ (LI_q hI0 sm_rfl m2))
set_option maxRecDepth 100000 in
set_option maxHeartbeats 1000000 in
theorem tl_suspects {n j kc ks : Nat} {xs : Nat → Int32} {d : Nat → Nat → Int32} {L : Nat → Nat → Int64} {kk bb : Int32} (ht : d 112 0 = kk) (ho : kk = 0 → L 145 0 = bb.toInt64) (K : ExG (PhS n xs) false (mW []) false 70 kc ks 2675 (lk j) [] (W0 d L) Qe Xe) : ExG (PhS n xs) false (mW pC25) false 70 kc ks 1629 (lk5 j kk none) [.int bb] (W0 d L) Qe Xe := by
  have K' : ∀ o6, ExG (PhS n xs) false (mW pC25) false 70 kc ks 1659 (lk5 j kk o6) [] (W0 d L) Qe Xe := fun o6 => by
    refine y_s rfl rfl ?_
    exact y_fl7 (y_rows ⟨rfl, trivial⟩ K)
  refine y_s rfl rfl ?_
  refine y_s rfl rfl ?_
  refine y_cv (k_thrown (d := d) (L := L)) rfl rfl rfl (by decide) rfl (by decide) rfl (by decide) (by decide) (Nat.zero_le _) (Nat.zero_le _) ?_
  rintro v h' ⟨rfl, rfl⟩
  refine y_s rfl rfl ?_
  refine y_br rfl rfl (fun _ => ?_) (fun c => absurd ht c)
  refine y_s rfl rfl ?_
  refine y_br rfl rfl (fun _ => K' _) (fun c => ?_)
  refine y_s rfl rfl ?_
  refine y_s rfl rfl ?_
  refine y_ald rfl rfl rfl (k := 0) rfl (by decide) (by decide) rfl ?_
  refine y_s rfl rfl ?_
  refine y_s rfl rfl ?_
  refine y_s rfl rfl ?_
  exact y_br rfl rfl (fun _ => K' _) (fun z => absurd (lcmp_e (ho c)) z)
set_option maxRecDepth 100000 in
set_option maxHeartbeats 1000000 in
theorem lw_suspects {n j kc ks : Nat} {xs : Nat → Int32} {d : Nat → Nat → Int32} {L : Nat → Nat → Int64} (hj : j + 6 ≤ n) (hn : n ≤ 3072) (hI : LI d) (hkc : 6 ≤ kc) (hks : 36 ≤ ks) (K : ∀ d' L', LI d' → ExG (PhS n xs) false (mW []) false 70 (kc - 6) (ks - 36) 2675 (lk j) [] (W0 d' L') Qe Xe) : ExG (PhS n xs) false (mW []) false 70 kc ks 1606 (lk j) [] (W0 d L) Qe Xe := by
  have hI0 := hI
  obtain ⟨F, nA, E, G, Z, m, T, I, a, b, c, jj⟩ := hI
  have a1 := a.1
  have a2 := a.2.1
  have a3 := a.2.2.1
  have a4 := a.2.2.2.1
  have a5 := a.2.2.2.2.1
  have c1 := c.1
  have c2 := c.2.1
  have c3 := c.2.2.1
  have c4 := c.2.2.2.1
  refine y_rows gC25 ?_
  refine y_s rfl rfl ?_
  refine y_s rfl rfl ?_
  refine y_s rfl rfl ?_
  refine y_s rfl rfl ?_
  refine y_s rfl rfl ?_
  refine y_sld rfl (nI_a1 j) (by omega) hn ?_
  refine y_s rfl rfl ?_
  refine y_ch (h_suspects (p_suspects (d := d) (L := L) a1 c1 a2 a4 c4 _) rfl qG_Q qT_X) rfl rfl rfl (by decide) (Nat.le_of_ble_eq_true rfl) (by decide) hkc hks ?_
  rintro v h' (⟨x, h0, ⟨g, e, d1, L1, rfl, s1, s2⟩, rfl, rfl⟩ | ⟨k0, ⟨rfl, rfl, g⟩, rfl⟩)
  · cases e
    have bb := IMm_sm b (SXm s1)
    refine y_s rfl rfl ?_
    refine y_s rfl rfl ?_
    refine y_s rfl rfl ?_
    refine y_s rfl rfl ?_
    refine y_s rfl rfl ?_
    refine y_s rfl rfl ?_
    refine y_sld rfl (nI_a1 j) (by omega) hn ?_
    refine y_cv (q_suspects (d := d1) (L := _) bb.1 c1 bb.2.2.2.1 c4 _) rfl rfl rfl (by decide) rfl (by decide) rfl (Nat.le_of_ble_eq_true rfl) (by decide) (Nat.zero_le _) (Nat.zero_le _) ?_
    rintro v h' ⟨rfl, d2, rfl, m2, t2⟩
    rw [if_pos g] at t2 ⊢
    exact tl_suspects t2 (fun _ => rfl) (K d2 _ (LI_q hI0 s1 m2))
  · refine y_s rfl rfl ?_
    refine y_s rfl rfl ?_
    refine y_s rfl rfl ?_
    refine y_s rfl rfl ?_
    refine y_s rfl rfl ?_
    refine y_s rfl rfl ?_
    refine y_sld rfl (nI_a1 j) (by omega) hn ?_
    refine y_cv (q_suspects (d := d) (L := _) b.1 c1 b.2.2.2.1 c4 _) rfl rfl rfl (by decide) rfl (by decide) rfl (Nat.le_of_ble_eq_true rfl) (by decide) (Nat.zero_le _) (Nat.zero_le _) ?_
    rintro v h' ⟨rfl, d2, rfl, m2, t2⟩
    have t3 : d2 112 0 = 1 := by rw [t2]; simp [g]
    exact tl_suspects t3 (fun z => absurd z (by decide)) (K d2 _ (LI_q hI0 sm_rfl m2))
set_option maxRecDepth 100000 in
set_option maxHeartbeats 1000000 in
theorem tl_spots {n j kc ks : Nat} {xs : Nat → Int32} {d : Nat → Nat → Int32} {L : Nat → Nat → Int64} {kk bb : Int32} (ht : d 112 0 = kk) (ho : kk = 0 → L 145 0 = bb.toInt64) (K : ExG (PhS n xs) false (mW []) false 70 kc ks 2675 (lk j) [] (W0 d L) Qe Xe) : ExG (PhS n xs) false (mW pC26) false 70 kc ks 1697 (lk5 j kk none) [.int bb] (W0 d L) Qe Xe := by
  have K' : ∀ o6, ExG (PhS n xs) false (mW pC26) false 70 kc ks 1727 (lk5 j kk o6) [] (W0 d L) Qe Xe := fun o6 => by
    refine y_s rfl rfl ?_
    exact y_fl7 (y_rows ⟨rfl, trivial⟩ K)
  refine y_s rfl rfl ?_
  refine y_s rfl rfl ?_
  refine y_cv (k_thrown (d := d) (L := L)) rfl rfl rfl (by decide) rfl (by decide) rfl (by decide) (by decide) (Nat.zero_le _) (Nat.zero_le _) ?_
  rintro v h' ⟨rfl, rfl⟩
  refine y_s rfl rfl ?_
  refine y_br rfl rfl (fun _ => ?_) (fun c => absurd ht c)
  refine y_s rfl rfl ?_
  refine y_br rfl rfl (fun _ => K' _) (fun c => ?_)
  refine y_s rfl rfl ?_
  refine y_s rfl rfl ?_
  refine y_ald rfl rfl rfl (k := 0) rfl (by decide) (by decide) rfl ?_
  refine y_s rfl rfl ?_
  refine y_s rfl rfl ?_
  refine y_s rfl rfl ?_
  exact y_br rfl rfl (fun _ => K' _) (fun z => absurd (lcmp_e (ho c)) z)
set_option maxRecDepth 100000 in
set_option maxHeartbeats 1000000 in
theorem lw_spots {n j kc ks : Nat} {xs : Nat → Int32} {d : Nat → Nat → Int32} {L : Nat → Nat → Int64} (hj : j + 6 ≤ n) (hn : n ≤ 3072) (hI : LI d) (hkc : 6 ≤ kc) (hks : 36 ≤ ks) (K : ∀ d' L', LI d' → ExG (PhS n xs) false (mW []) false 70 (kc - 6) (ks - 36) 2675 (lk j) [] (W0 d' L') Qe Xe) : ExG (PhS n xs) false (mW []) false 70 kc ks 1662 (lk j) [] (W0 d L) Qe Xe := by
  have hI0 := hI
  obtain ⟨F, nA, E, G, Z, m, T, I, a, b, c, jj⟩ := hI
  have a1 := a.1
  have a2 := a.2.1
  have a3 := a.2.2.1
  have a4 := a.2.2.2.1
  have a5 := a.2.2.2.2.1
  have c1 := c.1
  have c2 := c.2.1
  have c3 := c.2.2.1
  have c4 := c.2.2.2.1
  refine y_rows gC26 ?_
  refine y_s rfl rfl ?_
  refine y_s rfl rfl ?_
  refine y_s rfl rfl ?_
  refine y_s rfl rfl ?_
  refine y_s rfl rfl ?_
  refine y_sld rfl (nI_a1 j) (by omega) hn ?_
  refine y_s rfl rfl ?_
  refine y_s rfl rfl ?_
  refine y_s rfl rfl ?_
  refine y_s rfl rfl ?_
  refine y_sld rfl (nI_a2 j) (by omega) hn ?_
  refine y_s rfl rfl ?_
  refine y_ch (h_spots (p_spots (d := d) (L := L) a1 c1 a2 a4 c4 _ _) rfl qG_Q qT_X) rfl rfl rfl (by decide) (Nat.le_of_ble_eq_true rfl) (by decide) hkc hks ?_
  rintro v h' (⟨x, h0, ⟨g, e, d1, L1, rfl, s1, s2⟩, rfl, rfl⟩ | ⟨k0, ⟨rfl, rfl, g⟩, rfl⟩)
  · cases e
    have bb := IMm_sm b (SXm s1)
    refine y_s rfl rfl ?_
    refine y_s rfl rfl ?_
    refine y_s rfl rfl ?_
    refine y_s rfl rfl ?_
    refine y_s rfl rfl ?_
    refine y_s rfl rfl ?_
    refine y_sld rfl (nI_a1 j) (by omega) hn ?_
    refine y_s rfl rfl ?_
    refine y_s rfl rfl ?_
    refine y_s rfl rfl ?_
    refine y_s rfl rfl ?_
    refine y_sld rfl (nI_a2 j) (by omega) hn ?_
    refine y_cv (q_spots (d := d1) (L := _) bb.1 c1 bb.2.2.2.1 c4 _ _) rfl rfl rfl (by decide) rfl (by decide) rfl (Nat.le_of_ble_eq_true rfl) (by decide) (Nat.zero_le _) (Nat.zero_le _) ?_
    rintro v h' ⟨rfl, d2, rfl, m2, t2⟩
    rw [if_pos g] at t2 ⊢
    exact tl_spots t2 (fun _ => rfl) (K d2 _ (LI_q hI0 s1 m2))
  · refine y_s rfl rfl ?_
    refine y_s rfl rfl ?_
    refine y_s rfl rfl ?_
    refine y_s rfl rfl ?_
    refine y_s rfl rfl ?_
    refine y_s rfl rfl ?_
    refine y_sld rfl (nI_a1 j) (by omega) hn ?_
    refine y_s rfl rfl ?_
    refine y_s rfl rfl ?_
    refine y_s rfl rfl ?_
    refine y_s rfl rfl ?_
    refine y_sld rfl (nI_a2 j) (by omega) hn ?_
    refine y_cv (q_spots (d := d) (L := _) b.1 c1 b.2.2.2.1 c4 _ _) rfl rfl rfl (by decide) rfl (by decide) rfl (Nat.le_of_ble_eq_true rfl) (by decide) (Nat.zero_le _) (Nat.zero_le _) ?_
    rintro v h' ⟨rfl, d2, rfl, m2, t2⟩
    have t3 : d2 112 0 = 1 := by rw [t2]; simp [g]
    exact tl_spots t3 (fun z => absurd z (by decide)) (K d2 _ (LI_q hI0 sm_rfl m2))
set_option maxRecDepth 100000 in
set_option maxHeartbeats 1000000 in
theorem tl_shown {n j kc ks : Nat} {xs : Nat → Int32} {d : Nat → Nat → Int32} {L : Nat → Nat → Int64} {kk bb : Int32} (ht : d 112 0 = kk) (ho : kk = 0 → L 145 0 = bb.toInt64) (K : ExG (PhS n xs) false (mW []) false 70 kc ks 2675 (lk j) [] (W0 d L) Qe Xe) : ExG (PhS n xs) false (mW pC30) false 70 kc ks 2029 (lk5 j kk none) [.int bb] (W0 d L) Qe Xe := by
  have K' : ∀ o6, ExG (PhS n xs) false (mW pC30) false 70 kc ks 2059 (lk5 j kk o6) [] (W0 d L) Qe Xe := fun o6 => by
    refine y_s rfl rfl ?_
    exact y_fl7 (y_rows ⟨rfl, trivial⟩ K)
  refine y_s rfl rfl ?_
  refine y_s rfl rfl ?_
  refine y_cv (k_thrown (d := d) (L := L)) rfl rfl rfl (by decide) rfl (by decide) rfl (by decide) (by decide) (Nat.zero_le _) (Nat.zero_le _) ?_
  rintro v h' ⟨rfl, rfl⟩
  refine y_s rfl rfl ?_
  refine y_br rfl rfl (fun _ => ?_) (fun c => absurd ht c)
  refine y_s rfl rfl ?_
  refine y_br rfl rfl (fun _ => K' _) (fun c => ?_)
  refine y_s rfl rfl ?_
  refine y_s rfl rfl ?_
  refine y_ald rfl rfl rfl (k := 0) rfl (by decide) (by decide) rfl ?_
  refine y_s rfl rfl ?_
  refine y_s rfl rfl ?_
  refine y_s rfl rfl ?_
  exact y_br rfl rfl (fun _ => K' _) (fun z => absurd (lcmp_e (ho c)) z)
set_option maxRecDepth 100000 in
set_option maxHeartbeats 1000000 in
theorem lw_shown {n j kc ks : Nat} {xs : Nat → Int32} {d : Nat → Nat → Int32} {L : Nat → Nat → Int64} (hj : j + 6 ≤ n) (hn : n ≤ 3072) (hI : LI d) (hkc : 6 ≤ kc) (hks : 36 ≤ ks) (K : ∀ d' L', LI d' → ExG (PhS n xs) false (mW []) false 70 (kc - 6) (ks - 36) 2675 (lk j) [] (W0 d' L') Qe Xe) : ExG (PhS n xs) false (mW []) false 70 kc ks 1994 (lk j) [] (W0 d L) Qe Xe := by
  have hI0 := hI
  obtain ⟨F, nA, E, G, Z, m, T, I, a, b, c, jj⟩ := hI
  have a1 := a.1
  have a2 := a.2.1
  have a3 := a.2.2.1
  have a4 := a.2.2.2.1
  have a5 := a.2.2.2.2.1
  have c1 := c.1
  have c2 := c.2.1
  have c3 := c.2.2.1
  have c4 := c.2.2.2.1
  refine y_rows gC30 ?_
  refine y_s rfl rfl ?_
  refine y_s rfl rfl ?_
  refine y_s rfl rfl ?_
  refine y_s rfl rfl ?_
  refine y_s rfl rfl ?_
  refine y_sld rfl (nI_a1 j) (by omega) hn ?_
  refine y_s rfl rfl ?_
  refine y_s rfl rfl ?_
  refine y_s rfl rfl ?_
  refine y_s rfl rfl ?_
  refine y_sld rfl (nI_a2 j) (by omega) hn ?_
  refine y_s rfl rfl ?_
  refine y_ch (h_shown (p_shown (d := d) (L := L) a1 c1 a2 _ _) rfl qG_Q qT_X) rfl rfl rfl (by decide) (Nat.le_of_ble_eq_true rfl) (by decide) hkc hks ?_
  rintro v h' (⟨x, h0, ⟨g, e, d1, L1, rfl, s1, s2⟩, rfl, rfl⟩ | ⟨k0, ⟨rfl, rfl, g⟩, rfl⟩)
  · cases e
    have bb := IMm_sm b (SXm s1)
    refine y_s rfl rfl ?_
    refine y_s rfl rfl ?_
    refine y_s rfl rfl ?_
    refine y_s rfl rfl ?_
    refine y_s rfl rfl ?_
    refine y_s rfl rfl ?_
    refine y_sld rfl (nI_a1 j) (by omega) hn ?_
    refine y_s rfl rfl ?_
    refine y_s rfl rfl ?_
    refine y_s rfl rfl ?_
    refine y_s rfl rfl ?_
    refine y_sld rfl (nI_a2 j) (by omega) hn ?_
    refine y_cv (q_shown (d := d1) (L := _) bb.1 c1 _ _) rfl rfl rfl (by decide) rfl (by decide) rfl (Nat.le_of_ble_eq_true rfl) (by decide) (Nat.zero_le _) (Nat.zero_le _) ?_
    rintro v h' ⟨rfl, d2, rfl, m2, t2⟩
    rw [if_pos g] at t2 ⊢
    exact tl_shown t2 (fun _ => rfl) (K d2 _ (LI_q hI0 s1 m2))
  · refine y_s rfl rfl ?_
    refine y_s rfl rfl ?_
    refine y_s rfl rfl ?_
    refine y_s rfl rfl ?_
    refine y_s rfl rfl ?_
    refine y_s rfl rfl ?_
    refine y_sld rfl (nI_a1 j) (by omega) hn ?_
    refine y_s rfl rfl ?_
    refine y_s rfl rfl ?_
    refine y_s rfl rfl ?_
    refine y_s rfl rfl ?_
    refine y_sld rfl (nI_a2 j) (by omega) hn ?_
    refine y_cv (q_shown (d := d) (L := _) b.1 c1 _ _) rfl rfl rfl (by decide) rfl (by decide) rfl (Nat.le_of_ble_eq_true rfl) (by decide) (Nat.zero_le _) (Nat.zero_le _) ?_
    rintro v h' ⟨rfl, d2, rfl, m2, t2⟩
    have t3 : d2 112 0 = 1 := by rw [t2]; simp [g]
    exact tl_shown t3 (fun z => absurd z (by decide)) (K d2 _ (LI_q hI0 sm_rfl m2))
set_option maxRecDepth 100000 in
set_option maxHeartbeats 1000000 in
theorem tl_named {n j kc ks : Nat} {xs : Nat → Int32} {d : Nat → Nat → Int32} {L : Nat → Nat → Int64} {kk bb : Int32} (ht : d 112 0 = kk) (ho : kk = 0 → L 145 0 = bb.toInt64) (K : ExG (PhS n xs) false (mW []) false 70 kc ks 2675 (lk j) [] (W0 d L) Qe Xe) : ExG (PhS n xs) false (mW pC31) false 70 kc ks 2097 (lk5 j kk none) [.int bb] (W0 d L) Qe Xe := by
  have K' : ∀ o6, ExG (PhS n xs) false (mW pC31) false 70 kc ks 2127 (lk5 j kk o6) [] (W0 d L) Qe Xe := fun o6 => by
    refine y_s rfl rfl ?_
    exact y_fl7 (y_rows ⟨rfl, trivial⟩ K)
  refine y_s rfl rfl ?_
  refine y_s rfl rfl ?_
  refine y_cv (k_thrown (d := d) (L := L)) rfl rfl rfl (by decide) rfl (by decide) rfl (by decide) (by decide) (Nat.zero_le _) (Nat.zero_le _) ?_
  rintro v h' ⟨rfl, rfl⟩
  refine y_s rfl rfl ?_
  refine y_br rfl rfl (fun _ => ?_) (fun c => absurd ht c)
  refine y_s rfl rfl ?_
  refine y_br rfl rfl (fun _ => K' _) (fun c => ?_)
  refine y_s rfl rfl ?_
  refine y_s rfl rfl ?_
  refine y_ald rfl rfl rfl (k := 0) rfl (by decide) (by decide) rfl ?_
  refine y_s rfl rfl ?_
  refine y_s rfl rfl ?_
  refine y_s rfl rfl ?_
  exact y_br rfl rfl (fun _ => K' _) (fun z => absurd (lcmp_e (ho c)) z)
set_option maxRecDepth 100000 in
set_option maxHeartbeats 1000000 in
theorem lw_named {n j kc ks : Nat} {xs : Nat → Int32} {d : Nat → Nat → Int32} {L : Nat → Nat → Int64} (hj : j + 6 ≤ n) (hn : n ≤ 3072) (hI : LI d) (hkc : 6 ≤ kc) (hks : 36 ≤ ks) (K : ∀ d' L', LI d' → ExG (PhS n xs) false (mW []) false 70 (kc - 6) (ks - 36) 2675 (lk j) [] (W0 d' L') Qe Xe) : ExG (PhS n xs) false (mW []) false 70 kc ks 2062 (lk j) [] (W0 d L) Qe Xe := by
  have hI0 := hI
  obtain ⟨F, nA, E, G, Z, m, T, I, a, b, c, jj⟩ := hI
  have a1 := a.1
  have a2 := a.2.1
  have a3 := a.2.2.1
  have a4 := a.2.2.2.1
  have a5 := a.2.2.2.2.1
  have c1 := c.1
  have c2 := c.2.1
  have c3 := c.2.2.1
  have c4 := c.2.2.2.1
  refine y_rows gC31 ?_
  refine y_s rfl rfl ?_
  refine y_s rfl rfl ?_
  refine y_s rfl rfl ?_
  refine y_s rfl rfl ?_
  refine y_s rfl rfl ?_
  refine y_sld rfl (nI_a1 j) (by omega) hn ?_
  refine y_s rfl rfl ?_
  refine y_s rfl rfl ?_
  refine y_s rfl rfl ?_
  refine y_s rfl rfl ?_
  refine y_sld rfl (nI_a2 j) (by omega) hn ?_
  refine y_s rfl rfl ?_
  refine y_ch (h_named (p_named (d := d) (L := L) a1 c1 a2 _ _) rfl qG_Q qT_X) rfl rfl rfl (by decide) (Nat.le_of_ble_eq_true rfl) (by decide) hkc hks ?_
  rintro v h' (⟨x, h0, ⟨g, e, d1, L1, rfl, s1, s2⟩, rfl, rfl⟩ | ⟨k0, ⟨rfl, rfl, g⟩, rfl⟩)
  · cases e
    have bb := IMm_sm b (SXm s1)
    refine y_s rfl rfl ?_
    refine y_s rfl rfl ?_
    refine y_s rfl rfl ?_
    refine y_s rfl rfl ?_
    refine y_s rfl rfl ?_
    refine y_s rfl rfl ?_
    refine y_sld rfl (nI_a1 j) (by omega) hn ?_
    refine y_s rfl rfl ?_
    refine y_s rfl rfl ?_
    refine y_s rfl rfl ?_
    refine y_s rfl rfl ?_
    refine y_sld rfl (nI_a2 j) (by omega) hn ?_
    refine y_cv (q_named (d := d1) (L := _) bb.1 c1 _ _) rfl rfl rfl (by decide) rfl (by decide) rfl (Nat.le_of_ble_eq_true rfl) (by decide) (Nat.zero_le _) (Nat.zero_le _) ?_
    rintro v h' ⟨rfl, d2, rfl, m2, t2⟩
    rw [if_pos g] at t2 ⊢
    exact tl_named t2 (fun _ => rfl) (K d2 _ (LI_q hI0 s1 m2))
  · refine y_s rfl rfl ?_
    refine y_s rfl rfl ?_
    refine y_s rfl rfl ?_
    refine y_s rfl rfl ?_
    refine y_s rfl rfl ?_
    refine y_s rfl rfl ?_
    refine y_sld rfl (nI_a1 j) (by omega) hn ?_
    refine y_s rfl rfl ?_
    refine y_s rfl rfl ?_
    refine y_s rfl rfl ?_
    refine y_s rfl rfl ?_
    refine y_sld rfl (nI_a2 j) (by omega) hn ?_
    refine y_cv (q_named (d := d) (L := _) b.1 c1 _ _) rfl rfl rfl (by decide) rfl (by decide) rfl (Nat.le_of_ble_eq_true rfl) (by decide) (Nat.zero_le _) (Nat.zero_le _) ?_
    rintro v h' ⟨rfl, d2, rfl, m2, t2⟩
    have t3 : d2 112 0 = 1 := by rw [t2]; simp [g]
    exact tl_named t3 (fun z => absurd z (by decide)) (K d2 _ (LI_q hI0 sm_rfl m2))
set_option maxRecDepth 100000 in
set_option maxHeartbeats 1000000 in
theorem tl_butFor {n j kc ks : Nat} {xs : Nat → Int32} {d : Nat → Nat → Int32} {L : Nat → Nat → Int64} {kk bb : Int32} (ht : d 112 0 = kk) (ho : kk = 0 → L 145 0 = bb.toInt64) (K : ExG (PhS n xs) false (mW []) false 70 kc ks 2675 (lk j) [] (W0 d L) Qe Xe) : ExG (PhS n xs) false (mW pC32) false 70 kc ks 2153 (lk5 j kk none) [.int bb] (W0 d L) Qe Xe := by
  have K' : ∀ o6, ExG (PhS n xs) false (mW pC32) false 70 kc ks 2183 (lk5 j kk o6) [] (W0 d L) Qe Xe := fun o6 => by
    refine y_s rfl rfl ?_
    exact y_fl7 (y_rows ⟨rfl, trivial⟩ K)
  refine y_s rfl rfl ?_
  refine y_s rfl rfl ?_
  refine y_cv (k_thrown (d := d) (L := L)) rfl rfl rfl (by decide) rfl (by decide) rfl (by decide) (by decide) (Nat.zero_le _) (Nat.zero_le _) ?_
  rintro v h' ⟨rfl, rfl⟩
  refine y_s rfl rfl ?_
  refine y_br rfl rfl (fun _ => ?_) (fun c => absurd ht c)
  refine y_s rfl rfl ?_
  refine y_br rfl rfl (fun _ => K' _) (fun c => ?_)
  refine y_s rfl rfl ?_
  refine y_s rfl rfl ?_
  refine y_ald rfl rfl rfl (k := 0) rfl (by decide) (by decide) rfl ?_
  refine y_s rfl rfl ?_
  refine y_s rfl rfl ?_
  refine y_s rfl rfl ?_
  exact y_br rfl rfl (fun _ => K' _) (fun z => absurd (lcmp_e (ho c)) z)
set_option maxRecDepth 100000 in
set_option maxHeartbeats 1000000 in
theorem lw_butFor {n j kc ks : Nat} {xs : Nat → Int32} {d : Nat → Nat → Int32} {L : Nat → Nat → Int64} (hj : j + 6 ≤ n) (hn : n ≤ 3072) (hI : LI d) (hkc : 6 ≤ kc) (hks : 36 ≤ ks) (K : ∀ d' L', LI d' → ExG (PhS n xs) false (mW []) false 70 (kc - 6) (ks - 36) 2675 (lk j) [] (W0 d' L') Qe Xe) : ExG (PhS n xs) false (mW []) false 70 kc ks 2130 (lk j) [] (W0 d L) Qe Xe := by
  have hI0 := hI
  obtain ⟨F, nA, E, G, Z, m, T, I, a, b, c, jj⟩ := hI
  have a1 := a.1
  have a2 := a.2.1
  have a3 := a.2.2.1
  have a4 := a.2.2.2.1
  have a5 := a.2.2.2.2.1
  have c1 := c.1
  have c2 := c.2.1
  have c3 := c.2.2.1
  have c4 := c.2.2.2.1
  refine y_rows gC32 ?_
  refine y_s rfl rfl ?_
  refine y_s rfl rfl ?_
  refine y_s rfl rfl ?_
  refine y_s rfl rfl ?_
  refine y_s rfl rfl ?_
  refine y_sld rfl (nI_a1 j) (by omega) hn ?_
  refine y_s rfl rfl ?_
  refine y_ch (h_butFor (p_butFor (d := d) (L := L) a1 c1 a2 _) rfl qG_Q qT_X) rfl rfl rfl (by decide) (Nat.le_of_ble_eq_true rfl) (by decide) hkc hks ?_
  rintro v h' (⟨x, h0, ⟨g, e, d1, L1, rfl, s1, s2⟩, rfl, rfl⟩ | ⟨k0, ⟨rfl, rfl, g⟩, rfl⟩)
  · cases e
    have bb := IMm_sm b (SXm s1)
    refine y_s rfl rfl ?_
    refine y_s rfl rfl ?_
    refine y_s rfl rfl ?_
    refine y_s rfl rfl ?_
    refine y_s rfl rfl ?_
    refine y_s rfl rfl ?_
    refine y_sld rfl (nI_a1 j) (by omega) hn ?_
    refine y_cv (q_butFor (d := d1) (L := _) bb.1 c1 _) rfl rfl rfl (by decide) rfl (by decide) rfl (Nat.le_of_ble_eq_true rfl) (by decide) (Nat.zero_le _) (Nat.zero_le _) ?_
    rintro v h' ⟨rfl, d2, rfl, m2, t2⟩
    rw [if_pos g] at t2 ⊢
    exact tl_butFor t2 (fun _ => rfl) (K d2 _ (LI_q hI0 s1 m2))
  · refine y_s rfl rfl ?_
    refine y_s rfl rfl ?_
    refine y_s rfl rfl ?_
    refine y_s rfl rfl ?_
    refine y_s rfl rfl ?_
    refine y_s rfl rfl ?_
    refine y_sld rfl (nI_a1 j) (by omega) hn ?_
    refine y_cv (q_butFor (d := d) (L := _) b.1 c1 _) rfl rfl rfl (by decide) rfl (by decide) rfl (Nat.le_of_ble_eq_true rfl) (by decide) (Nat.zero_le _) (Nat.zero_le _) ?_
    rintro v h' ⟨rfl, d2, rfl, m2, t2⟩
    have t3 : d2 112 0 = 1 := by rw [t2]; simp [g]
    exact tl_butFor t3 (fun z => absurd z (by decide)) (K d2 _ (LI_q hI0 sm_rfl m2))
set_option maxRecDepth 100000 in
set_option maxHeartbeats 1000000 in
theorem tl_rusted {n j kc ks : Nat} {xs : Nat → Int32} {d : Nat → Nat → Int32} {L : Nat → Nat → Int64} {kk bb : Int32} (ht : d 112 0 = kk) (ho : kk = 0 → L 145 0 = bb.toInt64) (K : ExG (PhS n xs) false (mW []) false 70 kc ks 2675 (lk j) [] (W0 d L) Qe Xe) : ExG (PhS n xs) false (mW pC33) false 70 kc ks 2209 (lk5 j kk none) [.int bb] (W0 d L) Qe Xe := by
  have K' : ∀ o6, ExG (PhS n xs) false (mW pC33) false 70 kc ks 2239 (lk5 j kk o6) [] (W0 d L) Qe Xe := fun o6 => by
    refine y_s rfl rfl ?_
    exact y_fl7 (y_rows ⟨rfl, trivial⟩ K)
  refine y_s rfl rfl ?_
  refine y_s rfl rfl ?_
  refine y_cv (k_thrown (d := d) (L := L)) rfl rfl rfl (by decide) rfl (by decide) rfl (by decide) (by decide) (Nat.zero_le _) (Nat.zero_le _) ?_
  rintro v h' ⟨rfl, rfl⟩
  refine y_s rfl rfl ?_
  refine y_br rfl rfl (fun _ => ?_) (fun c => absurd ht c)
  refine y_s rfl rfl ?_
  refine y_br rfl rfl (fun _ => K' _) (fun c => ?_)
  refine y_s rfl rfl ?_
  refine y_s rfl rfl ?_
  refine y_ald rfl rfl rfl (k := 0) rfl (by decide) (by decide) rfl ?_
  refine y_s rfl rfl ?_
  refine y_s rfl rfl ?_
  refine y_s rfl rfl ?_
  exact y_br rfl rfl (fun _ => K' _) (fun z => absurd (lcmp_e (ho c)) z)
set_option maxRecDepth 100000 in
set_option maxHeartbeats 1000000 in
theorem lw_rusted {n j kc ks : Nat} {xs : Nat → Int32} {d : Nat → Nat → Int32} {L : Nat → Nat → Int64} (hj : j + 6 ≤ n) (hn : n ≤ 3072) (hI : LI d) (hkc : 6 ≤ kc) (hks : 36 ≤ ks) (K : ∀ d' L', LI d' → ExG (PhS n xs) false (mW []) false 70 (kc - 6) (ks - 36) 2675 (lk j) [] (W0 d' L') Qe Xe) : ExG (PhS n xs) false (mW []) false 70 kc ks 2186 (lk j) [] (W0 d L) Qe Xe := by
  have hI0 := hI
  obtain ⟨F, nA, E, G, Z, m, T, I, a, b, c, jj⟩ := hI
  have a1 := a.1
  have a2 := a.2.1
  have a3 := a.2.2.1
  have a4 := a.2.2.2.1
  have a5 := a.2.2.2.2.1
  have c1 := c.1
  have c2 := c.2.1
  have c3 := c.2.2.1
  have c4 := c.2.2.2.1
  refine y_rows gC33 ?_
  refine y_s rfl rfl ?_
  refine y_s rfl rfl ?_
  refine y_s rfl rfl ?_
  refine y_s rfl rfl ?_
  refine y_s rfl rfl ?_
  refine y_sld rfl (nI_a1 j) (by omega) hn ?_
  refine y_s rfl rfl ?_
  refine y_ch (h_rusted (p_rusted (d := d) (L := L) a1 c1 _) rfl qG_Q qT_X) rfl rfl rfl (by decide) (Nat.le_of_ble_eq_true rfl) (by decide) hkc hks ?_
  rintro v h' (⟨x, h0, ⟨g, e, d1, L1, rfl, s1, s2⟩, rfl, rfl⟩ | ⟨k0, ⟨rfl, rfl, g⟩, rfl⟩)
  · cases e
    have bb := IMm_sm b (SXm s1)
    refine y_s rfl rfl ?_
    refine y_s rfl rfl ?_
    refine y_s rfl rfl ?_
    refine y_s rfl rfl ?_
    refine y_s rfl rfl ?_
    refine y_s rfl rfl ?_
    refine y_sld rfl (nI_a1 j) (by omega) hn ?_
    refine y_cv (q_rusted (d := d1) (L := _) bb.1 c1 _) rfl rfl rfl (by decide) rfl (by decide) rfl (Nat.le_of_ble_eq_true rfl) (by decide) (Nat.zero_le _) (Nat.zero_le _) ?_
    rintro v h' ⟨rfl, d2, rfl, m2, t2⟩
    rw [if_pos g] at t2 ⊢
    exact tl_rusted t2 (fun _ => rfl) (K d2 _ (LI_q hI0 s1 m2))
  · refine y_s rfl rfl ?_
    refine y_s rfl rfl ?_
    refine y_s rfl rfl ?_
    refine y_s rfl rfl ?_
    refine y_s rfl rfl ?_
    refine y_s rfl rfl ?_
    refine y_sld rfl (nI_a1 j) (by omega) hn ?_
    refine y_cv (q_rusted (d := d) (L := _) b.1 c1 _) rfl rfl rfl (by decide) rfl (by decide) rfl (Nat.le_of_ble_eq_true rfl) (by decide) (Nat.zero_le _) (Nat.zero_le _) ?_
    rintro v h' ⟨rfl, d2, rfl, m2, t2⟩
    have t3 : d2 112 0 = 1 := by rw [t2]; simp [g]
    exact tl_rusted t3 (fun z => absurd z (by decide)) (K d2 _ (LI_q hI0 sm_rfl m2))
set_option maxRecDepth 100000 in
set_option maxHeartbeats 1000000 in
theorem tl_pardon {n j kc ks : Nat} {xs : Nat → Int32} {d : Nat → Nat → Int32} {L : Nat → Nat → Int64} {kk bb : Int32} (ht : d 112 0 = kk) (ho : kk = 0 → L 145 0 = bb.toInt64) (K : ExG (PhS n xs) false (mW []) false 70 kc ks 2675 (lk j) [] (W0 d L) Qe Xe) : ExG (PhS n xs) false (mW pC36) false 70 kc ks 2437 (lk5 j kk none) [.int bb] (W0 d L) Qe Xe := by
  have K' : ∀ o6, ExG (PhS n xs) false (mW pC36) false 70 kc ks 2467 (lk5 j kk o6) [] (W0 d L) Qe Xe := fun o6 => by
    refine y_s rfl rfl ?_
    exact y_fl7 (y_rows ⟨rfl, trivial⟩ K)
  refine y_s rfl rfl ?_
  refine y_s rfl rfl ?_
  refine y_cv (k_thrown (d := d) (L := L)) rfl rfl rfl (by decide) rfl (by decide) rfl (by decide) (by decide) (Nat.zero_le _) (Nat.zero_le _) ?_
  rintro v h' ⟨rfl, rfl⟩
  refine y_s rfl rfl ?_
  refine y_br rfl rfl (fun _ => ?_) (fun c => absurd ht c)
  refine y_s rfl rfl ?_
  refine y_br rfl rfl (fun _ => K' _) (fun c => ?_)
  refine y_s rfl rfl ?_
  refine y_s rfl rfl ?_
  refine y_ald rfl rfl rfl (k := 0) rfl (by decide) (by decide) rfl ?_
  refine y_s rfl rfl ?_
  refine y_s rfl rfl ?_
  refine y_s rfl rfl ?_
  exact y_br rfl rfl (fun _ => K' _) (fun z => absurd (lcmp_e (ho c)) z)
set_option maxRecDepth 100000 in
set_option maxHeartbeats 1000000 in
theorem lw_pardon {n j kc ks : Nat} {xs : Nat → Int32} {d : Nat → Nat → Int32} {L : Nat → Nat → Int64} (hj : j + 6 ≤ n) (hn : n ≤ 3072) (hI : LI d) (hkc : 6 ≤ kc) (hks : 36 ≤ ks) (K : ∀ d' L', LI d' → ExG (PhS n xs) false (mW []) false 70 (kc - 6) (ks - 36) 2675 (lk j) [] (W0 d' L') Qe Xe) : ExG (PhS n xs) false (mW []) false 70 kc ks 2402 (lk j) [] (W0 d L) Qe Xe := by
  have hI0 := hI
  obtain ⟨F, nA, E, G, Z, m, T, I, a, b, c, jj⟩ := hI
  have a1 := a.1
  have a2 := a.2.1
  have a3 := a.2.2.1
  have a4 := a.2.2.2.1
  have a5 := a.2.2.2.2.1
  have c1 := c.1
  have c2 := c.2.1
  have c3 := c.2.2.1
  have c4 := c.2.2.2.1
  refine y_rows gC36 ?_
  refine y_s rfl rfl ?_
  refine y_s rfl rfl ?_
  refine y_s rfl rfl ?_
  refine y_s rfl rfl ?_
  refine y_s rfl rfl ?_
  refine y_sld rfl (nI_a1 j) (by omega) hn ?_
  refine y_s rfl rfl ?_
  refine y_s rfl rfl ?_
  refine y_s rfl rfl ?_
  refine y_s rfl rfl ?_
  refine y_sld rfl (nI_a2 j) (by omega) hn ?_
  refine y_s rfl rfl ?_
  refine y_ch (h_pardon (p_pardon (d := d) (L := L) a1 c1 a2 _ _) rfl qG_Q qT_X) rfl rfl rfl (by decide) (Nat.le_of_ble_eq_true rfl) (by decide) hkc hks ?_
  rintro v h' (⟨x, h0, ⟨g, e, d1, L1, rfl, s1, s2⟩, rfl, rfl⟩ | ⟨k0, ⟨rfl, rfl, g⟩, rfl⟩)
  · cases e
    have bb := IMm_sm b (SXm s1)
    refine y_s rfl rfl ?_
    refine y_s rfl rfl ?_
    refine y_s rfl rfl ?_
    refine y_s rfl rfl ?_
    refine y_s rfl rfl ?_
    refine y_s rfl rfl ?_
    refine y_sld rfl (nI_a1 j) (by omega) hn ?_
    refine y_s rfl rfl ?_
    refine y_s rfl rfl ?_
    refine y_s rfl rfl ?_
    refine y_s rfl rfl ?_
    refine y_sld rfl (nI_a2 j) (by omega) hn ?_
    refine y_cv (q_pardon (d := d1) (L := _) bb.1 c1 _ _) rfl rfl rfl (by decide) rfl (by decide) rfl (Nat.le_of_ble_eq_true rfl) (by decide) (Nat.zero_le _) (Nat.zero_le _) ?_
    rintro v h' ⟨rfl, d2, rfl, m2, t2⟩
    rw [if_pos g] at t2 ⊢
    exact tl_pardon t2 (fun _ => rfl) (K d2 _ (LI_q hI0 s1 m2))
  · refine y_s rfl rfl ?_
    refine y_s rfl rfl ?_
    refine y_s rfl rfl ?_
    refine y_s rfl rfl ?_
    refine y_s rfl rfl ?_
    refine y_s rfl rfl ?_
    refine y_sld rfl (nI_a1 j) (by omega) hn ?_
    refine y_s rfl rfl ?_
    refine y_s rfl rfl ?_
    refine y_s rfl rfl ?_
    refine y_s rfl rfl ?_
    refine y_sld rfl (nI_a2 j) (by omega) hn ?_
    refine y_cv (q_pardon (d := d) (L := _) b.1 c1 _ _) rfl rfl rfl (by decide) rfl (by decide) rfl (Nat.le_of_ble_eq_true rfl) (by decide) (Nat.zero_le _) (Nat.zero_le _) ?_
    rintro v h' ⟨rfl, d2, rfl, m2, t2⟩
    have t3 : d2 112 0 = 1 := by rw [t2]; simp [g]
    exact tl_pardon t3 (fun z => absurd z (by decide)) (K d2 _ (LI_q hI0 sm_rfl m2))
set_option maxRecDepth 100000 in
set_option maxHeartbeats 1000000 in
theorem tl_falsely {n j kc ks : Nat} {xs : Nat → Int32} {d : Nat → Nat → Int32} {L : Nat → Nat → Int64} {kk bb : Int32} (ht : d 112 0 = kk) (ho : kk = 0 → L 145 0 = bb.toInt64) (K : ExG (PhS n xs) false (mW []) false 70 kc ks 2675 (lk j) [] (W0 d L) Qe Xe) : ExG (PhS n xs) false (mW pC37) false 70 kc ks 2493 (lk5 j kk none) [.int bb] (W0 d L) Qe Xe := by
  have K' : ∀ o6, ExG (PhS n xs) false (mW pC37) false 70 kc ks 2523 (lk5 j kk o6) [] (W0 d L) Qe Xe := fun o6 => by
    refine y_s rfl rfl ?_
    exact y_fl7 (y_rows ⟨rfl, trivial⟩ K)
  refine y_s rfl rfl ?_
  refine y_s rfl rfl ?_
  refine y_cv (k_thrown (d := d) (L := L)) rfl rfl rfl (by decide) rfl (by decide) rfl (by decide) (by decide) (Nat.zero_le _) (Nat.zero_le _) ?_
  rintro v h' ⟨rfl, rfl⟩
  refine y_s rfl rfl ?_
  refine y_br rfl rfl (fun _ => ?_) (fun c => absurd ht c)
  refine y_s rfl rfl ?_
  refine y_br rfl rfl (fun _ => K' _) (fun c => ?_)
  refine y_s rfl rfl ?_
  refine y_s rfl rfl ?_
  refine y_ald rfl rfl rfl (k := 0) rfl (by decide) (by decide) rfl ?_
  refine y_s rfl rfl ?_
  refine y_s rfl rfl ?_
  refine y_s rfl rfl ?_
  exact y_br rfl rfl (fun _ => K' _) (fun z => absurd (lcmp_e (ho c)) z)
set_option maxRecDepth 100000 in
set_option maxHeartbeats 1000000 in
theorem lw_falsely {n j kc ks : Nat} {xs : Nat → Int32} {d : Nat → Nat → Int32} {L : Nat → Nat → Int64} (hj : j + 6 ≤ n) (hn : n ≤ 3072) (hI : LI d) (hkc : 6 ≤ kc) (hks : 36 ≤ ks) (K : ∀ d' L', LI d' → ExG (PhS n xs) false (mW []) false 70 (kc - 6) (ks - 36) 2675 (lk j) [] (W0 d' L') Qe Xe) : ExG (PhS n xs) false (mW []) false 70 kc ks 2470 (lk j) [] (W0 d L) Qe Xe := by
  have hI0 := hI
  obtain ⟨F, nA, E, G, Z, m, T, I, a, b, c, jj⟩ := hI
  have a1 := a.1
  have a2 := a.2.1
  have a3 := a.2.2.1
  have a4 := a.2.2.2.1
  have a5 := a.2.2.2.2.1
  have c1 := c.1
  have c2 := c.2.1
  have c3 := c.2.2.1
  have c4 := c.2.2.2.1
  refine y_rows gC37 ?_
  refine y_s rfl rfl ?_
  refine y_s rfl rfl ?_
  refine y_s rfl rfl ?_
  refine y_s rfl rfl ?_
  refine y_s rfl rfl ?_
  refine y_sld rfl (nI_a1 j) (by omega) hn ?_
  refine y_s rfl rfl ?_
  refine y_ch (h_falsely (p_falsely (d := d) (L := L) a1 c1 a2 _) rfl qG_Q qT_X) rfl rfl rfl (by decide) (Nat.le_of_ble_eq_true rfl) (by decide) hkc hks ?_
  rintro v h' (⟨x, h0, ⟨g, e, d1, L1, rfl, s1, s2⟩, rfl, rfl⟩ | ⟨k0, ⟨rfl, rfl, g⟩, rfl⟩)
  · cases e
    have bb := IMm_sm b (SXm s1)
    refine y_s rfl rfl ?_
    refine y_s rfl rfl ?_
    refine y_s rfl rfl ?_
    refine y_s rfl rfl ?_
    refine y_s rfl rfl ?_
    refine y_s rfl rfl ?_
    refine y_sld rfl (nI_a1 j) (by omega) hn ?_
    refine y_cv (q_falsely (d := d1) (L := _) bb.1 c1 _) rfl rfl rfl (by decide) rfl (by decide) rfl (Nat.le_of_ble_eq_true rfl) (by decide) (Nat.zero_le _) (Nat.zero_le _) ?_
    rintro v h' ⟨rfl, d2, rfl, m2, t2⟩
    rw [if_pos g] at t2 ⊢
    exact tl_falsely t2 (fun _ => rfl) (K d2 _ (LI_q hI0 s1 m2))
  · refine y_s rfl rfl ?_
    refine y_s rfl rfl ?_
    refine y_s rfl rfl ?_
    refine y_s rfl rfl ?_
    refine y_s rfl rfl ?_
    refine y_s rfl rfl ?_
    refine y_sld rfl (nI_a1 j) (by omega) hn ?_
    refine y_cv (q_falsely (d := d) (L := _) b.1 c1 _) rfl rfl rfl (by decide) rfl (by decide) rfl (Nat.le_of_ble_eq_true rfl) (by decide) (Nat.zero_le _) (Nat.zero_le _) ?_
    rintro v h' ⟨rfl, d2, rfl, m2, t2⟩
    have t3 : d2 112 0 = 1 := by rw [t2]; simp [g]
    exact tl_falsely t3 (fun z => absurd z (by decide)) (K d2 _ (LI_q hI0 sm_rfl m2))
set_option maxRecDepth 100000 in
set_option maxHeartbeats 1000000 in
theorem tl_first {n j kc ks : Nat} {xs : Nat → Int32} {d : Nat → Nat → Int32} {L : Nat → Nat → Int64} {kk bb : Int32} (ht : d 112 0 = kk) (ho : kk = 0 → L 145 0 = bb.toInt64) (K : ExG (PhS n xs) false (mW []) false 70 kc ks 2675 (lk j) [] (W0 d L) Qe Xe) : ExG (PhS n xs) false (mW pC39) false 70 kc ks 2562 (lk5 j kk none) [.int bb] (W0 d L) Qe Xe := by
  have K' : ∀ o6, ExG (PhS n xs) false (mW pC39) false 70 kc ks 2592 (lk5 j kk o6) [] (W0 d L) Qe Xe := fun o6 => by
    refine y_s rfl rfl ?_
    exact y_fl7 (y_rows ⟨rfl, trivial⟩ K)
  refine y_s rfl rfl ?_
  refine y_s rfl rfl ?_
  refine y_cv (k_thrown (d := d) (L := L)) rfl rfl rfl (by decide) rfl (by decide) rfl (by decide) (by decide) (Nat.zero_le _) (Nat.zero_le _) ?_
  rintro v h' ⟨rfl, rfl⟩
  refine y_s rfl rfl ?_
  refine y_br rfl rfl (fun _ => ?_) (fun c => absurd ht c)
  refine y_s rfl rfl ?_
  refine y_br rfl rfl (fun _ => K' _) (fun c => ?_)
  refine y_s rfl rfl ?_
  refine y_s rfl rfl ?_
  refine y_ald rfl rfl rfl (k := 0) rfl (by decide) (by decide) rfl ?_
  refine y_s rfl rfl ?_
  refine y_s rfl rfl ?_
  refine y_s rfl rfl ?_
  exact y_br rfl rfl (fun _ => K' _) (fun z => absurd (lcmp_e (ho c)) z)
set_option maxRecDepth 100000 in
set_option maxHeartbeats 1000000 in
theorem lw_first {n j kc ks : Nat} {xs : Nat → Int32} {d : Nat → Nat → Int32} {L : Nat → Nat → Int64} (hj : j + 6 ≤ n) (hn : n ≤ 3072) (hI : LI d) (hkc : 6 ≤ kc) (hks : 36 ≤ ks) (K : ∀ d' L', LI d' → ExG (PhS n xs) false (mW []) false 70 (kc - 6) (ks - 36) 2675 (lk j) [] (W0 d' L') Qe Xe) : ExG (PhS n xs) false (mW []) false 70 kc ks 2539 (lk j) [] (W0 d L) Qe Xe := by
  have hI0 := hI
  obtain ⟨F, nA, E, G, Z, m, T, I, a, b, c, jj⟩ := hI
  have a1 := a.1
  have a2 := a.2.1
  have a3 := a.2.2.1
  have a4 := a.2.2.2.1
  have a5 := a.2.2.2.2.1
  have c1 := c.1
  have c2 := c.2.1
  have c3 := c.2.2.1
  have c4 := c.2.2.2.1
  refine y_rows gC39 ?_
  refine y_s rfl rfl ?_
  refine y_s rfl rfl ?_
  refine y_s rfl rfl ?_
  refine y_s rfl rfl ?_
  refine y_s rfl rfl ?_
  refine y_sld rfl (nI_a1 j) (by omega) hn ?_
  refine y_s rfl rfl ?_
  refine y_ch (h_first (p_first (d := d) (L := L) a1 c1 a2 _) rfl qG_Q qT_X) rfl rfl rfl (by decide) (Nat.le_of_ble_eq_true rfl) (by decide) hkc hks ?_
  rintro v h' (⟨x, h0, ⟨g, e, d1, L1, rfl, s1, s2⟩, rfl, rfl⟩ | ⟨k0, ⟨rfl, rfl, g⟩, rfl⟩)
  · cases e
    have bb := IMm_sm b (SXm s1)
    refine y_s rfl rfl ?_
    refine y_s rfl rfl ?_
    refine y_s rfl rfl ?_
    refine y_s rfl rfl ?_
    refine y_s rfl rfl ?_
    refine y_s rfl rfl ?_
    refine y_sld rfl (nI_a1 j) (by omega) hn ?_
    refine y_cv (q_first (d := d1) (L := _) bb.1 c1 _) rfl rfl rfl (by decide) rfl (by decide) rfl (Nat.le_of_ble_eq_true rfl) (by decide) (Nat.zero_le _) (Nat.zero_le _) ?_
    rintro v h' ⟨rfl, d2, rfl, m2, t2⟩
    rw [if_pos g] at t2 ⊢
    exact tl_first t2 (fun _ => rfl) (K d2 _ (LI_q hI0 s1 m2))
  · refine y_s rfl rfl ?_
    refine y_s rfl rfl ?_
    refine y_s rfl rfl ?_
    refine y_s rfl rfl ?_
    refine y_s rfl rfl ?_
    refine y_s rfl rfl ?_
    refine y_sld rfl (nI_a1 j) (by omega) hn ?_
    refine y_cv (q_first (d := d) (L := _) b.1 c1 _) rfl rfl rfl (by decide) rfl (by decide) rfl (Nat.le_of_ble_eq_true rfl) (by decide) (Nat.zero_le _) (Nat.zero_le _) ?_
    rintro v h' ⟨rfl, d2, rfl, m2, t2⟩
    have t3 : d2 112 0 = 1 := by rw [t2]; simp [g]
    exact tl_first t3 (fun z => absurd z (by decide)) (K d2 _ (LI_q hI0 sm_rfl m2))
set_option maxRecDepth 100000 in
set_option maxHeartbeats 1000000 in
theorem tl_busiest {n j kc ks : Nat} {xs : Nat → Int32} {d : Nat → Nat → Int32} {L : Nat → Nat → Int64} {kk bb : Int32} (ht : d 112 0 = kk) (ho : kk = 0 → L 145 0 = bb.toInt64) (K : ExG (PhS n xs) false (mW []) false 70 kc ks 2675 (lk j) [] (W0 d L) Qe Xe) : ExG (PhS n xs) false (mW pC40) false 70 kc ks 2618 (lk5 j kk none) [.int bb] (W0 d L) Qe Xe := by
  have K' : ∀ o6, ExG (PhS n xs) false (mW pC40) false 70 kc ks 2648 (lk5 j kk o6) [] (W0 d L) Qe Xe := fun o6 => by
    refine y_s rfl rfl ?_
    exact y_fl7 (y_rows ⟨rfl, trivial⟩ K)
  refine y_s rfl rfl ?_
  refine y_s rfl rfl ?_
  refine y_cv (k_thrown (d := d) (L := L)) rfl rfl rfl (by decide) rfl (by decide) rfl (by decide) (by decide) (Nat.zero_le _) (Nat.zero_le _) ?_
  rintro v h' ⟨rfl, rfl⟩
  refine y_s rfl rfl ?_
  refine y_br rfl rfl (fun _ => ?_) (fun c => absurd ht c)
  refine y_s rfl rfl ?_
  refine y_br rfl rfl (fun _ => K' _) (fun c => ?_)
  refine y_s rfl rfl ?_
  refine y_s rfl rfl ?_
  refine y_ald rfl rfl rfl (k := 0) rfl (by decide) (by decide) rfl ?_
  refine y_s rfl rfl ?_
  refine y_s rfl rfl ?_
  refine y_s rfl rfl ?_
  exact y_br rfl rfl (fun _ => K' _) (fun z => absurd (lcmp_e (ho c)) z)
set_option maxRecDepth 100000 in
set_option maxHeartbeats 1000000 in
theorem lw_busiest {n j kc ks : Nat} {xs : Nat → Int32} {d : Nat → Nat → Int32} {L : Nat → Nat → Int64} (hj : j + 6 ≤ n) (hn : n ≤ 3072) (hI : LI d) (hkc : 6 ≤ kc) (hks : 36 ≤ ks) (K : ∀ d' L', LI d' → ExG (PhS n xs) false (mW []) false 70 (kc - 6) (ks - 36) 2675 (lk j) [] (W0 d' L') Qe Xe) : ExG (PhS n xs) false (mW []) false 70 kc ks 2595 (lk j) [] (W0 d L) Qe Xe := by
  have hI0 := hI
  obtain ⟨F, nA, E, G, Z, m, T, I, a, b, c, jj⟩ := hI
  have a1 := a.1
  have a2 := a.2.1
  have a3 := a.2.2.1
  have a4 := a.2.2.2.1
  have a5 := a.2.2.2.2.1
  have c1 := c.1
  have c2 := c.2.1
  have c3 := c.2.2.1
  have c4 := c.2.2.2.1
  refine y_rows gC40 ?_
  refine y_s rfl rfl ?_
  refine y_s rfl rfl ?_
  refine y_s rfl rfl ?_
  refine y_s rfl rfl ?_
  refine y_s rfl rfl ?_
  refine y_sld rfl (nI_a1 j) (by omega) hn ?_
  refine y_s rfl rfl ?_
  refine y_ch (h_busiest (p_busiest (d := d) (L := L) a1 c1 a2 _) rfl qG_Q qT_X) rfl rfl rfl (by decide) (Nat.le_of_ble_eq_true rfl) (by decide) hkc hks ?_
  rintro v h' (⟨x, h0, ⟨g, e, d1, L1, rfl, s1, s2⟩, rfl, rfl⟩ | ⟨k0, ⟨rfl, rfl, g⟩, rfl⟩)
  · cases e
    have bb := IMm_sm b (SXm s1)
    refine y_s rfl rfl ?_
    refine y_s rfl rfl ?_
    refine y_s rfl rfl ?_
    refine y_s rfl rfl ?_
    refine y_s rfl rfl ?_
    refine y_s rfl rfl ?_
    refine y_sld rfl (nI_a1 j) (by omega) hn ?_
    refine y_cv (q_busiest (d := d1) (L := _) bb.1 c1 _) rfl rfl rfl (by decide) rfl (by decide) rfl (Nat.le_of_ble_eq_true rfl) (by decide) (Nat.zero_le _) (Nat.zero_le _) ?_
    rintro v h' ⟨rfl, d2, rfl, m2, t2⟩
    rw [if_pos g] at t2 ⊢
    exact tl_busiest t2 (fun _ => rfl) (K d2 _ (LI_q hI0 s1 m2))
  · refine y_s rfl rfl ?_
    refine y_s rfl rfl ?_
    refine y_s rfl rfl ?_
    refine y_s rfl rfl ?_
    refine y_s rfl rfl ?_
    refine y_s rfl rfl ?_
    refine y_sld rfl (nI_a1 j) (by omega) hn ?_
    refine y_cv (q_busiest (d := d) (L := _) b.1 c1 _) rfl rfl rfl (by decide) rfl (by decide) rfl (Nat.le_of_ble_eq_true rfl) (by decide) (Nat.zero_le _) (Nat.zero_le _) ?_
    rintro v h' ⟨rfl, d2, rfl, m2, t2⟩
    have t3 : d2 112 0 = 1 := by rw [t2]; simp [g]
    exact tl_busiest t3 (fun z => absurd z (by decide)) (K d2 _ (LI_q hI0 sm_rfl m2))
set_option maxRecDepth 100000 in
set_option maxHeartbeats 1000000 in
theorem tl_apart {n j kc ks : Nat} {xs : Nat → Int32} {d : Nat → Nat → Int32} {L : Nat → Nat → Int64} {kk bb : Int32} (ht : d 112 0 = kk) (ho : kk = 0 → L 145 0 = bb.toInt64) (K : ExG (PhS n xs) false (mW []) false 70 kc ks 2675 (lk j) [] (W0 d L) Qe Xe) : ExG (PhS n xs) false (mW pC19) false 70 kc ks 1309 (lk5 j kk none) [.int bb] (W0 d L) Qe Xe := by
  have K' : ∀ o6, ExG (PhS n xs) false (mW pC19) false 70 kc ks 1339 (lk5 j kk o6) [] (W0 d L) Qe Xe := fun o6 => by
    refine y_s rfl rfl ?_
    exact y_fl7 (y_rows ⟨rfl, trivial⟩ K)
  refine y_s rfl rfl ?_
  refine y_s rfl rfl ?_
  refine y_cv (k_thrown (d := d) (L := L)) rfl rfl rfl (by decide) rfl (by decide) rfl (by decide) (by decide) (Nat.zero_le _) (Nat.zero_le _) ?_
  rintro v h' ⟨rfl, rfl⟩
  refine y_s rfl rfl ?_
  refine y_br rfl rfl (fun _ => ?_) (fun c => absurd ht c)
  refine y_s rfl rfl ?_
  refine y_br rfl rfl (fun _ => K' _) (fun c => ?_)
  refine y_s rfl rfl ?_
  refine y_s rfl rfl ?_
  refine y_ald rfl rfl rfl (k := 0) rfl (by decide) (by decide) rfl ?_
  refine y_s rfl rfl ?_
  refine y_s rfl rfl ?_
  refine y_s rfl rfl ?_
  exact y_br rfl rfl (fun _ => K' _) (fun z => absurd (lcmp_e (ho c)) z)
set_option maxRecDepth 100000 in
set_option maxHeartbeats 1000000 in
theorem lw_apart {n j kc ks : Nat} {xs : Nat → Int32} {d : Nat → Nat → Int32} {L : Nat → Nat → Int64} (hj : j + 6 ≤ n) (hn : n ≤ 3072) (hI : LI d) (hkc : 6 ≤ kc) (hks : 36 ≤ ks) (K : ∀ d' L', LI d' → ExG (PhS n xs) false (mW []) false 70 (kc - 6) (ks - 36) 2675 (lk j) [] (W0 d' L') Qe Xe) : ExG (PhS n xs) false (mW []) false 70 kc ks 1274 (lk j) [] (W0 d L) Qe Xe := by
  have hI0 := hI
  obtain ⟨F, nA, E, G, Z, m, T, I, a, b, c, jj⟩ := hI
  have a1 := a.1
  have a2 := a.2.1
  have a3 := a.2.2.1
  have a4 := a.2.2.2.1
  have a5 := a.2.2.2.2.1
  have c1 := c.1
  have c2 := c.2.1
  have c3 := c.2.2.1
  have c4 := c.2.2.2.1
  refine y_rows gC19 ?_
  refine y_s rfl rfl ?_
  refine y_s rfl rfl ?_
  refine y_s rfl rfl ?_
  refine y_s rfl rfl ?_
  refine y_s rfl rfl ?_
  refine y_sld rfl (nI_a1 j) (by omega) hn ?_
  refine y_s rfl rfl ?_
  refine y_s rfl rfl ?_
  refine y_s rfl rfl ?_
  refine y_s rfl rfl ?_
  refine y_sld rfl (nI_a2 j) (by omega) hn ?_
  refine y_s rfl rfl ?_
  refine y_ch (h_apart (p_apart (d := d) (L := L) a1 c1 a2 _ _) rfl qG_Q qT_X) rfl rfl rfl (by decide) (Nat.le_of_ble_eq_true rfl) (by decide) hkc hks ?_
  rintro v h' (⟨x, h0, ⟨g, e, d1, L1, rfl, s1, s2⟩, rfl, rfl⟩ | ⟨k0, ⟨rfl, rfl, g⟩, rfl⟩)
  · cases e
    have bb := IMm_sm b (SXm s1)
    refine y_s rfl rfl ?_
    refine y_s rfl rfl ?_
    refine y_s rfl rfl ?_
    refine y_s rfl rfl ?_
    refine y_s rfl rfl ?_
    refine y_s rfl rfl ?_
    refine y_sld rfl (nI_a1 j) (by omega) hn ?_
    refine y_s rfl rfl ?_
    refine y_s rfl rfl ?_
    refine y_s rfl rfl ?_
    refine y_s rfl rfl ?_
    refine y_sld rfl (nI_a2 j) (by omega) hn ?_
    refine y_cv (q_apart (d := d1) (L := _) bb.1 c1 _ _) rfl rfl rfl (by decide) rfl (by decide) rfl (Nat.le_of_ble_eq_true rfl) (by decide) (Nat.zero_le _) (Nat.zero_le _) ?_
    rintro v h' ⟨rfl, d2, rfl, m2, t2⟩
    rw [if_pos g] at t2 ⊢
    exact tl_apart t2 (fun _ => rfl) (K d2 _ (LI_q hI0 s1 m2))
  · refine y_s rfl rfl ?_
    refine y_s rfl rfl ?_
    refine y_s rfl rfl ?_
    refine y_s rfl rfl ?_
    refine y_s rfl rfl ?_
    refine y_s rfl rfl ?_
    refine y_sld rfl (nI_a1 j) (by omega) hn ?_
    refine y_s rfl rfl ?_
    refine y_s rfl rfl ?_
    refine y_s rfl rfl ?_
    refine y_s rfl rfl ?_
    refine y_sld rfl (nI_a2 j) (by omega) hn ?_
    refine y_cv (q_apart (d := d) (L := _) b.1 c1 _ _) rfl rfl rfl (by decide) rfl (by decide) rfl (Nat.le_of_ble_eq_true rfl) (by decide) (Nat.zero_le _) (Nat.zero_le _) ?_
    rintro v h' ⟨rfl, d2, rfl, m2, t2⟩
    have t3 : d2 112 0 = 1 := by rw [t2]; simp [g]
    exact tl_apart t3 (fun z => absurd z (by decide)) (K d2 _ (LI_q hI0 sm_rfl m2))
set_option maxRecDepth 100000 in
set_option maxHeartbeats 1000000 in
theorem tl_ears {n j kc ks : Nat} {xs : Nat → Int32} {d : Nat → Nat → Int32} {L : Nat → Nat → Int64} {kk bb : Int32} (ht : d 112 0 = kk) (ho : kk = 0 → L 145 0 = bb.toInt64) (K : ExG (PhS n xs) false (mW []) false 70 kc ks 2675 (lk j) [] (W0 d L) Qe Xe) : ExG (PhS n xs) false (mW pC34) false 70 kc ks 2277 (lk5 j kk none) [.int bb] (W0 d L) Qe Xe := by
  have K' : ∀ o6, ExG (PhS n xs) false (mW pC34) false 70 kc ks 2307 (lk5 j kk o6) [] (W0 d L) Qe Xe := fun o6 => by
    refine y_s rfl rfl ?_
    exact y_fl7 (y_rows ⟨rfl, trivial⟩ K)
  refine y_s rfl rfl ?_
  refine y_s rfl rfl ?_
  refine y_cv (k_thrown (d := d) (L := L)) rfl rfl rfl (by decide) rfl (by decide) rfl (by decide) (by decide) (Nat.zero_le _) (Nat.zero_le _) ?_
  rintro v h' ⟨rfl, rfl⟩
  refine y_s rfl rfl ?_
  refine y_br rfl rfl (fun _ => ?_) (fun c => absurd ht c)
  refine y_s rfl rfl ?_
  refine y_br rfl rfl (fun _ => K' _) (fun c => ?_)
  refine y_s rfl rfl ?_
  refine y_s rfl rfl ?_
  refine y_ald rfl rfl rfl (k := 0) rfl (by decide) (by decide) rfl ?_
  refine y_s rfl rfl ?_
  refine y_s rfl rfl ?_
  refine y_s rfl rfl ?_
  exact y_br rfl rfl (fun _ => K' _) (fun z => absurd (lcmp_e (ho c)) z)
set_option maxRecDepth 100000 in
set_option maxHeartbeats 1000000 in
theorem lw_ears {n j kc ks : Nat} {xs : Nat → Int32} {d : Nat → Nat → Int32} {L : Nat → Nat → Int64} (hj : j + 6 ≤ n) (hn : n ≤ 3072) (hI : LI d) (hkc : 6 ≤ kc) (hks : 36 ≤ ks) (K : ∀ d' L', LI d' → ExG (PhS n xs) false (mW []) false 70 (kc - 6) (ks - 36) 2675 (lk j) [] (W0 d' L') Qe Xe) : ExG (PhS n xs) false (mW []) false 70 kc ks 2242 (lk j) [] (W0 d L) Qe Xe := by
  have hI0 := hI
  obtain ⟨F, nA, E, G, Z, m, T, I, a, b, c, jj⟩ := hI
  have a1 := a.1
  have a2 := a.2.1
  have a3 := a.2.2.1
  have a4 := a.2.2.2.1
  have a5 := a.2.2.2.2.1
  have c1 := c.1
  have c2 := c.2.1
  have c3 := c.2.2.1
  have c4 := c.2.2.2.1
  refine y_rows gC34 ?_
  refine y_s rfl rfl ?_
  refine y_s rfl rfl ?_
  refine y_s rfl rfl ?_
  refine y_s rfl rfl ?_
  refine y_s rfl rfl ?_
  refine y_sld rfl (nI_a1 j) (by omega) hn ?_
  refine y_s rfl rfl ?_
  refine y_s rfl rfl ?_
  refine y_s rfl rfl ?_
  refine y_s rfl rfl ?_
  refine y_sld rfl (nI_a2 j) (by omega) hn ?_
  refine y_s rfl rfl ?_
  refine y_ch (h_ears (p_ears (d := d) (L := L) a1 c1 a2 _ _) rfl qG_Q qT_X) rfl rfl rfl (by decide) (Nat.le_of_ble_eq_true rfl) (by decide) hkc hks ?_
  rintro v h' (⟨x, h0, ⟨g, e, d1, L1, rfl, s1, s2⟩, rfl, rfl⟩ | ⟨k0, ⟨rfl, rfl, g⟩, rfl⟩)
  · cases e
    have bb := IMm_sm b (SXm s1)
    refine y_s rfl rfl ?_
    refine y_s rfl rfl ?_
    refine y_s rfl rfl ?_
    refine y_s rfl rfl ?_
    refine y_s rfl rfl ?_
    refine y_s rfl rfl ?_
    refine y_sld rfl (nI_a1 j) (by omega) hn ?_
    refine y_s rfl rfl ?_
    refine y_s rfl rfl ?_
    refine y_s rfl rfl ?_
    refine y_s rfl rfl ?_
    refine y_sld rfl (nI_a2 j) (by omega) hn ?_
    refine y_cv (q_ears (d := d1) (L := _) bb.1 c1 _ _) rfl rfl rfl (by decide) rfl (by decide) rfl (Nat.le_of_ble_eq_true rfl) (by decide) (Nat.zero_le _) (Nat.zero_le _) ?_
    rintro v h' ⟨rfl, d2, rfl, m2, t2⟩
    rw [if_pos g] at t2 ⊢
    exact tl_ears t2 (fun _ => rfl) (K d2 _ (LI_q hI0 s1 m2))
  · refine y_s rfl rfl ?_
    refine y_s rfl rfl ?_
    refine y_s rfl rfl ?_
    refine y_s rfl rfl ?_
    refine y_s rfl rfl ?_
    refine y_s rfl rfl ?_
    refine y_sld rfl (nI_a1 j) (by omega) hn ?_
    refine y_s rfl rfl ?_
    refine y_s rfl rfl ?_
    refine y_s rfl rfl ?_
    refine y_s rfl rfl ?_
    refine y_sld rfl (nI_a2 j) (by omega) hn ?_
    refine y_cv (q_ears (d := d) (L := _) b.1 c1 _ _) rfl rfl rfl (by decide) rfl (by decide) rfl (Nat.le_of_ble_eq_true rfl) (by decide) (Nat.zero_le _) (Nat.zero_le _) ?_
    rintro v h' ⟨rfl, d2, rfl, m2, t2⟩
    have t3 : d2 112 0 = 1 := by rw [t2]; simp [g]
    exact tl_ears t3 (fun z => absurd z (by decide)) (K d2 _ (LI_q hI0 sm_rfl m2))
set_option maxRecDepth 100000 in
set_option maxHeartbeats 1000000 in
theorem tl_just {n j kc ks : Nat} {xs : Nat → Int32} {d : Nat → Nat → Int32} {L : Nat → Nat → Int64} {kk bb : Int32} (ht : d 112 0 = kk) (ho : kk = 0 → L 145 0 = bb.toInt64) (K : ExG (PhS n xs) false (mW []) false 70 kc ks 2675 (lk j) [] (W0 d L) Qe Xe) : ExG (PhS n xs) false (mW pC18) false 70 kc ks 1241 (lk5 j kk none) [.int bb] (W0 d L) Qe Xe := by
  have K' : ∀ o6, ExG (PhS n xs) false (mW pC18) false 70 kc ks 1271 (lk5 j kk o6) [] (W0 d L) Qe Xe := fun o6 => by
    refine y_s rfl rfl ?_
    exact y_fl7 (y_rows ⟨rfl, trivial⟩ K)
  refine y_s rfl rfl ?_
  refine y_s rfl rfl ?_
  refine y_cv (k_thrown (d := d) (L := L)) rfl rfl rfl (by decide) rfl (by decide) rfl (by decide) (by decide) (Nat.zero_le _) (Nat.zero_le _) ?_
  rintro v h' ⟨rfl, rfl⟩
  refine y_s rfl rfl ?_
  refine y_br rfl rfl (fun _ => ?_) (fun c => absurd ht c)
  refine y_s rfl rfl ?_
  refine y_br rfl rfl (fun _ => K' _) (fun c => ?_)
  refine y_s rfl rfl ?_
  refine y_s rfl rfl ?_
  refine y_ald rfl rfl rfl (k := 0) rfl (by decide) (by decide) rfl ?_
  refine y_s rfl rfl ?_
  refine y_s rfl rfl ?_
  refine y_s rfl rfl ?_
  exact y_br rfl rfl (fun _ => K' _) (fun z => absurd (lcmp_e (ho c)) z)
set_option maxRecDepth 100000 in
set_option maxHeartbeats 1000000 in
theorem lw_just {n j kc ks : Nat} {xs : Nat → Int32} {d : Nat → Nat → Int32} {L : Nat → Nat → Int64} (hj : j + 6 ≤ n) (hn : n ≤ 3072) (hI : LI d) (hkc : 6 ≤ kc) (hks : 36 ≤ ks) (K : ∀ d' L', LI d' → ExG (PhS n xs) false (mW []) false 70 (kc - 6) (ks - 36) 2675 (lk j) [] (W0 d' L') Qe Xe) : ExG (PhS n xs) false (mW []) false 70 kc ks 1194 (lk j) [] (W0 d L) Qe Xe := by
  have hI0 := hI
  obtain ⟨F, nA, E, G, Z, m, T, I, a, b, c, jj⟩ := hI
  have a1 := a.1
  have a2 := a.2.1
  have a3 := a.2.2.1
  have a4 := a.2.2.2.1
  have a5 := a.2.2.2.2.1
  have c1 := c.1
  have c2 := c.2.1
  have c3 := c.2.2.1
  have c4 := c.2.2.2.1
  refine y_rows gC18 ?_
  refine y_s rfl rfl ?_
  refine y_s rfl rfl ?_
  refine y_s rfl rfl ?_
  refine y_s rfl rfl ?_
  refine y_s rfl rfl ?_
  refine y_sld rfl (nI_a1 j) (by omega) hn ?_
  refine y_s rfl rfl ?_
  refine y_s rfl rfl ?_
  refine y_s rfl rfl ?_
  refine y_s rfl rfl ?_
  refine y_sld rfl (nI_a2 j) (by omega) hn ?_
  refine y_s rfl rfl ?_
  refine y_s rfl rfl ?_
  refine y_s rfl rfl ?_
  refine y_s rfl rfl ?_
  refine y_sld rfl (nI_a3 j) (by omega) hn ?_
  refine y_s rfl rfl ?_
  refine y_ch (h_just (p_just (d := d) (L := L) a1 c1 a2 _ _ _) rfl qG_Q qT2_X) rfl rfl rfl (by decide) (Nat.le_of_ble_eq_true rfl) (by decide) hkc hks ?_
  rintro v h' (⟨x, h0, ⟨g, e, d1, L1, rfl, s1, s2⟩, rfl, rfl⟩ | ⟨k0, ⟨rfl, ⟨rfl, g⟩ | ⟨rfl, g, g'⟩⟩, rfl⟩)
  · cases e
    have bb := IMm_sm b (SXm s1)
    refine y_s rfl rfl ?_
    refine y_s rfl rfl ?_
    refine y_s rfl rfl ?_
    refine y_s rfl rfl ?_
    refine y_s rfl rfl ?_
    refine y_s rfl rfl ?_
    refine y_sld rfl (nI_a1 j) (by omega) hn ?_
    refine y_s rfl rfl ?_
    refine y_s rfl rfl ?_
    refine y_s rfl rfl ?_
    refine y_s rfl rfl ?_
    refine y_sld rfl (nI_a2 j) (by omega) hn ?_
    refine y_s rfl rfl ?_
    refine y_s rfl rfl ?_
    refine y_s rfl rfl ?_
    refine y_s rfl rfl ?_
    refine y_sld rfl (nI_a3 j) (by omega) hn ?_
    refine y_cv (q_just (d := d1) (L := _) bb.1 c1 _ _ _) rfl rfl rfl (by decide) rfl (by decide) rfl (Nat.le_of_ble_eq_true rfl) (by decide) (Nat.zero_le _) (Nat.zero_le _) ?_
    rintro v h' ⟨rfl, d2, rfl, m2, t2⟩
    rw [if_pos g] at t2 ⊢
    exact tl_just t2 (fun _ => rfl) (K d2 _ (LI_q hI0 s1 m2))
  · refine y_s rfl rfl ?_
    refine y_s rfl rfl ?_
    refine y_s rfl rfl ?_
    refine y_s rfl rfl ?_
    refine y_s rfl rfl ?_
    refine y_s rfl rfl ?_
    refine y_sld rfl (nI_a1 j) (by omega) hn ?_
    refine y_s rfl rfl ?_
    refine y_s rfl rfl ?_
    refine y_s rfl rfl ?_
    refine y_s rfl rfl ?_
    refine y_sld rfl (nI_a2 j) (by omega) hn ?_
    refine y_s rfl rfl ?_
    refine y_s rfl rfl ?_
    refine y_s rfl rfl ?_
    refine y_s rfl rfl ?_
    refine y_sld rfl (nI_a3 j) (by omega) hn ?_
    refine y_cv (q_just (d := d) (L := _) b.1 c1 _ _ _) rfl rfl rfl (by decide) rfl (by decide) rfl (Nat.le_of_ble_eq_true rfl) (by decide) (Nat.zero_le _) (Nat.zero_le _) ?_
    rintro v h' ⟨rfl, d2, rfl, m2, t2⟩
    have t3 : d2 112 0 = 1 := by rw [t2]; simp [g]
    exact tl_just t3 (fun z => absurd z (by decide)) (K d2 _ (LI_q hI0 sm_rfl m2))
  · refine y_s rfl rfl ?_
    refine y_s rfl rfl ?_
    refine y_s rfl rfl ?_
    refine y_s rfl rfl ?_
    refine y_s rfl rfl ?_
    refine y_s rfl rfl ?_
    refine y_sld rfl (nI_a1 j) (by omega) hn ?_
    refine y_s rfl rfl ?_
    refine y_s rfl rfl ?_
    refine y_s rfl rfl ?_
    refine y_s rfl rfl ?_
    refine y_sld rfl (nI_a2 j) (by omega) hn ?_
    refine y_s rfl rfl ?_
    refine y_s rfl rfl ?_
    refine y_s rfl rfl ?_
    refine y_s rfl rfl ?_
    refine y_sld rfl (nI_a3 j) (by omega) hn ?_
    refine y_cv (q_just (d := d) (L := _) b.1 c1 _ _ _) rfl rfl rfl (by decide) rfl (by decide) rfl (Nat.le_of_ble_eq_true rfl) (by decide) (Nat.zero_le _) (Nat.zero_le _) ?_
    rintro v h' ⟨rfl, d2, rfl, m2, t2⟩
    have t3 : d2 112 0 = 2 := by rw [t2, g, g']; rfl
    exact tl_just t3 (fun z => absurd z (by decide)) (K d2 _ (LI_q hI0 sm_rfl m2))
set_option maxRecDepth 100000 in
set_option maxHeartbeats 1000000 in
theorem tl_alibi {n j kc ks : Nat} {xs : Nat → Int32} {d : Nat → Nat → Int32} {L : Nat → Nat → Int64} {kk bb : Int32} (ht : d 112 0 = kk) (ho : kk = 0 → L 145 0 = bb.toInt64) (K : ExG (PhS n xs) false (mW []) false 70 kc ks 2675 (lk j) [] (W0 d L) Qe Xe) : ExG (PhS n xs) false (mW pC20) false 70 kc ks 1389 (lk5 j kk none) [.int bb] (W0 d L) Qe Xe := by
  have K' : ∀ o6, ExG (PhS n xs) false (mW pC20) false 70 kc ks 1419 (lk5 j kk o6) [] (W0 d L) Qe Xe := fun o6 => by
    refine y_s rfl rfl ?_
    exact y_fl7 (y_rows ⟨rfl, trivial⟩ K)
  refine y_s rfl rfl ?_
  refine y_s rfl rfl ?_
  refine y_cv (k_thrown (d := d) (L := L)) rfl rfl rfl (by decide) rfl (by decide) rfl (by decide) (by decide) (Nat.zero_le _) (Nat.zero_le _) ?_
  rintro v h' ⟨rfl, rfl⟩
  refine y_s rfl rfl ?_
  refine y_br rfl rfl (fun _ => ?_) (fun c => absurd ht c)
  refine y_s rfl rfl ?_
  refine y_br rfl rfl (fun _ => K' _) (fun c => ?_)
  refine y_s rfl rfl ?_
  refine y_s rfl rfl ?_
  refine y_ald rfl rfl rfl (k := 0) rfl (by decide) (by decide) rfl ?_
  refine y_s rfl rfl ?_
  refine y_s rfl rfl ?_
  refine y_s rfl rfl ?_
  exact y_br rfl rfl (fun _ => K' _) (fun z => absurd (lcmp_e (ho c)) z)
set_option maxRecDepth 100000 in
set_option maxHeartbeats 1000000 in
theorem lw_alibi {n j kc ks : Nat} {xs : Nat → Int32} {d : Nat → Nat → Int32} {L : Nat → Nat → Int64} (hj : j + 6 ≤ n) (hn : n ≤ 3072) (hI : LI d) (hkc : 6 ≤ kc) (hks : 36 ≤ ks) (K : ∀ d' L', LI d' → ExG (PhS n xs) false (mW []) false 70 (kc - 6) (ks - 36) 2675 (lk j) [] (W0 d' L') Qe Xe) : ExG (PhS n xs) false (mW []) false 70 kc ks 1342 (lk j) [] (W0 d L) Qe Xe := by
  have hI0 := hI
  obtain ⟨F, nA, E, G, Z, m, T, I, a, b, c, jj⟩ := hI
  have a1 := a.1
  have a2 := a.2.1
  have a3 := a.2.2.1
  have a4 := a.2.2.2.1
  have a5 := a.2.2.2.2.1
  have c1 := c.1
  have c2 := c.2.1
  have c3 := c.2.2.1
  have c4 := c.2.2.2.1
  refine y_rows gC20 ?_
  refine y_s rfl rfl ?_
  refine y_s rfl rfl ?_
  refine y_s rfl rfl ?_
  refine y_s rfl rfl ?_
  refine y_s rfl rfl ?_
  refine y_sld rfl (nI_a1 j) (by omega) hn ?_
  refine y_s rfl rfl ?_
  refine y_s rfl rfl ?_
  refine y_s rfl rfl ?_
  refine y_s rfl rfl ?_
  refine y_sld rfl (nI_a2 j) (by omega) hn ?_
  refine y_s rfl rfl ?_
  refine y_s rfl rfl ?_
  refine y_s rfl rfl ?_
  refine y_s rfl rfl ?_
  refine y_sld rfl (nI_a3 j) (by omega) hn ?_
  refine y_s rfl rfl ?_
  refine y_ch (h_alibi (p_alibi (d := d) (L := L) a1 c1 a2 _ _ _) rfl qG_Q qT2_X) rfl rfl rfl (by decide) (Nat.le_of_ble_eq_true rfl) (by decide) hkc hks ?_
  rintro v h' (⟨x, h0, ⟨g, e, d1, L1, rfl, s1, s2⟩, rfl, rfl⟩ | ⟨k0, ⟨rfl, ⟨rfl, g⟩ | ⟨rfl, g, g'⟩⟩, rfl⟩)
  · cases e
    have bb := IMm_sm b (SXm s1)
    refine y_s rfl rfl ?_
    refine y_s rfl rfl ?_
    refine y_s rfl rfl ?_
    refine y_s rfl rfl ?_
    refine y_s rfl rfl ?_
    refine y_s rfl rfl ?_
    refine y_sld rfl (nI_a1 j) (by omega) hn ?_
    refine y_s rfl rfl ?_
    refine y_s rfl rfl ?_
    refine y_s rfl rfl ?_
    refine y_s rfl rfl ?_
    refine y_sld rfl (nI_a2 j) (by omega) hn ?_
    refine y_s rfl rfl ?_
    refine y_s rfl rfl ?_
    refine y_s rfl rfl ?_
    refine y_s rfl rfl ?_
    refine y_sld rfl (nI_a3 j) (by omega) hn ?_
    refine y_cv (q_alibi (d := d1) (L := _) bb.1 c1 _ _ _) rfl rfl rfl (by decide) rfl (by decide) rfl (Nat.le_of_ble_eq_true rfl) (by decide) (Nat.zero_le _) (Nat.zero_le _) ?_
    rintro v h' ⟨rfl, d2, rfl, m2, t2⟩
    rw [if_pos g] at t2 ⊢
    exact tl_alibi t2 (fun _ => rfl) (K d2 _ (LI_q hI0 s1 m2))
  · refine y_s rfl rfl ?_
    refine y_s rfl rfl ?_
    refine y_s rfl rfl ?_
    refine y_s rfl rfl ?_
    refine y_s rfl rfl ?_
    refine y_s rfl rfl ?_
    refine y_sld rfl (nI_a1 j) (by omega) hn ?_
    refine y_s rfl rfl ?_
    refine y_s rfl rfl ?_
    refine y_s rfl rfl ?_
    refine y_s rfl rfl ?_
    refine y_sld rfl (nI_a2 j) (by omega) hn ?_
    refine y_s rfl rfl ?_
    refine y_s rfl rfl ?_
    refine y_s rfl rfl ?_
    refine y_s rfl rfl ?_
    refine y_sld rfl (nI_a3 j) (by omega) hn ?_
    refine y_cv (q_alibi (d := d) (L := _) b.1 c1 _ _ _) rfl rfl rfl (by decide) rfl (by decide) rfl (Nat.le_of_ble_eq_true rfl) (by decide) (Nat.zero_le _) (Nat.zero_le _) ?_
    rintro v h' ⟨rfl, d2, rfl, m2, t2⟩
    have t3 : d2 112 0 = 1 := by rw [t2]; simp [g]
    exact tl_alibi t3 (fun z => absurd z (by decide)) (K d2 _ (LI_q hI0 sm_rfl m2))
  · refine y_s rfl rfl ?_
    refine y_s rfl rfl ?_
    refine y_s rfl rfl ?_
    refine y_s rfl rfl ?_
    refine y_s rfl rfl ?_
    refine y_s rfl rfl ?_
    refine y_sld rfl (nI_a1 j) (by omega) hn ?_
    refine y_s rfl rfl ?_
    refine y_s rfl rfl ?_
    refine y_s rfl rfl ?_
    refine y_s rfl rfl ?_
    refine y_sld rfl (nI_a2 j) (by omega) hn ?_
    refine y_s rfl rfl ?_
    refine y_s rfl rfl ?_
    refine y_s rfl rfl ?_
    refine y_s rfl rfl ?_
    refine y_sld rfl (nI_a3 j) (by omega) hn ?_
    refine y_cv (q_alibi (d := d) (L := _) b.1 c1 _ _ _) rfl rfl rfl (by decide) rfl (by decide) rfl (Nat.le_of_ble_eq_true rfl) (by decide) (Nat.zero_le _) (Nat.zero_le _) ?_
    rintro v h' ⟨rfl, d2, rfl, m2, t2⟩
    have t3 : d2 112 0 = 2 := by rw [t2, g, g']; rfl
    exact tl_alibi t3 (fun z => absurd z (by decide)) (K d2 _ (LI_q hI0 sm_rfl m2))
set_option maxRecDepth 100000 in
set_option maxHeartbeats 1000000 in
theorem tl_plan {n j kc ks : Nat} {xs : Nat → Int32} {d : Nat → Nat → Int32} {L : Nat → Nat → Int64} {kk bb : Int32} (ht : d 112 0 = kk) (ho : kk = 0 → L 145 0 = bb.toInt64) (K : ExG (PhS n xs) false (mW []) false 70 kc ks 2675 (lk j) [] (W0 d L) Qe Xe) : ExG (PhS n xs) false (mW pC21) false 70 kc ks 1469 (lk5 j kk none) [.int bb] (W0 d L) Qe Xe := by
  have K' : ∀ o6, ExG (PhS n xs) false (mW pC21) false 70 kc ks 1499 (lk5 j kk o6) [] (W0 d L) Qe Xe := fun o6 => by
    refine y_s rfl rfl ?_
    exact y_fl7 (y_rows ⟨rfl, trivial⟩ K)
  refine y_s rfl rfl ?_
  refine y_s rfl rfl ?_
  refine y_cv (k_thrown (d := d) (L := L)) rfl rfl rfl (by decide) rfl (by decide) rfl (by decide) (by decide) (Nat.zero_le _) (Nat.zero_le _) ?_
  rintro v h' ⟨rfl, rfl⟩
  refine y_s rfl rfl ?_
  refine y_br rfl rfl (fun _ => ?_) (fun c => absurd ht c)
  refine y_s rfl rfl ?_
  refine y_br rfl rfl (fun _ => K' _) (fun c => ?_)
  refine y_s rfl rfl ?_
  refine y_s rfl rfl ?_
  refine y_ald rfl rfl rfl (k := 0) rfl (by decide) (by decide) rfl ?_
  refine y_s rfl rfl ?_
  refine y_s rfl rfl ?_
  refine y_s rfl rfl ?_
  exact y_br rfl rfl (fun _ => K' _) (fun z => absurd (lcmp_e (ho c)) z)
set_option maxRecDepth 100000 in
set_option maxHeartbeats 1000000 in
theorem lw_plan {n j kc ks : Nat} {xs : Nat → Int32} {d : Nat → Nat → Int32} {L : Nat → Nat → Int64} (hj : j + 6 ≤ n) (hn : n ≤ 3072) (hI : LI d) (hkc : 6 ≤ kc) (hks : 36 ≤ ks) (K : ∀ d' L', LI d' → ExG (PhS n xs) false (mW []) false 70 (kc - 6) (ks - 36) 2675 (lk j) [] (W0 d' L') Qe Xe) : ExG (PhS n xs) false (mW []) false 70 kc ks 1422 (lk j) [] (W0 d L) Qe Xe := by
  have hI0 := hI
  obtain ⟨F, nA, E, G, Z, m, T, I, a, b, c, jj⟩ := hI
  have a1 := a.1
  have a2 := a.2.1
  have a3 := a.2.2.1
  have a4 := a.2.2.2.1
  have a5 := a.2.2.2.2.1
  have c1 := c.1
  have c2 := c.2.1
  have c3 := c.2.2.1
  have c4 := c.2.2.2.1
  refine y_rows gC21 ?_
  refine y_s rfl rfl ?_
  refine y_s rfl rfl ?_
  refine y_s rfl rfl ?_
  refine y_s rfl rfl ?_
  refine y_s rfl rfl ?_
  refine y_sld rfl (nI_a1 j) (by omega) hn ?_
  refine y_s rfl rfl ?_
  refine y_s rfl rfl ?_
  refine y_s rfl rfl ?_
  refine y_s rfl rfl ?_
  refine y_sld rfl (nI_a2 j) (by omega) hn ?_
  refine y_s rfl rfl ?_
  refine y_s rfl rfl ?_
  refine y_s rfl rfl ?_
  refine y_s rfl rfl ?_
  refine y_sld rfl (nI_a3 j) (by omega) hn ?_
  refine y_s rfl rfl ?_
  refine y_ch (h_plan (p_plan (d := d) (L := L) a1 c1 a2 _ _ _) rfl qG_Q qT2_X) rfl rfl rfl (by decide) (Nat.le_of_ble_eq_true rfl) (by decide) hkc hks ?_
  rintro v h' (⟨x, h0, ⟨g, e, d1, L1, rfl, s1, s2⟩, rfl, rfl⟩ | ⟨k0, ⟨rfl, ⟨rfl, g⟩ | ⟨rfl, g, g'⟩⟩, rfl⟩)
  · cases e
    have bb := IMm_sm b (SXm s1)
    refine y_s rfl rfl ?_
    refine y_s rfl rfl ?_
    refine y_s rfl rfl ?_
    refine y_s rfl rfl ?_
    refine y_s rfl rfl ?_
    refine y_s rfl rfl ?_
    refine y_sld rfl (nI_a1 j) (by omega) hn ?_
    refine y_s rfl rfl ?_
    refine y_s rfl rfl ?_
    refine y_s rfl rfl ?_
    refine y_s rfl rfl ?_
    refine y_sld rfl (nI_a2 j) (by omega) hn ?_
    refine y_s rfl rfl ?_
    refine y_s rfl rfl ?_
    refine y_s rfl rfl ?_
    refine y_s rfl rfl ?_
    refine y_sld rfl (nI_a3 j) (by omega) hn ?_
    refine y_cv (q_plan (d := d1) (L := _) bb.1 c1 _ _ _) rfl rfl rfl (by decide) rfl (by decide) rfl (Nat.le_of_ble_eq_true rfl) (by decide) (Nat.zero_le _) (Nat.zero_le _) ?_
    rintro v h' ⟨rfl, d2, rfl, m2, t2⟩
    rw [if_pos g] at t2 ⊢
    exact tl_plan t2 (fun _ => rfl) (K d2 _ (LI_q hI0 s1 m2))
  · refine y_s rfl rfl ?_
    refine y_s rfl rfl ?_
    refine y_s rfl rfl ?_
    refine y_s rfl rfl ?_
    refine y_s rfl rfl ?_
    refine y_s rfl rfl ?_
    refine y_sld rfl (nI_a1 j) (by omega) hn ?_
    refine y_s rfl rfl ?_
    refine y_s rfl rfl ?_
    refine y_s rfl rfl ?_
    refine y_s rfl rfl ?_
    refine y_sld rfl (nI_a2 j) (by omega) hn ?_
    refine y_s rfl rfl ?_
    refine y_s rfl rfl ?_
    refine y_s rfl rfl ?_
    refine y_s rfl rfl ?_
    refine y_sld rfl (nI_a3 j) (by omega) hn ?_
    refine y_cv (q_plan (d := d) (L := _) b.1 c1 _ _ _) rfl rfl rfl (by decide) rfl (by decide) rfl (Nat.le_of_ble_eq_true rfl) (by decide) (Nat.zero_le _) (Nat.zero_le _) ?_
    rintro v h' ⟨rfl, d2, rfl, m2, t2⟩
    have t3 : d2 112 0 = 1 := by rw [t2]; simp [g]
    exact tl_plan t3 (fun z => absurd z (by decide)) (K d2 _ (LI_q hI0 sm_rfl m2))
  · refine y_s rfl rfl ?_
    refine y_s rfl rfl ?_
    refine y_s rfl rfl ?_
    refine y_s rfl rfl ?_
    refine y_s rfl rfl ?_
    refine y_s rfl rfl ?_
    refine y_sld rfl (nI_a1 j) (by omega) hn ?_
    refine y_s rfl rfl ?_
    refine y_s rfl rfl ?_
    refine y_s rfl rfl ?_
    refine y_s rfl rfl ?_
    refine y_sld rfl (nI_a2 j) (by omega) hn ?_
    refine y_s rfl rfl ?_
    refine y_s rfl rfl ?_
    refine y_s rfl rfl ?_
    refine y_s rfl rfl ?_
    refine y_sld rfl (nI_a3 j) (by omega) hn ?_
    refine y_cv (q_plan (d := d) (L := _) b.1 c1 _ _ _) rfl rfl rfl (by decide) rfl (by decide) rfl (Nat.le_of_ble_eq_true rfl) (by decide) (Nat.zero_le _) (Nat.zero_le _) ?_
    rintro v h' ⟨rfl, d2, rfl, m2, t2⟩
    have t3 : d2 112 0 = 2 := by rw [t2, g, g']; rfl
    exact tl_plan t3 (fun z => absurd z (by decide)) (K d2 _ (LI_q hI0 sm_rfl m2))
set_option maxRecDepth 100000 in
set_option maxHeartbeats 1000000 in
theorem tl_saucer {n j kc ks : Nat} {xs : Nat → Int32} {d : Nat → Nat → Int32} {L : Nat → Nat → Int64} {kk bb : Int32} (ht : d 112 0 = kk) (ho : kk = 0 → L 145 0 = bb.toInt64) (K : ExG (PhS n xs) false (mW []) false 70 kc ks 2675 (lk j) [] (W0 d L) Qe Xe) : ExG (PhS n xs) false (mW pC27) false 70 kc ks 1777 (lk5 j kk none) [.int bb] (W0 d L) Qe Xe := by
  have K' : ∀ o6, ExG (PhS n xs) false (mW pC27) false 70 kc ks 1807 (lk5 j kk o6) [] (W0 d L) Qe Xe := fun o6 => by
    refine y_s rfl rfl ?_
    exact y_fl7 (y_rows ⟨rfl, trivial⟩ K)
  refine y_s rfl rfl ?_
  refine y_s rfl rfl ?_
  refine y_cv (k_thrown (d := d) (L := L)) rfl rfl rfl (by decide) rfl (by decide) rfl (by decide) (by decide) (Nat.zero_le _) (Nat.zero_le _) ?_
  rintro v h' ⟨rfl, rfl⟩
  refine y_s rfl rfl ?_
  refine y_br rfl rfl (fun _ => ?_) (fun c => absurd ht c)
  refine y_s rfl rfl ?_
  refine y_br rfl rfl (fun _ => K' _) (fun c => ?_)
  refine y_s rfl rfl ?_
  refine y_s rfl rfl ?_
  refine y_ald rfl rfl rfl (k := 0) rfl (by decide) (by decide) rfl ?_
  refine y_s rfl rfl ?_
  refine y_s rfl rfl ?_
  refine y_s rfl rfl ?_
  exact y_br rfl rfl (fun _ => K' _) (fun z => absurd (lcmp_e (ho c)) z)
set_option maxRecDepth 100000 in
set_option maxHeartbeats 1000000 in
theorem lw_saucer {n j kc ks : Nat} {xs : Nat → Int32} {d : Nat → Nat → Int32} {L : Nat → Nat → Int64} (hj : j + 6 ≤ n) (hn : n ≤ 3072) (hI : LI d) (hkc : 6 ≤ kc) (hks : 36 ≤ ks) (K : ∀ d' L', LI d' → ExG (PhS n xs) false (mW []) false 70 (kc - 6) (ks - 36) 2675 (lk j) [] (W0 d' L') Qe Xe) : ExG (PhS n xs) false (mW []) false 70 kc ks 1730 (lk j) [] (W0 d L) Qe Xe := by
  have hI0 := hI
  obtain ⟨F, nA, E, G, Z, m, T, I, a, b, c, jj⟩ := hI
  have a1 := a.1
  have a2 := a.2.1
  have a3 := a.2.2.1
  have a4 := a.2.2.2.1
  have a5 := a.2.2.2.2.1
  have c1 := c.1
  have c2 := c.2.1
  have c3 := c.2.2.1
  have c4 := c.2.2.2.1
  refine y_rows gC27 ?_
  refine y_s rfl rfl ?_
  refine y_s rfl rfl ?_
  refine y_s rfl rfl ?_
  refine y_s rfl rfl ?_
  refine y_s rfl rfl ?_
  refine y_sld rfl (nI_a1 j) (by omega) hn ?_
  refine y_s rfl rfl ?_
  refine y_s rfl rfl ?_
  refine y_s rfl rfl ?_
  refine y_s rfl rfl ?_
  refine y_sld rfl (nI_a2 j) (by omega) hn ?_
  refine y_s rfl rfl ?_
  refine y_s rfl rfl ?_
  refine y_s rfl rfl ?_
  refine y_s rfl rfl ?_
  refine y_sld rfl (nI_a3 j) (by omega) hn ?_
  refine y_s rfl rfl ?_
  refine y_ch (h_saucer (p_saucer (d := d) (L := L) a1 c1 _ _ _) rfl qG_Q qT2_X) rfl rfl rfl (by decide) (Nat.le_of_ble_eq_true rfl) (by decide) hkc hks ?_
  rintro v h' (⟨x, h0, ⟨g, e, d1, L1, rfl, s1, s2⟩, rfl, rfl⟩ | ⟨k0, ⟨rfl, ⟨rfl, g⟩ | ⟨rfl, g, g'⟩⟩, rfl⟩)
  · cases e
    have bb := IMm_sm b (SXm s1)
    refine y_s rfl rfl ?_
    refine y_s rfl rfl ?_
    refine y_s rfl rfl ?_
    refine y_s rfl rfl ?_
    refine y_s rfl rfl ?_
    refine y_s rfl rfl ?_
    refine y_sld rfl (nI_a1 j) (by omega) hn ?_
    refine y_s rfl rfl ?_
    refine y_s rfl rfl ?_
    refine y_s rfl rfl ?_
    refine y_s rfl rfl ?_
    refine y_sld rfl (nI_a2 j) (by omega) hn ?_
    refine y_s rfl rfl ?_
    refine y_s rfl rfl ?_
    refine y_s rfl rfl ?_
    refine y_s rfl rfl ?_
    refine y_sld rfl (nI_a3 j) (by omega) hn ?_
    refine y_cv (q_saucer (d := d1) (L := _) bb.1 c1 _ _ _) rfl rfl rfl (by decide) rfl (by decide) rfl (Nat.le_of_ble_eq_true rfl) (by decide) (Nat.zero_le _) (Nat.zero_le _) ?_
    rintro v h' ⟨rfl, d2, rfl, m2, t2⟩
    rw [if_pos g] at t2 ⊢
    exact tl_saucer t2 (fun _ => rfl) (K d2 _ (LI_q hI0 s1 m2))
  · refine y_s rfl rfl ?_
    refine y_s rfl rfl ?_
    refine y_s rfl rfl ?_
    refine y_s rfl rfl ?_
    refine y_s rfl rfl ?_
    refine y_s rfl rfl ?_
    refine y_sld rfl (nI_a1 j) (by omega) hn ?_
    refine y_s rfl rfl ?_
    refine y_s rfl rfl ?_
    refine y_s rfl rfl ?_
    refine y_s rfl rfl ?_
    refine y_sld rfl (nI_a2 j) (by omega) hn ?_
    refine y_s rfl rfl ?_
    refine y_s rfl rfl ?_
    refine y_s rfl rfl ?_
    refine y_s rfl rfl ?_
    refine y_sld rfl (nI_a3 j) (by omega) hn ?_
    refine y_cv (q_saucer (d := d) (L := _) b.1 c1 _ _ _) rfl rfl rfl (by decide) rfl (by decide) rfl (Nat.le_of_ble_eq_true rfl) (by decide) (Nat.zero_le _) (Nat.zero_le _) ?_
    rintro v h' ⟨rfl, d2, rfl, m2, t2⟩
    have t3 : d2 112 0 = 1 := by rw [t2]; simp [g]
    exact tl_saucer t3 (fun z => absurd z (by decide)) (K d2 _ (LI_q hI0 sm_rfl m2))
  · refine y_s rfl rfl ?_
    refine y_s rfl rfl ?_
    refine y_s rfl rfl ?_
    refine y_s rfl rfl ?_
    refine y_s rfl rfl ?_
    refine y_s rfl rfl ?_
    refine y_sld rfl (nI_a1 j) (by omega) hn ?_
    refine y_s rfl rfl ?_
    refine y_s rfl rfl ?_
    refine y_s rfl rfl ?_
    refine y_s rfl rfl ?_
    refine y_sld rfl (nI_a2 j) (by omega) hn ?_
    refine y_s rfl rfl ?_
    refine y_s rfl rfl ?_
    refine y_s rfl rfl ?_
    refine y_s rfl rfl ?_
    refine y_sld rfl (nI_a3 j) (by omega) hn ?_
    refine y_cv (q_saucer (d := d) (L := _) b.1 c1 _ _ _) rfl rfl rfl (by decide) rfl (by decide) rfl (Nat.le_of_ble_eq_true rfl) (by decide) (Nat.zero_le _) (Nat.zero_le _) ?_
    rintro v h' ⟨rfl, d2, rfl, m2, t2⟩
    have t3 : d2 112 0 = 2 := by rw [t2, g, g']; rfl
    exact tl_saucer t3 (fun z => absurd z (by decide)) (K d2 _ (LI_q hI0 sm_rfl m2))
set_option maxRecDepth 100000 in
set_option maxHeartbeats 1000000 in
theorem tl_game {n j kc ks : Nat} {xs : Nat → Int32} {d : Nat → Nat → Int32} {L : Nat → Nat → Int64} {kk bb : Int32} (ht : d 112 0 = kk) (ho : kk = 0 → L 145 0 = bb.toInt64) (K : ExG (PhS n xs) false (mW []) false 70 kc ks 2675 (lk j) [] (W0 d L) Qe Xe) : ExG (PhS n xs) false (mW pC28) false 70 kc ks 1881 (lk5 j kk none) [.int bb] (W0 d L) Qe Xe := by
  have K' : ∀ o6, ExG (PhS n xs) false (mW pC28) false 70 kc ks 1911 (lk5 j kk o6) [] (W0 d L) Qe Xe := fun o6 => by
    refine y_s rfl rfl ?_
    exact y_fl7 (y_rows ⟨rfl, trivial⟩ K)
  refine y_s rfl rfl ?_
  refine y_s rfl rfl ?_
  refine y_cv (k_thrown (d := d) (L := L)) rfl rfl rfl (by decide) rfl (by decide) rfl (by decide) (by decide) (Nat.zero_le _) (Nat.zero_le _) ?_
  rintro v h' ⟨rfl, rfl⟩
  refine y_s rfl rfl ?_
  refine y_br rfl rfl (fun _ => ?_) (fun c => absurd ht c)
  refine y_s rfl rfl ?_
  refine y_br rfl rfl (fun _ => K' _) (fun c => ?_)
  refine y_s rfl rfl ?_
  refine y_s rfl rfl ?_
  refine y_ald rfl rfl rfl (k := 0) rfl (by decide) (by decide) rfl ?_
  refine y_s rfl rfl ?_
  refine y_s rfl rfl ?_
  refine y_s rfl rfl ?_
  exact y_br rfl rfl (fun _ => K' _) (fun z => absurd (lcmp_e (ho c)) z)
set_option maxRecDepth 100000 in
set_option maxHeartbeats 1000000 in
theorem lw_game {n j kc ks : Nat} {xs : Nat → Int32} {d : Nat → Nat → Int32} {L : Nat → Nat → Int64} (hj : j + 6 ≤ n) (hn : n ≤ 3072) (hI : LI d) (hkc : 6 ≤ kc) (hks : 36 ≤ ks) (K : ∀ d' L', LI d' → ExG (PhS n xs) false (mW []) false 70 (kc - 6) (ks - 36) 2675 (lk j) [] (W0 d' L') Qe Xe) : ExG (PhS n xs) false (mW []) false 70 kc ks 1810 (lk j) [] (W0 d L) Qe Xe := by
  have hI0 := hI
  obtain ⟨F, nA, E, G, Z, m, T, I, a, b, c, jj⟩ := hI
  have a1 := a.1
  have a2 := a.2.1
  have a3 := a.2.2.1
  have a4 := a.2.2.2.1
  have a5 := a.2.2.2.2.1
  have c1 := c.1
  have c2 := c.2.1
  have c3 := c.2.2.1
  have c4 := c.2.2.2.1
  refine y_rows gC28 ?_
  refine y_s rfl rfl ?_
  refine y_s rfl rfl ?_
  refine y_s rfl rfl ?_
  refine y_s rfl rfl ?_
  refine y_s rfl rfl ?_
  refine y_sld rfl (nI_a1 j) (by omega) hn ?_
  refine y_s rfl rfl ?_
  refine y_s rfl rfl ?_
  refine y_s rfl rfl ?_
  refine y_s rfl rfl ?_
  refine y_sld rfl (nI_a2 j) (by omega) hn ?_
  refine y_s rfl rfl ?_
  refine y_s rfl rfl ?_
  refine y_s rfl rfl ?_
  refine y_s rfl rfl ?_
  refine y_sld rfl (nI_a3 j) (by omega) hn ?_
  refine y_s rfl rfl ?_
  refine y_s rfl rfl ?_
  refine y_s rfl rfl ?_
  refine y_s rfl rfl ?_
  refine y_sld rfl (nI_a4 j) (by omega) hn ?_
  refine y_s rfl rfl ?_
  refine y_s rfl rfl ?_
  refine y_s rfl rfl ?_
  refine y_s rfl rfl ?_
  refine y_sld rfl (nI_a5 j) (by omega) hn ?_
  refine y_s rfl rfl ?_
  refine y_ch (h_game (p_game (d := d) (L := L) a1 c1 a2 _ _ _ _ _) rfl qG_Q qT2_X) rfl rfl rfl (by decide) (Nat.le_of_ble_eq_true rfl) (by decide) hkc hks ?_
  rintro v h' (⟨x, h0, ⟨g, e, d1, L1, rfl, s1, s2⟩, rfl, rfl⟩ | ⟨k0, ⟨rfl, ⟨rfl, g⟩ | ⟨rfl, g, g'⟩⟩, rfl⟩)
  · cases e
    have bb := IMm_sm b (SXm s1)
    refine y_s rfl rfl ?_
    refine y_s rfl rfl ?_
    refine y_s rfl rfl ?_
    refine y_s rfl rfl ?_
    refine y_s rfl rfl ?_
    refine y_s rfl rfl ?_
    refine y_sld rfl (nI_a1 j) (by omega) hn ?_
    refine y_s rfl rfl ?_
    refine y_s rfl rfl ?_
    refine y_s rfl rfl ?_
    refine y_s rfl rfl ?_
    refine y_sld rfl (nI_a2 j) (by omega) hn ?_
    refine y_s rfl rfl ?_
    refine y_s rfl rfl ?_
    refine y_s rfl rfl ?_
    refine y_s rfl rfl ?_
    refine y_sld rfl (nI_a3 j) (by omega) hn ?_
    refine y_s rfl rfl ?_
    refine y_s rfl rfl ?_
    refine y_s rfl rfl ?_
    refine y_s rfl rfl ?_
    refine y_sld rfl (nI_a4 j) (by omega) hn ?_
    refine y_s rfl rfl ?_
    refine y_s rfl rfl ?_
    refine y_s rfl rfl ?_
    refine y_s rfl rfl ?_
    refine y_sld rfl (nI_a5 j) (by omega) hn ?_
    refine y_cv (q_game (d := d1) (L := _) bb.1 c1 _ _ _ _ _) rfl rfl rfl (by decide) rfl (by decide) rfl (Nat.le_of_ble_eq_true rfl) (by decide) (Nat.zero_le _) (Nat.zero_le _) ?_
    rintro v h' ⟨rfl, d2, rfl, m2, t2⟩
    rw [if_pos g] at t2 ⊢
    exact tl_game t2 (fun _ => rfl) (K d2 _ (LI_q hI0 s1 m2))
  · refine y_s rfl rfl ?_
    refine y_s rfl rfl ?_
    refine y_s rfl rfl ?_
    refine y_s rfl rfl ?_
    refine y_s rfl rfl ?_
    refine y_s rfl rfl ?_
    refine y_sld rfl (nI_a1 j) (by omega) hn ?_
    refine y_s rfl rfl ?_
    refine y_s rfl rfl ?_
    refine y_s rfl rfl ?_
    refine y_s rfl rfl ?_
    refine y_sld rfl (nI_a2 j) (by omega) hn ?_
    refine y_s rfl rfl ?_
    refine y_s rfl rfl ?_
    refine y_s rfl rfl ?_
    refine y_s rfl rfl ?_
    refine y_sld rfl (nI_a3 j) (by omega) hn ?_
    refine y_s rfl rfl ?_
    refine y_s rfl rfl ?_
    refine y_s rfl rfl ?_
    refine y_s rfl rfl ?_
    refine y_sld rfl (nI_a4 j) (by omega) hn ?_
    refine y_s rfl rfl ?_
    refine y_s rfl rfl ?_
    refine y_s rfl rfl ?_
    refine y_s rfl rfl ?_
    refine y_sld rfl (nI_a5 j) (by omega) hn ?_
    refine y_cv (q_game (d := d) (L := _) b.1 c1 _ _ _ _ _) rfl rfl rfl (by decide) rfl (by decide) rfl (Nat.le_of_ble_eq_true rfl) (by decide) (Nat.zero_le _) (Nat.zero_le _) ?_
    rintro v h' ⟨rfl, d2, rfl, m2, t2⟩
    have t3 : d2 112 0 = 1 := by rw [t2]; simp [g]
    exact tl_game t3 (fun z => absurd z (by decide)) (K d2 _ (LI_q hI0 sm_rfl m2))
  · refine y_s rfl rfl ?_
    refine y_s rfl rfl ?_
    refine y_s rfl rfl ?_
    refine y_s rfl rfl ?_
    refine y_s rfl rfl ?_
    refine y_s rfl rfl ?_
    refine y_sld rfl (nI_a1 j) (by omega) hn ?_
    refine y_s rfl rfl ?_
    refine y_s rfl rfl ?_
    refine y_s rfl rfl ?_
    refine y_s rfl rfl ?_
    refine y_sld rfl (nI_a2 j) (by omega) hn ?_
    refine y_s rfl rfl ?_
    refine y_s rfl rfl ?_
    refine y_s rfl rfl ?_
    refine y_s rfl rfl ?_
    refine y_sld rfl (nI_a3 j) (by omega) hn ?_
    refine y_s rfl rfl ?_
    refine y_s rfl rfl ?_
    refine y_s rfl rfl ?_
    refine y_s rfl rfl ?_
    refine y_sld rfl (nI_a4 j) (by omega) hn ?_
    refine y_s rfl rfl ?_
    refine y_s rfl rfl ?_
    refine y_s rfl rfl ?_
    refine y_s rfl rfl ?_
    refine y_sld rfl (nI_a5 j) (by omega) hn ?_
    refine y_cv (q_game (d := d) (L := _) b.1 c1 _ _ _ _ _) rfl rfl rfl (by decide) rfl (by decide) rfl (Nat.le_of_ble_eq_true rfl) (by decide) (Nat.zero_le _) (Nat.zero_le _) ?_
    rintro v h' ⟨rfl, d2, rfl, m2, t2⟩
    have t3 : d2 112 0 = 2 := by rw [t2, g, g']; rfl
    exact tl_game t3 (fun z => absurd z (by decide)) (K d2 _ (LI_q hI0 sm_rfl m2))
set_option maxRecDepth 100000 in
set_option maxHeartbeats 1000000 in
theorem tl_years {n j kc ks : Nat} {xs : Nat → Int32} {d : Nat → Nat → Int32} {L : Nat → Nat → Int64} {kk bb : Int32} (ht : d 112 0 = kk) (ho : kk = 0 → L 145 0 = bb.toInt64) (K : ExG (PhS n xs) false (mW []) false 70 kc ks 2675 (lk j) [] (W0 d L) Qe Xe) : ExG (PhS n xs) false (mW pC29) false 70 kc ks 1961 (lk5 j kk none) [.int bb] (W0 d L) Qe Xe := by
  have K' : ∀ o6, ExG (PhS n xs) false (mW pC29) false 70 kc ks 1991 (lk5 j kk o6) [] (W0 d L) Qe Xe := fun o6 => by
    refine y_s rfl rfl ?_
    exact y_fl7 (y_rows ⟨rfl, trivial⟩ K)
  refine y_s rfl rfl ?_
  refine y_s rfl rfl ?_
  refine y_cv (k_thrown (d := d) (L := L)) rfl rfl rfl (by decide) rfl (by decide) rfl (by decide) (by decide) (Nat.zero_le _) (Nat.zero_le _) ?_
  rintro v h' ⟨rfl, rfl⟩
  refine y_s rfl rfl ?_
  refine y_br rfl rfl (fun _ => ?_) (fun c => absurd ht c)
  refine y_s rfl rfl ?_
  refine y_br rfl rfl (fun _ => K' _) (fun c => ?_)
  refine y_s rfl rfl ?_
  refine y_s rfl rfl ?_
  refine y_ald rfl rfl rfl (k := 0) rfl (by decide) (by decide) rfl ?_
  refine y_s rfl rfl ?_
  refine y_s rfl rfl ?_
  refine y_s rfl rfl ?_
  exact y_br rfl rfl (fun _ => K' _) (fun z => absurd (lcmp_e (ho c)) z)
set_option maxRecDepth 100000 in
set_option maxHeartbeats 1000000 in
theorem lw_years {n j kc ks : Nat} {xs : Nat → Int32} {d : Nat → Nat → Int32} {L : Nat → Nat → Int64} (hj : j + 6 ≤ n) (hn : n ≤ 3072) (hI : LI d) (hkc : 6 ≤ kc) (hks : 36 ≤ ks) (K : ∀ d' L', LI d' → ExG (PhS n xs) false (mW []) false 70 (kc - 6) (ks - 36) 2675 (lk j) [] (W0 d' L') Qe Xe) : ExG (PhS n xs) false (mW []) false 70 kc ks 1914 (lk j) [] (W0 d L) Qe Xe := by
  have hI0 := hI
  obtain ⟨F, nA, E, G, Z, m, T, I, a, b, c, jj⟩ := hI
  have a1 := a.1
  have a2 := a.2.1
  have a3 := a.2.2.1
  have a4 := a.2.2.2.1
  have a5 := a.2.2.2.2.1
  have c1 := c.1
  have c2 := c.2.1
  have c3 := c.2.2.1
  have c4 := c.2.2.2.1
  refine y_rows gC29 ?_
  refine y_s rfl rfl ?_
  refine y_s rfl rfl ?_
  refine y_s rfl rfl ?_
  refine y_s rfl rfl ?_
  refine y_s rfl rfl ?_
  refine y_sld rfl (nI_a1 j) (by omega) hn ?_
  refine y_s rfl rfl ?_
  refine y_s rfl rfl ?_
  refine y_s rfl rfl ?_
  refine y_s rfl rfl ?_
  refine y_sld rfl (nI_a2 j) (by omega) hn ?_
  refine y_s rfl rfl ?_
  refine y_s rfl rfl ?_
  refine y_s rfl rfl ?_
  refine y_s rfl rfl ?_
  refine y_sld rfl (nI_a3 j) (by omega) hn ?_
  refine y_s rfl rfl ?_
  refine y_ch (h_years (p_years (d := d) (L := L) a1 c1 a2 _ _ _) rfl qG_Q qT2_X) rfl rfl rfl (by decide) (Nat.le_of_ble_eq_true rfl) (by decide) hkc hks ?_
  rintro v h' (⟨x, h0, ⟨g, e, d1, L1, rfl, s1, s2⟩, rfl, rfl⟩ | ⟨k0, ⟨rfl, ⟨rfl, g⟩ | ⟨rfl, g, g'⟩⟩, rfl⟩)
  · cases e
    have bb := IMm_sm b (SXm s1)
    refine y_s rfl rfl ?_
    refine y_s rfl rfl ?_
    refine y_s rfl rfl ?_
    refine y_s rfl rfl ?_
    refine y_s rfl rfl ?_
    refine y_s rfl rfl ?_
    refine y_sld rfl (nI_a1 j) (by omega) hn ?_
    refine y_s rfl rfl ?_
    refine y_s rfl rfl ?_
    refine y_s rfl rfl ?_
    refine y_s rfl rfl ?_
    refine y_sld rfl (nI_a2 j) (by omega) hn ?_
    refine y_s rfl rfl ?_
    refine y_s rfl rfl ?_
    refine y_s rfl rfl ?_
    refine y_s rfl rfl ?_
    refine y_sld rfl (nI_a3 j) (by omega) hn ?_
    refine y_cv (q_years (d := d1) (L := _) bb.1 c1 _ _ _) rfl rfl rfl (by decide) rfl (by decide) rfl (Nat.le_of_ble_eq_true rfl) (by decide) (Nat.zero_le _) (Nat.zero_le _) ?_
    rintro v h' ⟨rfl, d2, rfl, m2, t2⟩
    rw [if_pos g] at t2 ⊢
    exact tl_years t2 (fun _ => rfl) (K d2 _ (LI_q hI0 s1 m2))
  · refine y_s rfl rfl ?_
    refine y_s rfl rfl ?_
    refine y_s rfl rfl ?_
    refine y_s rfl rfl ?_
    refine y_s rfl rfl ?_
    refine y_s rfl rfl ?_
    refine y_sld rfl (nI_a1 j) (by omega) hn ?_
    refine y_s rfl rfl ?_
    refine y_s rfl rfl ?_
    refine y_s rfl rfl ?_
    refine y_s rfl rfl ?_
    refine y_sld rfl (nI_a2 j) (by omega) hn ?_
    refine y_s rfl rfl ?_
    refine y_s rfl rfl ?_
    refine y_s rfl rfl ?_
    refine y_s rfl rfl ?_
    refine y_sld rfl (nI_a3 j) (by omega) hn ?_
    refine y_cv (q_years (d := d) (L := _) b.1 c1 _ _ _) rfl rfl rfl (by decide) rfl (by decide) rfl (Nat.le_of_ble_eq_true rfl) (by decide) (Nat.zero_le _) (Nat.zero_le _) ?_
    rintro v h' ⟨rfl, d2, rfl, m2, t2⟩
    have t3 : d2 112 0 = 1 := by rw [t2]; simp [g]
    exact tl_years t3 (fun z => absurd z (by decide)) (K d2 _ (LI_q hI0 sm_rfl m2))
  · refine y_s rfl rfl ?_
    refine y_s rfl rfl ?_
    refine y_s rfl rfl ?_
    refine y_s rfl rfl ?_
    refine y_s rfl rfl ?_
    refine y_s rfl rfl ?_
    refine y_sld rfl (nI_a1 j) (by omega) hn ?_
    refine y_s rfl rfl ?_
    refine y_s rfl rfl ?_
    refine y_s rfl rfl ?_
    refine y_s rfl rfl ?_
    refine y_sld rfl (nI_a2 j) (by omega) hn ?_
    refine y_s rfl rfl ?_
    refine y_s rfl rfl ?_
    refine y_s rfl rfl ?_
    refine y_s rfl rfl ?_
    refine y_sld rfl (nI_a3 j) (by omega) hn ?_
    refine y_cv (q_years (d := d) (L := _) b.1 c1 _ _ _) rfl rfl rfl (by decide) rfl (by decide) rfl (Nat.le_of_ble_eq_true rfl) (by decide) (Nat.zero_le _) (Nat.zero_le _) ?_
    rintro v h' ⟨rfl, d2, rfl, m2, t2⟩
    have t3 : d2 112 0 = 2 := by rw [t2, g, g']; rfl
    exact tl_years t3 (fun z => absurd z (by decide)) (K d2 _ (LI_q hI0 sm_rfl m2))
set_option maxRecDepth 100000 in
set_option maxHeartbeats 1000000 in
theorem tl_hideouts {n j kc ks : Nat} {xs : Nat → Int32} {d : Nat → Nat → Int32} {L : Nat → Nat → Int64} {kk bb : Int32} (ht : d 112 0 = kk) (ho : kk = 0 → L 145 0 = bb.toInt64) (K : ExG (PhS n xs) false (mW []) false 70 kc ks 2675 (lk j) [] (W0 d L) Qe Xe) : ExG (PhS n xs) false (mW pC35) false 70 kc ks 2369 (lk5 j kk none) [.int bb] (W0 d L) Qe Xe := by
  have K' : ∀ o6, ExG (PhS n xs) false (mW pC35) false 70 kc ks 2399 (lk5 j kk o6) [] (W0 d L) Qe Xe := fun o6 => by
    refine y_s rfl rfl ?_
    exact y_fl7 (y_rows ⟨rfl, trivial⟩ K)
  refine y_s rfl rfl ?_
  refine y_s rfl rfl ?_
  refine y_cv (k_thrown (d := d) (L := L)) rfl rfl rfl (by decide) rfl (by decide) rfl (by decide) (by decide) (Nat.zero_le _) (Nat.zero_le _) ?_
  rintro v h' ⟨rfl, rfl⟩
  refine y_s rfl rfl ?_
  refine y_br rfl rfl (fun _ => ?_) (fun c => absurd ht c)
  refine y_s rfl rfl ?_
  refine y_br rfl rfl (fun _ => K' _) (fun c => ?_)
  refine y_s rfl rfl ?_
  refine y_s rfl rfl ?_
  refine y_ald rfl rfl rfl (k := 0) rfl (by decide) (by decide) rfl ?_
  refine y_s rfl rfl ?_
  refine y_s rfl rfl ?_
  refine y_s rfl rfl ?_
  exact y_br rfl rfl (fun _ => K' _) (fun z => absurd (lcmp_e (ho c)) z)
set_option maxRecDepth 100000 in
set_option maxHeartbeats 1000000 in
theorem lw_hideouts {n j kc ks : Nat} {xs : Nat → Int32} {d : Nat → Nat → Int32} {L : Nat → Nat → Int64} (hj : j + 6 ≤ n) (hn : n ≤ 3072) (hI : LI d) (hkc : 6 ≤ kc) (hks : 36 ≤ ks) (K : ∀ d' L', LI d' → ExG (PhS n xs) false (mW []) false 70 (kc - 6) (ks - 36) 2675 (lk j) [] (W0 d' L') Qe Xe) : ExG (PhS n xs) false (mW []) false 70 kc ks 2310 (lk j) [] (W0 d L) Qe Xe := by
  have hI0 := hI
  obtain ⟨F, nA, E, G, Z, m, T, I, a, b, c, jj⟩ := hI
  have a1 := a.1
  have a2 := a.2.1
  have a3 := a.2.2.1
  have a4 := a.2.2.2.1
  have a5 := a.2.2.2.2.1
  have c1 := c.1
  have c2 := c.2.1
  have c3 := c.2.2.1
  have c4 := c.2.2.2.1
  refine y_rows gC35 ?_
  refine y_s rfl rfl ?_
  refine y_s rfl rfl ?_
  refine y_s rfl rfl ?_
  refine y_s rfl rfl ?_
  refine y_s rfl rfl ?_
  refine y_sld rfl (nI_a1 j) (by omega) hn ?_
  refine y_s rfl rfl ?_
  refine y_s rfl rfl ?_
  refine y_s rfl rfl ?_
  refine y_s rfl rfl ?_
  refine y_sld rfl (nI_a2 j) (by omega) hn ?_
  refine y_s rfl rfl ?_
  refine y_s rfl rfl ?_
  refine y_s rfl rfl ?_
  refine y_s rfl rfl ?_
  refine y_sld rfl (nI_a3 j) (by omega) hn ?_
  refine y_s rfl rfl ?_
  refine y_s rfl rfl ?_
  refine y_s rfl rfl ?_
  refine y_s rfl rfl ?_
  refine y_sld rfl (nI_a4 j) (by omega) hn ?_
  refine y_s rfl rfl ?_
  refine y_ch (h_hideouts (p_hideouts (d := d) (L := L) a1 c1 _ _ _ _) rfl qG_Q qT2_X) rfl rfl rfl (by decide) (Nat.le_of_ble_eq_true rfl) (by decide) hkc hks ?_
  rintro v h' (⟨x, h0, ⟨g, e, d1, L1, rfl, s1, s2⟩, rfl, rfl⟩ | ⟨k0, ⟨rfl, ⟨rfl, g⟩ | ⟨rfl, g, g'⟩⟩, rfl⟩)
  · cases e
    have bb := IMm_sm b (SXm s1)
    refine y_s rfl rfl ?_
    refine y_s rfl rfl ?_
    refine y_s rfl rfl ?_
    refine y_s rfl rfl ?_
    refine y_s rfl rfl ?_
    refine y_s rfl rfl ?_
    refine y_sld rfl (nI_a1 j) (by omega) hn ?_
    refine y_s rfl rfl ?_
    refine y_s rfl rfl ?_
    refine y_s rfl rfl ?_
    refine y_s rfl rfl ?_
    refine y_sld rfl (nI_a2 j) (by omega) hn ?_
    refine y_s rfl rfl ?_
    refine y_s rfl rfl ?_
    refine y_s rfl rfl ?_
    refine y_s rfl rfl ?_
    refine y_sld rfl (nI_a3 j) (by omega) hn ?_
    refine y_s rfl rfl ?_
    refine y_s rfl rfl ?_
    refine y_s rfl rfl ?_
    refine y_s rfl rfl ?_
    refine y_sld rfl (nI_a4 j) (by omega) hn ?_
    refine y_cv (q_hideouts (d := d1) (L := _) bb.1 c1 _ _ _ _) rfl rfl rfl (by decide) rfl (by decide) rfl (Nat.le_of_ble_eq_true rfl) (by decide) (Nat.zero_le _) (Nat.zero_le _) ?_
    rintro v h' ⟨rfl, d2, rfl, m2, t2⟩
    rw [if_pos g] at t2 ⊢
    exact tl_hideouts t2 (fun _ => rfl) (K d2 _ (LI_q hI0 s1 m2))
  · refine y_s rfl rfl ?_
    refine y_s rfl rfl ?_
    refine y_s rfl rfl ?_
    refine y_s rfl rfl ?_
    refine y_s rfl rfl ?_
    refine y_s rfl rfl ?_
    refine y_sld rfl (nI_a1 j) (by omega) hn ?_
    refine y_s rfl rfl ?_
    refine y_s rfl rfl ?_
    refine y_s rfl rfl ?_
    refine y_s rfl rfl ?_
    refine y_sld rfl (nI_a2 j) (by omega) hn ?_
    refine y_s rfl rfl ?_
    refine y_s rfl rfl ?_
    refine y_s rfl rfl ?_
    refine y_s rfl rfl ?_
    refine y_sld rfl (nI_a3 j) (by omega) hn ?_
    refine y_s rfl rfl ?_
    refine y_s rfl rfl ?_
    refine y_s rfl rfl ?_
    refine y_s rfl rfl ?_
    refine y_sld rfl (nI_a4 j) (by omega) hn ?_
    refine y_cv (q_hideouts (d := d) (L := _) b.1 c1 _ _ _ _) rfl rfl rfl (by decide) rfl (by decide) rfl (Nat.le_of_ble_eq_true rfl) (by decide) (Nat.zero_le _) (Nat.zero_le _) ?_
    rintro v h' ⟨rfl, d2, rfl, m2, t2⟩
    have t3 : d2 112 0 = 1 := by rw [t2]; simp [g]
    exact tl_hideouts t3 (fun z => absurd z (by decide)) (K d2 _ (LI_q hI0 sm_rfl m2))
  · refine y_s rfl rfl ?_
    refine y_s rfl rfl ?_
    refine y_s rfl rfl ?_
    refine y_s rfl rfl ?_
    refine y_s rfl rfl ?_
    refine y_s rfl rfl ?_
    refine y_sld rfl (nI_a1 j) (by omega) hn ?_
    refine y_s rfl rfl ?_
    refine y_s rfl rfl ?_
    refine y_s rfl rfl ?_
    refine y_s rfl rfl ?_
    refine y_sld rfl (nI_a2 j) (by omega) hn ?_
    refine y_s rfl rfl ?_
    refine y_s rfl rfl ?_
    refine y_s rfl rfl ?_
    refine y_s rfl rfl ?_
    refine y_sld rfl (nI_a3 j) (by omega) hn ?_
    refine y_s rfl rfl ?_
    refine y_s rfl rfl ?_
    refine y_s rfl rfl ?_
    refine y_s rfl rfl ?_
    refine y_sld rfl (nI_a4 j) (by omega) hn ?_
    refine y_cv (q_hideouts (d := d) (L := _) b.1 c1 _ _ _ _) rfl rfl rfl (by decide) rfl (by decide) rfl (Nat.le_of_ble_eq_true rfl) (by decide) (Nat.zero_le _) (Nat.zero_le _) ?_
    rintro v h' ⟨rfl, d2, rfl, m2, t2⟩
    have t3 : d2 112 0 = 2 := by rw [t2, g, g']; rfl
    exact tl_hideouts t3 (fun z => absurd z (by decide)) (K d2 _ (LI_q hI0 sm_rfl m2))
