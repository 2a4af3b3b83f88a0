/-! THE MODEL reads an EXPR -/
theorem kw_eq {k v a : Nat} (ha : a < 17) (hv : v ≤ 17) : kwI k v = nI a ↔ k = 1 ∧ v = a := by
  unfold kwI
  by_cases h : k = 1 ∧ v < 17
  · rw [if_pos h, nI_eq (by omega) (by omega)]
    exact ⟨fun z => ⟨h.1, z⟩, fun z => z.2⟩
  · rw [if_neg h]
    refine ⟨fun z => ?_, fun z => absurd ⟨z.1, by omega⟩ h⟩
    have := congrArg Int32.toInt z
    rw [nI_tI (by omega)] at this
    have e : (-1 : Int32).toInt = -1 := rfl
    omega
theorem MT_v {d : Nat → Nat → Int32} {L : Nat → Nat → Int64} {T : Nat → Nat} {n s k v : Nat} {r : List Tk} (H : MT d L T n ((s, k, v) :: r)) (hk : k = 1) : v ≤ 17 := by
  obtain ⟨-, -, b3, b4, b5⟩ := MT_hd H
  rw [b4]
  unfold tV
  rw [← b3, hk, if_neg (by decide), if_pos rfl]
  exact fx_le _ _
theorem kw_ne {d : Nat → Nat → Int32} {L : Nat → Nat → Int64} {T : Nat → Nat} {n s k v a : Nat} {r : List Tk} (H : MT d L T n ((s, k, v) :: r)) (ha : a < 17) : kwI k v = nI a ↔ k = 1 ∧ v = a := by
  by_cases hk : k = 1
  · exact kw_eq ha (MT_v H hk)
  · unfold kwI
    rw [if_neg (fun z => hk z.1)]
    refine ⟨fun z => ?_, fun z => absurd z.1 hk⟩
    have := congrArg Int32.toInt z
    rw [nI_tI (by omega)] at this
    have e : (-1 : Int32).toInt = -1 := rfl
    omega
section
variable (d : Nat → Nat → Int32) (L : Nat → Nat → Int64) {T : Nat → Nat} {n b at0 : Nat}
set_option maxRecDepth 100000 in
set_option maxHeartbeats 1600000 in
theorem k_deeper {s k v : Nat} {r : List Tk} {C W : List Int32} {ts : List Bool} (H : MT d L T n ((s, k, v) :: r)) (G : GS d b at0 C W ts) : Cn mX12_deeper false 2 0 0 [.ref 112] (W0 d L) (fun q h => q = none ∧ ((ts.length < 6 ∧ h = W0 (up2 (up2 d 112 32 (nI (ts.length + 1))) 127 (ts.length + 1) 0) L) ∨ (6 ≤ ts.length ∧ h = W0 (up2 (up2 d 112 12 (nI (fDp (s, k)).1)) 112 13 (nI s)) L))) := by
  obtain ⟨f1, f2, f3, f4, f5, f6⟩ := MT_f H
  have sl := srt_le k
  have g32 := G.2.2.2.2.1.1
  have g6 := G.2.2.2.2.2.1
  refine Cn.intro gX12_deeper rfl (Nat.le_of_ble_eq_true rfl) rfl ?_
  repeat refine x_s rfl rfl ?_
  rw [g32]
  rcases Nat.lt_or_ge ts.length 6 with h | h
  · refine x_br rfl rfl (fun c => absurd c (nI_ge (b := 6) h (by decide))) (fun c => ?_)
    repeat refine x_s rfl rfl ?_
    refine x_put rfl rfl (by decide) rfl ⟨rfl, rfl⟩ (Or.inl rfl) ?_
    have e : d 112 32 + 1 = nI (ts.length + 1) := by rw [g32, nI_1]
    rw [e]
    repeat refine x_s rfl rfl ?_
    refine x_zast rfl rfl (k := ts.length + 1) rfl (by omega) (by decide) rfl ?_
    exact x_vret rfl rfl ⟨rfl, Or.inl ⟨h, rfl⟩⟩
  · refine x_br rfl rfl (fun c => ?_) (fun c => absurd c (fun z => z (nI_le (a := 6) h (by omega))))
    have at61 : ∀ m, m = (fDp (s, k)).1 → Ex mX12_deeper false 2 0 0 61 [some (.ref 112)] [.int (nI m), .ref 112] (W0 d L) (fun q h => q = none ∧ ((ts.length < 6 ∧ h = W0 (up2 (up2 d 112 32 (nI (ts.length + 1))) 127 (ts.length + 1) 0) L) ∨ (6 ≤ ts.length ∧ h = W0 (up2 (up2 d 112 12 (nI (fDp (s, k)).1)) 112 13 (nI s)) L))) nX := by
      intro m hm
      refine x_cv (k_wrong d L G.1 _) rfl rfl rfl (by decide) rfl (by decide) rfl (Nat.le_of_ble_eq_true rfl) (by decide) (by decide) (by decide) ?_
      rintro _ _ ⟨rfl, rfl⟩
      rw [f1, hm]
      exact x_vret rfl rfl ⟨rfl, Or.inr ⟨h, rfl⟩⟩
    have ef : (fDp (s, k)).1 = if k = 2 ∨ k = 1 ∨ k = 40 then 2 else 1 := rfl
    rw [ef] at at61
    repeat refine x_s rfl rfl ?_
    rw [f2]
    by_cases h1 : k = 2
    · rw [(srt_e (j := 2) (by omega)).mpr h1]
      refine x_br rfl rfl (fun c => ?_) (fun c => absurd c (fun z => z rfl))
      iterate 2 refine x_s rfl rfl ?_
      exact at61 2 (by rw [if_pos (by omega)])
    refine x_br rfl rfl (fun c => absurd c (fun z => h1 ((srt_e (by omega)).mp ((nI_eq (by omega) (by decide)).mp z)))) (fun c => ?_)
    repeat refine x_s rfl rfl ?_
    rw [f2]
    by_cases h2 : k = 1
    · rw [(srt_e (j := 1) (by omega)).mpr h2]
      refine x_br rfl rfl (fun c => ?_) (fun c => absurd c (fun z => z rfl))
      iterate 2 refine x_s rfl rfl ?_
      exact at61 2 (by rw [if_pos (by omega)])
    refine x_br rfl rfl (fun c => absurd c (fun z => h2 ((srt_e (by omega)).mp ((nI_eq (by omega) (by decide)).mp z)))) (fun c => ?_)
    repeat refine x_s rfl rfl ?_
    refine x_cv (k_isSign d L (b := 40) (by decide) H) rfl rfl rfl (by decide) rfl (by decide) rfl (Nat.le_of_ble_eq_true rfl) (by decide) (by decide) (by decide) ?_
    rintro _ _ ⟨rfl, rfl⟩
    by_cases h3 : k = 40
    · rw [decide_eq_true h3]
      refine x_br rfl rfl (fun c => absurd c (by decide)) (fun c => ?_)
      iterate 2 refine x_s rfl rfl ?_
      exact at61 2 (by rw [if_pos (by omega)])
    · rw [decide_eq_false h3]
      refine x_br rfl rfl (fun c => ?_) (fun c => absurd c (fun z => z rfl))
      iterate 1 refine x_s rfl rfl ?_
      exact at61 1 (by rw [if_neg (by omega)])
set_option maxRecDepth 100000 in
set_option maxHeartbeats 1600000 in
theorem k_operand (hn : n ≤ 700) (hT : ∀ j, T j < 256) (hb : b = 17 ∨ b = 20) {l : List Tk} {C W : List Int32} {ts : List Bool} (mn : Bool) (H : MT d L T n l) (G : GS d b at0 C W ts) (B : BD at0 b C W l) (hts : zc W + 1 = ts.length) : Cn mX12_operand false 5 0 0 [.ref 112, .int (bI mn)] (W0 d L) (qO b at0 T n d L l (if mn then 2 else 1) C W ts) := by
  generalize hmd : (if mn then 2 else 1) = md
  have bad120 : ∀ (d1 : Nat → Nat → Int32) (L1 : Nat → Nat → Int64) (f : Nat × Nat) (o2 o3 o4 : Option Value), EF at0 d d1 → ML L L1 → BS d1 at0 f → run (vxB b) l md C W ts = .inl f → Ex mX12_operand false 5 0 0 120 [some (.ref 112), some (.int (bI mn)), o2, o3, o4] [] (W0 d1 L1) (qO b at0 T n d L l md C W ts) nX := by
    intro d1 L1 f o2 o3 o4 E1 l1 B1 hr
    repeat refine x_s rfl rfl ?_
    refine x_cv (k_partB d1 L1 B1.1.1 B1.1.2.2.1 B1.1.2.2.2.1) rfl rfl rfl (by decide) rfl (by decide) rfl (Nat.le_of_ble_eq_true rfl) (by decide) (by decide) (by decide) ?_
    rintro _ _ ⟨rfl, rfl⟩
    exact x_vret rfl rfl ⟨rfl, d1, L1, rfl, E1, l1, Or.inl ⟨f, B1, hr⟩⟩
  have bad4 : ∀ (d1 : Nat → Nat → Int32) (L1 : Nat → Nat → Int64) (f : Nat × Nat) (o2 o4 : Option Value), EF at0 d d1 → ML L L1 → BS d1 at0 f → run (vxB b) l md C W ts = .inl f → Ex mX12_operand false 5 0 0 4 [some (.ref 112), some (.int (bI mn)), o2, some (.int 1), o4] [] (W0 d1 L1) (qO b at0 T n d L l md C W ts) nX := by
    intro d1 L1 f o2 o4 E1 l1 B1 hr
    repeat refine x_s rfl rfl ?_
    refine x_br rfl rfl (fun c => absurd c (by decide)) (fun c => ?_)
    repeat refine x_s rfl rfl ?_
    refine x_cv (k_isGood d1 L1 B1.1.1 B1.1.2.2.2.1) rfl rfl rfl (by decide) rfl (by decide) rfl (Nat.le_of_ble_eq_true rfl) (by decide) (by decide) (by decide) ?_
    rintro _ _ ⟨rfl, rfl⟩
    rw [decide_eq_false (by have := B1.1.2.2.1; omega)]
    refine x_br rfl rfl (fun c => ?_) (fun c => absurd c (fun z => z rfl))
    exact bad120 d1 L1 f _ _ _ E1 l1 B1 hr
  have bad18 : ∀ (d1 : Nat → Nat → Int32) (L1 : Nat → Nat → Int64) (f : Nat × Nat) (o2 o3 o4 : Option Value), EF at0 d d1 → ML L L1 → BS d1 at0 f → run (vxB b) l md C W ts = .inl f → Ex mX12_operand false 5 0 0 18 [some (.ref 112), some (.int (bI mn)), o2, o3, o4] [] (W0 d1 L1) (qO b at0 T n d L l md C W ts) nX := by
    intro d1 L1 f o2 o3 o4 E1 l1 B1 hr
    have fb := B1.1.2.2.1
    repeat refine x_s rfl rfl ?_
    refine x_cv (k_isGood d1 L1 B1.1.1 B1.1.2.2.2.1) rfl rfl rfl (by decide) rfl (by decide) rfl (Nat.le_of_ble_eq_true rfl) (by decide) (by decide) (by decide) ?_
    rintro _ _ ⟨rfl, rfl⟩
    rw [decide_eq_false (by omega)]
    refine x_br rfl rfl (fun c => ?_) (fun c => absurd c (fun z => z rfl))
    repeat refine x_s rfl rfl ?_
    refine x_cv (k_isGood d1 L1 B1.1.1 B1.1.2.2.2.1) rfl rfl rfl (by decide) rfl (by decide) rfl (Nat.le_of_ble_eq_true rfl) (by decide) (by decide) (by decide) ?_
    rintro _ _ ⟨rfl, rfl⟩
    rw [decide_eq_false (by omega)]
    refine x_br rfl rfl (fun c => ?_) (fun c => absurd c (fun z => z rfl))
    repeat refine x_s rfl rfl ?_
    refine x_br rfl rfl (fun c => ?_) (fun c => absurd c (fun z => z rfl))
    repeat refine x_s rfl rfl ?_
    refine x_br rfl rfl (fun c => ?_) (fun c => absurd c (fun z => z rfl))
    exact bad120 d1 L1 f _ _ _ E1 l1 B1 hr
  have lp : ∀ (N : Nat) (l1 : List Tk), l1.length ≤ N → ∀ (d1 : Nat → Nat → Int32) (L1 : Nat → Nat → Int64) (C1 W1 : List Int32) (ts1 : List Bool) (nf : Bool) (j : Nat), ((nf = true ∧ j ≤ 6) ∨ (nf = false ∧ j = 0)) → MT d1 L1 T n l1 → GS d1 b at0 C1 W1 ts1 → BD at0 b C1 W1 l1 → zc W1 + 1 = ts1.length → EF at0 d d1 → ML L L1 → l1.length ≤ l.length → run (vxB b) l md C W ts = run (vxB b) l1 (if nf then j + 2 else 1) C1 W1 ts1 → Ex mX12_operand false 5 0 0 18 [some (.ref 112), some (.int (bI mn)), some (.int (bI nf)), some (.int 1), some (.int (nI j))] [] (W0 d1 L1) (qO b at0 T n d L l md C W ts) nX := by
    intro N
    induction N with
    | zero =>
      intro l1 hl d1 L1 C1 W1 ts1 nf j hj M1
      obtain ⟨s, k, v, r, rfl⟩ := MT_ne M1
      exact absurd hl (by simp)
    | succ N ih =>
      intro l1 hl d1 L1 C1 W1 ts1 nf j hj M1 G1 B1 ht1 E1 m1 hll hr
      obtain ⟨s, k, v, r, rfl⟩ := MT_ne M1
      obtain ⟨f1, f2, f3, f4, f5, f6⟩ := MT_f M1
      have b1 := B1.1
      have b2 := B1.2
      simp only [List.length_cons] at b1 b2 hl hll
      have g31 : d1 112 31 = nI W1.length := by
        have := G1.2.2.1.1
        rw [List.length_map] at this
        exact this
      have at75 : ¬ (nf = true ∧ (k = 1 ∧ v = 16)) → Ex mX12_operand false 5 0 0 75 [some (.ref 112), some (.int (bI mn)), some (.int (bI nf)), some (.int 1), some (.int (nI j))] [] (W0 d1 L1) (qO b at0 T n d L l md C W ts) nX := by
        intro hN
        have hr1 : run (vxB b) l md C W ts = run (vxB b) ((s, k, v) :: r) 1 C1 W1 ts1 := by
          rw [hr]
          cases nf
          · rfl
          · exact run_no (fun z => hN ⟨rfl, z⟩) (j + 1) W1 ts1
        repeat refine x_s rfl rfl ?_
        refine x_cv (k_isGood d1 L1 G1.1 (by decide)) rfl rfl rfl (by decide) rfl (by decide) rfl (Nat.le_of_ble_eq_true rfl) (by decide) (by decide) (by decide) ?_
        rintro _ _ ⟨rfl, rfl⟩
        refine x_br rfl rfl (fun c => absurd c (by decide)) (fun c => ?_)
        repeat refine x_s rfl rfl ?_
        refine x_cv (k_isSign d1 L1 (b := 40) (by decide) M1) rfl rfl rfl (by decide) rfl (by decide) rfl (Nat.le_of_ble_eq_true rfl) (by decide) (by decide) (by decide) ?_
        rintro _ _ ⟨rfl, rfl⟩
        by_cases h40 : k = 40
        rotate_left
        · rw [decide_eq_false h40]
          refine x_br rfl rfl (fun c => ?_) (fun c => absurd c (fun z => z rfl))
          repeat refine x_s rfl rfl ?_
          refine x_br rfl rfl (fun c => ?_) (fun c => absurd c (fun z => z rfl))
          repeat refine x_s rfl rfl ?_
          refine x_br rfl rfl (fun c => ?_) (fun c => absurd c (fun z => z rfl))
          repeat refine x_s rfl rfl ?_
          refine x_cv (k_part d1 L1 hn hT hb M1 G1 B1 ht1 h40) rfl rfl rfl (by decide) rfl (by decide) rfl (Nat.le_of_ble_eq_true rfl) (by decide) (by decide) (by decide) ?_
          rintro _ _ ⟨rfl, d2, L2, rfl, E2, m2, hq⟩
          refine x_vret rfl rfl ⟨rfl, d2, L2, rfl, EF_tr E1 E2, ML_tr m1 m2, ?_⟩
          rcases hq with ⟨f, q1, q2⟩ | ⟨l', C', W', ts', q1, q2, q3, q4, q5, q6⟩
          · exact Or.inl ⟨f, q1, hr1.trans q2⟩
          · exact Or.inr ⟨l', C', W', ts', q1, q2, q3, q4, by simp only [List.length_cons] at q5; omega, hr1.trans q6⟩
        subst h40
        refine x_br rfl rfl (fun c => absurd c (by decide)) (fun c => ?_)
        repeat refine x_s rfl rfl ?_
        refine x_br rfl rfl (fun c => absurd c (by decide)) (fun c => ?_)
        repeat refine x_s rfl rfl ?_
        refine x_cv (k_waitsFor d1 L1 (m := W1.length) g31 (by omega) _) rfl rfl rfl (by decide) rfl (by decide) rfl (Nat.le_of_ble_eq_true rfl) (by decide) (by decide) (by decide) ?_
        rintro _ _ ⟨rfl, rfl⟩
        have G2 : GS (up2 (up2 d1 126 W1.length 14) 112 31 (nI (W1.length + 1))) b at0 C1 (0 :: W1) ts1 := GS_push G1 (Or.inl rfl)
        have M2 : MT (up2 (up2 d1 126 W1.length 14) 112 31 (nI (W1.length + 1))) L1 T n ((s, 40, v) :: r) := MT_f1 (MT_c1 M1 (by decide)) (by omega)
        have E2 : EF at0 d (up2 (up2 d1 126 W1.length 14) 112 31 (nI (W1.length + 1))) := EF_f (EF_c E1 (by omega)) (by omega)
        generalize up2 (up2 d1 126 W1.length 14) 112 31 (nI (W1.length + 1)) = d2 at G2 M2 E2 ⊢
        repeat refine x_s rfl rfl ?_
        refine x_cv (k_goes d2 L1 hn hT M2 (by decide)) rfl rfl rfl (by decide) rfl (by decide) rfl (Nat.le_of_ble_eq_true rfl) (by decide) (by decide) (by decide) ?_
        rintro _ _ ⟨rfl, d3, L3, rfl, F3, m3, M3⟩
        have G3 := GS_MF G2 F3
        have E3 := EF_tr E2 (EF_MF F3)
        obtain ⟨s2, k2, v2, r2, rfl⟩ := MT_ne M3
        obtain ⟨-, -, -, -, f52, -⟩ := MT_f M3
        simp only [List.length_cons] at b1 b2 hl hll
        have B3 : BD at0 b C1 (0 :: W1) ((s2, k2, v2) :: r2) := ⟨by simp only [List.length_cons]; omega, by simp only [List.length_cons]; omega⟩
        repeat refine x_s rfl rfl ?_
        refine x_cv (k_deeper d3 L3 M3 G3) rfl rfl rfl (by decide) rfl (by decide) rfl (Nat.le_of_ble_eq_true rfl) (by decide) (by decide) (by decide) ?_
        rintro _ _ ⟨rfl, hq⟩
        rcases hq with ⟨h6, rfl⟩ | ⟨h6, rfl⟩
        · have G4 := GS_deep G3 h6
          have M4 : MT (up2 (up2 d3 112 32 (nI (ts1.length + 1))) 127 (ts1.length + 1) 0) L3 T n ((s2, k2, v2) :: r2) := MT_c1 (MT_f1 M3 (by omega)) (by decide)
          have E4 : EF at0 d (up2 (up2 d3 112 32 (nI (ts1.length + 1))) 127 (ts1.length + 1) 0) := EF_c (EF_f E3 (by omega)) (by omega)
          generalize up2 (up2 d3 112 32 (nI (ts1.length + 1))) 127 (ts1.length + 1) 0 = d4 at G4 M4 E4 ⊢
          repeat refine x_s rfl rfl ?_
          refine x_br rfl rfl (fun c => absurd c (by decide)) (fun c => ?_)
          repeat refine x_s rfl rfl ?_
          refine x_cv (k_isGood d4 L3 G4.1 (by decide)) rfl rfl rfl (by decide) rfl (by decide) rfl (Nat.le_of_ble_eq_true rfl) (by decide) (by decide) (by decide) ?_
          rintro _ _ ⟨rfl, rfl⟩
          refine x_br rfl rfl (fun c => absurd c (by decide)) (fun c => ?_)
          iterate 2 refine x_s rfl rfl ?_
          refine ih ((s2, k2, v2) :: r2) (by simp only [List.length_cons]; omega) d4 L3 C1 (0 :: W1) (false :: ts1) true 0 (Or.inl ⟨rfl, by decide⟩) M4 G4 B3 (by rw [zc, if_pos rfl, List.length_cons]; omega) E4 (ML_tr m1 m3) (by simp only [List.length_cons]; omega) ?_
          rw [hr1, run, if_neg (by omega), if_pos rfl, if_neg (by omega)]
          rfl
        · have hbq := (show 1 ≤ (fDp (s2, k2)).1 ∧ (fDp (s2, k2)).1 ≤ 5 by
            show 1 ≤ (if k2 = 2 ∨ k2 = 1 ∨ k2 = 40 then 2 else 1) ∧ (if k2 = 2 ∨ k2 = 1 ∨ k2 = 40 then 2 else 1) ≤ 5
            split <;> decide)
          obtain ⟨E4, B4⟩ := B0 G3 B3 (by simp) (f := (fDp (s2, k2)).1) (s := s2) hbq.1 hbq.2 (by omega)
          iterate 3 refine x_s rfl rfl ?_
          refine bad4 _ L3 _ _ _ (EF_tr E3 E4) (ML_tr m1 m3) B4 ?_
          rw [hr1, run, if_neg (by omega), if_pos rfl, if_pos h6]
          rfl
      repeat refine x_s rfl rfl ?_
      refine x_cv (k_isGood d1 L1 G1.1 (by decide)) rfl rfl rfl (by decide) rfl (by decide) rfl (Nat.le_of_ble_eq_true rfl) (by decide) (by decide) (by decide) ?_
      rintro _ _ ⟨rfl, rfl⟩
      refine x_br rfl rfl (fun c => absurd c (by decide)) (fun c => ?_)
      repeat refine x_s rfl rfl ?_
      cases nf
      · refine x_br rfl rfl (fun c => ?_) (fun c => absurd c (fun z => z rfl))
        exact at75 (fun z => absurd z.1 (by decide))
      have hj6 : j ≤ 6 := by
        rcases hj with z | z
        · exact z.2
        · exact absurd z.1 (by decide)
      refine x_br rfl rfl (fun c => absurd c (by decide)) (fun c => ?_)
      repeat refine x_s rfl rfl ?_
      refine x_cv (k_knownWord d1 L1 hT hn M1) rfl rfl rfl (by decide) rfl (by decide) rfl (Nat.le_of_ble_eq_true rfl) (by decide) (by decide) (by decide) ?_
      rintro _ _ ⟨rfl, rfl⟩
      repeat refine x_s rfl rfl ?_
      by_cases hN : k = 1 ∧ v = 16
      rotate_left
      · refine x_br rfl rfl (fun c => ?_) (fun c => absurd c (fun z => hN ((kw_ne (a := 16) M1 (by decide)).mp z)))
        exact at75 (fun z => hN z.2)
      refine x_br rfl rfl (fun c => absurd c (fun z => z ((kw_ne (a := 16) M1 (by decide)).mpr hN))) (fun c => ?_)
      obtain ⟨rfl, rfl⟩ := hN
      repeat refine x_s rfl rfl ?_
      rcases (by omega : j = 6 ∨ j < 6) with h6 | h6
      · subst h6
        refine x_br rfl rfl (fun c => absurd c (fun z => z rfl)) (fun c => ?_)
        repeat refine x_s rfl rfl ?_
        refine x_cv (k_wrong d1 L1 G1.1 _) rfl rfl rfl (by decide) rfl (by decide) rfl (Nat.le_of_ble_eq_true rfl) (by decide) (by decide) (by decide) ?_
        rintro _ _ ⟨rfl, rfl⟩
        rw [f1]
        obtain ⟨E2, B2'⟩ := B0 G1 B1 (by simp) (f := 2) (s := s) (by decide) (by decide) (by omega)
        repeat refine x_s rfl rfl ?_
        refine x_cv (k_isGood (up2 (up2 d1 112 12 2) 112 13 (nI s)) L1 (f := 2) rfl (by decide)) rfl rfl rfl (by decide) rfl (by decide) rfl (Nat.le_of_ble_eq_true rfl) (by decide) (by decide) (by decide) ?_
        rintro _ _ ⟨rfl, rfl⟩
        refine x_br rfl rfl (fun c => absurd c (fun z => z rfl)) (fun c => ?_)
        iterate 1 refine x_s rfl rfl ?_
        refine bad18 _ L1 (2, s) _ _ _ (EF_tr E1 E2) m1 B2' ?_
        rw [hr, if_pos rfl, run, if_pos (by omega), if_pos rfl]
      · refine x_br rfl rfl (fun c => ?_) (fun c => absurd c (fun z => absurd ((nI_eq (a := j) (b := 6) (by omega) (by decide)).mp z) (by omega)))
        repeat refine x_s rfl rfl ?_
        refine x_cv (k_isGood d1 L1 G1.1 (by decide)) rfl rfl rfl (by decide) rfl (by decide) rfl (Nat.le_of_ble_eq_true rfl) (by decide) (by decide) (by decide) ?_
        rintro _ _ ⟨rfl, rfl⟩
        refine x_br rfl rfl (fun c => ?_) (fun c => absurd c (fun z => absurd z (by decide)))
        repeat refine x_s rfl rfl ?_
        refine x_cv (k_waitsFor d1 L1 (m := W1.length) g31 (by omega) _) rfl rfl rfl (by decide) rfl (by decide) rfl (Nat.le_of_ble_eq_true rfl) (by decide) (by decide) (by decide) ?_
        rintro _ _ ⟨rfl, rfl⟩
        have G2 : GS (up2 (up2 d1 126 W1.length 3) 112 31 (nI (W1.length + 1))) b at0 C1 (-19 :: W1) ts1 := GS_push G1 (Or.inr (by decide))
        have M2 : MT (up2 (up2 d1 126 W1.length 3) 112 31 (nI (W1.length + 1))) L1 T n ((s, 1, 16) :: r) := MT_f1 (MT_c1 M1 (by decide)) (by omega)
        have E2 : EF at0 d (up2 (up2 d1 126 W1.length 3) 112 31 (nI (W1.length + 1))) := EF_f (EF_c E1 (by omega)) (by omega)
        generalize up2 (up2 d1 126 W1.length 3) 112 31 (nI (W1.length + 1)) = d2 at G2 M2 E2 ⊢
        repeat refine x_s rfl rfl ?_
        refine x_cv (k_goes d2 L1 hn hT M2 (by decide)) rfl rfl rfl (by decide) rfl (by decide) rfl (Nat.le_of_ble_eq_true rfl) (by decide) (by decide) (by decide) ?_
        rintro _ _ ⟨rfl, d3, L3, rfl, F3, m3, M3⟩
        iterate 1 refine x_s rfl rfl ?_
        rw [nI_1]
        refine ih r (by omega) d3 L3 C1 (-19 :: W1) ts1 true (j + 1) (Or.inl ⟨rfl, by omega⟩) M3 (GS_MF G2 F3) ⟨by simp only [List.length_cons]; omega, by simp only [List.length_cons]; omega⟩ (by rw [zc, if_neg (by decide)]; exact ht1) (EF_tr E2 (EF_MF F3)) (ML_tr m1 m3) (by omega) ?_
        rw [hr, if_pos rfl, if_pos rfl, run, if_pos (by omega), if_neg (by omega)]
  refine Cn.intro gX12_operand rfl (Nat.le_of_ble_eq_true rfl) rfl ?_
  repeat refine x_s rfl rfl ?_
  refine x_br rfl rfl (fun c => absurd c (by decide)) (fun c => ?_)
  repeat refine x_s rfl rfl ?_
  refine x_cv (k_isGood d L G.1 (by decide)) rfl rfl rfl (by decide) rfl (by decide) rfl (Nat.le_of_ble_eq_true rfl) (by decide) (by decide) (by decide) ?_
  rintro _ _ ⟨rfl, rfl⟩
  refine x_br rfl rfl (fun c => absurd c (by decide)) (fun c => ?_)
  iterate 2 refine x_s rfl rfl ?_
  refine lp l.length l (Nat.le_refl _) d L C W ts mn 0 ?_ H G B hts EF_rfl ML_rfl (Nat.le_refl _) ?_
  · cases mn
    · exact Or.inr ⟨rfl, rfl⟩
    · exact Or.inl ⟨rfl, by decide⟩
  · rw [← hmd]
set_option maxRecDepth 100000 in
set_option maxHeartbeats 1600000 in
theorem k_closes (hn : n ≤ 700) (hT : ∀ j, T j < 256) {s v : Nat} {r : List Tk} {C W : List Int32} {q : Bool} {ts : List Bool} (H : MT d L T n ((s, 41, v) :: r)) (G : GS d b at0 C W (q :: ts)) (B : BD at0 b C W ((s, 41, v) :: r)) (ho : (0 : Int32) ∈ W) : Cn mX12_closes false 3 0 0 [.ref 112] (W0 d L) (fun x h => x = none ∧ ∃ d' L', h = W0 d' L' ∧ EF at0 d d' ∧ ML L L' ∧ MT d' L' T n r ∧ GS d' b at0 (drp 0 C W).1 (drp 0 C W).2.tail ts ∧ (cod (pmB b) (drp 0 C W).1).length + (drp 0 C W).2.tail.length ≤ (cod (pmB b) C).length + W.length ∧ (drp 0 C W).2.tail.length ≤ W.length) := by
  have b1 := B.1
  have b2 := B.2
  simp only [List.length_cons] at b1 b2
  refine Cn.intro gX12_closes rfl (Nat.le_of_ble_eq_true rfl) rfl ?_
  repeat refine x_s rfl rfl ?_
  refine x_cv (k_drops L (l := 0) (by decide) (W.map opW) d _ G.2.2.1 G.2.1.1 (by rw [List.length_map]; omega) (by rw [List.length_map]; omega)) rfl rfl rfl (by decide) rfl (by decide) rfl (Nat.le_of_ble_eq_true rfl) (by decide) (by decide) (by decide) ?_
  rintro _ _ ⟨rfl, d1, rfl, D1, w1, c1, e1⟩
  obtain ⟨G1, cl⟩ := GS_drop G D1 w1 c1 e1
  have M1 := MT_DF H D1
  have E1 : EF at0 d d1 := EF_DF D1 (by omega)
  have hx : ∀ (V X : List Int32), (0 : Int32) ∈ X → ∃ X', (drp 0 V X).2 = 0 :: X' := by
    intro V X
    induction X generalizing V with
    | nil => intro h; cases h
    | cons t X ih =>
      intro h
      by_cases h0 : t = 0
      · refine ⟨X, ?_⟩
        rw [drp, if_pos h0, h0]
      · rw [drp, if_neg h0, if_pos (Nat.zero_le _)]
        exact ih _ ((List.mem_cons.mp h).resolve_left (fun z => h0 z.symm))
  obtain ⟨W', eW⟩ := hx C W ho
  rw [eW] at G1 cl ⊢
  generalize (drp 0 C W).1 = C' at G1 cl ⊢
  have g31 : d1 112 31 - 1 = nI W'.length := by
    have := G1.2.2.1.1
    rw [List.length_map] at this
    rw [this]
    exact nI_s (a := W'.length + 1) (b := 1) (by omega) (by simp only [List.length_cons] at cl; omega)
  obtain ⟨t1, t2, t3⟩ := GS_tq G1
  have g32 : d1 112 32 - 1 = nI ts.length := by
    rw [t1]
    exact nI_s (a := ts.length + 1) (b := 1) (by omega) (by omega)
  repeat refine x_s rfl rfl ?_
  refine x_put rfl rfl (by decide) rfl ⟨rfl, rfl⟩ (Or.inl rfl) ?_
  rw [g31]
  repeat refine x_s rfl rfl ?_
  refine x_put rfl rfl (by decide) rfl ⟨rfl, rfl⟩ (Or.inl rfl) ?_
  rw [show up2 d1 112 31 (nI W'.length) 112 32 - 1 = nI ts.length from g32]
  have G2 := GS_close G1
  have M2 : MT (up2 (up2 d1 112 31 (nI W'.length)) 112 32 (nI ts.length)) L T n ((s, 41, v) :: r) := MT_f1 (MT_f1 M1 (by omega)) (by omega)
  have E2 : EF at0 d (up2 (up2 d1 112 31 (nI W'.length)) 112 32 (nI ts.length)) := EF_f (EF_f E1 (by omega)) (by omega)
  generalize up2 (up2 d1 112 31 (nI W'.length)) 112 32 (nI ts.length) = d2 at G2 M2 E2 ⊢
  repeat refine x_s rfl rfl ?_
  refine x_cv (k_goes d2 L hn hT M2 (by decide)) rfl rfl rfl (by decide) rfl (by decide) rfl (Nat.le_of_ble_eq_true rfl) (by decide) (by decide) (by decide) ?_
  rintro _ _ ⟨rfl, d3, L3, rfl, F3, m3, M3⟩
  refine x_vret rfl rfl ⟨rfl, d3, L3, rfl, EF_tr E2 (EF_MF F3), m3, M3, GS_MF G2 F3, ?_, ?_⟩
  · simp only [List.length_cons, List.tail_cons] at cl ⊢
    omega
  · simp only [List.length_cons, List.tail_cons] at cl ⊢
    have := List.length_append (as := cod (pmB b) C) (bs := [])
    have hd := rdp_drp (l := 0) W C G.2.2.2.1
    obtain ⟨V, W2, z1, z2, z3, z4, z5⟩ := hd
    rw [z1] at eW
    have : W2.length = W'.length + 1 := by rw [show W2 = 0 :: W' from eW]; rfl
    omega
end
