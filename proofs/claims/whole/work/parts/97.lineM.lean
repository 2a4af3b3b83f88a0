/-! THE MODEL reads a line -/
abbrev qLi (T : Nat → Nat) (n : Nat) (d : Nat → Nat → Int32) (L : Nat → Nat → Int64) (res : LR) : xPost := fun q h => q = none ∧ ∃ d' L', h = W0 d' L' ∧ NF d d' ∧ ML L L' ∧ ((∃ f, FM d' f ∧ res = .inl f) ∨ (∃ l' D' top', MT d' L' T n l' ∧ HDM d' D' top' ∧ d' 112 12 = nI 0 ∧ top' + 2 * (l'.length + 1) ≤ 1402 ∧ res = .inr (l', D')))
theorem line_eq {s k v : Nat} {r : List Tk} {D : Dr} : line ((s, k, v) :: r) D = if k = 1 ∧ v = 9 then lnOne s r D else if k = 1 ∧ v = 10 then lnNeedle s r D else if k = 1 ∧ v = 11 then lnSays s r D else if k = 1 ∧ v = 12 then lnRule 17 s r D else if k = 1 ∧ v = 13 then lnRule 20 s r D else .inl (1, s) := rfl
section
variable (d : Nat → Nat → Int32) (L : Nat → Nat → Int64) {T : Nat → Nat} {n : Nat}
set_option maxRecDepth 100000 in
set_option maxHeartbeats 1600000 in
theorem k_isSignB (x : Int32) : Cn mX12_isSign false 1 0 0 [.ref 112, .int x] (W0 d L) (fun q h => (∃ y, q = some (.int y)) ∧ h = W0 d L) := by
  refine Cn.intro gX12_isSign rfl (Nat.le_of_ble_eq_true rfl) rfl ?_
  repeat refine x_s rfl rfl ?_
  refine x_br rfl rfl (fun c => ?_) (fun c => ?_)
  · repeat refine x_s rfl rfl ?_
    exact x_iret rfl rfl rfl ⟨⟨_, rfl⟩, rfl⟩
  · repeat refine x_s rfl rfl ?_
    refine x_br rfl rfl (fun c => ?_) (fun c => ?_)
    · repeat refine x_s rfl rfl ?_
      exact x_iret rfl rfl rfl ⟨⟨_, rfl⟩, rfl⟩
    · repeat refine x_s rfl rfl ?_
      exact x_iret rfl rfl rfl ⟨⟨_, rfl⟩, rfl⟩
set_option maxRecDepth 100000 in
set_option maxHeartbeats 1600000 in
theorem k_line {s k v top : Nat} {r : List Tk} {D : Dr} (hn : n ≤ 700) (hT : ∀ j, T j < 256) (H : MT d L T n ((s, k, v) :: r)) (D0 : HDM d D top) (dg : DR D) (g12 : d 112 12 = nI 0) (ht : top + 2 * (r.length + 1) ≤ 1402) (hr : r.length ≤ 701) : Cn mX12_line false 7 0 0 [.ref 112] (W0 d L) (qLi T n d L (line ((s, k, v) :: r) D)) := by
  obtain ⟨f1, f2, f3, f4, f5, f6⟩ := MT_f H
  have b146 : ∀ (o : Option Value) (d1 : Nat → Nat → Int32) (L1 : Nat → Nat → Int64) (res : LR) (f : Nat × Nat), NF d d1 → ML L L1 → FM d1 f → res = .inl f → Ex mX12_line false 7 0 0 146 [some (.ref 112), o] [] (W0 d1 L1) (qLi T n d L res) nX := by
    intro o d1 L1 res f N1 m1 F1 hr
    repeat refine x_s rfl rfl ?_
    refine x_cv (k_isSignB d1 L1 _) rfl rfl rfl (by decide) rfl (by decide) rfl (Nat.le_of_ble_eq_true rfl) (by decide) (by decide) (by decide) ?_
    rintro _ _ ⟨⟨y, rfl⟩, rfl⟩
    refine x_cv (k_needB d1 L1 F1.1 F1.2.2.1 F1.2.2.2.1) rfl rfl rfl (by decide) rfl (by decide) rfl (Nat.le_of_ble_eq_true rfl) (by decide) (by decide) (by decide) ?_
    rintro _ _ ⟨rfl, rfl⟩
    exact x_vret rfl rfl ⟨rfl, d1, L1, rfl, N1, m1, Or.inl ⟨f, F1, hr⟩⟩
  have g146 : ∀ (o : Option Value) (d1 : Nat → Nat → Int32) (L1 : Nat → Nat → Int64) (res : LR) (l1 : List Tk) (D1 : Dr) (top1 : Nat), NF d d1 → ML L L1 → MT d1 L1 T n l1 → HDM d1 D1 top1 → d1 112 12 = nI 0 → top1 + 2 * l1.length ≤ 1402 → res = sgn l1 D1 → Ex mX12_line false 7 0 0 146 [some (.ref 112), o] [] (W0 d1 L1) (qLi T n d L res) nX := by
    intro o d1 L1 res l1 D1 top1 N1 m1 M1 H1 g1 t1 hr
    obtain ⟨sA, kA, vA, rA, rfl⟩ := MT_ne M1
    obtain ⟨fA1, fA2, fA3, fA4, fA5, fA6⟩ := MT_f M1
    simp only [List.length_cons] at t1
    rw [sgn] at hr
    repeat refine x_s rfl rfl ?_
    refine x_cv (k_isSign d1 L1 (b := 59) (by decide) M1) rfl rfl rfl (by decide) rfl (by decide) rfl (Nat.le_of_ble_eq_true rfl) (by decide) (by decide) (by decide) ?_
    rintro _ _ ⟨rfl, rfl⟩
    refine x_cv (k_need d1 L1 hn hT M1 g1) rfl rfl rfl (by decide) rfl (by decide) rfl (Nat.le_of_ble_eq_true rfl) (by decide) (by decide) (by decide) ?_
    rintro rv _ ⟨rfl, hq⟩
    rcases hq with ⟨e, d2, L2, rfl, F2, m2, M2⟩ | ⟨e, rfl⟩
    · rw [if_pos e] at hr
      exact x_vret rfl rfl ⟨rfl, d2, L2, rfl, NF_tr N1 (NF_MF F2), ML_tr m1 m2, Or.inr ⟨rA, D1, top1, M2, HDM_MF H1 F2, (F2.2 12 (by decide)).trans g1, by omega, hr⟩⟩
    · rw [if_neg e] at hr
      exact x_vret rfl rfl ⟨rfl, _, L1, rfl, NF_f (NF_f N1 (by omega)) (by omega), m1, Or.inl ⟨(1, sA), FM_of (by decide) (by decide) (by omega), hr⟩⟩
  have l146 : ∀ (o : Option Value) (res : LR) (rv : Option Value) (h : xHp), qNl T n d L top r.length res rv h → rv = none ∧ Ex mX12_line false 7 0 0 146 [some (.ref 112), o] [] h (qLi T n d L res) nX := by
    rintro o res rv h ⟨e, d1, L1, rfl, N1, m1, h1⟩
    refine ⟨e, ?_⟩
    rcases h1 with ⟨f, F1, e1⟩ | ⟨l1, D1, top1, M1, H1, g1, t1, -, e1⟩
    · exact b146 o d1 L1 res f N1 m1 F1 e1
    · exact g146 o d1 L1 res l1 D1 top1 N1 m1 M1 H1 g1 t1 e1
  refine Cn.intro gX12_line rfl (Nat.le_of_ble_eq_true rfl) rfl ?_
  repeat refine x_s rfl rfl ?_
  refine x_cv (k_knownWord d L hT hn H) rfl rfl rfl (by decide) rfl (by decide) rfl (Nat.le_of_ble_eq_true rfl) (by decide) (by decide) (by decide) ?_
  rintro _ _ ⟨rfl, rfl⟩
  repeat refine x_s rfl rfl ?_
  rw [line_eq]
  by_cases h9 : k = 1 ∧ v = 9
  · obtain ⟨rfl, rfl⟩ := h9
    rw [if_pos ⟨rfl, rfl⟩]
    refine x_br rfl rfl (fun c => absurd c (fun z => z rfl)) (fun c => ?_)
    repeat refine x_s rfl rfl ?_
    refine x_cv (k_readsOne d L hn hT H D0 dg g12 ht) rfl rfl rfl (by decide) rfl (by decide) rfl (Nat.le_of_ble_eq_true rfl) (by omega) (by decide) (by decide) ?_
    intro rv h hq
    obtain ⟨rfl, K⟩ := l146 (some (.int (nI 9))) _ rv h hq
    iterate 1 refine x_s rfl rfl ?_

    exact K
  rw [if_neg h9]
  refine x_br rfl rfl (fun c => ?_) (fun c => absurd c (fun z => h9 ((kw_ne H (a := 9) (by decide)).mp z)))
  repeat refine x_s rfl rfl ?_
  by_cases h10 : k = 1 ∧ v = 10
  · obtain ⟨rfl, rfl⟩ := h10
    rw [if_pos ⟨rfl, rfl⟩]
    refine x_br rfl rfl (fun c => absurd c (fun z => z rfl)) (fun c => ?_)
    repeat refine x_s rfl rfl ?_
    refine x_cv (k_readsNeedle d L hn hT H D0 dg g12 ht) rfl rfl rfl (by decide) rfl (by decide) rfl (Nat.le_of_ble_eq_true rfl) (by omega) (by decide) (by decide) ?_
    intro rv h hq
    obtain ⟨rfl, K⟩ := l146 (some (.int (nI 10))) _ rv h hq
    iterate 1 refine x_s rfl rfl ?_

    exact K
  rw [if_neg h10]
  refine x_br rfl rfl (fun c => ?_) (fun c => absurd c (fun z => h10 ((kw_ne H (a := 10) (by decide)).mp z)))
  repeat refine x_s rfl rfl ?_
  by_cases h11 : k = 1 ∧ v = 11
  · obtain ⟨rfl, rfl⟩ := h11
    rw [if_pos ⟨rfl, rfl⟩]
    refine x_br rfl rfl (fun c => absurd c (fun z => z rfl)) (fun c => ?_)
    repeat refine x_s rfl rfl ?_
    refine x_cv (k_readsSaying d L hn hT H D0 dg g12 ht) rfl rfl rfl (by decide) rfl (by decide) rfl (Nat.le_of_ble_eq_true rfl) (by omega) (by decide) (by decide) ?_
    intro rv h hq
    obtain ⟨rfl, K⟩ := l146 (some (.int (nI 11))) _ rv h hq
    iterate 1 refine x_s rfl rfl ?_

    exact K
  rw [if_neg h11]
  refine x_br rfl rfl (fun c => ?_) (fun c => absurd c (fun z => h11 ((kw_ne H (a := 11) (by decide)).mp z)))
  repeat refine x_s rfl rfl ?_
  by_cases h12 : k = 1 ∧ v = 12
  · obtain ⟨rfl, rfl⟩ := h12
    rw [if_pos ⟨rfl, rfl⟩]
    refine x_br rfl rfl (fun c => absurd c (fun z => z rfl)) (fun c => ?_)
    repeat refine x_s rfl rfl ?_
    have RU := D0.2.2.2.2.2.2.2.1
    unfold lnRule
    rw [if_pos rfl]
    rcases hg : D.2.1 with _ | E0
    rotate_left
    · rw [hg] at RU
      obtain ⟨at0, e0, a0, -⟩ := RU
      have nn : ¬ nI at0 = -1 := nI_m1 (by omega)
      rw [e0]
      refine x_br rfl rfl (fun c => absurd c (fun z => nn z)) (fun c => ?_)
      repeat refine x_s rfl rfl ?_
      refine x_cv (k_wrong d L g12 _) rfl rfl rfl (by decide) rfl (by decide) rfl (Nat.le_of_ble_eq_true rfl) (by decide) (by decide) (by decide) ?_
      rintro _ _ ⟨rfl, rfl⟩
      rw [f1]
      have z : up2 (up2 d 112 12 5) 112 13 (nI s) 112 12 = nI 5 := rfl
      repeat refine x_s rfl rfl ?_
      refine x_cv (k_isGood (up2 (up2 d 112 12 5) 112 13 (nI s)) L z (by decide)) rfl rfl rfl (by decide) rfl (by decide) rfl (Nat.le_of_ble_eq_true rfl) (by decide) (by decide) (by decide) ?_
      rintro _ _ ⟨rfl, rfl⟩
      refine x_br rfl rfl (fun c => absurd c (fun z => z rfl)) (fun c => ?_)
      exact x_vret rfl rfl ⟨rfl, _, L, rfl, NF_f (NF_f NF_rfl (by omega)) (by omega), ML_rfl, Or.inl ⟨(5, s), FM_of (by decide) (by decide) (by omega), rfl⟩⟩
    rw [hg] at RU
    have RU' : d 112 26 = -1 := RU
    rw [RU']
    refine x_br rfl rfl (fun c => ?_) (fun c => absurd c (fun z => z rfl))
    repeat refine x_s rfl rfl ?_
    refine x_cv (k_isGood d L g12 (by decide)) rfl rfl rfl (by decide) rfl (by decide) rfl (Nat.le_of_ble_eq_true rfl) (by decide) (by decide) (by decide) ?_
    rintro _ _ ⟨rfl, rfl⟩
    refine x_br rfl rfl (fun c => ?_) (fun c => absurd c (fun z => absurd z (by decide)))
    repeat refine x_s rfl rfl ?_
    refine x_cv (k_goes d L hn hT H (by decide)) rfl rfl rfl (by decide) rfl (by decide) rfl (Nat.le_of_ble_eq_true rfl) (by decide) (by decide) (by decide) ?_
    rintro _ _ ⟨rfl, d1, L1, rfl, F1, m1, M1⟩
    repeat refine x_s rfl rfl ?_
    refine x_put rfl rfl (by decide) rfl ⟨rfl, rfl⟩ (Or.inl rfl) ?_
    have D1 := HDM_MF D0 F1
    have e28 : d1 112 28 = nI top := D1.2.2.2.2.2.2.1
    rw [e28]
    have N2 : NF d (up2 d1 112 26 (nI top)) := NF_f (NF_MF F1) (by omega)
    have M2 : MT (up2 d1 112 26 (nI top)) L1 T n r := MT_f1 M1 (by omega)
    have g2 : up2 d1 112 26 (nI top) 112 12 = nI 0 := (F1.2 12 (by decide)).trans g12
    have t2 : up2 d1 112 26 (nI top) 112 28 = nI top := e28
    have r2 : up2 d1 112 26 (nI top) 112 26 = nI top := rfl
    have o2 : ∀ q, ¬ q = 26 → up2 d1 112 26 (nI top) 112 q = d1 112 q := fun q hq => up2_k hq
    have c2 : ∀ c, ¬ c = 112 → up2 d1 112 26 (nI top) c = d1 c := fun c hc => up2_ne hc
    refine (show Ex _ _ _ _ _ _ _ _ (W0 (up2 d1 112 26 (nI top)) L1) _ _ from ?_)
    generalize up2 d1 112 26 (nI top) = d2 at N2 M2 g2 t2 r2 o2 c2 ⊢
    repeat refine x_s rfl rfl ?_
    refine x_cv (k_expression d2 L1 (b := 17) hn hT (by decide) M2 g2 t2 (by omega) (by omega)) rfl rfl rfl (by decide) rfl (by decide) rfl (Nat.le_of_ble_eq_true rfl) (by omega) (by decide) (by decide) ?_
    rintro _ _ ⟨rfl, d3, L3, rfl, EX, m3, hq⟩
    rcases hq with ⟨f, F3, er⟩ | ⟨l', E, M3, g3, t3, xc, xz, b3, bl, er⟩
    · rw [er]
      iterate 1 refine x_s rfl rfl ?_
      exact b146 _ d3 L3 _ f (NF_tr N2 (NF_EF EX)) (ML_tr m1 m3) F3 rfl
    rw [er]
    have z26 : d3 112 26 = nI top := (EX.2.1 26 (by decide)).trans r2
    have D3 : HDM d3 (D.1, some E, D.2.2) (top + (cod (pmB 17) E).length + 1) := by
      obtain ⟨a1, a2, a3, a4, a5, a6, a7, a8, a9⟩ := D1
      have ec : ∀ c, ¬ c = 112 → c ≠ 125 → c ≠ 126 → c ≠ 127 → d3 c = d1 c := fun c h1 h2 h3 h4 => (EX.1 c h1 h2 h3 h4).trans (c2 c h1)
      have ek : ∀ q, 22 ≤ q → q < 28 → ¬ q = 26 → d3 112 q = d1 112 q := fun q h1 h2 h3 => (EX.2.1 q (by omega)).trans (o2 q h3)
      have e5 : ∀ i, i < top → d3 125 i = d1 125 i := fun i hi => (EX.2.2 i hi).trans (congrFun (c2 125 (by decide)) i)
      refine ⟨(ek 23 (by decide) (by decide) (by decide)).trans a1, (ek 24 (by decide) (by decide) (by decide)).trans a2, (ek 25 (by decide) (by decide) (by decide)).trans a3, fun p hp => ?_, fun m hm => ?_, fun q hs => ?_, t3, ⟨top, z26, by omega, xc, xz⟩, RuM_t (RuM_e a9 (ek 27 (by decide) (by decide) (by decide)) e5) (by omega)⟩
      · rw [ec 120 (by decide) (by decide) (by decide) (by decide), ec 121 (by decide) (by decide) (by decide) (by decide), ec 122 (by decide) (by decide) (by decide) (by decide)]
        exact a4 p hp
      · rw [ec 123 (by decide) (by decide) (by decide) (by decide), ec 124 (by decide) (by decide) (by decide) (by decide)]
        exact a5 m hm
      · rw [ec 124 (by decide) (by decide) (by decide) (by decide)]
        exact a6 q hs
    iterate 1 refine x_s rfl rfl ?_
    exact g146 _ d3 L3 _ l' _ _ (NF_tr N2 (NF_EF EX)) (ML_tr m1 m3) M3 D3 g3 (by omega) rfl
  rw [if_neg h12]
  refine x_br rfl rfl (fun c => ?_) (fun c => absurd c (fun z => h12 ((kw_ne H (a := 12) (by decide)).mp z)))
  repeat refine x_s rfl rfl ?_
  by_cases h13 : k = 1 ∧ v = 13
  · obtain ⟨rfl, rfl⟩ := h13
    rw [if_pos ⟨rfl, rfl⟩]
    refine x_br rfl rfl (fun c => absurd c (fun z => z rfl)) (fun c => ?_)
    repeat refine x_s rfl rfl ?_
    have RU := D0.2.2.2.2.2.2.2.2
    unfold lnRule
    rw [if_neg (by decide)]
    rcases hg : D.2.2 with _ | E0
    rotate_left
    · rw [hg] at RU
      obtain ⟨at0, e0, a0, -⟩ := RU
      have nn : ¬ nI at0 = -1 := nI_m1 (by omega)
      rw [e0]
      refine x_br rfl rfl (fun c => absurd c (fun z => nn z)) (fun c => ?_)
      repeat refine x_s rfl rfl ?_
      refine x_cv (k_wrong d L g12 _) rfl rfl rfl (by decide) rfl (by decide) rfl (Nat.le_of_ble_eq_true rfl) (by decide) (by decide) (by decide) ?_
      rintro _ _ ⟨rfl, rfl⟩
      rw [f1]
      have z : up2 (up2 d 112 12 5) 112 13 (nI s) 112 12 = nI 5 := rfl
      repeat refine x_s rfl rfl ?_
      refine x_cv (k_isGood (up2 (up2 d 112 12 5) 112 13 (nI s)) L z (by decide)) rfl rfl rfl (by decide) rfl (by decide) rfl (Nat.le_of_ble_eq_true rfl) (by decide) (by decide) (by decide) ?_
      rintro _ _ ⟨rfl, rfl⟩
      refine x_br rfl rfl (fun c => absurd c (fun z => z rfl)) (fun c => ?_)
      exact x_vret rfl rfl ⟨rfl, _, L, rfl, NF_f (NF_f NF_rfl (by omega)) (by omega), ML_rfl, Or.inl ⟨(5, s), FM_of (by decide) (by decide) (by omega), rfl⟩⟩
    rw [hg] at RU
    have RU' : d 112 27 = -1 := RU
    rw [RU']
    refine x_br rfl rfl (fun c => ?_) (fun c => absurd c (fun z => z rfl))
    repeat refine x_s rfl rfl ?_
    refine x_cv (k_isGood d L g12 (by decide)) rfl rfl rfl (by decide) rfl (by decide) rfl (Nat.le_of_ble_eq_true rfl) (by decide) (by decide) (by decide) ?_
    rintro _ _ ⟨rfl, rfl⟩
    refine x_br rfl rfl (fun c => ?_) (fun c => absurd c (fun z => absurd z (by decide)))
    repeat refine x_s rfl rfl ?_
    refine x_cv (k_goes d L hn hT H (by decide)) rfl rfl rfl (by decide) rfl (by decide) rfl (Nat.le_of_ble_eq_true rfl) (by decide) (by decide) (by decide) ?_
    rintro _ _ ⟨rfl, d1, L1, rfl, F1, m1, M1⟩
    repeat refine x_s rfl rfl ?_
    refine x_put rfl rfl (by decide) rfl ⟨rfl, rfl⟩ (Or.inl rfl) ?_
    have D1 := HDM_MF D0 F1
    have e28 : d1 112 28 = nI top := D1.2.2.2.2.2.2.1
    rw [e28]
    have N2 : NF d (up2 d1 112 27 (nI top)) := NF_f (NF_MF F1) (by omega)
    have M2 : MT (up2 d1 112 27 (nI top)) L1 T n r := MT_f1 M1 (by omega)
    have g2 : up2 d1 112 27 (nI top) 112 12 = nI 0 := (F1.2 12 (by decide)).trans g12
    have t2 : up2 d1 112 27 (nI top) 112 28 = nI top := e28
    have r2 : up2 d1 112 27 (nI top) 112 27 = nI top := rfl
    have o2 : ∀ q, ¬ q = 27 → up2 d1 112 27 (nI top) 112 q = d1 112 q := fun q hq => up2_k hq
    have c2 : ∀ c, ¬ c = 112 → up2 d1 112 27 (nI top) c = d1 c := fun c hc => up2_ne hc
    refine (show Ex _ _ _ _ _ _ _ _ (W0 (up2 d1 112 27 (nI top)) L1) _ _ from ?_)
    generalize up2 d1 112 27 (nI top) = d2 at N2 M2 g2 t2 r2 o2 c2 ⊢
    repeat refine x_s rfl rfl ?_
    refine x_cv (k_expression d2 L1 (b := 20) hn hT (by decide) M2 g2 t2 (by omega) (by omega)) rfl rfl rfl (by decide) rfl (by decide) rfl (Nat.le_of_ble_eq_true rfl) (by omega) (by decide) (by decide) ?_
    rintro _ _ ⟨rfl, d3, L3, rfl, EX, m3, hq⟩
    rcases hq with ⟨f, F3, er⟩ | ⟨l', E, M3, g3, t3, xc, xz, b3, bl, er⟩
    · rw [er]
      iterate 1 refine x_s rfl rfl ?_
      exact b146 _ d3 L3 _ f (NF_tr N2 (NF_EF EX)) (ML_tr m1 m3) F3 rfl
    rw [er]
    have z26 : d3 112 27 = nI top := (EX.2.1 27 (by decide)).trans r2
    have D3 : HDM d3 (D.1, D.2.1, some E) (top + (cod (pmB 20) E).length + 1) := by
      obtain ⟨a1, a2, a3, a4, a5, a6, a7, a8, a9⟩ := D1
      have ec : ∀ c, ¬ c = 112 → c ≠ 125 → c ≠ 126 → c ≠ 127 → d3 c = d1 c := fun c h1 h2 h3 h4 => (EX.1 c h1 h2 h3 h4).trans (c2 c h1)
      have ek : ∀ q, 22 ≤ q → q < 28 → ¬ q = 27 → d3 112 q = d1 112 q := fun q h1 h2 h3 => (EX.2.1 q (by omega)).trans (o2 q h3)
      have e5 : ∀ i, i < top → d3 125 i = d1 125 i := fun i hi => (EX.2.2 i hi).trans (congrFun (c2 125 (by decide)) i)
      refine ⟨(ek 23 (by decide) (by decide) (by decide)).trans a1, (ek 24 (by decide) (by decide) (by decide)).trans a2, (ek 25 (by decide) (by decide) (by decide)).trans a3, fun p hp => ?_, fun m hm => ?_, fun q hs => ?_, t3, RuM_t (RuM_e a8 (ek 26 (by decide) (by decide) (by decide)) e5) (by omega), ⟨top, z26, by omega, xc, xz⟩⟩
      · rw [ec 120 (by decide) (by decide) (by decide) (by decide), ec 121 (by decide) (by decide) (by decide) (by decide), ec 122 (by decide) (by decide) (by decide) (by decide)]
        exact a4 p hp
      · rw [ec 123 (by decide) (by decide) (by decide) (by decide), ec 124 (by decide) (by decide) (by decide) (by decide)]
        exact a5 m hm
      · rw [ec 124 (by decide) (by decide) (by decide) (by decide)]
        exact a6 q hs
    iterate 1 refine x_s rfl rfl ?_
    exact g146 _ d3 L3 _ l' _ _ (NF_tr N2 (NF_EF EX)) (ML_tr m1 m3) M3 D3 g3 (by omega) rfl
  rw [if_neg h13]
  refine x_br rfl rfl (fun c => ?_) (fun c => absurd c (fun z => h13 ((kw_ne H (a := 13) (by decide)).mp z)))
  repeat refine x_s rfl rfl ?_
  refine x_cv (k_wrong d L g12 _) rfl rfl rfl (by decide) rfl (by decide) rfl (Nat.le_of_ble_eq_true rfl) (by decide) (by decide) (by decide) ?_
  rintro _ _ ⟨rfl, rfl⟩
  rw [f1]
  exact b146 _ _ L _ (1, s) (NF_f (NF_f NF_rfl (by omega)) (by omega)) ML_rfl (FM_of (by decide) (by decide) (by omega)) rfl
end
