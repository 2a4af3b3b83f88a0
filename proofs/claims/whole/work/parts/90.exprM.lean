/-! THE MODEL reads an EXPR, whole -/
theorem zc_drp {l : Nat} : ∀ (W C : List Int32), zc (drp l C W).2 = zc W ∧ (drp l C W).2.length ≤ W.length
  | [], C => ⟨rfl, Nat.le_refl _⟩
  | t :: W, C => by
    unfold drp
    split
    · exact ⟨rfl, Nat.le_refl _⟩
    split
    · rename_i h _
      obtain ⟨a, c⟩ := zc_drp W (C ++ [t])
      refine ⟨?_, Nat.le_trans c (Nat.le_succ _)⟩
      rw [a, zc, if_neg h]
    · exact ⟨rfl, Nat.le_refl _⟩
theorem zc_0 : ∀ {W : List Int32}, (0 : Int32) ∈ W → 1 ≤ zc W
  | t :: W, h => by
    unfold zc
    split
    · omega
    · rename_i h0
      exact zc_0 ((List.mem_cons.mp h).resolve_left (fun z => h0 z.symm))
theorem drp_0 : ∀ (W C : List Int32), (0 : Int32) ∈ W → ∃ X', (drp 0 C W).2 = 0 :: X'
  | t :: X, V, h => by
    by_cases h0 : t = 0
    · refine ⟨X, ?_⟩
      rw [drp, if_pos h0, h0]
    · rw [drp, if_neg h0, if_pos (Nat.zero_le _)]
      exact drp_0 X _ ((List.mem_cons.mp h).resolve_left (fun z => h0 z.symm))
abbrev qE (b at0 : Nat) (T : Nat → Nat) (n : Nat) (d : Nat → Nat → Int32) (L : Nat → Nat → Int64) (l : List Tk) : xPost := fun r h => r = none ∧ ∃ d' L', h = W0 d' L' ∧ EF at0 d d' ∧ ML L L' ∧ ((∃ f : Nat × Nat, (d' 112 12 = nI f.1 ∧ d' 112 13 = nI f.2 ∧ 1 ≤ f.1 ∧ f.1 ≤ 5 ∧ f.2 ≤ 700) ∧ run (vxB b) l 2 [] [] [false] = .inl f) ∨ (∃ l' E, MT d' L' T n l' ∧ d' 112 12 = nI 0 ∧ d' 112 28 = nI (at0 + (cod (pmB b) E).length + 1) ∧ (∀ (i : Nat) (t : Int32), (cod (pmB b) E)[i]? = some t → d' 125 (at0 + i) = t) ∧ d' 125 (at0 + (cod (pmB b) E).length) = 0 ∧ at0 + (cod (pmB b) E).length + 2 * l'.length ≤ 1400 ∧ l'.length < l.length ∧ run (vxB b) l 2 [] [] [false] = .inr (l', E)))
section
variable (d : Nat → Nat → Int32) (L : Nat → Nat → Int64) {T : Nat → Nat} {n b at0 : Nat}
set_option maxRecDepth 100000 in
set_option maxHeartbeats 1600000 in
theorem k_expression (hn : n ≤ 700) (hT : ∀ j, T j < 256) (hb : b = 17 ∨ b = 20) {l : List Tk} (H : MT d L T n l) (h12 : d 112 12 = nI 0) (h28 : d 112 28 = nI at0) (hl1 : at0 + 2 * l.length ≤ 1400) (hl2 : l.length ≤ 701) : Cn mX12_expression false 6 0 0 [.ref 112, .int (nI (loB b)), .int (nI (hiB b))] (W0 d L) (qE b at0 T n d L l) := by
  have bad360 : ∀ (d1 : Nat → Nat → Int32) (L1 : Nat → Nat → Int64) (f : Nat × Nat) (o3 o4 : Option Value), EF at0 d d1 → ML L L1 → BS d1 at0 f → run (vxB b) l 2 [] [] [false] = .inl f → Ex mX12_expression false 6 0 0 360 [some (.ref 112), some (.int (nI (loB b))), some (.int (nI (hiB b))), o3, o4] [] (W0 d1 L1) (qE b at0 T n d L l) nX := by
    intro d1 L1 f o3 o4 E1 l1 B1 hr
    obtain ⟨⟨f1, f2, f3, f4, f5⟩, m, X, x1, x2, x3, x4, x5⟩ := B1
    have rl : ∀ Y : List Int32, (rdp 0 Y).1.length + (rdp 0 Y).2.length = Y.length := by
      intro Y
      induction Y with
      | nil => rfl
      | cons y Y ih =>
        unfold rdp
        split
        · simp
        split
        · simp only [List.length_cons]
          omega
        · simp
    have rx := rl X
    repeat refine x_s rfl rfl ?_
    refine x_cv (k_drops L1 (l := 0) (by decide) X d1 m x2 x1 (by omega) (by omega)) rfl rfl rfl (by decide) rfl (by decide) rfl (Nat.le_of_ble_eq_true rfl) (by decide) (by decide) (by decide) ?_
    rintro _ _ ⟨rfl, d2, rfl, D2, w2, c2, e2⟩
    repeat refine x_s rfl rfl ?_
    refine x_cv (k_puts d2 L1 (m := m + (rdp 0 X).1.length) c2 (by omega) _) rfl rfl rfl (by decide) rfl (by decide) rfl (Nat.le_of_ble_eq_true rfl) (by decide) (by decide) (by decide) ?_
    rintro _ _ ⟨rfl, rfl⟩
    refine x_vret rfl rfl ⟨rfl, _, L1, rfl, EF_f (EF_c (EF_tr E1 (EF_DF D2 x3)) (Or.inl ⟨rfl, by omega⟩)) (by omega), l1, Or.inl ⟨f, ⟨?_, ?_, f3, f4, f5⟩, hr⟩⟩
    · rw [up2_k (by decide), up2_ne (by decide), D2.2.1 12 (by decide) (by decide)]
      exact f1
    · rw [up2_k (by decide), up2_ne (by decide), D2.2.1 13 (by decide) (by decide)]
      exact f2
  have bad39 : ∀ (d1 : Nat → Nat → Int32) (L1 : Nat → Nat → Int64) (f : Nat × Nat) (o4 : Option Value), EF at0 d d1 → ML L L1 → BS d1 at0 f → run (vxB b) l 2 [] [] [false] = .inl f → Ex mX12_expression false 6 0 0 39 [some (.ref 112), some (.int (nI (loB b))), some (.int (nI (hiB b))), some (.int 1), o4] [] (W0 d1 L1) (qE b at0 T n d L l) nX := by
    intro d1 L1 f o4 E1 l1 B1 hr
    have fb := B1.1.2.2.1
    repeat refine x_s rfl rfl ?_
    refine x_br rfl rfl (fun c => absurd c (by decide)) (fun c => ?_)
    repeat refine x_s rfl rfl ?_
    refine x_cv (k_isGood d1 L1 B1.1.1 B1.1.2.2.2.1) rfl rfl rfl (by decide) rfl (by decide) rfl (Nat.le_of_ble_eq_true rfl) (by decide) (by decide) (by decide) ?_
    rintro _ _ ⟨rfl, rfl⟩
    rw [decide_eq_false (by omega)]
    refine x_br rfl rfl (fun c => ?_) (fun c => absurd c (fun z => z rfl))
    repeat refine x_s rfl rfl ?_
    refine x_cv (k_isGood d1 L1 B1.1.1 B1.1.2.2.2.1) rfl rfl rfl (by decide) rfl (by decide) rfl (Nat.le_of_ble_eq_true rfl) (by decide) (by decide) (by decide) ?_
    rintro _ _ ⟨rfl, rfl⟩
    rw [decide_eq_false (by omega)]
    refine x_br rfl rfl (fun c => ?_) (fun c => absurd c (fun z => z rfl))
    exact bad360 d1 L1 f _ _ E1 l1 B1 hr
  have lp : ∀ (N : Nat) (l1 : List Tk), l1.length ≤ N → ∀ (d1 : Nat → Nat → Int32) (L1 : Nat → Nat → Int64) (C1 W1 : List Int32) (ts1 : List Bool) (o4 : Option Value), MT d1 L1 T n l1 → GS d1 b at0 C1 W1 ts1 → BD at0 b C1 W1 l1 → zc W1 + 1 = ts1.length → EF at0 d d1 → ML L L1 → l1.length < l.length → run (vxB b) l 2 [] [] [false] = run (vxB b) l1 0 C1 W1 ts1 → Ex mX12_expression false 6 0 0 39 [some (.ref 112), some (.int (nI (loB b))), some (.int (nI (hiB b))), some (.int 1), o4] [] (W0 d1 L1) (qE b at0 T n d L l) nX := by
    intro N
    induction N with
    | zero =>
      intro l1 hl d1 L1 C1 W1 ts1 o4 M1
      obtain ⟨s, k, v, r, rfl⟩ := MT_ne M1
      exact absurd hl (by simp)
    | succ N ih =>
      intro l1 hl d1 L1 C1 W1 ts1 o4 M1 G1 B1 ht1 E1 m1 hll hr
      obtain ⟨s, k, v, r, rfl⟩ := MT_ne M1
      obtain ⟨f1, f2, f3, f4, f5, f6⟩ := MT_f M1
      obtain ⟨q, ts0, rfl⟩ : ∃ q ts0, ts1 = q :: ts0 := by
        cases ts1 with
        | nil => exact absurd ht1 (by simp)
        | cons q ts0 => exact ⟨q, ts0, rfl⟩
      have b1 := B1.1
      have b2 := B1.2
      simp only [List.length_cons] at b1 b2 hl hll ht1
      obtain ⟨t1, t2, t3⟩ := GS_tq G1
      have nxt : ∀ (lv : Nat) (op : Int32) (md : Bool) (q' : Bool) (d6 : Nat → Nat → Int32) (L6 : Nat → Nat → Int64) (o4 : Option Value), ¬ op = 0 → MT d6 L6 T n r → GS d6 b at0 (drp lv C1 W1).1 (op :: (drp lv C1 W1).2) (q' :: ts0) → (cod (pmB b) (drp lv C1 W1).1).length + (drp lv C1 W1).2.length = (cod (pmB b) C1).length + W1.length → EF at0 d d6 → ML L L6 → run (vxB b) ((s, k, v) :: r) 0 C1 W1 (q :: ts0) = run (vxB b) r (if md then 2 else 1) (drp lv C1 W1).1 (op :: (drp lv C1 W1).2) (q' :: ts0) → Cn mX12_operand false 5 0 0 [.ref 112, .int (bI md)] (W0 d6 L6) (fun x h => x = none ∧ Ex mX12_expression false 6 0 0 39 [some (.ref 112), some (.int (nI (loB b))), some (.int (nI (hiB b))), some (.int 1), o4] [] h (qE b at0 T n d L l) nX) := by
        intro lv op md q' d6 L6 o4 ho M6 G6 cl E6 m6 hr6
        obtain ⟨z1, wl⟩ := zc_drp (l := lv) W1 C1
        have B6 : BD at0 b (drp lv C1 W1).1 (op :: (drp lv C1 W1).2) r := ⟨by simp only [List.length_cons]; omega, by simp only [List.length_cons]; omega⟩
        refine (k_operand d6 L6 hn hT hb md M6 G6 B6 (by rw [zc, if_neg ho, z1]; simp only [List.length_cons]; omega)).imp ?_
        rintro x h ⟨rfl, d7, L7, rfl, E7, m7, hq⟩
        refine ⟨rfl, ?_⟩
        rcases hq with ⟨f, q1, q2⟩ | ⟨l', C', W', ts', q1, q2, q3, q4, q5, q6⟩
        · exact bad39 d7 L7 f o4 (EF_tr E6 E7) (ML_tr m6 m7) q1 (hr.trans (hr6.trans q2))
        · exact ih l' (by omega) d7 L7 C' W' ts' o4 q1 q2 q3 q4 (EF_tr E6 E7) (ML_tr m6 m7) (by omega) (hr.trans (hr6.trans q6))
      /- drops, then the operator waits -/
      have dro : ∀ lv, lv ≤ 10 → Cn mX12_drops false 2 0 0 [.ref 112, .int (nI lv)] (W0 d1 L1) (fun x h => x = none ∧ ∃ d2, h = W0 d2 L1 ∧ MT d2 L1 T n ((s, k, v) :: r) ∧ GS d2 b at0 (drp lv C1 W1).1 (drp lv C1 W1).2 (q :: ts0) ∧ (cod (pmB b) (drp lv C1 W1).1).length + (drp lv C1 W1).2.length = (cod (pmB b) C1).length + W1.length ∧ EF at0 d d2) := by
        intro lv hlv
        refine (k_drops L1 hlv (W1.map opW) d1 _ G1.2.2.1 G1.2.1.1 (by rw [List.length_map]; omega) (by rw [List.length_map]; omega)).imp ?_
        rintro x h ⟨rfl, d2, rfl, D2, w2, c2, e2⟩
        obtain ⟨G2, cl⟩ := GS_drop G1 D2 w2 c2 e2
        exact ⟨rfl, d2, rfl, MT_DF M1 D2, G2, cl, EF_tr E1 (EF_DF D2 (by omega))⟩
      have wai : ∀ (lv : Nat) (op : Int32) (d2 : Nat → Nat → Int32), (op = 0 ∨ op ≤ -11) → MT d2 L1 T n ((s, k, v) :: r) → GS d2 b at0 (drp lv C1 W1).1 (drp lv C1 W1).2 (q :: ts0) → EF at0 d d2 → Cn mX12_waitsFor false 1 0 0 [.ref 112, .int (opW op)] (W0 d2 L1) (fun x h => x = none ∧ ∃ d3, h = W0 d3 L1 ∧ MT d3 L1 T n ((s, k, v) :: r) ∧ GS d3 b at0 (drp lv C1 W1).1 (op :: (drp lv C1 W1).2) (q :: ts0) ∧ EF at0 d d3) := by
        intro lv op d2 ho M2 G2 E2
        obtain ⟨z1, wl⟩ := zc_drp (l := lv) W1 C1
        have g31 : d2 112 31 = nI (drp lv C1 W1).2.length := by
          have := G2.2.2.1.1
          rw [List.length_map] at this
          exact this
        refine (k_waitsFor d2 L1 g31 (by omega) (opW op)).imp ?_
        rintro x h ⟨rfl, rfl⟩
        exact ⟨rfl, _, rfl, MT_f1 (MT_c1 M2 (by decide)) (by omega), GS_push G2 ho, EF_f (EF_c E2 (by omega)) (by omega)⟩
      have aAnd : (k = 1 ∧ v = 14) → Ex mX12_expression false 6 0 0 70 [some (.ref 112), some (.int (nI (loB b))), some (.int (nI (hiB b))), some (.int 1), some (.int (kwI k v))] [] (W0 d1 L1) (qE b at0 T n d L l) nX := by
        intro hk
        have ek : kwI k v = nI 14 := (kw_ne M1 (by decide)).mpr hk
        have hk0 : ¬ k = 0 := by omega
        repeat refine x_s rfl rfl ?_
        rw [ek]
        refine x_br rfl rfl (fun c => absurd c (fun z => z rfl)) (fun c => ?_)
        repeat refine x_s rfl rfl ?_
        refine x_cv (dro 2 (by decide)) rfl rfl rfl (by decide) rfl (by decide) rfl (Nat.le_of_ble_eq_true rfl) (by decide) (by decide) (by decide) ?_
        rintro _ _ ⟨rfl, d2, rfl, M2, G2, cl, E2⟩
        repeat refine x_s rfl rfl ?_
        refine x_br rfl rfl (fun c => absurd c (fun z => z rfl)) (fun c => ?_)
        repeat refine x_s rfl rfl ?_
        refine x_cv (wai 2 (-12) d2 (Or.inr (by decide)) M2 G2 E2) rfl rfl rfl (by decide) rfl (by decide) rfl (Nat.le_of_ble_eq_true rfl) (by decide) (by decide) (by decide) ?_
        rintro _ _ ⟨rfl, d3, rfl, M3, G3, E3⟩
        obtain ⟨u1, u2, u3⟩ := GS_tq G3
        repeat refine x_s rfl rfl ?_
        refine x_zast rfl rfl (k := ts0.length + 1) u1 (by omega) (by decide) rfl ?_
        have G4 : GS (up2 d3 127 (ts0.length + 1) 0) b at0 (drp 2 C1 W1).1 (-12 :: (drp 2 C1 W1).2) (false :: ts0) := GS_test G3 false
        have M4 : MT (up2 d3 127 (ts0.length + 1) 0) L1 T n ((s, k, v) :: r) := MT_c1 M3 (by decide)
        have E4 : EF at0 d (up2 d3 127 (ts0.length + 1) 0) := EF_c E3 (by omega)
        refine (show Ex _ _ _ _ _ _ _ _ (W0 (up2 d3 127 (ts0.length + 1) 0) L1) _ _ from ?_)
        generalize up2 d3 127 (ts0.length + 1) 0 = d4 at G4 M4 E4 ⊢
        repeat refine x_s rfl rfl ?_
        refine x_cv (k_goes d4 L1 hn hT M4 (by omega)) rfl rfl rfl (by decide) rfl (by decide) rfl (Nat.le_of_ble_eq_true rfl) (by decide) (by decide) (by decide) ?_
        rintro _ _ ⟨rfl, d6, L6, rfl, F6, m6, M6⟩
        repeat refine x_s rfl rfl ?_
        refine x_cv (nxt 2 (-12) true false d6 L6 (some (.int (nI 14))) (by decide) M6 (GS_MF G4 F6) cl (EF_tr E4 (EF_MF F6)) (ML_tr m1 m6) (by rw [run, if_pos hk]; rfl)) rfl rfl rfl (by decide) rfl (by decide) rfl (Nat.le_of_ble_eq_true rfl) (by decide) (by decide) (by decide) ?_
        rintro _ _ ⟨rfl, he⟩
        iterate 2 refine x_s rfl rfl ?_
        exact he
      have aOr : (k = 1 ∧ v = 15) → Ex mX12_expression false 6 0 0 70 [some (.ref 112), some (.int (nI (loB b))), some (.int (nI (hiB b))), some (.int 1), some (.int (kwI k v))] [] (W0 d1 L1) (qE b at0 T n d L l) nX := by
        intro hk
        have ek : kwI k v = nI 15 := (kw_ne M1 (by decide)).mpr hk
        have hk0 : ¬ k = 0 := by omega
        repeat refine x_s rfl rfl ?_
        rw [ek]
        refine x_br rfl rfl (fun c => ?_) (fun c => absurd c (by decide))
        repeat refine x_s rfl rfl ?_
        refine x_cv (dro 1 (by decide)) rfl rfl rfl (by decide) rfl (by decide) rfl (Nat.le_of_ble_eq_true rfl) (by decide) (by decide) (by decide) ?_
        rintro _ _ ⟨rfl, d2, rfl, M2, G2, cl, E2⟩
        repeat refine x_s rfl rfl ?_
        refine x_br rfl rfl (fun c => ?_) (fun c => absurd c (by decide))
        repeat refine x_s rfl rfl ?_
        refine x_cv (wai 1 (-11) d2 (Or.inr (by decide)) M2 G2 E2) rfl rfl rfl (by decide) rfl (by decide) rfl (Nat.le_of_ble_eq_true rfl) (by decide) (by decide) (by decide) ?_
        rintro _ _ ⟨rfl, d3, rfl, M3, G3, E3⟩
        obtain ⟨u1, u2, u3⟩ := GS_tq G3
        repeat refine x_s rfl rfl ?_
        refine x_zast rfl rfl (k := ts0.length + 1) u1 (by omega) (by decide) rfl ?_
        have G4 : GS (up2 d3 127 (ts0.length + 1) 0) b at0 (drp 1 C1 W1).1 (-11 :: (drp 1 C1 W1).2) (false :: ts0) := GS_test G3 false
        have M4 : MT (up2 d3 127 (ts0.length + 1) 0) L1 T n ((s, k, v) :: r) := MT_c1 M3 (by decide)
        have E4 : EF at0 d (up2 d3 127 (ts0.length + 1) 0) := EF_c E3 (by omega)
        refine (show Ex _ _ _ _ _ _ _ _ (W0 (up2 d3 127 (ts0.length + 1) 0) L1) _ _ from ?_)
        generalize up2 d3 127 (ts0.length + 1) 0 = d4 at G4 M4 E4 ⊢
        repeat refine x_s rfl rfl ?_
        refine x_cv (k_goes d4 L1 hn hT M4 (by omega)) rfl rfl rfl (by decide) rfl (by decide) rfl (Nat.le_of_ble_eq_true rfl) (by decide) (by decide) (by decide) ?_
        rintro _ _ ⟨rfl, d6, L6, rfl, F6, m6, M6⟩
        repeat refine x_s rfl rfl ?_
        refine x_cv (nxt 1 (-11) true false d6 L6 (some (.int (nI 15))) (by decide) M6 (GS_MF G4 F6) cl (EF_tr E4 (EF_MF F6)) (ML_tr m1 m6) (by rw [run, if_neg (by omega), if_pos hk]; rfl)) rfl rfl rfl (by decide) rfl (by decide) rfl (Nat.le_of_ble_eq_true rfl) (by decide) (by decide) (by decide) ?_
        rintro _ _ ⟨rfl, he⟩
        iterate 2 refine x_s rfl rfl ?_
        exact he
      have aLt : (k = 60 ∨ k = 61) → q = false → Ex mX12_expression false 6 0 0 154 [some (.ref 112), some (.int (nI (loB b))), some (.int (nI (hiB b))), some (.int 1), some (.int (kwI k v))] [] (W0 d1 L1) (qE b at0 T n d L l) nX := by
        intro hk hq
        subst hq
        repeat refine x_s rfl rfl ?_
        refine x_cv (dro 4 (by decide)) rfl rfl rfl (by decide) rfl (by decide) rfl (Nat.le_of_ble_eq_true rfl) (by decide) (by decide) (by decide) ?_
        rintro _ _ ⟨rfl, d2, rfl, M2, G2, cl, E2⟩
        repeat refine x_s rfl rfl ?_
        refine x_cv (k_isSign d2 L1 (b := 60) (by decide) M2) rfl rfl rfl (by decide) rfl (by decide) rfl (Nat.le_of_ble_eq_true rfl) (by decide) (by decide) (by decide) ?_
        rintro _ _ ⟨rfl, rfl⟩
        rcases hk with rfl | rfl
        · refine x_br rfl rfl (fun c => absurd c (by decide)) (fun c => ?_)
          repeat refine x_s rfl rfl ?_
          refine x_cv (wai 4 (-13) d2 (Or.inr (by decide)) M2 G2 E2) rfl rfl rfl (by decide) rfl (by decide) rfl (Nat.le_of_ble_eq_true rfl) (by decide) (by decide) (by decide) ?_
          rintro _ _ ⟨rfl, d3, rfl, M3, G3, E3⟩
          obtain ⟨u1, u2, u3⟩ := GS_tq G3
          repeat refine x_s rfl rfl ?_
          refine x_zast rfl rfl (k := ts0.length + 1) u1 (by omega) (by decide) rfl ?_
          have G4 : GS (up2 d3 127 (ts0.length + 1) 1) b at0 (drp 4 C1 W1).1 (-13 :: (drp 4 C1 W1).2) (true :: ts0) := GS_test G3 true
          have M4 : MT (up2 d3 127 (ts0.length + 1) 1) L1 T n ((s, 60, v) :: r) := MT_c1 M3 (by decide)
          have E4 : EF at0 d (up2 d3 127 (ts0.length + 1) 1) := EF_c E3 (by omega)
          refine (show Ex _ _ _ _ _ _ _ _ (W0 (up2 d3 127 (ts0.length + 1) 1) L1) _ _ from ?_)
          generalize up2 d3 127 (ts0.length + 1) 1 = d4 at G4 M4 E4 ⊢
          repeat refine x_s rfl rfl ?_
          refine x_cv (k_goes d4 L1 hn hT M4 (by omega)) rfl rfl rfl (by decide) rfl (by decide) rfl (Nat.le_of_ble_eq_true rfl) (by decide) (by decide) (by decide) ?_
          rintro _ _ ⟨rfl, d6, L6, rfl, F6, m6, M6⟩
          repeat refine x_s rfl rfl ?_
          refine x_cv (nxt 4 (-13) false true d6 L6 (some (.int (kwI 60 v))) (by decide) M6 (GS_MF G4 F6) cl (EF_tr E4 (EF_MF F6)) (ML_tr m1 m6) (by rw [run, if_neg (by omega), if_neg (by omega), if_pos (by simp)]; rfl)) rfl rfl rfl (by decide) rfl (by decide) rfl (Nat.le_of_ble_eq_true rfl) (by decide) (by decide) (by decide) ?_
          rintro _ _ ⟨rfl, he⟩
          iterate 2 refine x_s rfl rfl ?_
          exact he
        · refine x_br rfl rfl (fun c => ?_) (fun c => absurd c (fun z => z rfl))
          repeat refine x_s rfl rfl ?_
          refine x_cv (wai 4 (-14) d2 (Or.inr (by decide)) M2 G2 E2) rfl rfl rfl (by decide) rfl (by decide) rfl (Nat.le_of_ble_eq_true rfl) (by decide) (by decide) (by decide) ?_
          rintro _ _ ⟨rfl, d3, rfl, M3, G3, E3⟩
          obtain ⟨u1, u2, u3⟩ := GS_tq G3
          repeat refine x_s rfl rfl ?_
          refine x_zast rfl rfl (k := ts0.length + 1) u1 (by omega) (by decide) rfl ?_
          have G4 : GS (up2 d3 127 (ts0.length + 1) 1) b at0 (drp 4 C1 W1).1 (-14 :: (drp 4 C1 W1).2) (true :: ts0) := GS_test G3 true
          have M4 : MT (up2 d3 127 (ts0.length + 1) 1) L1 T n ((s, 61, v) :: r) := MT_c1 M3 (by decide)
          have E4 : EF at0 d (up2 d3 127 (ts0.length + 1) 1) := EF_c E3 (by omega)
          refine (show Ex _ _ _ _ _ _ _ _ (W0 (up2 d3 127 (ts0.length + 1) 1) L1) _ _ from ?_)
          generalize up2 d3 127 (ts0.length + 1) 1 = d4 at G4 M4 E4 ⊢
          repeat refine x_s rfl rfl ?_
          refine x_cv (k_goes d4 L1 hn hT M4 (by omega)) rfl rfl rfl (by decide) rfl (by decide) rfl (Nat.le_of_ble_eq_true rfl) (by decide) (by decide) (by decide) ?_
          rintro _ _ ⟨rfl, d6, L6, rfl, F6, m6, M6⟩
          repeat refine x_s rfl rfl ?_
          refine x_cv (nxt 4 (-14) false true d6 L6 (some (.int (kwI 61 v))) (by decide) M6 (GS_MF G4 F6) cl (EF_tr E4 (EF_MF F6)) (ML_tr m1 m6) (by rw [run, if_neg (by omega), if_neg (by omega), if_pos (by simp)]; rfl)) rfl rfl rfl (by decide) rfl (by decide) rfl (Nat.le_of_ble_eq_true rfl) (by decide) (by decide) (by decide) ?_
          rintro _ _ ⟨rfl, he⟩
          iterate 2 refine x_s rfl rfl ?_
          exact he
      have aAdd : (k = 43 ∨ k = 45) → Ex mX12_expression false 6 0 0 219 [some (.ref 112), some (.int (nI (loB b))), some (.int (nI (hiB b))), some (.int 1), some (.int (kwI k v))] [] (W0 d1 L1) (qE b at0 T n d L l) nX := by
        intro hk
        repeat refine x_s rfl rfl ?_
        refine x_cv (dro 5 (by decide)) rfl rfl rfl (by decide) rfl (by decide) rfl (Nat.le_of_ble_eq_true rfl) (by decide) (by decide) (by decide) ?_
        rintro _ _ ⟨rfl, d2, rfl, M2, G2, cl, E2⟩
        repeat refine x_s rfl rfl ?_
        refine x_cv (k_isSign d2 L1 (b := 43) (by decide) M2) rfl rfl rfl (by decide) rfl (by decide) rfl (Nat.le_of_ble_eq_true rfl) (by decide) (by decide) (by decide) ?_
        rintro _ _ ⟨rfl, rfl⟩
        rcases hk with rfl | rfl
        · refine x_br rfl rfl (fun c => absurd c (by decide)) (fun c => ?_)
          repeat refine x_s rfl rfl ?_
          refine x_cv (wai 5 (-15) d2 (Or.inr (by decide)) M2 G2 E2) rfl rfl rfl (by decide) rfl (by decide) rfl (Nat.le_of_ble_eq_true rfl) (by decide) (by decide) (by decide) ?_
          rintro _ _ ⟨rfl, d3, rfl, M3, G3, E3⟩
          repeat refine x_s rfl rfl ?_
          refine x_cv (k_goes d3 L1 hn hT M3 (by omega)) rfl rfl rfl (by decide) rfl (by decide) rfl (Nat.le_of_ble_eq_true rfl) (by decide) (by decide) (by decide) ?_
          rintro _ _ ⟨rfl, d6, L6, rfl, F6, m6, M6⟩
          repeat refine x_s rfl rfl ?_
          refine x_cv (nxt 5 (-15) false q d6 L6 (some (.int (kwI 43 v))) (by decide) M6 (GS_MF G3 F6) cl (EF_tr E3 (EF_MF F6)) (ML_tr m1 m6) (by rw [run, if_neg (by omega), if_neg (by omega), if_neg (by omega), if_pos (by omega)]; rfl)) rfl rfl rfl (by decide) rfl (by decide) rfl (Nat.le_of_ble_eq_true rfl) (by decide) (by decide) (by decide) ?_
          rintro _ _ ⟨rfl, he⟩
          iterate 2 refine x_s rfl rfl ?_
          exact he
        · refine x_br rfl rfl (fun c => ?_) (fun c => absurd c (fun z => z rfl))
          repeat refine x_s rfl rfl ?_
          refine x_cv (wai 5 (-16) d2 (Or.inr (by decide)) M2 G2 E2) rfl rfl rfl (by decide) rfl (by decide) rfl (Nat.le_of_ble_eq_true rfl) (by decide) (by decide) (by decide) ?_
          rintro _ _ ⟨rfl, d3, rfl, M3, G3, E3⟩
          repeat refine x_s rfl rfl ?_
          refine x_cv (k_goes d3 L1 hn hT M3 (by omega)) rfl rfl rfl (by decide) rfl (by decide) rfl (Nat.le_of_ble_eq_true rfl) (by decide) (by decide) (by decide) ?_
          rintro _ _ ⟨rfl, d6, L6, rfl, F6, m6, M6⟩
          repeat refine x_s rfl rfl ?_
          refine x_cv (nxt 5 (-16) false q d6 L6 (some (.int (kwI 45 v))) (by decide) M6 (GS_MF G3 F6) cl (EF_tr E3 (EF_MF F6)) (ML_tr m1 m6) (by rw [run, if_neg (by omega), if_neg (by omega), if_neg (by omega), if_pos (by omega)]; rfl)) rfl rfl rfl (by decide) rfl (by decide) rfl (Nat.le_of_ble_eq_true rfl) (by decide) (by decide) (by decide) ?_
          rintro _ _ ⟨rfl, he⟩
          iterate 2 refine x_s rfl rfl ?_
          exact he
      have aMul : (k = 42 ∨ k = 47) → Ex mX12_expression false 6 0 0 274 [some (.ref 112), some (.int (nI (loB b))), some (.int (nI (hiB b))), some (.int 1), some (.int (kwI k v))] [] (W0 d1 L1) (qE b at0 T n d L l) nX := by
        intro hk
        repeat refine x_s rfl rfl ?_
        refine x_cv (dro 6 (by decide)) rfl rfl rfl (by decide) rfl (by decide) rfl (Nat.le_of_ble_eq_true rfl) (by decide) (by decide) (by decide) ?_
        rintro _ _ ⟨rfl, d2, rfl, M2, G2, cl, E2⟩
        repeat refine x_s rfl rfl ?_
        refine x_cv (k_isSign d2 L1 (b := 42) (by decide) M2) rfl rfl rfl (by decide) rfl (by decide) rfl (Nat.le_of_ble_eq_true rfl) (by decide) (by decide) (by decide) ?_
        rintro _ _ ⟨rfl, rfl⟩
        rcases hk with rfl | rfl
        · refine x_br rfl rfl (fun c => absurd c (by decide)) (fun c => ?_)
          repeat refine x_s rfl rfl ?_
          refine x_cv (wai 6 (-17) d2 (Or.inr (by decide)) M2 G2 E2) rfl rfl rfl (by decide) rfl (by decide) rfl (Nat.le_of_ble_eq_true rfl) (by decide) (by decide) (by decide) ?_
          rintro _ _ ⟨rfl, d3, rfl, M3, G3, E3⟩
          repeat refine x_s rfl rfl ?_
          refine x_cv (k_goes d3 L1 hn hT M3 (by omega)) rfl rfl rfl (by decide) rfl (by decide) rfl (Nat.le_of_ble_eq_true rfl) (by decide) (by decide) (by decide) ?_
          rintro _ _ ⟨rfl, d6, L6, rfl, F6, m6, M6⟩
          repeat refine x_s rfl rfl ?_
          refine x_cv (nxt 6 (-17) false q d6 L6 (some (.int (kwI 42 v))) (by decide) M6 (GS_MF G3 F6) cl (EF_tr E3 (EF_MF F6)) (ML_tr m1 m6) (by rw [run, if_neg (by omega), if_neg (by omega), if_neg (by omega), if_neg (by omega), if_pos (by omega)]; rfl)) rfl rfl rfl (by decide) rfl (by decide) rfl (Nat.le_of_ble_eq_true rfl) (by decide) (by decide) (by decide) ?_
          rintro _ _ ⟨rfl, he⟩
          iterate 2 refine x_s rfl rfl ?_
          exact he
        · refine x_br rfl rfl (fun c => ?_) (fun c => absurd c (fun z => z rfl))
          repeat refine x_s rfl rfl ?_
          refine x_cv (wai 6 (-18) d2 (Or.inr (by decide)) M2 G2 E2) rfl rfl rfl (by decide) rfl (by decide) rfl (Nat.le_of_ble_eq_true rfl) (by decide) (by decide) (by decide) ?_
          rintro _ _ ⟨rfl, d3, rfl, M3, G3, E3⟩
          repeat refine x_s rfl rfl ?_
          refine x_cv (k_goes d3 L1 hn hT M3 (by omega)) rfl rfl rfl (by decide) rfl (by decide) rfl (Nat.le_of_ble_eq_true rfl) (by decide) (by decide) (by decide) ?_
          rintro _ _ ⟨rfl, d6, L6, rfl, F6, m6, M6⟩
          repeat refine x_s rfl rfl ?_
          refine x_cv (nxt 6 (-18) false q d6 L6 (some (.int (kwI 47 v))) (by decide) M6 (GS_MF G3 F6) cl (EF_tr E3 (EF_MF F6)) (ML_tr m1 m6) (by rw [run, if_neg (by omega), if_neg (by omega), if_neg (by omega), if_neg (by omega), if_pos (by omega)]; rfl)) rfl rfl rfl (by decide) rfl (by decide) rfl (Nat.le_of_ble_eq_true rfl) (by decide) (by decide) (by decide) ?_
          rintro _ _ ⟨rfl, he⟩
          iterate 2 refine x_s rfl rfl ?_
          exact he
      /- the end -/
      have aEnd : ¬ (k = 1 ∧ v = 14) → ¬ (k = 1 ∧ v = 15) → ¬ ((k = 60 ∨ k = 61) ∧ (q :: ts0).head? = some false) → ¬ (k = 43 ∨ k = 45) → ¬ (k = 42 ∨ k = 47) → ¬ (k = 41 ∧ (0 : Int32) ∈ W1) → Ex mX12_expression false 6 0 0 335 [some (.ref 112), some (.int (nI (loB b))), some (.int (nI (hiB b))), some (.int 1), some (.int (kwI k v))] [] (W0 d1 L1) (qE b at0 T n d L l) nX := by
        intro h1 h2 h3 h4 h5 h6
        have hr1 : run (vxB b) l 2 [] [] [false] = if 1 < (q :: ts0).length then .inl (1, s) else .inr ((s, k, v) :: r, (drp 0 C1 W1).1) := by
          rw [hr, run, if_neg h1, if_neg h2, if_neg h3, if_neg h4, if_neg h5, if_neg h6]
        repeat refine x_s rfl rfl ?_
        refine x_br rfl rfl (fun c => ?_) (fun c => absurd c (fun z => z rfl))
        repeat refine x_s rfl rfl ?_
        refine x_cv (k_isGood d1 L1 G1.1 (by decide)) rfl rfl rfl (by decide) rfl (by decide) rfl (Nat.le_of_ble_eq_true rfl) (by decide) (by decide) (by decide) ?_
        rintro _ _ ⟨rfl, rfl⟩
        refine x_br rfl rfl (fun c => absurd c (by decide)) (fun c => ?_)
        repeat refine x_s rfl rfl ?_
        rw [t1]
        rcases Nat.eq_zero_or_pos ts0.length with hz | hz
        · rw [if_neg (by simp only [List.length_cons]; omega)] at hr1
          refine x_br rfl rfl (fun c => ?_) (fun c => absurd c (fun z => z (nI_le (b := 1) (by omega) (by decide))))
          repeat refine x_s rfl rfl ?_
          refine x_cv (dro 0 (by decide)) rfl rfl rfl (by decide) rfl (by decide) rfl (Nat.le_of_ble_eq_true rfl) (by decide) (by decide) (by decide) ?_
          rintro _ _ ⟨rfl, d2, rfl, M2, G2, cl, E2⟩
          repeat refine x_s rfl rfl ?_
          refine x_cv (k_puts d2 L1 G2.2.1.1 (by omega) _) rfl rfl rfl (by decide) rfl (by decide) rfl (Nat.le_of_ble_eq_true rfl) (by decide) (by decide) (by decide) ?_
          rintro _ _ ⟨rfl, rfl⟩
          refine x_vret rfl rfl ⟨rfl, _, L1, rfl, EF_f (EF_c E2 (Or.inl ⟨rfl, by omega⟩)) (by omega), m1, Or.inr ⟨(s, k, v) :: r, (drp 0 C1 W1).1, MT_f1 (MT_c1 M2 (by decide)) (by omega), G2.1, up2_eq, fun i t hi => ?_, ?_, by simp only [List.length_cons]; omega, by simp only [List.length_cons]; omega, hr1⟩⟩
          · have hi2 := (List.getElem?_eq_some_iff.mp hi).1
            rw [up2_ne (by decide), up2_k (by omega)]
            exact G2.2.1.2 i t hi
          · rw [up2_ne (by decide), up2_eq]
        · rw [if_pos (by simp only [List.length_cons]; omega)] at hr1
          refine x_br rfl rfl (fun c => absurd c (fun z => absurd z (nI_ge (b := ts0.length + 1) (a := 1) (by omega) (by omega)))) (fun c => ?_)
          repeat refine x_s rfl rfl ?_
          refine x_cv (k_wrong d1 L1 G1.1 _) rfl rfl rfl (by decide) rfl (by decide) rfl (Nat.le_of_ble_eq_true rfl) (by decide) (by decide) (by decide) ?_
          rintro _ _ ⟨rfl, rfl⟩
          rw [f1]
          obtain ⟨E2, B2'⟩ := B0 G1 B1 (by simp) (f := 1) (s := s) (by decide) (by decide) (by omega)
          exact bad360 _ L1 (1, s) _ _ (EF_tr E1 E2) m1 B2' hr1
      have at312 : ¬ (k = 1 ∧ v = 14) → ¬ (k = 1 ∧ v = 15) → ¬ ((k = 60 ∨ k = 61) ∧ (q :: ts0).head? = some false) → ¬ (k = 43 ∨ k = 45) → ¬ (k = 42 ∨ k = 47) → Ex mX12_expression false 6 0 0 312 [some (.ref 112), some (.int (nI (loB b))), some (.int (nI (hiB b))), some (.int 1), some (.int (kwI k v))] [] (W0 d1 L1) (qE b at0 T n d L l) nX := by
        intro h1 h2 h3 h4 h5
        repeat refine x_s rfl rfl ?_
        refine x_cv (k_isSign d1 L1 (b := 41) (by decide) M1) rfl rfl rfl (by decide) rfl (by decide) rfl (Nat.le_of_ble_eq_true rfl) (by decide) (by decide) (by decide) ?_
        rintro _ _ ⟨rfl, rfl⟩
        by_cases h41 : k = 41
        rotate_left
        · rw [decide_eq_false h41]
          refine x_br rfl rfl (fun c => ?_) (fun c => absurd c (fun z => z rfl))
          exact aEnd h1 h2 h3 h4 h5 (fun z => h41 z.1)
        rw [decide_eq_true h41]
        refine x_br rfl rfl (fun c => absurd c (by decide)) (fun c => ?_)
        repeat refine x_s rfl rfl ?_
        refine x_cv (k_isOpened d1 L1 G1.2.2.1 (by rw [List.length_map]; omega)) rfl rfl rfl (by decide) rfl (by decide) rfl (Nat.le_of_ble_eq_true rfl) (by decide) (by decide) (by decide) ?_
        rintro _ _ ⟨rfl, rfl⟩
        rw [opn_any]
        by_cases ho : (0 : Int32) ∈ W1
        rotate_left
        · rw [decide_eq_false ho]
          refine x_br rfl rfl (fun c => ?_) (fun c => absurd c (fun z => z rfl))
          exact aEnd h1 h2 h3 h4 h5 (fun z => ho z.2)
        rw [decide_eq_true ho]
        refine x_br rfl rfl (fun c => absurd c (by decide)) (fun c => ?_)
        subst h41
        repeat refine x_s rfl rfl ?_
        refine x_cv (k_closes d1 L1 hn hT M1 G1 B1 ho) rfl rfl rfl (by decide) rfl (by decide) rfl (Nat.le_of_ble_eq_true rfl) (by decide) (by decide) (by decide) ?_
        rintro _ _ ⟨rfl, d2, L2, rfl, E2, m2, M2, G2, cl, wl⟩
        iterate 2 refine x_s rfl rfl ?_
        obtain ⟨X', eX⟩ := drp_0 W1 C1 ho
        have z1 := (zc_drp (l := 0) W1 C1).1
        rw [eX, zc, if_pos rfl] at z1
        refine ih r (by omega) d2 L2 _ _ ts0 _ M2 G2 ⟨by omega, by omega⟩ ?_ (EF_tr E1 E2) (ML_tr m1 m2) (by omega) ?_
        · rw [eX]
          show zc X' + 1 = ts0.length
          omega
        · rw [hr, run, if_neg h1, if_neg h2, if_neg h3, if_neg h4, if_neg h5, if_pos ⟨rfl, ho⟩]
          rfl
      have at201 : ¬ (k = 1 ∧ v = 14) → ¬ (k = 1 ∧ v = 15) → ¬ ((k = 60 ∨ k = 61) ∧ (q :: ts0).head? = some false) → Ex mX12_expression false 6 0 0 201 [some (.ref 112), some (.int (nI (loB b))), some (.int (nI (hiB b))), some (.int 1), some (.int (kwI k v))] [] (W0 d1 L1) (qE b at0 T n d L l) nX := by
        intro h1 h2 h3
        repeat refine x_s rfl rfl ?_
        refine x_cv (k_isSign d1 L1 (b := 43) (by decide) M1) rfl rfl rfl (by decide) rfl (by decide) rfl (Nat.le_of_ble_eq_true rfl) (by decide) (by decide) (by decide) ?_
        rintro _ _ ⟨rfl, rfl⟩
        by_cases h43 : k = 43
        · rw [decide_eq_true h43]
          refine x_br rfl rfl (fun c => ?_) (fun c => absurd c (fun z => absurd z (by decide)))
          exact aAdd (Or.inl h43)
        rw [decide_eq_false h43]
        refine x_br rfl rfl (fun c => absurd c (fun z => z rfl)) (fun c => ?_)
        repeat refine x_s rfl rfl ?_
        refine x_cv (k_isSign d1 L1 (b := 45) (by decide) M1) rfl rfl rfl (by decide) rfl (by decide) rfl (Nat.le_of_ble_eq_true rfl) (by decide) (by decide) (by decide) ?_
        rintro _ _ ⟨rfl, rfl⟩
        by_cases h45 : k = 45
        · rw [decide_eq_true h45]
          refine x_br rfl rfl (fun c => absurd c (by decide)) (fun c => ?_)
          exact aAdd (Or.inr h45)
        rw [decide_eq_false h45]
        refine x_br rfl rfl (fun c => ?_) (fun c => absurd c (fun z => z rfl))
        repeat refine x_s rfl rfl ?_
        refine x_cv (k_isSign d1 L1 (b := 42) (by decide) M1) rfl rfl rfl (by decide) rfl (by decide) rfl (Nat.le_of_ble_eq_true rfl) (by decide) (by decide) (by decide) ?_
        rintro _ _ ⟨rfl, rfl⟩
        by_cases h42 : k = 42
        · rw [decide_eq_true h42]
          refine x_br rfl rfl (fun c => ?_) (fun c => absurd c (fun z => absurd z (by decide)))
          exact aMul (Or.inl h42)
        rw [decide_eq_false h42]
        refine x_br rfl rfl (fun c => absurd c (fun z => z rfl)) (fun c => ?_)
        repeat refine x_s rfl rfl ?_
        refine x_cv (k_isSign d1 L1 (b := 47) (by decide) M1) rfl rfl rfl (by decide) rfl (by decide) rfl (Nat.le_of_ble_eq_true rfl) (by decide) (by decide) (by decide) ?_
        rintro _ _ ⟨rfl, rfl⟩
        by_cases h47 : k = 47
        · rw [decide_eq_true h47]
          refine x_br rfl rfl (fun c => absurd c (by decide)) (fun c => ?_)
          exact aMul (Or.inr h47)
        rw [decide_eq_false h47]
        refine x_br rfl rfl (fun c => ?_) (fun c => absurd c (fun z => z rfl))
        exact at312 h1 h2 h3 (by omega) (by omega)
      have at142 : ¬ (k = 1 ∧ v = 14) → ¬ (k = 1 ∧ v = 15) → (k = 60 ∨ k = 61) → Ex mX12_expression false 6 0 0 142 [some (.ref 112), some (.int (nI (loB b))), some (.int (nI (hiB b))), some (.int 1), some (.int (kwI k v))] [] (W0 d1 L1) (qE b at0 T n d L l) nX := by
        intro h1 h2 h3
        repeat refine x_s rfl rfl ?_
        refine x_ald rfl rfl rfl (k := ts0.length + 1) t1 (by omega) (by decide) rfl ?_
        rw [t2]
        cases q
        · refine x_br rfl rfl (fun c => absurd c (fun z => z rfl)) (fun c => ?_)
          exact aLt h3 rfl
        · refine x_br rfl rfl (fun c => ?_) (fun c => absurd c (fun z => absurd z (by decide)))
          exact at201 h1 h2 (fun z => absurd z.2 (by simp))
      repeat refine x_s rfl rfl ?_
      refine x_br rfl rfl (fun c => absurd c (by decide)) (fun c => ?_)
      repeat refine x_s rfl rfl ?_
      refine x_cv (k_isGood d1 L1 G1.1 (by decide)) rfl rfl rfl (by decide) rfl (by decide) rfl (Nat.le_of_ble_eq_true rfl) (by decide) (by decide) (by decide) ?_
      rintro _ _ ⟨rfl, rfl⟩
      refine x_br rfl rfl (fun c => absurd c (by decide)) (fun c => ?_)
      repeat refine x_s rfl rfl ?_
      refine x_cv (k_knownWord d1 L1 hT hn M1) rfl rfl rfl (by decide) rfl (by decide) rfl (Nat.le_of_ble_eq_true rfl) (by decide) (by decide) (by decide) ?_
      rintro _ _ ⟨rfl, rfl⟩
      repeat refine x_s rfl rfl ?_
      by_cases h1 : k = 1 ∧ v = 14
      · refine x_br rfl rfl (fun c => ?_) (fun c => absurd c (fun z => z ((kw_ne (a := 14) M1 (by decide)).mpr h1)))
        exact aAnd h1
      refine x_br rfl rfl (fun c => absurd c (fun z => h1 ((kw_ne (a := 14) M1 (by decide)).mp z))) (fun c => ?_)
      repeat refine x_s rfl rfl ?_
      by_cases h2 : k = 1 ∧ v = 15
      · refine x_br rfl rfl (fun c => absurd c (fun z => z ((kw_ne (a := 15) M1 (by decide)).mpr h2))) (fun c => ?_)
        exact aOr h2
      refine x_br rfl rfl (fun c => ?_) (fun c => absurd c (fun z => h2 ((kw_ne (a := 15) M1 (by decide)).mp z)))
      repeat refine x_s rfl rfl ?_
      refine x_cv (k_isSign d1 L1 (b := 60) (by decide) M1) rfl rfl rfl (by decide) rfl (by decide) rfl (Nat.le_of_ble_eq_true rfl) (by decide) (by decide) (by decide) ?_
      rintro _ _ ⟨rfl, rfl⟩
      by_cases h60 : k = 60
      · rw [decide_eq_true h60]
        refine x_br rfl rfl (fun c => ?_) (fun c => absurd c (fun z => absurd z (by decide)))
        exact at142 h1 h2 (Or.inl h60)
      rw [decide_eq_false h60]
      refine x_br rfl rfl (fun c => absurd c (fun z => z rfl)) (fun c => ?_)
      repeat refine x_s rfl rfl ?_
      refine x_cv (k_isSign d1 L1 (b := 61) (by decide) M1) rfl rfl rfl (by decide) rfl (by decide) rfl (Nat.le_of_ble_eq_true rfl) (by decide) (by decide) (by decide) ?_
      rintro _ _ ⟨rfl, rfl⟩
      by_cases h61 : k = 61
      · rw [decide_eq_true h61]
        refine x_br rfl rfl (fun c => absurd c (by decide)) (fun c => ?_)
        exact at142 h1 h2 (Or.inr h61)
      rw [decide_eq_false h61]
      refine x_br rfl rfl (fun c => ?_) (fun c => absurd c (fun z => z rfl))
      exact at201 h1 h2 (fun z => by rcases z.1 with y | y <;> omega)
  refine Cn.intro gX12_expression rfl (Nat.le_of_ble_eq_true rfl) rfl ?_
  repeat refine x_s rfl rfl ?_
  refine x_cv (k_isGood d L h12 (by decide)) rfl rfl rfl (by decide) rfl (by decide) rfl (Nat.le_of_ble_eq_true rfl) (by decide) (by decide) (by decide) ?_
  rintro _ _ ⟨rfl, rfl⟩
  refine x_br rfl rfl (fun c => ?_) (fun c => absurd c (fun z => absurd z (by decide)))
  repeat refine x_s rfl rfl ?_
  refine x_put rfl rfl (by decide) rfl ⟨rfl, rfl⟩ (Or.inl rfl) ?_
  repeat refine x_s rfl rfl ?_
  refine x_put rfl rfl (by decide) rfl ⟨rfl, rfl⟩ (Or.inl rfl) ?_
  repeat refine x_s rfl rfl ?_
  refine x_put rfl rfl (by decide) rfl ⟨rfl, rfl⟩ (Or.inl rfl) ?_
  repeat refine x_s rfl rfl ?_
  refine x_put rfl rfl (by decide) rfl ⟨rfl, rfl⟩ (Or.inl rfl) ?_
  have G0 : GS (up2 (up2 (up2 (up2 d 112 29 (nI (loB b))) 112 30 (nI (hiB b))) 112 31 0) 112 32 0) b at0 [] [] [] := by
    refine ⟨h12, ⟨h28, fun i t hi => by cases hi⟩, ⟨rfl, fun i t hi => by cases hi⟩, fun t ht => absurd ht List.not_mem_nil, ⟨rfl, fun i t hi => by cases hi⟩, by decide, rfl, rfl⟩
  have M0 : MT (up2 (up2 (up2 (up2 d 112 29 (nI (loB b))) 112 30 (nI (hiB b))) 112 31 0) 112 32 0) L T n l := MT_f1 (MT_f1 (MT_f1 (MT_f1 H (by omega)) (by omega)) (by omega)) (by omega)
  have E0 : EF at0 d (up2 (up2 (up2 (up2 d 112 29 (nI (loB b))) 112 30 (nI (hiB b))) 112 31 0) 112 32 0) := EF_f (EF_f (EF_f (EF_f EF_rfl (by omega)) (by omega)) (by omega)) (by omega)
  generalize up2 (up2 (up2 (up2 d 112 29 (nI (loB b))) 112 30 (nI (hiB b))) 112 31 0) 112 32 0 = d0 at G0 M0 E0 ⊢
  obtain ⟨s, k, v, r, rfl⟩ := MT_ne M0
  repeat refine x_s rfl rfl ?_
  refine x_cv (k_deeper d0 L M0 G0) rfl rfl rfl (by decide) rfl (by decide) rfl (Nat.le_of_ble_eq_true rfl) (by decide) (by decide) (by decide) ?_
  rintro _ _ ⟨rfl, hq⟩
  rcases hq with ⟨-, rfl⟩ | ⟨h6, -⟩
  rotate_left
  · exact absurd h6 (by decide)
  have G1 := GS_deep G0 (by decide)
  have M1 : MT (up2 (up2 d0 112 32 (nI (([] : List Bool).length + 1))) 127 (([] : List Bool).length + 1) 0) L T n ((s, k, v) :: r) := MT_c1 (MT_f1 M0 (by omega)) (by decide)
  have E1 : EF at0 d (up2 (up2 d0 112 32 (nI (([] : List Bool).length + 1))) 127 (([] : List Bool).length + 1) 0) := EF_c (EF_f E0 (by omega)) (by omega)
  generalize up2 (up2 d0 112 32 (nI (([] : List Bool).length + 1))) 127 (([] : List Bool).length + 1) 0 = d1 at G1 M1 E1 ⊢
  have B1 : BD at0 b [] [] ((s, k, v) :: r) := by
    refine ⟨?_, ?_⟩
    · show at0 + 0 + 0 + 2 * ((s, k, v) :: r).length ≤ 1400
      omega
    · show 0 + ((s, k, v) :: r).length ≤ 701
      omega
  repeat refine x_s rfl rfl ?_
  refine x_cv (k_operand d1 L hn hT hb true M1 G1 B1 rfl) rfl rfl rfl (by decide) rfl (by decide) rfl (Nat.le_of_ble_eq_true rfl) (by decide) (by decide) (by decide) ?_
  rintro _ _ ⟨rfl, d2, L2, rfl, E2, m2, hq⟩
  iterate 2 refine x_s rfl rfl ?_
  rcases hq with ⟨f, q1, q2⟩ | ⟨l', C', W', ts', q1, q2, q3, q4, q5, q6⟩
  · exact bad39 d2 L2 f _ (EF_tr E1 E2) m2 q1 q2
  · exact lp l'.length l' (Nat.le_refl _) d2 L2 C' W' ts' _ q1 q2 q3 q4 (EF_tr E1 E2) m2 q5 q6
end
