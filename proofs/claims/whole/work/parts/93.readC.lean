/-! THE COMPONENT reads a text -/
theorem LT_len {d : Nat → Nat → Int32} {T : Nat → Nat} {n s k v : Nat} {r : List Tk} (H : LT d T n ((s, k, v) :: r)) (hk : ¬ k = 0) : r.length ≤ n ∧ 1 ≤ r.length := by
  obtain ⟨h1, h2, h3, h4, h5⟩ := LT_hd H
  obtain ⟨h6, h7⟩ := h5 hk
  have h8 := tE_sp (T := T) h6
  have h9 := TL_len (T := T) (n := n) (tE T n s)
  rw [← h7] at h9
  refine ⟨by omega, ?_⟩
  rw [h7, TL_eq h8.2]
  simp only [List.length_cons]
  omega
theorem run_fin {vx : Nat → Option Int32} {l : List Tk} {E : List Int32} {q : Bool} (hl : ∃ s k v r, l = (s, k, v) :: r) (h : lvL l q ≤ 0) : run vx l 0 E [] [q] = .inr (l, E) := by
  obtain ⟨s, k, v, r, rfl⟩ := hl
  obtain ⟨z1, z2, z3, z4, z5⟩ := lv_0 (k := k) (v := v) (b := ([q] : List Bool).head?) (Nat.le_zero.mp h)
  rw [run, if_neg z1, if_neg z2, if_neg z3, if_neg z4, if_neg z5, if_neg (fun z => absurd z.2 List.not_mem_nil), if_neg (by simp)]
  rfl
def Dz : Dr := (fun _ _ => 0, none, none)
theorem DG_z : DG Dz := ⟨⟨by decide, by decide, by decide, fun p hp => absurd hp (Nat.not_lt_zero _), fun p hp => absurd hp (Nat.not_lt_zero _), fun p hp => absurd hp (Nat.not_lt_zero _)⟩, trivial, trivial⟩
section
variable (d : Nat → Nat → Int32) (L : Nat → Nat → Int64) {T : Nat → Nat} {n : Nat}
set_option maxRecDepth 100000 in
set_option maxHeartbeats 1600000 in
theorem c_readRule17 {s : Nat} {r : List Tk} {D : Dr} (hn : n ≤ 700) (hT : ∀ j, T j < 256) (H : LT d T n ((s, 1, 12) :: r)) (D0 : HD d D) (dg : DG D) : Cn mX5_readRule false 51 0 0 [.ref 1, .ref 17] (W0 d L) (qL T n d L (lnRule 17 s r D)) := by
  have hb : (17 : Nat) = 17 ∨ (17 : Nat) = 20 := by decide
  obtain ⟨t1, t2, t3, t4, t5⟩ := LT_f H
  obtain ⟨rl, rl2⟩ := LT_len H (by decide)
  have rd : RD d 17 D.2.1 := D0.2.2.2.2.2.2.1
  have eg : (if (17 : Nat) = 17 then D.2.1 else D.2.2) = D.2.1 := rfl
  refine Cn.intro gX5_readRule rfl (Nat.le_of_ble_eq_true rfl) rfl ?_
  repeat refine x_s rfl rfl ?_
  cases hg : D.2.1 with
  | some E0 =>
    rw [hg] at rd
    have ro : RO 6 D.2.1 := dg.2.1
    rw [hg] at ro
    obtain ⟨ro1, ro2, ro3, ro4⟩ := ro
    have rc : RC d 17 E0 := rd
    rw [rc.1]
    refine x_br rfl rfl (fun c => absurd c (fun z => absurd z (by rw [ile, nI_tI (by omega)]; have : (0 : Int32).toInt = 0 := rfl; omega))) (fun c => ?_)
    repeat refine x_s rfl rfl ?_
    refine x_cv (c_refuse d L _) rfl rfl rfl (by decide) rfl (by decide) rfl (Nat.le_of_ble_eq_true rfl) (by omega) (by decide) (by decide) ?_
    rintro _ _ ⟨rfl, rfl⟩
    rw [t1]
    refine x_iret rfl rfl rfl ⟨_, rfl, LN_fl LN_rfl, Or.inl ⟨rfl, (5, s), FT_of (by decide) (by decide) (by omega), ?_⟩⟩
    unfold lnRule
    rw [eg, hg]
  | none =>
    rw [hg] at rd
    have rd0 : d 17 0 = nI 0 := rd
    rw [rd0]
    refine x_br rfl rfl (fun c => ?_) (fun c => absurd c (fun z => z (by decide)))
    repeat refine x_s rfl rfl ?_
    refine x_cv (c_advance d L hn hT H (by decide)) rfl rfl rfl (by decide) rfl (by decide) rfl (Nat.le_of_ble_eq_true rfl) (by omega) (by decide) (by decide) ?_
    rintro _ _ ⟨rfl, d1, rfl, F1, H1⟩
    have D1 := HD_LF D0 F1
    have R1 : RC d1 17 [] := ⟨by rw [F1.1 17 (by decide)]; exact rd0, fun i t hi => by cases hi⟩
    have res : ∀ q, run (vxB 17) r 2 [] [] [false] = q → lnRule 17 s r D = (match q with | .inl f => .inl f | .inr (l, E) => sgn l (D.1, (some E, D.2.2))) := by
      intro q hq
      unfold lnRule
      rw [eg, hg, hq]
      rfl
    repeat refine x_s rfl rfl ?_
    refine x_cv (c_expr hn hT hb 5 0 rfl d1 L r [] H1 R1 (by simp only [List.length_nil]; omega)) rfl rfl rfl (by decide) rfl (by decide) rfl (Nat.le_of_ble_eq_true rfl) (by omega) (by decide) (by decide) ?_
    rintro rv _ ⟨d2, rfl, F2, hq⟩
    have N2 : LN d d2 := LN_tr (LN_LF F1) (LN_PF hb F2)
    rcases hq with ⟨rfl, J2, f, hf, hs⟩ | ⟨rfl, e3, l2, E, H2, R2, S2⟩
    · refine x_br rfl rfl (fun c => ?_) (fun c => absurd c (fun z => z rfl))
      repeat refine x_s rfl rfl ?_
      exact x_iret rfl rfl rfl ⟨d2, rfl, N2, Or.inl ⟨rfl, f, hf, res _ (hs [] false [] trivial rfl (fun _ => rfl))⟩⟩
    obtain ⟨p1, p2, p3, p4⟩ := S2
    obtain ⟨b', c1, c2, c3⟩ := p4 [] false [] trivial rfl (fun _ => rfl)
    obtain ⟨pw1, pw2⟩ := pz_wf p1 (by decide)
    have rr := res (.inr (l2, E)) (c3.trans (run_fin (LT_ne H2) c1))
    have D2 : HD d2 (D.1, (some E, D.2.2)) := by
      obtain ⟨a1, a2, a3, a4, a5, a6, a7, a8⟩ := D1
      have ee : ∀ c, c ≠ 1 → c ≠ 17 → c ≠ 18 → d2 c = d1 c := fun c h1 h2 h3 => F2.1 c h1 h2 h3
      have ro : ∀ bb g, (bb = 17 ∨ bb = 20) → ¬ bb = 17 → RD d1 bb g → RD d2 bb g := by
        intro bb g hb1 hb2 hr
        cases g with
        | none =>
          show d2 bb 0 = nI 0
          rw [ee bb (by omega) hb2 (by omega)]
          exact hr
        | some E =>
          have hr' : RC d1 bb E := hr
          show RC d2 bb E
          unfold RC at hr' ⊢
          rw [ee bb (by omega) hb2 (by omega), ee (bb + 1) (by omega) (by omega) (by omega)]
          exact hr'
      unfold HD
      rw [ee 4 (by decide) (by decide) (by decide), ee 5 (by decide) (by decide) (by decide), ee 6 (by decide) (by decide) (by decide), ee 7 (by decide) (by decide) (by decide), ee 8 (by decide) (by decide) (by decide), ee 9 (by decide) (by decide) (by decide), ee 10 (by decide) (by decide) (by decide), ee 11 (by decide) (by decide) (by decide), ee 12 (by decide) (by decide) (by decide), ee 13 (by decide) (by decide) (by decide), ee 14 (by decide) (by decide) (by decide), ee 15 (by decide) (by decide) (by decide), ee 16 (by decide) (by decide) (by decide)]
      exact ⟨a1, a2, a3, a4, a5, a6, R2, ro 20 _ (Or.inr rfl) (by decide) a8⟩
    have ok : RO 6 (some E) := ⟨pw1, by simp only at p3; omega, pw2, p2⟩
    have dg2 : DG (D.1, (some E, D.2.2)) := ⟨dg.1, ok, dg.2.2⟩
    obtain ⟨s9, k9, v9, r9, rfl⟩ := LT_ne H2
    obtain ⟨t91, t92, t93, t94, t95⟩ := LT_f H2
    have q2 : d2 1 3 = d 1 3 := e3.trans (e3_LF F1)
    refine x_br rfl rfl (fun c => absurd c (by decide)) (fun c => ?_)
    repeat refine x_s rfl rfl ?_
    refine x_cv (c_readSign d2 L (b := 59) hn hT (by decide) H2) rfl rfl rfl (by decide) rfl (by decide) rfl (Nat.le_of_ble_eq_true rfl) (by omega) (by decide) (by decide) ?_
    rintro rv _ hq
    rcases hq with ⟨hk, rfl, d10, rfl, F10, H10⟩ | ⟨hk, rfl, rfl⟩
    · refine x_br rfl rfl (fun c => absurd c (by decide)) (fun c => ?_)
      repeat refine x_s rfl rfl ?_
      refine x_iret rfl rfl rfl ⟨d10, rfl, LN_tr N2 (LN_LF F10), Or.inr ⟨rfl, r9, (D.1, (some E, D.2.2)), H10, HD_LF D2 F10, dg2, (e3_LF F10).trans q2, rr.trans ?_⟩⟩
      simp only [sgn]
      rw [if_pos hk]
    · refine x_br rfl rfl (fun c => ?_) (fun c => absurd c (fun z => z rfl))
      repeat refine x_s rfl rfl ?_
      refine x_iret rfl rfl rfl ⟨_, rfl, LN_fl N2, Or.inl ⟨rfl, (1, s9), FT_of (by decide) (by decide) (by omega), rr.trans ?_⟩⟩
      simp only [sgn]
      rw [if_neg hk]
set_option maxRecDepth 100000 in
set_option maxHeartbeats 1600000 in
theorem c_readRule20 {s : Nat} {r : List Tk} {D : Dr} (hn : n ≤ 700) (hT : ∀ j, T j < 256) (H : LT d T n ((s, 1, 13) :: r)) (D0 : HD d D) (dg : DG D) : Cn mX5_readRule false 51 0 0 [.ref 1, .ref 20] (W0 d L) (qL T n d L (lnRule 20 s r D)) := by
  have hb : (20 : Nat) = 17 ∨ (20 : Nat) = 20 := by decide
  obtain ⟨t1, t2, t3, t4, t5⟩ := LT_f H
  obtain ⟨rl, rl2⟩ := LT_len H (by decide)
  have rd : RD d 20 D.2.2 := D0.2.2.2.2.2.2.2
  have eg : (if (20 : Nat) = 17 then D.2.1 else D.2.2) = D.2.2 := rfl
  refine Cn.intro gX5_readRule rfl (Nat.le_of_ble_eq_true rfl) rfl ?_
  repeat refine x_s rfl rfl ?_
  cases hg : D.2.2 with
  | some E0 =>
    rw [hg] at rd
    have ro : RO 5 D.2.2 := dg.2.2
    rw [hg] at ro
    obtain ⟨ro1, ro2, ro3, ro4⟩ := ro
    have rc : RC d 20 E0 := rd
    rw [rc.1]
    refine x_br rfl rfl (fun c => absurd c (fun z => absurd z (by rw [ile, nI_tI (by omega)]; have : (0 : Int32).toInt = 0 := rfl; omega))) (fun c => ?_)
    repeat refine x_s rfl rfl ?_
    refine x_cv (c_refuse d L _) rfl rfl rfl (by decide) rfl (by decide) rfl (Nat.le_of_ble_eq_true rfl) (by omega) (by decide) (by decide) ?_
    rintro _ _ ⟨rfl, rfl⟩
    rw [t1]
    refine x_iret rfl rfl rfl ⟨_, rfl, LN_fl LN_rfl, Or.inl ⟨rfl, (5, s), FT_of (by decide) (by decide) (by omega), ?_⟩⟩
    unfold lnRule
    rw [eg, hg]
  | none =>
    rw [hg] at rd
    have rd0 : d 20 0 = nI 0 := rd
    rw [rd0]
    refine x_br rfl rfl (fun c => ?_) (fun c => absurd c (fun z => z (by decide)))
    repeat refine x_s rfl rfl ?_
    refine x_cv (c_advance d L hn hT H (by decide)) rfl rfl rfl (by decide) rfl (by decide) rfl (Nat.le_of_ble_eq_true rfl) (by omega) (by decide) (by decide) ?_
    rintro _ _ ⟨rfl, d1, rfl, F1, H1⟩
    have D1 := HD_LF D0 F1
    have R1 : RC d1 20 [] := ⟨by rw [F1.1 20 (by decide)]; exact rd0, fun i t hi => by cases hi⟩
    have res : ∀ q, run (vxB 20) r 2 [] [] [false] = q → lnRule 20 s r D = (match q with | .inl f => .inl f | .inr (l, E) => sgn l (D.1, (D.2.1, some E))) := by
      intro q hq
      unfold lnRule
      rw [eg, hg, hq]
      rfl
    repeat refine x_s rfl rfl ?_
    refine x_cv (c_expr hn hT hb 5 0 rfl d1 L r [] H1 R1 (by simp only [List.length_nil]; omega)) rfl rfl rfl (by decide) rfl (by decide) rfl (Nat.le_of_ble_eq_true rfl) (by omega) (by decide) (by decide) ?_
    rintro rv _ ⟨d2, rfl, F2, hq⟩
    have N2 : LN d d2 := LN_tr (LN_LF F1) (LN_PF hb F2)
    rcases hq with ⟨rfl, J2, f, hf, hs⟩ | ⟨rfl, e3, l2, E, H2, R2, S2⟩
    · refine x_br rfl rfl (fun c => ?_) (fun c => absurd c (fun z => z rfl))
      repeat refine x_s rfl rfl ?_
      exact x_iret rfl rfl rfl ⟨d2, rfl, N2, Or.inl ⟨rfl, f, hf, res _ (hs [] false [] trivial rfl (fun _ => rfl))⟩⟩
    obtain ⟨p1, p2, p3, p4⟩ := S2
    obtain ⟨b', c1, c2, c3⟩ := p4 [] false [] trivial rfl (fun _ => rfl)
    obtain ⟨pw1, pw2⟩ := pz_wf p1 (by decide)
    have rr := res (.inr (l2, E)) (c3.trans (run_fin (LT_ne H2) c1))
    have D2 : HD d2 (D.1, (D.2.1, some E)) := by
      obtain ⟨a1, a2, a3, a4, a5, a6, a7, a8⟩ := D1
      have ee : ∀ c, c ≠ 1 → c ≠ 20 → c ≠ 21 → d2 c = d1 c := fun c h1 h2 h3 => F2.1 c h1 h2 h3
      have ro : ∀ bb g, (bb = 17 ∨ bb = 20) → ¬ bb = 20 → RD d1 bb g → RD d2 bb g := by
        intro bb g hb1 hb2 hr
        cases g with
        | none =>
          show d2 bb 0 = nI 0
          rw [ee bb (by omega) hb2 (by omega)]
          exact hr
        | some E =>
          have hr' : RC d1 bb E := hr
          show RC d2 bb E
          unfold RC at hr' ⊢
          rw [ee bb (by omega) hb2 (by omega), ee (bb + 1) (by omega) (by omega) (by omega)]
          exact hr'
      unfold HD
      rw [ee 4 (by decide) (by decide) (by decide), ee 5 (by decide) (by decide) (by decide), ee 6 (by decide) (by decide) (by decide), ee 7 (by decide) (by decide) (by decide), ee 8 (by decide) (by decide) (by decide), ee 9 (by decide) (by decide) (by decide), ee 10 (by decide) (by decide) (by decide), ee 11 (by decide) (by decide) (by decide), ee 12 (by decide) (by decide) (by decide), ee 13 (by decide) (by decide) (by decide), ee 14 (by decide) (by decide) (by decide), ee 15 (by decide) (by decide) (by decide), ee 16 (by decide) (by decide) (by decide)]
      exact ⟨a1, a2, a3, a4, a5, a6, ro 17 _ (Or.inl rfl) (by decide) a7, R2⟩
    have ok : RO 5 (some E) := ⟨pw1, by simp only at p3; omega, pw2, p2⟩
    have dg2 : DG (D.1, (D.2.1, some E)) := ⟨dg.1, dg.2.1, ok⟩
    obtain ⟨s9, k9, v9, r9, rfl⟩ := LT_ne H2
    obtain ⟨t91, t92, t93, t94, t95⟩ := LT_f H2
    have q2 : d2 1 3 = d 1 3 := e3.trans (e3_LF F1)
    refine x_br rfl rfl (fun c => absurd c (by decide)) (fun c => ?_)
    repeat refine x_s rfl rfl ?_
    refine x_cv (c_readSign d2 L (b := 59) hn hT (by decide) H2) rfl rfl rfl (by decide) rfl (by decide) rfl (Nat.le_of_ble_eq_true rfl) (by omega) (by decide) (by decide) ?_
    rintro rv _ hq
    rcases hq with ⟨hk, rfl, d10, rfl, F10, H10⟩ | ⟨hk, rfl, rfl⟩
    · refine x_br rfl rfl (fun c => absurd c (by decide)) (fun c => ?_)
      repeat refine x_s rfl rfl ?_
      refine x_iret rfl rfl rfl ⟨d10, rfl, LN_tr N2 (LN_LF F10), Or.inr ⟨rfl, r9, (D.1, (D.2.1, some E)), H10, HD_LF D2 F10, dg2, (e3_LF F10).trans q2, rr.trans ?_⟩⟩
      simp only [sgn]
      rw [if_pos hk]
    · refine x_br rfl rfl (fun c => ?_) (fun c => absurd c (fun z => z rfl))
      repeat refine x_s rfl rfl ?_
      refine x_iret rfl rfl rfl ⟨_, rfl, LN_fl N2, Or.inl ⟨rfl, (1, s9), FT_of (by decide) (by decide) (by omega), rr.trans ?_⟩⟩
      simp only [sgn]
      rw [if_neg hk]
set_option maxRecDepth 100000 in
set_option maxHeartbeats 1600000 in
theorem c_readLine {s k v : Nat} {r : List Tk} {D : Dr} (hn : n ≤ 700) (hT : ∀ j, T j < 256) (H : LT d T n ((s, k, v) :: r)) (D0 : HD d D) (dg : DG D) : Cn mX5_readLine false 52 0 0 [.ref 1] (W0 d L) (qL T n d L (line ((s, k, v) :: r) D)) := by
  obtain ⟨t1, t2, t3, t4, t5⟩ := LT_f H
  refine Cn.intro gX5_readLine rfl (Nat.le_of_ble_eq_true rfl) rfl ?_
  repeat refine x_s rfl rfl ?_
  refine x_cv (c_isK d L (q := 1) (a := 9) (by decide) hn hT H) rfl rfl rfl (by decide) rfl (by decide) rfl (Nat.le_of_ble_eq_true rfl) (by decide) (by decide) (by decide) ?_
  rintro _ _ ⟨rfl, rfl⟩
  by_cases h9 : k = 1 ∧ v = 9
  · rw [show (decide (k = 1) && decide (v = 9)) = true from by rw [← Bool.decide_and]; exact decide_eq_true h9]
    refine x_br rfl rfl (fun c => absurd c (by decide)) (fun c => ?_)
    have el : line ((s, k, v) :: r) D = lnOne s r D := by
      simp only [line]
      rw [if_pos h9]
    rw [el]
    obtain ⟨rfl, rfl⟩ := h9
    repeat refine x_s rfl rfl ?_
    refine x_cv (c_readPerson d L hn hT H D0 dg) rfl rfl rfl (by decide) rfl (by decide) rfl (Nat.le_of_ble_eq_true rfl) (by decide) (by decide) (by decide) ?_
    rintro rv _ hq
    obtain ⟨d1, rfl, N1, hq⟩ := hq
    rcases hq with ⟨rfl, f, h1, h2⟩ | ⟨rfl, l', D', h1, h2, h3, h4, h5⟩
    · exact x_iret rfl rfl rfl ⟨d1, rfl, N1, Or.inl ⟨rfl, f, h1, h2⟩⟩
    · exact x_iret rfl rfl rfl ⟨d1, rfl, N1, Or.inr ⟨rfl, l', D', h1, h2, h3, h4, h5⟩⟩
  rw [show (decide (k = 1) && decide (v = 9)) = false from by rw [← Bool.decide_and]; exact decide_eq_false h9]
  refine x_br rfl rfl (fun c => ?_) (fun c => absurd c (fun z => z rfl))
  repeat refine x_s rfl rfl ?_
  refine x_cv (c_isK d L (q := 2) (a := 10) (by decide) hn hT H) rfl rfl rfl (by decide) rfl (by decide) rfl (Nat.le_of_ble_eq_true rfl) (by decide) (by decide) (by decide) ?_
  rintro _ _ ⟨rfl, rfl⟩
  by_cases h10 : k = 1 ∧ v = 10
  · rw [show (decide (k = 1) && decide (v = 10)) = true from by rw [← Bool.decide_and]; exact decide_eq_true h10]
    refine x_br rfl rfl (fun c => absurd c (by decide)) (fun c => ?_)
    have el : line ((s, k, v) :: r) D = lnNeedle s r D := by
      simp only [line]
      rw [if_neg h9, if_pos h10]
    rw [el]
    obtain ⟨rfl, rfl⟩ := h10
    repeat refine x_s rfl rfl ?_
    refine x_cv (c_readNeedle d L hn hT H D0 dg) rfl rfl rfl (by decide) rfl (by decide) rfl (Nat.le_of_ble_eq_true rfl) (by decide) (by decide) (by decide) ?_
    rintro rv _ hq
    obtain ⟨d1, rfl, N1, hq⟩ := hq
    rcases hq with ⟨rfl, f, h1, h2⟩ | ⟨rfl, l', D', h1, h2, h3, h4, h5⟩
    · exact x_iret rfl rfl rfl ⟨d1, rfl, N1, Or.inl ⟨rfl, f, h1, h2⟩⟩
    · exact x_iret rfl rfl rfl ⟨d1, rfl, N1, Or.inr ⟨rfl, l', D', h1, h2, h3, h4, h5⟩⟩
  rw [show (decide (k = 1) && decide (v = 10)) = false from by rw [← Bool.decide_and]; exact decide_eq_false h10]
  refine x_br rfl rfl (fun c => ?_) (fun c => absurd c (fun z => z rfl))
  repeat refine x_s rfl rfl ?_
  refine x_cv (c_isK d L (q := 3) (a := 11) (by decide) hn hT H) rfl rfl rfl (by decide) rfl (by decide) rfl (Nat.le_of_ble_eq_true rfl) (by decide) (by decide) (by decide) ?_
  rintro _ _ ⟨rfl, rfl⟩
  by_cases h11 : k = 1 ∧ v = 11
  · rw [show (decide (k = 1) && decide (v = 11)) = true from by rw [← Bool.decide_and]; exact decide_eq_true h11]
    refine x_br rfl rfl (fun c => absurd c (by decide)) (fun c => ?_)
    have el : line ((s, k, v) :: r) D = lnSays s r D := by
      simp only [line]
      rw [if_neg h9, if_neg h10, if_pos h11]
    rw [el]
    obtain ⟨rfl, rfl⟩ := h11
    repeat refine x_s rfl rfl ?_
    refine x_cv (c_readSaying d L hn hT H D0 dg) rfl rfl rfl (by decide) rfl (by decide) rfl (Nat.le_of_ble_eq_true rfl) (by decide) (by decide) (by decide) ?_
    rintro rv _ hq
    obtain ⟨d1, rfl, N1, hq⟩ := hq
    rcases hq with ⟨rfl, f, h1, h2⟩ | ⟨rfl, l', D', h1, h2, h3, h4, h5⟩
    · exact x_iret rfl rfl rfl ⟨d1, rfl, N1, Or.inl ⟨rfl, f, h1, h2⟩⟩
    · exact x_iret rfl rfl rfl ⟨d1, rfl, N1, Or.inr ⟨rfl, l', D', h1, h2, h3, h4, h5⟩⟩
  rw [show (decide (k = 1) && decide (v = 11)) = false from by rw [← Bool.decide_and]; exact decide_eq_false h11]
  refine x_br rfl rfl (fun c => ?_) (fun c => absurd c (fun z => z rfl))
  repeat refine x_s rfl rfl ?_
  refine x_cv (c_isK d L (q := 4) (a := 12) (by decide) hn hT H) rfl rfl rfl (by decide) rfl (by decide) rfl (Nat.le_of_ble_eq_true rfl) (by decide) (by decide) (by decide) ?_
  rintro _ _ ⟨rfl, rfl⟩
  by_cases h12 : k = 1 ∧ v = 12
  · rw [show (decide (k = 1) && decide (v = 12)) = true from by rw [← Bool.decide_and]; exact decide_eq_true h12]
    refine x_br rfl rfl (fun c => absurd c (by decide)) (fun c => ?_)
    have el : line ((s, k, v) :: r) D = lnRule 17 s r D := by
      simp only [line]
      rw [if_neg h9, if_neg h10, if_neg h11, if_pos h12]
    rw [el]
    obtain ⟨rfl, rfl⟩ := h12
    repeat refine x_s rfl rfl ?_
    refine x_cv (c_readRule17 d L hn hT H D0 dg) rfl rfl rfl (by decide) rfl (by decide) rfl (Nat.le_of_ble_eq_true rfl) (by decide) (by decide) (by decide) ?_
    rintro rv _ hq
    obtain ⟨d1, rfl, N1, hq⟩ := hq
    rcases hq with ⟨rfl, f, h1, h2⟩ | ⟨rfl, l', D', h1, h2, h3, h4, h5⟩
    · exact x_iret rfl rfl rfl ⟨d1, rfl, N1, Or.inl ⟨rfl, f, h1, h2⟩⟩
    · exact x_iret rfl rfl rfl ⟨d1, rfl, N1, Or.inr ⟨rfl, l', D', h1, h2, h3, h4, h5⟩⟩
  rw [show (decide (k = 1) && decide (v = 12)) = false from by rw [← Bool.decide_and]; exact decide_eq_false h12]
  refine x_br rfl rfl (fun c => ?_) (fun c => absurd c (fun z => z rfl))
  repeat refine x_s rfl rfl ?_
  refine x_cv (c_isK d L (q := 17) (a := 13) (by decide) hn hT H) rfl rfl rfl (by decide) rfl (by decide) rfl (Nat.le_of_ble_eq_true rfl) (by decide) (by decide) (by decide) ?_
  rintro _ _ ⟨rfl, rfl⟩
  by_cases h13 : k = 1 ∧ v = 13
  · rw [show (decide (k = 1) && decide (v = 13)) = true from by rw [← Bool.decide_and]; exact decide_eq_true h13]
    refine x_br rfl rfl (fun c => absurd c (by decide)) (fun c => ?_)
    have el : line ((s, k, v) :: r) D = lnRule 20 s r D := by
      simp only [line]
      rw [if_neg h9, if_neg h10, if_neg h11, if_neg h12, if_pos h13]
    rw [el]
    obtain ⟨rfl, rfl⟩ := h13
    repeat refine x_s rfl rfl ?_
    refine x_cv (c_readRule20 d L hn hT H D0 dg) rfl rfl rfl (by decide) rfl (by decide) rfl (Nat.le_of_ble_eq_true rfl) (by decide) (by decide) (by decide) ?_
    rintro rv _ hq
    obtain ⟨d1, rfl, N1, hq⟩ := hq
    rcases hq with ⟨rfl, f, h1, h2⟩ | ⟨rfl, l', D', h1, h2, h3, h4, h5⟩
    · exact x_iret rfl rfl rfl ⟨d1, rfl, N1, Or.inl ⟨rfl, f, h1, h2⟩⟩
    · exact x_iret rfl rfl rfl ⟨d1, rfl, N1, Or.inr ⟨rfl, l', D', h1, h2, h3, h4, h5⟩⟩
  rw [show (decide (k = 1) && decide (v = 13)) = false from by rw [← Bool.decide_and]; exact decide_eq_false h13]
  refine x_br rfl rfl (fun c => ?_) (fun c => absurd c (fun z => z rfl))
  repeat refine x_s rfl rfl ?_
  refine x_cv (c_refuse d L _) rfl rfl rfl (by decide) rfl (by decide) rfl (Nat.le_of_ble_eq_true rfl) (by decide) (by decide) (by decide) ?_
  rintro _ _ ⟨rfl, rfl⟩
  rw [t1]
  refine x_iret rfl rfl rfl ⟨_, rfl, LN_fl LN_rfl, Or.inl ⟨rfl, (1, s), FT_of (by decide) (by decide) (by omega), ?_⟩⟩
  simp only [line]
  rw [if_neg h9, if_neg h10, if_neg h11, if_neg h12, if_neg h13]
set_option maxRecDepth 100000 in
set_option maxHeartbeats 1600000 in
theorem c_empty : Cn mX2_empty false 1 0 0 [.ref 3] (W0 d L) (fun q h => q = none ∧ h = W0 (up2 (up2 (up2 (up2 (up2 d 4 0 0) 8 0 0) 13 0 0) 17 0 0) 20 0 0) L) := by
  refine Cn.intro gX2_empty rfl (Nat.le_of_ble_eq_true rfl) rfl ?_
  repeat refine x_s rfl rfl ?_
  refine x_put rfl rfl (by decide) rfl ⟨rfl, rfl⟩ (Or.inl rfl) ?_
  repeat refine x_s rfl rfl ?_
  refine x_put rfl rfl (by decide) rfl ⟨rfl, rfl⟩ (Or.inl rfl) ?_
  repeat refine x_s rfl rfl ?_
  refine x_put rfl rfl (by decide) rfl ⟨rfl, rfl⟩ (Or.inl rfl) ?_
  repeat refine x_s rfl rfl ?_
  refine x_put rfl rfl (by decide) rfl ⟨rfl, rfl⟩ (Or.inl rfl) ?_
  repeat refine x_s rfl rfl ?_
  refine x_put rfl rfl (by decide) rfl ⟨rfl, rfl⟩ (Or.inl rfl) ?_
  exact x_vret rfl rfl ⟨rfl, rfl⟩
def LNr (d d' : Nat → Nat → Int32) : Prop := (∀ c, c ≠ 1 → (c < 4 ∨ 22 < c) → d' c = d c) ∧ d' 1 1 = nI 0
set_option maxRecDepth 100000 in
set_option maxHeartbeats 1600000 in
theorem c_read {m : Nat} (hm : m ≤ 700) (hn : n ≤ m) (hT : ∀ j, T j < 256) (H : HT d m T) : Cn mX5_read false 53 0 0 [.ref 1, .int (nI n)] (W0 d L) (fun q h => ∃ d', h = W0 d' L ∧ LNr d d' ∧ ((∃ f : Nat × Nat, q = some (.int (nI f.1)) ∧ d' 1 4 = nI f.2 ∧ 1 ≤ f.1 ∧ f.1 ≤ 5 ∧ f.2 ≤ 700 ∧ lns 702 (TL T n 0) Dz = .inl f) ∨ (q = some (.int 0) ∧ ∃ D, HD d' D ∧ DG D ∧ lns 702 (TL T n 0) Dz = .inr D))) := by
  refine Cn.intro gX5_read rfl (Nat.le_of_ble_eq_true rfl) rfl ?_
  repeat refine x_s rfl rfl ?_
  rw [H.1]
  refine x_min rfl (by decide) (Nat.le_of_ble_eq_true rfl) ?_
  refine x_max rfl (by decide) (Nat.le_of_ble_eq_true rfl) ?_
  have e1 : (if nI m < nI n then nI m else nI n) = nI n := by
    rw [if_neg (Int32.not_lt.mpr (nI_le hn (by omega)))]
  have e2 : (if (0 : Int32) < nI n then nI n else 0) = nI n := by
    split
    · rfl
    · rename_i h
      have h2 := Int32.not_lt.mp h
      rw [ile, nI_tI (by omega)] at h2
      have e : (0 : Int32).toInt = 0 := rfl
      have : n = 0 := by omega
      rw [this]
      rfl
  rw [e1, e2]
  refine x_put rfl rfl (by decide) rfl ⟨rfl, rfl⟩ (Or.inl rfl) ?_
  repeat refine x_s rfl rfl ?_
  refine x_put rfl rfl (by decide) rfl ⟨rfl, rfl⟩ (Or.inl rfl) ?_
  repeat refine x_s rfl rfl ?_
  refine x_put rfl rfl (by decide) rfl ⟨rfl, rfl⟩ (Or.inl rfl) ?_
  repeat refine x_s rfl rfl ?_
  refine x_put rfl rfl (by decide) rfl ⟨rfl, rfl⟩ (Or.inl rfl) ?_
  repeat refine x_s rfl rfl ?_
  refine x_put rfl rfl (by decide) rfl ⟨rfl, rfl⟩ (Or.inl rfl) ?_
  have X0 : HX (up2 (up2 (up2 (up2 (up2 d 1 5 (nI n)) 1 1 0) 1 6 0) 1 3 0) 1 4 (-1)) T n := ⟨rfl, fun j hj => H.2 j (by omega)⟩
  have p0 : up2 (up2 (up2 (up2 (up2 d 1 5 (nI n)) 1 1 0) 1 6 0) 1 3 0) 1 4 (-1) 1 6 = nI 0 := rfl
  have f0 : up2 (up2 (up2 (up2 (up2 d 1 5 (nI n)) 1 1 0) 1 6 0) 1 3 0) 1 4 (-1) 1 3 = 0 := rfl
  have l0 : up2 (up2 (up2 (up2 (up2 d 1 5 (nI n)) 1 1 0) 1 6 0) 1 3 0) 1 4 (-1) 1 1 = nI 0 := rfl
  have c0 : ∀ c, c ≠ 1 → up2 (up2 (up2 (up2 (up2 d 1 5 (nI n)) 1 1 0) 1 6 0) 1 3 0) 1 4 (-1) c = d c := fun c hc => by rw [up2_ne hc, up2_ne hc, up2_ne hc, up2_ne hc, up2_ne hc]
  generalize up2 (up2 (up2 (up2 (up2 d 1 5 (nI n)) 1 1 0) 1 6 0) 1 3 0) 1 4 (-1) = d0 at X0 p0 f0 l0 c0 ⊢
  repeat refine x_s rfl rfl ?_
  refine x_cv (c_empty d0 L) rfl rfl rfl (by decide) rfl (by decide) rfl (Nat.le_of_ble_eq_true rfl) (by decide) (by decide) (by decide) ?_
  rintro _ _ ⟨rfl, rfl⟩
  have X1 : HX (up2 (up2 (up2 (up2 (up2 d0 4 0 0) 8 0 0) 13 0 0) 17 0 0) 20 0 0) T n := ⟨X0.1, fun j hj => X0.2 j hj⟩
  have D1 : HD (up2 (up2 (up2 (up2 (up2 d0 4 0 0) 8 0 0) 13 0 0) 17 0 0) 20 0 0) Dz := ⟨rfl, rfl, rfl, fun p hp => absurd hp (Nat.not_lt_zero _), fun p hp => absurd hp (Nat.not_lt_zero _), fun p hp => absurd hp (Nat.not_lt_zero _), rfl, rfl⟩
  have p1 : up2 (up2 (up2 (up2 (up2 d0 4 0 0) 8 0 0) 13 0 0) 17 0 0) 20 0 0 1 6 = nI 0 := p0
  have f1 : up2 (up2 (up2 (up2 (up2 d0 4 0 0) 8 0 0) 13 0 0) 17 0 0) 20 0 0 1 3 = 0 := f0
  have l1 : up2 (up2 (up2 (up2 (up2 d0 4 0 0) 8 0 0) 13 0 0) 17 0 0) 20 0 0 1 1 = nI 0 := l0
  have c1 : ∀ c, c ≠ 1 → (c < 4 ∨ 22 < c) → up2 (up2 (up2 (up2 (up2 d0 4 0 0) 8 0 0) 13 0 0) 17 0 0) 20 0 0 c = d c := fun c hc h2 => by rw [up2_ne (by omega), up2_ne (by omega), up2_ne (by omega), up2_ne (by omega), up2_ne (by omega), c0 c hc]
  generalize up2 (up2 (up2 (up2 (up2 d0 4 0 0) 8 0 0) 13 0 0) 17 0 0) 20 0 0 = d1 at X1 D1 p1 f1 l1 c1 ⊢
  repeat refine x_s rfl rfl ?_
  refine x_cv (c_adv d1 L (by omega) (Nat.zero_le _) hT X1 p1) rfl rfl rfl (by decide) rfl (by decide) rfl (Nat.le_of_ble_eq_true rfl) (by decide) (by decide) (by decide) ?_
  rintro _ _ ⟨rfl, d2, rfl, F2, x2⟩
  have H2 : LT d2 T n (TL T n 0) := ⟨0, Nat.zero_le _, rfl, x2⟩
  have D2 := HD_LF D1 F2
  have f2 : d2 1 3 = 0 := (e3_LF F2).trans f1
  have n2 : LNr d d2 := ⟨fun c h1 h2 => (F2.1 c h1).trans (c1 c h1 h2), (F2.2 1 (by decide) (by decide) (by decide) (by decide)).trans l1⟩
  have tl0 := TL_len (T := T) (n := n) 0
  generalize hR : lns 702 (TL T n 0) Dz = R
  have bad : ∀ (j : Int32) (d3 : Nat → Nat → Int32) (f : Nat × Nat), LNr d d3 → FT d3 f → R = .inl f → Ex mX5_read false 53 0 0 51 [some (.ref 1), some (.int (nI n)), some (.int 0), some (.int j)] [] (W0 d3 L) (fun q h => ∃ d', h = W0 d' L ∧ LNr d d' ∧ ((∃ f : Nat × Nat, q = some (.int (nI f.1)) ∧ d' 1 4 = nI f.2 ∧ 1 ≤ f.1 ∧ f.1 ≤ 5 ∧ f.2 ≤ 700 ∧ R = .inl f) ∨ (q = some (.int 0) ∧ ∃ D, HD d' D ∧ DG D ∧ R = .inr D))) nX := by
    intro j d3 f n3 hf hr
    have fin : Ex mX5_read false 53 0 0 80 [some (.ref 1), some (.int (nI n)), some (.int 0), some (.int j)] [] (W0 d3 L) (fun q h => ∃ d', h = W0 d' L ∧ LNr d d' ∧ ((∃ f : Nat × Nat, q = some (.int (nI f.1)) ∧ d' 1 4 = nI f.2 ∧ 1 ≤ f.1 ∧ f.1 ≤ 5 ∧ f.2 ≤ 700 ∧ R = .inl f) ∨ (q = some (.int 0) ∧ ∃ D, HD d' D ∧ DG D ∧ R = .inr D))) nX := by
      repeat refine x_s rfl rfl ?_
      rw [hf.1]
      exact x_iret rfl rfl rfl ⟨d3, rfl, n3, Or.inl ⟨f, rfl, hf.2.1, hf.2.2.1, hf.2.2.2.1, hf.2.2.2.2, hr⟩⟩
    repeat refine x_s rfl rfl ?_
    refine x_br rfl rfl (fun q => ?_) (fun q => ?_)
    · exact fin
    · repeat refine x_s rfl rfl ?_
      refine x_br rfl rfl (fun c => ?_) (fun c => absurd c (fun z => z rfl))
      exact fin
  have lp : ∀ j, j ≤ 700 → ∀ (d3 : Nat → Nat → Int32) (l1 : List Tk) (D : Dr) (N : Nat), j + l1.length ≤ 701 → l1.length ≤ N → LNr d d3 → LT d3 T n l1 → HD d3 D → DG D → d3 1 3 = 0 → R = lns (N + 1) l1 D → Ex mX5_read false 53 0 0 51 [some (.ref 1), some (.int (nI n)), some (.int 1), some (.int (nI j))] [] (W0 d3 L) (fun q h => ∃ d', h = W0 d' L ∧ LNr d d' ∧ ((∃ f : Nat × Nat, q = some (.int (nI f.1)) ∧ d' 1 4 = nI f.2 ∧ 1 ≤ f.1 ∧ f.1 ≤ 5 ∧ f.2 ≤ 700 ∧ R = .inl f) ∨ (q = some (.int 0) ∧ ∃ D, HD d' D ∧ DG D ∧ R = .inr D))) nX := by
    have fin : ∀ (j : Int32) (d3 : Nat → Nat → Int32) (D : Dr), LNr d d3 → HD d3 D → DG D → d3 1 3 = 0 → R = .inr D → Ex mX5_read false 53 0 0 80 [some (.ref 1), some (.int (nI n)), some (.int 1), some (.int j)] [] (W0 d3 L) (fun q h => ∃ d', h = W0 d' L ∧ LNr d d' ∧ ((∃ f : Nat × Nat, q = some (.int (nI f.1)) ∧ d' 1 4 = nI f.2 ∧ 1 ≤ f.1 ∧ f.1 ≤ 5 ∧ f.2 ≤ 700 ∧ R = .inl f) ∨ (q = some (.int 0) ∧ ∃ D, HD d' D ∧ DG D ∧ R = .inr D))) nX := by
      intro j d3 D n3 D3 g3 e3 hr
      repeat refine x_s rfl rfl ?_
      rw [e3]
      exact x_iret rfl rfl rfl ⟨d3, rfl, n3, Or.inr ⟨rfl, D, D3, g3, hr⟩⟩
    refine x_down _ ?_ ?_
    · intro d3 l1 D N hj hN n3 H3 D3 g3 e3 hr
      obtain ⟨s, k, v, r, rfl⟩ := LT_ne H3
      have k0 : k = 0 := by
        rcases Nat.decEq k 0 with z | z
        · have := (LT_len H3 z).2
          simp only [List.length_cons] at hj
          omega
        · exact z
      subst k0
      rw [lns_e] at hr
      repeat refine x_s rfl rfl ?_
      refine x_br rfl rfl (fun c => ?_) (fun c => absurd c (fun z => z (by decide)))
      exact fin _ d3 D n3 D3 g3 e3 hr
    · intro j hj ih d3 l1 D N hjl hN n3 H3 D3 g3 e3 hr
      obtain ⟨s, k, v, r, rfl⟩ := LT_ne H3
      obtain ⟨t1, t2, t3, t4, t5⟩ := LT_f H3
      repeat refine x_s rfl rfl ?_
      refine x_br rfl rfl (fun c => absurd c (nI_ge (b := 700) hj (by decide))) (fun c => ?_)
      repeat refine x_s rfl rfl ?_
      refine x_br rfl rfl (fun c => absurd c (by decide)) (fun c => ?_)
      repeat refine x_s rfl rfl ?_
      rw [t2]
      by_cases hk : k = 0
      · subst hk
        rw [lns_e] at hr
        refine x_br rfl rfl (fun c => ?_) (fun c => absurd c (fun z => z rfl))
        exact fin _ d3 D n3 D3 g3 e3 hr
      refine x_br rfl rfl (fun c => absurd c (nI_ne0 (by omega) (by omega))) (fun c => ?_)
      repeat refine x_s rfl rfl ?_
      refine x_cv (c_readLine d3 L (by omega) hT H3 D3 g3) rfl rfl rfl (by decide) rfl (by decide) rfl (Nat.le_of_ble_eq_true rfl) (by decide) (by decide) (by decide) ?_
      rintro rv _ ⟨d4, rfl, N4, hq⟩
      have n4 : LNr d d4 := ⟨fun c h1 h2 => (N4.1 c h1 h2).trans (n3.1 c h1 h2), (N4.2 1 (by decide) (by decide) (by decide)).trans n3.2⟩
      rcases hq with ⟨rfl, f, h1, h2⟩ | ⟨rfl, l', D', h1, h2, h3, h4, h5⟩
      · rw [lns_f hk h2] at hr
        iterate 3 refine x_s rfl rfl ?_
        exact bad _ d4 f n4 h1 hr
      · rw [lns_s hk h5] at hr
        have ll := line_len h5
        simp only [List.length_cons] at hjl hN ll
        iterate 3 refine x_s rfl rfl ?_
        rw [nI_1]
        obtain ⟨N', rfl⟩ : ∃ N', N = N' + 1 := ⟨N - 1, by omega⟩
        exact ih d4 l' D' N' (by omega) (by omega) n4 h1 h2 h3 (h4.trans e3) hr
  iterate 4 refine x_s rfl rfl ?_
  exact lp 0 (Nat.zero_le _) d2 (TL T n 0) Dz 701 (by omega) (by omega) n2 H2 D2 DG_z f2 hR.symm
end
