/-! THE COMPONENT reads an EXPR, level by level -/
abbrev qR (κ φ md w u b : Nat) (T : Nat → Nat) (n : Nat) (d : Nat → Nat → Int32) (L : Nat → Nat → Int64) (l : List Tk) (C : List Int32) : xPost := fun r h => ∃ d', h = W0 d' L ∧ PF b d d' ∧ ((r = some (.int 0) ∧ RJ d' b ∧ ∃ f, FT d' f ∧ SP (vxB b) (nvB b) κ φ md w u l C (.inl f)) ∨ (r = some (.int 1) ∧ d' 1 3 = d 1 3 ∧ ∃ l' E, LT d' T n l' ∧ RC d' b (C ++ E) ∧ SP (vxB b) (nvB b) κ φ md w u l C (.inr (l', E))))
def CT (M : xM) (dp b κ φ md w u : Nat) (T : Nat → Nat) (n : Nat) : Prop := ∀ (d : Nat → Nat → Int32) (L : Nat → Nat → Int64) (l : List Tk) (C : List Int32), LT d T n l → RC d b C → C.length + l.length ≤ 700 → Cn M false dp 0 0 [.ref 1, .ref b, .int (nI w)] (W0 d L) (qR κ φ md w u b T n d L l C)
theorem PF_ad {b : Nat} {d d' : Nat → Nat → Int32} (hb : b = 17 ∨ b = 20) (h : ∀ c, c ≠ b → c ≠ b + 1 → d' c = d c) : PF b d d' := ⟨fun c _ h2 h3 => h c h2 h3, fun k _ _ _ _ _ _ => congrFun (h 1 (by omega) (by omega)) k⟩
theorem e1_ad {b : Nat} {d d' : Nat → Nat → Int32} (hb : b = 17 ∨ b = 20) (h : ∀ c, c ≠ b → c ≠ b + 1 → d' c = d c) : d' 1 = d 1 := h 1 (by omega) (by omega)
theorem LT_ad {b n : Nat} {T : Nat → Nat} {l : List Tk} {d d' : Nat → Nat → Int32} (hb : b = 17 ∨ b = 20) (h : ∀ c, c ≠ b → c ≠ b + 1 → d' c = d c) (H : LT d T n l) : LT d' T n l := LT_c H (h 2 (by omega) (by omega)) (fun k _ => congrFun (e1_ad hb h) k)
theorem FT_ad {b : Nat} {f : Nat × Nat} {d d' : Nat → Nat → Int32} (hb : b = 17 ∨ b = 20) (h : ∀ c, c ≠ b → c ≠ b + 1 → d' c = d c) (H : FT d f) : FT d' f := by
  unfold FT at H ⊢
  rw [e1_ad hb h]
  exact H
theorem FT_of {d : Nat → Nat → Int32} {f s : Nat} (h1 : 1 ≤ f) (h2 : f ≤ 5) (h3 : s ≤ 700) : FT (up2 (up2 d 1 3 (nI f)) 1 4 (nI s)) (f, s) := ⟨rfl, rfl, h1, h2, h3⟩
theorem e3_LF {d d' : Nat → Nat → Int32} (h : LF d d') : d' 1 3 = d 1 3 := h.2 3 (by decide) (by decide) (by decide) (by decide)
theorem lv_ex {k v : Nat} {b : Option Bool} {m : Nat} (hm : (m = 6 ∧ ¬ (k = 42 ∨ k = 47)) ∨ (m = 5 ∧ ¬ (k = 43 ∨ k = 45)) ∨ (m = 2 ∧ ¬ (k = 1 ∧ v = 14)) ∨ (m = 1 ∧ ¬ (k = 1 ∧ v = 15))) (h : lv k v b ≤ m) : lv k v b ≤ m - 1 := by
  unfold lv at h ⊢
  split
  · rename_i z
    rw [if_pos z] at h
    omega
  split
  · rename_i z1 z
    rw [if_neg z1, if_pos z] at h
    omega
  split
  · rename_i z1 z2 z
    rw [if_neg z1, if_neg z2, if_pos z] at h
    omega
  split
  · rename_i z1 z2 z3 z
    rw [if_neg z1, if_neg z2, if_neg z3, if_pos z] at h
    omega
  split
  · rename_i z1 z2 z3 z4 z
    rw [if_neg z1, if_neg z2, if_neg z3, if_neg z4, if_pos z] at h
    omega
  · omega
section
variable {T : Nat → Nat} {n b : Nat}
set_option maxRecDepth 100000 in
set_option maxHeartbeats 1600000 in
theorem c_readProduct (hn : n ≤ 700) (hT : ∀ j, T j < 256) (hb : b = 17 ∨ b = 20) {dp w u : Nat} (hdp : 8 ≤ dp) (hw : w ≤ 6) (hP : CT mX5_readPart dp b 7 6 1 w u T n) : CT mX5_readProduct (dp + 1) b 6 5 1 w (u + 1) T n := by
  intro d L l C H HR hl
  refine Cn.intro gX5_readProduct rfl (Nat.le_of_ble_eq_true rfl) rfl ?_
  repeat refine x_s rfl rfl ?_
  refine x_cv (hP d L l C H HR hl) rfl rfl rfl (by decide) rfl (by decide) rfl (Nat.le_of_ble_eq_true rfl) (by omega) (by decide) (by decide) ?_
  rintro rv _ ⟨d1, rfl, F1, hq⟩
  have out : ∀ (j : Int32) (d2 : Nat → Nat → Int32) (o5 : Option Value), PF b d d2 → RJ d2 b → ∀ f, FT d2 f → SP (vxB b) (nvB b) 6 5 1 w (u + 1) l C (.inl f) → Ex mX5_readProduct false (dp + 1) 0 0 10 [some (.ref 1), some (.ref b), some (.int (nI w)), some (.int 0), some (.int j), o5] [] (W0 d2 L) (qR 6 5 1 w (u + 1) b T n d L l C) nX := by
    intro j d2 o5 F2 J2 f hf hs
    repeat refine x_s rfl rfl ?_
    refine x_br rfl rfl (fun c1 => ?_) (fun c1 => ?_)
    · repeat refine x_s rfl rfl ?_
      exact x_iret rfl rfl rfl ⟨d2, rfl, F2, Or.inl ⟨rfl, J2, f, hf, hs⟩⟩
    · repeat refine x_s rfl rfl ?_
      refine x_br rfl rfl (fun c => ?_) (fun c => absurd c (fun z => z rfl))
      repeat refine x_s rfl rfl ?_
      exact x_iret rfl rfl rfl ⟨d2, rfl, F2, Or.inl ⟨rfl, J2, f, hf, hs⟩⟩
  rcases hq with ⟨rfl, J1, f, hf, hs⟩ | ⟨rfl, e3, l1, E1, H1, R1, S1⟩
  · iterate 3 refine x_s rfl rfl ?_
    exact out 0 d1 _ F1 J1 f hf (SP_f hs (by decide))
  have lp : ∀ j, j ≤ 700 → ∀ (d1 : Nat → Nat → Int32) (l1 : List Tk) (E1 : List Int32) (o5 : Option Value), j + l1.length ≤ 700 → PF b d d1 → d1 1 3 = d 1 3 → LT d1 T n l1 → RC d1 b (C ++ E1) → SP (vxB b) (nvB b) 6 6 1 w (u + 1) l C (.inr (l1, E1)) → Ex mX5_readProduct false (dp + 1) 0 0 10 [some (.ref 1), some (.ref b), some (.int (nI w)), some (.int 1), some (.int (nI j)), o5] [] (W0 d1 L) (qR 6 5 1 w (u + 1) b T n d L l C) nX := by
    refine x_down _ ?_ ?_
    · intro d1 l1 E1 o5 hj _ _ H1 _ _
      obtain ⟨s, k, v, r, rfl⟩ := LT_ne H1
      exact absurd hj (by simp only [List.length_cons]; omega)
    · intro j hj ih d1 l1 E1 o5 hjl F1 e3 H1 R1 S1
      obtain ⟨s, k, v, r, rfl⟩ := LT_ne H1
      obtain ⟨t1, t2, t3, t4, t5⟩ := LT_f H1
      have sl := S1.2.2.1
      simp only [List.length_cons] at sl hjl
      have atE : ¬ (k = 42 ∨ k = 47) → Ex mX5_readProduct false (dp + 1) 0 0 81 [some (.ref 1), some (.ref b), some (.int (nI w)), some (.int 1), some (.int (nI j)), o5] [] (W0 d1 L) (qR 6 5 1 w (u + 1) b T n d L l C) nX := by
        intro hk
        repeat refine x_s rfl rfl ?_
        exact x_iret rfl rfl rfl ⟨d1, rfl, F1, Or.inr ⟨rfl, e3, _, E1, H1, R1, SP_up S1 (Nat.le_refl _) (Nat.le_refl _) (fun q hq => lv_ex (m := 6) (Or.inl ⟨rfl, hk⟩) hq)⟩⟩
      have atO : (k = 42 ∨ k = 47) → Ex mX5_readProduct false (dp + 1) 0 0 40 [some (.ref 1), some (.ref b), some (.int (nI w)), some (.int 1), some (.int (nI j)), o5] [] (W0 d1 L) (qR 6 5 1 w (u + 1) b T n d L l C) nX := by
        intro hk
        have at56 : Ex mX5_readProduct false (dp + 1) 0 0 56 [some (.ref 1), some (.ref b), some (.int (nI w)), some (.int 1), some (.int (nI j)), o5] [.int (if k = 42 then -17 else -18)] (W0 d1 L) (qR 6 5 1 w (u + 1) b T n d L l C) nX := by
          repeat refine x_s rfl rfl ?_
          refine x_cv (c_advance d1 L hn hT H1 (by omega)) rfl rfl rfl (by decide) rfl (by decide) rfl (Nat.le_of_ble_eq_true rfl) (by omega) (by decide) (by decide) ?_
          rintro _ _ ⟨rfl, d2, rfl, F2, H2⟩
          repeat refine x_s rfl rfl ?_
          have R2 := RC_LF hb R1 F2
          refine x_cv (hP d2 L r (C ++ E1) H2 R2 (by simp only [List.length_append]; omega)) rfl rfl rfl (by decide) rfl (by decide) rfl (Nat.le_of_ble_eq_true rfl) (by omega) (by decide) (by decide) ?_
          rintro rv _ ⟨d3, rfl, F3, hq⟩
          have F13 : PF b d d3 := PF_tr F1 (PF_tr (PF_LF F2) F3)
          rcases hq with ⟨rfl, J3, f, hf, hs⟩ | ⟨rfl, e4, l2, E2, H3, R3, S3⟩
          · repeat refine x_s rfl rfl ?_
            refine x_cv (c_raddJ d3 L hb J3 _) rfl rfl rfl (by decide) (SH_b hb) (by decide) rfl (Nat.le_of_ble_eq_true rfl) (by omega) (by decide) (by decide) ?_
            rintro _ _ ⟨rfl, d4, rfl, F4, J4⟩
            iterate 2 refine x_s rfl rfl ?_
            exact out _ d4 _ (PF_tr F13 (PF_ad hb F4)) J4 f (FT_ad hb F4 hf) (SP_binf S1 (st_mul hk) (by split <;> decide) hs)
          · have sl3 := S3.2.2.1
            obtain ⟨s2, k2, v2, r2, rfl⟩ := LT_ne H3
            simp only [List.length_cons] at sl3
            repeat refine x_s rfl rfl ?_
            refine x_cv (c_radd d3 L hb R3 (by simp only [List.length_append]; omega) _) rfl rfl rfl (by decide) (SH_b hb) (by decide) rfl (Nat.le_of_ble_eq_true rfl) (by omega) (by decide) (by decide) ?_
            rintro _ _ ⟨rfl, d4, rfl, F4, R4⟩
            iterate 2 refine x_s rfl rfl ?_
            rw [nI_1]
            refine ih d4 ((s2, k2, v2) :: r2) (E1 ++ (E2 ++ [if k = 42 then -17 else -18])) _ (by simp only [List.length_cons]; omega) (PF_tr F13 (PF_ad hb F4)) ?_ (LT_ad hb F4 H3) ?_ (SP_bin S1 (st_mul hk) (by split <;> decide) (by split <;> decide) (by split <;> decide) (by split <;> decide) (by split <;> decide) (by decide) ⟨_, _, _, _, rfl⟩ S3)
            · rw [e1_ad hb F4, e4, e3_LF F2, e3]
            · have R5 := R4
              simp only [List.append_assoc] at R5
              exact R5
        repeat refine x_s rfl rfl ?_
        rw [t2]
        rcases hk with rfl | rfl
        · refine x_br rfl rfl (fun c => absurd c (fun z => z rfl)) (fun c => ?_)
          iterate 2 refine x_s rfl rfl ?_
          exact at56
        · refine x_br rfl rfl (fun c => ?_) (fun c => absurd c (by decide))
          iterate 1 refine x_s rfl rfl ?_
          exact at56
      repeat refine x_s rfl rfl ?_
      refine x_br rfl rfl (fun c => absurd c (nI_ge (b := 700) hj (by decide))) (fun c => ?_)
      repeat refine x_s rfl rfl ?_
      refine x_br rfl rfl (fun c => absurd c (by decide)) (fun c => ?_)
      repeat refine x_s rfl rfl ?_
      rw [t2]
      by_cases h1 : k = 42
      · refine x_br rfl rfl (fun c => ?_) (fun c => absurd c (fun z => z (congrArg nI h1)))
        exact atO (Or.inl h1)
      · refine x_br rfl rfl (fun c => absurd c (fun z => h1 ((nI_eq (by omega) (by decide)).mp z))) (fun c => ?_)
        repeat refine x_s rfl rfl ?_
        rw [t2]
        by_cases h2 : k = 47
        · refine x_br rfl rfl (fun c => absurd c (fun z => z (congrArg nI h2))) (fun c => ?_)
          exact atO (Or.inr h2)
        · refine x_br rfl rfl (fun c => ?_) (fun c => absurd c (fun z => h2 ((nI_eq (by omega) (by decide)).mp z)))
          exact atE (by omega)
  iterate 3 refine x_s rfl rfl ?_
  refine lp 0 (Nat.zero_le _) d1 l1 E1 _ ?_ F1 e3 H1 R1 (SP_up S1 (by decide) (by omega) (fun q hq => Nat.le_trans hq (by decide)))
  have := S1.2.2.1
  simp only at this
  omega
set_option maxRecDepth 100000 in
set_option maxHeartbeats 1600000 in
theorem c_readSum (hn : n ≤ 700) (hT : ∀ j, T j < 256) (hb : b = 17 ∨ b = 20) {dp w u : Nat} (hdp : 8 ≤ dp) (hw : w ≤ 6) (hP : CT mX5_readProduct dp b 6 5 1 w u T n) : CT mX5_readSum (dp + 1) b 5 4 1 w (u + 1) T n := by
  intro d L l C H HR hl
  refine Cn.intro gX5_readSum rfl (Nat.le_of_ble_eq_true rfl) rfl ?_
  repeat refine x_s rfl rfl ?_
  refine x_cv (hP d L l C H HR hl) rfl rfl rfl (by decide) rfl (by decide) rfl (Nat.le_of_ble_eq_true rfl) (by omega) (by decide) (by decide) ?_
  rintro rv _ ⟨d1, rfl, F1, hq⟩
  have out : ∀ (j : Int32) (d2 : Nat → Nat → Int32) (o5 : Option Value), PF b d d2 → RJ d2 b → ∀ f, FT d2 f → SP (vxB b) (nvB b) 5 4 1 w (u + 1) l C (.inl f) → Ex mX5_readSum false (dp + 1) 0 0 10 [some (.ref 1), some (.ref b), some (.int (nI w)), some (.int 0), some (.int j), o5] [] (W0 d2 L) (qR 5 4 1 w (u + 1) b T n d L l C) nX := by
    intro j d2 o5 F2 J2 f hf hs
    repeat refine x_s rfl rfl ?_
    refine x_br rfl rfl (fun c1 => ?_) (fun c1 => ?_)
    · repeat refine x_s rfl rfl ?_
      exact x_iret rfl rfl rfl ⟨d2, rfl, F2, Or.inl ⟨rfl, J2, f, hf, hs⟩⟩
    · repeat refine x_s rfl rfl ?_
      refine x_br rfl rfl (fun c => ?_) (fun c => absurd c (fun z => z rfl))
      repeat refine x_s rfl rfl ?_
      exact x_iret rfl rfl rfl ⟨d2, rfl, F2, Or.inl ⟨rfl, J2, f, hf, hs⟩⟩
  rcases hq with ⟨rfl, J1, f, hf, hs⟩ | ⟨rfl, e3, l1, E1, H1, R1, S1⟩
  · iterate 3 refine x_s rfl rfl ?_
    exact out 0 d1 _ F1 J1 f hf (SP_f hs (by decide))
  have lp : ∀ j, j ≤ 700 → ∀ (d1 : Nat → Nat → Int32) (l1 : List Tk) (E1 : List Int32) (o5 : Option Value), j + l1.length ≤ 700 → PF b d d1 → d1 1 3 = d 1 3 → LT d1 T n l1 → RC d1 b (C ++ E1) → SP (vxB b) (nvB b) 5 5 1 w (u + 1) l C (.inr (l1, E1)) → Ex mX5_readSum false (dp + 1) 0 0 10 [some (.ref 1), some (.ref b), some (.int (nI w)), some (.int 1), some (.int (nI j)), o5] [] (W0 d1 L) (qR 5 4 1 w (u + 1) b T n d L l C) nX := by
    refine x_down _ ?_ ?_
    · intro d1 l1 E1 o5 hj _ _ H1 _ _
      obtain ⟨s, k, v, r, rfl⟩ := LT_ne H1
      exact absurd hj (by simp only [List.length_cons]; omega)
    · intro j hj ih d1 l1 E1 o5 hjl F1 e3 H1 R1 S1
      obtain ⟨s, k, v, r, rfl⟩ := LT_ne H1
      obtain ⟨t1, t2, t3, t4, t5⟩ := LT_f H1
      have sl := S1.2.2.1
      simp only [List.length_cons] at sl hjl
      have atE : ¬ (k = 43 ∨ k = 45) → Ex mX5_readSum false (dp + 1) 0 0 81 [some (.ref 1), some (.ref b), some (.int (nI w)), some (.int 1), some (.int (nI j)), o5] [] (W0 d1 L) (qR 5 4 1 w (u + 1) b T n d L l C) nX := by
        intro hk
        repeat refine x_s rfl rfl ?_
        exact x_iret rfl rfl rfl ⟨d1, rfl, F1, Or.inr ⟨rfl, e3, _, E1, H1, R1, SP_up S1 (Nat.le_refl _) (Nat.le_refl _) (fun q hq => lv_ex (m := 5) (Or.inr (Or.inl ⟨rfl, hk⟩)) hq)⟩⟩
      have atO : (k = 43 ∨ k = 45) → Ex mX5_readSum false (dp + 1) 0 0 40 [some (.ref 1), some (.ref b), some (.int (nI w)), some (.int 1), some (.int (nI j)), o5] [] (W0 d1 L) (qR 5 4 1 w (u + 1) b T n d L l C) nX := by
        intro hk
        have at56 : Ex mX5_readSum false (dp + 1) 0 0 56 [some (.ref 1), some (.ref b), some (.int (nI w)), some (.int 1), some (.int (nI j)), o5] [.int (if k = 43 then -15 else -16)] (W0 d1 L) (qR 5 4 1 w (u + 1) b T n d L l C) nX := by
          repeat refine x_s rfl rfl ?_
          refine x_cv (c_advance d1 L hn hT H1 (by omega)) rfl rfl rfl (by decide) rfl (by decide) rfl (Nat.le_of_ble_eq_true rfl) (by omega) (by decide) (by decide) ?_
          rintro _ _ ⟨rfl, d2, rfl, F2, H2⟩
          repeat refine x_s rfl rfl ?_
          have R2 := RC_LF hb R1 F2
          refine x_cv (hP d2 L r (C ++ E1) H2 R2 (by simp only [List.length_append]; omega)) rfl rfl rfl (by decide) rfl (by decide) rfl (Nat.le_of_ble_eq_true rfl) (by omega) (by decide) (by decide) ?_
          rintro rv _ ⟨d3, rfl, F3, hq⟩
          have F13 : PF b d d3 := PF_tr F1 (PF_tr (PF_LF F2) F3)
          rcases hq with ⟨rfl, J3, f, hf, hs⟩ | ⟨rfl, e4, l2, E2, H3, R3, S3⟩
          · repeat refine x_s rfl rfl ?_
            refine x_cv (c_raddJ d3 L hb J3 _) rfl rfl rfl (by decide) (SH_b hb) (by decide) rfl (Nat.le_of_ble_eq_true rfl) (by omega) (by decide) (by decide) ?_
            rintro _ _ ⟨rfl, d4, rfl, F4, J4⟩
            iterate 2 refine x_s rfl rfl ?_
            exact out _ d4 _ (PF_tr F13 (PF_ad hb F4)) J4 f (FT_ad hb F4 hf) (SP_binf S1 (st_add hk) (by split <;> decide) hs)
          · have sl3 := S3.2.2.1
            obtain ⟨s2, k2, v2, r2, rfl⟩ := LT_ne H3
            simp only [List.length_cons] at sl3
            repeat refine x_s rfl rfl ?_
            refine x_cv (c_radd d3 L hb R3 (by simp only [List.length_append]; omega) _) rfl rfl rfl (by decide) (SH_b hb) (by decide) rfl (Nat.le_of_ble_eq_true rfl) (by omega) (by decide) (by decide) ?_
            rintro _ _ ⟨rfl, d4, rfl, F4, R4⟩
            iterate 2 refine x_s rfl rfl ?_
            rw [nI_1]
            refine ih d4 ((s2, k2, v2) :: r2) (E1 ++ (E2 ++ [if k = 43 then -15 else -16])) _ (by simp only [List.length_cons]; omega) (PF_tr F13 (PF_ad hb F4)) ?_ (LT_ad hb F4 H3) ?_ (SP_bin S1 (st_add hk) (by split <;> decide) (by split <;> decide) (by split <;> decide) (by split <;> decide) (by split <;> decide) (by decide) ⟨_, _, _, _, rfl⟩ S3)
            · rw [e1_ad hb F4, e4, e3_LF F2, e3]
            · have R5 := R4
              simp only [List.append_assoc] at R5
              exact R5
        repeat refine x_s rfl rfl ?_
        rw [t2]
        rcases hk with rfl | rfl
        · refine x_br rfl rfl (fun c => absurd c (fun z => z rfl)) (fun c => ?_)
          iterate 2 refine x_s rfl rfl ?_
          exact at56
        · refine x_br rfl rfl (fun c => ?_) (fun c => absurd c (by decide))
          iterate 1 refine x_s rfl rfl ?_
          exact at56
      repeat refine x_s rfl rfl ?_
      refine x_br rfl rfl (fun c => absurd c (nI_ge (b := 700) hj (by decide))) (fun c => ?_)
      repeat refine x_s rfl rfl ?_
      refine x_br rfl rfl (fun c => absurd c (by decide)) (fun c => ?_)
      repeat refine x_s rfl rfl ?_
      rw [t2]
      by_cases h1 : k = 43
      · refine x_br rfl rfl (fun c => ?_) (fun c => absurd c (fun z => z (congrArg nI h1)))
        exact atO (Or.inl h1)
      · refine x_br rfl rfl (fun c => absurd c (fun z => h1 ((nI_eq (by omega) (by decide)).mp z))) (fun c => ?_)
        repeat refine x_s rfl rfl ?_
        rw [t2]
        by_cases h2 : k = 45
        · refine x_br rfl rfl (fun c => absurd c (fun z => z (congrArg nI h2))) (fun c => ?_)
          exact atO (Or.inr h2)
        · refine x_br rfl rfl (fun c => ?_) (fun c => absurd c (fun z => h2 ((nI_eq (by omega) (by decide)).mp z)))
          exact atE (by omega)
  iterate 3 refine x_s rfl rfl ?_
  refine lp 0 (Nat.zero_le _) d1 l1 E1 _ ?_ F1 e3 H1 R1 (SP_up S1 (by decide) (by omega) (fun q hq => Nat.le_trans hq (by decide)))
  have := S1.2.2.1
  simp only at this
  omega
set_option maxRecDepth 100000 in
set_option maxHeartbeats 1600000 in
theorem c_readAnd (hn : n ≤ 700) (hT : ∀ j, T j < 256) (hb : b = 17 ∨ b = 20) {dp w u : Nat} (hdp : 8 ≤ dp) (hw : w ≤ 6) (hP : CT mX5_readNot dp b 3 2 2 w u T n) : CT mX5_readAnd (dp + 1) b 2 1 2 w (u + 1) T n := by
  intro d L l C H HR hl
  refine Cn.intro gX5_readAnd rfl (Nat.le_of_ble_eq_true rfl) rfl ?_
  repeat refine x_s rfl rfl ?_
  refine x_cv (hP d L l C H HR hl) rfl rfl rfl (by decide) rfl (by decide) rfl (Nat.le_of_ble_eq_true rfl) (by omega) (by decide) (by decide) ?_
  rintro rv _ ⟨d1, rfl, F1, hq⟩
  have out : ∀ (j : Int32) (d2 : Nat → Nat → Int32), PF b d d2 → RJ d2 b → ∀ f, FT d2 f → SP (vxB b) (nvB b) 2 1 2 w (u + 1) l C (.inl f) → Ex mX5_readAnd false (dp + 1) 0 0 10 [some (.ref 1), some (.ref b), some (.int (nI w)), some (.int 0), some (.int j)] [] (W0 d2 L) (qR 2 1 2 w (u + 1) b T n d L l C) nX := by
    intro j d2 F2 J2 f hf hs
    repeat refine x_s rfl rfl ?_
    refine x_br rfl rfl (fun c1 => ?_) (fun c1 => ?_)
    · repeat refine x_s rfl rfl ?_
      exact x_iret rfl rfl rfl ⟨d2, rfl, F2, Or.inl ⟨rfl, J2, f, hf, hs⟩⟩
    · repeat refine x_s rfl rfl ?_
      refine x_br rfl rfl (fun c => ?_) (fun c => absurd c (fun z => z rfl))
      repeat refine x_s rfl rfl ?_
      exact x_iret rfl rfl rfl ⟨d2, rfl, F2, Or.inl ⟨rfl, J2, f, hf, hs⟩⟩
  rcases hq with ⟨rfl, J1, f, hf, hs⟩ | ⟨rfl, e3, l1, E1, H1, R1, S1⟩
  · iterate 3 refine x_s rfl rfl ?_
    exact out 0 d1 F1 J1 f hf (SP_f hs (by decide))
  have lp : ∀ j, j ≤ 700 → ∀ (d1 : Nat → Nat → Int32) (l1 : List Tk) (E1 : List Int32), j + l1.length ≤ 700 → PF b d d1 → d1 1 3 = d 1 3 → LT d1 T n l1 → RC d1 b (C ++ E1) → SP (vxB b) (nvB b) 2 2 2 w (u + 1) l C (.inr (l1, E1)) → Ex mX5_readAnd false (dp + 1) 0 0 10 [some (.ref 1), some (.ref b), some (.int (nI w)), some (.int 1), some (.int (nI j))] [] (W0 d1 L) (qR 2 1 2 w (u + 1) b T n d L l C) nX := by
    refine x_down _ ?_ ?_
    · intro d1 l1 E1 hj _ _ H1 _ _
      obtain ⟨s, k, v, r, rfl⟩ := LT_ne H1
      exact absurd hj (by simp only [List.length_cons]; omega)
    · intro j hj ih d1 l1 E1 hjl F1 e3 H1 R1 S1
      obtain ⟨s, k, v, r, rfl⟩ := LT_ne H1
      obtain ⟨t1, t2, t3, t4, t5⟩ := LT_f H1
      have sl := S1.2.2.1
      simp only [List.length_cons] at sl hjl
      have atE : ¬ (k = 1 ∧ v = 14) → Ex mX5_readAnd false (dp + 1) 0 0 54 [some (.ref 1), some (.ref b), some (.int (nI w)), some (.int 1), some (.int (nI j))] [] (W0 d1 L) (qR 2 1 2 w (u + 1) b T n d L l C) nX := by
        intro hk
        repeat refine x_s rfl rfl ?_
        exact x_iret rfl rfl rfl ⟨d1, rfl, F1, Or.inr ⟨rfl, e3, _, E1, H1, R1, SP_up S1 (Nat.le_refl _) (Nat.le_refl _) (fun q hq => lv_ex (m := 2) (Or.inr (Or.inr (Or.inl ⟨rfl, hk⟩))) hq)⟩⟩
      repeat refine x_s rfl rfl ?_
      refine x_br rfl rfl (fun c => absurd c (nI_ge (b := 700) hj (by decide))) (fun c => ?_)
      repeat refine x_s rfl rfl ?_
      refine x_br rfl rfl (fun c => absurd c (by decide)) (fun c => ?_)
      repeat refine x_s rfl rfl ?_
      refine x_cv (c_isK d1 L (q := 15) (a := 14) (by decide) hn hT H1) rfl rfl rfl (by decide) rfl (by decide) rfl (Nat.le_of_ble_eq_true rfl) (by omega) (by decide) (by decide) ?_
      rintro _ _ ⟨rfl, rfl⟩
      by_cases hk : k = 1 ∧ v = 14
      rotate_left
      · rw [show (decide (k = 1) && decide (v = 14)) = false from by rw [← Bool.decide_and]; exact decide_eq_false hk]
        refine x_br rfl rfl (fun c => ?_) (fun c => absurd c (fun z => z rfl))
        exact atE hk
      rw [show (decide (k = 1) && decide (v = 14)) = true from by rw [← Bool.decide_and]; exact decide_eq_true hk]
      refine x_br rfl rfl (fun c => absurd c (by decide)) (fun c => ?_)
      repeat refine x_s rfl rfl ?_
      refine x_cv (c_advance d1 L hn hT H1 (by omega)) rfl rfl rfl (by decide) rfl (by decide) rfl (Nat.le_of_ble_eq_true rfl) (by omega) (by decide) (by decide) ?_
      rintro _ _ ⟨rfl, d2, rfl, F2, H2⟩
      repeat refine x_s rfl rfl ?_
      have R2 := RC_LF hb R1 F2
      refine x_cv (hP d2 L r (C ++ E1) H2 R2 (by simp only [List.length_append]; omega)) rfl rfl rfl (by decide) rfl (by decide) rfl (Nat.le_of_ble_eq_true rfl) (by omega) (by decide) (by decide) ?_
      rintro rv _ ⟨d3, rfl, F3, hq⟩
      have F13 : PF b d d3 := PF_tr F1 (PF_tr (PF_LF F2) F3)
      rcases hq with ⟨rfl, J3, f, hf, hs⟩ | ⟨rfl, e4, l2, E2, H3, R3, S3⟩
      · repeat refine x_s rfl rfl ?_
        refine x_cv (c_raddJ d3 L hb J3 _) rfl rfl rfl (by decide) (SH_b hb) (by decide) rfl (Nat.le_of_ble_eq_true rfl) (by omega) (by decide) (by decide) ?_
        rintro _ _ ⟨rfl, d4, rfl, F4, J4⟩
        iterate 2 refine x_s rfl rfl ?_
        exact out _ d4 (PF_tr F13 (PF_ad hb F4)) J4 f (FT_ad hb F4 hf) (SP_binf S1 (st_and hk) (by decide) hs)
      · have sl3 := S3.2.2.1
        obtain ⟨s2, k2, v2, r2, rfl⟩ := LT_ne H3
        simp only [List.length_cons] at sl3
        repeat refine x_s rfl rfl ?_
        refine x_cv (c_radd d3 L hb R3 (by simp only [List.length_append]; omega) _) rfl rfl rfl (by decide) (SH_b hb) (by decide) rfl (Nat.le_of_ble_eq_true rfl) (by omega) (by decide) (by decide) ?_
        rintro _ _ ⟨rfl, d4, rfl, F4, R4⟩
        iterate 2 refine x_s rfl rfl ?_
        rw [nI_1]
        refine ih d4 ((s2, k2, v2) :: r2) (E1 ++ (E2 ++ [-12])) (by simp only [List.length_cons]; omega) (PF_tr F13 (PF_ad hb F4)) ?_ (LT_ad hb F4 H3) ?_ (SP_bin S1 (st_and hk) (by decide) (by decide) (by decide) (by decide) (by decide) (by decide) ⟨_, _, _, _, rfl⟩ S3)
        · rw [e1_ad hb F4, e4, e3_LF F2, e3]
        · have R5 := R4
          simp only [List.append_assoc] at R5
          exact R5
  iterate 3 refine x_s rfl rfl ?_
  refine lp 0 (Nat.zero_le _) d1 l1 E1 ?_ F1 e3 H1 R1 (SP_up S1 (by decide) (by omega) (fun q hq => Nat.le_trans hq (by decide)))
  have := S1.2.2.1
  simp only at this
  omega
set_option maxRecDepth 100000 in
set_option maxHeartbeats 1600000 in
theorem c_readExpr (hn : n ≤ 700) (hT : ∀ j, T j < 256) (hb : b = 17 ∨ b = 20) {dp w u : Nat} (hdp : 8 ≤ dp) (hw : w < 6) (hP : CT mX5_readAnd dp b 2 1 2 w u T n) : CT mX5_readExpr (dp + 1) b 1 0 2 w (u + 1) T n := by
  intro d L l C H HR hl
  refine Cn.intro gX5_readExpr rfl (Nat.le_of_ble_eq_true rfl) rfl ?_
  repeat refine x_s rfl rfl ?_
  refine x_br rfl rfl (fun c => ?_) (fun c => absurd c (fun z => z (nI_lt (b := 6) hw (by decide))))
  repeat refine x_s rfl rfl ?_
  refine x_cv (hP d L l C H HR hl) rfl rfl rfl (by decide) rfl (by decide) rfl (Nat.le_of_ble_eq_true rfl) (by omega) (by decide) (by decide) ?_
  rintro rv _ ⟨d1, rfl, F1, hq⟩
  have out : ∀ (j : Int32) (d2 : Nat → Nat → Int32), PF b d d2 → RJ d2 b → ∀ f, FT d2 f → SP (vxB b) (nvB b) 1 0 2 w (u + 1) l C (.inl f) → Ex mX5_readExpr false (dp + 1) 0 0 51 [some (.ref 1), some (.ref b), some (.int (nI w)), some (.int 0), some (.int j)] [] (W0 d2 L) (qR 1 0 2 w (u + 1) b T n d L l C) nX := by
    intro j d2 F2 J2 f hf hs
    repeat refine x_s rfl rfl ?_
    refine x_br rfl rfl (fun c1 => ?_) (fun c1 => ?_)
    · repeat refine x_s rfl rfl ?_
      exact x_iret rfl rfl rfl ⟨d2, rfl, F2, Or.inl ⟨rfl, J2, f, hf, hs⟩⟩
    · repeat refine x_s rfl rfl ?_
      refine x_br rfl rfl (fun c => ?_) (fun c => absurd c (fun z => z rfl))
      repeat refine x_s rfl rfl ?_
      exact x_iret rfl rfl rfl ⟨d2, rfl, F2, Or.inl ⟨rfl, J2, f, hf, hs⟩⟩
  rcases hq with ⟨rfl, J1, f, hf, hs⟩ | ⟨rfl, e3, l1, E1, H1, R1, S1⟩
  · iterate 3 refine x_s rfl rfl ?_
    exact out 0 d1 F1 J1 f hf (SP_f hs (by decide))
  have lp : ∀ j, j ≤ 700 → ∀ (d1 : Nat → Nat → Int32) (l1 : List Tk) (E1 : List Int32), j + l1.length ≤ 700 → PF b d d1 → d1 1 3 = d 1 3 → LT d1 T n l1 → RC d1 b (C ++ E1) → SP (vxB b) (nvB b) 1 1 2 w (u + 1) l C (.inr (l1, E1)) → Ex mX5_readExpr false (dp + 1) 0 0 51 [some (.ref 1), some (.ref b), some (.int (nI w)), some (.int 1), some (.int (nI j))] [] (W0 d1 L) (qR 1 0 2 w (u + 1) b T n d L l C) nX := by
    refine x_down _ ?_ ?_
    · intro d1 l1 E1 hj _ _ H1 _ _
      obtain ⟨s, k, v, r, rfl⟩ := LT_ne H1
      exact absurd hj (by simp only [List.length_cons]; omega)
    · intro j hj ih d1 l1 E1 hjl F1 e3 H1 R1 S1
      obtain ⟨s, k, v, r, rfl⟩ := LT_ne H1
      obtain ⟨t1, t2, t3, t4, t5⟩ := LT_f H1
      have sl := S1.2.2.1
      simp only [List.length_cons] at sl hjl
      have atE : ¬ (k = 1 ∧ v = 15) → Ex mX5_readExpr false (dp + 1) 0 0 95 [some (.ref 1), some (.ref b), some (.int (nI w)), some (.int 1), some (.int (nI j))] [] (W0 d1 L) (qR 1 0 2 w (u + 1) b T n d L l C) nX := by
        intro hk
        repeat refine x_s rfl rfl ?_
        exact x_iret rfl rfl rfl ⟨d1, rfl, F1, Or.inr ⟨rfl, e3, _, E1, H1, R1, SP_up S1 (Nat.le_refl _) (Nat.le_refl _) (fun q hq => lv_ex (m := 1) (Or.inr (Or.inr (Or.inr ⟨rfl, hk⟩))) hq)⟩⟩
      repeat refine x_s rfl rfl ?_
      refine x_br rfl rfl (fun c => absurd c (nI_ge (b := 700) hj (by decide))) (fun c => ?_)
      repeat refine x_s rfl rfl ?_
      refine x_br rfl rfl (fun c => absurd c (by decide)) (fun c => ?_)
      repeat refine x_s rfl rfl ?_
      refine x_cv (c_isK d1 L (q := 16) (a := 15) (by decide) hn hT H1) rfl rfl rfl (by decide) rfl (by decide) rfl (Nat.le_of_ble_eq_true rfl) (by omega) (by decide) (by decide) ?_
      rintro _ _ ⟨rfl, rfl⟩
      by_cases hk : k = 1 ∧ v = 15
      rotate_left
      · rw [show (decide (k = 1) && decide (v = 15)) = false from by rw [← Bool.decide_and]; exact decide_eq_false hk]
        refine x_br rfl rfl (fun c => ?_) (fun c => absurd c (fun z => z rfl))
        exact atE hk
      rw [show (decide (k = 1) && decide (v = 15)) = true from by rw [← Bool.decide_and]; exact decide_eq_true hk]
      refine x_br rfl rfl (fun c => absurd c (by decide)) (fun c => ?_)
      repeat refine x_s rfl rfl ?_
      refine x_cv (c_advance d1 L hn hT H1 (by omega)) rfl rfl rfl (by decide) rfl (by decide) rfl (Nat.le_of_ble_eq_true rfl) (by omega) (by decide) (by decide) ?_
      rintro _ _ ⟨rfl, d2, rfl, F2, H2⟩
      repeat refine x_s rfl rfl ?_
      have R2 := RC_LF hb R1 F2
      refine x_cv (hP d2 L r (C ++ E1) H2 R2 (by simp only [List.length_append]; omega)) rfl rfl rfl (by decide) rfl (by decide) rfl (Nat.le_of_ble_eq_true rfl) (by omega) (by decide) (by decide) ?_
      rintro rv _ ⟨d3, rfl, F3, hq⟩
      have F13 : PF b d d3 := PF_tr F1 (PF_tr (PF_LF F2) F3)
      rcases hq with ⟨rfl, J3, f, hf, hs⟩ | ⟨rfl, e4, l2, E2, H3, R3, S3⟩
      · repeat refine x_s rfl rfl ?_
        refine x_cv (c_raddJ d3 L hb J3 _) rfl rfl rfl (by decide) (SH_b hb) (by decide) rfl (Nat.le_of_ble_eq_true rfl) (by omega) (by decide) (by decide) ?_
        rintro _ _ ⟨rfl, d4, rfl, F4, J4⟩
        iterate 2 refine x_s rfl rfl ?_
        exact out _ d4 (PF_tr F13 (PF_ad hb F4)) J4 f (FT_ad hb F4 hf) (SP_binf S1 (st_or hk) (by decide) hs)
      · have sl3 := S3.2.2.1
        obtain ⟨s2, k2, v2, r2, rfl⟩ := LT_ne H3
        simp only [List.length_cons] at sl3
        repeat refine x_s rfl rfl ?_
        refine x_cv (c_radd d3 L hb R3 (by simp only [List.length_append]; omega) _) rfl rfl rfl (by decide) (SH_b hb) (by decide) rfl (Nat.le_of_ble_eq_true rfl) (by omega) (by decide) (by decide) ?_
        rintro _ _ ⟨rfl, d4, rfl, F4, R4⟩
        iterate 2 refine x_s rfl rfl ?_
        rw [nI_1]
        refine ih d4 ((s2, k2, v2) :: r2) (E1 ++ (E2 ++ [-11])) (by simp only [List.length_cons]; omega) (PF_tr F13 (PF_ad hb F4)) ?_ (LT_ad hb F4 H3) ?_ (SP_bin S1 (st_or hk) (by decide) (by decide) (by decide) (by decide) (by decide) (by decide) ⟨_, _, _, _, rfl⟩ S3)
        · rw [e1_ad hb F4, e4, e3_LF F2, e3]
        · have R5 := R4
          simp only [List.append_assoc] at R5
          exact R5
  iterate 3 refine x_s rfl rfl ?_
  refine lp 0 (Nat.zero_le _) d1 l1 E1 ?_ F1 e3 H1 R1 (SP_up S1 (by decide) (by omega) (fun q hq => Nat.le_trans hq (by decide)))
  have := S1.2.2.1
  simp only at this
  omega
set_option maxRecDepth 100000 in
set_option maxHeartbeats 1600000 in
theorem c_readTest (hn : n ≤ 700) (hT : ∀ j, T j < 256) (hb : b = 17 ∨ b = 20) {dp w u : Nat} (hdp : 8 ≤ dp) (hP : CT mX5_readSum dp b 5 4 1 w u T n) : CT mX5_readTest (dp + 1) b 4 2 1 w (u + 1) T n := by
  intro d L l C H HR hl
  refine Cn.intro gX5_readTest rfl (Nat.le_of_ble_eq_true rfl) rfl ?_
  repeat refine x_s rfl rfl ?_
  refine x_cv (hP d L l C H HR hl) rfl rfl rfl (by decide) rfl (by decide) rfl (Nat.le_of_ble_eq_true rfl) (by omega) (by decide) (by decide) ?_
  rintro rv _ ⟨d1, rfl, F1, hq⟩
  rcases hq with ⟨rfl, J1, f, hf, hs⟩ | ⟨rfl, e3, l1, E1, H1, R1, S1⟩
  · refine x_br rfl rfl (fun c => absurd c (fun z => z rfl)) (fun c => ?_)
    repeat refine x_s rfl rfl ?_
    exact x_iret rfl rfl rfl ⟨d1, rfl, F1, Or.inl ⟨rfl, J1, f, hf, SP_f hs (by decide)⟩⟩
  refine x_br rfl rfl (fun c => ?_) (fun c => absurd c (fun z => absurd z (by decide)))
  obtain ⟨s, k, v, r, rfl⟩ := LT_ne H1
  obtain ⟨t1, t2, t3, t4, t5⟩ := LT_f H1
  have sl := S1.2.2.1
  simp only [List.length_cons] at sl
  have at31 : (k = 60 ∨ k = 61) → Ex mX5_readTest false (dp + 1) 0 0 31 [some (.ref 1), some (.ref b), some (.int (nI w)), none, none] [] (W0 d1 L) (qR 4 2 1 w (u + 1) b T n d L l C) nX := by
    intro hk
    have at47 : Ex mX5_readTest false (dp + 1) 0 0 47 [some (.ref 1), some (.ref b), some (.int (nI w)), none, none] [.int (if k = 60 then -13 else -14)] (W0 d1 L) (qR 4 2 1 w (u + 1) b T n d L l C) nX := by
      repeat refine x_s rfl rfl ?_
      refine x_cv (c_advance d1 L hn hT H1 (by omega)) rfl rfl rfl (by decide) rfl (by decide) rfl (Nat.le_of_ble_eq_true rfl) (by omega) (by decide) (by decide) ?_
      rintro _ _ ⟨rfl, d2, rfl, F2, H2⟩
      repeat refine x_s rfl rfl ?_
      have R2 := RC_LF hb R1 F2
      refine x_cv (hP d2 L r (C ++ E1) H2 R2 (by simp only [List.length_append]; omega)) rfl rfl rfl (by decide) rfl (by decide) rfl (Nat.le_of_ble_eq_true rfl) (by omega) (by decide) (by decide) ?_
      rintro rv _ ⟨d3, rfl, F3, hq⟩
      have F13 : PF b d d3 := PF_tr F1 (PF_tr (PF_LF F2) F3)
      rcases hq with ⟨rfl, J3, f, hf, hs⟩ | ⟨rfl, e4, l2, E2, H3, R3, S3⟩
      · repeat refine x_s rfl rfl ?_
        refine x_cv (c_raddJ d3 L hb J3 _) rfl rfl rfl (by decide) (SH_b hb) (by decide) rfl (Nat.le_of_ble_eq_true rfl) (by omega) (by decide) (by decide) ?_
        rintro _ _ ⟨rfl, d4, rfl, F4, J4⟩
        repeat refine x_s rfl rfl ?_
        exact x_iret rfl rfl rfl ⟨d4, rfl, PF_tr F13 (PF_ad hb F4), Or.inl ⟨rfl, J4, f, FT_ad hb F4 hf, SP_t1f hk S1 hs⟩⟩
      · have sl3 := S3.2.2.1
        obtain ⟨s2, k2, v2, r2, rfl⟩ := LT_ne H3
        simp only [List.length_cons] at sl3
        repeat refine x_s rfl rfl ?_
        refine x_cv (c_radd d3 L hb R3 (by simp only [List.length_append]; omega) _) rfl rfl rfl (by decide) (SH_b hb) (by decide) rfl (Nat.le_of_ble_eq_true rfl) (by omega) (by decide) (by decide) ?_
        rintro _ _ ⟨rfl, d4, rfl, F4, R4⟩
        repeat refine x_s rfl rfl ?_
        refine x_iret rfl rfl rfl ⟨d4, rfl, PF_tr F13 (PF_ad hb F4), Or.inr ⟨rfl, ?_, (s2, k2, v2) :: r2, E1 ++ (E2 ++ [if k = 60 then -13 else -14]), LT_ad hb F4 H3, ?_, SP_t1 hk S1 ⟨_, _, _, _, rfl⟩ S3⟩⟩
        · rw [e1_ad hb F4, e4, e3_LF F2, e3]
        · have R5 := R4
          simp only [List.append_assoc] at R5
          exact R5
    repeat refine x_s rfl rfl ?_
    rw [t2]
    rcases hk with rfl | rfl
    · refine x_br rfl rfl (fun c => absurd c (fun z => z rfl)) (fun c => ?_)
      iterate 2 refine x_s rfl rfl ?_
      exact at47
    · refine x_br rfl rfl (fun c => ?_) (fun c => absurd c (by decide))
      iterate 1 refine x_s rfl rfl ?_
      exact at47
  repeat refine x_s rfl rfl ?_
  rw [t2]
  by_cases h1 : k = 60
  · refine x_br rfl rfl (fun c => ?_) (fun c => absurd c (fun z => z (congrArg nI h1)))
    exact at31 (Or.inl h1)
  refine x_br rfl rfl (fun c => absurd c (fun z => h1 ((nI_eq (by omega) (by decide)).mp z))) (fun c => ?_)
  repeat refine x_s rfl rfl ?_
  rw [t2]
  by_cases h2 : k = 61
  · refine x_br rfl rfl (fun c => ?_) (fun c => absurd c (fun z => z (congrArg nI h2)))
    exact at31 (Or.inr h2)
  refine x_br rfl rfl (fun c => absurd c (fun z => h2 ((nI_eq (by omega) (by decide)).mp z))) (fun c => ?_)
  repeat refine x_s rfl rfl ?_
  exact x_iret rfl rfl rfl ⟨d1, rfl, F1, Or.inr ⟨rfl, e3, _, E1, H1, R1, SP_t0 rfl (by omega) S1⟩⟩
set_option maxRecDepth 100000 in
set_option maxHeartbeats 1600000 in
theorem c_readNot (hn : n ≤ 700) (hT : ∀ j, T j < 256) (hb : b = 17 ∨ b = 20) {dp w u : Nat} (hdp : 8 ≤ dp) (hP : CT mX5_readTest dp b 4 2 1 w u T n) : CT mX5_readNot (dp + 1) b 3 2 2 w u T n := by
  intro d L l C H HR hl
  have lp : ∀ j, j ≤ 6 → ∀ (d1 : Nat → Nat → Int32) (l1 : List Tk), PF b d d1 → d1 1 3 = d 1 3 → LT d1 T n l1 → RC d1 b C → NT (vxB b) l l1 C j → Ex mX5_readNot false (dp + 1) 0 0 5 [some (.ref 1), some (.ref b), some (.int (nI w)), some (.int (nI j)), some (.int (nI j)), none] [] (W0 d1 L) (qR 3 2 2 w u b T n d L l C) nX := by
    have at47 : ∀ j, j ≤ 6 → ∀ (d1 : Nat → Nat → Int32) (s k v : Nat) (r : List Tk), PF b d d1 → d1 1 3 = d 1 3 → LT d1 T n ((s, k, v) :: r) → RC d1 b C → NT (vxB b) l ((s, k, v) :: r) C j → ¬ (k = 1 ∧ v = 16) → Ex mX5_readNot false (dp + 1) 0 0 47 [some (.ref 1), some (.ref b), some (.int (nI w)), some (.int (nI j)), some (.int (nI j)), none] [] (W0 d1 L) (qR 3 2 2 w u b T n d L l C) nX := by
      intro j hj d1 s k v r F1 e3 H1 R1 N1 hk
      have nl := N1.1
      simp only [List.length_cons] at nl
      repeat refine x_s rfl rfl ?_
      refine x_cv (hP d1 L ((s, k, v) :: r) C H1 R1 (by simp only [List.length_cons]; omega)) rfl rfl rfl (by decide) rfl (by decide) rfl (Nat.le_of_ble_eq_true rfl) (by omega) (by decide) (by decide) ?_
      rintro rv _ ⟨d2, rfl, F2, hq⟩
      rcases hq with ⟨rfl, J2, f, hf, hs⟩ | ⟨rfl, e4, l2, E2, H2, R2, S2⟩
      · have lq : ∀ i, i ≤ j → ∀ d3 : Nat → Nat → Int32, PF b d d3 → RJ d3 b → FT d3 f → Ex mX5_readNot false (dp + 1) 0 0 58 [some (.ref 1), some (.ref b), some (.int (nI w)), some (.int (nI j)), some (.int 0), some (.int (nI i))] [] (W0 d3 L) (qR 3 2 2 w u b T n d L l C) nX := by
          refine x_down _ ?_ ?_
          · intro d3 F3 J3 f3
            repeat refine x_s rfl rfl ?_
            refine x_br rfl rfl (fun c => ?_) (fun c => absurd c (fun z => z (Int32.le_refl _)))
            repeat refine x_s rfl rfl ?_
            exact x_iret rfl rfl rfl ⟨d3, rfl, F3, Or.inl ⟨rfl, J3, f, f3, NT_tf hk N1 hs⟩⟩
          · intro i hi ih d3 F3 J3 f3
            repeat refine x_s rfl rfl ?_
            refine x_br rfl rfl (fun c => absurd c (nI_ge hi (by omega))) (fun c => ?_)
            repeat refine x_s rfl rfl ?_
            refine x_cv (c_raddJ d3 L hb J3 _) rfl rfl rfl (by decide) (SH_b hb) (by decide) rfl (Nat.le_of_ble_eq_true rfl) (by omega) (by decide) (by decide) ?_
            rintro _ _ ⟨rfl, d4, rfl, F4, J4⟩
            iterate 2 refine x_s rfl rfl ?_
            rw [nI_1]
            exact ih d4 (PF_tr F3 (PF_ad hb F4)) J4 (FT_ad hb F4 f3)
        iterate 3 refine x_s rfl rfl ?_
        exact lq 0 (Nat.zero_le _) d2 (PF_tr F1 F2) J2 hf
      · have sl2 := S2.2.2.1
        obtain ⟨s2, k2, v2, r2, rfl⟩ := LT_ne H2
        simp only [List.length_cons] at sl2
        have lq : ∀ i, i ≤ j → ∀ d3 : Nat → Nat → Int32, PF b d d3 → d3 1 3 = d 1 3 → LT d3 T n ((s2, k2, v2) :: r2) → RC d3 b (C ++ (E2 ++ List.replicate i (-19))) → Ex mX5_readNot false (dp + 1) 0 0 58 [some (.ref 1), some (.ref b), some (.int (nI w)), some (.int (nI j)), some (.int 1), some (.int (nI i))] [] (W0 d3 L) (qR 3 2 2 w u b T n d L l C) nX := by
          refine x_down _ ?_ ?_
          · intro d3 F3 e5 H3 R3
            repeat refine x_s rfl rfl ?_
            refine x_br rfl rfl (fun c => ?_) (fun c => absurd c (fun z => z (Int32.le_refl _)))
            repeat refine x_s rfl rfl ?_
            exact x_iret rfl rfl rfl ⟨d3, rfl, F3, Or.inr ⟨rfl, e5, _, _, H3, R3, NT_t hk N1 ⟨_, _, _, _, rfl⟩ S2⟩⟩
          · intro i hi ih d3 F3 e5 H3 R3
            repeat refine x_s rfl rfl ?_
            refine x_br rfl rfl (fun c => absurd c (nI_ge hi (by omega))) (fun c => ?_)
            repeat refine x_s rfl rfl ?_
            refine x_cv (c_radd d3 L hb R3 (by simp only [List.length_append, List.length_replicate]; omega) _) rfl rfl rfl (by decide) (SH_b hb) (by decide) rfl (Nat.le_of_ble_eq_true rfl) (by omega) (by decide) (by decide) ?_
            rintro _ _ ⟨rfl, d4, rfl, F4, R4⟩
            iterate 2 refine x_s rfl rfl ?_
            rw [nI_1]
            refine ih d4 (PF_tr F3 (PF_ad hb F4)) ((congrFun (e1_ad hb F4) 3).trans e5) (LT_ad hb F4 H3) ?_
            have R5 := R4
            simp only [List.append_assoc] at R5
            rw [List.replicate_succ']
            exact R5
        iterate 3 refine x_s rfl rfl ?_
        refine lq 0 (Nat.zero_le _) d2 (PF_tr F1 F2) (e4.trans e3) H2 ?_
        rw [List.replicate_zero, List.append_nil]
        exact R2
    refine x_down _ ?_ ?_
    · intro d1 l1 F1 e3 H1 R1 N1
      obtain ⟨s, k, v, r, rfl⟩ := LT_ne H1
      obtain ⟨t1, t2, t3, t4, t5⟩ := LT_f H1
      repeat refine x_s rfl rfl ?_
      refine x_br rfl rfl (fun c => absurd c (by decide)) (fun c => ?_)
      repeat refine x_s rfl rfl ?_
      refine x_cv (c_isK d1 L (q := 5) (a := 16) (by decide) hn hT H1) rfl rfl rfl (by decide) rfl (by decide) rfl (Nat.le_of_ble_eq_true rfl) (by omega) (by decide) (by decide) ?_
      rintro _ _ ⟨rfl, rfl⟩
      by_cases hk : k = 1 ∧ v = 16
      rotate_left
      · rw [show (decide (k = 1) && decide (v = 16)) = false from by rw [← Bool.decide_and]; exact decide_eq_false hk]
        refine x_br rfl rfl (fun c => ?_) (fun c => absurd c (fun z => z rfl))
        exact at47 6 (by decide) d1 s k v r F1 e3 H1 R1 N1 hk
      rw [show (decide (k = 1) && decide (v = 16)) = true from by rw [← Bool.decide_and]; exact decide_eq_true hk]
      refine x_br rfl rfl (fun c => absurd c (by decide)) (fun c => ?_)
      repeat refine x_s rfl rfl ?_
      refine x_br rfl rfl (fun c => absurd c (by decide)) (fun c => ?_)
      repeat refine x_s rfl rfl ?_
      refine x_cv (c_refuse d1 L _) rfl rfl rfl (by decide) rfl (by decide) rfl (Nat.le_of_ble_eq_true rfl) (by omega) (by decide) (by decide) ?_
      rintro _ _ ⟨rfl, rfl⟩
      rw [t1]
      obtain ⟨rfl, rfl⟩ := hk
      refine x_iret rfl rfl rfl ⟨_, rfl, PF_fl F1, Or.inl ⟨rfl, ?_, (2, s), FT_of (by decide) (by decide) (by omega), NT_f N1⟩⟩
      obtain ⟨m, m1, m2⟩ := RJ_RC R1 (by omega)
      refine ⟨m, m1, ?_⟩
      rw [up2_ne (by omega), up2_ne (by omega)]
      exact m2
    · intro j hj ih d1 l1 F1 e3 H1 R1 N1
      obtain ⟨s, k, v, r, rfl⟩ := LT_ne H1
      obtain ⟨t1, t2, t3, t4, t5⟩ := LT_f H1
      repeat refine x_s rfl rfl ?_
      refine x_br rfl rfl (fun c => absurd c (nI_ge (b := 700) (by omega) (by decide))) (fun c => ?_)
      repeat refine x_s rfl rfl ?_
      refine x_cv (c_isK d1 L (q := 5) (a := 16) (by decide) hn hT H1) rfl rfl rfl (by decide) rfl (by decide) rfl (Nat.le_of_ble_eq_true rfl) (by omega) (by decide) (by decide) ?_
      rintro _ _ ⟨rfl, rfl⟩
      by_cases hk : k = 1 ∧ v = 16
      rotate_left
      · rw [show (decide (k = 1) && decide (v = 16)) = false from by rw [← Bool.decide_and]; exact decide_eq_false hk]
        refine x_br rfl rfl (fun c => ?_) (fun c => absurd c (fun z => z rfl))
        exact at47 j (by omega) d1 s k v r F1 e3 H1 R1 N1 hk
      rw [show (decide (k = 1) && decide (v = 16)) = true from by rw [← Bool.decide_and]; exact decide_eq_true hk]
      refine x_br rfl rfl (fun c => absurd c (by decide)) (fun c => ?_)
      repeat refine x_s rfl rfl ?_
      refine x_br rfl rfl (fun c => ?_) (fun c => absurd c (fun z => z (nI_lt (b := 6) hj (by decide))))
      repeat refine x_s rfl rfl ?_
      rw [nI_1]
      obtain ⟨rfl, rfl⟩ := hk
      refine x_cv (c_advance d1 L hn hT H1 (by decide)) rfl rfl rfl (by decide) rfl (by decide) rfl (Nat.le_of_ble_eq_true rfl) (by omega) (by decide) (by decide) ?_
      rintro _ _ ⟨rfl, d2, rfl, F2, H2⟩
      iterate 2 refine x_s rfl rfl ?_
      rw [nI_1]
      exact ih d2 r (PF_tr F1 (PF_LF F2)) ((e3_LF F2).trans e3) H2 (RC_LF hb R1 F2) (NT_s hj N1)
  refine Cn.intro gX5_readNot rfl (Nat.le_of_ble_eq_true rfl) rfl ?_
  iterate 4 refine x_s rfl rfl ?_
  exact lp 0 (Nat.zero_le _) d l PF_rfl rfl H HR NT_0
set_option maxRecDepth 100000 in
set_option maxHeartbeats 1600000 in
theorem c_deep (hn : n ≤ 700) {dp : Nat} (hdp : 2 ≤ dp) (d : Nat → Nat → Int32) (L : Nat → Nat → Int64) {l : List Tk} (H : LT d T n l) : Cn mX5_readExpr false dp 0 0 [.ref 1, .ref b, .int (nI 6)] (W0 d L) (fun r h => r = some (.int 0) ∧ h = W0 (up2 (up2 d 1 3 (nI (fDp (hdk l)).1)) 1 4 (nI (fDp (hdk l)).2)) L) := by
  obtain ⟨s, k, v, r, rfl⟩ := LT_ne H
  obtain ⟨t1, t2, t3, t4, t5⟩ := LT_f H
  refine Cn.intro gX5_readExpr rfl (Nat.le_of_ble_eq_true rfl) rfl ?_
  repeat refine x_s rfl rfl ?_
  refine x_br rfl rfl (fun c => absurd c (by decide)) (fun c => ?_)
  have e2 : (fDp (hdk ((s, k, v) :: r))).2 = s := rfl
  have e1 : (fDp (hdk ((s, k, v) :: r))).1 = if k = 2 ∨ k = 1 ∨ k = 40 then 2 else 1 := rfl
  rw [e1, e2]
  have at37 : ∀ m, m = (if k = 2 ∨ k = 1 ∨ k = 40 then 2 else 1) → Ex mX5_readExpr false dp 0 0 37 [some (.ref 1), some (.ref b), some (.int (nI 6)), none, none] [.int (nI m), .ref 1] (W0 d L) (fun q h => q = some (.int 0) ∧ h = W0 (up2 (up2 d 1 3 (nI (if k = 2 ∨ k = 1 ∨ k = 40 then 2 else 1))) 1 4 (nI s)) L) nX := by
    intro m hm
    refine x_cv (c_refuse d L _) rfl rfl rfl (by decide) rfl (by decide) rfl (Nat.le_of_ble_eq_true rfl) (by omega) (by decide) (by decide) ?_
    rintro _ _ ⟨rfl, rfl⟩
    rw [t1, hm]
    exact x_iret rfl rfl rfl ⟨rfl, rfl⟩
  repeat refine x_s rfl rfl ?_
  rw [t2]
  by_cases h1 : k = 2
  · refine x_br rfl rfl (fun c => ?_) (fun c => absurd c (fun z => z (congrArg nI h1)))
    iterate 2 refine x_s rfl rfl ?_
    exact at37 2 (by rw [if_pos (by omega)])
  refine x_br rfl rfl (fun c => absurd c (fun z => h1 ((nI_eq (by omega) (by decide)).mp z))) (fun c => ?_)
  repeat refine x_s rfl rfl ?_
  rw [t2]
  by_cases h2 : k = 1
  · refine x_br rfl rfl (fun c => ?_) (fun c => absurd c (fun z => z (congrArg nI h2)))
    iterate 2 refine x_s rfl rfl ?_
    exact at37 2 (by rw [if_pos (by omega)])
  refine x_br rfl rfl (fun c => absurd c (fun z => h2 ((nI_eq (by omega) (by decide)).mp z))) (fun c => ?_)
  repeat refine x_s rfl rfl ?_
  rw [t2]
  by_cases h3 : k = 40
  · refine x_br rfl rfl (fun c => absurd c (fun z => z (congrArg nI h3))) (fun c => ?_)
    iterate 2 refine x_s rfl rfl ?_
    exact at37 2 (by rw [if_pos (by omega)])
  refine x_br rfl rfl (fun c => ?_) (fun c => absurd c (fun z => h3 ((nI_eq (by omega) (by decide)).mp z)))
  iterate 1 refine x_s rfl rfl ?_
  exact at37 1 (by rw [if_neg (by omega)])
theorem RJ_fl (hb : b = 17 ∨ b = 20) {d : Nat → Nat → Int32} {x y : Int32} (H : RJ d b) : RJ (up2 (up2 d 1 3 x) 1 4 y) b := by
  obtain ⟨m, m1, m2⟩ := H
  refine ⟨m, m1, ?_⟩
  rw [up2_ne (by omega), up2_ne (by omega)]
  exact m2
theorem hdk_b (hn : n ≤ 700) {d : Nat → Nat → Int32} {l : List Tk} (H : LT d T n l) : (fDp (hdk l)).2 ≤ 700 ∧ 1 ≤ (fDp (hdk l)).1 ∧ (fDp (hdk l)).1 ≤ 2 := by
  obtain ⟨s, k, v, r, rfl⟩ := LT_ne H
  obtain ⟨t1, t2, t3, t4, t5⟩ := LT_f H
  refine ⟨?_, ?_, ?_⟩
  · show s ≤ 700
    omega
  · show 1 ≤ (if k = 2 ∨ k = 1 ∨ k = 40 then 2 else 1)
    split <;> decide
  · show (if k = 2 ∨ k = 1 ∨ k = 40 then 2 else 1) ≤ 2
    split <;> decide
set_option maxRecDepth 100000 in
set_option maxHeartbeats 1600000 in
theorem c_readPart17 (hn : n ≤ 700) (hT : ∀ j, T j < 256) {dp w u : Nat} (hdp : 8 ≤ dp) (hw : w < 6) (hu : 1 ≤ u) (hP : w < 5 → ∃ u', u' ≤ u ∧ CT mX5_readExpr dp 17 1 0 2 (w + 1) u' T n) : CT mX5_readPart (dp + 1) 17 7 6 1 w u T n := by
  intro d L l C H HR hl
  obtain ⟨s, k, v, r, rfl⟩ := LT_ne H
  obtain ⟨t1, t2, t3, t4, t5⟩ := LT_f H
  have hbb : (17 : Nat) = 17 ∨ (17 : Nat) = 20 := by decide
  simp only [List.length_cons] at hl
  have J0 : RJ d 17 := RJ_RC HR (by omega)
  refine Cn.intro gX5_readPart rfl (Nat.le_of_ble_eq_true rfl) rfl ?_
  repeat refine x_s rfl rfl ?_
  rw [t2]
  by_cases h1 : k = 40
  · subst h1
    refine x_br rfl rfl (fun c => absurd c (fun z => z rfl)) (fun c => ?_)
    repeat refine x_s rfl rfl ?_
    refine x_cv (c_advance d L hn hT H (by decide)) rfl rfl rfl (by decide) rfl (by decide) rfl (Nat.le_of_ble_eq_true rfl) (by omega) (by decide) (by decide) ?_
    rintro _ _ ⟨rfl, d1, rfl, F1, H1⟩
    have R1 := RC_LF hbb HR F1
    have J1 : RJ d1 17 := RJ_RC R1 (by omega)
    repeat refine x_s rfl rfl ?_
    rw [nI_1]
    rcases (by omega : w = 5 ∨ w < 5) with h5 | h5
    · subst h5
      refine x_cv (c_deep hn (b := 17) (dp := dp) (by omega) d1 L H1) rfl rfl rfl (by decide) rfl (by decide) rfl (Nat.le_of_ble_eq_true rfl) (by omega) (by decide) (by decide) ?_
      rintro _ _ ⟨rfl, rfl⟩
      obtain ⟨q1, q2, q3⟩ := hdk_b hn H1
      refine x_br rfl rfl (fun c => ?_) (fun c => absurd c (fun z => z rfl))
      repeat refine x_s rfl rfl ?_
      exact x_iret rfl rfl rfl ⟨_, rfl, PF_fl (PF_LF F1), Or.inl ⟨rfl, RJ_fl hbb J1, fDp (hdk r), ⟨rfl, rfl, q2, by omega, q1⟩, SP_deep (by decide)⟩⟩
    · obtain ⟨u', hu', hE⟩ := hP h5
      refine x_cv (hE d1 L r C H1 R1 (by omega)) rfl rfl rfl (by decide) rfl (by decide) rfl (Nat.le_of_ble_eq_true rfl) (by omega) (by decide) (by decide) ?_
      rintro rv _ ⟨d2, rfl, F2, hq⟩
      have F12 : PF 17 d d2 := PF_tr (PF_LF F1) F2
      rcases hq with ⟨rfl, J2, f, hf, hs⟩ | ⟨rfl, e4, l2, E2, H2, R2, S2⟩
      · refine x_br rfl rfl (fun c => ?_) (fun c => absurd c (fun z => z rfl))
        repeat refine x_s rfl rfl ?_
        exact x_iret rfl rfl rfl ⟨d2, rfl, F12, Or.inl ⟨rfl, J2, f, hf, SP_parf h5 hs⟩⟩
      · obtain ⟨s2, k2, v2, r2, rfl⟩ := LT_ne H2
        obtain ⟨q1, q2, q3, q4, q5⟩ := LT_f H2
        have sl2 := S2.2.2.1
        simp only [List.length_cons] at sl2
        refine x_br rfl rfl (fun c => absurd c (by decide)) (fun c => ?_)
        repeat refine x_s rfl rfl ?_
        refine x_cv (c_readSign d2 L (b := 41) hn hT (by decide) H2) rfl rfl rfl (by decide) rfl (by decide) rfl (Nat.le_of_ble_eq_true rfl) (by omega) (by decide) (by decide) ?_
        rintro rv _ hq
        rcases hq with ⟨hk, rfl, d3, rfl, F3, H3⟩ | ⟨hk, rfl, rfl⟩
        · subst hk
          refine x_br rfl rfl (fun c => absurd c (by decide)) (fun c => ?_)
          repeat refine x_s rfl rfl ?_
          refine x_iret rfl rfl rfl ⟨d3, rfl, PF_tr F12 (PF_LF F3), Or.inr ⟨rfl, ?_, r2, E2, H3, RC_LF hbb R2 F3, SP_par h5 hu' S2⟩⟩
          rw [e3_LF F3, e4, e3_LF F1]
        · refine x_br rfl rfl (fun c => ?_) (fun c => absurd c (fun z => z rfl))
          repeat refine x_s rfl rfl ?_
          exact x_iret rfl rfl rfl ⟨_, rfl, PF_fl F12, Or.inl ⟨rfl, RJ_fl hbb (RJ_RC R2 (by simp only [List.length_append]; omega)), (1, s2), FT_of (by decide) (by decide) (by omega), SP_parc h5 hk S2⟩⟩
  refine x_br rfl rfl (fun c => ?_) (fun c => absurd c (fun z => h1 ((nI_eq (by omega) (by decide)).mp z)))
  repeat refine x_s rfl rfl ?_
  rw [t2]
  by_cases h2 : k = 1
  · subst h2
    refine x_br rfl rfl (fun c => absurd c (fun z => z rfl)) (fun c => ?_)
    repeat refine x_s rfl rfl ?_
    refine x_acne rfl (qa := (6, 3)) (qb := (6, 3)) rfl rfl (fun c => ?_) (fun c => ?_)
    · exact absurd c (by decide)
    · repeat refine x_s rfl rfl ?_
      refine x_cv (c_turnsValue d L hn hT H) rfl rfl rfl (by decide) rfl (by decide) rfl (Nat.le_of_ble_eq_true rfl) (by omega) (by decide) (by decide) ?_
      rintro _ _ ⟨rfl, rfl⟩
      have at69 : Ex mX5_readPart false (dp + 1) 0 0 69 [some (.ref 1), some (.ref 17), some (.int (nI w)), none] [.int (vI (vxT v))] (W0 d L) (qR 7 6 1 w u 17 T n d L ((s, 1, v) :: r) C) nX := by
        repeat refine x_s rfl rfl ?_
        cases hv : vxT v with
        | none =>
          refine x_br rfl rfl (fun c => absurd c (fun z => z rfl)) (fun c => ?_)
          repeat refine x_s rfl rfl ?_
          refine x_cv (c_refuse d L _) rfl rfl rfl (by decide) rfl (by decide) rfl (Nat.le_of_ble_eq_true rfl) (by omega) (by decide) (by decide) ?_
          rintro _ _ ⟨rfl, rfl⟩
          rw [t1]
          exact x_iret rfl rfl rfl ⟨_, rfl, PF_fl PF_rfl, Or.inl ⟨rfl, RJ_fl hbb J0, (3, s), FT_of (by decide) (by decide) (by omega), SP_wordf hv⟩⟩
        | some t =>
          obtain ⟨o1, o2, o3, o4⟩ := vx_ok (b := 17) hbb hv
          refine x_br rfl rfl (fun c => ?_) (fun c => absurd c (fun z => o3 z))
          repeat refine x_s rfl rfl ?_
          rw [show (-1 : Int32) - vI (some t) = t from o4]
          refine x_cv (c_radd17 d L HR (by omega) t) rfl rfl rfl (by decide) rfl (by decide) rfl (Nat.le_of_ble_eq_true rfl) (by omega) (by decide) (by decide) ?_
          rintro _ _ ⟨rfl, d1, rfl, F1, R1⟩
          have H1 := LT_ad hbb F1 H
          repeat refine x_s rfl rfl ?_
          refine x_cv (c_advance d1 L hn hT H1 (by decide)) rfl rfl rfl (by decide) rfl (by decide) rfl (Nat.le_of_ble_eq_true rfl) (by omega) (by decide) (by decide) ?_
          rintro _ _ ⟨rfl, d2, rfl, F2, H2⟩
          repeat refine x_s rfl rfl ?_
          refine x_iret rfl rfl rfl ⟨d2, rfl, PF_tr (PF_ad hbb F1) (PF_LF F2), Or.inr ⟨rfl, ?_, r, [t], H2, RC_LF hbb R1 F2, SP_word hv o1 o2 hu⟩⟩
          rw [e3_LF F2, e1_ad hbb F1]
      iterate 1 refine x_s rfl rfl ?_
      exact at69
  refine x_br rfl rfl (fun c => ?_) (fun c => absurd c (fun z => h2 ((nI_eq (by omega) (by decide)).mp z)))
  repeat refine x_s rfl rfl ?_
  refine x_cv (c_isNumber d L (lo := 0) (hi := 9999) hn (by decide) (by decide) H) rfl rfl rfl (by decide) rfl (by decide) rfl (Nat.le_of_ble_eq_true rfl) (by omega) (by decide) (by decide) ?_
  rintro rv _ hq
  by_cases h3 : k = 2
  rotate_left
  · have e : nmF 0 9999 k v = 1 := by
      unfold nmF
      rw [if_neg h3]
    rw [e] at hq
    rcases hq with ⟨q1, -, -⟩ | ⟨-, -, rfl, rfl⟩
    · exact absurd q1 (by decide)
    refine x_br rfl rfl (fun c => absurd c (fun z => z rfl)) (fun c => ?_)
    repeat refine x_s rfl rfl ?_
    exact x_iret rfl rfl rfl ⟨_, rfl, PF_fl PF_rfl, Or.inl ⟨rfl, RJ_fl hbb J0, (1, s), FT_of (by decide) (by decide) (by omega), SP_elsef h1 h3 h2⟩⟩
  subst h3
  obtain ⟨e, -, -, -, t8⟩ := t5
  rcases t8 rfl with ⟨a1, rfl⟩ | ⟨a1, a2, a3⟩
  · rcases hq with ⟨q1, -, -⟩ | ⟨-, -, rfl, rfl⟩
    · exact absurd q1 (by decide)
    refine x_br rfl rfl (fun c => absurd c (fun z => z rfl)) (fun c => ?_)
    repeat refine x_s rfl rfl ?_
    exact x_iret rfl rfl rfl ⟨_, rfl, PF_fl PF_rfl, Or.inl ⟨rfl, RJ_fl hbb J0, (2, s), FT_of (by decide) (by decide) (by omega), SP_numf⟩⟩
  · have e0 : nmF 0 9999 2 v = 0 := by
      unfold nmF
      rw [if_pos rfl, if_pos (by omega)]
    rw [e0] at hq
    rcases hq with ⟨-, rfl, rfl⟩ | ⟨q1, -, -, -⟩
    rotate_left
    · exact absurd q1 (by decide)
    refine x_br rfl rfl (fun c => ?_) (fun c => absurd c (fun z => absurd z (by decide)))
    repeat refine x_s rfl rfl ?_
    refine x_cv (c_taken d L hn hT a2 H) rfl rfl rfl (by decide) rfl (by decide) rfl (Nat.le_of_ble_eq_true rfl) (by omega) (by decide) (by decide) ?_
    rintro _ _ ⟨rfl, d1, rfl, F1, H1⟩
    have R1 := RC_LF hbb HR F1
    refine x_cv (c_radd17 d1 L R1 (by omega) _) rfl rfl rfl (by decide) rfl (by decide) rfl (Nat.le_of_ble_eq_true rfl) (by omega) (by decide) (by decide) ?_
    rintro _ _ ⟨rfl, d2, rfl, F2, R2⟩
    repeat refine x_s rfl rfl ?_
    refine x_iret rfl rfl rfl ⟨d2, rfl, PF_tr (PF_LF F1) (PF_ad hbb F2), Or.inr ⟨rfl, ?_, r, [nI v], LT_ad hbb F2 H1, R2, SP_num (by omega) a2 hu⟩⟩
    rw [e1_ad hbb F2, e3_LF F1]
set_option maxRecDepth 100000 in
set_option maxHeartbeats 1600000 in
theorem c_readPart20 (hn : n ≤ 700) (hT : ∀ j, T j < 256) {dp w u : Nat} (hdp : 8 ≤ dp) (hw : w < 6) (hu : 1 ≤ u) (hP : w < 5 → ∃ u', u' ≤ u ∧ CT mX5_readExpr dp 20 1 0 2 (w + 1) u' T n) : CT mX5_readPart (dp + 1) 20 7 6 1 w u T n := by
  intro d L l C H HR hl
  obtain ⟨s, k, v, r, rfl⟩ := LT_ne H
  obtain ⟨t1, t2, t3, t4, t5⟩ := LT_f H
  have hbb : (20 : Nat) = 17 ∨ (20 : Nat) = 20 := by decide
  simp only [List.length_cons] at hl
  have J0 : RJ d 20 := RJ_RC HR (by omega)
  refine Cn.intro gX5_readPart rfl (Nat.le_of_ble_eq_true rfl) rfl ?_
  repeat refine x_s rfl rfl ?_
  rw [t2]
  by_cases h1 : k = 40
  · subst h1
    refine x_br rfl rfl (fun c => absurd c (fun z => z rfl)) (fun c => ?_)
    repeat refine x_s rfl rfl ?_
    refine x_cv (c_advance d L hn hT H (by decide)) rfl rfl rfl (by decide) rfl (by decide) rfl (Nat.le_of_ble_eq_true rfl) (by omega) (by decide) (by decide) ?_
    rintro _ _ ⟨rfl, d1, rfl, F1, H1⟩
    have R1 := RC_LF hbb HR F1
    have J1 : RJ d1 20 := RJ_RC R1 (by omega)
    repeat refine x_s rfl rfl ?_
    rw [nI_1]
    rcases (by omega : w = 5 ∨ w < 5) with h5 | h5
    · subst h5
      refine x_cv (c_deep hn (b := 20) (dp := dp) (by omega) d1 L H1) rfl rfl rfl (by decide) rfl (by decide) rfl (Nat.le_of_ble_eq_true rfl) (by omega) (by decide) (by decide) ?_
      rintro _ _ ⟨rfl, rfl⟩
      obtain ⟨q1, q2, q3⟩ := hdk_b hn H1
      refine x_br rfl rfl (fun c => ?_) (fun c => absurd c (fun z => z rfl))
      repeat refine x_s rfl rfl ?_
      exact x_iret rfl rfl rfl ⟨_, rfl, PF_fl (PF_LF F1), Or.inl ⟨rfl, RJ_fl hbb J1, fDp (hdk r), ⟨rfl, rfl, q2, by omega, q1⟩, SP_deep (by decide)⟩⟩
    · obtain ⟨u', hu', hE⟩ := hP h5
      refine x_cv (hE d1 L r C H1 R1 (by omega)) rfl rfl rfl (by decide) rfl (by decide) rfl (Nat.le_of_ble_eq_true rfl) (by omega) (by decide) (by decide) ?_
      rintro rv _ ⟨d2, rfl, F2, hq⟩
      have F12 : PF 20 d d2 := PF_tr (PF_LF F1) F2
      rcases hq with ⟨rfl, J2, f, hf, hs⟩ | ⟨rfl, e4, l2, E2, H2, R2, S2⟩
      · refine x_br rfl rfl (fun c => ?_) (fun c => absurd c (fun z => z rfl))
        repeat refine x_s rfl rfl ?_
        exact x_iret rfl rfl rfl ⟨d2, rfl, F12, Or.inl ⟨rfl, J2, f, hf, SP_parf h5 hs⟩⟩
      · obtain ⟨s2, k2, v2, r2, rfl⟩ := LT_ne H2
        obtain ⟨q1, q2, q3, q4, q5⟩ := LT_f H2
        have sl2 := S2.2.2.1
        simp only [List.length_cons] at sl2
        refine x_br rfl rfl (fun c => absurd c (by decide)) (fun c => ?_)
        repeat refine x_s rfl rfl ?_
        refine x_cv (c_readSign d2 L (b := 41) hn hT (by decide) H2) rfl rfl rfl (by decide) rfl (by decide) rfl (Nat.le_of_ble_eq_true rfl) (by omega) (by decide) (by decide) ?_
        rintro rv _ hq
        rcases hq with ⟨hk, rfl, d3, rfl, F3, H3⟩ | ⟨hk, rfl, rfl⟩
        · subst hk
          refine x_br rfl rfl (fun c => absurd c (by decide)) (fun c => ?_)
          repeat refine x_s rfl rfl ?_
          refine x_iret rfl rfl rfl ⟨d3, rfl, PF_tr F12 (PF_LF F3), Or.inr ⟨rfl, ?_, r2, E2, H3, RC_LF hbb R2 F3, SP_par h5 hu' S2⟩⟩
          rw [e3_LF F3, e4, e3_LF F1]
        · refine x_br rfl rfl (fun c => ?_) (fun c => absurd c (fun z => z rfl))
          repeat refine x_s rfl rfl ?_
          exact x_iret rfl rfl rfl ⟨_, rfl, PF_fl F12, Or.inl ⟨rfl, RJ_fl hbb (RJ_RC R2 (by simp only [List.length_append]; omega)), (1, s2), FT_of (by decide) (by decide) (by omega), SP_parc h5 hk S2⟩⟩
  refine x_br rfl rfl (fun c => ?_) (fun c => absurd c (fun z => h1 ((nI_eq (by omega) (by decide)).mp z)))
  repeat refine x_s rfl rfl ?_
  rw [t2]
  by_cases h2 : k = 1
  · subst h2
    refine x_br rfl rfl (fun c => absurd c (fun z => z rfl)) (fun c => ?_)
    repeat refine x_s rfl rfl ?_
    refine x_acne rfl (qa := (6, 3)) (qb := (6, 3)) rfl rfl (fun c => ?_) (fun c => ?_)
    · repeat refine x_s rfl rfl ?_
      refine x_cv (c_courtValue d L hn hT H) rfl rfl rfl (by decide) rfl (by decide) rfl (Nat.le_of_ble_eq_true rfl) (by omega) (by decide) (by decide) ?_
      rintro _ _ ⟨rfl, rfl⟩
      have at69 : Ex mX5_readPart false (dp + 1) 0 0 69 [some (.ref 1), some (.ref 20), some (.int (nI w)), none] [.int (vI (vxC v))] (W0 d L) (qR 7 6 1 w u 20 T n d L ((s, 1, v) :: r) C) nX := by
        repeat refine x_s rfl rfl ?_
        cases hv : vxC v with
        | none =>
          refine x_br rfl rfl (fun c => absurd c (fun z => z rfl)) (fun c => ?_)
          repeat refine x_s rfl rfl ?_
          refine x_cv (c_refuse d L _) rfl rfl rfl (by decide) rfl (by decide) rfl (Nat.le_of_ble_eq_true rfl) (by omega) (by decide) (by decide) ?_
          rintro _ _ ⟨rfl, rfl⟩
          rw [t1]
          exact x_iret rfl rfl rfl ⟨_, rfl, PF_fl PF_rfl, Or.inl ⟨rfl, RJ_fl hbb J0, (3, s), FT_of (by decide) (by decide) (by omega), SP_wordf hv⟩⟩
        | some t =>
          obtain ⟨o1, o2, o3, o4⟩ := vx_ok (b := 20) hbb hv
          refine x_br rfl rfl (fun c => ?_) (fun c => absurd c (fun z => o3 z))
          repeat refine x_s rfl rfl ?_
          rw [show (-1 : Int32) - vI (some t) = t from o4]
          refine x_cv (c_radd20 d L HR (by omega) t) rfl rfl rfl (by decide) rfl (by decide) rfl (Nat.le_of_ble_eq_true rfl) (by omega) (by decide) (by decide) ?_
          rintro _ _ ⟨rfl, d1, rfl, F1, R1⟩
          have H1 := LT_ad hbb F1 H
          repeat refine x_s rfl rfl ?_
          refine x_cv (c_advance d1 L hn hT H1 (by decide)) rfl rfl rfl (by decide) rfl (by decide) rfl (Nat.le_of_ble_eq_true rfl) (by omega) (by decide) (by decide) ?_
          rintro _ _ ⟨rfl, d2, rfl, F2, H2⟩
          repeat refine x_s rfl rfl ?_
          refine x_iret rfl rfl rfl ⟨d2, rfl, PF_tr (PF_ad hbb F1) (PF_LF F2), Or.inr ⟨rfl, ?_, r, [t], H2, RC_LF hbb R1 F2, SP_word hv o1 o2 hu⟩⟩
          rw [e3_LF F2, e1_ad hbb F1]
      exact at69
    · exact absurd c (by decide)
  refine x_br rfl rfl (fun c => ?_) (fun c => absurd c (fun z => h2 ((nI_eq (by omega) (by decide)).mp z)))
  repeat refine x_s rfl rfl ?_
  refine x_cv (c_isNumber d L (lo := 0) (hi := 9999) hn (by decide) (by decide) H) rfl rfl rfl (by decide) rfl (by decide) rfl (Nat.le_of_ble_eq_true rfl) (by omega) (by decide) (by decide) ?_
  rintro rv _ hq
  by_cases h3 : k = 2
  rotate_left
  · have e : nmF 0 9999 k v = 1 := by
      unfold nmF
      rw [if_neg h3]
    rw [e] at hq
    rcases hq with ⟨q1, -, -⟩ | ⟨-, -, rfl, rfl⟩
    · exact absurd q1 (by decide)
    refine x_br rfl rfl (fun c => absurd c (fun z => z rfl)) (fun c => ?_)
    repeat refine x_s rfl rfl ?_
    exact x_iret rfl rfl rfl ⟨_, rfl, PF_fl PF_rfl, Or.inl ⟨rfl, RJ_fl hbb J0, (1, s), FT_of (by decide) (by decide) (by omega), SP_elsef h1 h3 h2⟩⟩
  subst h3
  obtain ⟨e, -, -, -, t8⟩ := t5
  rcases t8 rfl with ⟨a1, rfl⟩ | ⟨a1, a2, a3⟩
  · rcases hq with ⟨q1, -, -⟩ | ⟨-, -, rfl, rfl⟩
    · exact absurd q1 (by decide)
    refine x_br rfl rfl (fun c => absurd c (fun z => z rfl)) (fun c => ?_)
    repeat refine x_s rfl rfl ?_
    exact x_iret rfl rfl rfl ⟨_, rfl, PF_fl PF_rfl, Or.inl ⟨rfl, RJ_fl hbb J0, (2, s), FT_of (by decide) (by decide) (by omega), SP_numf⟩⟩
  · have e0 : nmF 0 9999 2 v = 0 := by
      unfold nmF
      rw [if_pos rfl, if_pos (by omega)]
    rw [e0] at hq
    rcases hq with ⟨-, rfl, rfl⟩ | ⟨q1, -, -, -⟩
    rotate_left
    · exact absurd q1 (by decide)
    refine x_br rfl rfl (fun c => ?_) (fun c => absurd c (fun z => absurd z (by decide)))
    repeat refine x_s rfl rfl ?_
    refine x_cv (c_taken d L hn hT a2 H) rfl rfl rfl (by decide) rfl (by decide) rfl (Nat.le_of_ble_eq_true rfl) (by omega) (by decide) (by decide) ?_
    rintro _ _ ⟨rfl, d1, rfl, F1, H1⟩
    have R1 := RC_LF hbb HR F1
    refine x_cv (c_radd20 d1 L R1 (by omega) _) rfl rfl rfl (by decide) rfl (by decide) rfl (Nat.le_of_ble_eq_true rfl) (by omega) (by decide) (by decide) ?_
    rintro _ _ ⟨rfl, d2, rfl, F2, R2⟩
    repeat refine x_s rfl rfl ?_
    refine x_iret rfl rfl rfl ⟨d2, rfl, PF_tr (PF_LF F1) (PF_ad hbb F2), Or.inr ⟨rfl, ?_, r, [nI v], LT_ad hbb F2 H1, R2, SP_num (by omega) a2 hu⟩⟩
    rw [e1_ad hbb F2, e3_LF F1]
theorem c_readPart (hn : n ≤ 700) (hT : ∀ j, T j < 256) (hb : b = 17 ∨ b = 20) {dp w u : Nat} (hdp : 8 ≤ dp) (hw : w < 6) (hu : 1 ≤ u) (hP : w < 5 → ∃ u', u' ≤ u ∧ CT mX5_readExpr dp b 1 0 2 (w + 1) u' T n) : CT mX5_readPart (dp + 1) b 7 6 1 w u T n := by
  rcases hb with rfl | rfl
  · exact c_readPart17 hn hT hdp hw hu hP
  · exact c_readPart20 hn hT hdp hw hu hP
/-- an EXPR -/
theorem c_expr (hn : n ≤ 700) (hT : ∀ j, T j < 256) (hb : b = 17 ∨ b = 20) : ∀ m w, m + w = 5 → CT mX5_readExpr (15 + 7 * m) b 1 0 2 w (5 * m + 6) T n := by
  intro m
  induction m with
  | zero =>
    intro w hw
    have p := c_readPart hn hT hb (dp := 8) (w := w) (u := 1) (by decide) (by omega) (by decide) (fun z => by omega)
    have p1 := c_readProduct hn hT hb (by decide) (by omega) p
    have p2 := c_readSum hn hT hb (by decide) (by omega) p1
    have p3 := c_readTest hn hT hb (by decide) p2
    have p4 := c_readNot hn hT hb (by decide) p3
    have p5 := c_readAnd hn hT hb (by decide) (by omega) p4
    exact c_readExpr hn hT hb (by decide) (by omega) p5
  | succ m ih =>
    intro w hw
    have p := c_readPart hn hT hb (dp := 15 + 7 * m) (w := w) (u := 5 * m + 6) (by omega) (by omega) (by omega) (fun _ => ⟨_, Nat.le_refl _, ih (w + 1) (by omega)⟩)
    have p1 := c_readProduct hn hT hb (by omega) (by omega) p
    have p2 := c_readSum hn hT hb (by omega) (by omega) p1
    have p3 := c_readTest hn hT hb (by omega) p2
    have p4 := c_readNot hn hT hb (by omega) p3
    have p5 := c_readAnd hn hT hb (by omega) (by omega) p4
    have p6 := c_readExpr hn hT hb (by omega) (by omega) p5
    rw [show 15 + 7 * (m + 1) = 15 + 7 * m + 1 + 1 + 1 + 1 + 1 + 1 + 1 by omega, show 5 * (m + 1) + 6 = 5 * m + 6 + 1 + 1 + 1 + 1 + 1 by omega]
    exact p6
end
