/-! THE MODEL: years, over what is drawn -/
section
variable (d : Nat → Nat → Int32) (L : Nat → Nat → Int64) {F : Fr}
theorem k_draw2 {x x2 : Int32} {v n : Nat} (hx : d 112 58 = x) (e2 : nx x = x2) (h0 : 0 < n) (hn : n ≤ 1000) (ev : drw x2 n = v) : Cn mX12_draw false 1 0 0 [.ref 112, .int (nI n)] (W0 d L) (fun r h => r = some (.int (nI v)) ∧ h = W0 (up2 d 112 58 x2) L) := by
  subst e2
  subst ev
  exact k_draw d L hx h0 hn
set_option maxRecDepth 100000 in
set_option maxHeartbeats 1600000 in
theorem k_yloop {n w pp : Nat} (hw : w < 3) (q1 : w < 3) (s1 : n < 100) (x : Int32) (Y1 Y2 : Nat → Int32) (YL : Nat → Fr) (YW YD : Nat → Nat) (A : Nat → Int32) (P : Nat → Bool) (hp' : 0 < pp) (r1 : pp ≤ 10)
    (h2 : ∀ h, nx (Y1 h) = Y2 h) (h3 : ∀ h, nx (Y2 h) = Y1 (h + 1)) (hW : ∀ h, drw (Y2 h) pp = YW h) (hD : ∀ h, drw (Y1 (h + 1)) 10 = YD h) (hD10 : ∀ h, YD h < 10)
    (hL : ∀ h, YL (h + 1) = (tl (YL h).1 h (YW h) (YD h), (YL h).2)) (hp : ∀ h, (YL h).1 0 0 = pp) (h9 : ∀ h, (YL h).1 9 0 = h) (hR : ∀ h, h ≤ 100 → RM (YL h) false false) (hA : ∀ h, accI (YL (h + 1)) h = A h)
    (hT : ∀ h, P h = if w = 1 then decide (0 < YD h) else decide (A h = nI (YW h)) && decide (decide (0 < YD h) = decide (w = 0))) : ∀ h, h ≤ n → ∀ a, a = nI (cF P h) → ∀ d2, mS d d2 → d2 112 0 = 0 → d2 112 58 = Y1 h → HL d2 (YL h) false false → ∀ o1 o2 o3, Ex mX12_years false 14 0 0 47 [some (.ref 112), some (.int x), some (.int (nI n)), some (.int (nI w)), some (.int a), some (.int (nI h)), o1, o2, o3] [] (W0 d2 L) (qM d L true (nI (cF P n)) 2) nX := by
  refine x_down _ ?_ ?_
  · intro a ha d2 M2 T2 I2 H2 o1 o2 o3
    repeat refine x_s rfl rfl ?_
    refine x_br rfl rfl (fun c => ?_) (fun c => absurd c (fun z => z (Int32.le_refl _)))
    repeat refine x_s rfl rfl ?_
    exact x_iret rfl rfl rfl ⟨by rw [ha]; rfl, d2, rfl, M2, T2⟩
  · intro h hh ih a ha d2 M2 T2 I2 H2 o1 o2 o3
    have e1 : d2 112 1 = nI (pp) := by rw [H2.1, hp h]
    have n9 := h9 h
    repeat refine x_s rfl rfl ?_
    refine x_br rfl rfl (fun c => absurd c (nI_ge hh (by omega))) (fun c => ?_)
    repeat refine x_s rfl rfl ?_
    refine x_br rfl rfl (fun c => absurd c (by rw [e1]; exact nI_nle hp' (by omega))) (fun c => ?_)
    repeat refine x_s rfl rfl ?_
    rw [e1]
    refine x_cv (k_draw2 d2 L I2 (h2 h) hp' (by omega) (hW h)) rfl rfl rfl (by decide) rfl (by decide) rfl (Nat.le_of_ble_eq_true rfl) (by decide) (by decide) (by decide) ?_
    rintro _ _ ⟨rfl, rfl⟩
    have H3 := HL_its d2 H2 (Y2 h)
    have M3 : mS d (up2 d2 112 58 (Y2 h)) := mS_f M2 (by simp)
    have T3 : up2 d2 112 58 (Y2 h) 112 0 = 0 := T2
    have I3 : up2 d2 112 58 (Y2 h) 112 58 = Y2 h := up2_eq
    generalize up2 d2 112 58 (Y2 h) = d3 at H3 M3 T3 I3 ⊢
    repeat refine x_s rfl rfl ?_
    refine x_cv (k_draw2 d3 L I3 (h3 h) (n := 10) (by decide) (by decide) (hD h)) rfl rfl rfl (by decide) rfl (by decide) rfl (Nat.le_of_ble_eq_true rfl) (by decide) (by decide) (by decide) ?_
    rintro _ _ ⟨rfl, rfl⟩
    have H4 := HL_its d3 H3 (Y1 (h + 1))
    have M4 : mS d (up2 d3 112 58 (Y1 (h + 1))) := mS_f M3 (by simp)
    have T4 : up2 d3 112 58 (Y1 (h + 1)) 112 0 = 0 := T3
    have I4 : up2 d3 112 58 (Y1 (h + 1)) 112 58 = Y1 (h + 1) := up2_eq
    generalize up2 d3 112 58 (Y1 (h + 1)) = d4 at H4 M4 T4 I4 ⊢
    have H5 := HL_tl H4 h (YW h) (YD h)
    rw [← hL, n9] at H5
    have e46 : d4 112 46 = nI h := by rw [H4.2.2.1, n9]
    repeat refine x_s rfl rfl ?_
    refine x_cv (k_adds d4 L e46 (by omega) _ _ _) rfl rfl rfl (by decide) rfl (by decide) rfl (Nat.le_of_ble_eq_true rfl) (by decide) (by decide) (by decide) ?_
    rintro _ _ ⟨rfl, rfl⟩
    have M5 : mS d (up2 (up2 (up2 (up2 d4 132 h (nI h)) 133 h (nI (YW h))) 134 h (nI (YD h))) 112 46 (nI (h + 1))) := mS_f (mS_c (mS_c (mS_c M4 (by decide)) (by decide)) (by decide)) (by simp)
    have T5 : (up2 (up2 (up2 (up2 d4 132 h (nI h)) 133 h (nI (YW h))) 134 h (nI (YD h))) 112 46 (nI (h + 1))) 112 0 = 0 := T4
    have I5 : (up2 (up2 (up2 (up2 d4 132 h (nI h)) 133 h (nI (YW h))) 134 h (nI (YD h))) 112 46 (nI (h + 1))) 112 58 = Y1 (h + 1) := I4
    refine (show Ex _ _ _ _ _ _ _ _ (W0 (up2 (up2 (up2 (up2 d4 132 h (nI h)) 133 h (nI (YW h))) 134 h (nI (YD h))) 112 46 (nI (h + 1))) L) _ _ from ?_)
    generalize up2 (up2 (up2 (up2 d4 132 h (nI h)) 133 h (nI (YW h))) 134 h (nI (YD h))) 112 46 (nI (h + 1)) = d5 at H5 M5 T5 I5 ⊢
    repeat refine x_s rfl rfl ?_
    refine x_cv (k_accusedIn d5 L H5 (hR (h + 1) (by omega)) (show h < 100 by omega)) rfl rfl rfl (by decide) rfl (by decide) rfl (Nat.le_of_ble_eq_true rfl) (by decide) (by decide) (by decide) ?_
    rintro _ _ ⟨rfl, d6, rfl, hs6⟩
    rw [hA]
    have M6 := mS_go M5 hs6 (by decide) (by decide) (by decide) (by decide) (by decide)
    have T6 : d6 112 0 = 0 := by rw [hs6 112 (by decide)]; exact T5
    have I6 : d6 112 58 = Y1 (h + 1) := by
      rw [hs6 112 (by decide), I5]
    have H6 := HL_sm H5 hs6 (by decide)
    have hD : YD h < 10 := hD10 h
    have at153 : ∀ (b c : Int32) (q : Bool), q = P h → b = bI q → Ex mX12_years false 14 0 0 153 [some (.ref 112), some (.int x), some (.int (nI n)), some (.int (nI w)), some (.int a), some (.int (nI h)), some (.int (nI (YW h))), some (.int (nI (YD h))), some (.int c)] [.int b, .int a] (W0 d6 L) (qM d L true (nI (cF (P) n)) 2) nX := by
      intro b c q hq hb
      iterate 4 refine x_s rfl rfl ?_
      rw [nI_1]
      refine ih _ ?_ d6 M6 T6 I6 H6 _ _ _
      rw [hb, ha, cF, ← hq]
      cases q
      · rw [if_neg (by decide)]
        exact Int32.add_zero _
      · rw [if_pos rfl, ← nI_1]
        rfl
    have at106 : ∀ c : Int32, c = bI (decide (A h = nI (YW h))) → Ex mX12_years false 14 0 0 106 [some (.ref 112), some (.int x), some (.int (nI n)), some (.int (nI w)), some (.int a), some (.int (nI h)), some (.int (nI (YW h))), some (.int (nI (YD h))), some (.int c)] [] (W0 d6 L) (qM d L true (nI (cF (P) n)) 2) nX := by
      intro c hc
      rcases (by omega : w = 0 ∨ w = 1 ∨ w = 2) with e | e | e
      · subst e
        repeat refine x_s rfl rfl ?_
        refine x_br rfl rfl (fun c => absurd c (by decide)) (fun c => ?_)
        repeat refine x_s rfl rfl ?_
        refine x_br rfl rfl (fun c1 => ?_) (fun c1 => ?_)
        · have c2 : YD h = 0 := (nI_le0 (by omega)).mp c1
          iterate 1 refine x_s rfl rfl ?_
          exact at153 _ _ false (by simp [hT, c2]) rfl
        · have c2 : ¬ YD h = 0 := fun z => c1 ((nI_le0 (by omega)).mpr z)
          have c3 : 0 < YD h := by omega
          repeat refine x_s rfl rfl ?_
          rw [hc]
          refine x_br rfl rfl (fun c4 => ?_) (fun c4 => ?_)
          · have c5 := bI_0.mp c4
            iterate 1 refine x_s rfl rfl ?_
            exact at153 _ _ false (by simp [hT, c5]) rfl
          · have c5 := bI_n0.mp c4
            iterate 3 refine x_s rfl rfl ?_
            exact at153 _ _ true (by simp [hT, c5, c3]) rfl
      · subst e
        repeat refine x_s rfl rfl ?_
        refine x_br rfl rfl (fun c => ?_) (fun c => absurd c (by decide))
        repeat refine x_s rfl rfl ?_
        refine x_br rfl rfl (fun c => absurd c (by decide)) (fun c => ?_)
        repeat refine x_s rfl rfl ?_
        refine x_br rfl rfl (fun c1 => ?_) (fun c1 => ?_)
        · have c2 : YD h = 0 := (nI_le0 (by omega)).mp c1
          iterate 1 refine x_s rfl rfl ?_
          exact at153 _ _ false (by simp [hT, c2]) rfl
        · have c2 : ¬ YD h = 0 := fun z => c1 ((nI_le0 (by omega)).mpr z)
          have c3 : 0 < YD h := by omega
          iterate 3 refine x_s rfl rfl ?_
          exact at153 _ _ true (by simp [hT, c3]) rfl
      · subst e
        repeat refine x_s rfl rfl ?_
        refine x_br rfl rfl (fun c => ?_) (fun c => absurd c (by decide))
        repeat refine x_s rfl rfl ?_
        refine x_br rfl rfl (fun c => ?_) (fun c => absurd c (by decide))
        repeat refine x_s rfl rfl ?_
        refine x_br rfl rfl (fun c1 => ?_) (fun c1 => ?_)
        · have c2 : ¬ YD h = 0 := fun z => c1 ((nI_e0 (by omega)).mpr z)
          have c3 : 0 < YD h := by omega
          iterate 1 refine x_s rfl rfl ?_
          exact at153 _ _ false (by simp [hT, c3]) rfl
        · have c2 : YD h = 0 := (nI_e0 (by omega)).mp c1
          repeat refine x_s rfl rfl ?_
          rw [hc]
          refine x_br rfl rfl (fun c4 => ?_) (fun c4 => ?_)
          · have c5 := bI_0.mp c4
            iterate 1 refine x_s rfl rfl ?_
            exact at153 _ _ false (by simp [hT, c5]) rfl
          · have c5 := bI_n0.mp c4
            iterate 2 refine x_s rfl rfl ?_
            exact at153 _ _ true (by simp [hT, c5, c2]) rfl
    repeat refine x_s rfl rfl ?_
    refine x_br rfl rfl (fun c1 => ?_) (fun c1 => ?_)
    · have c2 : ¬ A h = nI (YW h) := c1
      iterate 2 refine x_s rfl rfl ?_
      exact at106 _ (by rw [decide_eq_false c2]; rfl)
    · have c2 : A h = nI (YW h) := c1
      iterate 3 refine x_s rfl rfl ?_
      exact at106 _ (by rw [decide_eq_true c2]; rfl)
set_option maxRecDepth 100000 in
set_option maxHeartbeats 1600000 in
theorem q_years (H : HB d F) (R : RG F) (x y z : Int32) : Cn mX12_years false 14 0 0 [.ref 112, .int x, .int y, .int z] (W0 d L) (qM d L (inB z 3 && inB y 100) (if F.1 0 0 = 0 then 0 else nI (cF (yT F x (iN z)) (iN y))) (if inB z 3 then 2 else 1)) := by
  have r1 := R.1
  have r2 := R.2.1
  have r3 := R.2.2.1
  refine Cn.intro gX12_years rfl (Nat.le_of_ble_eq_true rfl) rfl ?_
  repeat refine x_s rfl rfl ?_
  refine x_put rfl rfl (by decide) rfl ⟨rfl, rfl⟩ (Or.inl rfl) ?_
  have m0 : mS d (up2 d 112 0 0) := mS_0 0
  have z0 : up2 d 112 0 0 112 0 = 0 := up2_eq
  have H0 := HB_mS R H m0
  generalize hd0 : up2 d 112 0 0 = d0 at m0 z0 H0 ⊢
  repeat refine x_s rfl rfl ?_
  refine x_cv (k_isWhat d0 L z0 z (m := 2) (by decide)) rfl rfl rfl (by decide) rfl (by decide) rfl (Nat.le_of_ble_eq_true rfl) (by decide) (by decide) (by decide) ?_
  rintro _ _ ⟨rfl, rfl⟩
  cases hb : inB z 3
  · rw [if_neg (by decide)]
    refine x_br rfl rfl (fun c => ?_) (fun c => absurd c (fun z => z rfl))
    repeat refine x_s rfl rfl ?_
    exact x_iret rfl rfl rfl ⟨rfl, _, rfl, mS_f m0 (Or.inl rfl), rfl⟩
  rw [if_pos rfl]
  refine x_br rfl rfl (fun c => absurd c (by decide)) (fun c => ?_)
  repeat refine x_s rfl rfl ?_
  refine x_cs (k_within d0 L y 0 99) rfl rfl rfl (by decide) (Nat.le_of_ble_eq_true rfl) (by decide) (by decide) (by decide) ?_
  rintro _ _ ⟨rfl, rfl⟩
  rw [wi_B (m := 99) rfl]
  repeat refine x_s rfl rfl ?_
  refine x_cv (k_right d0 L z0 (inB y 100) 2 (by decide)) rfl rfl rfl (by decide) rfl (by decide) rfl (Nat.le_of_ble_eq_true rfl) (by decide) (by decide) (by decide) ?_
  rintro _ _ ⟨rfl, rfl⟩
  cases hb2 : inB y 100
  · rw [if_neg (by decide)]
    refine x_br rfl rfl (fun c => absurd c (fun z => z rfl)) (fun c => ?_)
    repeat refine x_s rfl rfl ?_
    exact x_iret rfl rfl rfl ⟨rfl, _, rfl, mS_f m0 (Or.inl rfl), rfl⟩
  rw [if_pos rfl]
  refine x_br rfl rfl (fun c => ?_) (fun c => absurd c (fun z => absurd z (by decide)))
  obtain ⟨q1, q2, q3⟩ := inB_iN hb
  generalize iN z = w at q1 q2 q3 ⊢
  subst q2
  obtain ⟨s1, s2, s3⟩ := inB_iN hb2
  generalize iN y = n at s1 s2 s3 ⊢
  subst s2
  repeat refine x_s rfl rfl ?_
  refine x_cv (k_lays0 d0 L H0 R false) rfl rfl rfl (by decide) rfl (by decide) rfl (Nat.le_of_ble_eq_true rfl) (by decide) (by decide) (by decide) ?_
  rintro _ _ ⟨rfl, d1, rfl, m1, t1, H1⟩
  rw [if_neg (by decide)] at H1
  have M1 := mS_tr m0 m1
  have T1 : d1 112 0 = 0 := t1.trans z0
  repeat refine x_s rfl rfl ?_
  refine x_put rfl rfl (by decide) rfl ⟨rfl, rfl⟩ (Or.inl rfl) ?_
  have H2 := HL_its d1 H1 x
  have M2 : mS d (up2 d1 112 58 x) := mS_f M1 (by simp)
  have T2 : up2 d1 112 58 x 112 0 = 0 := T1
  have I2 : up2 d1 112 58 x 112 58 = x := up2_eq
  generalize up2 d1 112 58 x = d2 at H2 M2 T2 I2 ⊢
  by_cases hp : F.1 0 0 = 0
  · rw [if_pos hp]
    have e1 : d2 112 1 = 0 := by
      have e2 : d2 112 1 = nI (F.1 0 0) := H2.1
      rw [e2, hp]
      rfl
    repeat refine x_s rfl rfl ?_
    refine x_br rfl rfl (fun c1 => ?_) (fun c1 => ?_)
    · repeat refine x_s rfl rfl ?_
      exact x_iret rfl rfl rfl ⟨rfl, d2, rfl, M2, T2⟩
    · repeat refine x_s rfl rfl ?_
      refine x_br rfl rfl (fun c => ?_) (fun c => absurd c (fun z => z (by rw [e1]; exact Int32.le_refl _)))
      repeat refine x_s rfl rfl ?_
      exact x_iret rfl rfl rfl ⟨rfl, d2, rfl, M2, T2⟩
  rw [if_neg hp]
  have hp' : 0 < F.1 0 0 := by omega
  have hD10 : ∀ h, yD F x h < 10 := fun h => drw_lt _ (by decide)
  have K := k_yloop d L (n := n) (w := w) q1 q1 s1 x (fun h => (yS F x h).1) (fun h => nx (yS F x h).1) (yL F x) (yW F x) (yD F x) (fun h => acc F (yS F x (h + 1)).2.1 (yS F x (h + 1)).2.2 h tt) (yT F x w) hp' r1 (fun h => rfl) (fun h => (yS_1 F x h).symm) (fun h => rfl) (fun h => (congrArg (fun q => drw q 10) (yS_1 F x h)).trans rfl) hD10 (fun h => yL_eq F x h) (fun h => congrFun ((yL_s F x h).1 0 (by decide)) 0) (yL_n F x) (fun h hh => yL_RM R x hp' h hh) (fun h => yA_eq F x h) (fun h => rfl)
  iterate 4 refine x_s rfl rfl ?_
  exact K 0 (Nat.zero_le _) 0 rfl d2 M2 T2 I2 H2 _ _ _
end
