/-! THE CALLS: years, spots, hideouts, saucer -/
/-- the places, row by row -/
def fG (P : Nat → Bool) : Nat → Nat → Int32
  | _, 0 => -1
  | k, m + 1 => if P k then 100 * nI (k / 41) + nI (k % 41) else fG P (k + 1) m
theorem fG_t {P : Nat → Bool} {k n : Nat} (hk : k < n) (h : P k = true) : fG P k (n - k) = 100 * nI (k / 41) + nI (k % 41) := by
  rw [show n - k = (n - (k + 1)) + 1 by omega, fG, if_pos h]
theorem fG_f {P : Nat → Bool} {k n : Nat} (hk : k < n) (h : P k = false) : fG P k (n - k) = fG P (k + 1) (n - (k + 1)) := by
  rw [show n - k = (n - (k + 1)) + 1 by omega, fG, if_neg (by rw [h]; decide)]
/-- the most, and where first -/
def bG (w : Nat → Int32) : Nat → Int32 × Int32
  | 0 => (-1, 0)
  | k + 1 => if (bG w k).1 < w k then (w k, 100 * nI (k / 41) + nI (k % 41)) else bG w k
def spP (F : Fr) (Z : Sn) (t j : Nat) : Bool := sHo F Z t (j % 41) (j / 41) (bF (fun n => tn F.2.1 9 0 (fxy F n (j % 41) (j / 41)) (F.1 7 n) (F.1 8 n) t) (F.1 4 0))
def hiP (F : Fr) (p dg t j : Nat) : Bool := decide (bF (fun n => tn F.2.1 dg (F.1 3 p) (fxy F n (j % 41) (j / 41)) (F.1 7 n) (F.1 8 n) t) (F.1 4 0) = 0)
def sauW (F : Fr) (b : Int32) (t j : Nat) : Int32 := bc (thg F (fun p fa => tn F.2.1 9 (F.1 3 p) fa 60 0 t) b (j % 41) (j / 41) (F.1 0 0))
theorem sL_up {L L' : Nat → Nat → Int64} {k : Nat} {v : Int64} (h : sL L L') : sL L (up2 L' 111 k v) := fun c hc => (up2_ne (c' := c) (c := 111) hc).trans (h c hc)
theorem jm (x y : Nat) (hx : x < 41) : (41 * y + x) % 41 = x ∧ (41 * y + x) / 41 = y := by omega
section
variable (d : Nat → Nat → Int32) (L : Nat → Nat → Int64) {F : Fr} {Z : Sn}
set_option maxRecDepth 100000 in
set_option maxHeartbeats 8000000 in
theorem p_years (H : HC d F) (R : RG F) (K : HW d F) (x y z : Int32) : Cx mX11_years 20 6 36 [.ref 0, .int x, .int y, .int z] (W0 d L) (qG d L (inB z 3 && inB y 100) (if F.1 0 0 = 0 then 0 else nI (cF (yT F x (iN z)) (iN y)))) (qT2 d L (inB z 3) (inB y 100)) := by
  have r1 := R.1
  refine Cx.intro gX11_years rfl (Nat.le_of_ble_eq_true rfl) rfl ?_
  repeat refine x_s rfl rfl ?_
  refine x_xs (c_needWhat d L z (m := 2) (by decide)) rfl rfl rfl rfl (by decide) (Nat.le_of_ble_eq_true rfl) (by decide) (by decide) (by decide) ?_ ?_
  rotate_left
  · rintro _ _ ⟨rfl, rfl, hg⟩
    exact ⟨rfl, Or.inl ⟨rfl, hg⟩⟩
  rintro _ _ ⟨rfl, rfl, hg⟩
  repeat refine x_s rfl rfl ?_
  refine x_br rfl rfl (fun c1 => ?_) (fun c1 => ?_)
  · refine x_throw (Or.inl rfl) rfl rfl rfl rfl rfl (Or.inr ⟨_, rfl⟩) rfl rfl (by decide) (by decide) (by decide) (Nat.le_of_ble_eq_true rfl) ⟨rfl, Or.inr ⟨rfl, hg, inB_f1 c1⟩⟩
  repeat refine x_s rfl rfl ?_
  refine x_br rfl rfl (fun c2 => ?_) (fun c2 => ?_)
  rotate_left
  · refine x_throw (Or.inl rfl) rfl rfl rfl rfl rfl (Or.inr ⟨_, rfl⟩) rfl rfl (by decide) (by decide) (by decide) (Nat.le_of_ble_eq_true rfl) ⟨rfl, Or.inr ⟨rfl, hg, ?_⟩⟩
    rw [ile, show (99 : Int32).toInt = 99 from rfl] at c2
    exact decide_eq_false (by omega)
  have hg2 : inB y 100 = true := by
    rw [ile, show (99 : Int32).toInt = 99 from rfl] at c2
    rw [lt0] at c1
    exact decide_eq_true (by omega)
  rw [and_t hg hg2]
  obtain ⟨q1, q2, q3⟩ := inB_iN hg
  obtain ⟨s1, s2, s3⟩ := inB_iN hg2
  generalize iN z = w at q1 q2 q3 ⊢
  generalize iN y = n at s1 s2 s3 ⊢
  subst q2
  subst s2
  iterate 5 refine x_s rfl rfl ?_
  rw [H.1]
  repeat refine x_s rfl rfl ?_
  refine x_br rfl rfl (fun c3 => ?_) (fun c3 => ?_)
  rotate_left
  · have c4 : F.1 0 0 = 0 := (nI_eq (b := 0) (by omega) (by omega)).mp c3
    repeat refine x_s rfl rfl ?_
    exact x_iret rfl rfl rfl ⟨rfl, by rw [if_pos c4], d, L, rfl, sm_rfl, sL_rfl⟩
  have c4 : ¬ F.1 0 0 = 0 := fun q => c3 (by rw [q]; rfl)
  have hp0 : 0 < F.1 0 0 := by omega
  rw [if_neg c4]
  repeat refine x_s rfl rfl ?_
  refine x_cv (c_silence d L) rfl rfl rfl (by decide) rfl (by decide) rfl (Nat.le_of_ble_eq_true rfl) (by decide) (by decide) (by decide) ?_
  rintro _ _ ⟨rfl, d1, rfl, hs, hk0⟩
  have lp : ∀ k, k ≤ n → ∀ a b, a = (yS F x k).1 → b = nI (cF (yT F x w) k) → ∀ d2, sm SX d d2 → HK d2 F (yS F x k).2.1 (yS F x k).2.2 → ∀ o1 o2 o3 o4, Ex mX11_years false 20 5 30 64 [some (.ref 0), some (.int x), some (.int (nI n)), some (.int (nI w)), some (.int (nI (F.1 0 0))), some (.int a), some (.int b), some (.int (nI k)), o1, o2, o3, o4] [] (W0 d2 L) (qG d L true (nI (cF (yT F x w) n))) (qT2 d L (inB (nI w) 3) (inB (nI n) 100)) := by
    refine x_down _ ?_ ?_
    · intro a b ha hb d2 hs2 hk2 o1 o2 o3 o4
      repeat refine x_s rfl rfl ?_
      refine x_br rfl rfl (fun c => ?_) (fun c => absurd c (fun z => z (Int32.le_refl _)))
      repeat refine x_s rfl rfl ?_
      exact x_iret rfl rfl rfl ⟨rfl, by rw [hb], d2, L, rfl, hs2, sL_rfl⟩
    · intro k hk ih a b ha hb d2 hs2 hk2 o1 o2 o3 o4
      have H2 := HC_sm H hs2 (by decide)
      have K2 := HW_sm R K hs2 (by decide)
      have hW : yW F x k < F.1 0 0 := Nat.mod_lt _ hp0
      have hD : yD F x k < 10 := Nat.mod_lt _ (by decide)
      repeat refine x_s rfl rfl ?_
      refine x_br rfl rfl (fun c => absurd c (nI_ge hk (by omega))) (fun c => ?_)
      repeat refine x_s rfl rfl ?_
      refine x_cs (c_nextSeed d2 L a) rfl rfl rfl (by decide) (Nat.le_of_ble_eq_true rfl) (by decide) (by decide) (by decide) ?_
      rintro _ _ ⟨rfl, rfl⟩
      rw [show a * 1103515245 + 12345 = nx (yS F x k).1 by rw [ha]; rfl]
      repeat refine x_s rfl rfl ?_
      refine x_cs (c_draw d2 L (nx (yS F x k).1) hp0 (by omega)) rfl rfl rfl (by decide) (Nat.le_of_ble_eq_true rfl) (by decide) (by decide) (by decide) ?_
      rintro _ _ ⟨rfl, rfl⟩
      rw [show drw (nx (yS F x k).1) (F.1 0 0) = yW F x k from rfl]
      repeat refine x_s rfl rfl ?_
      refine x_cs (c_nextSeed d2 L (nx (yS F x k).1)) rfl rfl rfl (by decide) (Nat.le_of_ble_eq_true rfl) (by decide) (by decide) (by decide) ?_
      rintro _ _ ⟨rfl, rfl⟩
      rw [show nx (yS F x k).1 * 1103515245 + 12345 = nx (nx (yS F x k).1) from rfl]
      repeat refine x_s rfl rfl ?_
      refine x_cs (c_draw d2 L (nx (nx (yS F x k).1)) (n := 10) (by decide) (by decide)) rfl rfl rfl (by decide) (Nat.le_of_ble_eq_true rfl) (by decide) (by decide) (by decide) ?_
      rintro _ _ ⟨rfl, rfl⟩
      rw [show drw (nx (nx (yS F x k).1)) 10 = yD F x k from rfl]
      repeat refine x_s rfl rfl ?_
      refine x_cv (c_hearOne d2 L H2 R K2 hk2 (p := yW F x k) (dg := yD F x k) (ho := k) hW (by omega)) rfl rfl rfl (by decide) rfl (by decide) rfl (Nat.le_of_ble_eq_true rfl) (by decide) (by decide) (by decide) ?_
      rintro _ _ ⟨rfl, d3, rfl, hs3, hk3⟩
      have hs13 : sm SX d d3 := sm_go hs2 (sm_in hs3 (by decide))
      have hk3' : HK d3 F (yS F x (k + 1)).2.1 (yS F x (k + 1)).2.2 := hk3
      repeat refine x_s rfl rfl ?_
      refine x_cv (c_accuse d3 L (HC_sm H hs13 (by decide)) R (HW_sm R K hs13 (by decide)) hk3' (ho := k) (-1)) rfl rfl rfl (by decide) rfl (by decide) rfl (Nat.le_of_ble_eq_true rfl) (by decide) (by decide) (by decide) ?_
      rintro _ _ ⟨rfl, d4, rfl, hs4⟩
      have hs14 : sm SX d d4 := sm_go hs13 (sm_in hs4 (by decide))
      have hk4 := HK_sm hk3' hs4 (by decide) (by decide)
      rw [acc_all R]
      have fin : ∀ (p : Bool) (q : Bool), p = yA F x k → q = decide (0 < yD F x k) → Ex mX11_years false 20 5 30 157 [some (.ref 0), some (.int x), some (.int (nI n)), some (.int (nI w)), some (.int (nI (F.1 0 0))), some (.int (nx (nx (yS F x k).1))), some (.int b), some (.int (nI k)), some (.int (nI (yW F x k))), some (.int (nI (yD F x k))), some (.int (bI p)), some (.int (bI q))] [] (W0 d4 L) (qG d L true (nI (cF (yT F x w) n))) (qT2 d L (inB (nI w) 3) (inB (nI n) 100)) := by
        intro p q hp hq
        have yes : yT F x w k = true → Ex mX11_years false 20 5 30 189 [some (.ref 0), some (.int x), some (.int (nI n)), some (.int (nI w)), some (.int (nI (F.1 0 0))), some (.int (nx (nx (yS F x k).1))), some (.int b), some (.int (nI k)), some (.int (nI (yW F x k))), some (.int (nI (yD F x k))), some (.int (bI p)), some (.int (bI q))] [] (W0 d4 L) (qG d L true (nI (cF (yT F x w) n))) (qT2 d L (inB (nI w) 3) (inB (nI n) 100)) := by
          intro hy
          iterate 3 refine x_s rfl rfl ?_
          rw [nI_1 k]
          exact ih _ _ rfl (by rw [hb, nI_1, cF, if_pos hy]) d4 hs14 hk4 _ _ _ _
        have no : yT F x w k = false → Ex mX11_years false 20 5 30 192 [some (.ref 0), some (.int x), some (.int (nI n)), some (.int (nI w)), some (.int (nI (F.1 0 0))), some (.int (nx (nx (yS F x k).1))), some (.int b), some (.int (nI k)), some (.int (nI (yW F x k))), some (.int (nI (yD F x k))), some (.int (bI p)), some (.int (bI q))] [] (W0 d4 L) (qG d L true (nI (cF (yT F x w) n))) (qT2 d L (inB (nI w) 3) (inB (nI n) 100)) := by
          intro hy
          iterate 2 refine x_s rfl rfl ?_
          rw [nI_1 k]
          exact ih _ _ rfl (by rw [hb, cF, if_neg (by rw [hy]; decide)]) d4 hs14 hk4 _ _ _ _
        repeat refine x_s rfl rfl ?_
        refine x_br rfl rfl (fun e1 => ?_) (fun e1 => ?_)
        · have w1 : ¬ w = 1 := fun q => e1 (by rw [q]; rfl)
          repeat refine x_s rfl rfl ?_
          refine x_br rfl rfl (fun e2 => ?_) (fun e2 => ?_)
          · exact no (by rw [yT, if_neg w1, ← hp, bI_0.mp e2]; rfl)
          · have ep := bI_n0.mp e2
            repeat refine x_s rfl rfl ?_
            refine x_br rfl rfl (fun e3 => ?_) (fun e3 => ?_)
            · have w0 : ¬ w = 0 := fun q => e3 (by rw [q]; rfl)
              repeat refine x_s rfl rfl ?_
              refine x_br rfl rfl (fun e4 => ?_) (fun e4 => ?_)
              · have eq1 : q = true := bI_n0.mp e4
                exact no (by rw [yT, if_neg w1, ← hp, ep, ← hq, eq1, decide_eq_false w0]; rfl)
              · have eq1 : q = false := bI_0.mp e4
                exact yes (by rw [yT, if_neg w1, ← hp, ep, ← hq, eq1, decide_eq_false w0]; rfl)
            · have w0 : w = 0 := (nI_eq (b := 0) (by omega) (by omega)).mp e3
              repeat refine x_s rfl rfl ?_
              refine x_br rfl rfl (fun e4 => ?_) (fun e4 => ?_)
              · have eq1 : q = false := by
                  cases q
                  · rfl
                  · exact absurd rfl e4
                exact no (by rw [yT, if_neg w1, ← hp, ep, ← hq, eq1, decide_eq_true w0]; rfl)
              · have eq1 : q = true := by
                  cases q
                  · exact absurd e4 (by decide)
                  · rfl
                exact yes (by rw [yT, if_neg w1, ← hp, ep, ← hq, eq1, decide_eq_true w0]; rfl)
        · have w1 : w = 1 := (nI_eq (b := 1) (by omega) (by omega)).mp e1
          repeat refine x_s rfl rfl ?_
          refine x_br rfl rfl (fun e2 => ?_) (fun e2 => ?_)
          · exact no (by rw [yT, if_pos w1, ← hq, bI_0.mp e2])
          · iterate 1 refine x_s rfl rfl ?_
            exact yes (by rw [yT, if_pos w1, ← hq, bI_n0.mp e2])
      have fin2 : ∀ (p : Bool) (o : Option Value), p = yA F x k → Ex mX11_years false 20 5 30 145 [some (.ref 0), some (.int x), some (.int (nI n)), some (.int (nI w)), some (.int (nI (F.1 0 0))), some (.int (nx (nx (yS F x k).1))), some (.int b), some (.int (nI k)), some (.int (nI (yW F x k))), some (.int (nI (yD F x k))), some (.int (bI p)), o] [] (W0 d4 L) (qG d L true (nI (cF (yT F x w) n))) (qT2 d L (inB (nI w) 3) (inB (nI n) 100)) := by
        intro p o hp
        repeat refine x_s rfl rfl ?_
        refine x_br rfl rfl (fun e1 => ?_) (fun e1 => ?_)
        · have e2 : ¬ 0 < yD F x k := fun z => absurd e1 (nI_nle z (by omega))
          iterate 2 refine x_s rfl rfl ?_
          exact fin p false hp (decide_eq_false e2).symm
        · have e2 : 0 < yD F x k := by
            rcases Nat.eq_zero_or_pos (yD F x k) with z | z
            · rw [z] at e1
              exact absurd (by decide) e1
            · exact z
          iterate 3 refine x_s rfl rfl ?_
          exact fin p true hp (decide_eq_true e2).symm
      repeat refine x_s rfl rfl ?_
      refine x_br rfl rfl (fun e1 => ?_) (fun e1 => ?_)
      · iterate 2 refine x_s rfl rfl ?_
        exact fin2 false _ (decide_eq_false e1).symm
      · iterate 3 refine x_s rfl rfl ?_
        exact fin2 true _ (decide_eq_true e1).symm
  iterate 6 refine x_s rfl rfl ?_
  exact lp 0 (Nat.zero_le _) x 0 rfl rfl d1 (sm_in hs (by decide)) (hk0 F R) _ _ _ _
end
