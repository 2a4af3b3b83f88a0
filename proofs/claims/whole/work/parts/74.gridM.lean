/-! THE CALLS (model): spots, hideouts, saucer -/
theorem up2_cm {α : Type} {d : Nat → Nat → α} {c k c' k' : Nat} {v v' : α} (h : c ≠ c') : up2 (up2 d c k v) c' k' v' = up2 (up2 d c' k' v') c k v := by
  funext a b
  unfold up2
  by_cases h1 : a = c'
  · have h2 : ¬ a = c := fun z => h (z.symm.trans h1)
    simp only [if_pos h1, if_neg h2]
  · simp only [if_neg h1]
/-- the eleventh of people stands somewhere -/
def pxy (G : Fr) (x y : Nat) : Fr := (up2 (up2 G.1 1 10 x) 2 10 y, G.2)
def HLx (d : Nat → Nat → Int32) (G : Fr) (xn : Bool) : Prop := ∀ x y : Nat, HL (up2 (up2 d 113 10 (nI x)) 114 10 (nI y)) (pxy G x y) true xn
theorem HLx_sm {S : List Nat} {d d' : Nat → Nat → Int32} {G : Fr} {xn : Bool} (H : HLx d G xn) (h : sm S d d') (hS : ∀ c, c ∈ HLc → c ∉ S) : HLx d' G xn := by
  intro x y
  refine HL_sm (S := S) (H x y) ?_ hS
  intro c hc
  have e := h c hc
  funext k
  unfold up2
  rw [e]
theorem HLx_up {d : Nat → Nat → Int32} {G : Fr} {xn : Bool} (H : HLx d G xn) (a b : Int32) : HLx (up2 (up2 d 113 10 a) 114 10 b) G xn := by
  intro x y
  have e : up2 (up2 (up2 (up2 d 113 10 a) 114 10 b) 113 10 (nI x)) 114 10 (nI y) = up2 (up2 d 113 10 (nI x)) 114 10 (nI y) := by rw [up2_cm (c := 114) (c' := 113) (by decide), up_up, up_up]
  rw [e]
  exact H x y
theorem HLx_tl {d : Nat → Nat → Int32} {G : Fr} {xn : Bool} (H : HLx d G xn) (t p g : Nat) : HLx (up2 (up2 (up2 (up2 d 132 (G.1 9 0) (nI t)) 133 (G.1 9 0) (nI p)) 134 (G.1 9 0) (nI g)) 112 46 (nI (G.1 9 0 + 1))) (tl G.1 t p g, G.2) xn := by
  intro x y
  have h := HL_tl (H x y) t p g
  have e1 : up2 (up2 (up2 (up2 (up2 (up2 d 132 (G.1 9 0) (nI t)) 133 (G.1 9 0) (nI p)) 134 (G.1 9 0) (nI g)) 112 46 (nI (G.1 9 0 + 1))) 113 10 (nI x)) 114 10 (nI y) = up2 (up2 (up2 (up2 (up2 (up2 d 113 10 (nI x)) 114 10 (nI y)) 132 (G.1 9 0) (nI t)) 133 (G.1 9 0) (nI p)) 134 (G.1 9 0) (nI g)) 112 46 (nI (G.1 9 0 + 1)) := by
    rw [up2_cm (c := 112) (c' := 113) (by decide), up2_cm (c := 134) (c' := 113) (by decide), up2_cm (c := 133) (c' := 113) (by decide), up2_cm (c := 132) (c' := 113) (by decide)]
    rw [up2_cm (c := 112) (c' := 114) (by decide), up2_cm (c := 134) (c' := 114) (by decide), up2_cm (c := 133) (c' := 114) (by decide), up2_cm (c := 132) (c' := 114) (by decide)]
  have e2 : pxy (tl G.1 t p g, G.2) x y = (tl (pxy G x y).1 t p g, (pxy G x y).2) := by
    unfold pxy tl
    show (up2 (up2 (up2 (up2 (up2 (up2 G.1 10 (G.1 9 0) t) 11 (G.1 9 0) p) 12 (G.1 9 0) g) 9 0 (G.1 9 0 + 1)) 1 10 x) 2 10 y, G.2) = (up2 (up2 (up2 (up2 (up2 (up2 G.1 1 10 x) 2 10 y) 10 (G.1 9 0) t) 11 (G.1 9 0) p) 12 (G.1 9 0) g) 9 0 (G.1 9 0 + 1), G.2)
    congr 1
    rw [up2_cm (c := 9) (c' := 1) (by decide), up2_cm (c := 12) (c' := 1) (by decide), up2_cm (c := 11) (c' := 1) (by decide), up2_cm (c := 10) (c' := 1) (by decide)]
    rw [up2_cm (c := 9) (c' := 2) (by decide), up2_cm (c := 12) (c' := 2) (by decide), up2_cm (c := 11) (c' := 2) (by decide), up2_cm (c := 10) (c' := 2) (by decide)]
  rw [e1, e2]
  exact h
theorem HLx_of {d : Nat → Nat → Int32} {F : Fr} {xn : Bool} {k : Nat} (H : HL d F false xn) (h0 : F.1 0 0 ≤ 10) : HLx (up2 d 115 10 (nI k)) (F10 F 0 0 k) xn := by
  intro x y
  obtain ⟨h1, h2, h3, h4, h5, h6, h7, h8⟩ := H
  refine ⟨h1, h2, h3, fun p hp => ?_, h5, h6, h7, h8⟩
  show (if p = 10 then nI x else d 113 p) = nI (if p = 10 then x else if p = 10 then 0 else F.1 1 p) ∧ (if p = 10 then nI y else d 114 p) = nI (if p = 10 then y else if p = 10 then 0 else F.1 2 p) ∧ (if p = 10 then nI k else d 115 p) = nI (if p = 10 then k else F.1 3 p)
  by_cases e : p = 10
  · simp [e]
  · simp only [if_neg e]
    rcases hp with hp | hp
    · exact h4 p (Or.inl hp)
    · exact absurd hp.2 e
theorem pxy_F10 (F : Fr) (x y k : Nat) : pxy (F10 F 0 0 k) x y = F10 F x y k := by
  unfold pxy F10
  show (up2 (up2 (up2 (up2 (up2 F.1 1 10 0) 2 10 0) 3 10 k) 1 10 x) 2 10 y, F.2) = _
  congr 1
  funext a b
  unfold up2
  by_cases h1 : a = 1
  · subst h1; simp; split <;> simp_all
  · by_cases h2 : a = 2
    · subst h2; simp; split <;> simp_all
    · simp [h1, h2]
theorem pxy_tl (G : Fr) (x y t p g : Nat) : pxy (tl G.1 t p g, G.2) x y = (tl (pxy G x y).1 t p g, G.2) := by
  unfold pxy tl
  show (up2 (up2 (up2 (up2 (up2 (up2 G.1 10 (G.1 9 0) t) 11 (G.1 9 0) p) 12 (G.1 9 0) g) 9 0 (G.1 9 0 + 1)) 1 10 x) 2 10 y, G.2) = (up2 (up2 (up2 (up2 (up2 (up2 G.1 1 10 x) 2 10 y) 10 (G.1 9 0) t) 11 (G.1 9 0) p) 12 (G.1 9 0) g) 9 0 (G.1 9 0 + 1), G.2)
  congr 1
  rw [up2_cm (c := 9) (c' := 1) (by decide), up2_cm (c := 12) (c' := 1) (by decide), up2_cm (c := 11) (c' := 1) (by decide), up2_cm (c := 10) (c' := 1) (by decide)]
  rw [up2_cm (c := 9) (c' := 2) (by decide), up2_cm (c := 12) (c' := 2) (by decide), up2_cm (c := 11) (c' := 2) (by decide), up2_cm (c := 10) (c' := 2) (by decide)]
theorem RM_x {G : Fr} {xn : Bool} (R : RM G false xn) {x y : Nat} (hx : x ≤ 40) (hy : y ≤ 40) (h3 : G.1 3 10 ≤ 9) (h0 : G.1 0 0 ≤ 10) {t g : Nat} (h9 : G.1 9 0 < 120) (ht : t < 100) (hg : g ≤ 9) : RM (tl (pxy G x y).1 t 10 g, G.2) true xn := by
  have R1 : RM (pxy G x y) true xn := by
    obtain ⟨r1, r2, r3, r4, r5, r6⟩ := R
    refine ⟨r1, r2, r3, fun p hp => ?_, r5, fun s hs => ?_⟩
    · show (if p = 10 then x else G.1 1 p) ≤ 40 ∧ (if p = 10 then y else G.1 2 p) ≤ 40 ∧ G.1 3 p ≤ 9
      by_cases e : p = 10
      · subst e
        exact ⟨hx, hy, h3⟩
      · simp only [if_neg e]
        rcases hp with hp | hp
        · exact r4 p (Or.inl hp)
        · exact absurd hp.2 e
    · have q := r6 s hs
      refine ⟨q.1, ?_, q.2.2⟩
      rcases q.2.1 with z | z
      · exact Or.inl z
      · exact absurd z.1 (by decide)
  exact RM_tl (F := pxy G x y) R1 h9 ht (Or.inr ⟨rfl, rfl⟩) hg
theorem pl_ne {k : Nat} (hk : k < 1681) : ¬ (100 : Int32) * nI (k / 41) + nI (k % 41) = -1 := by
  rw [show (100 : Int32) * nI (k / 41) = nI (100 * (k / 41)) from by unfold nI; rw [show (100 : Int32) = Int32.ofNat 100 from rfl, Int32.ofNat_mul], nI_add, ieq, nI_tI (by omega), show (-1 : Int32).toInt = -1 from rfl]
  omega
section
variable (d : Nat → Nat → Int32) (L : Nat → Nat → Int64) {F : Fr} {Z : Sn}
set_option maxRecDepth 100000 in
set_option maxHeartbeats 1600000 in
theorem q_spots (H : HB d F) (R : RG F) (HZ0 : HZM d Z) (R2 : RZ F Z) (x y : Int32) : Cn mX12_spots false 14 0 0 [.ref 112, .int x, .int y] (W0 d L) (qM d L (inB x 100 && inB y 2) (if iN y = 1 then fG (spP F Z (iN x)) 0 1681 else nI (cF (spP F Z (iN x)) 1681)) (1)) := by
  have r1 := R.1
  have r2 := R.2.1
  have r3 := R.2.2.1
  refine Cn.intro gX12_spots rfl (Nat.le_of_ble_eq_true rfl) rfl ?_
  repeat refine x_s rfl rfl ?_
  refine x_put rfl rfl (by decide) rfl ⟨rfl, rfl⟩ (Or.inl rfl) ?_
  have m0 : mS d (up2 d 112 0 0) := mS_0 0
  have z0 : up2 d 112 0 0 112 0 = 0 := up2_eq
  have H0 := HB_mS R H m0
  generalize hd0 : up2 d 112 0 0 = d0 at m0 z0 H0 ⊢
  repeat refine x_s rfl rfl ?_
  refine x_cv (k_isHour d0 L z0 x) rfl rfl rfl (by decide) rfl (by decide) rfl (Nat.le_of_ble_eq_true rfl) (by decide) (by decide) (by decide) ?_
  rintro _ _ ⟨rfl, rfl⟩
  cases hb : inB x 100
  · rw [if_neg (by decide)]
    refine x_br rfl rfl (fun c => ?_) (fun c => absurd c (fun z => z rfl))
    repeat refine x_s rfl rfl ?_
    exact x_iret rfl rfl rfl ⟨rfl, _, rfl, mS_f m0 (Or.inl rfl), rfl⟩
  rw [if_pos rfl]
  refine x_br rfl rfl (fun c => absurd c (by decide)) (fun c => ?_)
  repeat refine x_s rfl rfl ?_
  refine x_cv (k_isWhat d0 L z0 y (m := 1) (by decide)) rfl rfl rfl (by decide) rfl (by decide) rfl (Nat.le_of_ble_eq_true rfl) (by decide) (by decide) (by decide) ?_
  rintro _ _ ⟨rfl, rfl⟩
  cases hb2 : inB y 2
  · rw [if_neg (by decide)]
    refine x_br rfl rfl (fun c => absurd c (fun z => z rfl)) (fun c => ?_)
    repeat refine x_s rfl rfl ?_
    exact x_iret rfl rfl rfl ⟨rfl, _, rfl, mS_f m0 (Or.inl rfl), rfl⟩
  rw [if_pos rfl]
  refine x_br rfl rfl (fun c => ?_) (fun c => absurd c (fun z => absurd z (by decide)))
  obtain ⟨q1, q2, q3⟩ := inB_iN hb
  generalize iN x = t at q1 q2 q3 ⊢
  subst q2
  obtain ⟨s1, s2, s3⟩ := inB_iN hb2
  generalize iN y = w at s1 s2 s3 ⊢
  subst s2
  repeat refine x_s rfl rfl ?_
  refine x_cv (k_lays0 d0 L H0 R true) rfl rfl rfl (by decide) rfl (by decide) rfl (Nat.le_of_ble_eq_true rfl) (by decide) (by decide) (by decide) ?_
  rintro _ _ ⟨rfl, d1, rfl, m1, t1, H1⟩
  rw [if_pos rfl, fst0_self] at H1
  have M1 := mS_tr m0 m1
  have T1 : d1 112 0 = 0 := t1.trans z0
  have RM1 := RM_of R
  repeat refine x_s rfl rfl ?_
  refine x_iast rfl rfl (k := 10) (rfl) (by omega) (by decide) rfl ?_
  have X1 := HLx_of (k := 0) H1 r1
  have M2 := mS_10 (x := nI 0) M1 (c := 115) (by simp)
  have T2 : up2 d1 115 10 (nI 0) 112 0 = 0 := T1
  have e46 : up2 d1 115 10 (nI 0) 112 46 = nI (F.1 9 0) := H1.2.2.1
  repeat refine x_s rfl rfl ?_
  refine x_cv (k_adds (up2 d1 115 10 (nI 0)) L e46 (by omega) _ _ _) rfl rfl rfl (by decide) rfl (by decide) rfl (Nat.le_of_ble_eq_true rfl) (by decide) (by decide) (by decide) ?_
  rintro _ _ ⟨rfl, rfl⟩
  have X2 := HLx_tl X1 t 10 9
  have M3 : mS d (up2 (up2 (up2 (up2 (up2 d1 115 10 (nI 0)) 132 (F.1 9 0) (nI t)) 133 (F.1 9 0) (nI 10)) 134 (F.1 9 0) (nI 9)) 112 46 (nI (F.1 9 0 + 1))) := mS_f (mS_c (mS_c (mS_c M2 (by decide)) (by decide)) (by decide)) (by simp)
  have T3 : (up2 (up2 (up2 (up2 (up2 d1 115 10 (nI 0)) 132 (F.1 9 0) (nI t)) 133 (F.1 9 0) (nI 10)) 134 (F.1 9 0) (nI 9)) 112 46 (nI (F.1 9 0 + 1))) 112 0 = 0 := T2
  have X3 : HLx (up2 (up2 (up2 (up2 (up2 d1 115 10 (nI 0)) 132 (F.1 9 0) (nI t)) 133 (F.1 9 0) (nI 10)) 134 (F.1 9 0) (nI 9)) 112 46 (nI (F.1 9 0 + 1))) (tl (F10 F 0 0 0).1 t 10 9, F.2) false := X2
  generalize hd3 : up2 (up2 (up2 (up2 (up2 d1 115 10 (nI 0)) 132 (F.1 9 0) (nI t)) 133 (F.1 9 0) (nI 10)) 134 (F.1 9 0) (nI 9)) 112 46 (nI (F.1 9 0 + 1)) = d3 at M3 T3 X3
  refine (show Ex _ _ _ _ _ _ _ _ (W0 (up2 (up2 (up2 (up2 (up2 d1 115 10 (nI 0)) 132 (F.1 9 0) (nI t)) 133 (F.1 9 0) (nI 10)) 134 (F.1 9 0) (nI 9)) 112 46 (nI (F.1 9 0 + 1))) L) _ _ from ?_)
  rw [hd3]
  generalize hP : spP F Z t = P
  have eqG : ∀ xx yy, pxy (tl (F10 F 0 0 0).1 t 10 9, F.2) xx yy = (tl (F10 F xx yy 0).1 t 10 9, F.2) := by
    intro xx yy
    have h := pxy_tl (F10 F 0 0 0) xx yy t 10 9
    rw [pxy_F10] at h
    exact h
  have RMx : ∀ xx yy, xx ≤ 40 → yy ≤ 40 → RM (tl (F10 F xx yy 0).1 t 10 9, F.2) true false := by
    intro xx yy h1 h2
    rw [← pxy_F10]
    exact RM_x (G := F10 F 0 0 0) (RM_of (F10_RG R)) h1 h2 (Nat.zero_le _) r1 (show F.1 9 0 < 120 by omega) q1 (by decide)
  have outer : ∀ yy, yy ≤ 41 → ∀ a b V, a = nI (cF P (41 * yy)) → V = (if b = -1 then fG P (41 * yy) (1681 - 41 * yy) else b) → ∀ d4, mS d d4 → d4 112 0 = 0 → HLx d4 (tl (F10 F 0 0 0).1 t 10 9, F.2) false → ∀ o, Ex mX12_spots false 14 0 0 54 [some (.ref 112), some (.int (nI t)), some (.int (nI w)), some (.int a), some (.int b), some (.int (nI yy)), o] [] (W0 d4 L) (qM d L true (if w = 1 then V else nI (cF P 1681)) 1) nX := by
    refine x_down _ ?_ ?_
    · intro a b V ha hV d4 M4 T4 X4 o
      repeat refine x_s rfl rfl ?_
      refine x_br rfl rfl (fun c => ?_) (fun c => absurd c (fun z => z (by decide)))
      repeat refine x_s rfl rfl ?_
      refine x_br rfl rfl (fun c1 => ?_) (fun c1 => ?_)
      · have hw : w = 1 := by
          rcases (by omega : w = 0 ∨ w = 1) with z | z
          · exact absurd (by rw [z]; rfl) c1
          · exact z
        repeat refine x_s rfl rfl ?_
        refine x_iret rfl rfl rfl ⟨?_, d4, rfl, M4, T4⟩
        show some (Value.int b) = some (Value.int (if w = 1 then V else nI (cF P 1681)))
        rw [if_pos hw, hV]
        by_cases hb : b = -1
        · rw [if_pos hb, hb]
          rfl
        · rw [if_neg hb]
      · have hw : ¬ w = 1 := fun z => by
          rw [z] at c1
          exact absurd c1 (by decide)
        repeat refine x_s rfl rfl ?_
        refine x_iret rfl rfl rfl ⟨?_, d4, rfl, M4, T4⟩
        show some (Value.int a) = some (Value.int (if w = 1 then V else nI (cF P 1681)))
        rw [if_neg hw, ha]
    · intro yy hyy ih a b V ha hV d4 M4 T4 X4 o
      repeat refine x_s rfl rfl ?_
      refine x_br rfl rfl (fun c => absurd c (nI_nlt (a := 40) (by omega) (by omega))) (fun c => ?_)
      have inner : ∀ xx, xx ≤ 41 → ∀ a b, a = nI (cF P (41 * yy + xx)) → V = (if b = -1 then fG P (41 * yy + xx) (1681 - (41 * yy + xx)) else b) → ∀ d4, mS d d4 → d4 112 0 = 0 → HLx d4 (tl (F10 F 0 0 0).1 t 10 9, F.2) false → Ex mX12_spots false 14 0 0 64 [some (.ref 112), some (.int (nI t)), some (.int (nI w)), some (.int a), some (.int b), some (.int (nI yy)), some (.int (nI xx))] [] (W0 d4 L) (qM d L true (if w = 1 then V else nI (cF P 1681)) 1) nX := by
        refine x_down _ ?_ ?_
        · intro a b ha hV d4 M4 T4 X4
          repeat refine x_s rfl rfl ?_
          refine x_br rfl rfl (fun c => ?_) (fun c => absurd c (fun z => z (by decide)))
          iterate 2 refine x_s rfl rfl ?_
          rw [nI_1]
          exact ih _ _ _ ha hV d4 M4 T4 X4 _
        · intro xx hxx ih2 a b ha hV d4 M4 T4 X4
          have hj := jm xx yy hxx
          have hlt : 41 * yy + xx < 1681 := by omega
          repeat refine x_s rfl rfl ?_
          refine x_br rfl rfl (fun c => absurd c (nI_nlt (a := 40) (by omega) (by omega))) (fun c => ?_)
          repeat refine x_s rfl rfl ?_
          refine x_iast rfl rfl (k := 10) (rfl) (by omega) (by decide) rfl ?_
          repeat refine x_s rfl rfl ?_
          refine x_iast rfl rfl (k := 10) (rfl) (by omega) (by decide) rfl ?_
          have H5 := X4 xx yy
          rw [eqG xx yy] at H5
          have X5 := HLx_up X4 (nI xx) (nI yy)
          have M5 : mS d (up2 (up2 d4 113 10 (nI xx)) 114 10 (nI yy)) := mS_10 (mS_10 M4 (by simp)) (by simp)
          have T5 : (up2 (up2 d4 113 10 (nI xx)) 114 10 (nI yy)) 112 0 = 0 := T4
          generalize up2 (up2 d4 113 10 (nI xx)) 114 10 (nI yy) = d5 at H5 X5 M5 T5 ⊢
          repeat refine x_s rfl rfl ?_
          refine x_cv (k_plantedNow d5 L H5 (RMx xx yy (by omega) (by omega)) (HZM_mS HZ0 M5) R2.1 R2.2) rfl rfl rfl (by decide) rfl (by decide) rfl (Nat.le_of_ble_eq_true rfl) (by decide) (by decide) (by decide) ?_
          rintro _ _ ⟨rfl, d6, rfl, hs6⟩
          have M6 := mS_go M5 hs6 (by decide) (by decide) (by decide) (by decide) (by decide)
          have T6 : d6 112 0 = 0 := by rw [hs6 112 (by decide)]; exact T5
          have X6 := HLx_sm X5 hs6 (by decide)
          have eP : decide (plz (tl (F10 F xx yy 0).1 t 10 9, F.2) Z Z.1 = 0) = P (41 * yy + xx) := by rw [← hP, spP, hj.1, hj.2]; exact F10_plz R Z R2 t
          have ex : 41 * yy + (xx + 1) = 41 * yy + xx + 1 := by omega
          refine x_br rfl rfl (fun c1 => ?_) (fun c1 => ?_)
          · have c2 : P (41 * yy + xx) = true := by rw [← eP]; exact decide_eq_true c1
            repeat refine x_s rfl rfl ?_
            refine x_br rfl rfl (fun c3 => ?_) (fun c3 => ?_)
            · have c3' : ¬ b = -1 := c3
              iterate 2 refine x_s rfl rfl ?_
              rw [nI_1 xx]
              exact ih2 _ _ (by rw [ha, nI_1, ex, cF, if_pos c2]) (by rw [hV, if_neg c3', if_neg c3']) d6 M6 T6 X6
            · have c3' : b = -1 := c3
              iterate 8 refine x_s rfl rfl ?_
              rw [nI_1 xx]
              refine ih2 _ _ (by rw [ha, nI_1, ex, cF, if_pos c2]) ?_ d6 M6 T6 X6
              have e := fG_t hlt c2
              have ne := pl_ne hlt
              rw [hj.1, hj.2] at e ne
              rw [hV, if_pos c3', e, if_neg ne]
          · have c2 : P (41 * yy + xx) = false := by rw [← eP]; exact decide_eq_false c1
            iterate 3 refine x_s rfl rfl ?_
            rw [nI_1]
            refine ih2 _ _ (by rw [ha, ex, cF, if_neg (by rw [c2]; decide)]) ?_ d6 M6 T6 X6
            rw [hV]
            by_cases hb : b = -1
            · rw [if_pos hb, if_pos hb, fG_f hlt c2, ex]
            · rw [if_neg hb, if_neg hb]
      iterate 2 refine x_s rfl rfl ?_
      exact inner 0 (Nat.zero_le _) a b ha hV d4 M4 T4 X4
  iterate 6 refine x_s rfl rfl ?_
  exact outer 0 (Nat.zero_le _) 0 (-1) _ rfl rfl d3 M3 T3 X3 _
theorem HL_10 {xn : Bool} {k : Nat} (H : HL d (oneL F 10 k 0) false xn) : True := trivial
set_option maxRecDepth 100000 in
set_option maxHeartbeats 1600000 in
theorem q_hideouts (H : HB d F) (R : RG F) (x y z u : Int32) : Cn mX12_hideouts false 14 0 0 [.ref 112, .int x, .int y, .int z, .int u] (W0 d L) (qM d L ((inB x (F.1 0 0) && inB u 2) && inL y z) (if iN u = 1 then fG (hiP F (iN x) (iN y) (iN z)) 0 1681 else nI (cF (hiP F (iN x) (iN y) (iN z)) 1681)) (if (inB x (F.1 0 0) && inB u 2) then 2 else 1)) := by
  have r1 := R.1
  have r2 := R.2.1
  have r3 := R.2.2.1
  refine Cn.intro gX12_hideouts rfl (Nat.le_of_ble_eq_true rfl) rfl ?_
  repeat refine x_s rfl rfl ?_
  refine x_put rfl rfl (by decide) rfl ⟨rfl, rfl⟩ (Or.inl rfl) ?_
  have m0 : mS d (up2 d 112 0 0) := mS_0 0
  have z0 : up2 d 112 0 0 112 0 = 0 := up2_eq
  have H0 := HB_mS R H m0
  generalize hd0 : up2 d 112 0 0 = d0 at m0 z0 H0 ⊢
  repeat refine x_s rfl rfl ?_
  refine x_cv (k_isPerson d0 L z0 H0.1 (by omega) x) rfl rfl rfl (by decide) rfl (by decide) rfl (Nat.le_of_ble_eq_true rfl) (by decide) (by decide) (by decide) ?_
  rintro _ _ ⟨rfl, rfl⟩
  cases hb : inB x (F.1 0 0)
  · rw [if_neg (by decide)]
    refine x_br rfl rfl (fun c => ?_) (fun c => absurd c (fun z => z rfl))
    repeat refine x_s rfl rfl ?_
    exact x_iret rfl rfl rfl ⟨rfl, _, rfl, mS_f m0 (Or.inl rfl), rfl⟩
  rw [if_pos rfl]
  refine x_br rfl rfl (fun c => absurd c (by decide)) (fun c => ?_)
  repeat refine x_s rfl rfl ?_
  refine x_cv (k_isWhat d0 L z0 u (m := 1) (by decide)) rfl rfl rfl (by decide) rfl (by decide) rfl (Nat.le_of_ble_eq_true rfl) (by decide) (by decide) (by decide) ?_
  rintro _ _ ⟨rfl, rfl⟩
  cases hb2 : inB u 2
  · rw [if_neg (by decide)]
    refine x_br rfl rfl (fun c => ?_) (fun c => absurd c (fun z => z rfl))
    repeat refine x_s rfl rfl ?_
    exact x_iret rfl rfl rfl ⟨rfl, _, rfl, mS_f m0 (Or.inl rfl), rfl⟩
  rw [if_pos rfl]
  refine x_br rfl rfl (fun c => absurd c (by decide)) (fun c => ?_)
  repeat refine x_s rfl rfl ?_
  refine x_cv (k_isLie d0 L z0 y z) rfl rfl rfl (by decide) rfl (by decide) rfl (Nat.le_of_ble_eq_true rfl) (by decide) (by decide) (by decide) ?_
  rintro _ _ ⟨rfl, rfl⟩
  cases hb3 : inL y z
  · rw [if_neg (by decide)]
    refine x_br rfl rfl (fun c => absurd c (fun z => z rfl)) (fun c => ?_)
    repeat refine x_s rfl rfl ?_
    exact x_iret rfl rfl rfl ⟨rfl, _, rfl, mS_f m0 (Or.inl rfl), rfl⟩
  rw [if_pos rfl]
  refine x_br rfl rfl (fun c => ?_) (fun c => absurd c (fun z => absurd z (by decide)))
  obtain ⟨q1, q2, q3⟩ := inB_iN hb
  generalize iN x = p at q1 q2 q3 ⊢
  subst q2
  obtain ⟨s1, s2, s3⟩ := inB_iN hb2
  generalize iN u = w at s1 s2 s3 ⊢
  subst s2
  obtain ⟨⟨l1, l2, l3⟩, t1', t2'⟩ := inL_iN hb3
  generalize iN y = dg at l1 l2 l3 ⊢
  generalize iN z = t at t1' t2' ⊢
  subst l3
  subst t2'
  have hp3 := R.2.2.2.1 p q1
  repeat refine x_s rfl rfl ?_
  refine x_cv (k_laysLie d0 L H0 R (p := 10) (dg := dg) (ho := t)) rfl rfl rfl (by decide) rfl (by decide) rfl (Nat.le_of_ble_eq_true rfl) (by decide) (by decide) (by decide) ?_
  rintro _ _ ⟨rfl, d1, rfl, m1, t1, H1⟩
  have M1 := mS_tr m0 m1
  have T1 : d1 112 0 = 0 := t1.trans z0
  have h3 := (HB_mS R H M1).2.2.1 p q1
  repeat refine x_s rfl rfl ?_
  refine x_ald rfl rfl rfl (k := p) (rfl) (by omega) (by decide) rfl ?_
  rw [h3.2.2]
  refine x_iast rfl rfl (k := 10) (rfl) (by omega) (by decide) rfl ?_
  have X2 := HLx_of (k := F.1 3 p) H1 r1
  have M2 := mS_10 (x := nI (F.1 3 p)) M1 (c := 115) (by simp)
  have T2 : up2 d1 115 10 (nI (F.1 3 p)) 112 0 = 0 := T1
  generalize hk3 : F.1 3 p = k3 at X2 M2 T2 ⊢
  generalize hG : F10 (oneL F 10 dg t) 0 0 k3 = G0 at X2
  generalize up2 d1 115 10 (nI k3) = d3 at X2 M2 T2 ⊢
  generalize hP : hiP F p dg t = P
  have key : ∀ xx yy n, hr (pxy G0 xx yy) n 0 = tn F.2.1 dg k3 (fxy F n xx yy) (F.1 7 n) (F.1 8 n) t := by
    intro xx yy n
    rw [← hG, pxy_F10]
    rfl
  have RMx : ∀ xx yy, xx ≤ 40 → yy ≤ 40 → RM (pxy G0 xx yy) true false := by
    intro xx yy h1 h2
    have R0 := RM_0 R
    have e : pxy G0 xx yy = (tl (pxy (F10 (fst0 F 0) 0 0 k3) xx yy).1 t 10 dg, F.2) := by
      rw [← hG, pxy_F10, pxy_F10]
      unfold oneL F10 tl
      show (up2 (up2 (up2 (up2 (up2 (up2 (up2 (fst0 F 0).1 10 0 t) 11 0 10) 12 0 dg) 9 0 1) 1 10 xx) 2 10 yy) 3 10 k3, F.2) = (up2 (up2 (up2 (up2 (up2 (up2 (up2 (fst0 F 0).1 1 10 xx) 2 10 yy) 3 10 k3) 10 0 t) 11 0 10) 12 0 dg) 9 0 1, F.2)
      congr 1
      rw [up2_cm (c := 9) (c' := 1) (by decide), up2_cm (c := 12) (c' := 1) (by decide), up2_cm (c := 11) (c' := 1) (by decide), up2_cm (c := 10) (c' := 1) (by decide)]
      rw [up2_cm (c := 9) (c' := 2) (by decide), up2_cm (c := 12) (c' := 2) (by decide), up2_cm (c := 11) (c' := 2) (by decide), up2_cm (c := 10) (c' := 2) (by decide)]
      rw [up2_cm (c := 9) (c' := 3) (by decide), up2_cm (c := 12) (c' := 3) (by decide), up2_cm (c := 11) (c' := 3) (by decide), up2_cm (c := 10) (c' := 3) (by decide)]
    rw [e]
    have RG0 : RM (F10 (fst0 F 0) 0 0 k3) false false := by
      obtain ⟨a1, a2, a3, a4, a5, a6⟩ := R0
      refine ⟨a1, a2, a3, fun p hp => ?_, a5, a6⟩
      rcases hp with hp | hp
      · have hp' : p < F.1 0 0 := hp
        have e := F10_p (F := fst0 F 0) (x := 0) (y := 0) (k := k3) (p := p) (by omega)
        rw [e.1, e.2.1, e.2.2]
        exact a4 p (Or.inl hp)
      · exact absurd hp.1 (by decide)
    exact RM_x (G := F10 (fst0 F 0) 0 0 k3) RG0 h1 h2 (show k3 ≤ 9 by omega) r1 (show 0 < 120 by decide) t1' l2
  have outer : ∀ yy, yy ≤ 41 → ∀ a b V, a = nI (cF P (41 * yy)) → V = (if b = -1 then fG P (41 * yy) (1681 - 41 * yy) else b) → ∀ d4, mS d d4 → d4 112 0 = 0 → HLx d4 G0 false → ∀ o, Ex mX12_hideouts false 14 0 0 64 [some (.ref 112), some (.int (nI p)), some (.int (nI dg)), some (.int (nI t)), some (.int (nI w)), some (.int a), some (.int b), some (.int (nI yy)), o] [] (W0 d4 L) (qM d L true (if w = 1 then V else nI (cF P 1681)) 2) nX := by
    refine x_down _ ?_ ?_
    · intro a b V ha hV d4 M4 T4 X4 o
      repeat refine x_s rfl rfl ?_
      refine x_br rfl rfl (fun c => ?_) (fun c => absurd c (fun z => z (by decide)))
      repeat refine x_s rfl rfl ?_
      refine x_br rfl rfl (fun c1 => ?_) (fun c1 => ?_)
      · have hw : w = 1 := by
          rcases (by omega : w = 0 ∨ w = 1) with z | z
          · exact absurd (by rw [z]; rfl) c1
          · exact z
        repeat refine x_s rfl rfl ?_
        refine x_iret rfl rfl rfl ⟨?_, d4, rfl, M4, T4⟩
        show some (Value.int b) = some (Value.int (if w = 1 then V else nI (cF P 1681)))
        rw [if_pos hw, hV]
        by_cases hb : b = -1
        · rw [if_pos hb, hb]
          rfl
        · rw [if_neg hb]
      · have hw : ¬ w = 1 := fun z => by
          rw [z] at c1
          exact absurd c1 (by decide)
        repeat refine x_s rfl rfl ?_
        refine x_iret rfl rfl rfl ⟨?_, d4, rfl, M4, T4⟩
        show some (Value.int a) = some (Value.int (if w = 1 then V else nI (cF P 1681)))
        rw [if_neg hw, ha]
    · intro yy hyy ih a b V ha hV d4 M4 T4 X4 o
      repeat refine x_s rfl rfl ?_
      refine x_br rfl rfl (fun c => absurd c (nI_nlt (a := 40) (by omega) (by omega))) (fun c => ?_)
      have inner : ∀ xx, xx ≤ 41 → ∀ a b, a = nI (cF P (41 * yy + xx)) → V = (if b = -1 then fG P (41 * yy + xx) (1681 - (41 * yy + xx)) else b) → ∀ d4, mS d d4 → d4 112 0 = 0 → HLx d4 G0 false → Ex mX12_hideouts false 14 0 0 74 [some (.ref 112), some (.int (nI p)), some (.int (nI dg)), some (.int (nI t)), some (.int (nI w)), some (.int a), some (.int b), some (.int (nI yy)), some (.int (nI xx))] [] (W0 d4 L) (qM d L true (if w = 1 then V else nI (cF P 1681)) 2) nX := by
        refine x_down _ ?_ ?_
        · intro a b ha hV d4 M4 T4 X4
          repeat refine x_s rfl rfl ?_
          refine x_br rfl rfl (fun c => ?_) (fun c => absurd c (fun z => z (by decide)))
          iterate 2 refine x_s rfl rfl ?_
          rw [nI_1]
          exact ih _ _ _ ha hV d4 M4 T4 X4 _
        · intro xx hxx ih2 a b ha hV d4 M4 T4 X4
          have hj := jm xx yy hxx
          have hlt : 41 * yy + xx < 1681 := by omega
          repeat refine x_s rfl rfl ?_
          refine x_br rfl rfl (fun c => absurd c (nI_nlt (a := 40) (by omega) (by omega))) (fun c => ?_)
          repeat refine x_s rfl rfl ?_
          refine x_iast rfl rfl (k := 10) (rfl) (by omega) (by decide) rfl ?_
          repeat refine x_s rfl rfl ?_
          refine x_iast rfl rfl (k := 10) (rfl) (by omega) (by decide) rfl ?_
          have H5 := X4 xx yy
          have X5 := HLx_up X4 (nI xx) (nI yy)
          have M5 : mS d (up2 (up2 d4 113 10 (nI xx)) 114 10 (nI yy)) := mS_10 (mS_10 M4 (by simp)) (by simp)
          have T5 : (up2 (up2 d4 113 10 (nI xx)) 114 10 (nI yy)) 112 0 = 0 := T4
          generalize up2 (up2 d4 113 10 (nI xx)) 114 10 (nI yy) = d5 at H5 X5 M5 T5 ⊢
          repeat refine x_s rfl rfl ?_
          refine x_cv (k_heardBy d5 L H5 (RMx xx yy (by omega) (by omega)) (s := 0) (by rw [← hG, pxy_F10]; exact Nat.zero_lt_one)) rfl rfl rfl (by decide) rfl (by decide) rfl (Nat.le_of_ble_eq_true rfl) (by decide) (by decide) (by decide) ?_
          rintro _ _ ⟨rfl, d6, rfl, hs6⟩
          have M6 := mS_go M5 hs6 (by decide) (by decide) (by decide) (by decide) (by decide)
          have T6 : d6 112 0 = 0 := by rw [hs6 112 (by decide)]; exact T5
          have X6 := HLx_sm X5 hs6 (by decide)
          have e4 : (pxy G0 xx yy).1 4 0 = F.1 4 0 := by rw [← hG]; rfl
          have eP : decide (bF (fun n => hr (pxy G0 xx yy) n 0) ((pxy G0 xx yy).1 4 0) = 0) = P (41 * yy + xx) := by
            rw [← hP, hiP, hj.1, hj.2, e4, hk3]
            rw [bF_cong (g := fun n => tn F.2.1 dg k3 (fxy F n xx yy) (F.1 7 n) (F.1 8 n) t) (fun n _ => key xx yy n)]
          have ex : 41 * yy + (xx + 1) = 41 * yy + xx + 1 := by omega
          refine x_br rfl rfl (fun c1 => ?_) (fun c1 => ?_)
          · have c2 : P (41 * yy + xx) = true := by rw [← eP]; exact decide_eq_true c1
            repeat refine x_s rfl rfl ?_
            refine x_br rfl rfl (fun c3 => ?_) (fun c3 => ?_)
            · have c3' : ¬ b = -1 := c3
              iterate 2 refine x_s rfl rfl ?_
              rw [nI_1 xx]
              exact ih2 _ _ (by rw [ha, nI_1, ex, cF, if_pos c2]) (by rw [hV, if_neg c3', if_neg c3']) d6 M6 T6 X6
            · have c3' : b = -1 := c3
              iterate 8 refine x_s rfl rfl ?_
              rw [nI_1 xx]
              refine ih2 _ _ (by rw [ha, nI_1, ex, cF, if_pos c2]) ?_ d6 M6 T6 X6
              have e := fG_t hlt c2
              have ne := pl_ne hlt
              rw [hj.1, hj.2] at e ne
              rw [hV, if_pos c3', e, if_neg ne]
          · have c2 : P (41 * yy + xx) = false := by rw [← eP]; exact decide_eq_false c1
            iterate 3 refine x_s rfl rfl ?_
            rw [nI_1]
            refine ih2 _ _ (by rw [ha, ex, cF, if_neg (by rw [c2]; decide)]) ?_ d6 M6 T6 X6
            rw [hV]
            by_cases hb : b = -1
            · rw [if_pos hb, if_pos hb, fG_f hlt c2, ex]
            · rw [if_neg hb, if_neg hb]
      iterate 2 refine x_s rfl rfl ?_
      exact inner 0 (Nat.zero_le _) a b ha hV d4 M4 T4 X4
  iterate 6 refine x_s rfl rfl ?_
  exact outer 0 (Nat.zero_le _) 0 (-1) _ rfl rfl d3 M2 T2 X2 _
end
