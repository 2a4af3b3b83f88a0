/-! THE COMPONENT reads tokens -/
def kz (z : Int) : Nat := if z = 32 ∨ z = 10 then 3 else if 97 ≤ z ∧ z ≤ 122 then 1 else if 48 ≤ z ∧ z ≤ 57 then 2 else if (40 ≤ z ∧ z ≤ 43) ∨ z = 45 ∨ z = 47 ∨ (59 ≤ z ∧ z ≤ 61) then z.toNat else 4
theorem kz_sb : ∀ c, c < 256 → kz (sb c).toInt = kof c := by decide +kernel
theorem sb_lo : ∀ c, c < 128 → sb c = nI c := by decide +kernel
theorem sb_hi : ∀ c, c < 256 → 128 ≤ c → (sb c).toInt < 0 := by decide +kernel
theorem sb_eq {c w : Nat} (hc : c < 256) (hw : w < 128) : sb c = nI w ↔ c = w := by
  rcases Nat.lt_or_ge c 128 with h | h
  · rw [sb_lo c h]
    exact nI_eq (by omega) (by omega)
  · constructor
    · intro e
      have h1 := sb_hi c hc h
      rw [e, nI_tI (by omega)] at h1
      omega
    · omega
def HX (d : Nat → Nat → Int32) (T : Nat → Nat) (n : Nat) : Prop := d 1 5 = nI n ∧ ∀ j, j < n → d 2 j = sb (T j)
def LXs (d : Nat → Nat → Int32) (T : Nat → Nat) (n s : Nat) : Prop := HX d T n ∧ d 1 6 = nI (tE T n s) ∧ d 1 7 = nI s ∧ d 1 8 = nI (tK T n s) ∧ d 1 9 = nI (tN T n s)
/-- the reader stands before these tokens -/
def LT (d : Nat → Nat → Int32) (T : Nat → Nat) (n : Nat) (l : List Tk) : Prop := ∃ i, i ≤ n ∧ l = TL T n i ∧ LXs d T n (tS T n i)
def LF (d d' : Nat → Nat → Int32) : Prop := (∀ c, c ≠ 1 → d' c = d c) ∧ ∀ k, k ≠ 6 → k ≠ 7 → k ≠ 8 → k ≠ 9 → d' 1 k = d 1 k
theorem LF_rfl {d : Nat → Nat → Int32} : LF d d := ⟨fun _ _ => rfl, fun _ _ _ _ _ => rfl⟩
theorem LF_tr {d d' d'' : Nat → Nat → Int32} (h : LF d d') (h' : LF d' d'') : LF d d'' := ⟨fun c hc => (h'.1 c hc).trans (h.1 c hc), fun k a b c e => (h'.2 k a b c e).trans (h.2 k a b c e)⟩
theorem LF_up {d d' : Nat → Nat → Int32} {k : Nat} {x : Int32} (h : LF d d') (hk : k = 6 ∨ k = 7 ∨ k = 8 ∨ k = 9) : LF d (up2 d' 1 k x) := by
  refine ⟨fun c hc => (up2_ne hc).trans (h.1 c hc), fun j a b c e => ?_⟩
  rw [up2_k (by omega)]
  exact h.2 j a b c e
theorem HX_LF {d d' : Nat → Nat → Int32} {T : Nat → Nat} {n : Nat} (H : HX d T n) (h : LF d d') : HX d' T n := by
  refine ⟨(h.2 5 (by decide) (by decide) (by decide) (by decide)).trans H.1, fun j hj => ?_⟩
  rw [h.1 2 (by decide)]
  exact H.2 j hj
section
variable (d : Nat → Nat → Int32) (L : Nat → Nat → Int64) {T : Nat → Nat} {n : Nat}
set_option maxRecDepth 100000 in
set_option maxHeartbeats 1600000 in
theorem c_kindOf (x : Int32) : Cn mX5_kindOf false 1 0 0 [.int x] (W0 d L) (qP d L (nI (kz x.toInt))) := by
  have hr := i32_rng x
  have e32 : (32 : Int32).toInt = 32 := rfl
  have e10 : (10 : Int32).toInt = 10 := rfl
  have e97 : (97 : Int32).toInt = 97 := rfl
  have e122 : (122 : Int32).toInt = 122 := rfl
  have e48 : (48 : Int32).toInt = 48 := rfl
  have e57 : (57 : Int32).toInt = 57 := rfl
  have e40 : (40 : Int32).toInt = 40 := rfl
  have e43 : (43 : Int32).toInt = 43 := rfl
  have e45 : (45 : Int32).toInt = 45 := rfl
  have e47 : (47 : Int32).toInt = 47 := rfl
  have e59 : (59 : Int32).toInt = 59 := rfl
  have e61 : (61 : Int32).toInt = 61 := rfl
  refine Cn.intro gX5_kindOf rfl (Nat.le_of_ble_eq_true rfl) rfl ?_
  repeat refine x_s rfl rfl ?_
  have at12 : (x.toInt = 32 ∨ x.toInt = 10) → Ex mX5_kindOf false 1 0 0 12 [some (.int x), none] [] (W0 d L) (qP d L (nI (kz x.toInt))) nX := by
    intro h
    repeat refine x_s rfl rfl ?_
    refine x_iret rfl rfl rfl ⟨congrArg (fun z => some (Value.int z)) ?_, rfl⟩
    rw [show kz x.toInt = 3 from by unfold kz; rw [if_pos h]]
    rfl
  refine x_br rfl rfl (fun c1 => ?_) (fun c1 => ?_)
  · exact at12 (Or.inl (by rw [c1]; rfl))
  rw [ieq, e32] at c1
  repeat refine x_s rfl rfl ?_
  refine x_br rfl rfl (fun c2 => ?_) (fun c2 => ?_)
  rotate_left
  · exact at12 (Or.inr (by rw [c2]; rfl))
  rw [ieq, e10] at c2
  have at28 : ¬ (97 ≤ x.toInt ∧ x.toInt ≤ 122) → Ex mX5_kindOf false 1 0 0 28 [some (.int x), none] [] (W0 d L) (qP d L (nI (kz x.toInt))) nX := by
    intro h1
    have at42 : ¬ (48 ≤ x.toInt ∧ x.toInt ≤ 57) → Ex mX5_kindOf false 1 0 0 42 [some (.int x), none] [] (W0 d L) (qP d L (nI (kz x.toInt))) nX := by
      intro h2
      have at78 : ((40 ≤ x.toInt ∧ x.toInt ≤ 43) ∨ x.toInt = 45 ∨ x.toInt = 47 ∨ (59 ≤ x.toInt ∧ x.toInt ≤ 61)) → Ex mX5_kindOf false 1 0 0 78 [some (.int x), none] [] (W0 d L) (qP d L (nI (kz x.toInt))) nX := by
        intro h3
        repeat refine x_s rfl rfl ?_
        refine x_br rfl rfl (fun c => absurd c (by decide)) (fun c => ?_)
        repeat refine x_s rfl rfl ?_
        refine x_iret rfl rfl rfl ⟨congrArg (fun z => some (Value.int z)) ?_, rfl⟩
        rw [show kz x.toInt = x.toInt.toNat from by unfold kz; rw [if_neg (by omega), if_neg h1, if_neg h2, if_pos h3]]
        exact nI_ofI (by omega) (by omega)
      have at82 : ¬ ((40 ≤ x.toInt ∧ x.toInt ≤ 43) ∨ x.toInt = 45 ∨ x.toInt = 47 ∨ (59 ≤ x.toInt ∧ x.toInt ≤ 61)) → Ex mX5_kindOf false 1 0 0 82 [some (.int x), none] [] (W0 d L) (qP d L (nI (kz x.toInt))) nX := by
        intro h3
        repeat refine x_s rfl rfl ?_
        refine x_br rfl rfl (fun c => ?_) (fun c => absurd c (fun z => z rfl))
        repeat refine x_s rfl rfl ?_
        refine x_iret rfl rfl rfl ⟨congrArg (fun z => some (Value.int z)) ?_, rfl⟩
        rw [show kz x.toInt = 4 from by unfold kz; rw [if_neg (by omega), if_neg h1, if_neg h2, if_neg h3]]
        rfl
      have at54 : ¬ (40 ≤ x.toInt ∧ x.toInt ≤ 43) → Ex mX5_kindOf false 1 0 0 54 [some (.int x), none] [] (W0 d L) (qP d L (nI (kz x.toInt))) nX := by
        intro h3
        repeat refine x_s rfl rfl ?_
        refine x_br rfl rfl (fun c5 => ?_) (fun c5 => ?_)
        · exact at78 (Or.inr (Or.inl (by rw [c5]; rfl)))
        rw [ieq, e45] at c5
        repeat refine x_s rfl rfl ?_
        refine x_br rfl rfl (fun c6 => ?_) (fun c6 => ?_)
        · exact at78 (Or.inr (Or.inr (Or.inl (by rw [c6]; rfl))))
        rw [ieq, e47] at c6
        repeat refine x_s rfl rfl ?_
        refine x_br rfl rfl (fun c7 => ?_) (fun c7 => ?_)
        · rw [ilt, e59] at c7
          exact at82 (by omega)
        rw [ilt, e59] at c7
        repeat refine x_s rfl rfl ?_
        refine x_br rfl rfl (fun c8 => ?_) (fun c8 => ?_)
        · rw [ilt, e61] at c8
          exact at82 (by omega)
        rw [ilt, e61] at c8
        exact at78 (by omega)
      repeat refine x_s rfl rfl ?_
      refine x_br rfl rfl (fun c3 => ?_) (fun c3 => ?_)
      · rw [ilt, e40] at c3
        exact at54 (by omega)
      rw [ilt, e40] at c3
      repeat refine x_s rfl rfl ?_
      refine x_br rfl rfl (fun c4 => ?_) (fun c4 => ?_)
      · rw [ile, e43] at c4
        exact at78 (by omega)
      rw [ile, e43] at c4
      exact at54 (by omega)
    repeat refine x_s rfl rfl ?_
    refine x_br rfl rfl (fun c3 => ?_) (fun c3 => ?_)
    · rw [ilt, e48] at c3
      exact at42 (by omega)
    rw [ilt, e48] at c3
    repeat refine x_s rfl rfl ?_
    refine x_br rfl rfl (fun c4 => ?_) (fun c4 => ?_)
    · rw [ilt, e57] at c4
      exact at42 (by omega)
    rw [ilt, e57] at c4
    repeat refine x_s rfl rfl ?_
    refine x_iret rfl rfl rfl ⟨congrArg (fun z => some (Value.int z)) ?_, rfl⟩
    rw [show kz x.toInt = 2 from by unfold kz; rw [if_neg (by omega), if_neg h1, if_pos (by omega)]]
    rfl
  repeat refine x_s rfl rfl ?_
  refine x_br rfl rfl (fun c3 => ?_) (fun c3 => ?_)
  · rw [ilt, e97] at c3
    exact at28 (by omega)
  rw [ilt, e97] at c3
  repeat refine x_s rfl rfl ?_
  refine x_br rfl rfl (fun c4 => ?_) (fun c4 => ?_)
  · rw [ilt, e122] at c4
    exact at28 (by omega)
  rw [ilt, e122] at c4
  repeat refine x_s rfl rfl ?_
  refine x_iret rfl rfl rfl ⟨congrArg (fun z => some (Value.int z)) ?_, rfl⟩
  rw [show kz x.toInt = 1 from by unfold kz; rw [if_neg (by omega), if_pos (by omega)]]
  rfl
set_option maxRecDepth 100000 in
set_option maxHeartbeats 1600000 in
theorem c_adv {i : Nat} (hn : n ≤ 700) (hi : i ≤ n) (hT : ∀ j, T j < 256) (H : HX d T n) (h6 : d 1 6 = nI i) : Cn mX5_advance false 2 0 0 [.ref 1] (W0 d L) (fun r h => r = none ∧ ∃ d', h = W0 d' L ∧ LF d d' ∧ LXs d' T n (tS T n i)) := by
  obtain ⟨s1, s2, s3, s4⟩ := tS_sp (T := T) hi
  generalize tS T n i = s at s1 s2 s3 s4 ⊢
  have ek : ∀ d1, LF d d1 → ∀ j, j < n → kz (d1 2 j).toInt = kof (T j) := by
    intro d1 f1 j hj
    rw [(HX_LF H f1).2 j hj]
    exact kz_sb _ (hT j)
  have sk : ∀ Q : xPost, (∀ d1, LF d d1 → d1 1 6 = nI s → Ex mX5_advance false 2 0 0 40 [some (.ref 1)] [] (W0 d1 L) Q nX) → ∀ k, k ≤ s → i ≤ k → ∀ d1, LF d d1 → d1 1 6 = nI k → Ex mX5_advance false 2 0 0 0 [some (.ref 1)] [] (W0 d1 L) Q nX := by
    intro Q K
    refine x_down _ ?_ ?_
    · intro _ d1 f1 p1
      have H1 := HX_LF H f1
      repeat refine x_s rfl rfl ?_
      rcases Nat.lt_or_ge s n with h | h
      · refine x_br rfl rfl (fun c => absurd c (by rw [p1, H1.1]; exact nI_ge h (by omega))) (fun c => ?_)
        repeat refine x_s rfl rfl ?_
        refine x_ald rfl rfl rfl (k := s) (p1) (by omega) (by decide) rfl ?_
        refine x_cs (c_kindOf d1 L _) rfl rfl rfl (by decide) (Nat.le_of_ble_eq_true rfl) (by decide) (by decide) (by decide) ?_
        rintro _ _ ⟨rfl, rfl⟩
        rw [ek d1 f1 s h]
        repeat refine x_s rfl rfl ?_
        refine x_br rfl rfl (fun c => ?_) (fun c => absurd c (fun z => s3 h ((nI_eq (by have := (kof_le (T s)).2; omega) (by decide)).mp z)))
        exact K d1 f1 p1
      · refine x_br rfl rfl (fun c => ?_) (fun c => absurd c (fun z => z (by rw [p1, H1.1]; exact nI_le h (by omega))))
        exact K d1 f1 p1
    · intro k hk ih hik d1 f1 p1
      have H1 := HX_LF H f1
      obtain ⟨a1, a2⟩ := s2 k hik hk
      repeat refine x_s rfl rfl ?_
      refine x_br rfl rfl (fun c => absurd c (by rw [p1, H1.1]; exact nI_ge a1 (by omega))) (fun c => ?_)
      repeat refine x_s rfl rfl ?_
      refine x_ald rfl rfl rfl (k := k) (p1) (by omega) (by decide) rfl ?_
      refine x_cs (c_kindOf d1 L _) rfl rfl rfl (by decide) (Nat.le_of_ble_eq_true rfl) (by decide) (by decide) (by decide) ?_
      rintro _ _ ⟨rfl, rfl⟩
      rw [ek d1 f1 k a1, a2]
      repeat refine x_s rfl rfl ?_
      refine x_br rfl rfl (fun c => absurd c (fun z => z rfl)) (fun c => ?_)
      repeat refine x_s rfl rfl ?_
      refine x_put rfl rfl (by decide) rfl ⟨rfl, rfl⟩ (Or.inl rfl) ?_
      iterate 1 refine x_s rfl rfl ?_
      rw [show d1 1 6 + 1 = nI (k + 1) from by rw [p1, nI_1]]
      exact ih (by omega) _ (LF_up f1 (Or.inl rfl)) up2_eq
  refine Cn.intro gX5_advance rfl (Nat.le_of_ble_eq_true rfl) rfl ?_
  refine sk _ ?_ i s1 (Nat.le_refl _) d LF_rfl h6
  intro d1 f1 p1
  repeat refine x_s rfl rfl ?_
  refine x_put rfl rfl (by decide) rfl ⟨rfl, rfl⟩ (Or.inl rfl) ?_
  rw [p1]
  have f2 : LF d (up2 d1 1 7 (nI s)) := LF_up f1 (Or.inr (Or.inl rfl))
  have p2 : up2 d1 1 7 (nI s) 1 6 = nI s := p1
  have t2 : up2 d1 1 7 (nI s) 1 7 = nI s := up2_eq
  generalize up2 d1 1 7 (nI s) = d2 at f2 p2 t2 ⊢
  have H2 := HX_LF H f2
  have at76 : Ex mX5_advance false 2 0 0 76 [some (.ref 1)] [.int (nI (tK T n s)), .ref 1] (W0 d2 L) (fun r h => r = none ∧ ∃ d', h = W0 d' L ∧ LF d d' ∧ LXs d' T n s) nX := by
    refine x_put rfl rfl (by decide) rfl ⟨rfl, rfl⟩ (Or.inl rfl) ?_
    repeat refine x_s rfl rfl ?_
    refine x_put rfl rfl (by decide) rfl ⟨rfl, rfl⟩ (Or.inl rfl) ?_
    have f3 : LF d (up2 (up2 d2 1 8 (nI (tK T n s))) 1 9 0) := LF_up (LF_up f2 (by simp)) (by simp)
    have p3 : up2 (up2 d2 1 8 (nI (tK T n s))) 1 9 0 1 6 = nI s := p2
    have t3 : up2 (up2 d2 1 8 (nI (tK T n s))) 1 9 0 1 7 = nI s := t2
    have k3 : up2 (up2 d2 1 8 (nI (tK T n s))) 1 9 0 1 8 = nI (tK T n s) := rfl
    have v3 : up2 (up2 d2 1 8 (nI (tK T n s))) 1 9 0 1 9 = nI 0 := rfl
    generalize up2 (up2 d2 1 8 (nI (tK T n s))) 1 9 0 = d3 at f3 p3 t3 k3 v3 ⊢
    have lp : ∀ kk, (kk = 1 ∨ kk = 2) → s < n → kof (T s) = kk → ∀ k, k ≤ tE T n s → s ≤ k → ∀ d4, LF d d4 → d4 1 6 = nI k → d4 1 7 = nI s → d4 1 8 = nI kk → d4 1 9 = nI (if kk = 2 then nvl T s (min (k - s) 4) else 0) → Ex mX5_advance false 2 0 0 100 [some (.ref 1)] [] (W0 d4 L) (fun r h => r = none ∧ ∃ d', h = W0 d' L ∧ LF d d' ∧ LXs d' T n s) nX := by
      intro kk hkk hs hk
      have eK : tK T n s = kk := by
        unfold tK
        rw [if_pos hs, hk]
      obtain ⟨w1, w2⟩ := tE_wd hs (by rw [hk]; exact hkk)
      obtain ⟨w3, w4⟩ := tE_sp (T := T) hs
      refine x_down _ ?_ ?_
      · intro _ d4 f4 p4 t4 k4 v4
        have H4 := HX_LF H f4
        have fin : LXs d4 T n s := by
          refine ⟨H4, p4, t4, by rw [eK]; exact k4, ?_⟩
          rw [v4]
          unfold tN
          rw [eK]
        repeat refine x_s rfl rfl ?_
        rcases Nat.lt_or_ge (tE T n s) n with h | h
        · refine x_br rfl rfl (fun c => absurd c (by rw [p4, H4.1]; exact nI_ge h (by omega))) (fun c => ?_)
          repeat refine x_s rfl rfl ?_
          refine x_ald rfl rfl rfl (k := tE T n s) (p4) (by omega) (by decide) rfl ?_
          refine x_cs (c_kindOf d4 L _) rfl rfl rfl (by decide) (Nat.le_of_ble_eq_true rfl) (by decide) (by decide) (by decide) ?_
          rintro _ _ ⟨rfl, rfl⟩
          rw [ek d4 f4 _ h]
          repeat refine x_s rfl rfl ?_
          rw [k4]
          refine x_br rfl rfl (fun c => ?_) (fun c => absurd c (fun z => w2 h (by rw [hk]; exact (nI_eq (by have := (kof_le (T (tE T n s))).2; omega) (by omega)).mp z)))
          exact x_vret rfl rfl ⟨rfl, d4, rfl, f4, fin⟩
        · refine x_br rfl rfl (fun c => ?_) (fun c => absurd c (fun z => z (by rw [p4, H4.1]; exact nI_le h (by omega))))
          exact x_vret rfl rfl ⟨rfl, d4, rfl, f4, fin⟩
      · intro k hke ih hsk d4 f4 p4 t4 k4 v4
        have H4 := HX_LF H f4
        obtain ⟨a1, a2⟩ := w1 k hsk hke
        rw [hk] at a2
        have at175 : ∀ d5, LF d d5 → d5 1 6 = nI k → d5 1 7 = nI s → d5 1 8 = nI kk → d5 1 9 = nI (if kk = 2 then nvl T s (min (k + 1 - s) 4) else 0) → Ex mX5_advance false 2 0 0 175 [some (.ref 1)] [] (W0 d5 L) (fun r h => r = none ∧ ∃ d', h = W0 d' L ∧ LF d d' ∧ LXs d' T n s) nX := by
          intro d5 f5 p5 t5 k5 v5
          repeat refine x_s rfl rfl ?_
          refine x_put rfl rfl (by decide) rfl ⟨rfl, rfl⟩ (Or.inl rfl) ?_
          iterate 1 refine x_s rfl rfl ?_
          rw [show d5 1 6 + 1 = nI (k + 1) from by rw [p5, nI_1]]
          exact ih (by omega) _ (LF_up f5 (Or.inl rfl)) up2_eq t5 k5 v5
        repeat refine x_s rfl rfl ?_
        refine x_br rfl rfl (fun c => absurd c (by rw [p4, H4.1]; exact nI_ge a1 (by omega))) (fun c => ?_)
        repeat refine x_s rfl rfl ?_
        refine x_ald rfl rfl rfl (k := k) (p4) (by omega) (by decide) rfl ?_
        refine x_cs (c_kindOf d4 L _) rfl rfl rfl (by decide) (Nat.le_of_ble_eq_true rfl) (by decide) (by decide) (by decide) ?_
        rintro _ _ ⟨rfl, rfl⟩
        rw [ek d4 f4 k a1, a2]
        repeat refine x_s rfl rfl ?_
        rw [k4]
        refine x_br rfl rfl (fun c => absurd c (fun z => z rfl)) (fun c => ?_)
        repeat refine x_s rfl rfl ?_
        rw [k4]
        rcases hkk with rfl | rfl
        · refine x_br rfl rfl (fun c => ?_) (fun c => absurd c (by decide))
          exact at175 d4 f4 p4 t4 k4 v4
        refine x_br rfl rfl (fun c => absurd c (fun z => z rfl)) (fun c => ?_)
        repeat refine x_s rfl rfl ?_
        rw [p4, t4, nI_s hsk (by omega)]
        rcases Nat.lt_or_ge (k - s) 4 with h | h
        · refine x_br rfl rfl (fun c => absurd c (nI_ge (b := 4) h (by decide))) (fun c => ?_)
          repeat refine x_s rfl rfl ?_
          refine x_ald rfl rfl rfl (k := k) (p4) (by omega) (by decide) rfl ?_
          repeat refine x_s rfl rfl ?_
          refine x_put rfl rfl (by decide) rfl ⟨rfl, rfl⟩ (Or.inl rfl) ?_
          obtain ⟨c1, c2⟩ := kof_2 a2
          have vb := nvl_b (T := T) s (k - s) (fun j hj => by
            have := (w1 (s + j) (by omega) (by omega)).2
            rw [hk] at this
            exact kof_2 this)
          have pb : 10 ^ (k - s) ≤ 10 ^ 3 := Nat.pow_le_pow_right (by decide) (by omega)
          have pe : (10 : Nat) ^ 3 = 1000 := by decide
          have ev : d4 1 9 * 10 + d4 2 k - 48 = nI (nvl T s (min (k + 1 - s) 4)) := by
            rw [v4, if_pos rfl, H4.2 k a1, sb_lo _ (by omega), show (10 : Int32) = nI 10 from rfl, nI_mul, nI_add, show (48 : Int32) = nI 48 from rfl, show min (k - s) 4 = k - s by omega, nI_s (by omega) (by omega), show min (k + 1 - s) 4 = k - s + 1 by omega]
            congr 1
            rw [show nvl T s (k - s + 1) = 10 * nvl T s (k - s) + (T (s + (k - s)) - 48) from rfl, show s + (k - s) = k by omega]
            omega
          rw [ev]
          exact at175 _ (LF_up f4 (by simp)) p4 t4 k4 rfl
        · refine x_br rfl rfl (fun c => ?_) (fun c => absurd c (fun z => z (nI_le (a := 4) h (by omega))))
          refine at175 d4 f4 p4 t4 k4 ?_
          rw [v4, if_pos rfl, if_pos rfl, show min (k - s) 4 = 4 by omega, show min (k + 1 - s) 4 = 4 by omega]
    repeat refine x_s rfl rfl ?_
    rw [k3]
    rcases Nat.lt_or_ge s n with hs | hs
    · have eK : tK T n s = kof (T s) := by
        unfold tK
        rw [if_pos hs]
      have kl := kof_le (T s)
      rw [eK] at k3 ⊢
      by_cases h1 : kof (T s) = 1
      · rw [h1]
        refine x_br rfl rfl (fun c => ?_) (fun c => absurd c (fun z => z rfl))
        rw [h1] at k3
        exact lp 1 (Or.inl rfl) hs h1 s (tE_ge s) (Nat.le_refl _) d3 f3 p3 t3 k3 v3
      · refine x_br rfl rfl (fun c => absurd c (fun z => h1 ((nI_eq (by omega) (by decide)).mp z))) (fun c => ?_)
        repeat refine x_s rfl rfl ?_
        rw [k3]
        by_cases h2 : kof (T s) = 2
        · rw [h2]
          refine x_br rfl rfl (fun c => absurd c (fun z => z rfl)) (fun c => ?_)
          rw [h2] at k3
          refine lp 2 (Or.inr rfl) hs h2 s (tE_ge s) (Nat.le_refl _) d3 f3 p3 t3 k3 ?_
          rw [if_pos rfl, Nat.sub_self]
          exact v3
        · refine x_br rfl rfl (fun c => ?_) (fun c => absurd c (fun z => h2 ((nI_eq (by omega) (by decide)).mp z)))
          repeat refine x_s rfl rfl ?_
          rw [k3]
          refine x_br rfl rfl (fun c => absurd c (nI_ne0 (by omega) (by omega))) (fun c => ?_)
          repeat refine x_s rfl rfl ?_
          refine x_put rfl rfl (by decide) rfl ⟨rfl, rfl⟩ (Or.inl rfl) ?_
          rw [show d3 1 6 + 1 = nI (s + 1) from by rw [p3, nI_1]]
          refine x_vret rfl rfl ⟨rfl, _, rfl, LF_up f3 (Or.inl rfl), HX_LF H (LF_up f3 (Or.inl rfl)), ?_, t3, by rw [eK]; exact k3, ?_⟩
          · rw [up2_eq]
            unfold tE
            rw [if_pos hs, if_neg (by omega)]
          · unfold tN
            rw [eK, if_neg h2]
            exact v3
    · have eK : tK T n s = 0 := tK_0.mpr hs
      rw [eK] at k3 ⊢
      refine x_br rfl rfl (fun c => absurd c (by decide)) (fun c => ?_)
      repeat refine x_s rfl rfl ?_
      rw [k3]
      refine x_br rfl rfl (fun c => ?_) (fun c => absurd c (by decide))
      repeat refine x_s rfl rfl ?_
      rw [k3]
      refine x_br rfl rfl (fun c => ?_) (fun c => absurd c (fun z => z rfl))
      refine x_vret rfl rfl ⟨rfl, d3, rfl, f3, HX_LF H f3, ?_, t3, by rw [eK]; exact k3, ?_⟩
      · unfold tE
        rw [if_neg (by omega)]
        exact p3
      · unfold tN
        rw [eK, if_neg (by decide)]
        exact v3
  repeat refine x_s rfl rfl ?_
  rcases Nat.lt_or_ge s n with hs | hs
  · refine x_br rfl rfl (fun c => absurd c (by rw [p2, H2.1]; exact nI_ge hs (by omega))) (fun c => ?_)
    repeat refine x_s rfl rfl ?_
    refine x_ald rfl rfl rfl (k := s) (p2) (by omega) (by decide) rfl ?_
    refine x_cs (c_kindOf d2 L _) rfl rfl rfl (by decide) (Nat.le_of_ble_eq_true rfl) (by decide) (by decide) (by decide) ?_
    rintro _ _ ⟨rfl, rfl⟩
    rw [ek d2 f2 s hs]
    repeat refine x_s rfl rfl ?_
    have eK : tK T n s = kof (T s) := by
      unfold tK
      rw [if_pos hs]
    rw [eK] at at76
    exact at76
  · refine x_br rfl rfl (fun c => ?_) (fun c => absurd c (fun z => z (by rw [p2, H2.1]; exact nI_le hs (by omega))))
    repeat refine x_s rfl rfl ?_
    rw [tK_0.mpr hs] at at76
    exact at76
end
