/-! THE CALLS (model): saucer, game, years -/
def HLy (d : Nat → Nat → Int32) (F : Fr) (x y t : Nat) : Prop := ∀ p : Nat, HL (up2 d 133 0 (nI p)) (oneL (F6 F x y) p 9 t) false true
theorem sm_bo {S : List Nat} {d d' : Nat → Nat → Int32} (h : sm S d d') (a k : Nat) (v : Int32) : sm S (up2 d a k v) (up2 d' a k v) := by
  intro c hc
  funext j
  unfold up2
  rw [h c hc]
theorem HLy_sm {S : List Nat} {d d' : Nat → Nat → Int32} {F : Fr} {x y t : Nat} (H : HLy d F x y t) (h : sm S d d') (hS : ∀ c, c ∈ [112, 113, 114, 115, 116, 117, 132, 134, 135, 136, 137] → c ∉ S) : HLy d' F x y t := by
  intro p
  have e : ∀ c, c ∈ [112, 113, 114, 115, 116, 117, 132, 134, 135, 136, 137] → up2 d' 133 0 (nI p) c = up2 d 133 0 (nI p) c := fun c hc => sm_bo h 133 0 (nI p) c (hS c hc)
  have Hp := H p
  unfold HL RlM at Hp ⊢
  rw [e 112 (by decide), e 113 (by decide), e 114 (by decide), e 115 (by decide), e 116 (by decide), e 117 (by decide), e 132 (by decide), e 134 (by decide), e 135 (by decide), e 136 (by decide), e 137 (by decide)]
  obtain ⟨h1, h2, h3, h4, h5, h6, h7, h8⟩ := Hp
  refine ⟨h1, h2, h3, h4, h5, fun s hs => ?_, h7, h8⟩
  have hs' : s < 1 := hs
  have e0 : s = 0 := by omega
  subst e0
  have q := h6 0 hs
  exact ⟨q.1, rfl, q.2.2⟩
def HLz (d : Nat → Nat → Int32) (F : Fr) (t : Nat) : Prop := ∀ x y : Nat, HLy (up2 (up2 d 135 6 (nI x)) 136 6 (nI y)) F x y t
theorem HLz_sm {S : List Nat} {d d' : Nat → Nat → Int32} {F : Fr} {t : Nat} (H : HLz d F t) (h : sm S d d') (hS : ∀ c, c ∈ [112, 113, 114, 115, 116, 117, 132, 134, 135, 136, 137] → c ∉ S) : HLz d' F t := fun x y => HLy_sm (H x y) (sm_bo (sm_bo h 135 6 (nI x)) 136 6 (nI y)) hS
theorem HLz_up {d : Nat → Nat → Int32} {F : Fr} {t : Nat} (H : HLz d F t) (a b : Int32) : HLz (up2 (up2 d 135 6 a) 136 6 b) F t := by
  intro x y
  have e : up2 (up2 (up2 (up2 d 135 6 a) 136 6 b) 135 6 (nI x)) 136 6 (nI y) = up2 (up2 d 135 6 (nI x)) 136 6 (nI y) := by rw [up2_cm (c := 136) (c' := 135) (by decide), up_up, up_up]
  rw [e]
  exact H x y
theorem HLy_up {d : Nat → Nat → Int32} {F : Fr} {x y t : Nat} (H : HLy d F x y t) (a : Int32) : HLy (up2 d 133 0 a) F x y t := by
  intro p
  rw [up_up]
  exact H p
theorem HLy_of {d : Nat → Nat → Int32} {F : Fr} {t q : Nat} (R : RG F) (H : HL d (oneL F q 9 t) false false) (h6 : d 116 6 = 60) (x y : Nat) : HLy (up2 (up2 (up2 d 137 6 0) 135 6 (nI x)) 136 6 (nI y)) F x y t := by
  intro p
  have r2 := R.2.1
  obtain ⟨h1, h2, h3, h4, h5, h6', h7, h8⟩ := H
  refine ⟨h1, h2, h3, h4, fun n hn => ?_, fun s hs => ?_, h7, h8⟩
  · show (if n = 6 then nI x else d 135 n) = nI (if n = 6 then x else F.1 5 n) ∧ (if n = 6 then nI y else d 136 n) = nI (if n = 6 then y else F.1 6 n) ∧ d 116 n = nI (if n = 6 then 60 else F.1 7 n) ∧ (if n = 6 then 0 else d 137 n) = nI (if n = 6 then 0 else F.1 8 n)
    by_cases e : n = 6
    · subst e
      exact ⟨rfl, rfl, h6, rfl⟩
    · simp only [if_neg e]
      rcases hn with hn | hn
      · exact h5 n (Or.inl hn)
      · exact absurd hn.2 e
  · have hs' : s < 1 := hs
    have e : s = 0 := by omega
    subst e
    have q6 := h6' 0 (show 0 < 1 by decide)
    exact ⟨q6.1, rfl, q6.2.2⟩
theorem RM_F6 {F : Fr} (R : RG F) {x y p t : Nat} (hx : x ≤ 40) (hy : y ≤ 40) (hp : p < F.1 0 0) (ht : t < 100) : RM (oneL (F6 F x y) p 9 t) false true := by
  have r2 := R.2.1
  obtain ⟨a1, a2, a3, a4, a5, a6⟩ := RM_0 R
  refine RM_tl (F := fst0 (F6 F x y) 0) ⟨a1, a2, Nat.zero_le _, a4, fun n hn => ?_, fun s hs => absurd hs (Nat.not_lt_zero _)⟩ (show 0 < 120 by decide) ht (Or.inl hp) (by decide)
  show (if n = 6 then x else F.1 5 n) ≤ 40 ∧ (if n = 6 then y else F.1 6 n) ≤ 40 ∧ (if n = 6 then 60 else F.1 7 n) ≤ 60 ∧ (if n = 6 then 0 else F.1 8 n) ≤ 9
  by_cases e : n = 6
  · simp only [if_pos e]
    omega
  · simp only [if_neg e]
    rcases hn with hn | hn
    · exact a5 n (Or.inl hn)
    · exact absurd hn.2 e
theorem pc_bc {x : Int32} (h : ∀ i, 10 ≤ i → bt x i = false) : pcI x = bc x := by
  rw [bc_cF (n := 10) (by decide) h]
  unfold pcI
  rw [← cF_and (f := bt x) (n := 10) (m := 16) (by decide)]
  refine congrArg nI (cF_cong (fun i _ => ?_))
  by_cases hi : i < 10
  · simp [hi]
  · simp [hi, h i (by omega)]
/-! two liars -/
def oCy (a b : Nat) (ba bb : Bool) (p : Nat) : Bool := (decide (p = a) && ba) || (decide (p = b) && bb)
theorem ax_2 (F : Fr) (n a b : Nat) (ba bb : Bool) (hab : a ≠ b) : ∀ k, ax F n (oCy a b ba bb) k = (if ba && decide (a < k) then dx F n a else 0) + (if bb && decide (b < k) then dx F n b else 0) ∧ ay F n (oCy a b ba bb) k = (if ba && decide (a < k) then dy F n a else 0) + (if bb && decide (b < k) then dy F n b else 0) ∧ am F n (oCy a b ba bb) k = ((ba && decide (a < k) && mv F n a) || (bb && decide (b < k) && mv F n b)) ∧ aF (oCy a b ba bb) k = ((ba && decide (a < k)) || (bb && decide (b < k)))
  | 0 => by simp [ax, ay, am, aF]
  | k + 1 => by
    obtain ⟨i1, i2, i3, i4⟩ := ax_2 F n a b ba bb hab k
    unfold ax ay am aF
    rw [i1, i2, i3, i4]
    have e1 : decide (a < k + 1) = (decide (a < k) || decide (k = a)) := by
      by_cases h : a < k
      · have : a < k + 1 := by omega
        simp [h, this]
      · by_cases h2 : k = a
        · subst h2; simp
        · have : ¬ a < k + 1 := by omega
          simp [h, h2, this]
    have e2 : decide (b < k + 1) = (decide (b < k) || decide (k = b)) := by
      by_cases h : b < k
      · have : b < k + 1 := by omega
        simp [h, this]
      · by_cases h2 : k = b
        · subst h2; simp
        · have : ¬ b < k + 1 := by omega
          simp [h, h2, this]
    rw [e1, e2]
    unfold oCy
    by_cases ha : k = a
    · subst ha
      have hb : ¬ k = b := hab
      have la : ¬ k < k := by omega
      cases ba <;> cases bb <;> cases hd : decide (b < k) <;> simp [hb, la, Int.add_comm, Bool.or_comm]
    · by_cases hb : k = b
      · subst hb
        have lb : ¬ k < k := by omega
        cases ba <;> cases bb <;> cases hd : decide (a < k) <;> simp [ha, lb]
      · simp [ha, hb]
theorem yC_bt : ∀ one, one < 10 → ∀ other, other < 10 → ∀ c, c < 4 → ∀ p, p < 10 → bt (yC one other c) p = oCy one other (decide (c / 2 = 1)) (decide (c % 2 = 1)) p := by decide +kernel
theorem sai_tl {F : Fr} {t q g p : Nat} : sai (tl F.1 t q g, F.2) t p = sai F t p + if q = p then 1 else 0 := by
  have c : cF (fun s => decide ((tl F.1 t q g) 11 s = p) && decide ((tl F.1 t q g) 10 s ≤ t)) (F.1 9 0) = sai F t p := by
    unfold sai
    refine cF_cong (fun s hs => ?_)
    have e := tl_lt (F := F) (t := t) (p := q) (g := g) hs
    rw [e.1, e.2.1]
  show (if decide ((tl F.1 t q g) 11 (F.1 9 0) = p) && decide ((tl F.1 t q g) 10 (F.1 9 0) ≤ t) then cF (fun s => decide ((tl F.1 t q g) 11 s = p) && decide ((tl F.1 t q g) 10 s ≤ t)) (F.1 9 0) + 1 else cF (fun s => decide ((tl F.1 t q g) 11 s = p) && decide ((tl F.1 t q g) 10 s ≤ t)) (F.1 9 0)) = _
  have e := tl_at (F := F) (t := t) (p := q) (g := g)
  rw [c, e.2.1, e.2.2.1]
  by_cases h : q = p
  · simp [h]
  · simp [h]
def two (F : Fr) (ho a b : Nat) (ba bb : Bool) : Fr := if bb then (if ba then (tl (tl F.1 ho a 9) ho b 9, F.2) else (tl F.1 ho b 9, F.2)) else (if ba then (tl F.1 ho a 9, F.2) else F)
theorem two_s (F : Fr) (ho a b : Nat) (ba bb : Bool) : saN F (two F ho a b ba bb) := by
  unfold two
  cases ba <;> cases bb
  · exact saN_rfl
  · exact saN_tl
  · exact saN_tl
  · exact saN_tr (G := (tl F.1 ho a 9, F.2)) saN_tl saN_tl
theorem sF_1 (F : Fr) (n ho p : Nat) : sF (tl F.1 ho p 9, F.2) n (hr (tl F.1 ho p 9, F.2) n) ho ((tl F.1 ho p 9) 9 0) = if hl F n p 9 ho then (ho + 1, wx F n (Bh F n ho) (F.1 9 0) + dx F n p, wy F n (Bh F n ho) (F.1 9 0) + dy F n p, wm F n (Bh F n ho) (F.1 9 0) || mv F n p) else sF F n (hr F n) ho (F.1 9 0) := by
  show sF (tl F.1 ho p 9, F.2) n (hr (tl F.1 ho p 9, F.2) n) ho (F.1 9 0 + 1) = _
  rw [sF_tl, stp_same F n ho _ (hl F n p 9 ho) (wx F n (Bh F n ho) (F.1 9 0)) (wy F n (Bh F n ho) (F.1 9 0)) (wm F n (Bh F n ho) (F.1 9 0)) false]
  · cases hl F n p 9 ho <;> simp
  · simp
  · intro _
    exact base_ho F n ho
theorem two_sF (F : Fr) (n ho a b : Nat) (ba bb : Bool) : sF (two F ho a b ba bb) n (hr (two F ho a b ba bb) n) ho ((two F ho a b ba bb).1 9 0) = if (ba && hl F n a 9 ho) || (bb && hl F n b 9 ho) then (ho + 1, wx F n (Bh F n ho) (F.1 9 0) + ((if ba && hl F n a 9 ho then dx F n a else 0) + (if bb && hl F n b 9 ho then dx F n b else 0)), wy F n (Bh F n ho) (F.1 9 0) + ((if ba && hl F n a 9 ho then dy F n a else 0) + (if bb && hl F n b 9 ho then dy F n b else 0)), wm F n (Bh F n ho) (F.1 9 0) || ((ba && hl F n a 9 ho && mv F n a) || (bb && hl F n b 9 ho && mv F n b))) else sF F n (hr F n) ho (F.1 9 0) := by
  unfold two
  cases ba <;> cases bb
  · simp
  · have h := sF_1 F n ho b
    simp only [Bool.false_eq_true, if_false, if_true, Bool.false_and, Bool.true_and, Bool.false_or]
    rw [h]
    cases hl F n b 9 ho <;> simp
  · have h := sF_1 F n ho a
    simp only [Bool.false_eq_true, if_false, if_true, Bool.false_and, Bool.true_and, Bool.or_false]
    rw [h]
    cases hl F n a 9 ho <;> simp
  · have h := sF_1 F n ho a
    simp only [if_true, Bool.true_and]
    show sF (tl (tl F.1 ho a 9) ho b 9, F.2) n (hr (tl (tl F.1 ho a 9) ho b 9, F.2) n) ho ((tl F.1 ho a 9) 9 0 + 1) = _
    have s : saN F (tl F.1 ho a 9, F.2) := saN_tl
    have h2 := sF_tl (F := (tl F.1 ho a 9, F.2)) (t := ho) (p := b) (g := 9) (n := n) (h := ho)
    rw [h2, h, hl_s s, dx_s s, dy_s s, mv_s s]
    rw [stp_same F n ho _ (hl F n b 9 ho) (wx F n (Bh F n ho) (F.1 9 0) + (if hl F n a 9 ho then dx F n a else 0)) (wy F n (Bh F n ho) (F.1 9 0) + (if hl F n a 9 ho then dy F n a else 0)) (wm F n (Bh F n ho) (F.1 9 0) || (hl F n a 9 ho && mv F n a)) (hl F n a 9 ho)]
    · cases hl F n a 9 ho <;> cases hl F n b 9 ho <;> simp [Int.add_assoc, Bool.or_assoc]
    · cases hl F n a 9 ho <;> simp
    · intro hz
      rw [hz]
      simp only [Bool.false_eq_true, if_false, Int.add_zero, Bool.false_and, Bool.or_false]
      exact base_ho F n ho
theorem sh_two (F : Fr) (R : RG F) {n ho a b c : Nat} (ha : a < F.1 0 0) (hb : b < F.1 0 0) (hab : a ≠ b) (hc : c < 4) : sh (two F ho a b (decide (c / 2 = 1)) (decide (c % 2 = 1))) n ho = sBL F n ho (yC a b c) := by
  have r1 := R.1
  rw [sh_fin, two_sF]
  unfold sBL
  have e : ∀ p, p < F.1 0 0 → Cy F n ho (yC a b c) p = oCy a b (decide (c / 2 = 1) && hl F n a 9 ho) (decide (c % 2 = 1) && hl F n b 9 ho) p := by
    intro p hp
    unfold Cy
    rw [yC_bt a (by omega) b (by omega) c hc p (by omega)]
    unfold oCy
    by_cases h1 : p = a
    · subst h1
      have : ¬ p = b := hab
      simp [this]
    · by_cases h2 : p = b
      · subst h2
        simp [h1]
      · simp [h1, h2]
  have cong : ∀ k, k ≤ F.1 0 0 → ax F n (Cy F n ho (yC a b c)) k = ax F n (oCy a b (decide (c / 2 = 1) && hl F n a 9 ho) (decide (c % 2 = 1) && hl F n b 9 ho)) k ∧ ay F n (Cy F n ho (yC a b c)) k = ay F n (oCy a b (decide (c / 2 = 1) && hl F n a 9 ho) (decide (c % 2 = 1) && hl F n b 9 ho)) k ∧ am F n (Cy F n ho (yC a b c)) k = am F n (oCy a b (decide (c / 2 = 1) && hl F n a 9 ho) (decide (c % 2 = 1) && hl F n b 9 ho)) k ∧ aF (Cy F n ho (yC a b c)) k = aF (oCy a b (decide (c / 2 = 1) && hl F n a 9 ho) (decide (c % 2 = 1) && hl F n b 9 ho)) k := by
    intro k
    induction k with
    | zero => intro _; exact ⟨rfl, rfl, rfl, rfl⟩
    | succ j ih =>
      intro hj
      obtain ⟨i1, i2, i3, i4⟩ := ih (by omega)
      unfold ax ay am aF
      rw [i1, i2, i3, i4, e j (by omega)]
      exact ⟨rfl, rfl, rfl, rfl⟩
  obtain ⟨c1, c2, c3, c4⟩ := cong _ (Nat.le_refl _)
  obtain ⟨g1, g2, g3, g4⟩ := ax_2 F n a b (decide (c / 2 = 1) && hl F n a 9 ho) (decide (c % 2 = 1) && hl F n b 9 ho) hab (F.1 0 0)
  rw [c1, c2, c3, c4, g1, g2, g3, g4, decide_eq_true ha, decide_eq_true hb]
  simp only [Bool.and_true]
  split
  · unfold fin
    rw [if_neg (by simp)]
  · rw [sh_fin]
theorem sai_two (F : Fr) (R : RG F) {ho a b c p : Nat} (ha : a < F.1 0 0) (hb : b < F.1 0 0) (hab : a ≠ b) (hc : c < 4) (hp : p < F.1 0 0) : sai (two F ho a b (decide (c / 2 = 1)) (decide (c % 2 = 1))) ho p = sai F ho p + if bt (yC a b c) p then 1 else 0 := by
  have r1 := R.1
  rw [yC_bt a (by omega) b (by omega) c hc p (by omega)]
  unfold two oCy
  have h1 := sai_tl (F := F) (t := ho) (q := a) (g := 9) (p := p)
  have h2 := sai_tl (F := F) (t := ho) (q := b) (g := 9) (p := p)
  have h3 := sai_tl (F := (tl F.1 ho a 9, F.2)) (t := ho) (q := b) (g := 9) (p := p)
  have h3' : sai (tl (tl F.1 ho a 9) ho b 9, F.2) ho p = sai (tl F.1 ho a 9, F.2) ho p + if b = p then 1 else 0 := h3
  cases decide (c / 2 = 1) <;> cases decide (c % 2 = 1)
  · simp
  · simp only [Bool.false_eq_true, if_false, if_true, Bool.and_false, Bool.and_true, Bool.false_or]
    rw [h2]
    by_cases e : b = p
    · simp [e]
    · simp [e, Ne.symm e]
  · simp only [Bool.false_eq_true, if_false, if_true, Bool.and_false, Bool.and_true, Bool.or_false]
    rw [h1]
    by_cases e : a = p
    · simp [e]
    · simp [e, Ne.symm e]
  · simp only [if_true, Bool.and_true]
    rw [h3', h1]
    by_cases e : a = p
    · subst e
      have : ¬ b = a := fun z => hab z.symm
      simp [this]
    · by_cases e2 : b = p
      · subst e2
        simp [e]
      · simp [e, e2, Ne.symm e, Ne.symm e2]
theorem acc_two (F : Fr) (R : RG F) {ho a b c : Nat} (ha : a < F.1 0 0) (hb : b < F.1 0 0) (hab : a ≠ b) (hc : c < 4) : accI (two F ho a b (decide (c / 2 = 1)) (decide (c % 2 = 1))) ho = accB F ho (yC a b c) := by
  have s := two_s F ho a b (decide (c / 2 = 1)) (decide (c % 2 = 1))
  unfold accI accB
  rw [acc_s s]
  exact acc_cong (fun n _ => sh_two F R ha hb hab hc) (fun p hp => sai_two F R ha hb hab hc hp) (fun _ _ => rfl)
/-! the years' listing -/
def yL (F : Fr) (x : Int32) : Nat → Fr
  | 0 => fst0 F 0
  | h + 1 => (tl (yL F x h).1 h (yW F x h) (yD F x h), F.2)
theorem yL_2 (F : Fr) (x : Int32) : ∀ h, (yL F x h).2 = F.2
  | 0 => rfl
  | _ + 1 => rfl
theorem yL_eq (F : Fr) (x : Int32) (h : Nat) : yL F x (h + 1) = (tl (yL F x h).1 h (yW F x h) (yD F x h), (yL F x h).2) := by
  rw [yL_2]
  rfl
theorem yL_s (F : Fr) (x : Int32) : ∀ h, saN F (yL F x h)
  | 0 => saN_f0
  | h + 1 => by
    rw [yL_eq]
    exact saN_tr (yL_s F x h) saN_tl
theorem yL_n (F : Fr) (x : Int32) : ∀ h, (yL F x h).1 9 0 = h
  | 0 => rfl
  | h + 1 => by
    show (yL F x h).1 9 0 + 1 = h + 1
    rw [yL_n F x h]
theorem yL_h (F : Fr) (x : Int32) : ∀ h s, s < h → (yL F x h).1 10 s = s
  | 0, s, hs => by omega
  | h + 1, s, hs => by
    show (if s = (yL F x h).1 9 0 then h else (yL F x h).1 10 s) = s
    rw [yL_n]
    by_cases e : s = h
    · rw [if_pos e, e]
    · rw [if_neg e]
      exact yL_h F x h s (by omega)
theorem sh_yL (F : Fr) (x : Int32) (n : Nat) : ∀ h t, h ≤ t + 1 → sh (yL F x h) n t = (yS F x h).2.1 n
  | 0, t, _ => rfl
  | h + 1, t, ht => by
    have s := yL_s F x h
    rw [yL_eq, sh_tl, hl_s s, dx_s s, dy_s s, mv_s s]
    have q1 : (sF (yL F x h) n (hr (yL F x h) n) t ((yL F x h).1 9 0)).1 < h + 1 := by
      rw [sF_eq, yL_n]
      show l1 (yL F x h) (hr (yL F x h) n) t h < h + 1
      rcases l1_at (F := yL F x h) (B := hr (yL F x h) n) (h := t) h with e | ⟨i, i1, i2, i3, i4⟩
      · omega
      · rw [yL_h F x h i i1] at i4
        omega
    show _ = if hl F n (yW F x h) (yD F x h) h then sid F n (yW F x h) else (yS F x h).2.1 n
    unfold stp1
    cases hh : hl F n (yW F x h) (yD F x h) h
    · rw [if_neg (by simp), if_neg (by simp), ← sh_fin]
      exact sh_yL F x n h t (by omega)
    · rw [if_pos (by simp; omega), if_pos q1, if_pos rfl]
      unfold fin
      rw [if_neg (by simp), sg_mv]
      rfl
theorem sai_yL (F : Fr) (x : Int32) (p : Nat) : ∀ h t, h ≤ t + 1 → sai (yL F x h) t p = (yS F x h).2.2 p
  | 0, t, _ => rfl
  | h + 1, t, ht => by
    have ih := sai_yL F x p h t (by omega)
    have c : cF (fun s => decide ((yL F x (h + 1)).1 11 s = p) && decide ((yL F x (h + 1)).1 10 s ≤ t)) h = sai (yL F x h) t p := by
      unfold sai
      rw [yL_n]
      refine cF_cong (fun s hs => ?_)
      have e := tl_lt (F := yL F x h) (t := h) (p := yW F x h) (g := yD F x h) (i := s) (by rw [yL_n]; exact hs)
      show (decide ((tl (yL F x h).1 h (yW F x h) (yD F x h)) 11 s = p) && decide ((tl (yL F x h).1 h (yW F x h) (yD F x h)) 10 s ≤ t)) = _
      rw [e.1, e.2.1]
    have e10 := yL_h F x (h + 1) h (by omega)
    have e11 : (yL F x (h + 1)).1 11 h = yW F x h := by
      show (if h = (yL F x h).1 9 0 then yW F x h else (yL F x h).1 11 h) = _
      rw [yL_n, if_pos rfl]
    have u : sai (yL F x (h + 1)) t p = if decide ((yL F x (h + 1)).1 11 h = p) && decide ((yL F x (h + 1)).1 10 h ≤ t) then cF (fun s => decide ((yL F x (h + 1)).1 11 s = p) && decide ((yL F x (h + 1)).1 10 s ≤ t)) h + 1 else cF (fun s => decide ((yL F x (h + 1)).1 11 s = p) && decide ((yL F x (h + 1)).1 10 s ≤ t)) h := by
      show cF _ ((yL F x (h + 1)).1 9 0) = _
      rw [yL_n]
      rfl
    rw [u, c, e10, e11, ih]
    show _ = if p = yW F x h then (yS F x h).2.2 (yW F x h) + 1 else (yS F x h).2.2 p
    have ht' : h ≤ t := by omega
    by_cases e : yW F x h = p
    · rw [e]
      simp [ht']
    · simp [e, Ne.symm e]
theorem yA_eq (F : Fr) (x : Int32) (h : Nat) : accI (yL F x (h + 1)) h = acc F (yS F x (h + 1)).2.1 (yS F x (h + 1)).2.2 h tt := by
  unfold accI
  rw [acc_s (yL_s F x (h + 1))]
  exact acc_cong (fun n _ => sh_yL F x n (h + 1) h (Nat.le_refl _)) (fun p _ => sai_yL F x p (h + 1) h (Nat.le_refl _)) (fun _ _ => rfl)
theorem yS_1 (F : Fr) (x : Int32) (h : Nat) : (yS F x (h + 1)).1 = nx (nx (yS F x h).1) := by rw [yS]
theorem drw_lt (x : Int32) {n : Nat} (h : 0 < n) : drw x n < n := Nat.mod_lt _ h
theorem yL_RM {F : Fr} (R : RG F) (x : Int32) (h0 : 0 < F.1 0 0) : ∀ h, h ≤ 100 → RM (yL F x h) false false
  | 0, _ => RM_0 R
  | h + 1, hh => by
    have s := yL_s F x h
    have ih := yL_RM R x h0 h (by omega)
    rw [yL_eq]
    refine RM_tl ih (by rw [yL_n]; omega) (by omega) (Or.inl ?_) ?_
    · rw [s.1 0 (by decide)]
      exact drw_lt _ h0
    · have := drw_lt (nx (nx (yS F x h).1)) (n := 10) (by decide)
      show drw (nx (nx (yS F x h).1)) 10 ≤ 9
      omega
section
variable (d : Nat → Nat → Int32) (L : Nat → Nat → Int64) {F : Fr} {Z : Sn}
set_option maxRecDepth 100000 in
set_option maxHeartbeats 1600000 in
theorem k_tellsBy (R : RG F) {xx yy t : Nat} (hx : xx ≤ 40) (hy : yy ≤ 40) (ht : t < 100) (H : HLy d F xx yy t) (b : Int32) : Cn mX12_tellsBy false 8 0 0 [.ref 112, .int b, .int (nI t)] (W0 d L) (qS [130, 131, 133] d L (bc (thg F (fun p fa => tn F.2.1 9 (F.1 3 p) fa 60 0 t) b xx yy (F.1 0 0)))) := by
  have r1 := R.1
  have lp : ∀ k, k ≤ F.1 0 0 → ∀ a, a = thg F (fun p fa => tn F.2.1 9 (F.1 3 p) fa 60 0 t) b xx yy k → ∀ d1, sm [130, 131, 133] d d1 → HLy d1 F xx yy t → Ex mX12_tellsBy false 8 0 0 5 [some (.ref 112), some (.int b), some (.int (nI t)), some (.int a), some (.int (nI k))] [] (W0 d1 L) (qS [130, 131, 133] d L (bc (thg F (fun p fa => tn F.2.1 9 (F.1 3 p) fa 60 0 t) b xx yy (F.1 0 0)))) nX := by
    refine x_down _ ?_ ?_
    · intro a ha d1 hs H1
      have e1 : d1 112 1 = nI (F.1 0 0) := (H1 0).1
      repeat refine x_s rfl rfl ?_
      refine x_br rfl rfl (fun c => ?_) (fun c => absurd c (fun z => z (lp_x e1)))
      repeat refine x_s rfl rfl ?_
      refine x_cs (k_bits d1 L a) rfl rfl rfl (by decide) (Nat.le_of_ble_eq_true rfl) (by decide) (by decide) (by decide) ?_
      rintro _ _ ⟨rfl, rfl⟩
      exact x_iret rfl rfl rfl ⟨by rw [ha, pc_bc (fun i hi => thg_bits F _ b xx yy _ i hi)], d1, rfl, hs⟩
    · intro k hk ih a ha d1 hs H1
      have e1 : d1 112 1 = nI (F.1 0 0) := (H1 0).1
      repeat refine x_s rfl rfl ?_
      refine x_br rfl rfl (fun c => absurd c (lp_c e1 hk (by omega))) (fun c => ?_)
      repeat refine x_s rfl rfl ?_
      refine x_br rfl rfl (fun c1 => ?_) (fun c1 => ?_)
      · have c2 : bt b k = true := by
          cases hb : bt b k
          · exact absurd ((bt_test (by omega)).mpr hb) c1
          · rfl
        repeat refine x_s rfl rfl ?_
        refine x_iast rfl rfl (k := 0) (rfl) (by omega) (by decide) rfl ?_
        repeat refine x_s rfl rfl ?_
        refine x_cv (k_showsIn (up2 d1 133 0 (nI k)) L (H1 k) (RM_F6 R hx hy hk ht) (n := 6) (h := t) (Or.inr ⟨rfl, rfl⟩) ht) rfl rfl rfl (by decide) rfl (by decide) rfl (Nat.le_of_ble_eq_true rfl) (by decide) (by decide) (by decide) ?_
        rintro _ _ ⟨rfl, d2, rfl, hs2⟩
        iterate 7 refine x_s rfl rfl ?_
        rw [nI_1 k]
        refine ih _ ?_ d2 (sm_go (sm_up hs (by decide)) (sm_in hs2 (by decide))) (HLy_sm (HLy_up H1 _) hs2 (by decide))
        rw [ha, thg, if_pos c2, thg_eq (b := b)]
      · have c2 : bt b k = false := by
          cases hb : bt b k
          · rfl
          · have := (bt_test1 (x := b) (k := k) (by omega)).mpr hb
            exact absurd (show (b >>> (nI k &&& 31)) &&& 1 = 0 from c1) (by rw [this]; decide)
        iterate 3 refine x_s rfl rfl ?_
        rw [nI_1]
        exact ih _ (by rw [ha, thg, if_neg (by rw [c2]; decide)]) d1 hs H1
  refine Cn.intro gX12_tellsBy rfl (Nat.le_of_ble_eq_true rfl) rfl ?_
  iterate 4 refine x_s rfl rfl ?_
  exact lp 0 (Nat.zero_le _) 0 rfl d sm_rfl H
set_option maxRecDepth 100000 in
set_option maxHeartbeats 1600000 in
theorem q_saucer (H : HB d F) (R : RG F) (x y z : Int32) : Cn mX12_saucer false 14 0 0 [.ref 112, .int x, .int y, .int z] (W0 d L) (qM d L ((inB y 100 && inB z 2) && inB x (2 ^ F.1 0 0)) (if iN z = 1 then (bG (sauW F x (iN y)) 1681).2 else (bG (sauW F x (iN y)) 1681).1) (if (inB y 100 && inB z 2) then 2 else 1)) := by
  have r1 := R.1
  have r2 := R.2.1
  have r3 := R.2.2.1
  refine Cn.intro gX12_saucer rfl (Nat.le_of_ble_eq_true rfl) rfl ?_
  repeat refine x_s rfl rfl ?_
  refine x_put rfl rfl (by decide) rfl ⟨rfl, rfl⟩ (Or.inl rfl) ?_
  have m0 : mS d (up2 d 112 0 0) := mS_0 0
  have z0 : up2 d 112 0 0 112 0 = 0 := up2_eq
  have H0 := HB_mS R H m0
  generalize hd0 : up2 d 112 0 0 = d0 at m0 z0 H0 ⊢
  repeat refine x_s rfl rfl ?_
  refine x_cv (k_isHour d0 L z0 y) rfl rfl rfl (by decide) rfl (by decide) rfl (Nat.le_of_ble_eq_true rfl) (by decide) (by decide) (by decide) ?_
  rintro _ _ ⟨rfl, rfl⟩
  cases hb : inB y 100
  · rw [if_neg (by decide)]
    refine x_br rfl rfl (fun c => ?_) (fun c => absurd c (fun z => z rfl))
    repeat refine x_s rfl rfl ?_
    exact x_iret rfl rfl rfl ⟨rfl, _, rfl, mS_f m0 (Or.inl rfl), rfl⟩
  rw [if_pos rfl]
  refine x_br rfl rfl (fun c => absurd c (by decide)) (fun c => ?_)
  repeat refine x_s rfl rfl ?_
  refine x_cv (k_isWhat d0 L z0 z (m := 1) (by decide)) rfl rfl rfl (by decide) rfl (by decide) rfl (Nat.le_of_ble_eq_true rfl) (by decide) (by decide) (by decide) ?_
  rintro _ _ ⟨rfl, rfl⟩
  cases hb2 : inB z 2
  · rw [if_neg (by decide)]
    refine x_br rfl rfl (fun c => ?_) (fun c => absurd c (fun z => z rfl))
    repeat refine x_s rfl rfl ?_
    exact x_iret rfl rfl rfl ⟨rfl, _, rfl, mS_f m0 (Or.inl rfl), rfl⟩
  rw [if_pos rfl]
  refine x_br rfl rfl (fun c => absurd c (by decide)) (fun c => ?_)
  have hN4 : (1 : Int32) <<< (d0 112 1 &&& 31) = nI (2 ^ F.1 0 0) := by rw [H0.1]; exact p2_I _ (by omega)
  have p1k := pow_1k r1
  have at42 : ∀ b, b = bI (inB x (2 ^ F.1 0 0)) → (inB x (2 ^ F.1 0 0) = true → Ex mX12_saucer false 14 0 0 51 [some (.ref 112), some (.int x), some (.int y), some (.int z), none, none, none, none, none] [] (W0 d0 L) (qM d L true (if iN z = 1 then (bG (sauW F x (iN y)) 1681).2 else (bG (sauW F x (iN y)) 1681).1) 2) nX) → Ex mX12_saucer false 14 0 0 42 [some (.ref 112), some (.int x), some (.int y), some (.int z), none, none, none, none, none] [.int b, .ref 112] (W0 d0 L) (qM d L (true && true && inB x (2 ^ F.1 0 0)) (if iN z = 1 then (bG (sauW F x (iN y)) 1681).2 else (bG (sauW F x (iN y)) 1681).1) (if true && true then 2 else 1)) nX := by
    intro b hb2 k
    subst hb2
    repeat refine x_s rfl rfl ?_
    refine x_cv (k_right d0 L z0 (inB x (2 ^ F.1 0 0)) 2 (by decide)) rfl rfl rfl (by decide) rfl (by decide) rfl (Nat.le_of_ble_eq_true rfl) (by decide) (by decide) (by decide) ?_
    rintro _ _ ⟨rfl, rfl⟩
    cases hb3 : inB x (2 ^ F.1 0 0)
    · rw [if_neg (by decide)]
      refine x_br rfl rfl (fun c => absurd c (fun z => z rfl)) (fun c => ?_)
      repeat refine x_s rfl rfl ?_
      exact x_iret rfl rfl rfl ⟨rfl, _, rfl, mS_f m0 (Or.inl rfl), rfl⟩
    · rw [if_pos rfl]
      refine x_br rfl rfl (fun c => ?_) (fun c => absurd c (fun z => absurd z (by decide)))
      exact k hb3
  suffices main : inB x (2 ^ F.1 0 0) = true → Ex mX12_saucer false 14 0 0 51 [some (.ref 112), some (.int x), some (.int y), some (.int z), none, none, none, none, none] [] (W0 d0 L) (qM d L true (if iN z = 1 then (bG (sauW F x (iN y)) 1681).2 else (bG (sauW F x (iN y)) 1681).1) 2) nX by
    repeat refine x_s rfl rfl ?_
    refine x_br rfl rfl (fun c1 => ?_) (fun c1 => ?_)
    · iterate 1 refine x_s rfl rfl ?_
      exact at42 _ (by rw [inB_f1 c1]; rfl) main
    · repeat refine x_s rfl rfl ?_
      refine x_br rfl rfl (fun c2 => ?_) (fun c2 => ?_)
      · iterate 1 refine x_s rfl rfl ?_
        exact at42 _ (by rw [inB_f2 hN4 (by omega) (Int32.not_lt.mpr c2)]; rfl) main
      · iterate 2 refine x_s rfl rfl ?_
        exact at42 _ (by rw [inB_t hN4 (by omega) c1 (Int32.not_le.mp c2)]; rfl) main
  intro _
  obtain ⟨q1, q2, q3⟩ := inB_iN hb
  generalize iN y = t at q1 q2 q3 ⊢
  subst q2
  obtain ⟨s1, s2, s3⟩ := inB_iN hb2
  generalize iN z = w at s1 s2 s3 ⊢
  subst s2
  repeat refine x_s rfl rfl ?_
  refine x_cv (k_laysLie d0 L H0 R (p := 0) (dg := 9) (ho := t)) rfl rfl rfl (by decide) rfl (by decide) rfl (Nat.le_of_ble_eq_true rfl) (by decide) (by decide) (by decide) ?_
  rintro _ _ ⟨rfl, d1, rfl, m1, t1, H1⟩
  have M1 := mS_tr m0 m1
  have T1 : d1 112 0 = 0 := t1.trans z0
  have h116 : d1 116 6 = 60 := (HB_mS R H M1).2.2.2.2.2.2.2
  repeat refine x_s rfl rfl ?_
  refine x_iast rfl rfl (k := 6) (rfl) (by omega) (by decide) rfl ?_
  have Y1 := HLy_of R H1 h116
  have M2 : mS d (up2 d1 137 6 0) := mS_c M1 (by decide)
  have T2 : up2 d1 137 6 0 112 0 = 0 := T1
  generalize hP : sauW F x t = P
  have ge : ∀ j, ¬ P j ≤ -1 := by
    intro j
    rw [← hP, sauW, bc_cF (n := 10) (by decide) (fun i hi => thg_bits F _ x _ _ _ i hi), ile, nI_tI (by have := cF_le (bt (thg F (fun p fa => tn F.2.1 9 (F.1 3 p) fa 60 0 t) x (j % 41) (j / 41) (F.1 0 0))) 10; omega), show (-1 : Int32).toInt = -1 from rfl]
    omega
  have Y2 : ∀ xx yy, HLy (up2 (up2 (up2 d1 137 6 0) 135 6 (nI xx)) 136 6 (nI yy)) F xx yy t := Y1
  refine (show Ex _ _ _ _ _ _ _ _ (W0 (up2 d1 137 6 0) L) _ _ from ?_)
  generalize hd2 : up2 d1 137 6 0 = d2 at Y2 M2 T2 ⊢
  have eG : (bG P 0) = (-1, 0) := rfl
  have outer : ∀ yy, yy ≤ 41 → ∀ a b, a = (bG P (41 * yy)).1 → (yy = 0 ∨ b = (bG P (41 * yy)).2) → ∀ d4, mS d d4 → d4 112 0 = 0 → HLz d4 F t → ∀ o1 o2, Ex mX12_saucer false 14 0 0 76 [some (.ref 112), some (.int x), some (.int (nI t)), some (.int (nI w)), some (.int b), some (.int a), some (.int (nI yy)), o1, o2] [] (W0 d4 L) (qM d L true (if w = 1 then (bG P 1681).2 else (bG P 1681).1) 2) nX := by
    refine x_down _ ?_ ?_
    · intro a b ha hb d4 M4 T4 Y4 o1 o2
      have hb' : b = (bG P 1681).2 := hb.resolve_left (by decide)
      have ha' : a = (bG P 1681).1 := ha
      repeat refine x_s rfl rfl ?_
      refine x_br rfl rfl (fun c => ?_) (fun c => absurd c (fun z => z (by decide)))
      repeat refine x_s rfl rfl ?_
      refine x_br rfl rfl (fun c1 => ?_) (fun c1 => ?_)
      · have hw : w = 1 := by
          rcases (by omega : w = 0 ∨ w = 1) with z | z
          · exact absurd (by rw [z]; rfl) c1
          · exact z
        repeat refine x_s rfl rfl ?_
        refine x_iret rfl rfl rfl ⟨?_, d4, rfl, M4, T4⟩
        show some (Value.int b) = some (Value.int (if w = 1 then (bG P 1681).2 else (bG P 1681).1))
        rw [if_pos hw, hb']
      · have hw : ¬ w = 1 := fun z => by
          rw [z] at c1
          exact absurd c1 (by decide)
        repeat refine x_s rfl rfl ?_
        refine x_iret rfl rfl rfl ⟨?_, d4, rfl, M4, T4⟩
        show some (Value.int a) = some (Value.int (if w = 1 then (bG P 1681).2 else (bG P 1681).1))
        rw [if_neg hw, ha']
    · intro yy hyy ih a b ha hb d4 M4 T4 Y4 o1 o2
      repeat refine x_s rfl rfl ?_
      refine x_br rfl rfl (fun c => absurd c (nI_nlt (a := 40) (by omega) (by omega))) (fun c => ?_)
      have inner : ∀ xx, xx ≤ 41 → ∀ a b, a = (bG P (41 * yy + xx)).1 → (41 * yy + xx = 0 ∨ b = (bG P (41 * yy + xx)).2) → ∀ d4, mS d d4 → d4 112 0 = 0 → HLz d4 F t → ∀ o2, Ex mX12_saucer false 14 0 0 86 [some (.ref 112), some (.int x), some (.int (nI t)), some (.int (nI w)), some (.int b), some (.int a), some (.int (nI yy)), some (.int (nI xx)), o2] [] (W0 d4 L) (qM d L true (if w = 1 then (bG P 1681).2 else (bG P 1681).1) 2) nX := by
        refine x_down _ ?_ ?_
        · intro a b ha hb d4 M4 T4 Y4 o2
          repeat refine x_s rfl rfl ?_
          refine x_br rfl rfl (fun c => ?_) (fun c => absurd c (fun z => z (by decide)))
          iterate 2 refine x_s rfl rfl ?_
          rw [nI_1]
          exact ih _ _ ha (Or.inr (hb.resolve_left (by omega))) d4 M4 T4 Y4 _ _
        · intro xx hxx ih2 a b ha hb d4 M4 T4 Y4 o2
          have hj := jm xx yy hxx
          repeat refine x_s rfl rfl ?_
          refine x_br rfl rfl (fun c => absurd c (nI_nlt (a := 40) (by omega) (by omega))) (fun c => ?_)
          repeat refine x_s rfl rfl ?_
          refine x_iast rfl rfl (k := 6) (rfl) (by omega) (by decide) rfl ?_
          repeat refine x_s rfl rfl ?_
          refine x_iast rfl rfl (k := 6) (rfl) (by omega) (by decide) rfl ?_
          have H5 := Y4 xx yy
          have Y5 := HLz_up Y4 (nI xx) (nI yy)
          have M5 : mS d (up2 (up2 d4 135 6 (nI xx)) 136 6 (nI yy)) := mS_c (mS_c M4 (by decide)) (by decide)
          have T5 : (up2 (up2 d4 135 6 (nI xx)) 136 6 (nI yy)) 112 0 = 0 := T4
          generalize up2 (up2 d4 135 6 (nI xx)) 136 6 (nI yy) = d5 at H5 Y5 M5 T5 ⊢
          repeat refine x_s rfl rfl ?_
          refine x_cv (k_tellsBy d5 L R (xx := xx) (yy := yy) (by omega) (by omega) q1 H5 x) rfl rfl rfl (by decide) rfl (by decide) rfl (Nat.le_of_ble_eq_true rfl) (by decide) (by decide) (by decide) ?_
          rintro _ _ ⟨rfl, d6, rfl, hs6⟩
          have M6 := mS_go M5 hs6 (by decide) (by decide) (by decide) (by decide) (by decide)
          have T6 : d6 112 0 = 0 := by rw [hs6 112 (by decide)]; exact T5
          have Y6 := HLz_sm Y5 hs6 (by decide)
          have eP : bc (thg F (fun p fa => tn F.2.1 9 (F.1 3 p) fa 60 0 t) x xx yy (F.1 0 0)) = P (41 * yy + xx) := by rw [← hP, sauW, hj.1, hj.2]
          rw [eP]
          have ex : 41 * yy + (xx + 1) = 41 * yy + xx + 1 := by omega
          repeat refine x_s rfl rfl ?_
          refine x_br rfl rfl (fun c1 => ?_) (fun c1 => ?_)
          · have c2 : (bG P (41 * yy + xx)).1 < P (41 * yy + xx) := by rw [← ha]; exact c1
            iterate 10 refine x_s rfl rfl ?_
            rw [nI_1 xx]
            refine ih2 _ _ ?_ (Or.inr ?_) d6 M6 T6 Y6 _
            · rw [ex, bG, if_pos c2]
            · rw [ex, bG, if_pos c2, hj.1, hj.2]
          · have c2 : ¬ (bG P (41 * yy + xx)).1 < P (41 * yy + xx) := by rw [← ha]; exact c1
            have n0 : ¬ 41 * yy + xx = 0 := by
              intro z
              rw [z] at c2
              exact ge 0 (Int32.not_lt.mp c2)
            iterate 3 refine x_s rfl rfl ?_
            rw [nI_1]
            refine ih2 _ _ ?_ (Or.inr ?_) d6 M6 T6 Y6 _
            · rw [ex, bG, if_neg c2, ha]
            · rw [ex, bG, if_neg c2]
              exact hb.resolve_left n0
      iterate 2 refine x_s rfl rfl ?_
      exact inner 0 (Nat.zero_le _) a b ha (hb.elim (fun z => Or.inl (by omega)) Or.inr) d4 M4 T4 Y4 _
  iterate 6 refine x_s rfl rfl ?_
  exact outer 0 (Nat.zero_le _) (-1) (-1) rfl (Or.inl rfl) d2 M2 T2 Y2 _ _
set_option maxRecDepth 100000 in
set_option maxHeartbeats 1600000 in
theorem k_gains (p c a m : Int32) : Cn mX12_gains false 1 0 0 [.int p, .int c, .int a, .int m] (W0 d L) (qP d L (gn a c p m)) := by
  refine Cn.intro gX12_gains rfl (Nat.le_of_ble_eq_true rfl) rfl ?_
  repeat refine x_s rfl rfl ?_
  refine x_br rfl rfl (fun c1 => ?_) (fun c1 => ?_)
  · have c2 : ¬ a = p := c1
    repeat refine x_s rfl rfl ?_
    refine x_iret rfl rfl rfl ⟨congrArg (fun z => some (Value.int z)) ?_, rfl⟩
    rw [gn, if_neg c2]
  · have c2 : a = p := c1
    repeat refine x_s rfl rfl ?_
    refine x_iret rfl rfl rfl ⟨congrArg (fun z => some (Value.int z)) ?_, rfl⟩
    rw [gn, if_pos c2]
theorem HL_two {one other ho : Nat} {ba : Bool} {d1 : Nat → Nat → Int32} (H : HL d1 (two F ho one other ba false) false false) : HL (up2 (up2 (up2 (up2 d1 132 ((two F ho one other ba false).1 9 0) (nI ho)) 133 ((two F ho one other ba false).1 9 0) (nI other)) 134 ((two F ho one other ba false).1 9 0) (nI 9)) 112 46 (nI ((two F ho one other ba false).1 9 0 + 1))) (two F ho one other ba true) false false := by
  cases ba
  · exact HL_tl H ho other 9
  · exact HL_tl H ho other 9
theorem RM_two (R : RG F) {one other ho : Nat} (h1 : one < F.1 0 0) (h2 : other < F.1 0 0) (hh : ho < 100) (ba bb : Bool) : RM (two F ho one other ba bb) false false := by
  have r3 := R.2.2.1
  have R0 := RM_of R
  cases ba <;> cases bb
  · exact R0
  · exact RM_tl R0 (by omega) hh (Or.inl h2) (by decide)
  · exact RM_tl R0 (by omega) hh (Or.inl h1) (by decide)
  · exact RM_tl (F := (tl F.1 ho one 9, F.2)) (RM_tl R0 (by omega) hh (Or.inl h1) (by decide)) (show F.1 9 0 + 1 < 120 by omega) hh (Or.inl h2) (by decide)
set_option maxRecDepth 100000 in
set_option maxHeartbeats 1600000 in
theorem k_accusedIf (H : HB d F) (R : RG F) {one other ho c : Nat} (h1 : one < F.1 0 0) (h2 : other < F.1 0 0) (h12 : one ≠ other) (hh : ho < 100) (hc : c < 4) : Cn mX12_accusedIf false 10 0 0 [.ref 112, .int (nI one), .int (nI (c / 2)), .int (nI other), .int (nI (c % 2)), .int (nI ho)] (W0 d L) (fun r h => r = some (.int (accB F ho (yC one other c))) ∧ ∃ d', h = W0 d' L ∧ mQ d d' ∧ d' 112 0 = d 112 0) := by
  have r1 := R.1
  have r3 := R.2.2.1
  have fin2 : ∀ d1, mQ d d1 → d1 112 0 = d 112 0 → HL d1 (two F ho one other (decide (c / 2 = 1)) (decide (c % 2 = 1))) false false → Ex mX12_accusedIf false 10 0 0 34 [some (.ref 112), some (.int (nI one)), some (.int (nI (c / 2))), some (.int (nI other)), some (.int (nI (c % 2))), some (.int (nI ho))] [] (W0 d1 L) (fun r h => r = some (.int (accB F ho (yC one other c))) ∧ ∃ d', h = W0 d' L ∧ mQ d d' ∧ d' 112 0 = d 112 0) nX := by
    intro d1 M1 T1 H1
    repeat refine x_s rfl rfl ?_
    refine x_cv (k_accusedIn d1 L H1 (RM_two R h1 h2 hh _ _) hh) rfl rfl rfl (by decide) rfl (by decide) rfl (Nat.le_of_ble_eq_true rfl) (by decide) (by decide) (by decide) ?_
    rintro _ _ ⟨rfl, d2, rfl, hs2⟩
    rw [acc_two F R h1 h2 h12 hc]
    exact x_iret rfl rfl rfl ⟨rfl, d2, rfl, ⟨mS_go M1.1 hs2 (by decide) (by decide) (by decide) (by decide) (by decide), by rw [hs2 139 (by decide)]; exact M1.2.1, by rw [hs2 140 (by decide)]; exact M1.2.2⟩, by rw [hs2 112 (by decide)]; exact T1⟩
  have mid : ∀ d1, mQ d d1 → d1 112 0 = d 112 0 → HL d1 (two F ho one other (decide (c / 2 = 1)) false) false false → Ex mX12_accusedIf false 10 0 0 19 [some (.ref 112), some (.int (nI one)), some (.int (nI (c / 2))), some (.int (nI other)), some (.int (nI (c % 2))), some (.int (nI ho))] [] (W0 d1 L) (fun r h => r = some (.int (accB F ho (yC one other c))) ∧ ∃ d', h = W0 d' L ∧ mQ d d' ∧ d' 112 0 = d 112 0) nX := by
    intro d1 M1 T1 H1
    have n9 : (two F ho one other (decide (c / 2 = 1)) false).1 9 0 ≤ 17 := by
      cases decide (c / 2 = 1)
      · show F.1 9 0 ≤ 17
        omega
      · show F.1 9 0 + 1 ≤ 17
        omega
    repeat refine x_s rfl rfl ?_
    refine x_br rfl rfl (fun c1 => ?_) (fun c1 => ?_)
    · have c2 : ¬ c % 2 = 1 := fun z => c1 (by rw [z]; rfl)
      refine fin2 d1 M1 T1 ?_
      rw [decide_eq_false c2]
      exact H1
    · have c2 : c % 2 = 1 := by
        rcases (by omega : c % 2 = 0 ∨ c % 2 = 1) with z | z
        · rw [z] at c1
          exact absurd c1 (by decide)
        · exact z
      repeat refine x_s rfl rfl ?_
      refine x_cv (k_adds d1 L H1.2.2.1 (by omega) _ _ _) rfl rfl rfl (by decide) rfl (by decide) rfl (Nat.le_of_ble_eq_true rfl) (by decide) (by decide) (by decide) ?_
      rintro _ _ ⟨rfl, rfl⟩
      refine fin2 _ (mQ_f (mQ_c (mQ_c (mQ_c M1 (by decide)) (by decide)) (by decide)) (by simp)) T1 ?_
      rw [decide_eq_true c2]
      exact HL_two H1
  refine Cn.intro gX12_accusedIf rfl (Nat.le_of_ble_eq_true rfl) rfl ?_
  repeat refine x_s rfl rfl ?_
  refine x_cv (k_lays0q d L H R true) rfl rfl rfl (by decide) rfl (by decide) rfl (Nat.le_of_ble_eq_true rfl) (by decide) (by decide) (by decide) ?_
  rintro _ _ ⟨rfl, d1, rfl, M1, T1, H1⟩
  rw [if_pos rfl, fst0_self] at H1
  repeat refine x_s rfl rfl ?_
  refine x_br rfl rfl (fun c1 => ?_) (fun c1 => ?_)
  · have c2 : ¬ c / 2 = 1 := fun z => c1 (by rw [z]; rfl)
    refine mid d1 M1 T1 ?_
    rw [decide_eq_false c2]
    exact H1
  · have c2 : c / 2 = 1 := by
      rcases (by omega : c / 2 = 0 ∨ c / 2 = 1) with z | z
      · rw [z] at c1
        exact absurd c1 (by decide)
      · exact z
    repeat refine x_s rfl rfl ?_
    refine x_cv (k_adds d1 L H1.2.2.1 (by omega) _ _ _) rfl rfl rfl (by decide) rfl (by decide) rfl (Nat.le_of_ble_eq_true rfl) (by decide) (by decide) (by decide) ?_
    rintro _ _ ⟨rfl, rfl⟩
    refine mid _ (mQ_f (mQ_c (mQ_c (mQ_c M1 (by decide)) (by decide)) (by decide)) (by simp)) T1 ?_
    rw [decide_eq_true c2]
    exact HL_tl H1 ho one 9
theorem q4 : ∀ k, k < 4 → nI k + 2 - (nI k + 2) / 4 * 4 = nI (k ^^^ 2) ∧ nI (k ^^^ 2) / 2 = 1 - (nI k >>> ((1 : Int32) &&& 31)) ∧ nI k / 2 = nI k >>> ((1 : Int32) &&& 31) ∧ nI k - nI k / 2 * 2 = nI k &&& 1 ∧ (nI k &&& 1 = 0 → nI k + 1 = nI (k ^^^ 1)) ∧ (¬ nI k &&& 1 = 0 → nI k - 1 = nI (k ^^^ 1)) ∧ nI (k ^^^ 1) - nI (k ^^^ 1) / 2 * 2 = 1 - (nI k &&& 1) ∧ k ^^^ 2 < 4 ∧ k ^^^ 1 < 4 ∧ ¬ (10 : Int32) * (nI k >>> ((1 : Int32) &&& 31)) + (nI k &&& 1) = -1 := by decide +kernel
theorem q4b : ∀ k, k < 4 → nI k / 2 = nI (k / 2) ∧ nI k - nI k / 2 * 2 = nI (k % 2) := by decide +kernel
theorem fC_t {G : Nat → Bool} {k : Nat} (hk : k < 4) (h : G k = true) : fC G k (4 - k) = 10 * (nI k >>> ((1 : Int32) &&& 31)) + (nI k &&& 1) := by
  obtain ⟨m, hm⟩ : ∃ m, 4 - k = m + 1 := ⟨3 - k, by omega⟩
  rw [hm, fC, if_pos h]
theorem fC_f {G : Nat → Bool} {k : Nat} (hk : k < 4) (h : G k = false) : fC G k (4 - k) = fC G (k + 1) (4 - (k + 1)) := by
  obtain ⟨m, hm⟩ : ∃ m, 4 - k = m + 1 := ⟨3 - k, by omega⟩
  rw [hm, fC, if_neg (by rw [h]; decide)]
  congr 1
  omega
set_option maxRecDepth 100000 in
set_option maxHeartbeats 1600000 in
theorem q_game (H : HB d F) (R : RG F) (x y z u w : Int32) : Cn mX12_game false 14 0 0 [.ref 112, .int x, .int y, .int z, .int u, .int w] (W0 d L) (qM d L ((inB x (F.1 0 0) && (inB y (F.1 0 0) && (inB z 100 && inB w 2))) && (decide (x ≠ y) && inB u 100)) (if iN w = 1 then fC (gG F (iN x) (iN y) (iN z) u) 0 4 else nI (cF (gG F (iN x) (iN y) (iN z) u) 4)) (if (inB x (F.1 0 0) && (inB y (F.1 0 0) && (inB z 100 && inB w 2))) then 2 else 1)) := by
  have r1 := R.1
  have r2 := R.2.1
  have r3 := R.2.2.1
  refine Cn.intro gX12_game rfl (Nat.le_of_ble_eq_true rfl) rfl ?_
  repeat refine x_s rfl rfl ?_
  refine x_put rfl rfl (by decide) rfl ⟨rfl, rfl⟩ (Or.inl rfl) ?_
  have m0 : mS d (up2 d 112 0 0) := mS_0 0
  have z0 : up2 d 112 0 0 112 0 = 0 := up2_eq
  have H0 := HB_mS R H m0
  generalize hd0 : up2 d 112 0 0 = d0 at m0 z0 H0 ⊢
  repeat refine x_s rfl rfl ?_
  refine x_cv (k_isPerson d0 L z0 H0.1 (by omega) x) rfl rfl rfl (by decide) rfl (by decide) rfl (Nat.le_of_ble_eq_true rfl) (by decide) (by decide) (by decide) ?_
  rintro _ _ ⟨rfl, rfl⟩
  cases hb : inB x (F.1 0 0)
  · rw [if_neg (by decide)]
    refine x_br rfl rfl (fun c => ?_) (fun c => absurd c (fun z => z rfl))
    repeat refine x_s rfl rfl ?_
    exact x_iret rfl rfl rfl ⟨rfl, _, rfl, mS_f m0 (Or.inl rfl), rfl⟩
  rw [if_pos rfl]
  refine x_br rfl rfl (fun c => absurd c (by decide)) (fun c => ?_)
  repeat refine x_s rfl rfl ?_
  refine x_cv (k_isPerson d0 L z0 H0.1 (by omega) y) rfl rfl rfl (by decide) rfl (by decide) rfl (Nat.le_of_ble_eq_true rfl) (by decide) (by decide) (by decide) ?_
  rintro _ _ ⟨rfl, rfl⟩
  cases hb2 : inB y (F.1 0 0)
  · rw [if_neg (by decide)]
    refine x_br rfl rfl (fun c => ?_) (fun c => absurd c (fun z => z rfl))
    repeat refine x_s rfl rfl ?_
    exact x_iret rfl rfl rfl ⟨rfl, _, rfl, mS_f m0 (Or.inl rfl), rfl⟩
  rw [if_pos rfl]
  refine x_br rfl rfl (fun c => absurd c (by decide)) (fun c => ?_)
  repeat refine x_s rfl rfl ?_
  refine x_cv (k_isHour d0 L z0 z) rfl rfl rfl (by decide) rfl (by decide) rfl (Nat.le_of_ble_eq_true rfl) (by decide) (by decide) (by decide) ?_
  rintro _ _ ⟨rfl, rfl⟩
  cases hb3 : inB z 100
  · rw [if_neg (by decide)]
    refine x_br rfl rfl (fun c => ?_) (fun c => absurd c (fun z => z rfl))
    repeat refine x_s rfl rfl ?_
    exact x_iret rfl rfl rfl ⟨rfl, _, rfl, mS_f m0 (Or.inl rfl), rfl⟩
  rw [if_pos rfl]
  refine x_br rfl rfl (fun c => absurd c (by decide)) (fun c => ?_)
  repeat refine x_s rfl rfl ?_
  refine x_cv (k_isWhat d0 L z0 w (m := 1) (by decide)) rfl rfl rfl (by decide) rfl (by decide) rfl (Nat.le_of_ble_eq_true rfl) (by decide) (by decide) (by decide) ?_
  rintro _ _ ⟨rfl, rfl⟩
  cases hb4 : inB w 2
  · rw [if_neg (by decide)]
    refine x_br rfl rfl (fun c => ?_) (fun c => absurd c (fun z => z rfl))
    repeat refine x_s rfl rfl ?_
    exact x_iret rfl rfl rfl ⟨rfl, _, rfl, mS_f m0 (Or.inl rfl), rfl⟩
  rw [if_pos rfl]
  refine x_br rfl rfl (fun c => absurd c (by decide)) (fun c => ?_)
  have at61 : ∀ b, b = bI (decide (x ≠ y) && inB u 100) → ((decide (x ≠ y) && inB u 100) = true → Ex mX12_game false 14 0 0 70 [some (.ref 112), some (.int x), some (.int y), some (.int z), some (.int u), some (.int w), none, none, none, none, none] [] (W0 d0 L) (qM d L true (if iN w = 1 then fC (gG F (iN x) (iN y) (iN z) u) 0 4 else nI (cF (gG F (iN x) (iN y) (iN z) u) 4)) 2) nX) → Ex mX12_game false 14 0 0 61 [some (.ref 112), some (.int x), some (.int y), some (.int z), some (.int u), some (.int w), none, none, none, none, none] [.int b, .ref 112] (W0 d0 L) (qM d L ((true && (true && (true && true))) && (decide (x ≠ y) && inB u 100)) (if iN w = 1 then fC (gG F (iN x) (iN y) (iN z) u) 0 4 else nI (cF (gG F (iN x) (iN y) (iN z) u) 4)) (if (true && (true && (true && true))) then 2 else 1)) nX := by
    intro b hb5 k
    subst hb5
    repeat refine x_s rfl rfl ?_
    refine x_cv (k_right d0 L z0 (decide (x ≠ y) && inB u 100) 2 (by decide)) rfl rfl rfl (by decide) rfl (by decide) rfl (Nat.le_of_ble_eq_true rfl) (by decide) (by decide) (by decide) ?_
    rintro _ _ ⟨rfl, rfl⟩
    cases hb6 : (decide (x ≠ y) && inB u 100)
    · rw [if_neg (by decide)]
      refine x_br rfl rfl (fun c => absurd c (fun z => z rfl)) (fun c => ?_)
      repeat refine x_s rfl rfl ?_
      exact x_iret rfl rfl rfl ⟨rfl, _, rfl, mS_f m0 (Or.inl rfl), rfl⟩
    · rw [if_pos rfl]
      refine x_br rfl rfl (fun c => ?_) (fun c => absurd c (fun z => absurd z (by decide)))
      exact k hb6
  suffices main : (decide (x ≠ y) && inB u 100) = true → Ex mX12_game false 14 0 0 70 [some (.ref 112), some (.int x), some (.int y), some (.int z), some (.int u), some (.int w), none, none, none, none, none] [] (W0 d0 L) (qM d L true (if iN w = 1 then fC (gG F (iN x) (iN y) (iN z) u) 0 4 else nI (cF (gG F (iN x) (iN y) (iN z) u) 4)) 2) nX by
    repeat refine x_s rfl rfl ?_
    refine x_br rfl rfl (fun c1 => ?_) (fun c1 => ?_)
    · have c2 : x = y := c1
      iterate 1 refine x_s rfl rfl ?_
      exact at61 _ (by rw [decide_eq_false (fun z => z c2)]; rfl) main
    · have c2 : x ≠ y := c1
      repeat refine x_s rfl rfl ?_
      refine x_cs (k_within d0 L u 0 99) rfl rfl rfl (by decide) (Nat.le_of_ble_eq_true rfl) (by decide) (by decide) (by decide) ?_
      rintro _ _ ⟨rfl, rfl⟩
      rw [wi_B (m := 99) rfl]
      refine x_br rfl rfl (fun c3 => ?_) (fun c3 => ?_)
      · iterate 1 refine x_s rfl rfl ?_
        exact at61 _ (by rw [bI_0.mp c3, Bool.and_false]; rfl) main
      · iterate 2 refine x_s rfl rfl ?_
        exact at61 _ (by rw [decide_eq_true c2, bI_n0.mp c3]; rfl) main
  intro hne
  rw [Bool.and_eq_true, decide_eq_true_eq] at hne
  replace hne := hne.1
  obtain ⟨p1, p2, p3⟩ := inB_iN hb
  generalize iN x = one at p1 p2 p3 ⊢
  subst p2
  obtain ⟨q1, q2, q3⟩ := inB_iN hb2
  generalize iN y = other at q1 q2 q3 ⊢
  subst q2
  obtain ⟨s1, s2, s3⟩ := inB_iN hb3
  generalize iN z = t at s1 s2 s3 ⊢
  subst s2
  obtain ⟨w1, w2, w3⟩ := inB_iN hb4
  generalize iN w = v at w1 w2 w3 ⊢
  subst w2
  have hne' : one ≠ other := fun z => hne (by rw [z])
  generalize hG : gG F one other t u = G
  have loop : ∀ d1, mS d d1 → d1 112 0 = 0 → (∀ c, c < 4 → d1 139 c = accB F t (yC one other c)) → ∀ k, k ≤ 4 → ∀ a b V, a = nI (cF G k) → V = (if b = -1 then fC G k (4 - k) else b) → ∀ o1 o2, Ex mX12_game false 14 0 0 116 [some (.ref 112), some (.int (nI one)), some (.int (nI other)), some (.int (nI t)), some (.int u), some (.int (nI v)), some (.int a), some (.int b), some (.int (nI k)), o1, o2] [] (W0 d1 L) (qM d L true (if v = 1 then V else nI (cF G 4)) 2) nX := by
    intro d1 M1 T1 hat
    refine x_down _ ?_ ?_
    · intro a b V ha hV o1 o2
      repeat refine x_s rfl rfl ?_
      refine x_br rfl rfl (fun c => ?_) (fun c => absurd c (fun z => z (by decide)))
      repeat refine x_s rfl rfl ?_
      refine x_br rfl rfl (fun c1 => ?_) (fun c1 => ?_)
      · have hw : v = 1 := by
          rcases (by omega : v = 0 ∨ v = 1) with z | z
          · exact absurd (by rw [z]; rfl) c1
          · exact z
        repeat refine x_s rfl rfl ?_
        refine x_iret rfl rfl rfl ⟨?_, d1, rfl, M1, T1⟩
        show some (Value.int b) = some (Value.int (if v = 1 then V else nI (cF G 4)))
        rw [if_pos hw, hV]
        by_cases hb : b = -1
        · rw [if_pos hb, hb]
          rfl
        · rw [if_neg hb]
      · have hw : ¬ v = 1 := fun z => by
          rw [z] at c1
          exact absurd c1 (by decide)
        repeat refine x_s rfl rfl ?_
        refine x_iret rfl rfl rfl ⟨?_, d1, rfl, M1, T1⟩
        show some (Value.int a) = some (Value.int (if v = 1 then V else nI (cF G 4)))
        rw [if_neg hw, ha]
    · intro k hk ih a b V ha hV o1 o2
      obtain ⟨e1, e2, e3, e4, e5, e6, e7, e8, e9, e10⟩ := q4 k hk
      have eG : G k = (decide (gn (accB F t (yC one other (k ^^^ 2))) (1 - (nI k >>> ((1 : Int32) &&& 31))) (nI one) u ≤ gn (accB F t (yC one other k)) (nI k >>> ((1 : Int32) &&& 31)) (nI one) u) && decide (gn (accB F t (yC one other (k ^^^ 1))) (1 - (nI k &&& 1)) (nI other) u ≤ gn (accB F t (yC one other k)) (nI k &&& 1) (nI other) u)) := by rw [← hG]; rfl
      have skip : ∀ a' b' o1 o2, a' = nI (cF G (k + 1)) → V = (if b' = -1 then fC G (k + 1) (4 - (k + 1)) else b') → Ex mX12_game false 14 0 0 250 [some (.ref 112), some (.int (nI one)), some (.int (nI other)), some (.int (nI t)), some (.int u), some (.int (nI v)), some (.int a'), some (.int b'), some (.int (nI k)), o1, o2] [] (W0 d1 L) (qM d L true (if v = 1 then V else nI (cF G 4)) 2) nX := by
        intro a' b' o1 o2 ha' hV'
        iterate 2 refine x_s rfl rfl ?_
        rw [nI_1]
        exact ih _ _ _ ha' hV' _ _
      have no : G k = false → ∀ o1 o2, Ex mX12_game false 14 0 0 250 [some (.ref 112), some (.int (nI one)), some (.int (nI other)), some (.int (nI t)), some (.int u), some (.int (nI v)), some (.int a), some (.int b), some (.int (nI k)), o1, o2] [] (W0 d1 L) (qM d L true (if v = 1 then V else nI (cF G 4)) 2) nX := by
        intro hn o1 o2
        refine skip _ _ _ _ (by rw [ha, cF, if_neg (by rw [hn]; decide)]) ?_
        rw [hV]
        by_cases hb : b = -1
        · rw [if_pos hb, if_pos hb, fC_f hk hn]
        · rw [if_neg hb, if_neg hb]
      have at148 : ∀ o, Ex mX12_game false 14 0 0 148 [some (.ref 112), some (.int (nI one)), some (.int (nI other)), some (.int (nI t)), some (.int u), some (.int (nI v)), some (.int a), some (.int b), some (.int (nI k)), some (.int (nI (k ^^^ 2))), o] [.int (nI (k ^^^ 1))] (W0 d1 L) (qM d L true (if v = 1 then V else nI (cF G 4)) 2) nX := by
        intro o
        repeat refine x_s rfl rfl ?_
        refine x_idiv rfl (by decide) ?_
        rw [e2]
        repeat refine x_s rfl rfl ?_
        refine x_ald rfl rfl rfl (k := k ^^^ 2) (rfl) (by omega) (by decide) rfl ?_
        rw [hat _ e8]
        repeat refine x_s rfl rfl ?_
        refine x_cs (k_gains d1 L (nI one) (1 - (nI k >>> ((1 : Int32) &&& 31))) (accB F t (yC one other (k ^^^ 2))) u) rfl rfl rfl (by decide) (Nat.le_of_ble_eq_true rfl) (by decide) (by decide) (by decide) ?_
        rintro _ _ ⟨rfl, rfl⟩
        repeat refine x_s rfl rfl ?_
        refine x_idiv rfl (by decide) ?_
        rw [e3]
        repeat refine x_s rfl rfl ?_
        refine x_ald rfl rfl rfl (k := k) (rfl) (by omega) (by decide) rfl ?_
        rw [hat _ hk]
        repeat refine x_s rfl rfl ?_
        refine x_cs (k_gains d1 L (nI one) (nI k >>> ((1 : Int32) &&& 31)) (accB F t (yC one other k)) u) rfl rfl rfl (by decide) (Nat.le_of_ble_eq_true rfl) (by decide) (by decide) (by decide) ?_
        rintro _ _ ⟨rfl, rfl⟩
        refine x_br rfl rfl (fun c1 => ?_) (fun c1 => ?_)
        · exact no (by rw [eG, decide_eq_false (Int32.not_le.mpr c1)]; rfl) _ _
        · repeat refine x_s rfl rfl ?_
          refine x_irem rfl (by decide) ?_
          rw [e7]
          repeat refine x_s rfl rfl ?_
          refine x_ald rfl rfl rfl (k := k ^^^ 1) (rfl) (by omega) (by decide) rfl ?_
          rw [hat _ e9]
          repeat refine x_s rfl rfl ?_
          refine x_cs (k_gains d1 L (nI other) (1 - (nI k &&& 1)) (accB F t (yC one other (k ^^^ 1))) u) rfl rfl rfl (by decide) (Nat.le_of_ble_eq_true rfl) (by decide) (by decide) (by decide) ?_
          rintro _ _ ⟨rfl, rfl⟩
          repeat refine x_s rfl rfl ?_
          refine x_irem rfl (by decide) ?_
          rw [e4]
          repeat refine x_s rfl rfl ?_
          refine x_ald rfl rfl rfl (k := k) (rfl) (by omega) (by decide) rfl ?_
          rw [hat _ hk]
          repeat refine x_s rfl rfl ?_
          refine x_cs (k_gains d1 L (nI other) (nI k &&& 1) (accB F t (yC one other k)) u) rfl rfl rfl (by decide) (Nat.le_of_ble_eq_true rfl) (by decide) (by decide) (by decide) ?_
          rintro _ _ ⟨rfl, rfl⟩
          refine x_br rfl rfl (fun c2 => ?_) (fun c2 => ?_)
          · have hy : G k = true := by rw [eG, decide_eq_true (Int32.not_lt.mp c1), decide_eq_true c2]; rfl
            repeat refine x_s rfl rfl ?_
            refine x_br rfl rfl (fun c3 => ?_) (fun c3 => ?_)
            · have c4 : ¬ b = -1 := c3
              exact skip _ _ _ _ (by rw [ha, cF, if_pos hy, nI_1]) (by rw [hV, if_neg c4, if_neg c4])
            · have c4 : b = -1 := c3
              repeat refine x_s rfl rfl ?_
              refine x_idiv rfl (by decide) ?_
              rw [e3]
              repeat refine x_s rfl rfl ?_
              refine x_irem rfl (by decide) ?_
              rw [e4]
              iterate 2 refine x_s rfl rfl ?_
              exact skip _ _ _ _ (by rw [ha, cF, if_pos hy, nI_1]) (by rw [hV, if_pos c4, fC_t hk hy, if_neg e10])
          · iterate 1 refine x_s rfl rfl ?_
            exact no (by rw [eG, decide_eq_false c2, Bool.and_false]) _ _
      repeat refine x_s rfl rfl ?_
      refine x_br rfl rfl (fun c => absurd c (nI_ge (b := 4) hk (by decide))) (fun c => ?_)
      repeat refine x_s rfl rfl ?_
      refine x_irem rfl (by decide) ?_
      rw [e1]
      repeat refine x_s rfl rfl ?_
      refine x_irem rfl (by decide) ?_
      rw [e4]
      refine x_br rfl rfl (fun c0 => ?_) (fun c0 => ?_)
      · iterate 3 refine x_s rfl rfl ?_
        rw [e6 c0]
        exact at148 _
      · have c0' : nI k &&& 1 = 0 := c0
        iterate 4 refine x_s rfl rfl ?_
        rw [e5 c0']
        exact at148 _
  have fill : ∀ k, k ≤ 4 → ∀ d1, mS d d1 → d1 112 0 = 0 → (∀ c, c < k → d1 139 c = accB F t (yC one other c)) → ∀ o1 o2 o3 o4, Ex mX12_game false 14 0 0 73 [some (.ref 112), some (.int (nI one)), some (.int (nI other)), some (.int (nI t)), some (.int u), some (.int (nI v)), some (.int (nI k)), o1, o2, o3, o4] [] (W0 d1 L) (qM d L true (if v = 1 then fC G 0 4 else nI (cF G 4)) 2) nX := by
    refine x_down _ ?_ ?_
    · intro d1 M1 T1 hat o1 o2 o3 o4
      repeat refine x_s rfl rfl ?_
      refine x_br rfl rfl (fun c => ?_) (fun c => absurd c (fun z => z (by decide)))
      iterate 6 refine x_s rfl rfl ?_
      exact loop d1 M1 T1 hat 0 (Nat.zero_le _) 0 (-1) _ rfl rfl _ _
    · intro k hk ih d1 M1 T1 hat o1 o2 o3 o4
      have H1 := HB_mS R H M1
      have e := q4b k hk
      repeat refine x_s rfl rfl ?_
      refine x_br rfl rfl (fun c => absurd c (nI_ge (b := 4) hk (by decide))) (fun c => ?_)
      repeat refine x_s rfl rfl ?_
      refine x_idiv rfl (by decide) ?_
      rw [e.1]
      repeat refine x_s rfl rfl ?_
      refine x_irem rfl (by decide) ?_
      rw [e.2]
      repeat refine x_s rfl rfl ?_
      refine x_cv (k_accusedIf d1 L H1 R (c := k) p1 q1 hne' s1 hk) rfl rfl rfl (by decide) rfl (by decide) rfl (Nat.le_of_ble_eq_true rfl) (by decide) (by decide) (by decide) ?_
      rintro _ _ ⟨rfl, d2, rfl, M2, T2⟩
      refine x_iast rfl rfl (k := k) (rfl) (by omega) (by decide) rfl ?_
      iterate 2 refine x_s rfl rfl ?_
      rw [nI_1]
      refine ih _ (mS_c (mS_tr M1 M2.1) (by decide)) ?_ ?_ _ _ _ _
      · show d2 112 0 = 0
        exact T2.trans T1
      · intro c hc
        by_cases ec : c = k
        · subst ec
          exact up2_eq
        · rw [up2_k ec, M2.2.1]
          exact hat c (by omega)
  iterate 2 refine x_s rfl rfl ?_
  exact fill 0 (Nat.zero_le _) d0 m0 z0 (fun c hc => by omega) _ _ _ _
set_option maxRecDepth 100000 in
set_option maxHeartbeats 1600000 in
theorem k_draw {x : Int32} (hx : d 112 58 = x) {n : Nat} (h0 : 0 < n) (hn : n ≤ 1000) : Cn mX12_draw false 1 0 0 [.ref 112, .int (nI n)] (W0 d L) (fun r h => r = some (.int (nI (drw (nx x) n))) ∧ h = W0 (up2 d 112 58 (nx x)) L) := by
  refine Cn.intro gX12_draw rfl (Nat.le_of_ble_eq_true rfl) rfl ?_
  repeat refine x_s rfl rfl ?_
  rw [hx]
  refine x_put rfl rfl (by decide) rfl ⟨rfl, rfl⟩ (Or.inl rfl) ?_
  repeat refine x_s rfl rfl ?_
  refine x_irem rfl (nI_ne0 h0 (by omega)) ?_
  repeat refine x_s rfl rfl ?_
  refine x_iret rfl rfl rfl ⟨congrArg (fun z => some (Value.int z)) ?_, rfl⟩
  have e0 : up2 d 112 58 (x * 1103515245 + 12345) 112 58 = nx x := by
    rw [up2_eq]
    rfl
  rw [e0]
  unfold drw
  obtain ⟨k, hk, e2⟩ := dr_b (nx x)
  rw [e2, irem_N (by omega) h0 (by omega), nI_tI (by omega)]
  simp
theorem HL_its {G : Fr} {xp xn : Bool} (H : HL d G xp xn) (v : Int32) : HL (up2 d 112 58 v) G xp xn := by
  obtain ⟨h1, h2, h3, h4, h5, h6, h7, h8⟩ := H
  exact ⟨h1, h2, h3, h4, h5, h6, h7, h8⟩
theorem nI_le0 {k : Nat} (hk : k < 100000) : nI k ≤ 0 ↔ k = 0 := by
  rw [le0, nI_tI (by omega)]
  omega
theorem nI_e0 {k : Nat} (hk : k < 100000) : nI k = 0 ↔ k = 0 := by
  rw [ieq, nI_tI (by omega)]
  simp
end
