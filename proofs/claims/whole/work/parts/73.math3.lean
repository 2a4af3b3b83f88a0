/-! MATHEMATICS: one more person, one more needle; lies of some; years -/
def F10 (F : Fr) (x y k : Nat) : Fr := (up2 (up2 (up2 F.1 1 10 x) 2 10 y) 3 10 k, F.2)
section
variable {F : Fr} {x y k : Nat}
theorem F10_p {p : Nat} (hp : p ≠ 10) : (F10 F x y k).1 1 p = F.1 1 p ∧ (F10 F x y k).1 2 p = F.1 2 p ∧ (F10 F x y k).1 3 p = F.1 3 p := ⟨if_neg hp, if_neg hp, if_neg hp⟩
theorem F10_10 : (F10 F x y k).1 1 10 = x ∧ (F10 F x y k).1 2 10 = y ∧ (F10 F x y k).1 3 10 = k := ⟨rfl, rfl, rfl⟩
theorem F10_dx {n p : Nat} (hp : p ≠ 10) : dx (F10 F x y k) n p = dx F n p ∧ dy (F10 F x y k) n p = dy F n p ∧ mv (F10 F x y k) n p = mv F n p ∧ far (F10 F x y k) n p = far F n p := by
  have e := F10_p (F := F) (x := x) (y := y) (k := k) hp
  have a : dx (F10 F x y k) n p = dx F n p := by unfold dx; rw [e.1]; rfl
  have b : dy (F10 F x y k) n p = dy F n p := by unfold dy; rw [e.2.1]; rfl
  refine ⟨a, b, ?_, ?_⟩
  · unfold mv
    rw [a, b]
  · unfold far
    rw [e.1, e.2.1]
    rfl
theorem F10_hr {n s : Nat} (hp : F.1 11 s ≠ 10) : hr (F10 F x y k) n s = hr F n s := by
  show tn F.2.1 (F.1 12 s) ((F10 F x y k).1 3 (F.1 11 s)) (far (F10 F x y k) n (F.1 11 s)) (F.1 7 n) (F.1 8 n) (F.1 10 s) = _
  rw [(F10_p hp).2.2, (F10_dx hp).2.2.2]
  rfl
theorem F10_w {n : Nat} {B : Nat → Bool} : ∀ {m : Nat}, (∀ s, s < m → F.1 11 s ≠ 10) → wx (F10 F x y k) n B m = wx F n B m ∧ wy (F10 F x y k) n B m = wy F n B m ∧ wm (F10 F x y k) n B m = wm F n B m
  | 0, _ => ⟨rfl, rfl, rfl⟩
  | m + 1, h => by
    have ih := F10_w (n := n) (B := B) (m := m) (fun s hs => h s (by omega))
    have e := F10_dx (F := F) (x := x) (y := y) (k := k) (n := n) (h m (by omega))
    unfold wx wy wm
    rw [ih.1, ih.2.1, ih.2.2]
    show (if B m = true then wx F n B m + dx (F10 F x y k) n (F.1 11 m) else wx F n B m) = _ ∧ (if B m = true then wy F n B m + dy (F10 F x y k) n (F.1 11 m) else wy F n B m) = _ ∧ (if B m = true then wm F n B m || mv (F10 F x y k) n (F.1 11 m) else wm F n B m) = _
    rw [e.1, e.2.1, e.2.2.1]
    exact ⟨rfl, rfl, rfl⟩
theorem F10_l {B C : Nat → Bool} {h : Nat} : ∀ {m : Nat}, (∀ s, s < m → B s = C s) → l1 (F10 F x y k) B h m = l1 F C h m
  | 0, _ => rfl
  | m + 1, e => by
    have ih := F10_l (h := h) (m := m) (fun s hs => e s (by omega))
    unfold l1
    rw [ih, e m (by omega)]
    rfl
theorem F10_RG (R : RG F) : RG (F10 F x y k) := by
  obtain ⟨r1, r2, r3, r4, r5, r6⟩ := R
  refine ⟨r1, r2, r3, fun p hp => ?_, r5, r6⟩
  have hp' : p < F.1 0 0 := hp
  have e := F10_p (F := F) (x := x) (y := y) (k := k) (p := p) (by omega)
  rw [e.1, e.2.1, e.2.2]
  exact r4 p hp'
theorem F10_who (R : RG F) : ∀ s, s < F.1 9 0 → F.1 11 s ≠ 10 := fun s hs => by
  have := (R.2.2.2.2.2 s hs).2.1
  have := R.1
  omega
theorem F10_sh (R : RG F) (n h : Nat) : sh (F10 F x y k) n h = sh F n h := by
  have hw := F10_who R
  have el : l1 (F10 F x y k) (hr (F10 F x y k) n) h (F.1 9 0) = l1 F (hr F n) h (F.1 9 0) := F10_l (fun s hs => F10_hr (hw s hs))
  unfold sh shB
  show (if l1 (F10 F x y k) (hr (F10 F x y k) n) h (F.1 9 0) = 0 then -1 else nI (sg (wx (F10 F x y k) n (fun s => hr (F10 F x y k) n s && decide (F.1 10 s + 1 = l1 (F10 F x y k) (hr (F10 F x y k) n) h (F.1 9 0))) (F.1 9 0)) (wy (F10 F x y k) n (fun s => hr (F10 F x y k) n s && decide (F.1 10 s + 1 = l1 (F10 F x y k) (hr (F10 F x y k) n) h (F.1 9 0))) (F.1 9 0)) (wm (F10 F x y k) n (fun s => hr (F10 F x y k) n s && decide (F.1 10 s + 1 = l1 (F10 F x y k) (hr (F10 F x y k) n) h (F.1 9 0))) (F.1 9 0)))) = _
  have ew := F10_w (F := F) (x := x) (y := y) (k := k) (n := n) (B := fun s => hr (F10 F x y k) n s && decide (F.1 10 s + 1 = l1 (F10 F x y k) (hr (F10 F x y k) n) h (F.1 9 0))) (m := F.1 9 0) hw
  have ec := wx_cong (F := F) (n := n) (B := fun s => hr (F10 F x y k) n s && decide (F.1 10 s + 1 = l1 (F10 F x y k) (hr (F10 F x y k) n) h (F.1 9 0))) (C := fun s => hr F n s && decide (F.1 10 s + 1 = l1 F (hr F n) h (F.1 9 0))) (k := F.1 9 0) (fun s hs => by rw [el, F10_hr (hw s hs)])
  rw [ew.1, ew.2.1, ew.2.2, ec.1, ec.2.1, ec.2.2, el]
  rfl
theorem F10_sBe (R : RG F) (n h t a b : Nat) : sBe (F10 F x y k) n h t a b = sBe F n h t a b := by
  have hw := F10_who R
  have el : l1 (F10 F x y k) (hr (F10 F x y k) n) h (F.1 9 0) = l1 F (hr F n) h (F.1 9 0) := F10_l (fun s hs => F10_hr (hw s hs))
  have ew := F10_w (F := F) (x := x) (y := y) (k := k) (n := n) (B := Bh (F10 F x y k) n t) (m := F.1 9 0) hw
  have ec := wx_cong (F := F) (n := n) (B := Bh (F10 F x y k) n t) (C := Bh F n t) (k := F.1 9 0) (fun s hs => by unfold Bh; rw [F10_hr (hw s hs)]; rfl)
  unfold sBe
  show (if h < t ∨ t + 1 < l1 (F10 F x y k) (hr (F10 F x y k) n) h (F.1 9 0) then sh (F10 F x y k) n h else nI (sg (wx (F10 F x y k) n (Bh (F10 F x y k) n t) (F.1 9 0) + _) (wy (F10 F x y k) n (Bh (F10 F x y k) n t) (F.1 9 0) + _) (wm (F10 F x y k) n (Bh (F10 F x y k) n t) (F.1 9 0) || _))) = _
  rw [el, F10_sh R, ew.1, ew.2.1, ew.2.2, ec.1, ec.2.1, ec.2.2]
  rfl
theorem F10_hl (n dg t : Nat) : hl (F10 F x y k) n 10 dg t = tn F.2.1 dg k (fxy F n x y) (F.1 7 n) (F.1 8 n) t := rfl
theorem F10_plz (R : RG F) (Z : Sn) (R2 : RZ F Z) (t : Nat) : decide (plz (tl (F10 F x y 0).1 t 10 9, F.2) Z Z.1 = 0) = sHo F Z t x y (bF (fun n => tn F.2.1 9 0 (fxy F n x y) (F.1 7 n) (F.1 8 n) t) (F.1 4 0)) := by
  have e := sHo_tl (F10 F x y 0) (F10_RG R) Z R2 t 10 9
  refine Eq.trans e.symm ?_
  unfold sHo
  congr 2
  funext i
  rw [F10_sh R, F10_sBe R]
  rfl
end
/-- one more needle -/
def F6 (F : Fr) (x y : Nat) : Fr := (up2 (up2 (up2 (up2 F.1 5 6 x) 6 6 y) 7 6 60) 8 6 0, F.2)
theorem F6_sh (F : Fr) (x y p t : Nat) : sh (oneL (F6 F x y) p 9 t) 6 t = if tn F.2.1 9 (F.1 3 p) (fpy F p x y) 60 0 t then nI (sd ((F.1 1 p : Int) - (x : Int)) ((F.1 2 p : Int) - (y : Int))) else -1 := by
  rw [sh_one]
  rfl
theorem shl_2 : ∀ s, s < 10 → (2 : Int32) <<< (nI s &&& 31) = (1 : Int32) <<< (nI (s + 1) &&& 31) := by decide +kernel
theorem thg_eq {F : Fr} {b : Int32} {x y t p : Nat} : (if tn F.2.1 9 (F.1 3 p) (fpy F p x y) 60 0 t then (2 : Int32) <<< (nI (sd ((F.1 1 p : Int) - (x : Int)) ((F.1 2 p : Int) - (y : Int))) &&& 31) else 1) = (1 : Int32) <<< ((sh (oneL (F6 F x y) p 9 t) 6 t + 1) &&& 31) := by
  rw [F6_sh]
  cases tn F.2.1 9 (F.1 3 p) (fpy F p x y) 60 0 t
  · rw [if_neg (by decide), if_neg (by decide)]
    decide
  · have s8 := sd_8 ((F.1 1 p : Int) - (x : Int)) ((F.1 2 p : Int) - (y : Int))
    rw [if_pos rfl, if_pos rfl, shl_2 _ (by omega), nI_1]
theorem thg_bits (F : Fr) (tf : Nat → Nat → Bool) (b : Int32) (x y : Nat) : ∀ (k i : Nat), 10 ≤ i → bt (thg F tf b x y k) i = false
  | 0, i, _ => b_0 i
  | k + 1, i, h => by
    have ih := thg_bits F tf b x y k i h
    unfold thg
    split
    · rw [b_or, ih, Bool.false_or]
      by_cases hi : i < 32
      · split
        · have s8 := sd_8 ((F.1 1 k : Int) - (x : Int)) ((F.1 2 k : Int) - (y : Int))
          rw [shl_2 _ (by omega), bt_bit (by omega) hi]
          exact decide_eq_false (by omega)
        · rw [b_one]
          exact decide_eq_false (by omega)
      · exact b_big (by omega)
    · exact ih
/-- people who lie in one hour -/
def addL (F : Fr) (ho : Nat) (y : Int32) : Nat → Fr
  | 0 => F
  | k + 1 => if bt y k then (tl (addL F ho y k).1 ho k 9, F.2) else addL F ho y k
theorem addL_2 (F : Fr) (ho : Nat) (y : Int32) : ∀ k, (addL F ho y k).2 = F.2
  | 0 => rfl
  | k + 1 => by
    unfold addL
    split
    · rfl
    · exact addL_2 F ho y k
theorem addL_s (F : Fr) (ho : Nat) (y : Int32) : ∀ k, saN F (addL F ho y k)
  | 0 => saN_rfl
  | k + 1 => by
    have ih := addL_s F ho y k
    unfold addL
    split
    · have e : (tl (addL F ho y k).1 ho k 9, F.2) = (tl (addL F ho y k).1 ho k 9, (addL F ho y k).2) := by rw [addL_2]
      rw [e]
      exact saN_tr ih saN_tl
    · exact ih
/-- what the needle n has heard of them -/
theorem stp_same (F : Fr) (n ho : Nat) (q : Nat × Int × Int × Bool) (b : Bool) (X Y : Int) (m : Bool) (c : Bool) (x y : Int) (mm : Bool) (hq : q = if c then (ho + 1, X, Y, m) else q) (h0 : c = false → (q.1 = ho + 1 ∧ q.2 = (X, Y, m)) ∨ (q.1 < ho + 1 ∧ X = 0 ∧ Y = 0 ∧ m = false)) : stp1 ho b ho x y mm q = if (c || b) then (ho + 1, if b then X + x else X, if b then Y + y else Y, if b then m || mm else m) else q := by
  unfold stp1
  cases b
  · cases c
    · simp
    · rw [if_pos rfl] at hq
      simp
      exact hq
  · simp only [Bool.true_and, decide_eq_true (Nat.le_refl ho), if_true, Bool.or_true]
    cases c
    · rcases h0 rfl with ⟨a1, a2⟩ | ⟨a1, rfl, rfl, rfl⟩
      · rw [if_neg (by omega), if_pos a1, a2, a1]
      · rw [if_pos a1]
        simp
    · rw [if_pos rfl] at hq
      rw [hq]
      simp
theorem base_ho (F : Fr) (n ho : Nat) : ((sF F n (hr F n) ho (F.1 9 0)).1 = ho + 1 ∧ (sF F n (hr F n) ho (F.1 9 0)).2 = (wx F n (Bh F n ho) (F.1 9 0), wy F n (Bh F n ho) (F.1 9 0), wm F n (Bh F n ho) (F.1 9 0))) ∨ ((sF F n (hr F n) ho (F.1 9 0)).1 < ho + 1 ∧ wx F n (Bh F n ho) (F.1 9 0) = 0 ∧ wy F n (Bh F n ho) (F.1 9 0) = 0 ∧ wm F n (Bh F n ho) (F.1 9 0) = false) := by
  have hle := l1_le (F := F) (B := hr F n) (h := ho) (n := F.1 9 0)
  rw [sF_eq]
  by_cases h : l1 F (hr F n) ho (F.1 9 0) = ho + 1
  · left
    refine ⟨h, ?_⟩
    have c := wx_cong (F := F) (n := n) (B := fun s => hr F n s && decide (F.1 10 s + 1 = l1 F (hr F n) ho (F.1 9 0))) (C := Bh F n ho) (k := F.1 9 0) (fun s _ => by
      unfold Bh
      rw [h]
      congr 1
      simp)
    show (_, _, _) = (_, _, _)
    rw [c.1, c.2.1, c.2.2]
  · right
    refine ⟨by show l1 F (hr F n) ho (F.1 9 0) < ho + 1; omega, ?_⟩
    exact wx_0 (fun s hs => by
      unfold Bh
      cases hB : hr F n s
      · rfl
      · rw [Bool.true_and, decide_eq_false_iff_not]
        intro he
        have := l1_up (F := F) (B := hr F n) (h := ho) (F.1 9 0) s hs hB (by omega)
        omega)
theorem addL_sF (F : Fr) (n ho : Nat) (y : Int32) : ∀ k, sF (addL F ho y k) n (hr (addL F ho y k) n) ho ((addL F ho y k).1 9 0) = if aF (Cy F n ho y) k then (ho + 1, wx F n (Bh F n ho) (F.1 9 0) + ax F n (Cy F n ho y) k, wy F n (Bh F n ho) (F.1 9 0) + ay F n (Cy F n ho y) k, wm F n (Bh F n ho) (F.1 9 0) || am F n (Cy F n ho y) k) else sF F n (hr F n) ho (F.1 9 0)
  | 0 => rfl
  | k + 1 => by
    have ih := addL_sF F n ho y k
    have s := addL_s F ho y k
    by_cases hb : bt y k = true
    · have e : addL F ho y (k + 1) = (tl (addL F ho y k).1 ho k 9, (addL F ho y k).2) := by rw [addL, if_pos hb, addL_2]
      rw [e]
      show sF (tl (addL F ho y k).1 ho k 9, (addL F ho y k).2) n (hr (tl (addL F ho y k).1 ho k 9, (addL F ho y k).2) n) ho ((addL F ho y k).1 9 0 + 1) = _
      rw [sF_tl, ih, hl_s s, dx_s s, dy_s s, mv_s s]
      have hC : Cy F n ho y k = hl F n k 9 ho := by unfold Cy; rw [hb, Bool.true_and]
      rw [stp_same F n ho _ (hl F n k 9 ho) (wx F n (Bh F n ho) (F.1 9 0) + ax F n (Cy F n ho y) k) (wy F n (Bh F n ho) (F.1 9 0) + ay F n (Cy F n ho y) k) (wm F n (Bh F n ho) (F.1 9 0) || am F n (Cy F n ho y) k) (aF (Cy F n ho y) k)]
      · have q1 : aF (Cy F n ho y) (k + 1) = (aF (Cy F n ho y) k || Cy F n ho y k) := rfl
        have q2 : ax F n (Cy F n ho y) (k + 1) = if Cy F n ho y k then ax F n (Cy F n ho y) k + dx F n k else ax F n (Cy F n ho y) k := rfl
        have q3 : ay F n (Cy F n ho y) (k + 1) = if Cy F n ho y k then ay F n (Cy F n ho y) k + dy F n k else ay F n (Cy F n ho y) k := rfl
        have q4 : am F n (Cy F n ho y) (k + 1) = if Cy F n ho y k then am F n (Cy F n ho y) k || mv F n k else am F n (Cy F n ho y) k := rfl
        rw [q1, q2, q3, q4, hC]
        cases aF (Cy F n ho y) k <;> cases hl F n k 9 ho <;> simp [Int.add_assoc, Bool.or_assoc]
      · cases aF (Cy F n ho y) k <;> simp
      · intro hz
        rw [hz, if_neg (by decide)]
        have z : ax F n (Cy F n ho y) k = 0 ∧ ay F n (Cy F n ho y) k = 0 ∧ am F n (Cy F n ho y) k = false := by
          have no := aF_no.mp hz
          clear ih s e hC hb hz
          induction k with
          | zero => exact ⟨rfl, rfl, rfl⟩
          | succ j ihj =>
            have := ihj (fun i hi => no i (by omega))
            unfold ax ay am
            rw [no j (by omega)]
            exact this
        rw [z.1, z.2.1, z.2.2, Int.add_zero, Int.add_zero, Bool.or_false]
        exact base_ho F n ho
    · have e : addL F ho y (k + 1) = addL F ho y k := by rw [addL, if_neg hb]
      have hC : Cy F n ho y k = false := by unfold Cy; rw [Bool.eq_false_iff.mpr hb]; rfl
      have q1 : aF (Cy F n ho y) (k + 1) = (aF (Cy F n ho y) k || Cy F n ho y k) := rfl
      have q2 : ax F n (Cy F n ho y) (k + 1) = if Cy F n ho y k then ax F n (Cy F n ho y) k + dx F n k else ax F n (Cy F n ho y) k := rfl
      have q3 : ay F n (Cy F n ho y) (k + 1) = if Cy F n ho y k then ay F n (Cy F n ho y) k + dy F n k else ay F n (Cy F n ho y) k := rfl
      have q4 : am F n (Cy F n ho y) (k + 1) = if Cy F n ho y k then am F n (Cy F n ho y) k || mv F n k else am F n (Cy F n ho y) k := rfl
      rw [e, ih, q1, q2, q3, q4, hC, Bool.or_false]
      rfl
theorem sh_addL (F : Fr) (n ho : Nat) (y : Int32) : sh (addL F ho y (F.1 0 0)) n ho = sBL F n ho y := by
  rw [sh_fin, addL_sF]
  unfold sBL
  split
  · unfold fin
    rw [if_neg (by simp)]
  · rw [sh_fin]
