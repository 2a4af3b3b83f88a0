/-! LISTINGS: what one saying more does -/
/-- the same people, needles and rules -/
def saN (F G : Fr) : Prop := (∀ i, i < 9 → G.1 i = F.1 i) ∧ G.2 = F.2
theorem saN_rfl {F : Fr} : saN F F := ⟨fun _ _ => rfl, rfl⟩
theorem saN_tr {F G K : Fr} (h : saN F G) (h' : saN G K) : saN F K := ⟨fun i hi => (h'.1 i hi).trans (h.1 i hi), h'.2.trans h.2⟩
theorem saN_tl {F : Fr} {t p g : Nat} : saN F (tl F.1 t p g, F.2) := by
  refine ⟨fun i hi => ?_, rfl⟩
  show up2 (up2 (up2 (up2 F.1 10 (F.1 9 0) t) 11 (F.1 9 0) p) 12 (F.1 9 0) g) 9 0 (F.1 9 0 + 1) i = F.1 i
  rw [up2_ne (by omega), up2_ne (by omega), up2_ne (by omega), up2_ne (by omega)]
theorem saN_f0 {F : Fr} {k : Nat} : saN F (fst0 F k) := by
  refine ⟨fun i hi => ?_, rfl⟩
  show up2 F.1 9 0 k i = F.1 i
  rw [up2_ne (by omega)]
section
variable {F G : Fr}
theorem far_s (s : saN F G) (n p : Nat) : far G n p = far F n p := by unfold far; rw [s.1 1 (by omega), s.1 2 (by omega), s.1 5 (by omega), s.1 6 (by omega)]
theorem hl_s (s : saN F G) (n p dg ho : Nat) : hl G n p dg ho = hl F n p dg ho := by unfold hl; rw [far_s s, s.1 3 (by omega), s.1 7 (by omega), s.1 8 (by omega), s.2]
theorem dx_s (s : saN F G) (n p : Nat) : dx G n p = dx F n p := by unfold dx; rw [s.1 1 (by omega), s.1 5 (by omega)]
theorem dy_s (s : saN F G) (n p : Nat) : dy G n p = dy F n p := by unfold dy; rw [s.1 2 (by omega), s.1 6 (by omega)]
theorem mv_s (s : saN F G) (n p : Nat) : mv G n p = mv F n p := by unfold mv; rw [dx_s s, dy_s s]
theorem sid_s (s : saN F G) (n p : Nat) : sid G n p = sid F n p := by unfold sid; rw [dx_s s, dy_s s]
theorem pt_s (s : saN F G) (n p : Nat) (v : Int32) : pt G n p v = pt F n p v := by unfold pt; rw [sid_s s]
theorem fl_s (s : saN F G) (n p : Nat) (v : Int32) : fl G n p v = fl F n p v := by unfold fl; rw [sid_s s]
theorem wgh_s (s : saN F G) (v : Nat → Int32) (sa : Nat → Nat) (ho : Nat) (ms : Nat → Bool) (p : Nat) : wgh G v sa ho ms p = wgh F v sa ho ms p := by
  have e1 : (fun n => ms n && pt G n p (v n)) = fun n => ms n && pt F n p (v n) := by funext n; rw [pt_s s]
  have e2 : (fun n => ms n && fl G n p (v n)) = fun n => ms n && fl F n p (v n) := by funext n; rw [fl_s s]
  unfold wgh
  rw [e1, e2, s.1 4 (by omega), s.1 3 (by omega), s.2]
theorem acc_s (s : saN F G) (v : Nat → Int32) (sa : Nat → Nat) (ho : Nat) (ms : Nat → Bool) : acc G v sa ho ms = acc F v sa ho ms := by
  unfold acc
  rw [s.1 0 (by omega)]
  congr 1
  apply bst_cong
  intro p _
  exact wgh_s s v sa ho ms p
end
def stp1 (h : Nat) (b : Bool) (t : Nat) (x y : Int) (m : Bool) (q : Nat × Int × Int × Bool) : Nat × Int × Int × Bool := if b && decide (t ≤ h) then (if q.1 < t + 1 then (t + 1, x, y, m) else if q.1 = t + 1 then (q.1, q.2.1 + x, q.2.2.1 + y, q.2.2.2 || m) else q) else q
def sF (F : Fr) (n : Nat) (B : Nat → Bool) (h : Nat) : Nat → Nat × Int × Int × Bool
  | 0 => (0, 0, 0, false)
  | k + 1 => stp1 h (B k) (F.1 10 k) (dx F n (F.1 11 k)) (dy F n (F.1 11 k)) (mv F n (F.1 11 k)) (sF F n B h k)
def fin (q : Nat × Int × Int × Bool) : Int32 := if q.1 = 0 then -1 else nI (sg q.2.1 q.2.2.1 q.2.2.2)
theorem wx_0 {F : Fr} {n : Nat} {B : Nat → Bool} : ∀ {k : Nat}, (∀ s, s < k → B s = false) → wx F n B k = 0 ∧ wy F n B k = 0 ∧ wm F n B k = false
  | 0, _ => ⟨rfl, rfl, rfl⟩
  | k + 1, h => by
    have ih := wx_0 (F := F) (n := n) (B := B) (k := k) (fun s hs => h s (by omega))
    unfold wx wy wm
    rw [h k (by omega)]
    exact ih
theorem wx_cong {F : Fr} {n : Nat} {B C : Nat → Bool} : ∀ {k : Nat}, (∀ s, s < k → B s = C s) → wx F n B k = wx F n C k ∧ wy F n B k = wy F n C k ∧ wm F n B k = wm F n C k
  | 0, _ => ⟨rfl, rfl, rfl⟩
  | k + 1, h => by
    have ih := wx_cong (F := F) (n := n) (k := k) (fun s hs => h s (by omega))
    unfold wx wy wm
    rw [h k (by omega), ih.1, ih.2.1, ih.2.2]
    exact ⟨rfl, rfl, rfl⟩
theorem sF_eq (F : Fr) (n : Nat) (B : Nat → Bool) (h : Nat) : ∀ k, sF F n B h k = (l1 F B h k, wx F n (fun s => B s && decide (F.1 10 s + 1 = l1 F B h k)) k, wy F n (fun s => B s && decide (F.1 10 s + 1 = l1 F B h k)) k, wm F n (fun s => B s && decide (F.1 10 s + 1 = l1 F B h k)) k)
  | 0 => rfl
  | k + 1 => by
    have ih := sF_eq F n B h k
    have hle := l1_le (F := F) (B := B) (h := h) (n := k)
    unfold sF stp1
    rw [ih]
    by_cases hb : (B k && decide (F.1 10 k ≤ h)) = true
    · rw [if_pos hb]
      rw [Bool.and_eq_true, decide_eq_true_eq] at hb
      by_cases h1 : l1 F B h k < F.1 10 k + 1
      · rw [if_pos h1]
        have e : l1 F B h (k + 1) = F.1 10 k + 1 := by rw [l1, if_pos (by simp [hb.1, hb.2]; omega)]
        rw [e]
        have z := wx_0 (F := F) (n := n) (B := fun s => B s && decide (F.1 10 s + 1 = F.1 10 k + 1)) (k := k) (fun s hs => by
          cases hB : B s
          · rfl
          · rw [Bool.true_and, decide_eq_false_iff_not]
            intro he
            have := l1_up (F := F) (B := B) (h := h) k s hs hB (by omega)
            omega)
        unfold wx wy wm
        rw [hb.1, z.1, z.2.1, z.2.2]
        simp
      · rw [if_neg h1]
        have e : l1 F B h (k + 1) = l1 F B h k := by rw [l1, if_neg (by simp; omega)]
        rw [e]
        by_cases h2 : l1 F B h k = F.1 10 k + 1
        · rw [if_pos h2]
          rw [wx, wy, wm, hb.1, decide_eq_true h2.symm]
          rfl
        · rw [if_neg h2]
          have : decide (F.1 10 k + 1 = l1 F B h k) = false := decide_eq_false (fun z => h2 z.symm)
          rw [wx, wy, wm, this, Bool.and_false]
          rfl
    · rw [if_neg hb]
      have e : l1 F B h (k + 1) = l1 F B h k := by
        rw [l1, if_neg]
        intro z
        apply hb
        simp only [Bool.and_eq_true, decide_eq_true_eq] at z ⊢
        exact ⟨z.1, z.2.1⟩
      rw [e]
      have hk : (B k && decide (F.1 10 k + 1 = l1 F B h k)) = false := by
        cases hB : B k
        · rfl
        · rw [Bool.true_and, decide_eq_false_iff_not]
          intro z
          apply hb
          rw [hB, Bool.true_and, decide_eq_true_eq]
          omega
      rw [wx, wy, wm, hk]
      rfl
theorem shB_fin (F : Fr) (n : Nat) (B : Nat → Bool) (h : Nat) : shB F n B h = fin (sF F n B h (F.1 9 0)) := by
  rw [sF_eq]
  rfl
theorem sF_cong {F G : Fr} {n : Nat} {B C : Nat → Bool} {h : Nat} (s : saN F G) : ∀ {k : Nat}, (∀ i, i < k → B i = C i ∧ G.1 10 i = F.1 10 i ∧ G.1 11 i = F.1 11 i) → sF G n C h k = sF F n B h k
  | 0, _ => rfl
  | k + 1, e => by
    have ih := sF_cong (n := n) (h := h) s (k := k) (fun i hi => e i (by omega))
    obtain ⟨e1, e2, e3⟩ := e k (by omega)
    unfold sF
    rw [ih, e1, e2, e3, dx_s s, dy_s s, mv_s s]
theorem tl_at {F : Fr} {t p g : Nat} : (tl F.1 t p g) 9 0 = F.1 9 0 + 1 ∧ (tl F.1 t p g) 10 (F.1 9 0) = t ∧ (tl F.1 t p g) 11 (F.1 9 0) = p ∧ (tl F.1 t p g) 12 (F.1 9 0) = g := ⟨rfl, if_pos rfl, if_pos rfl, if_pos rfl⟩
theorem tl_lt {F : Fr} {t p g i : Nat} (hi : i < F.1 9 0) : (tl F.1 t p g) 10 i = F.1 10 i ∧ (tl F.1 t p g) 11 i = F.1 11 i ∧ (tl F.1 t p g) 12 i = F.1 12 i := ⟨if_neg (by omega), if_neg (by omega), if_neg (by omega)⟩
theorem hr_s {F G : Fr} (s : saN F G) {n i : Nat} (e : G.1 10 i = F.1 10 i ∧ G.1 11 i = F.1 11 i ∧ G.1 12 i = F.1 12 i) : hr G n i = hr F n i := by
  unfold hr
  rw [hl_s s, e.1, e.2.1, e.2.2]
/-- the listing with one saying more -/
theorem sF_tl {F : Fr} {t p g n h : Nat} : sF (tl F.1 t p g, F.2) n (hr (tl F.1 t p g, F.2) n) h (F.1 9 0 + 1) = stp1 h (hl F n p g t) t (dx F n p) (dy F n p) (mv F n p) (sF F n (hr F n) h (F.1 9 0)) := by
  have s := saN_tl (F := F) (t := t) (p := p) (g := g)
  have a := tl_at (F := F) (t := t) (p := p) (g := g)
  have c : sF (tl F.1 t p g, F.2) n (hr (tl F.1 t p g, F.2) n) h (F.1 9 0) = sF F n (hr F n) h (F.1 9 0) := sF_cong s (fun i hi => by
    have q := tl_lt (t := t) (p := p) (g := g) hi
    exact ⟨(hr_s s q).symm, q.1, q.2.1⟩)
  have e : hr (tl F.1 t p g, F.2) n (F.1 9 0) = hl F n p g t := by
    unfold hr
    rw [hl_s s]
    show hl F n ((tl F.1 t p g) 11 (F.1 9 0)) ((tl F.1 t p g) 12 (F.1 9 0)) ((tl F.1 t p g) 10 (F.1 9 0)) = _
    rw [a.2.1, a.2.2.1, a.2.2.2]
  rw [sF, c, e, dx_s s, dy_s s, mv_s s]
  show stp1 h _ ((tl F.1 t p g) 10 (F.1 9 0)) (dx F n ((tl F.1 t p g) 11 (F.1 9 0))) (dy F n ((tl F.1 t p g) 11 (F.1 9 0))) (mv F n ((tl F.1 t p g) 11 (F.1 9 0))) _ = _
  rw [a.2.1, a.2.2.1]
theorem sh_tl {F : Fr} {t p g n h : Nat} : sh (tl F.1 t p g, F.2) n h = fin (stp1 h (hl F n p g t) t (dx F n p) (dy F n p) (mv F n p) (sF F n (hr F n) h (F.1 9 0))) := by
  rw [sh, shB_fin]
  show fin (sF (tl F.1 t p g, F.2) n (hr (tl F.1 t p g, F.2) n) h (F.1 9 0 + 1)) = _
  rw [sF_tl]
theorem sh_fin (F : Fr) (n h : Nat) : sh F n h = fin (sF F n (hr F n) h (F.1 9 0)) := shB_fin F n (hr F n) h
theorem sg_mv (F : Fr) (n p : Nat) : sg (dx F n p) (dy F n p) (mv F n p) = sd (dx F n p) (dy F n p) := by
  have s8 := sd_8 (dx F n p) (dy F n p)
  unfold sg
  cases hm : mv F n p
  · unfold mv at hm
    simp at hm
    rw [if_neg (by decide), s8.2.mpr hm]
  · rw [if_pos rfl, if_neg]
    intro z
    rw [mv, z.1, z.2] at hm
    simp at hm
/-- one lie alone -/
def oneL (F : Fr) (p dg ho : Nat) : Fr := (tl (fst0 F 0).1 ho p dg, F.2)
theorem oneL_s (F : Fr) (p dg ho : Nat) : saN F (oneL F p dg ho) := saN_tr saN_f0 saN_tl
theorem sh_one (F : Fr) (n p dg ho : Nat) : sh (oneL F p dg ho) n ho = shA F dg ho n p := by
  have e := sh_tl (F := fst0 F 0) (t := ho) (p := p) (g := dg) (n := n) (h := ho)
  have s := saN_f0 (F := F) (k := 0)
  rw [show sh (oneL F p dg ho) n ho = sh (tl (fst0 F 0).1 ho p dg, (fst0 F 0).2) n ho from rfl, e, hl_s s, dx_s s, dy_s s, mv_s s]
  rw [show (fst0 F 0).1 9 0 = 0 from rfl]
  unfold sF stp1 shA
  cases hl F n p dg ho
  · rfl
  · simp only [Bool.true_and, decide_eq_true (Nat.le_refl ho), if_true]
    rw [if_pos (by omega)]
    unfold fin
    rw [if_neg (by simp), sg_mv]
    rfl
theorem acc_one (F : Fr) (p dg ho : Nat) : accI (oneL F p dg ho) ho = accA F p dg ho := by
  unfold accI accA
  rw [acc_s (oneL_s F p dg ho)]
  refine acc_cong (fun n _ => sh_one F n p dg ho) (fun q _ => ?_) (fun _ _ => rfl)
  show cF (fun s => decide ((oneL F p dg ho).1 11 s = q) && decide ((oneL F p dg ho).1 10 s ≤ ho)) 1 = _
  show (if (decide (p = q) && decide (ho ≤ ho)) = true then 0 + 1 else 0) = _
  by_cases h : q = p
  · simp [h]
  · simp [h]
    exact fun z => h z.symm
