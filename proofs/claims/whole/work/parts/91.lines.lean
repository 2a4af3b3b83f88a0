/-! THE TEXT line by line: a draft (numbers as in a fair; the two rules as code) -/
abbrev Dr : Type := (Nat → Nat → Nat) × Option (List Int32) × Option (List Int32)
abbrev LR : Type := (Nat × Nat) ⊕ (List Tk × Dr)
def tkn (lo hi : Nat) (l : List Tk) (K : Nat → List Tk → LR) : LR := match l with
  | [] => .inl (1, 0)
  | (s, k, v) :: r => if nmF lo hi k v = 0 then K v r else .inl (nmF lo hi k v, s)
def sgn (l : List Tk) (D : Dr) : LR := match l with
  | [] => .inl (1, 0)
  | (s, k, _) :: r => if k = 59 then .inr (r, D) else .inl (1, s)
def addP (f : Nat → Nat → Nat) (x y z : Nat) : Nat → Nat → Nat := up2 (up2 (up2 (up2 f 1 (f 0 0) x) 2 (f 0 0) y) 3 (f 0 0) z) 0 0 (f 0 0 + 1)
def addN (f : Nat → Nat → Nat) (x y z u : Nat) : Nat → Nat → Nat := up2 (up2 (up2 (up2 (up2 f 5 (f 4 0) x) 6 (f 4 0) y) 7 (f 4 0) z) 8 (f 4 0) u) 4 0 (f 4 0 + 1)
def lnOne (s : Nat) (r : List Tk) (D : Dr) : LR := if 10 ≤ D.1 0 0 then .inl (2, s) else tkn 0 40 r (fun x r1 => match r1 with
  | [] => .inl (1, 0)
  | (s2, k2, v2) :: r2 => if nmF 0 40 k2 v2 = 0 then (if aF (fun i => decide (D.1 1 i = x) && decide (D.1 2 i = v2)) (D.1 0 0) then .inl (4, s2) else tkn 0 9 r2 (fun z r3 => sgn r3 (addP D.1 x v2 z, D.2))) else .inl (nmF 0 40 k2 v2, s2))
def lnNeedle (s : Nat) (r : List Tk) (D : Dr) : LR := if 6 ≤ D.1 4 0 then .inl (2, s) else tkn 0 40 r (fun x r1 => match r1 with
  | [] => .inl (1, 0)
  | (s2, k2, v2) :: r2 => if nmF 0 40 k2 v2 = 0 then (if aF (fun i => decide (D.1 5 i = x) && decide (D.1 6 i = v2)) (D.1 4 0) then .inl (4, s2) else tkn 1 60 r2 (fun z r3 => tkn 0 9 r3 (fun u r4 => sgn r4 (addN D.1 x v2 z u, D.2)))) else .inl (nmF 0 40 k2 v2, s2))
def lnSays (s : Nat) (r : List Tk) (D : Dr) : LR := if 16 ≤ D.1 9 0 then .inl (2, s) else tkn 0 99 r (fun h r1 => match r1 with
  | [] => .inl (1, 0)
  | (s2, k2, v2) :: r2 => if nmF 0 9999 k2 v2 = 0 then (if D.1 0 0 ≤ v2 then .inl (3, s2) else tkn 0 9 r2 (fun g r3 => sgn r3 (tl D.1 h v2 g, D.2))) else .inl (nmF 0 9999 k2 v2, s2))
def lnRule (b : Nat) (s : Nat) (r : List Tk) (D : Dr) : LR := match (if b = 17 then D.2.1 else D.2.2) with
  | some _ => .inl (5, s)
  | none => match run (vxB b) r 2 [] [] [false] with
    | .inl f => .inl f
    | .inr (l, E) => sgn l (D.1, if b = 17 then (some E, D.2.2) else (D.2.1, some E))
def line (l : List Tk) (D : Dr) : LR := match l with
  | [] => .inl (1, 0)
  | (s, k, v) :: r => if k = 1 ∧ v = 9 then lnOne s r D else if k = 1 ∧ v = 10 then lnNeedle s r D else if k = 1 ∧ v = 11 then lnSays s r D else if k = 1 ∧ v = 12 then lnRule 17 s r D else if k = 1 ∧ v = 13 then lnRule 20 s r D else .inl (1, s)
/-- all lines -/
def lns : Nat → List Tk → Dr → (Nat × Nat) ⊕ Dr
  | 0, _, _ => .inl (1, 0)
  | N + 1, l, D => match l with
    | [] => .inl (1, 0)
    | (s, k, v) :: r => if k = 0 then .inr D else match line ((s, k, v) :: r) D with
      | .inl f => .inl f
      | .inr (l', D') => lns N l' D'
theorem drp_any {l : Nat} {C W : List Int32} : True := trivial
theorem run_len {vx : Nat → Option Int32} : ∀ (l : List Tk) (md : Nat) (C W : List Int32) (ts : List Bool) (z : List Tk × List Int32), run vx l md C W ts = .inr z → z.1.length ≤ l.length
  | [], md, C, W, ts, z, h => by
    rw [run] at h
    cases h
  | (s, k, v) :: r, 0, C, W, ts, z, h => by
    have up : ∀ {md' C' W' ts'}, run vx r md' C' W' ts' = .inr z → z.1.length ≤ r.length + 1 := fun hh => Nat.le_trans (run_len r _ _ _ _ z hh) (Nat.le_succ _)
    rw [run] at h
    simp only [List.length_cons]
    split at h
    · exact up h
    split at h
    · exact up h
    split at h
    · exact up h
    split at h
    · exact up h
    split at h
    · exact up h
    split at h
    · exact up h
    split at h
    · cases h
    · cases h
      simp
  | (s, k, v) :: r, m + 1, C, W, ts, z, h => by
    have up : ∀ {md' C' W' ts'}, run vx r md' C' W' ts' = .inr z → z.1.length ≤ r.length + 1 := fun hh => Nat.le_trans (run_len r _ _ _ _ z hh) (Nat.le_succ _)
    rw [run] at h
    simp only [List.length_cons]
    split at h
    · split at h
      · cases h
      · exact up h
    split at h
    · split at h
      · cases h
      · exact up h
    split at h
    · split at h
      · cases h
      · exact up h
    split at h
    · split at h
      · exact up h
      · cases h
    · cases h
theorem sgn_len {l l' : List Tk} {D D' : Dr} (h : sgn l D = .inr (l', D')) : l'.length < l.length := by
  unfold sgn at h
  split at h
  · cases h
  · split at h
    · cases h
      simp
    · cases h
theorem tkn_len {lo hi m : Nat} {l l' : List Tk} {D' : Dr} {K : Nat → List Tk → LR} (hK : ∀ v r, K v r = .inr (l', D') → l'.length < r.length) (h : tkn lo hi l K = .inr (l', D')) : l'.length < l.length := by
  unfold tkn at h
  split at h
  · cases h
  · split at h
    · have := hK _ _ h
      simp only [List.length_cons]
      omega
    · cases h
theorem line_len {l l' : List Tk} {D D' : Dr} (h : line l D = .inr (l', D')) : l'.length < l.length := by
  unfold line at h
  split at h
  · cases h
  rename_i s k v r
  simp only [List.length_cons]
  have rl : ∀ b, lnRule b s r D = .inr (l', D') → l'.length < r.length + 1 := by
    intro b h
    unfold lnRule at h
    split at h
    · cases h
    · split at h
      · cases h
      · rename_i l1 E hr
        have h1 := run_len _ _ _ _ _ _ hr
        have h2 := sgn_len h
        simp only at h1
        omega
  split at h
  · unfold lnOne at h
    split at h
    · cases h
    have := tkn_len (m := 0) (fun x r1 hh => by
      split at hh
      · cases hh
      · split at hh
        · split at hh
          · cases hh
          · have := tkn_len (m := 0) (fun z r3 h3 => sgn_len h3) hh
            simp only [List.length_cons]
            omega
        · cases hh) h
    omega
  split at h
  · unfold lnNeedle at h
    split at h
    · cases h
    have := tkn_len (m := 0) (fun x r1 hh => by
      split at hh
      · cases hh
      · split at hh
        · split at hh
          · cases hh
          · have := tkn_len (m := 0) (fun z r3 h3 => tkn_len (m := 0) (fun u r4 h4 => sgn_len h4) h3) hh
            simp only [List.length_cons]
            omega
        · cases hh) h
    omega
  split at h
  · unfold lnSays at h
    split at h
    · cases h
    have := tkn_len (m := 0) (fun x r1 hh => by
      split at hh
      · cases hh
      · split at hh
        · split at hh
          · cases hh
          · have := tkn_len (m := 0) (fun z r3 h3 => sgn_len h3) hh
            simp only [List.length_cons]
            omega
        · cases hh) h
    omega
  split at h
  · exact rl 17 h
  split at h
  · exact rl 20 h
  · cases h
theorem lns_s {N s k v : Nat} {r l' : List Tk} {D D' : Dr} (hk : ¬ k = 0) (h : line ((s, k, v) :: r) D = .inr (l', D')) : lns (N + 1) ((s, k, v) :: r) D = lns N l' D' := by
  rw [lns]
  simp only [if_neg hk, h]
theorem lns_f {N s k v : Nat} {r : List Tk} {D : Dr} {f : Nat × Nat} (hk : ¬ k = 0) (h : line ((s, k, v) :: r) D = .inl f) : lns (N + 1) ((s, k, v) :: r) D = .inl f := by
  rw [lns]
  simp only [if_neg hk, h]
theorem lns_e {N s v : Nat} {r : List Tk} {D : Dr} : lns (N + 1) ((s, 0, v) :: r) D = .inr D := by
  rw [lns]
  rfl
def RO (nv : Nat) (g : Option (List Int32)) : Prop := match g with
  | none => True
  | some E => 0 < E.length ∧ E.length ≤ 700 ∧ wfA E 0 = true ∧ okT nv E = true
def DG (D : Dr) : Prop := RG (D.1, (none, none)) ∧ RO 6 D.2.1 ∧ RO 5 D.2.2
theorem pz_wf {E : List Int32} {u : Nat} (h : pz E u) (hu : u ≤ 40) : 0 < E.length ∧ wfA E 0 = true := by
  have h1 := h 0 [] (by omega)
  rw [List.append_nil] at h1
  refine ⟨?_, h1.trans rfl⟩
  cases E with
  | nil => exact absurd h1 (by decide)
  | cons t E => simp
theorem RG_addP {f : Nat → Nat → Nat} {g : Gr × Gr} (R : RG (f, g)) {x y z : Nat} (h0 : f 0 0 < 10) (hx : x ≤ 40) (hy : y ≤ 40) (hz : z ≤ 9) : RG (addP f x y z, g) := by
  obtain ⟨r1, r2, r3, r4, r5, r6⟩ := R
  refine ⟨?_, r2, r3, fun p hp => ?_, r5, fun s hs => ?_⟩
  · show f 0 0 + 1 ≤ 10
    omega
  · have hp' : p < f 0 0 + 1 := hp
    show (if p = f 0 0 then x else f 1 p) ≤ 40 ∧ (if p = f 0 0 then y else f 2 p) ≤ 40 ∧ (if p = f 0 0 then z else f 3 p) ≤ 9
    by_cases e : p = f 0 0
    · simp only [if_pos e]
      exact ⟨hx, hy, hz⟩
    · simp only [if_neg e]
      exact r4 p (show p < f 0 0 by omega)
  · obtain ⟨a, c, e⟩ := r6 s hs
    exact ⟨a, Nat.lt_succ_of_lt c, e⟩
theorem RG_addN {f : Nat → Nat → Nat} {g : Gr × Gr} (R : RG (f, g)) {x y z u : Nat} (h0 : f 4 0 < 6) (hx : x ≤ 40) (hy : y ≤ 40) (hz : z ≤ 60) (hu : u ≤ 9) : RG (addN f x y z u, g) := by
  obtain ⟨r1, r2, r3, r4, r5, r6⟩ := R
  refine ⟨r1, ?_, r3, r4, fun p hp => ?_, r6⟩
  · show f 4 0 + 1 ≤ 6
    omega
  · have hp' : p < f 4 0 + 1 := hp
    show (if p = f 4 0 then x else f 5 p) ≤ 40 ∧ (if p = f 4 0 then y else f 6 p) ≤ 40 ∧ (if p = f 4 0 then z else f 7 p) ≤ 60 ∧ (if p = f 4 0 then u else f 8 p) ≤ 9
    by_cases e : p = f 4 0
    · simp only [if_pos e]
      exact ⟨hx, hy, hz, hu⟩
    · simp only [if_neg e]
      exact r5 p (show p < f 4 0 by omega)
theorem nmF_0 {lo hi k v : Nat} (h : nmF lo hi k v = 0) : k = 2 ∧ lo ≤ v ∧ v ≤ hi := by
  unfold nmF at h
  split at h
  · split at h
    · exact ⟨by assumption, by assumption⟩
    · cases h
  · cases h
theorem nmF_b (lo hi k v : Nat) : nmF lo hi k v ≤ 2 := by
  unfold nmF
  split
  · split <;> decide
  · decide
