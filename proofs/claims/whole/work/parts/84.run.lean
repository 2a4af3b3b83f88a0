/-! THE PARSER: one machine for an EXPR, with a pile of operators that wait (0: an open parenthesis), and what a reading by levels says of it -/
def str (t : Int32) : Nat := if t = -11 then 1 else if t = -12 then 2 else if t = -19 then 3 else if t = -13 ∨ t = -14 then 4 else if t = -15 ∨ t = -16 then 5 else 6
def drp (l : Nat) : List Int32 → List Int32 → List Int32 × List Int32
  | C, [] => (C, [])
  | C, t :: W => if t = 0 then (C, t :: W) else if l ≤ str t then drp l (C ++ [t]) W else (C, t :: W)
abbrev Rs : Type := (Nat × Nat) ⊕ (List Tk × List Int32)
def hdk (r : List Tk) : Nat × Nat := match r with
  | [] => (0, 0)
  | t :: _ => (t.1, t.2.1)
def fDp (q : Nat × Nat) : Nat × Nat := (if q.2 = 2 ∨ q.2 = 1 ∨ q.2 = 40 then 2 else 1, q.1)
def run (vx : Nat → Option Int32) : List Tk → Nat → List Int32 → List Int32 → List Bool → Rs
  | [], _, _, _, _ => .inl (1, 0)
  | (s, k, v) :: r, 0, C, W, ts =>
    if k = 1 ∧ v = 14 then run vx r 2 (drp 2 C W).1 (-12 :: (drp 2 C W).2) (false :: ts.tail)
    else if k = 1 ∧ v = 15 then run vx r 2 (drp 1 C W).1 (-11 :: (drp 1 C W).2) (false :: ts.tail)
    else if (k = 60 ∨ k = 61) ∧ ts.head? = some false then run vx r 1 (drp 4 C W).1 ((if k = 60 then -13 else -14) :: (drp 4 C W).2) (true :: ts.tail)
    else if k = 43 ∨ k = 45 then run vx r 1 (drp 5 C W).1 ((if k = 43 then -15 else -16) :: (drp 5 C W).2) ts
    else if k = 42 ∨ k = 47 then run vx r 1 (drp 6 C W).1 ((if k = 42 then -17 else -18) :: (drp 6 C W).2) ts
    else if k = 41 ∧ 0 ∈ W then run vx r 0 (drp 0 C W).1 (drp 0 C W).2.tail ts.tail
    else if 1 < ts.length then .inl (1, s) else .inr ((s, k, v) :: r, (drp 0 C W).1)
  | (s, k, v) :: r, m + 1, C, W, ts =>
    if 1 ≤ m ∧ (k = 1 ∧ v = 16) then (if m = 7 then .inl (2, s) else run vx r (m + 2) C (-19 :: W) ts)
    else if k = 40 then (if 6 ≤ ts.length then .inl (fDp (hdk r)) else run vx r 2 C (0 :: W) (false :: ts))
    else if k = 2 then (if v = 10000 then .inl (2, s) else run vx r 0 (C ++ [nI v]) W ts)
    else if k = 1 then (match vx v with
      | some t => run vx r 0 (C ++ [t]) W ts
      | none => .inl (3, s))
    else .inl (1, s)
theorem str_le (t : Int32) : 1 ≤ str t ∧ str t ≤ 6 := by
  unfold str
  split
  · decide
  split
  · decide
  split
  · decide
  split
  · decide
  split <;> decide
def tp (l : Nat) (W : List Int32) : Prop := match W with
  | [] => True
  | t :: _ => t = 0 ∨ str t < l
theorem tp_up {l l' : Nat} {W : List Int32} (h : tp l W) (hl : l ≤ l') : tp l' W := by
  cases W with
  | nil => trivial
  | cons t W => exact h.imp id (fun z => Nat.lt_of_lt_of_le z hl)
theorem drp_tp {l : Nat} {C W : List Int32} (h : tp l W) : drp l C W = (C, W) := by
  cases W with
  | nil => rfl
  | cons t W =>
    unfold drp
    rcases h with h | h
    · rw [if_pos h]
    · split
      · rfl
      · rw [if_neg (by omega)]
theorem drp_fl {l : Nat} : ∀ {V C W : List Int32}, (∀ t ∈ V, ¬ t = 0 ∧ l ≤ str t) → drp l C (V ++ W) = drp l (C ++ V) W
  | [], C, W, _ => by rw [List.append_nil]; rfl
  | t :: V, C, W, h => by
    have h1 := h t List.mem_cons_self
    show drp l C (t :: (V ++ W)) = _
    rw [drp, if_neg h1.1, if_pos h1.2, drp_fl (fun q hq => h q (List.mem_cons_of_mem _ hq)), List.append_assoc]
    rfl
/-- how strong the operator is that stands here -/
def lv (k v : Nat) (b : Option Bool) : Nat := if k = 1 ∧ v = 14 then 2 else if k = 1 ∧ v = 15 then 1 else if (k = 60 ∨ k = 61) ∧ b = some false then 4 else if k = 43 ∨ k = 45 then 5 else if k = 42 ∨ k = 47 then 6 else 0
def lvL (l : List Tk) (b : Bool) : Nat := match l with
  | [] => 0
  | t :: _ => lv t.2.1 t.2.2 (some b)
theorem run_fl {vx : Nat → Option Int32} {s k v : Nat} {r : List Tk} {V C W : List Int32} {ts : List Bool} (h : ∀ t ∈ V, ¬ t = 0 ∧ lv k v ts.head? ≤ str t) : run vx ((s, k, v) :: r) 0 C (V ++ W) ts = run vx ((s, k, v) :: r) 0 (C ++ V) W ts := by
  have fl : ∀ l, (∀ t ∈ V, l ≤ str t) → drp l C (V ++ W) = drp l (C ++ V) W := fun l hl => drp_fl (fun t ht => ⟨(h t ht).1, hl t ht⟩)
  have f0 := fl 0 (fun t _ => Nat.zero_le _)
  have m0 : (0 : Int32) ∈ V ++ W ↔ 0 ∈ W := by
    rw [List.mem_append]
    exact ⟨fun z => z.elim (fun y => absurd rfl (h 0 y).1) id, Or.inr⟩
  unfold lv at h
  rw [run, run]
  by_cases h1 : k = 1 ∧ v = 14
  · rw [if_pos h1, if_pos h1, fl 2 (fun t ht => by have := (h t ht).2; rw [if_pos h1] at this; exact this)]
  rw [if_neg h1, if_neg h1]
  simp only [if_neg h1] at h
  by_cases h2 : k = 1 ∧ v = 15
  · rw [if_pos h2, if_pos h2, fl 1 (fun t ht => by have := (h t ht).2; rw [if_pos h2] at this; exact this)]
  rw [if_neg h2, if_neg h2]
  simp only [if_neg h2] at h
  by_cases h3 : (k = 60 ∨ k = 61) ∧ ts.head? = some false
  · rw [if_pos h3, if_pos h3, fl 4 (fun t ht => by have := (h t ht).2; rw [if_pos h3] at this; exact this)]
  rw [if_neg h3, if_neg h3]
  simp only [if_neg h3] at h
  by_cases h4 : k = 43 ∨ k = 45
  · rw [if_pos h4, if_pos h4, fl 5 (fun t ht => by have := (h t ht).2; rw [if_pos h4] at this; exact this)]
  rw [if_neg h4, if_neg h4]
  simp only [if_neg h4] at h
  by_cases h5 : k = 42 ∨ k = 47
  · rw [if_pos h5, if_pos h5, fl 6 (fun t ht => by have := (h t ht).2; rw [if_pos h5] at this; exact this)]
  rw [if_neg h5, if_neg h5, f0]
  by_cases h6 : k = 41 ∧ (0 : Int32) ∈ W
  · rw [if_pos h6, if_pos ⟨h6.1, m0.mpr h6.2⟩]
  · rw [if_neg h6, if_neg (fun z => h6 ⟨z.1, m0.mp z.2⟩)]
/-- code that lays one number more on the pile, and at most u meanwhile -/
def pz (E : List Int32) (u : Nat) : Prop := ∀ (m : Nat) (R : List Int32), m + u ≤ 40 → wfA (E ++ R) m = wfA R (m + 1)
theorem pz_1 {t : Int32} (h : -11 < t) {u : Nat} (hu : 1 ≤ u) : pz [t] u := by
  intro m R hm
  show wfA (t :: R) m = _
  rw [wfA, if_pos h, decide_eq_true (by omega), Bool.true_and]
theorem pz_up {E : List Int32} {u u' : Nat} (h : pz E u) (hu : u ≤ u') : pz E u' := fun m R hm => h m R (by omega)
theorem pz_bin {E1 E2 : List Int32} {t : Int32} {u : Nat} (h1 : pz E1 (u + 1)) (h2 : pz E2 u) (ht : ¬ -11 < t) (ht2 : ¬ t = -19) : pz (E1 ++ (E2 ++ [t])) (u + 1) := by
  intro m R hm
  rw [List.append_assoc, List.append_assoc, h1 m _ hm, h2 (m + 1) _ (by omega)]
  show wfA (t :: R) (m + 1 + 1) = _
  rw [wfA, if_neg ht, if_neg ht2, decide_eq_true (by omega), Bool.true_and]
  rfl
theorem pz_not {E : List Int32} {u : Nat} (h : pz E u) : ∀ j, pz (E ++ List.replicate j (-19)) u
  | 0 => by
    intro m R hm
    rw [List.replicate_zero, List.append_nil]
    exact h m R hm
  | j + 1 => by
    intro m R hm
    rw [List.replicate_succ', ← List.append_assoc, List.append_assoc _ [-19] R, pz_not h j m _ hm]
    show wfA (-19 :: R) (m + 1) = _
    rw [wfA, if_neg (by decide), if_pos rfl, decide_eq_true (by omega), Bool.true_and]
theorem okT_app {nv : Nat} : ∀ {E E' : List Int32}, okT nv (E ++ E') = (okT nv E && okT nv E')
  | [], E' => by rw [okT, Bool.true_and]; rfl
  | t :: E, E' => by
    show okT nv (t :: (E ++ E')) = _
    rw [okT, okT, okT_app, Bool.and_assoc]
theorem okT_op {nv : Nat} {t : Int32} (h : t ≤ -11) : okT nv [t] = true := by
  unfold okT
  rw [decide_eq_true h]
  simp [okT]
theorem okT_rep {nv : Nat} : ∀ j, okT nv (List.replicate j (-19)) = true
  | 0 => rfl
  | j + 1 => by
    rw [List.replicate_succ', okT_app, okT_rep j, okT_op (by decide)]
    rfl
/-- what a level's reading from l, behind the code C, says of the machine -/
def SP (vx : Nat → Option Int32) (nv κ φ md w u : Nat) (l : List Tk) (C : List Int32) (q : Rs) : Prop := match q with
  | .inl f => ∀ (W : List Int32) (b : Bool) (ts : List Bool), tp κ W → ts.length = w → (κ ≤ 4 → b = false) → run vx l md C W (b :: ts) = .inl f
  | .inr z => pz z.2 u ∧ okT nv z.2 = true ∧ z.2.length + z.1.length ≤ l.length ∧ ∀ (W : List Int32) (b : Bool) (ts : List Bool), tp κ W → ts.length = w → (κ ≤ 4 → b = false) → ∃ b', lvL z.1 b' ≤ φ ∧ (5 ≤ κ → b' = b) ∧ run vx l md C W (b :: ts) = run vx z.1 0 (C ++ z.2) W (b' :: ts)
section
variable {vx : Nat → Option Int32} {nv w u : Nat} {l r : List Tk} {C E E1 E2 : List Int32} {s k v : Nat} {f : Nat × Nat}
theorem SP_f {κ κ' φ φ' md u' : Nat} (h : SP vx nv κ φ md w u l C (.inl f)) (hk : κ' ≤ κ) : SP vx nv κ' φ' md w u' l C (.inl f) := fun W b ts h1 h2 h3 => h W b ts (tp_up h1 hk) h2 (fun z => h3 (by omega))
theorem SP_up {κ κ' φ φ' md u' : Nat} {l' : List Tk} (h : SP vx nv κ φ md w u l C (.inr (l', E))) (hk : κ' ≤ κ) (hu : u ≤ u') (hf : ∀ b, lvL l' b ≤ φ → lvL l' b ≤ φ') : SP vx nv κ' φ' md w u' l C (.inr (l', E)) := by
  obtain ⟨a1, a2, a3, a4⟩ := h
  refine ⟨pz_up a1 hu, a2, a3, fun W b ts h1 h2 h3 => ?_⟩
  obtain ⟨b', c1, c2, c3⟩ := a4 W b ts (tp_up h1 hk) h2 (fun z => h3 (by omega))
  exact ⟨b', hf b' c1, fun z => c2 (by omega), c3⟩
theorem SP_binf {κ κi φ φa φi md md' u' : Nat} {op : Int32} (hA : SP vx nv κ φa md w u' l C (.inr ((s, k, v) :: r, E1)))
    (hst : ∀ (D W : List Int32) (b : Bool) (ts : List Bool), tp κ W → (κi ≤ 4 → True) → ∃ b', (κi ≤ 4 → b' = false) ∧ (5 ≤ κ → b' = b) ∧ run vx ((s, k, v) :: r) 0 D W (b :: ts) = run vx r md' D (op :: W) (b' :: ts)) (ho : str op < κi) (hin : SP vx nv κi φi md' w u r (C ++ E1) (.inl f)) : SP vx nv κ φ md w u' l C (.inl f) := by
  obtain ⟨a1, a2, a3, a4⟩ := hA
  intro W b ts h1 h2 h3
  obtain ⟨b1, c1, c2, c3⟩ := a4 W b ts h1 h2 h3
  obtain ⟨b2, e1, e2, e3⟩ := hst (C ++ E1) W b1 ts h1 (fun _ => trivial)
  rw [c3, e3]
  exact hin (op :: W) b2 ts (Or.inr ho) h2 e1
theorem SP_bin {κ κi φa φi md md' : Nat} {op : Int32} {l2 : List Tk} (hA : SP vx nv κ φa md w (u + 1) l C (.inr ((s, k, v) :: r, E1)))
    (hst : ∀ (D W : List Int32) (b : Bool) (ts : List Bool), tp κ W → (κi ≤ 4 → True) → ∃ b', (κi ≤ 4 → b' = false) ∧ (5 ≤ κ → b' = b) ∧ run vx ((s, k, v) :: r) 0 D W (b :: ts) = run vx r md' D (op :: W) (b' :: ts)) (ho : str op < κi) (hoz : ¬ op = 0) (hp : ¬ -11 < op) (hp2 : ¬ op = -19) (hf : φi ≤ str op) (hk : 5 ≤ κ → 5 ≤ κi) (hl2 : ∃ s k v r, l2 = (s, k, v) :: r) (hin : SP vx nv κi φi md' w u r (C ++ E1) (.inr (l2, E2))) : SP vx nv κ φi md w (u + 1) l C (.inr (l2, E1 ++ (E2 ++ [op]))) := by
  obtain ⟨a1, a2, a3, a4⟩ := hA
  obtain ⟨g1, g2, g3, g4⟩ := hin
  refine ⟨pz_bin a1 g1 hp hp2, ?_, ?_, fun W b ts h1 h2 h3 => ?_⟩
  · rw [okT_app, okT_app, a2, g2, okT_op (Int32.not_lt.mp hp)]
    rfl
  · simp only [List.length_append, List.length_cons, List.length_nil] at a3 g3 ⊢
    omega
  · obtain ⟨b1, c1, c2, c3⟩ := a4 W b ts h1 h2 h3
    obtain ⟨b2, e1, e2, e3⟩ := hst (C ++ E1) W b1 ts h1 (fun _ => trivial)
    obtain ⟨b3, f1, f2, f3⟩ := g4 (op :: W) b2 ts (Or.inr ho) h2 e1
    refine ⟨b3, f1, fun z => ?_, ?_⟩
    · rw [f2 (hk z), e2 z, c2 z]
    · rw [c3, e3, f3]
      obtain ⟨s2, k2, v2, r2, rfl⟩ := hl2
      have q := run_fl (vx := vx) (s := s2) (k := k2) (v := v2) (r := r2) (V := [op]) (C := C ++ E1 ++ E2) (W := W) (ts := b3 :: ts) (fun t ht => by
        rw [List.mem_singleton] at ht
        subst ht
        exact ⟨hoz, Nat.le_trans f1 hf⟩)
      rw [show [op] ++ W = op :: W from rfl] at q
      rw [q]
      simp only [List.append_assoc]
/-- the machine at an operator -/
theorem st_mul (hk : k = 42 ∨ k = 47) (D W : List Int32) (b : Bool) (ts : List Bool) (h : tp 6 W) (_ : 7 ≤ 4 → True) : ∃ b', (7 ≤ 4 → b' = false) ∧ (5 ≤ 6 → b' = b) ∧ run vx ((s, k, v) :: r) 0 D W (b :: ts) = run vx r 1 D ((if k = 42 then -17 else -18) :: W) (b' :: ts) := by
  refine ⟨b, fun z => absurd z (by decide), fun _ => rfl, ?_⟩
  rw [run, if_neg (by omega), if_neg (by omega), if_neg (by omega), if_neg (by omega), if_pos hk, drp_tp h]
theorem st_add (hk : k = 43 ∨ k = 45) (D W : List Int32) (b : Bool) (ts : List Bool) (h : tp 5 W) (_ : 6 ≤ 4 → True) : ∃ b', (6 ≤ 4 → b' = false) ∧ (5 ≤ 5 → b' = b) ∧ run vx ((s, k, v) :: r) 0 D W (b :: ts) = run vx r 1 D ((if k = 43 then -15 else -16) :: W) (b' :: ts) := by
  refine ⟨b, fun z => absurd z (by decide), fun _ => rfl, ?_⟩
  rw [run, if_neg (by omega), if_neg (by omega), if_neg (by omega), if_pos hk, drp_tp h]
theorem st_and (hk : k = 1 ∧ v = 14) (D W : List Int32) (b : Bool) (ts : List Bool) (h : tp 2 W) (_ : 3 ≤ 4 → True) : ∃ b', (3 ≤ 4 → b' = false) ∧ (5 ≤ 2 → b' = b) ∧ run vx ((s, k, v) :: r) 0 D W (b :: ts) = run vx r 2 D (-12 :: W) (b' :: ts) := by
  refine ⟨false, fun _ => rfl, fun z => absurd z (by decide), ?_⟩
  rw [run, if_pos hk, drp_tp h]
  rfl
theorem st_or (hk : k = 1 ∧ v = 15) (D W : List Int32) (b : Bool) (ts : List Bool) (h : tp 1 W) (_ : 2 ≤ 4 → True) : ∃ b', (2 ≤ 4 → b' = false) ∧ (5 ≤ 1 → b' = b) ∧ run vx ((s, k, v) :: r) 0 D W (b :: ts) = run vx r 2 D (-11 :: W) (b' :: ts) := by
  refine ⟨false, fun _ => rfl, fun z => absurd z (by decide), ?_⟩
  rw [run, if_neg (by omega), if_pos hk, drp_tp h]
  rfl
/-- a part -/
theorem SP_num (hv : ¬ v = 10000) (hv2 : v ≤ 9999) (hu : 1 ≤ u) : SP vx nv 7 6 1 w u ((s, 2, v) :: r) C (.inr (r, [nI v])) := by
  have h0 : (-11 : Int32) < nI v := by
    rw [ilt, nI_tI (by omega)]
    have : (-11 : Int32).toInt = -11 := rfl
    omega
  refine ⟨pz_1 h0 hu, ?_, ?_, fun W b ts _ _ _ => ⟨b, ?_, fun _ => rfl, ?_⟩⟩
  · unfold okT
    rw [decide_eq_true (nI_pos' (by omega))]
    simp [okT]
  · simp only [List.length_cons, List.length_nil]
    omega
  · unfold lvL
    split
    · omega
    · unfold lv
      split
      · omega
      split
      · omega
      split
      · omega
      split
      · omega
      split <;> omega
  · rw [run, if_neg (by omega), if_neg (by omega), if_pos rfl, if_neg hv]
theorem SP_numf : SP vx nv 7 6 1 w u ((s, 2, 10000) :: r) C (.inl (2, s)) := by
  intro W b ts _ _ _
  rw [run, if_neg (by omega), if_neg (by omega), if_pos rfl, if_pos rfl]
theorem lvL_6 (l : List Tk) (b : Bool) : lvL l b ≤ 6 := by
  unfold lvL
  split
  · omega
  · unfold lv
    split
    · omega
    split
    · omega
    split
    · omega
    split
    · omega
    split <;> omega
theorem SP_word {t : Int32} (hv : vx v = some t) (h1 : -11 < t) (h2 : okT nv [t] = true) (hu : 1 ≤ u) : SP vx nv 7 6 1 w u ((s, 1, v) :: r) C (.inr (r, [t])) := by
  refine ⟨pz_1 h1 hu, h2, ?_, fun W b ts _ _ _ => ⟨b, lvL_6 _ _, fun _ => rfl, ?_⟩⟩
  · simp only [List.length_cons, List.length_nil]
    omega
  · rw [run, if_neg (by omega), if_neg (by omega), if_neg (by omega), if_pos rfl, hv]
theorem SP_wordf (hv : vx v = none) : SP vx nv 7 6 1 w u ((s, 1, v) :: r) C (.inl (3, s)) := by
  intro W b ts _ _ _
  rw [run, if_neg (by omega), if_neg (by omega), if_neg (by omega), if_pos rfl, hv]
theorem SP_elsef (h1 : ¬ k = 40) (h2 : ¬ k = 2) (h3 : ¬ k = 1) : SP vx nv 7 6 1 w u ((s, k, v) :: r) C (.inl (1, s)) := by
  intro W b ts _ _ _
  rw [run, if_neg (by omega), if_neg h1, if_neg h2, if_neg h3]
theorem SP_deep (hw : 5 ≤ w) : SP vx nv 7 6 1 w u ((s, 40, v) :: r) C (.inl (fDp (hdk r))) := by
  intro W b ts _ h2 _
  rw [run, if_neg (by omega), if_pos rfl, if_pos (by simp only [List.length_cons]; omega)]
theorem SP_parf (hw : w < 5) {u' : Nat} (h : SP vx nv 1 0 2 (w + 1) u' r C (.inl f)) : SP vx nv 7 6 1 w u ((s, 40, v) :: r) C (.inl f) := by
  intro W b ts _ h2 _
  rw [run, if_neg (by omega), if_pos rfl, if_neg (by simp only [List.length_cons]; omega)]
  exact h (0 :: W) false (b :: ts) (Or.inl rfl) (by simp only [List.length_cons]; omega) (fun _ => rfl)
theorem lv_0 {k v : Nat} {b : Option Bool} (h : lv k v b = 0) : ¬ (k = 1 ∧ v = 14) ∧ ¬ (k = 1 ∧ v = 15) ∧ ¬ ((k = 60 ∨ k = 61) ∧ b = some false) ∧ ¬ (k = 43 ∨ k = 45) ∧ ¬ (k = 42 ∨ k = 47) := by
  unfold lv at h
  split at h
  · omega
  split at h
  · omega
  split at h
  · omega
  split at h
  · omega
  split at h
  · omega
  · refine ⟨?_, ?_, ?_, ?_, ?_⟩ <;> assumption
theorem SP_parc {s2 k2 v2 : Nat} {r2 : List Tk} (hw : w < 5) (hk : ¬ k2 = 41) {u' : Nat} (h : SP vx nv 1 0 2 (w + 1) u' r C (.inr ((s2, k2, v2) :: r2, E))) : SP vx nv 7 6 1 w u ((s, 40, v) :: r) C (.inl (1, s2)) := by
  obtain ⟨a1, a2, a3, a4⟩ := h
  intro W b ts _ h2 _
  rw [run, if_neg (by omega), if_pos rfl, if_neg (by simp only [List.length_cons]; omega)]
  obtain ⟨b', c1, c2, c3⟩ := a4 (0 :: W) false (b :: ts) (Or.inl rfl) (by simp only [List.length_cons]; omega) (fun _ => rfl)
  rw [c3]
  obtain ⟨z1, z2, z3, z4, z5⟩ := lv_0 (k := k2) (v := v2) (b := (b' :: b :: ts).head?) (Nat.le_zero.mp c1)
  rw [run, if_neg z1, if_neg z2, if_neg z3, if_neg z4, if_neg z5, if_neg (fun z => hk z.1), if_pos (by simp only [List.length_cons]; omega)]
theorem SP_par {s2 v2 : Nat} {r2 : List Tk} (hw : w < 5) {u' : Nat} (hu : u' ≤ u) (h : SP vx nv 1 0 2 (w + 1) u' r C (.inr ((s2, 41, v2) :: r2, E))) : SP vx nv 7 6 1 w u ((s, 40, v) :: r) C (.inr (r2, E)) := by
  obtain ⟨a1, a2, a3, a4⟩ := h
  refine ⟨pz_up a1 hu, a2, ?_, fun W b ts _ h2 _ => ⟨b, lvL_6 _ _, fun _ => rfl, ?_⟩⟩
  · simp only [List.length_cons] at a3 ⊢
    omega
  · rw [run, if_neg (by omega), if_pos rfl, if_neg (by simp only [List.length_cons]; omega)]
    obtain ⟨b', c1, c2, c3⟩ := a4 (0 :: W) false (b :: ts) (Or.inl rfl) (by simp only [List.length_cons]; omega) (fun _ => rfl)
    rw [c3]
    obtain ⟨z1, z2, z3, z4, z5⟩ := lv_0 (k := 41) (v := v2) (b := (b' :: b :: ts).head?) (Nat.le_zero.mp c1)
    rw [run, if_neg z1, if_neg z2, if_neg z3, if_neg z4, if_neg z5, if_pos ⟨rfl, List.mem_cons_self⟩, drp_tp (show tp 0 (0 :: W) from Or.inl rfl)]
    rfl
/-- a test -/
theorem lvL_le {l : List Tk} {b : Bool} {s k v : Nat} {r : List Tk} (e : l = (s, k, v) :: r) : lvL l b = lv k v (some b) := by
  subst e
  rfl
theorem SP_t0 {l' : List Tk} (hl : l' = (s, k, v) :: r) (hk : ¬ (k = 60 ∨ k = 61)) (h : SP vx nv 5 4 1 w u l C (.inr (l', E))) : SP vx nv 4 2 1 w (u + 1) l C (.inr (l', E)) := by
  refine SP_up h (by decide) (by omega) (fun b hb => ?_)
  rw [lvL_le hl] at hb ⊢
  unfold lv at hb ⊢
  split
  · omega
  split
  · omega
  rename_i h1 h2
  rw [if_neg h1, if_neg h2] at hb
  rw [if_neg (fun z => hk z.1)] at hb ⊢
  split
  · rename_i h3
    rw [if_pos h3] at hb
    omega
  · rename_i h3
    rw [if_neg h3] at hb
    split
    · rename_i h4
      rw [if_pos h4] at hb
      omega
    · omega
theorem run_lt (hk : k = 60 ∨ k = 61) {W : List Int32} (h : tp 4 W) (D : List Int32) (ts : List Bool) : run vx ((s, k, v) :: r) 0 D W (false :: ts) = run vx r 1 D ((if k = 60 then -13 else -14) :: W) (true :: ts) := by
  rw [run, if_neg (by omega), if_neg (by omega), if_pos ⟨hk, rfl⟩, drp_tp h]
  rfl
theorem str_lt (k : Nat) : str (if k = 60 then -13 else -14) = 4 := by split <;> decide
theorem SP_t1f (hk : k = 60 ∨ k = 61) (hA : SP vx nv 5 4 1 w u l C (.inr ((s, k, v) :: r, E1))) {u' : Nat} (hin : SP vx nv 5 4 1 w u r (C ++ E1) (.inl f)) : SP vx nv 4 2 1 w u' l C (.inl f) := by
  obtain ⟨a1, a2, a3, a4⟩ := hA
  intro W b ts h1 h2 h3
  obtain ⟨b1, c1, c2, c3⟩ := a4 W b ts (tp_up h1 (by decide)) h2 (fun z => absurd z (by decide))
  rw [c3, c2 (by decide), h3 (by decide), run_lt hk h1]
  exact hin _ true ts (Or.inr (by rw [str_lt]; decide)) h2 (fun z => absurd z (by decide))
theorem SP_t1 {l2 : List Tk} (hk : k = 60 ∨ k = 61) (hA : SP vx nv 5 4 1 w u l C (.inr ((s, k, v) :: r, E1))) (hl2 : ∃ s k v r, l2 = (s, k, v) :: r) (hin : SP vx nv 5 4 1 w u r (C ++ E1) (.inr (l2, E2))) : SP vx nv 4 2 1 w (u + 1) l C (.inr (l2, E1 ++ (E2 ++ [if k = 60 then -13 else -14]))) := by
  obtain ⟨a1, a2, a3, a4⟩ := hA
  obtain ⟨g1, g2, g3, g4⟩ := hin
  have o1 : ¬ (-11 : Int32) < (if k = 60 then -13 else -14) := by split <;> decide
  have o2 : ¬ (if k = 60 then (-13 : Int32) else -14) = -19 := by split <;> decide
  have o3 : ¬ (if k = 60 then (-13 : Int32) else -14) = 0 := by split <;> decide
  refine ⟨pz_bin (pz_up a1 (by omega)) g1 o1 o2, ?_, ?_, fun W b ts h1 h2 h3 => ?_⟩
  · rw [okT_app, okT_app, a2, g2, okT_op (Int32.not_lt.mp o1)]
    rfl
  · simp only [List.length_append, List.length_cons, List.length_nil] at a3 g3 ⊢
    omega
  · obtain ⟨b1, c1, c2, c3⟩ := a4 W b ts (tp_up h1 (by decide)) h2 (fun z => absurd z (by decide))
    obtain ⟨b3, f1, f2, f3⟩ := g4 ((if k = 60 then -13 else -14) :: W) true ts (Or.inr (by rw [str_lt]; decide)) h2 (fun z => absurd z (by decide))
    have e3 := f2 (by decide)
    subst e3
    obtain ⟨s2, k2, v2, r2, rfl⟩ := hl2
    have f4 : lv k2 v2 (some true) ≤ 2 := by
      have f5 : lv k2 v2 (some true) ≤ 4 := f1
      unfold lv at f5 ⊢
      split
      · omega
      split
      · omega
      rename_i z1 z2
      rw [if_neg z1, if_neg z2, if_neg (fun z => absurd z.2 (by decide))] at f5
      rw [if_neg (fun z => absurd z.2 (by decide))]
      split
      · rename_i z3
        rw [if_pos z3] at f5
        omega
      · rename_i z3
        rw [if_neg z3] at f5
        split
        · rename_i z4
          rw [if_pos z4] at f5
          omega
        · omega
    refine ⟨true, f4, fun z => absurd z (by decide), ?_⟩
    rw [c3, c2 (by decide), h3 (by decide), run_lt hk h1, f3]
    have q := run_fl (vx := vx) (s := s2) (k := k2) (v := v2) (r := r2) (V := [if k = 60 then -13 else -14]) (C := C ++ E1 ++ E2) (W := W) (ts := true :: ts) (fun t ht => by
      rw [List.mem_singleton] at ht
      subst ht
      exact ⟨o3, Nat.le_trans f4 (by rw [str_lt]; decide)⟩)
    rw [show [if k = 60 then (-13 : Int32) else -14] ++ W = (if k = 60 then -13 else -14) :: W from rfl] at q
    rw [q]
    simp only [List.append_assoc]
/-- nots -/
theorem run_no (h : ¬ (k = 1 ∧ v = 16)) (m : Nat) (W : List Int32) (ts : List Bool) : run vx ((s, k, v) :: r) (m + 1) C W ts = run vx ((s, k, v) :: r) 1 C W ts := by
  rw [run, run, if_neg (show ¬ (1 ≤ m ∧ (k = 1 ∧ v = 16)) from fun z => h z.2), if_neg (show ¬ (1 ≤ 0 ∧ (k = 1 ∧ v = 16)) from fun z => h z.2)]
theorem rep_c (j : Nat) (W : List Int32) : (-19 : Int32) :: (List.replicate j (-19) ++ W) = List.replicate (j + 1) (-19) ++ W := rfl
/-- j nots have been read from l, behind them l1 stands -/
def NT (vx : Nat → Option Int32) (l l1 : List Tk) (C : List Int32) (j : Nat) : Prop := j + l1.length ≤ l.length ∧ ∀ (W : List Int32) (ts : List Bool), run vx l 2 C W ts = run vx l1 (j + 2) C (List.replicate j (-19) ++ W) ts
theorem NT_0 : NT vx l l C 0 := ⟨by omega, fun _ _ => rfl⟩
theorem NT_s {j : Nat} (hj : j < 6) (h : NT vx l ((s, 1, 16) :: r) C j) : NT vx l r C (j + 1) := by
  refine ⟨?_, fun W ts => ?_⟩
  · have := h.1
    simp only [List.length_cons] at this
    omega
  · rw [h.2 W ts, run, if_pos (by omega), if_neg (by omega)]
    rfl
theorem NT_f {φ : Nat} (h : NT vx l ((s, 1, 16) :: r) C 6) : SP vx nv 3 φ 2 w u l C (.inl (2, s)) := by
  intro W b ts _ _ _
  rw [h.2 W (b :: ts), run, if_pos (by omega), if_pos rfl]
theorem tp_rep {W : List Int32} (h : tp 3 W) : ∀ j, tp 4 (List.replicate j (-19) ++ W)
  | 0 => tp_up h (by decide)
  | j + 1 => Or.inr (by decide)
theorem NT_tf {φ φ' j : Nat} (hn : ¬ (k = 1 ∧ v = 16)) (h : NT vx l ((s, k, v) :: r) C j) {u' : Nat} (hin : SP vx nv 4 φ' 1 w u' ((s, k, v) :: r) C (.inl f)) : SP vx nv 3 φ 2 w u l C (.inl f) := by
  intro W b ts h1 h2 h3
  rw [h.2 W (b :: ts), run_no hn]
  exact hin _ b ts (tp_rep h1 j) h2 (fun _ => h3 (by decide))
theorem NT_t {j : Nat} {l2 : List Tk} (hn : ¬ (k = 1 ∧ v = 16)) (h : NT vx l ((s, k, v) :: r) C j) (hl2 : ∃ s k v r, l2 = (s, k, v) :: r) (hin : SP vx nv 4 2 1 w u ((s, k, v) :: r) C (.inr (l2, E))) : SP vx nv 3 2 2 w u l C (.inr (l2, E ++ List.replicate j (-19))) := by
  obtain ⟨a1, a2, a3, a4⟩ := hin
  have h5 := h.1
  refine ⟨pz_not a1 j, ?_, ?_, fun W b ts h1 h2 h3 => ?_⟩
  · rw [okT_app, a2, okT_rep]
    rfl
  · simp only [List.length_append, List.length_replicate, List.length_cons] at a3 h5 ⊢
    omega
  · obtain ⟨b', c1, c2, c3⟩ := a4 (List.replicate j (-19) ++ W) b ts (tp_rep h1 j) h2 (fun _ => h3 (by decide))
    refine ⟨b', c1, fun z => absurd z (by decide), ?_⟩
    rw [h.2 W (b :: ts), run_no hn, c3]
    obtain ⟨s2, k2, v2, r2, rfl⟩ := hl2
    rw [run_fl (fun t ht => by
      rw [(List.mem_replicate.mp ht).2]
      exact ⟨by decide, Nat.le_trans c1 (by decide)⟩)]
    simp only [List.append_assoc]
end
