/-! THE ABSTRACT MACHINE. A world is: shapes (a number below 100: an object of that class in vwCl, with so many fields; 100 int[], 101 byte[], 102 boolean[], 103 long[], 104 int[][], 105 Way[], with their lengths), the whole numbers d c k (cell, field or place), the longs, the references (cells by number). 'al' says at which address a cell lies. -/
abbrev xHp : Type := List (Nat × Nat) × (Nat → Nat → Int32) × (Nat → Nat → Int64) × (Nat → Nat → Option Nat)
abbrev xRow : Type := Nat × Nat × Instr × List Nat × Int32 × Int64
/-- a method: its number, its class's number, code, locals, type, rows (pc, the next pc, instruction, resolved numbers, an int, a long) -/
abbrev xM : Type := Nat × Nat × ByteArray × Nat × Option FieldType × List xRow
def xcv (al : Nat → Nat) (v : Value) : Value := match v with
  | .ref i => .ref (al i)
  | w => w
theorem xcv_cat (al : Nat → Nat) (v : Value) : (xcv al v).category = v.category := by cases v <;> rfl
def xtyF : List (Nat → FieldType) := [tyX0, tyX1, tyX2, tyX3, tyX4, tyX5, tyX6, tyX7, tyX8, tyX9, tyX10, tyX11, tyX12]
def xty (ci k : Nat) : FieldType := match xtyF[ci]? with
  | some f => f k
  | none => .int
def xkd (ty : FieldType) : Nat := match ty with
  | .int => 0
  | .boolean => 3
  | .long => 2
  | _ => 1
def xfv (al : Nat → Nat) (h : xHp) (c ci k : Nat) : Value := match xkd (xty ci k) with
  | 1 => va_rf ((h.2.2.2 c k).map al)
  | 2 => .long (h.2.2.1 c k)
  | _ => .int (h.2.1 c k)
def xcell (ka : Nat → ClassId) (al : Nat → Nat) (h : xHp) (c t n : Nat) : va_E :=
  if t < 100 then .inr (t, (List.range n).map (xfv al h c t))
  else if t < 103 then .inl (ka t, n, .inl (h.2.1 c))
  else if t = 103 then .inl (ka t, n, .inr (.inl (h.2.2.1 c)))
  else .inl (ka t, n, .inr (.inr (.inr (.inr (fun j => (h.2.2.2 c j).map al)))))
def xws (ka : Nat → ClassId) (al : Nat → Nat) (h : xHp) : va_W := h.1.mapIdx fun c tn => (al c, xcell ka al h c tn.1 tn.2)
def xtys (ka : Nat → ClassId) : List (ClassId × FieldType) := [(ka 100, .int), (ka 101, .byte), (ka 102, .boolean), (ka 103, .long), (ka 104, .array .int), (ka 105, .object RX10)]
theorem xws_get {ka : Nat → ClassId} {al : Nat → Nat} {h : xHp} {c t n : Nat} (hc : h.1[c]? = some (t, n)) : (xws ka al h)[c]? = some (al c, xcell ka al h c t n) := by
  unfold xws
  rw [List.getElem?_mapIdx, hc]
  rfl
theorem xws_get' {ka : Nat → ClassId} {al : Nat → Nat} {h : xHp} {c : Nat} {q : Nat × va_E} (hq : (xws ka al h)[c]? = some q) : ∃ t n, h.1[c]? = some (t, n) ∧ q = (al c, xcell ka al h c t n) := by
  unfold xws at hq
  rw [List.getElem?_mapIdx] at hq
  cases hc : h.1[c]? with
  | none => rw [hc] at hq; cases hq
  | some tn => rw [hc] at hq; exact ⟨tn.1, tn.2, rfl, (Option.some.inj hq).symm⟩
/-- two worlds that differ in one cell -/
theorem xws_set {ka : Nat → ClassId} {al : Nat → Nat} {h h' : xHp} {c t n : Nat} (hs : h'.1 = h.1) (hc : h.1[c]? = some (t, n)) (he : ∀ c', c' ≠ c → ∀ t n, xcell ka al h' c' t n = xcell ka al h c' t n) : xws ka al h' = (xws ka al h).set c (al c, xcell ka al h' c t n) := by
  apply List.ext_getElem?
  intro i
  by_cases hi : i = c
  · subst hi
    rw [List.getElem?_set_self (by unfold xws; rw [List.length_mapIdx]; exact (List.getElem?_eq_some_iff.mp hc).1), xws_get (by rw [hs]; exact hc)]
  · rw [List.getElem?_set_ne (Ne.symm hi)]
    unfold xws
    rw [List.getElem?_mapIdx, List.getElem?_mapIdx, hs]
    cases h.1[i]? with
    | none => rfl
    | some tn => simp only [Option.map_some, he i hi]
def up2 {α : Type} (d : Nat → Nat → α) (c k : Nat) (v : α) : Nat → Nat → α := fun c' k' => if c' = c then (if k' = k then v else d c' k') else d c' k'
def xpI (h : xHp) (c k : Nat) (v : Int32) : xHp := (h.1, up2 h.2.1 c k v, h.2.2.1, h.2.2.2)
def xpL (h : xHp) (c k : Nat) (v : Int64) : xHp := (h.1, h.2.1, up2 h.2.2.1 c k v, h.2.2.2)
def xpR (h : xHp) (c k : Nat) (v : Option Nat) : xHp := (h.1, h.2.1, h.2.2.1, up2 h.2.2.2 c k v)
theorem up2_ne {α : Type} {d : Nat → Nat → α} {c k c' : Nat} {v : α} (h : c' ≠ c) : up2 d c k v c' = d c' := by
  funext j
  simp [up2, h]
theorem up2_k {α : Type} {d : Nat → Nat → α} {c k k' : Nat} {v : α} (h : k' ≠ k) : up2 d c k v c k' = d c k' := by simp [up2, h]
theorem up2_eq {α : Type} {d : Nat → Nat → α} {c k : Nat} {v : α} : up2 d c k v c k = v := by simp [up2]
theorem xcell_cong {ka : Nat → ClassId} {al : Nat → Nat} {h h' : xHp} {c' t n : Nat} (h1 : h'.2.1 c' = h.2.1 c') (h2 : h'.2.2.1 c' = h.2.2.1 c') (h3 : h'.2.2.2 c' = h.2.2.2 c') : xcell ka al h' c' t n = xcell ka al h c' t n := by
  have e : xfv al h' c' t = xfv al h c' t := by
    funext k
    unfold xfv
    rw [h1, h2, h3]
  unfold xcell
  rw [e, h1, h2, h3]
theorem xcell_I {ka : Nat → ClassId} {al : Nat → Nat} {h : xHp} {c k : Nat} {v : Int32} {c' t n : Nat} (hc : c' ≠ c) : xcell ka al (xpI h c k v) c' t n = xcell ka al h c' t n := xcell_cong (up2_ne hc) rfl rfl
theorem xcell_L {ka : Nat → ClassId} {al : Nat → Nat} {h : xHp} {c k : Nat} {v : Int64} {c' t n : Nat} (hc : c' ≠ c) : xcell ka al (xpL h c k v) c' t n = xcell ka al h c' t n := xcell_cong rfl (up2_ne hc) rfl
theorem xcell_R {ka : Nat → ClassId} {al : Nat → Nat} {h : xHp} {c k : Nat} {v : Option Nat} {c' t n : Nat} (hc : c' ≠ c) : xcell ka al (xpR h c k v) c' t n = xcell ka al h c' t n := xcell_cong rfl rfl (up2_ne hc)
/-- the locals: what is known of them -/
def xl (al : Nat → Nat) (ls : List (Option Value)) : List (Nat × Value) := ls.zipIdx.filterMap fun q => q.1.map fun v => (q.2, xcv al v)
theorem xl_mem {al : Nat → Nat} {ls : List (Option Value)} {i : Nat} {w : Value} : (i, w) ∈ xl al ls ↔ ∃ v, ls[i]? = some (some v) ∧ w = xcv al v := by
  unfold xl
  rw [List.mem_filterMap]
  constructor
  · rintro ⟨⟨o, j⟩, h1, h2⟩
    have h3 := List.mem_zipIdx_iff_getElem?.mp h1
    cases o with
    | none => cases h2
    | some v =>
      simp only [Option.map_some, Option.some.injEq, Prod.mk.injEq] at h2
      obtain ⟨rfl, rfl⟩ := h2
      exact ⟨v, h3, rfl⟩
  · rintro ⟨v, h1, rfl⟩
    exact ⟨(some v, i), List.mem_zipIdx_iff_getElem?.mpr h1, rfl⟩
theorem xl_at {al : Nat → Nat} {ls : List (Option Value)} {lsA : Array Slot} {nL i : Nat} {v : Value} (h : lv_has lsA nL (xl al ls)) (hi : ls[i]? = some (some v)) : lsA[i]? = some (.val (xcv al v)) := h.2.2 (i, xcv al v) (xl_mem.mpr ⟨v, hi, rfl⟩)
theorem xl_sub {lsA : Array Slot} {nL : Nat} {l l' : List (Nat × Value)} (h : lv_has lsA nL l) (hs : ∀ q ∈ l', q ∈ l) : lv_has lsA nL l' := ⟨h.1, h.2.1, fun q hq => h.2.2 q (hs q hq)⟩
def xcat2 (o : Option Value) : Bool := match o with
  | some (.long _) => true
  | some (.double _) => true
  | _ => false
def xdrop (o : Option Value) : Option Value := match o with
  | some (.long _) => none
  | some (.double _) => none
  | w => w
/-- a value of one slot is stored -/
def xst1 : List (Option Value) → Nat → Value → List (Option Value)
  | [], _, _ => []
  | _ :: r, 0, v => some v :: r
  | a :: r, 1, v => xdrop a :: xst1 r 0 v
  | a :: r, i + 2, v => a :: xst1 r (i + 1) v
/-- a value of two slots is stored -/
def xst2 : List (Option Value) → Nat → Value → List (Option Value)
  | [], _, _ => []
  | _ :: r, 0, v => some v :: (match r with
    | [] => []
    | _ :: r' => none :: r')
  | a :: r, 1, v => xdrop a :: xst2 r 0 v
  | a :: r, i + 2, v => a :: xst2 r (i + 1) v
theorem xst1_get : ∀ (ls : List (Option Value)) (i : Nat) (v w : Value) (j : Nat), (xst1 ls i v)[j]? = some (some w) → (j = i ∧ w = v) ∨ (j ≠ i ∧ ¬ (j + 1 = i ∧ w.category = 2) ∧ ls[j]? = some (some w))
  | [], i, v, w, j, h => by simp [xst1] at h
  | a :: r, 0, v, w, j, h => by
    cases j with
    | zero => simp [xst1] at h; exact Or.inl ⟨rfl, h.symm⟩
    | succ j => simp [xst1] at h; exact Or.inr ⟨by omega, by omega, by simpa using h⟩
  | a :: r, 1, v, w, j, h => by
    cases j with
    | zero =>
      simp only [xst1, List.getElem?_cons_zero, Option.some.injEq] at h
      refine Or.inr ⟨by omega, ?_, ?_⟩
      · rintro ⟨-, hc⟩
        cases a with
        | none => simp [xdrop] at h
        | some a => cases a <;> simp [xdrop] at h <;> subst h <;> simp [Value.category] at hc
      · cases a with
        | none => simp [xdrop] at h
        | some a => cases a <;> simp [xdrop] at h <;> subst h <;> rfl
    | succ j =>
      simp only [xst1, List.getElem?_cons_succ] at h
      rcases xst1_get r 0 v w j h with ⟨h1, h2⟩ | ⟨h1, h2, h3⟩
      · exact Or.inl ⟨by omega, h2⟩
      · exact Or.inr ⟨by omega, by omega, by simpa using h3⟩
  | a :: r, i + 2, v, w, j, h => by
    cases j with
    | zero => simp [xst1] at h; exact Or.inr ⟨by omega, by omega, by simp [h]⟩
    | succ j =>
      simp only [xst1, List.getElem?_cons_succ] at h
      rcases xst1_get r (i + 1) v w j h with ⟨h1, h2⟩ | ⟨h1, h2, h3⟩
      · exact Or.inl ⟨by omega, h2⟩
      · exact Or.inr ⟨by omega, fun q => h2 ⟨by omega, q.2⟩, by simpa using h3⟩
theorem xst2_get : ∀ (ls : List (Option Value)) (i : Nat) (v w : Value) (j : Nat), (xst2 ls i v)[j]? = some (some w) → (j = i ∧ w = v) ∨ (j ≠ i ∧ j ≠ i + 1 ∧ ¬ (j + 1 = i ∧ w.category = 2) ∧ ls[j]? = some (some w))
  | [], i, v, w, j, h => by simp [xst2] at h
  | a :: r, 0, v, w, j, h => by
    match j, r, h with
    | 0, r, h => simp [xst2] at h; exact Or.inl ⟨rfl, h.symm⟩
    | 1, [], h => simp [xst2] at h
    | 1, b :: r, h => simp [xst2] at h
    | j + 2, [], h => simp [xst2] at h
    | j + 2, b :: r, h => simp [xst2] at h; exact Or.inr ⟨by omega, by omega, by omega, by simpa using h⟩
  | a :: r, 1, v, w, j, h => by
    cases j with
    | zero =>
      simp only [xst2, List.getElem?_cons_zero, Option.some.injEq] at h
      refine Or.inr ⟨by omega, by omega, ?_, ?_⟩
      · rintro ⟨-, hc⟩
        cases a with
        | none => simp [xdrop] at h
        | some a => cases a <;> simp [xdrop] at h <;> subst h <;> simp [Value.category] at hc
      · cases a with
        | none => simp [xdrop] at h
        | some a => cases a <;> simp [xdrop] at h <;> subst h <;> rfl
    | succ j =>
      simp only [xst2, List.getElem?_cons_succ] at h
      rcases xst2_get r 0 v w j h with ⟨h1, h2⟩ | ⟨h1, h2, h3, h4⟩
      · exact Or.inl ⟨by omega, h2⟩
      · exact Or.inr ⟨by omega, by omega, by omega, by simpa using h4⟩
  | a :: r, i + 2, v, w, j, h => by
    cases j with
    | zero => simp [xst2] at h; exact Or.inr ⟨by omega, by omega, by omega, by simp [h]⟩
    | succ j =>
      simp only [xst2, List.getElem?_cons_succ] at h
      rcases xst2_get r (i + 1) v w j h with ⟨h1, h2⟩ | ⟨h1, h2, h3, h4⟩
      · exact Or.inl ⟨by omega, h2⟩
      · exact Or.inr ⟨by omega, by omega, fun q => h3 ⟨by omega, q.2⟩, by simpa using h4⟩
theorem xl_st1 {al : Nat → Nat} {ls : List (Option Value)} {i : Nat} {v : Value} : ∀ q ∈ xl al (xst1 ls i v), q ∈ (i, xcv al v) :: (xl al ls).filter (fun q => !(q.1 == i) && !(q.1 + 1 == i && q.2.category == 2)) := by
  rintro ⟨j, w⟩ hq
  obtain ⟨w0, h1, rfl⟩ := xl_mem.mp hq
  rcases xst1_get ls i v w0 j h1 with ⟨rfl, rfl⟩ | ⟨h2, h3, h4⟩
  · exact List.mem_cons_self
  · refine List.mem_cons_of_mem _ (List.mem_filter.mpr ⟨xl_mem.mpr ⟨w0, h4, rfl⟩, ?_⟩)
    simp only [Bool.and_eq_true, Bool.not_eq_true', beq_eq_false_iff_ne, ne_eq, xcv_cat]
    refine ⟨h2, ?_⟩
    by_cases h5 : j + 1 = i
    · have h6 : ¬ w0.category = 2 := fun z => h3 ⟨h5, z⟩
      simp [h6]
    · simp [h5]
theorem xl_st2 {al : Nat → Nat} {ls : List (Option Value)} {i : Nat} {v : Value} : ∀ q ∈ xl al (xst2 ls i v), q ∈ (i, xcv al v) :: (xl al ls).filter (fun q => !(q.1 == i) && (!(q.1 == i + 1) && !(q.1 + 1 == i && q.2.category == 2))) := by
  rintro ⟨j, w⟩ hq
  obtain ⟨w0, h1, rfl⟩ := xl_mem.mp hq
  rcases xst2_get ls i v w0 j h1 with ⟨rfl, rfl⟩ | ⟨h2, h2', h3, h4⟩
  · exact List.mem_cons_self
  · refine List.mem_cons_of_mem _ (List.mem_filter.mpr ⟨xl_mem.mpr ⟨w0, h4, rfl⟩, ?_⟩)
    simp only [Bool.and_eq_true, Bool.not_eq_true', beq_eq_false_iff_ne, ne_eq, xcv_cat]
    refine ⟨h2, h2', ?_⟩
    by_cases h5 : j + 1 = i
    · have h6 : ¬ w0.category = 2 := fun z => h3 ⟨h5, z⟩
      simp [h6]
    · simp [h5]
