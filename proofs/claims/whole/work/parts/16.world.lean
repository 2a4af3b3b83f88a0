/-! THE WORLD behind the two constructors: cells by number (wip/whole/gen/world.py lists them) -/
def SH : List (Nat × Nat) := [(11, 18), (5, 10), (101, 700), (2, 5), (4, 4), (100, 10), (100, 10), (100, 10), (3, 5), (100, 6), (100, 6), (100, 6), (100, 6), (7, 4), (100, 16), (100, 16), (100, 16), (6, 3), (100, 700), (100, 40), (6, 3), (100, 700), (100, 40), (9, 10), (2, 5), (4, 4), (100, 10), (100, 10), (100, 10), (3, 5), (100, 6), (100, 6), (100, 6), (100, 6), (7, 4), (100, 16), (100, 16), (100, 16), (6, 3), (100, 700), (100, 40), (6, 3), (100, 700), (100, 40), (100, 6), (104, 6), (100, 100), (100, 100), (100, 100), (100, 100), (100, 100), (100, 100), (104, 6), (100, 100), (100, 100), (100, 100), (100, 100), (100, 100), (100, 100), (104, 6), (100, 10), (100, 10), (100, 10), (100, 10), (100, 10), (100, 10), (100, 100), (100, 10), (105, 6), (10, 3), (100, 6), (10, 3), (10, 3), (10, 3), (10, 3), (10, 3), (10, 3), (1, 3), (100, 6), (100, 10), (100, 5), (0, 5), (100, 40), (100, 40), (100, 40), (100, 40), (8, 4), (100, 8), (100, 8), (100, 8), (7, 4), (100, 16), (100, 16), (100, 16), (3, 5), (100, 6), (100, 6), (100, 6), (100, 6), (0, 5), (100, 40), (100, 40), (100, 40), (100, 40), (8, 4), (100, 8), (100, 8), (100, 8), (100, 100), (100, 100), (100, 4), (103, 10), (12, 65), (100, 11), (100, 11), (100, 11), (100, 7), (100, 1400), (100, 700), (100, 3), (100, 10), (100, 10), (100, 10), (100, 6), (100, 67), (100, 1400), (100, 950), (102, 9), (100, 67), (100, 2680), (100, 9), (100, 950), (100, 120), (100, 120), (100, 120), (100, 7), (100, 7), (100, 7), (100, 7), (100, 6), (100, 70), (100, 24), (100, 67), (100, 2680), (100, 24), (103, 1)]
def RT : List (List (Option Nat)) := [[some 1, some 23, some 77, some 81, some 86, some 90, some 94, some 99, some 104, some 108, some 109, some 110, some 111], [some 2, none, some 3], [], [some 4, some 8, some 13, some 17, some 20], [none, some 5, some 6, some 7], [], [], [], [none, some 9, some 10, some 11, some 12], [], [], [], [], [none, some 14, some 15, some 16], [], [], [], [none, some 18, some 19], [], [], [none, some 21, some 22], [], [], [some 24, some 44, some 45, some 52, some 59, some 66, some 67, some 68, some 69, some 70], [some 25, some 29, some 34, some 38, some 41], [none, some 26, some 27, some 28], [], [], [], [none, some 30, some 31, some 32, some 33], [], [], [], [], [none, some 35, some 36, some 37], [], [], [], [none, some 39, some 40], [], [], [none, some 42, some 43], [], [], [], [some 46, some 47, some 48, some 49, some 50, some 51], [], [], [], [], [], [], [some 53, some 54, some 55, some 56, some 57, some 58], [], [], [], [], [], [], [some 60, some 61, some 62, some 63, some 64, some 65], [], [], [], [], [], [], [], [], [some 71, some 72, some 73, some 74, some 75, some 76], [], [], [], [], [], [], [], [], [some 78, some 79, some 80], [], [], [], [none, some 82, some 83, some 84, some 85], [], [], [], [], [none, some 87, some 88, some 89], [], [], [], [none, some 91, some 92, some 93], [], [], [], [none, some 95, some 96, some 97, some 98], [], [], [], [], [none, some 100, some 101, some 102, some 103], [], [], [], [], [none, some 105, some 106, some 107], [], [], [], [], [], [], [], [none, none, none, none, none, some 113, some 114, some 115, some 116, some 117, some 118, none, none, none, some 119, none, none, none, none, none, none, none, none, none, none, none, none, none, none, none, none, none, none, some 120, some 121, some 122, some 123, some 124, some 125, some 126, some 127, some 128, some 129, none, some 130, some 131, none, some 132, some 133, some 134, some 135, some 136, some 137, some 138, some 139, some 140, none, some 141, none, none, none, none, some 142, some 143, some 144], [], [], [], [], [], [], [], [], [], [], [], [], [], [], [], [], [], [], [], [], [], [], [], [], [], [], [], [], [], [], [], [], []]
def xr2 : List (Option Nat) → Nat → Option Nat
  | [], _ => none
  | a :: _, 0 => a
  | _ :: r, k + 1 => xr2 r k
def xr1 : List (List (Option Nat)) → Nat → List (Option Nat)
  | [], _ => []
  | a :: _, 0 => a
  | _ :: r, k + 1 => xr1 r k
def R0 (c k : Nat) : Option Nat := xr2 (xr1 RT c) k
/-- the world with these numbers -/
abbrev W0 (d : Nat → Nat → Int32) (L : Nat → Nat → Int64) : xHp := (SH, d, L, R0)
theorem R0_rows {n : Nat} (h : n < 6) : R0 45 n = some (46 + n) := by
  rcases (by omega : n = 0 ∨ n = 1 ∨ n = 2 ∨ n = 3 ∨ n = 4 ∨ n = 5) with rfl | rfl | rfl | rfl | rfl | rfl <;> rfl
theorem SH_rows {n : Nat} (h : n < 6) : xsh SH (46 + n) = some (100, 100) := by
  rcases (by omega : n = 0 ∨ n = 1 ∨ n = 2 ∨ n = 3 ∨ n = 4 ∨ n = 5) with rfl | rfl | rfl | rfl | rfl | rfl <;> rfl
theorem xav_rows {d : Nat → Nat → Int32} {L : Nat → Nat → Int64} {n : Nat} (h : n < 6) : xav (W0 d L) 104 45 n = some (.ref (46 + n)) := by
  show (match R0 45 n with | some x => some (Value.ref x) | none => none) = _
  rw [R0_rows h]
theorem R0_lasts {n : Nat} (h : n < 6) : R0 52 n = some (53 + n) := by
  rcases (by omega : n = 0 ∨ n = 1 ∨ n = 2 ∨ n = 3 ∨ n = 4 ∨ n = 5) with rfl | rfl | rfl | rfl | rfl | rfl <;> rfl
theorem SH_lasts {n : Nat} (h : n < 6) : xsh SH (53 + n) = some (100, 100) := by
  rcases (by omega : n = 0 ∨ n = 1 ∨ n = 2 ∨ n = 3 ∨ n = 4 ∨ n = 5) with rfl | rfl | rfl | rfl | rfl | rfl <;> rfl
theorem xav_lasts {d : Nat → Nat → Int32} {L : Nat → Nat → Int64} {n : Nat} (h : n < 6) : xav (W0 d L) 104 52 n = some (.ref (53 + n)) := by
  show (match R0 52 n with | some x => some (Value.ref x) | none => none) = _
  rw [R0_lasts h]
theorem R0_sides {n : Nat} (h : n < 6) : R0 59 n = some (60 + n) := by
  rcases (by omega : n = 0 ∨ n = 1 ∨ n = 2 ∨ n = 3 ∨ n = 4 ∨ n = 5) with rfl | rfl | rfl | rfl | rfl | rfl <;> rfl
theorem SH_sides {n : Nat} (h : n < 6) : xsh SH (60 + n) = some (100, 10) := by
  rcases (by omega : n = 0 ∨ n = 1 ∨ n = 2 ∨ n = 3 ∨ n = 4 ∨ n = 5) with rfl | rfl | rfl | rfl | rfl | rfl <;> rfl
theorem xav_sides {d : Nat → Nat → Int32} {L : Nat → Nat → Int64} {n : Nat} (h : n < 6) : xav (W0 d L) 104 59 n = some (.ref (60 + n)) := by
  show (match R0 59 n with | some x => some (Value.ref x) | none => none) = _
  rw [R0_sides h]
theorem R0_sums {n : Nat} (h : n < 6) : R0 68 n = some (71 + n) := by
  rcases (by omega : n = 0 ∨ n = 1 ∨ n = 2 ∨ n = 3 ∨ n = 4 ∨ n = 5) with rfl | rfl | rfl | rfl | rfl | rfl <;> rfl
theorem SH_sums {n : Nat} (h : n < 6) : xsh SH (71 + n) = some (10, 3) := by
  rcases (by omega : n = 0 ∨ n = 1 ∨ n = 2 ∨ n = 3 ∨ n = 4 ∨ n = 5) with rfl | rfl | rfl | rfl | rfl | rfl <;> rfl
theorem xav_sums {d : Nat → Nat → Int32} {L : Nat → Nat → Int64} {n : Nat} (h : n < 6) : xav (W0 d L) 105 68 n = some (.ref (71 + n)) := by
  show (match R0 68 n with | some x => some (Value.ref x) | none => none) = _
  rw [R0_sums h]
