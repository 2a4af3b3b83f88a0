/-! EACH ACT can be taken back -/
section
variable {f : Nat → Nat → Nat}
theorem vE_tl {h p g : Nat} (h9 : f 9 0 < 16) : vE (0, 0, 0, 0) (tl f h p g) := Or.inl ⟨rfl, show 0 < f 9 0 + 1 by omega, show f 9 0 + 1 ≤ 16 by omega⟩
theorem vE_bk {a b c : Nat} (h0 : 0 < f 9 0) (h9 : f 9 0 ≤ 16) : vE (1, a, b, c) (bk f) := Or.inr (Or.inl ⟨rfl, show f 9 0 - 1 < 16 by omega⟩)
theorem vE_ru {n v a b : Nat} (h : n < f 4 0) (h4 : f 4 0 ≤ 6) : vE (2, n, a, b) (ru f n v) := Or.inr (Or.inr (Or.inl ⟨rfl, h, h4⟩))
theorem vE_ca {n x y a b : Nat} (h : n < f 4 0) (h4 : f 4 0 ≤ 6) : vE (3, n, a, b) (ca f n x y) := Or.inr (Or.inr (Or.inr ⟨rfl, h, h4⟩))
theorem rv_tl {h p g : Nat} : eqB (rv (0, 0, 0, 0) (tl f h p g)) f := by
  have e : rv (0, 0, 0, 0) (tl f h p g) = up2 (tl f h p g) 9 0 (tl f h p g 9 0 - 1) := rfl
  rw [e]
  refine ⟨rfl, rfl, rfl, fun q hq => ⟨rfl, rfl, rfl⟩, fun q hq => ⟨rfl, rfl, rfl, rfl⟩, fun s hs => ?_⟩
  have hs' : s < f 9 0 := hs
  refine ⟨?_, ?_, ?_⟩
  · show (if s = f 9 0 then h else f 10 s) = f 10 s
    rw [if_neg (by omega)]
  · show (if s = f 9 0 then p else f 11 s) = f 11 s
    rw [if_neg (by omega)]
  · show (if s = f 9 0 then g else f 12 s) = f 12 s
    rw [if_neg (by omega)]
theorem rv_bk (h0 : 0 < f 9 0) : eqB (rv (1, f 10 (f 9 0 - 1), f 11 (f 9 0 - 1), f 12 (f 9 0 - 1)) (bk f)) f := by
  have e : rv (1, f 10 (f 9 0 - 1), f 11 (f 9 0 - 1), f 12 (f 9 0 - 1)) (bk f) = up2 (up2 (up2 (up2 (bk f) 10 (f 9 0 - 1) (f 10 (f 9 0 - 1))) 11 (f 9 0 - 1) (f 11 (f 9 0 - 1))) 12 (f 9 0 - 1) (f 12 (f 9 0 - 1))) 9 0 (f 9 0 - 1 + 1) := rfl
  rw [e]
  refine ⟨rfl, rfl, show f 9 0 - 1 + 1 = f 9 0 by omega, fun q hq => ⟨rfl, rfl, rfl⟩, fun q hq => ⟨rfl, rfl, rfl, rfl⟩, fun s hs => ⟨?_, ?_, ?_⟩⟩
  · show (if s = f 9 0 - 1 then f 10 (f 9 0 - 1) else f 10 s) = f 10 s
    split
    · rename_i z; rw [z]
    · rfl
  · show (if s = f 9 0 - 1 then f 11 (f 9 0 - 1) else f 11 s) = f 11 s
    split
    · rename_i z; rw [z]
    · rfl
  · show (if s = f 9 0 - 1 then f 12 (f 9 0 - 1) else f 12 s) = f 12 s
    split
    · rename_i z; rw [z]
    · rfl
theorem rv_ru {n v : Nat} : eqB (rv (2, n, f 8 n, 0) (ru f n v)) f := by
  have e : rv (2, n, f 8 n, 0) (ru f n v) = up2 (ru f n v) 8 n (f 8 n) := rfl
  rw [e]
  refine ⟨rfl, rfl, rfl, fun q hq => ⟨rfl, rfl, rfl⟩, fun q hq => ⟨rfl, rfl, rfl, ?_⟩, fun s hs => ⟨rfl, rfl, rfl⟩⟩
  show (if q = n then f 8 n else if q = n then v else f 8 q) = f 8 q
  split
  · rename_i z; rw [z]
  · rfl
theorem rv_ca {n x y : Nat} : eqB (rv (3, n, f 5 n, f 6 n) (ca f n x y)) f := by
  have e : rv (3, n, f 5 n, f 6 n) (ca f n x y) = up2 (up2 (ca f n x y) 5 n (f 5 n)) 6 n (f 6 n) := rfl
  rw [e]
  refine ⟨rfl, rfl, rfl, fun q hq => ⟨rfl, rfl, rfl⟩, fun q hq => ⟨?_, ?_, rfl, rfl⟩, fun s hs => ⟨rfl, rfl, rfl⟩⟩
  · show (if q = n then f 5 n else if q = n then x else f 5 q) = f 5 q
    split
    · rename_i z; rw [z]
    · rfl
  · show (if q = n then f 6 n else if q = n then y else f 6 q) = f 6 q
    split
    · rename_i z; rw [z]
    · rfl
end
