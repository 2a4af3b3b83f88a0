/-! THE TEXT: tokens (place, kind, value): kinds 0 end, 1 word, 2 number, 4 no token, else the sign itself; a word's value: its number in KW (17: none), a number's: itself (10000: too long) -/
abbrev Tk : Type := Nat × Nat × Nat
def rn (P : Nat → Bool) (n : Nat) : Nat → Nat → Nat
  | 0, i => i
  | k + 1, i => if decide (i < n) && P i then rn P n k (i + 1) else i
/-- the first place from i on that isn't below n or has not P -/
def rE (P : Nat → Bool) (n i : Nat) : Nat := rn P n (n - i) i
theorem rn_sp (P : Nat → Bool) (n : Nat) : ∀ k i, n ≤ i + k → i ≤ rn P n k i ∧ (∀ j, i ≤ j → j < rn P n k i → j < n ∧ P j = true) ∧ (rn P n k i < n → P (rn P n k i) = false) ∧ (i ≤ n → rn P n k i ≤ n)
  | 0, i, h => by
    unfold rn
    exact ⟨Nat.le_refl _, fun j h1 h2 => by omega, fun h2 => by omega, fun h2 => h2⟩
  | k + 1, i, h => by
    unfold rn
    split
    · rename_i hc
      rw [Bool.and_eq_true, decide_eq_true_eq] at hc
      obtain ⟨a, b, c, e⟩ := rn_sp P n k (i + 1) (by omega)
      refine ⟨by omega, fun j h1 h2 => ?_, c, fun _ => e (by omega)⟩
      by_cases hj : j = i
      · subst hj
        exact hc
      · exact b j (by omega) h2
    · rename_i hc
      refine ⟨Nat.le_refl _, fun j h1 h2 => by omega, fun h2 => ?_, fun h2 => h2⟩
      cases hp : P i
      · rfl
      · exact absurd (by rw [hp, decide_eq_true h2]; rfl) hc
theorem rE_sp (P : Nat → Bool) (n i : Nat) : i ≤ rE P n i ∧ (∀ j, i ≤ j → j < rE P n i → j < n ∧ P j = true) ∧ (rE P n i < n → P (rE P n i) = false) ∧ (i ≤ n → rE P n i ≤ n) := rn_sp P n (n - i) i (by omega)
def kof (c : Nat) : Nat := if c = 32 ∨ c = 10 then 3 else if 97 ≤ c ∧ c ≤ 122 then 1 else if 48 ≤ c ∧ c ≤ 57 then 2 else if (40 ≤ c ∧ c ≤ 43) ∨ c = 45 ∨ c = 47 ∨ (59 ≤ c ∧ c ≤ 61) then c else 4
theorem kof_le (c : Nat) : 1 ≤ kof c ∧ kof c ≤ 61 := by
  unfold kof
  split
  · omega
  split
  · omega
  split
  · omega
  split <;> omega
section
variable (T : Nat → Nat) (n : Nat)
def tS (i : Nat) : Nat := rE (fun j => decide (kof (T j) = 3)) n i
def tK (s : Nat) : Nat := if s < n then kof (T s) else 0
def tE (s : Nat) : Nat := if s < n then (if kof (T s) = 1 ∨ kof (T s) = 2 then rE (fun j => decide (kof (T j) = kof (T s))) n s else s + 1) else s
def nvl (s : Nat) : Nat → Nat
  | 0 => 0
  | k + 1 => 10 * nvl s k + (T (s + k) - 48)
def tN (s : Nat) : Nat := if tK T n s = 2 then nvl T s (min (tE T n s - s) 4) else 0
def wmt : Nat → List Nat → Bool
  | _, [] => true
  | s, c :: r => decide (T s = c) && wmt (s + 1) r
def isW (s e : Nat) (w : List Nat) : Bool := decide (e - s = w.length) && wmt T s w
end
def KW : List (List Nat) := [[100, 101, 103, 114, 101, 101], [102, 97, 114], [114, 101, 97, 99, 104], [114, 117, 115, 116], [115, 107, 105, 108, 108], [104, 111, 117, 114], [112, 111, 105, 110, 116, 115], [102, 108, 97, 116], [115, 97, 105, 100], [111, 110, 101], [110, 101, 101, 100, 108, 101], [115, 97, 121, 115], [116, 117, 114, 110, 115], [99, 111, 117, 114, 116], [97, 110, 100], [111, 114], [110, 111, 116]]
section
variable (T : Nat → Nat) (n : Nat)
def tV (s : Nat) : Nat := if tK T n s = 2 then (if 4 < tE T n s - s then 10000 else tN T n s) else if tK T n s = 1 then KW.findIdx (isW T s (tE T n s)) else 0
def tok (s : Nat) : Tk := (s, tK T n s, tV T n s)
def tks : Nat → Nat → List Tk
  | 0, _ => []
  | k + 1, i => tok T n (tS T n i) :: (if tS T n i < n then tks k (tE T n (tS T n i)) else [])
def TL (i : Nat) : List Tk := tks T n (n + 1 - i) i
end
section
variable {T : Nat → Nat} {n : Nat}
theorem tS_sp {i : Nat} (hi : i ≤ n) : i ≤ tS T n i ∧ (∀ j, i ≤ j → j < tS T n i → j < n ∧ kof (T j) = 3) ∧ (tS T n i < n → ¬ kof (T (tS T n i)) = 3) ∧ tS T n i ≤ n := by
  obtain ⟨a, b, c, e⟩ := rE_sp (fun j => decide (kof (T j) = 3)) n i
  exact ⟨a, fun j h1 h2 => ⟨(b j h1 h2).1, of_decide_eq_true (b j h1 h2).2⟩, fun h => of_decide_eq_false (c h), e hi⟩
theorem tE_sp {s : Nat} (hs : s < n) : s < tE T n s ∧ tE T n s ≤ n := by
  unfold tE
  rw [if_pos hs]
  split
  · obtain ⟨a, b, c, e⟩ := rE_sp (fun j => decide (kof (T j) = kof (T s))) n s
    refine ⟨?_, e (by omega)⟩
    rcases Nat.lt_or_ge s (rE (fun j => decide (kof (T j) = kof (T s))) n s) with h | h
    · exact h
    · have h2 : rE (fun j => decide (kof (T j) = kof (T s))) n s = s := by omega
      have h3 := c (by omega)
      rw [h2] at h3
      exact absurd (of_decide_eq_false h3) (fun z => z rfl)
  · omega
theorem tE_wd {s : Nat} (hs : s < n) (hk : kof (T s) = 1 ∨ kof (T s) = 2) : (∀ j, s ≤ j → j < tE T n s → j < n ∧ kof (T j) = kof (T s)) ∧ (tE T n s < n → ¬ kof (T (tE T n s)) = kof (T s)) := by
  have e : tE T n s = rE (fun j => decide (kof (T j) = kof (T s))) n s := by
    unfold tE
    rw [if_pos hs, if_pos hk]
  rw [e]
  obtain ⟨a, b, c, e⟩ := rE_sp (fun j => decide (kof (T j) = kof (T s))) n s
  exact ⟨fun j h1 h2 => ⟨(b j h1 h2).1, of_decide_eq_true (b j h1 h2).2⟩, fun h => of_decide_eq_false (c h)⟩
theorem tE_ge (s : Nat) : s ≤ tE T n s := by
  rcases Nat.lt_or_ge s n with h | h
  · exact Nat.le_of_lt (tE_sp h).1
  · unfold tE
    rw [if_neg (by omega)]
    exact Nat.le_refl _
theorem tks_f : ∀ k k' i, i ≤ n → n + 1 ≤ k + i → n + 1 ≤ k' + i → tks T n k i = tks T n k' i
  | 0, _, i, h, h1, _ => by omega
  | _, 0, i, h, _, h1 => by omega
  | k + 1, k' + 1, i, h, h1, h2 => by
    unfold tks
    congr 1
    split
    · rename_i hs
      have a := (tS_sp (T := T) h).1
      have b := tE_sp (T := T) hs
      exact tks_f k k' _ b.2 (by omega) (by omega)
    · rfl
theorem TL_eq {i : Nat} (hi : i ≤ n) : TL T n i = tok T n (tS T n i) :: (if tS T n i < n then TL T n (tE T n (tS T n i)) else []) := by
  have e : TL T n i = tks T n (n - i + 1) i := by
    unfold TL
    rw [show n + 1 - i = n - i + 1 by omega]
  rw [e]
  unfold tks
  congr 1
  split
  · rename_i hs
    have a := (tS_sp (T := T) hi).1
    have b := tE_sp (T := T) hs
    exact tks_f _ _ _ b.2 (by omega) (by omega)
  · rfl
theorem tks_len : ∀ k i, (tks T n k i).length ≤ k
  | 0, _ => Nat.le_refl _
  | k + 1, i => by
    unfold tks
    split
    · have := tks_len k (tE T n (tS T n i))
      simp only [List.length_cons]
      omega
    · simp only [List.length_cons, List.length_nil]
      omega
theorem TL_len (i : Nat) : (TL T n i).length ≤ n + 1 - i := tks_len _ _
theorem wmt_u : ∀ {w w' : List Nat} {s : Nat}, w.length = w'.length → wmt T s w = true → wmt T s w' = true → w = w'
  | [], [], _, _, _, _ => rfl
  | a :: r, b :: r', s, h, h1, h2 => by
    unfold wmt at h1 h2
    rw [Bool.and_eq_true, decide_eq_true_eq] at h1 h2
    rw [← h1.1, ← h2.1, wmt_u (by simpa using h) h1.2 h2.2]
theorem isW_u {s e : Nat} {w w' : List Nat} (h : isW T s e w = true) (h' : isW T s e w' = true) : w = w' := by
  unfold isW at h h'
  rw [Bool.and_eq_true, decide_eq_true_eq] at h h'
  exact wmt_u (by omega) h.2 h'.2
theorem KW_u : ∀ a, a < 17 → ∀ b, b < 17 → KW.getD a [] = KW.getD b [] → a = b := by decide +kernel
theorem KW_l : ∀ a, a < 17 → (KW.getD a []).length ≤ 6 ∧ 2 ≤ (KW.getD a []).length ∧ ∀ c ∈ KW.getD a [], 97 ≤ c ∧ c ≤ 122 := by decide +kernel
theorem isW_ix {s e a : Nat} (ha : a < 17) : isW T s e (KW.getD a []) = decide (KW.findIdx (isW T s e) = a) := by
  have hl : KW.length = 17 := rfl
  by_cases h : KW.findIdx (isW T s e) = a
  · rw [decide_eq_true h]
    have h2 : KW.findIdx (isW T s e) < KW.length := by omega
    have h3 := List.findIdx_getElem (w := h2)
    rw [List.getD_eq_getElem?_getD, ← h, List.getElem?_eq_getElem h2]
    exact h3
  · rw [decide_eq_false h]
    cases hc : isW T s e (KW.getD a [])
    · rfl
    · exfalso
      have hlt : KW.findIdx (isW T s e) < KW.length := by
        apply List.findIdx_lt_length_of_exists
        refine ⟨KW.getD a [], ?_, hc⟩
        rw [List.getD_eq_getElem?_getD, List.getElem?_eq_getElem (by omega)]
        exact List.getElem_mem _
      have h3 := List.findIdx_getElem (w := hlt)
      have h4 : isW T s e (KW.getD (KW.findIdx (isW T s e)) []) = true := by
        rw [List.getD_eq_getElem?_getD, List.getElem?_eq_getElem hlt]
        exact h3
      exact h (KW_u _ (by omega) _ ha (isW_u h4 hc))
theorem fx_le (s e : Nat) : KW.findIdx (isW T s e) ≤ 17 := List.findIdx_le_length
theorem nvl_b (s : Nat) : ∀ k, (∀ j, j < k → 48 ≤ T (s + j) ∧ T (s + j) ≤ 57) → nvl T s k < 10 ^ k
  | 0, _ => Nat.lt_of_lt_of_le Nat.zero_lt_one (Nat.le_refl 1)
  | k + 1, h => by
    have ih := nvl_b s k (fun j hj => h j (by omega))
    have h1 := h k (by omega)
    unfold nvl
    rw [Nat.pow_succ]
    omega
theorem kof_2 {c : Nat} (h : kof c = 2) : 48 ≤ c ∧ c ≤ 57 := by
  unfold kof at h
  split at h
  · omega
  split at h
  · omega
  split at h
  · assumption
  split at h <;> omega
theorem kof_1 {c : Nat} (h : kof c = 1) : 97 ≤ c ∧ c ≤ 122 := by
  unfold kof at h
  split at h
  · omega
  split at h
  · assumption
  split at h
  · omega
  split at h <;> omega
theorem tN_b {s : Nat} : tN T n s ≤ 9999 := by
  unfold tN
  split
  · rename_i h
    have hs : s < n := by
      unfold tK at h
      split at h
      · assumption
      · omega
    have hk : kof (T s) = 2 := by
      unfold tK at h
      rw [if_pos hs] at h
      exact h
    have hw := (tE_wd hs (Or.inr hk)).1
    have hb := nvl_b (T := T) s (min (tE T n s - s) 4) (fun j hj => by
      have := (hw (s + j) (by omega) (by omega)).2
      rw [hk] at this
      exact kof_2 this)
    have : 10 ^ (min (tE T n s - s) 4) ≤ 10 ^ 4 := Nat.pow_le_pow_right (by decide) (by omega)
    have e : (10 : Nat) ^ 4 = 10000 := by decide
    omega
  · omega
theorem tK_le (s : Nat) : tK T n s ≤ 61 := by
  unfold tK
  split
  · exact (kof_le _).2
  · omega
theorem tK_0 {s : Nat} : tK T n s = 0 ↔ n ≤ s := by
  unfold tK
  split
  · have := (kof_le (T s)).1
    omega
  · omega
end
