/-! ACTS, and rows that are copied -/
def rv (e : Nat × Nat × Nat × Nat) (f : Nat → Nat → Nat) : Nat → Nat → Nat := if e.1 = 0 then up2 f 9 0 (f 9 0 - 1) else if e.1 = 1 then up2 (up2 (up2 (up2 f 10 (f 9 0) e.2.1) 11 (f 9 0) e.2.2.1) 12 (f 9 0) e.2.2.2) 9 0 (f 9 0 + 1) else if e.1 = 2 then up2 f 8 e.2.1 e.2.2.1 else up2 (up2 f 5 e.2.1 e.2.2.1) 6 e.2.1 e.2.2.2
/-- what an act must fit -/
def vE (e : Nat × Nat × Nat × Nat) (f : Nat → Nat → Nat) : Prop := (e.1 = 0 ∧ 0 < f 9 0 ∧ f 9 0 ≤ 16) ∨ (e.1 = 1 ∧ f 9 0 < 16) ∨ (e.1 = 2 ∧ e.2.1 < f 4 0 ∧ f 4 0 ≤ 6) ∨ (e.1 = 3 ∧ e.2.1 < f 4 0 ∧ f 4 0 ≤ 6)
section
variable {d : Nat → Nat → Int32} {F : Fr}
theorem HC_drop (H : HC d F) : HC (up2 d 34 0 (nI (F.1 9 0 - 1))) (up2 F.1 9 0 (F.1 9 0 - 1), F.2) := by
  obtain ⟨h1, h2, h3, h4, h5, h6, h7, h8⟩ := H
  refine ⟨h1, h2, rfl, h4, h5, fun s hs => ?_, h7, h8⟩
  have hs' : s < F.1 9 0 - 1 := hs
  exact h6 s (by omega)
theorem HC_add (H : HC d F) (x y z : Nat) : HC (up2 (up2 (up2 (up2 d 35 (F.1 9 0) (nI x)) 36 (F.1 9 0) (nI y)) 37 (F.1 9 0) (nI z)) 34 0 (nI (F.1 9 0 + 1))) (up2 (up2 (up2 (up2 F.1 10 (F.1 9 0) x) 11 (F.1 9 0) y) 12 (F.1 9 0) z) 9 0 (F.1 9 0 + 1), F.2) := by
  obtain ⟨h1, h2, h3, h4, h5, h6, h7, h8⟩ := H
  refine ⟨h1, h2, rfl, h4, h5, fun s hs => ?_, h7, h8⟩
  have hs' : s < F.1 9 0 + 1 := hs
  show (if s = F.1 9 0 then nI x else d 35 s) = nI (if s = F.1 9 0 then x else F.1 10 s) ∧ (if s = F.1 9 0 then nI y else d 36 s) = nI (if s = F.1 9 0 then y else F.1 11 s) ∧ (if s = F.1 9 0 then nI z else d 37 s) = nI (if s = F.1 9 0 then z else F.1 12 s)
  by_cases e : s = F.1 9 0
  · simp [e]
  · simp only [if_neg e]
    exact h6 s (by omega)
theorem HC_rust (H : HC d F) (n x : Nat) : HC (up2 d 33 n (nI x)) (up2 F.1 8 n x, F.2) := by
  obtain ⟨h1, h2, h3, h4, h5, h6, h7, h8⟩ := H
  refine ⟨h1, h2, h3, h4, fun m hm => ?_, h6, h7, h8⟩
  have q := h5 m hm
  refine ⟨q.1, q.2.1, q.2.2.1, ?_⟩
  show (if m = n then nI x else d 33 m) = nI (if m = n then x else F.1 8 m)
  by_cases e : m = n
  · simp [e]
  · simp only [if_neg e]
    exact q.2.2.2
theorem HC_place (H : HC d F) (n x y : Nat) : HC (up2 (up2 d 30 n (nI x)) 31 n (nI y)) (up2 (up2 F.1 5 n x) 6 n y, F.2) := by
  obtain ⟨h1, h2, h3, h4, h5, h6, h7, h8⟩ := H
  refine ⟨h1, h2, h3, h4, fun m hm => ?_, h6, h7, h8⟩
  have q := h5 m hm
  refine ⟨?_, ?_, q.2.2.1, q.2.2.2⟩
  · show (if m = n then nI x else d 30 m) = nI (if m = n then x else F.1 5 m)
    by_cases e : m = n
    · simp [e]
    · simp only [if_neg e]
      exact q.1
  · show (if m = n then nI y else d 31 m) = nI (if m = n then y else F.1 6 m)
    by_cases e : m = n
    · simp [e]
    · simp only [if_neg e]
      exact q.2.1
end
section
variable (d : Nat → Nat → Int32) (L : Nat → Nat → Int64) {F : Fr}
set_option maxRecDepth 100000 in
set_option maxHeartbeats 8000000 in
theorem c_forget (x : Int32) : Cn mX0_forgetEldest false 3 0 0 [.ref 81] (W0 d L) (fun r h => r = none ∧ h = W0 (up2 (upC (upC (upC (upC d 82 (va_cpy (d 82) (d 82) 1 0 39)) 83 (va_cpy (d 83) (d 83) 1 0 39)) 84 (va_cpy (d 84) (d 84) 1 0 39)) 85 (va_cpy (d 85) (d 85) 1 0 39)) 81 0 39) L) := by
  refine Cn.intro gX0_forgetEldest rfl (Nat.le_of_ble_eq_true rfl) rfl ?_
  repeat refine x_s rfl rfl ?_
  refine x_acp (sn := 1) (dn := 0) (n := 39) rfl rfl rfl rfl rfl rfl (by decide) (by decide) (by decide) (by decide) (by decide) (Nat.le_of_ble_eq_true rfl) rfl ?_
  repeat refine x_s rfl rfl ?_
  refine x_acp (sn := 1) (dn := 0) (n := 39) rfl rfl rfl rfl rfl rfl (by decide) (by decide) (by decide) (by decide) (by decide) (Nat.le_of_ble_eq_true rfl) rfl ?_
  repeat refine x_s rfl rfl ?_
  refine x_acp (sn := 1) (dn := 0) (n := 39) rfl rfl rfl rfl rfl rfl (by decide) (by decide) (by decide) (by decide) (by decide) (Nat.le_of_ble_eq_true rfl) rfl ?_
  repeat refine x_s rfl rfl ?_
  refine x_acp (sn := 1) (dn := 0) (n := 39) rfl rfl rfl rfl rfl rfl (by decide) (by decide) (by decide) (by decide) (by decide) (Nat.le_of_ble_eq_true rfl) rfl ?_
  repeat refine x_s rfl rfl ?_
  refine x_put rfl rfl (by decide) rfl ⟨rfl, rfl⟩ (Or.inl rfl) ?_
  exact x_vret rfl rfl ⟨rfl, rfl⟩
set_option maxRecDepth 100000 in
set_option maxHeartbeats 8000000 in
theorem c_keep {n : Nat} (hn : d 81 0 = nI n) (hn2 : n ≤ 40) (x a b c : Int32) : Cn mX0_keep false 4 0 0 [.ref 81, .int x, .int a, .int b, .int c] (W0 d L) (fun r h => r = none ∧ ∃ d', h = W0 d' L ∧ sm [81, 82, 83, 84, 85] d d' ∧ d' 81 0 = nI ((if n = 40 then 39 else n) + 1) ∧ (∀ j, j < (if n = 40 then 39 else n) → d' 82 j = d 82 (if n = 40 then j + 1 else j) ∧ d' 83 j = d 83 (if n = 40 then j + 1 else j) ∧ d' 84 j = d 84 (if n = 40 then j + 1 else j) ∧ d' 85 j = d 85 (if n = 40 then j + 1 else j)) ∧ d' 82 (if n = 40 then 39 else n) = x ∧ d' 83 (if n = 40 then 39 else n) = a ∧ d' 84 (if n = 40 then 39 else n) = b ∧ d' 85 (if n = 40 then 39 else n) = c) := by
  have fin : ∀ (Q : xPost) (d1 : Nat → Nat → Int32) (m : Nat), m < 40 → d1 81 0 = nI m → Q none (W0 (up2 (up2 (up2 (up2 (up2 d1 82 m x) 83 m a) 84 m b) 85 m c) 81 0 (nI (m + 1))) L) → Ex mX0_keep false 4 0 0 13 [some (.ref 81), some (.int x), some (.int a), some (.int b), some (.int c)] [] (W0 d1 L) Q nX := by
    intro Q d1 m hm h1 hQ
    repeat refine x_s rfl rfl ?_
    refine x_iast rfl rfl (k := m) (h1) (by omega) (by decide) rfl ?_
    repeat refine x_s rfl rfl ?_
    refine x_iast rfl rfl (k := m) (h1) (by omega) (by decide) rfl ?_
    repeat refine x_s rfl rfl ?_
    refine x_iast rfl rfl (k := m) (h1) (by omega) (by decide) rfl ?_
    repeat refine x_s rfl rfl ?_
    refine x_iast rfl rfl (k := m) (h1) (by omega) (by decide) rfl ?_
    repeat refine x_s rfl rfl ?_
    refine x_put rfl rfl (by decide) rfl ⟨rfl, rfl⟩ (Or.inl rfl) ?_
    refine x_vret rfl rfl ?_
    have e : nI (m + 1) = d1 81 0 + 1 := by rw [h1, nI_1]
    rw [e] at hQ
    exact hQ
  refine Cn.intro gX0_keep rfl (Nat.le_of_ble_eq_true rfl) rfl ?_
  repeat refine x_s rfl rfl ?_
  by_cases e : n = 40
  · subst e
    refine x_br rfl rfl (fun c => absurd c (by rw [hn]; decide)) (fun c => ?_)
    repeat refine x_s rfl rfl ?_
    refine x_cv (c_forget d L 0) rfl rfl rfl (by decide) rfl (by decide) rfl (Nat.le_of_ble_eq_true rfl) (by decide) (by decide) (by decide) ?_
    rintro _ _ ⟨rfl, rfl⟩
    refine fin _ _ 39 (by decide) rfl ?_
    simp only [if_true]
    refine ⟨trivial, _, rfl, ?_, rfl, ?_, rfl, rfl, rfl, rfl⟩
    · exact sm_up (sm_up (sm_up (sm_up (sm_up (sm_up (sm_uC (sm_uC (sm_uC (sm_uC sm_rfl (by decide)) (by decide)) (by decide)) (by decide)) (by decide)) (by decide)) (by decide)) (by decide)) (by decide)) (by decide)
    · intro j hj
      have k : ∀ f : Nat → Int32, (if j = 39 then x else va_cpy f f 1 0 39 j) = f (j + 1) := fun f => by rw [if_neg (by omega), pk_cpy_in (by omega) (by omega)]; congr 1; omega
      have k1 : ∀ (f : Nat → Int32) (x : Int32), (if j = 39 then x else va_cpy f f 1 0 39 j) = f (j + 1) := fun f x => by rw [if_neg (by omega), pk_cpy_in (by omega) (by omega)]; congr 1; omega
      exact ⟨k1 _ _, k1 _ _, k1 _ _, k1 _ _⟩
  · refine x_br rfl rfl (fun c => ?_) (fun c => absurd c (fun z => z (by rw [hn]; exact nI_lt (b := 40) (by omega) (by decide))))
    refine fin _ d n (by omega) hn ?_
    simp only [if_neg e]
    refine ⟨trivial, _, rfl, ?_, rfl, ?_, ?_, ?_, ?_, ?_⟩
    · exact sm_up (sm_up (sm_up (sm_up (sm_up sm_rfl (by decide)) (by decide)) (by decide)) (by decide)) (by decide)
    · intro j hj
      have k1 : ∀ (f : Nat → Int32) (x : Int32), (if j = n then x else f j) = f j := fun f x => if_neg (by omega)
      exact ⟨k1 _ _, k1 _ _, k1 _ _, k1 _ _⟩
    · exact if_pos rfl
    · exact if_pos rfl
    · exact if_pos rfl
    · exact if_pos rfl
end
