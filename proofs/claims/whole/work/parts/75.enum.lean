/-! CHOICES: the fewest, of these the least -/
def pcN (k : Nat) : Nat := cF (bt (nI k)) 16
def enumL (m : Nat) : Nat → Int32 → List Int32
  | 0, _ => []
  | n + 1, x => x :: enumL m n (nc x m)
def enumP (m : Nat) : Nat → Int32 → List Int32
  | 0, _ => []
  | n + 1, x => if bc x ≤ 3 then x :: enumP m n (nc x m) else []
def oI (o : Option Int32) : Int32 := match o with
  | some x => x
  | none => -1
theorem fI_find (T : Int32 → Bool) (m : Nat) : ∀ (n : Nat) (x : Int32), fI T m x n = oI ((enumL m n x).find? T)
  | 0, x => rfl
  | n + 1, x => by
    unfold fI enumL
    rw [List.find?_cons]
    cases h : T x
    · rw [if_neg (by decide)]
      exact fI_find T m n (nc x m)
    · rw [if_pos rfl]
      rfl
theorem fP_find (T : Int32 → Bool) (m : Nat) : ∀ (n : Nat) (x : Int32), fP T m x n = oI ((enumP m n x).find? T)
  | 0, x => rfl
  | n + 1, x => by
    unfold fP enumP
    by_cases hb : bc x ≤ 3
    · rw [if_pos hb, if_pos hb, List.find?_cons]
      cases h : T x
      · rw [if_neg (by decide)]
        exact fP_find T m n (nc x m)
      · rw [if_pos rfl]
        rfl
    · rw [if_neg hb, if_neg hb]
      rfl
def srtN (N : Nat) : Nat → List Nat
  | 0 => []
  | c + 1 => srtN N c ++ (List.range N).filter (fun k => pcN k == c)
theorem mem_srtN {N k : Nat} : ∀ {C : Nat}, k ∈ srtN N C ↔ k < N ∧ pcN k < C
  | 0 => by simp [srtN]
  | c + 1 => by
    unfold srtN
    rw [List.mem_append, mem_srtN, List.mem_filter, List.mem_range]
    simp
    omega
theorem pw_srtN {N : Nat} : ∀ {C : Nat}, (srtN N C).Pairwise (fun a b => pcN a < pcN b ∨ (pcN a = pcN b ∧ a < b))
  | 0 => List.Pairwise.nil
  | c + 1 => by
    unfold srtN
    rw [List.pairwise_append]
    refine ⟨pw_srtN, ?_, ?_⟩
    · have h := List.Pairwise.filter (fun k => pcN k == c) (List.pairwise_lt_range (n := N))
      refine List.Pairwise.imp_of_mem ?_ h
      intro a b ha hb hab
      rw [List.mem_filter] at ha hb
      simp at ha hb
      exact Or.inr ⟨by omega, hab⟩
    · intro a ha b hb
      rw [mem_srtN] at ha
      rw [List.mem_filter] at hb
      simp at hb
      exact Or.inl (by omega)
theorem find_min {p : Nat → Bool} {R : Nat → Nat → Prop} : ∀ {l : List Nat} {x : Nat}, l.Pairwise R → l.find? p = some x → x ∈ l ∧ p x = true ∧ ∀ y, y ∈ l → p y = true → y = x ∨ R x y
  | [], x, _, h => by cases h
  | a :: r, x, hp, h => by
    rw [List.find?_cons] at h
    rw [List.pairwise_cons] at hp
    cases ha : p a
    · rw [ha] at h
      obtain ⟨h1, h2, h3⟩ := find_min hp.2 h
      refine ⟨List.mem_cons_of_mem _ h1, h2, fun y hy hpy => ?_⟩
      rcases List.mem_cons.mp hy with rfl | hy
      · rw [ha] at hpy
        cases hpy
      · exact h3 y hy hpy
    · rw [ha] at h
      cases h
      refine ⟨List.mem_cons_self, ha, fun y hy _ => ?_⟩
      rcases List.mem_cons.mp hy with rfl | hy
      · exact Or.inl rfl
      · exact Or.inr (hp.1 y hy)
/-- r is the best of the choices below N with fewer than C -/
def isB (T : Int32 → Bool) (N C : Nat) (r : Int32) : Prop := (r = -1 ∧ ∀ k, k < N → pcN k < C → T (nI k) = false) ∨ ∃ k0, k0 < N ∧ r = nI k0 ∧ pcN k0 < C ∧ T (nI k0) = true ∧ ∀ k, k < N → pcN k < C → T (nI k) = true → pcN k0 < pcN k ∨ (pcN k0 = pcN k ∧ k0 ≤ k)
theorem isB_u {T : Int32 → Bool} {N C : Nat} {r q : Int32} (h : isB T N C r) (h' : isB T N C q) : r = q := by
  rcases h with ⟨h1, h2⟩ | ⟨k, a1, a2, a3, a4, a5⟩
  · rcases h' with ⟨g1, g2⟩ | ⟨j, b1, b2, b3, b4, b5⟩
    · rw [h1, g1]
    · rw [h2 j b1 b3] at b4
      cases b4
  · rcases h' with ⟨g1, g2⟩ | ⟨j, b1, b2, b3, b4, b5⟩
    · rw [g2 k a1 a3] at a4
      cases a4
    · have c1 := a5 j b1 b3 b4
      have c2 := b5 k a1 a3 a4
      rw [a2, b2]
      congr 1
      omega
theorem isB_srt (T : Int32 → Bool) (N C : Nat) : isB T N C (oI (((srtN N C).map nI).find? T)) := by
  rw [List.find?_map]
  cases h : (srtN N C).find? (T ∘ nI) with
  | none =>
    left
    refine ⟨rfl, fun k h1 h2 => ?_⟩
    have := List.find?_eq_none.mp h k (mem_srtN.mpr ⟨h1, h2⟩)
    simpa using this
  | some x =>
    right
    obtain ⟨h1, h2, h3⟩ := find_min pw_srtN h
    have m := mem_srtN.mp h1
    refine ⟨x, m.1, rfl, m.2, h2, fun k k1 k2 k3 => ?_⟩
    rcases h3 k (mem_srtN.mpr ⟨k1, k2⟩) k3 with e | e
    · subst e
      exact Or.inr ⟨rfl, Nat.le_refl _⟩
    · rcases e with e | e
      · exact Or.inl e
      · exact Or.inr ⟨e.1, Nat.le_of_lt e.2⟩
theorem en_I : ∀ m, m < 7 → enumL m (2 ^ m) 0 = (srtN (2 ^ m) (m + 1)).map nI := by decide +kernel
theorem en_P : ∀ m, m < 11 → enumP m (2 ^ m) 0 = (srtN (2 ^ m) 4).map nI := by decide +kernel
theorem pc_lt : ∀ m, m < 7 → ∀ k, k < 2 ^ m → pcN k < m + 1 := by decide +kernel
def pcI (x : Int32) : Int32 := nI (cF (bt x) 16)
/-- the model's way: all choices, the best so far -/
def mB (T : Int32 → Bool) : Nat → Int32
  | 0 => -1
  | k + 1 => if (decide (mB T k = -1) || decide (pcI (nI k) < pcI (mB T k))) && T (nI k) then nI k else mB T k
def mP (T : Int32 → Bool) : Nat → Int32
  | 0 => -1
  | k + 1 => if (!(decide (3 < pcI (nI k)))) && ((decide (mP T k = -1) || decide (pcI (nI k) < pcI (mP T k))) && T (nI k)) then nI k else mP T k
theorem nI_m1 {k : Nat} (hk : k < 100000) : ¬ nI k = -1 := by
  rw [ieq, nI_tI (by omega), show (-1 : Int32).toInt = -1 from rfl]
  omega
theorem pcI_lt (a b : Nat) : pcI (nI a) < pcI (nI b) ↔ pcN a < pcN b := by
  have h1 : pcN a ≤ 16 := cF_le _ _
  have h2 : pcN b ≤ 16 := cF_le _ _
  exact nI_ltI (by show pcN a < _; omega) (by show pcN b < _; omega)
theorem isB_mB (T : Int32 → Bool) : ∀ k, k ≤ 100000 → isB T k 17 (mB T k)
  | 0, _ => Or.inl ⟨rfl, fun k h => absurd h (Nat.not_lt_zero _)⟩
  | k + 1, hk => by
    have ih := isB_mB T k (by omega)
    have hc : ∀ j, pcN j < 17 := fun j => Nat.lt_succ_of_le (cF_le _ _)
    unfold mB
    rcases ih with ⟨h1, h2⟩ | ⟨j, a1, a2, a3, a4, a5⟩
    · rw [h1]
      cases hT : T (nI k)
      · rw [if_neg (by simp)]
        refine Or.inl ⟨rfl, fun i hi hp => ?_⟩
        by_cases e : i = k
        · rw [e]; exact hT
        · exact h2 i (by omega) hp
      · rw [if_pos (by simp)]
        refine Or.inr ⟨k, by omega, rfl, hc k, hT, fun i hi hp hTi => ?_⟩
        by_cases e : i = k
        · subst e
          exact Or.inr ⟨rfl, Nat.le_refl _⟩
        · rw [h2 i (by omega) hp] at hTi
          cases hTi
    · rw [a2]
      have nm := nI_m1 (k := j) (by omega)
      cases hT : T (nI k)
      · rw [if_neg (by simp)]
        refine Or.inr ⟨j, by omega, rfl, a3, a4, fun i hi hp hTi => ?_⟩
        by_cases e : i = k
        · rw [e, hT] at hTi
          cases hTi
        · exact a5 i (by omega) hp hTi
      · by_cases hl : pcN k < pcN j
        · rw [if_pos (by simp [pcI_lt, hl])]
          refine Or.inr ⟨k, by omega, rfl, hc k, hT, fun i hi hp hTi => ?_⟩
          by_cases e : i = k
          · subst e
            exact Or.inr ⟨rfl, Nat.le_refl _⟩
          · have := a5 i (by omega) hp hTi
            left
            omega
        · rw [if_neg (by simp [pcI_lt, nm]; omega)]
          refine Or.inr ⟨j, by omega, rfl, a3, a4, fun i hi hp hTi => ?_⟩
          by_cases e : i = k
          · subst e
            by_cases e2 : pcN j = pcN i
            · exact Or.inr ⟨e2, by omega⟩
            · left
              omega
          · exact a5 i (by omega) hp hTi
theorem isB_mP (T : Int32 → Bool) : ∀ k, k ≤ 100000 → isB T k 4 (mP T k)
  | 0, _ => Or.inl ⟨rfl, fun k h => absurd h (Nat.not_lt_zero _)⟩
  | k + 1, hk => by
    have ih := isB_mP T k (by omega)
    have h3 : (3 : Int32) < pcI (nI k) ↔ 3 < pcN k := by
      have h1 : pcN k ≤ 16 := cF_le _ _
      exact nI_ltI (a := 3) (by decide) (by show pcN k < _; omega)
    unfold mP
    by_cases h4 : pcN k < 4
    · have d3 : decide ((3 : Int32) < pcI (nI k)) = false := decide_eq_false (fun z => by have := h3.mp z; omega)
      rw [d3]
      rcases ih with ⟨h1, h2⟩ | ⟨j, a1, a2, a3, a4, a5⟩
      · rw [h1]
        cases hT : T (nI k)
        · rw [if_neg (by simp)]
          refine Or.inl ⟨rfl, fun i hi hp => ?_⟩
          by_cases e : i = k
          · rw [e]; exact hT
          · exact h2 i (by omega) hp
        · rw [if_pos (by simp)]
          refine Or.inr ⟨k, by omega, rfl, h4, hT, fun i hi hp hTi => ?_⟩
          by_cases e : i = k
          · subst e
            exact Or.inr ⟨rfl, Nat.le_refl _⟩
          · rw [h2 i (by omega) hp] at hTi
            cases hTi
      · rw [a2]
        have nm := nI_m1 (k := j) (by omega)
        cases hT : T (nI k)
        · rw [if_neg (by simp)]
          refine Or.inr ⟨j, by omega, rfl, a3, a4, fun i hi hp hTi => ?_⟩
          by_cases e : i = k
          · rw [e, hT] at hTi
            cases hTi
          · exact a5 i (by omega) hp hTi
        · by_cases hl : pcN k < pcN j
          · rw [if_pos (by simp [pcI_lt, hl])]
            refine Or.inr ⟨k, by omega, rfl, h4, hT, fun i hi hp hTi => ?_⟩
            by_cases e : i = k
            · subst e
              exact Or.inr ⟨rfl, Nat.le_refl _⟩
            · have := a5 i (by omega) hp hTi
              left
              omega
          · rw [if_neg (by simp [pcI_lt, nm]; omega)]
            refine Or.inr ⟨j, by omega, rfl, a3, a4, fun i hi hp hTi => ?_⟩
            by_cases e : i = k
            · subst e
              by_cases e2 : pcN j = pcN i
              · exact Or.inr ⟨e2, by omega⟩
              · left
                omega
            · exact a5 i (by omega) hp hTi
    · have d3 : decide ((3 : Int32) < pcI (nI k)) = true := decide_eq_true (h3.mpr (by omega))
      rw [d3, if_neg (by simp)]
      rcases ih with ⟨h1, h2⟩ | ⟨j, a1, a2, a3, a4, a5⟩
      · refine Or.inl ⟨h1, fun i hi hp => ?_⟩
        by_cases e : i = k
        · subst e
          exact absurd hp h4
        · exact h2 i (by omega) hp
      · refine Or.inr ⟨j, by omega, a2, a3, a4, fun i hi hp hTi => ?_⟩
        by_cases e : i = k
        · subst e
          exact absurd hp h4
        · exact a5 i (by omega) hp hTi
theorem fI_mB (T : Int32 → Bool) {m : Nat} (hm : m < 7) : fI T m 0 (2 ^ m) = mB T (2 ^ m) := by
  have h1 : isB T (2 ^ m) (m + 1) (fI T m 0 (2 ^ m)) := by
    rw [fI_find, en_I m hm]
    exact isB_srt T _ _
  have hp : 2 ^ m ≤ 64 := Nat.le_trans (Nat.pow_le_pow_right (by decide) (show m ≤ 6 by omega)) (by decide)
  have h2 := isB_mB T (2 ^ m) (by omega)
  have hc : ∀ j, pcN j < 17 := fun j => Nat.lt_succ_of_le (cF_le _ _)
  refine isB_u (C := m + 1) h1 ?_
  rcases h2 with ⟨a, b⟩ | ⟨j, a1, a2, a3, a4, a5⟩
  · exact Or.inl ⟨a, fun k hk _ => b k hk (hc k)⟩
  · exact Or.inr ⟨j, a1, a2, pc_lt m hm j a1, a4, fun k hk _ hT => a5 k hk (hc k) hT⟩
theorem fP_mP (T : Int32 → Bool) {m : Nat} (hm : m < 11) : fP T m 0 (2 ^ m) = mP T (2 ^ m) := by
  have h1 : isB T (2 ^ m) 4 (fP T m 0 (2 ^ m)) := by
    rw [fP_find, en_P m hm]
    exact isB_srt T _ _
  have hp : 2 ^ m ≤ 1024 := Nat.le_trans (Nat.pow_le_pow_right (by decide) (show m ≤ 10 by omega)) (by decide)
  exact isB_u h1 (isB_mP T (2 ^ m) (by omega))
