/-! THE ROWS: fill, fillRow -/
section
variable {F : Fr} {B : Nat → Bool} {h : Nat}
theorem l1_up : ∀ (n s : Nat), s < n → B s = true → F.1 10 s ≤ h → F.1 10 s + 1 ≤ l1 F B h n
  | 0, s, hs, _, _ => by omega
  | n + 1, s, hs, hb, hh => by
    unfold l1
    by_cases e : s = n
    · subst e
      by_cases h2 : l1 F B h s ≤ F.1 10 s
      · rw [if_pos (by simp [hb, hh, h2])]
        exact Nat.le_refl _
      · rw [if_neg (by simp [h2])]
        omega
    · have ih := l1_up n s (by omega) hb hh
      split
      · rename_i z
        simp only [Bool.and_eq_true, decide_eq_true_eq] at z
        omega
      · exact ih
theorem l1_at : ∀ (n : Nat), l1 F B h n = 0 ∨ ∃ s, s < n ∧ B s = true ∧ F.1 10 s ≤ h ∧ F.1 10 s + 1 = l1 F B h n
  | 0 => Or.inl rfl
  | n + 1 => by
    unfold l1
    split
    · rename_i z
      simp only [Bool.and_eq_true, decide_eq_true_eq] at z
      exact Or.inr ⟨n, by omega, z.1, z.2.1, rfl⟩
    · rcases l1_at n with h1 | ⟨s, h1, h2⟩
      · exact Or.inl h1
      · exact Or.inr ⟨s, by omega, h2⟩
theorem l1_eq {n m : Nat} (h1 : ∀ s, s < n → B s = true → F.1 10 s ≤ h → F.1 10 s + 1 ≤ m) (h2 : m = 0 ∨ ∃ s, s < n ∧ B s = true ∧ F.1 10 s ≤ h ∧ F.1 10 s + 1 = m) : l1 F B h n = m := by
  apply Nat.le_antisymm
  · rcases l1_at (F := F) (B := B) (h := h) n with z | ⟨s, z1, z2, z3, z4⟩
    · omega
    · rw [← z4]
      exact h1 s z1 z2 z3
  · rcases h2 with z | ⟨s, z1, z2, z3, z4⟩
    · omega
    · rw [← z4]
      exact l1_up n s z1 z2 z3
theorem l1_le {n : Nat} : l1 F B h n ≤ h + 1 := by
  rcases l1_at (F := F) (B := B) (h := h) n with z | ⟨s, z1, z2, z3, z4⟩ <;> omega
theorem l1_hit {n s : Nat} (hs : s < n) (hb : B s = true) (hh : F.1 10 s = h) : l1 F B h n = h + 1 := l1_eq (fun s _ _ z => by omega) (Or.inr ⟨s, hs, hb, by omega, by omega⟩)
theorem l1_miss {n : Nat} (hn : ∀ s, s < n → B s = true → F.1 10 s ≠ h) : l1 F B h n = if h = 0 then 0 else l1 F B (h - 1) n := by
  split
  · rename_i z
    exact l1_eq (fun s h1 h2 h3 => absurd (by omega) (hn s h1 h2)) (Or.inl rfl)
  · rename_i z
    refine l1_eq (fun s h1 h2 h3 => l1_up n s h1 h2 ?_) ?_
    · have := hn s h1 h2
      omega
    · rcases l1_at (F := F) (B := B) (h := h - 1) n with q | ⟨s, q1, q2, q3, q4⟩
      · exact Or.inl q
      · exact Or.inr ⟨s, q1, q2, by omega, q4⟩
end
/-- what is shown by the sayings of the hour l - 1 -/
def shX (F : Fr) (n : Nat) (B : Nat → Bool) (l : Nat) : Int32 := if l = 0 then -1 else nI (sB F n (fun s => B s && decide (F.1 10 s + 1 = l)))
theorem shB_X (F : Fr) (n : Nat) (B : Nat → Bool) (h : Nat) : shB F n B h = shX F n B (l1 F B h (F.1 9 0)) := rfl
def ls0 (F : Fr) (B : Nat → Bool) (k : Nat) : Nat := if k = 0 then 0 else l1 F B (k - 1) (F.1 9 0)
theorem m1_s (k : Nat) : m1 (k + 1) = nI k := nI_pred k
section
variable (d : Nat → Nat → Int32) (L : Nat → Nat → Int64) {F : Fr}
set_option maxRecDepth 100000 in
set_option maxHeartbeats 8000000 in
theorem c_fill {b n : Nat} (hb : b = 66 ∧ n = 100 ∨ b = 78 ∧ n = 6 ∨ b = 79 ∧ n = 10) (x : Int32) : Cn mJ7_fill_53178 false 1 0 0 [.ref b, .int x] (W0 d L) (fun r h => r = none ∧ ∃ d', h = W0 d' L ∧ sm [b] d d' ∧ ∀ j, j < n → d' b j = x) := by
  have lp : ∀ k, k ≤ n → ∀ d1, sm [b] d d1 → (∀ j, j < k → d1 b j = x) → Ex mJ7_fill_53178 false 1 0 0 5 [some (.ref b), some (.int x), some (.int (nI k)), some (.int (nI n))] [] (W0 d1 L) (fun r h => r = none ∧ ∃ d', h = W0 d' L ∧ sm [b] d d' ∧ ∀ j, j < n → d' b j = x) nX := by
    have hsh : xsh SH b = some (100, n) := by rcases hb with ⟨rfl, rfl⟩ | ⟨rfl, rfl⟩ | ⟨rfl, rfl⟩ <;> rfl
    have hn : n ≤ 100 := by omega
    refine x_down _ ?_ ?_
    · intro d1 hs hj
      repeat refine x_s rfl rfl ?_
      refine x_br rfl rfl (fun c => ?_) (fun c => absurd c (fun z => z (Int32.le_refl _)))
      exact x_vret rfl rfl ⟨rfl, d1, rfl, hs, hj⟩
    · intro k hk ih d1 hs hj
      repeat refine x_s rfl rfl ?_
      refine x_br rfl rfl (fun c => absurd c (nI_ge hk (by omega))) (fun c => ?_)
      repeat refine x_s rfl rfl ?_
      refine x_iast rfl hsh (k := k) rfl hk (by omega) rfl ?_
      iterate 2 refine x_s rfl rfl ?_
      rw [nI_1]
      refine ih _ (sm_up hs (by simp)) ?_
      intro j hj2
      by_cases e : j = k
      · subst e
        exact up2_eq
      · rw [up2_k e]
        exact hj j (by omega)
  refine Cn.intro gJ7_fill_53178 rfl (Nat.le_of_ble_eq_true rfl) rfl ?_
  rcases hb with ⟨rfl, rfl⟩ | ⟨rfl, rfl⟩ | ⟨rfl, rfl⟩
  all_goals
    iterate 5 refine x_s rfl rfl ?_
    exact lp 0 (Nat.zero_le _) d sm_rfl (fun j hj => by omega)
set_option maxRecDepth 100000 in
set_option maxHeartbeats 8000000 in
theorem c_fillRow (H : HC d F) (R : RG F) (hS : ∀ h, h < 100 → d 66 h = bF (fun s => decide (F.1 10 s = h)) (F.1 9 0)) {n rc hc : Nat} (hn : n < F.1 4 0) {bits : Int32} {B : Nat → Bool} (hB : ∀ s, s < F.1 9 0 → bt bits s = B s) (h1 : xsh SH rc = some (100, 100)) (h2 : xsh SH hc = some (100, 100)) (hne : rc ≠ hc) (hr1 : rc ∉ 66 :: 69 :: HCc) (hr2 : hc ∉ 66 :: 69 :: HCc) : Cn mX9_fillRow false 4 0 0 [.ref 23, .int (nI n), .int bits, .ref rc, .ref hc] (W0 d L) (fun r h => r = none ∧ ∃ d', h = W0 d' L ∧ sm [69, rc, hc] d d' ∧ ∀ j, j < 100 → d' rc j = shB F n B j ∧ d' hc j = m1 (l1 F B j (F.1 9 0))) := by
  have r3 := R.2.2.1
  have hd1 : ∀ c, c ∈ HCc → c ∉ [69, rc, hc] := by
    intro c h hc'
    simp only [List.mem_cons, List.not_mem_nil, or_false] at hc'
    rcases hc' with rfl | rfl | rfl
    · exact absurd h (by decide)
    · exact hr1 (List.mem_cons_of_mem _ (List.mem_cons_of_mem _ h))
    · exact hr2 (List.mem_cons_of_mem _ (List.mem_cons_of_mem _ h))
  have h66 : 66 ∉ [69, rc, hc] := by
    intro hc'
    simp only [List.mem_cons, List.not_mem_nil, or_false] at hc'
    rcases hc' with z | rfl | rfl
    · cases z
    · exact hr1 List.mem_cons_self
    · exact hr2 List.mem_cons_self
  have r69 : rc ≠ 69 := fun z => hr1 (by rw [z]; exact List.mem_cons_of_mem _ List.mem_cons_self)
  have c69 : hc ≠ 69 := fun z => hr2 (by rw [z]; exact List.mem_cons_of_mem _ List.mem_cons_self)
  have lp : ∀ k, k ≤ 100 → ∀ a b, a = shX F n B (ls0 F B k) → b = m1 (ls0 F B k) → ∀ d1, sm [69, rc, hc] d d1 → (∀ j, j < k → d1 rc j = shB F n B j ∧ d1 hc j = m1 (l1 F B j (F.1 9 0))) → ∀ o, Ex mX9_fillRow false 4 0 0 9 [some (.ref 23), some (.int (nI n)), some (.int bits), some (.ref rc), some (.ref hc), some (.int a), some (.int b), some (.int (nI k)), o] [] (W0 d1 L) (fun r h => r = none ∧ ∃ d', h = W0 d' L ∧ sm [69, rc, hc] d d' ∧ ∀ j, j < 100 → d' rc j = shB F n B j ∧ d' hc j = m1 (l1 F B j (F.1 9 0))) nX := by
    refine x_down _ ?_ ?_
    · intro a b ha hb d1 hs hj o
      repeat refine x_s rfl rfl ?_
      refine x_br rfl rfl (fun c => ?_) (fun c => absurd c (fun z => z (by decide)))
      exact x_vret rfl rfl ⟨rfl, d1, rfl, hs, hj⟩
    · intro k hk ih a b ha hb d1 hs hj o
      have H1 := HC_sm H hs hd1
      have S1 : d1 66 k = bF (fun s => decide (F.1 10 s = k)) (F.1 9 0) := by rw [hs 66 h66]; exact hS k hk
      have key : ∀ s, s < F.1 9 0 → bt (bF (fun s => decide (F.1 10 s = k)) (F.1 9 0) &&& bits) s = (B s && decide (F.1 10 s + 1 = k + 1)) := by
        intro s hs
        rw [b_and, bF_bt _ _ _ (by omega), hB s hs, decide_eq_true hs, Bool.true_and, Bool.and_comm]
        congr 1
        simp
      have fin : ∀ (a b : Int32), a = shB F n B k → b = m1 (l1 F B k (F.1 9 0)) → ∀ (d2 : Nat → Nat → Int32) (o2 : Option Value), sm [69, rc, hc] d d2 → (∀ j, j < k → d2 rc j = shB F n B j ∧ d2 hc j = m1 (l1 F B j (F.1 9 0))) → Ex mX9_fillRow false 4 0 0 56 [some (.ref 23), some (.int (nI n)), some (.int bits), some (.ref rc), some (.ref hc), some (.int a), some (.int b), some (.int (nI k)), o2] [] (W0 d2 L) (fun r h => r = none ∧ ∃ d', h = W0 d' L ∧ sm [69, rc, hc] d d' ∧ ∀ j, j < 100 → d' rc j = shB F n B j ∧ d' hc j = m1 (l1 F B j (F.1 9 0))) nX := by
        intro a b ha2 hb2 d2 o2 hs2 hj2
        subst ha2
        subst hb2
        repeat refine x_s rfl rfl ?_
        refine x_iast rfl h1 (k := k) rfl hk (by decide) rfl ?_
        repeat refine x_s rfl rfl ?_
        refine x_iast rfl h2 (k := k) rfl hk (by decide) rfl ?_
        iterate 2 refine x_s rfl rfl ?_
        rw [nI_1]
        refine ih _ _ rfl rfl _ (sm_up (sm_up hs2 (by simp)) (by simp)) ?_ _
        intro j hj3
        rw [up2_ne hne]
        by_cases e : j = k
        · subst e
          exact ⟨up2_eq, up2_eq⟩
        · rw [up2_k e, up2_k e, up2_ne (Ne.symm hne)]
          exact hj2 j (by omega)
      repeat refine x_s rfl rfl ?_
      refine x_br rfl rfl (fun c => absurd c (nI_ge (b := 100) hk (by decide))) (fun c => ?_)
      repeat refine x_s rfl rfl ?_
      refine x_ald rfl rfl rfl (k := k) (rfl) (by omega) (by decide) rfl ?_
      rw [S1]
      repeat refine x_s rfl rfl ?_
      refine x_br rfl rfl (fun c => ?_) (fun c => ?_)
      · have hm : l1 F B k (F.1 9 0) = ls0 F B k := by
          unfold ls0
          refine l1_miss (fun s hs hb he => ?_)
          have z := key s hs
          rw [show bF (fun s => decide (F.1 10 s = k)) (F.1 9 0) &&& bits = 0 from c, b_0, hb, he] at z
          simp at z
        exact fin _ _ (by rw [ha, ← hm, ← shB_X]) (by rw [hb, hm]) d1 _ hs hj
      · have hm : l1 F B k (F.1 9 0) = k + 1 := by
          have : ∃ s, s < F.1 9 0 ∧ (B s && decide (F.1 10 s + 1 = k + 1)) = true := by
            rcases hz : aF (fun s => B s && decide (F.1 10 s + 1 = k + 1)) (F.1 9 0) with _ | _
            · exfalso
              apply c
              apply b_ext
              intro i hi
              rw [b_0]
              by_cases h9 : i < F.1 9 0
              · rw [key i h9]
                exact aF_no.mp hz i h9
              · rw [b_and, bF_bt _ _ _ (by omega), decide_eq_false h9]
                rfl
            · exact aF_iff.mp hz
          obtain ⟨s, z1, z2⟩ := this
          simp only [Bool.and_eq_true, decide_eq_true_eq] at z2
          exact l1_hit z1 z2.1 (by omega)
        repeat refine x_s rfl rfl ?_
        refine x_cv (c_addUp d1 L H1 R (b := 69) (Or.inl rfl) hn key) rfl rfl rfl (by decide) rfl (by decide) rfl (Nat.le_of_ble_eq_true rfl) (by decide) (by decide) (by decide) ?_
        rintro _ _ ⟨rfl, d2, rfl, hs2, hy⟩
        repeat refine x_s rfl rfl ?_
        refine x_cv (c_W_sign d2 L hy) rfl rfl rfl (by decide) rfl (by decide) rfl (Nat.le_of_ble_eq_true rfl) (by decide) (by decide) (by decide) ?_
        rintro _ _ ⟨rfl, rfl⟩
        iterate 3 refine x_s rfl rfl ?_
        have e1 : nI (sg (wx F n (fun s => B s && decide (F.1 10 s + 1 = k + 1)) (F.1 9 0)) (wy F n (fun s => B s && decide (F.1 10 s + 1 = k + 1)) (F.1 9 0)) (wm F n (fun s => B s && decide (F.1 10 s + 1 = k + 1)) (F.1 9 0))) = shB F n B k := by
          rw [shB_X, hm]
          unfold shX
          rw [if_neg (by omega)]
          rfl
        refine fin _ _ e1 (by rw [hm, m1_s]) d2 _ (sm_go hs (sm_in hs2 (by simp))) ?_
        intro j hj3
        rw [hs2 rc (by simpa using r69), hs2 hc (by simpa using c69)]
        exact hj j hj3
  refine Cn.intro gX9_fillRow rfl (Nat.le_of_ble_eq_true rfl) rfl ?_
  iterate 6 refine x_s rfl rfl ?_
  exact lp 0 (Nat.zero_le _) _ _ rfl rfl d sm_rfl (fun j hj => by omega) _
end
