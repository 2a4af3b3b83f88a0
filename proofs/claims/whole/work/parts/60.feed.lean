/-! THE TAPE is fed -/
section
variable (d : Nat → Nat → Int32) (L : Nat → Nat → Int64) {n : Nat} {T : Nat → Nat}
set_option maxRecDepth 100000 in
set_option maxHeartbeats 8000000 in
theorem c_put (H : HT d n T) (hn : n + 4 ≤ 700) (x : Int32) : Cn mX5_put false 1 0 0 [.ref 1, .int x] (W0 d L) (fun r h => r = none ∧ ∃ d', h = W0 d' L ∧ sm [1, 2] d d' ∧ HT d' (n + 4) (pu n T x)) := by
  have step : ∀ (Q : xPost) (m s : Nat) (d1 : Nat → Nat → Int32), d1 1 1 = nI m → m < 700 → s ≤ 24 → Ex mX5_put false 1 0 0 3 [some (.ref 1), some (.int x), some (.int (nI s + -8))] [] (W0 (up2 (up2 d1 2 m (sb (by0 x s))) 1 1 (nI (m + 1))) L) Q nX → Ex mX5_put false 1 0 0 3 [some (.ref 1), some (.int x), some (.int (nI s))] [] (W0 d1 L) Q nX := by
    intro Q m s d1 h1 hm hs K
    repeat refine x_s rfl rfl ?_
    refine x_br rfl rfl (fun c => absurd c (nI_pos (by omega))) (fun c => ?_)
    repeat refine x_s rfl rfl ?_
    refine x_br rfl rfl (fun c => absurd c (by rw [h1]; exact nI_ge (b := 700) hm (by decide))) (fun c => ?_)
    repeat refine x_s rfl rfl ?_
    refine x_bast rfl rfl (k := m) h1 hm (by decide) rfl ?_
    rw [b8_idem, ← sb_by]
    repeat refine x_s rfl rfl ?_
    refine x_put rfl rfl (by decide) rfl ⟨rfl, rfl⟩ (Or.inl rfl) ?_
    iterate 2 refine x_s rfl rfl ?_
    have e : d1 1 1 + 1 = nI (m + 1) := by rw [h1, nI_1]
    rw [← e] at K
    exact K
  have m8 : ∀ s, s ≤ 24 → 8 ≤ s → nI s + -8 = nI (s - 8) := by
    intro s h1 h2
    apply ieq.mpr
    rw [add_tI (by rw [nI_tI (by omega)]; omega) (by decide), nI_tI (by omega), nI_tI (by omega), show (-8 : Int32).toInt = -8 from rfl]
    omega
  refine Cn.intro gX5_put rfl (Nat.le_of_ble_eq_true rfl) rfl ?_
  iterate 2 refine x_s rfl rfl ?_
  refine step _ n 24 d H.1 (by omega) (by omega) ?_
  rw [m8 24 (by omega) (by omega)]
  refine step _ (n + 1) 16 _ rfl (by omega) (by omega) ?_
  rw [m8 16 (by omega) (by omega)]
  refine step _ (n + 2) 8 _ rfl (by omega) (by omega) ?_
  rw [m8 8 (by omega) (by omega)]
  refine step _ (n + 3) 0 _ rfl (by omega) (by omega) ?_
  repeat refine x_s rfl rfl ?_
  refine x_br rfl rfl (fun c => ?_) (fun c => absurd c (by decide))
  refine x_vret rfl rfl ⟨rfl, _, rfl, ?_, rfl, fun j hj => ?_⟩
  · exact sm_up (sm_up (sm_up (sm_up (sm_up (sm_up (sm_up (sm_up sm_rfl (by decide)) (by decide)) (by decide)) (by decide)) (by decide)) (by decide)) (by decide)) (by decide)
  · show (if j = n + 3 then sb (by0 x 0) else if j = n + 2 then sb (by0 x 8) else if j = n + 1 then sb (by0 x 16) else if j = n then sb (by0 x 24) else d 2 j) = _
    unfold pu
    by_cases e3 : j = n + 3
    · simp [e3]
    by_cases e2 : j = n + 2
    · simp [e2]
    by_cases e1 : j = n + 1
    · simp [e1]
    by_cases e0 : j = n
    · simp [e0]
    simp only [if_neg e0, if_neg e1, if_neg e2, if_neg e3]
    exact H.2 j (by omega)
def fd (n : Nat) (T : Nat → Nat) (a b u e g : Int32) : Nat → Nat := pu (n + 16) (pu (n + 12) (pu (n + 8) (pu (n + 4) (pu n T a) b) u) e) g
set_option maxRecDepth 100000 in
set_option maxHeartbeats 8000000 in
theorem p_feed (H : HT d n T) (hn : n ≤ 700) (a b u e g : Int32) : Cn mX11_feed false 3 0 0 [.ref 0, .int a, .int b, .int u, .int e, .int g] (W0 d L) (fun r h => (n + 20 ≤ 700 ∧ r = some (.int (nI (n + 20))) ∧ ∃ d', h = W0 d' L ∧ sm [1, 2] d d' ∧ HT d' (n + 20) (fd n T a b u e g)) ∨ (700 < n + 20 ∧ r = some (.int (-1)) ∧ h = W0 d L)) := by
  refine Cn.intro gX11_feed rfl (Nat.le_of_ble_eq_true rfl) rfl ?_
  iterate 3 refine x_s rfl rfl ?_
  rw [H.1]
  repeat refine x_s rfl rfl ?_
  rw [show nI n + 20 = nI (n + 20) from nI_add n 20]
  rcases Nat.lt_or_ge 700 (n + 20) with h | h
  · refine x_br rfl rfl (fun c => absurd c (nI_ge (a := 700) h (by omega))) (fun c => ?_)
    repeat refine x_s rfl rfl ?_
    exact x_iret rfl rfl rfl (Or.inr ⟨h, rfl, rfl⟩)
  · refine x_br rfl rfl (fun c => ?_) (fun c => absurd c (fun z => z (nI_le (b := 700) h (by decide))))
    repeat refine x_s rfl rfl ?_
    refine x_cv (c_put d L H (by omega) a) rfl rfl rfl (by decide) rfl (by decide) rfl (Nat.le_of_ble_eq_true rfl) (by decide) (by decide) (by decide) ?_
    rintro _ _ ⟨rfl, d1, rfl, hs1, H1⟩
    repeat refine x_s rfl rfl ?_
    refine x_cv (c_put d1 L H1 (by omega) b) rfl rfl rfl (by decide) rfl (by decide) rfl (Nat.le_of_ble_eq_true rfl) (by decide) (by decide) (by decide) ?_
    rintro _ _ ⟨rfl, d2, rfl, hs2, H2⟩
    repeat refine x_s rfl rfl ?_
    refine x_cv (c_put d2 L H2 (by omega) u) rfl rfl rfl (by decide) rfl (by decide) rfl (Nat.le_of_ble_eq_true rfl) (by decide) (by decide) (by decide) ?_
    rintro _ _ ⟨rfl, d3, rfl, hs3, H3⟩
    repeat refine x_s rfl rfl ?_
    refine x_cv (c_put d3 L H3 (by omega) e) rfl rfl rfl (by decide) rfl (by decide) rfl (Nat.le_of_ble_eq_true rfl) (by decide) (by decide) (by decide) ?_
    rintro _ _ ⟨rfl, d4, rfl, hs4, H4⟩
    repeat refine x_s rfl rfl ?_
    refine x_cv (c_put d4 L H4 (by omega) g) rfl rfl rfl (by decide) rfl (by decide) rfl (Nat.le_of_ble_eq_true rfl) (by decide) (by decide) (by decide) ?_
    rintro _ _ ⟨rfl, d5, rfl, hs5, H5⟩
    repeat refine x_s rfl rfl ?_
    exact x_iret rfl rfl rfl (Or.inl ⟨h, congrArg (fun z => some (Value.int z)) H5.1, d5, rfl, sm_go hs1 (sm_go hs2 (sm_go hs3 (sm_go hs4 hs5))), H5⟩)
end
