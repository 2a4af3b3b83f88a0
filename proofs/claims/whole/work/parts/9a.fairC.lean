/-! THE COMPONENT reads a text: fair -/
theorem RlC_of {d d' : Nat → Nat → Int32} {b b' nv : Nat} {g : Option (List Int32)} (H : RD d b g) (ok : RO nv g) (h1 : d' b' 0 = d b 0) (h2 : ∀ i, d' (b' + 1) i = d (b + 1) i) : RlC d' b' nv (gO nv g) := by
  cases g with
  | none => exact h1.trans H
  | some E => exact ⟨E, ok.1, ok.2.1, h1.trans H.1, fun i t hi => (h2 i).trans (H.2 i t hi), ok.2.2.1, fun _ => rfl⟩
theorem HC_pi {d d' : Nat → Nat → Int32} {D : Dr} (H : HD d D) (dg : DG D) (h : ∀ c, 25 ≤ c → c ≤ 43 → d' c = d (c - 21)) : HC d' (gFr D) := by
  obtain ⟨a1, a2, a3, a4, a5, a6, a7, a8⟩ := H
  have e : ∀ c k, 25 ≤ c → c ≤ 43 → d' c k = d (c - 21) k := fun c k h1 h2 => congrFun (h c h1 h2) k
  refine ⟨(e 25 0 (by decide) (by decide)).trans a1, (e 29 0 (by decide) (by decide)).trans a2, (e 34 0 (by decide) (by decide)).trans a3, fun p hp => ?_, fun m hm => ?_, fun s hs => ?_, RlC_of a7 dg.2.1 (e 38 0 (by decide) (by decide)) (fun i => e 39 i (by decide) (by decide)), RlC_of a8 dg.2.2 (e 41 0 (by decide) (by decide)) (fun i => e 42 i (by decide) (by decide))⟩
  · rw [e 26 p (by decide) (by decide), e 27 p (by decide) (by decide), e 28 p (by decide) (by decide)]
    exact a4 p hp
  · rw [e 30 m (by decide) (by decide), e 31 m (by decide) (by decide), e 32 m (by decide) (by decide), e 33 m (by decide) (by decide)]
    exact a5 m hm
  · rw [e 35 s (by decide) (by decide), e 36 s (by decide) (by decide), e 37 s (by decide) (by decide)]
    exact a6 s hs
def fBc (d d' : Nat → Nat → Int32) (f : Nat × Nat) : Prop := (∀ c, c ≠ 0 → c ≠ 1 → (c < 4 ∨ 22 < c) → d' c = d c) ∧ (∀ k, k ≠ 14 → k ≠ 15 → d' 0 k = d 0 k) ∧ d' 0 14 = nI f.2 ∧ d' 0 15 = d 0 15 + 1 ∧ d' 1 1 = nI 0
def fGc (d d' : Nat → Nat → Int32) : Prop := (∀ c, 44 ≤ c → c ∉ SR → c ≠ 81 → c ≠ 86 → d' c = d c) ∧ (∀ k, k ≠ 13 → k ≠ 14 → d' 0 k = d 0 k) ∧ d' 0 13 = 0 ∧ d' 0 14 = -1 ∧ d' 1 1 = nI 0 ∧ d' 81 0 = nI 0 ∧ d' 86 0 = nI 0
abbrev qFC (d : Nat → Nat → Int32) (L : Nat → Nat → Int64) (R : (Nat × Nat) ⊕ Dr) : xPost := fun q h => ∃ d', (∃ f : Nat × Nat, q = some (.int (nI f.1)) ∧ 1 ≤ f.1 ∧ f.1 ≤ 5 ∧ h = W0 d' L ∧ fBc d d' f ∧ R = .inl f) ∨ (q = some (.int 0) ∧ ∃ D, h = ph (W0 d' (fun c => L (pi1 c))) ∧ fGc d d' ∧ HC d' (gFr D) ∧ HW d' (gFr D) ∧ DG D ∧ R = .inr D)
section
variable (d : Nat → Nat → Int32) (L : Nat → Nat → Int64) {T : Nat → Nat} {n : Nat}
set_option maxRecDepth 100000 in
set_option maxHeartbeats 1600000 in
theorem p_fairX {m : Nat} {x : Int32} (hx : x < 0 ∨ nI m < x) (H : d 1 1 = nI m) (Q : xPost) : Cx mX11_fair 60 1 6 [.ref 0, .int x] (W0 d L) Q (fun k h => k = 0 ∧ h = W0 d L) := by
  have at15 : Ex mX11_fair false 60 1 6 15 [some (.ref 0), some (.int x), none, none] [] (W0 d L) Q (fun k h => k = 0 ∧ h = W0 d L) := by
    refine x_throw (Or.inl rfl) rfl rfl rfl rfl rfl (Or.inl ⟨_, rfl⟩) rfl rfl (by decide) (by decide) (by decide) (Nat.le_of_ble_eq_true rfl) ⟨rfl, rfl⟩
  refine Cx.intro gX11_fair rfl (Nat.le_of_ble_eq_true rfl) rfl ?_
  repeat refine x_s rfl rfl ?_
  refine x_br rfl rfl (fun c1 => ?_) (fun c1 => ?_)
  · exact at15
  · repeat refine x_s rfl rfl ?_
    rw [H]
    refine x_br rfl rfl (fun c => absurd c (fun z => absurd (hx.resolve_left c1) (Int32.not_lt.mpr z))) (fun c => ?_)
    exact at15
set_option maxRecDepth 100000 in
set_option maxHeartbeats 1600000 in
theorem p_fair {R : (Nat × Nat) ⊕ Dr} {m : Nat} (hm : m ≤ 700) (hn : n ≤ m) (hT : ∀ j, T j < 256) (H : HT d m T) (hR : lns 702 (TL T n 0) Dz = R) : Cx mX11_fair 60 1 6 [.ref 0, .int (nI n)] (W0 d L) (qFC d L R) nX := by
  refine Cx.intro gX11_fair rfl (Nat.le_of_ble_eq_true rfl) rfl ?_
  repeat refine x_s rfl rfl ?_
  refine x_br rfl rfl (fun c => absurd c (fun z => absurd z (nI_pos (by omega)))) (fun c => ?_)
  repeat refine x_s rfl rfl ?_
  rw [H.1]
  refine x_br rfl rfl (fun c => ?_) (fun c => absurd c (fun z => z (nI_le hn (by omega))))
  repeat refine x_s rfl rfl ?_
  refine x_cv (c_read d L hm hn hT H) rfl rfl rfl (by decide) rfl (by decide) rfl (Nat.le_of_ble_eq_true rfl) (by decide) (by decide) (by decide) ?_
  rintro rv _ ⟨d1, rfl, LN, hq⟩
  rw [hR] at hq
  rcases hq with ⟨f, rfl, f2, f3, f4, f5, hr⟩ | ⟨rfl, D, HD1, dg, hr⟩
  · repeat refine x_s rfl rfl ?_
    refine x_br rfl rfl (fun c => ?_) (fun c => absurd c (fun z => absurd ((nI_eq (a := f.1) (b := 0) (by omega) (by decide)).mp z) (by omega)))
    repeat refine x_s rfl rfl ?_
    rw [f2]
    refine x_put rfl rfl (by decide) rfl ⟨rfl, rfl⟩ (Or.inl rfl) ?_
    refine (show Ex _ _ _ _ _ _ _ _ (W0 (up2 d1 0 14 (nI f.2)) L) _ _ from ?_)
    repeat refine x_s rfl rfl ?_
    refine x_br rfl rfl (fun c => absurd c (fun z => absurd ((nI_eq (a := f.1) (b := 0) (by omega) (by decide)).mp z) (by omega))) (fun c => ?_)
    repeat refine x_s rfl rfl ?_
    refine x_put rfl rfl (by decide) rfl ⟨rfl, rfl⟩ (Or.inl rfl) ?_
    refine (show Ex _ _ _ _ _ _ _ _ (W0 (up2 (up2 d1 0 14 (nI f.2)) 0 15 (d1 0 15 + 1)) L) _ _ from ?_)
    repeat refine x_s rfl rfl ?_
    refine x_iret rfl rfl rfl ⟨_, Or.inl ⟨f, rfl, f3, f4, rfl, ⟨fun c h1 h2 h3 => ?_, fun k h1 h2 => ?_, rfl, ?_, LN.2⟩, hr⟩⟩
    · rw [up2_ne h1, up2_ne h1]
      exact LN.1 c h2 h3
    · rw [up2_k h2, up2_k h1, LN.1 0 (by decide) (by decide)]
    · rw [up2_eq, LN.1 0 (by decide) (by decide)]
  · repeat refine x_s rfl rfl ?_
    refine x_br rfl rfl (fun c => absurd c (fun z => z rfl)) (fun c => ?_)
    repeat refine x_s rfl rfl ?_
    refine x_put rfl rfl (by decide) rfl ⟨rfl, rfl⟩ (Or.inl rfl) ?_
    refine (show Ex _ _ _ _ _ _ _ _ (W0 (up2 d1 0 14 (-1)) L) _ _ from ?_)
    repeat refine x_s rfl rfl ?_
    refine x_br rfl rfl (fun c => ?_) (fun c => absurd c (fun z => z rfl))
    have e2 : ∀ c, ¬ c = 0 → up2 d1 0 14 (-1) c = d1 c := fun c h => up2_ne h
    have e3 : ∀ k, ¬ k = 14 → up2 d1 0 14 (-1) 0 k = d1 0 k := fun k h => up2_k h
    have e4 : up2 d1 0 14 (-1) 0 14 = -1 := rfl
    generalize up2 d1 0 14 (-1) = d2 at e2 e3 e4 ⊢
    repeat refine x_s rfl rfl ?_
    refine x_put rfl rfl (by decide) rfl ⟨rfl, rfl⟩ (Or.inl rfl) ?_
    refine (show Ex _ _ _ _ _ _ _ _ ((SH, d2, L, up2 R0 23 0 (some 3)) : xHp) _ _ from ?_)
    repeat refine x_s rfl rfl ?_
    refine x_put rfl rfl (by decide) rfl ⟨rfl, rfl⟩ (Or.inl rfl) ?_
    refine (show Ex _ _ _ _ _ _ _ _ ((SH, d2, L, up2 (up2 R0 23 0 (some 3)) 1 2 (some 24)) : xHp) _ _ from ?_)
    rw [R1_eq]
    refine x_ren (Q' := fun q h => q = some (.int 0) ∧ ∃ d', h = W0 d' (fun c => L (pi1 c)) ∧ fGc d d' ∧ HC d' (gFr D) ∧ HW d' (gFr D)) (X' := nX) rfl ?_ ?_ ?_
    · rintro v h ⟨rfl, d', rfl, g1, g2, g3⟩
      exact ⟨rfl, d', Or.inr ⟨rfl, D, rfl, g1, g2, g3, dg, hr⟩⟩
    · exact fun _ _ z => z.elim
    rw [ph_1]
    have q0 : ∀ c, 25 ≤ c → c ≤ 43 → d2 (pi1 c) = d1 (c - 21) := fun c h1 h2 => by
      unfold pi1
      rw [if_neg (by omega), if_pos (by omega), e2 _ (by omega)]
    have q1 : ∀ c, 44 ≤ c → d2 (pi1 c) = d c := fun c h1 => by
      rw [pi1_b h1, e2 _ (by omega), LN.1 c (by omega) (by omega)]
    have q2 : ∀ k, ¬ k = 14 → d2 (pi1 0) k = d 0 k := fun k h => by
      rw [show pi1 0 = 0 from rfl, e3 k h, LN.1 0 (by decide) (by decide)]
    have q3 : d2 (pi1 0) 14 = -1 := e4
    have q4 : d2 (pi1 1) 1 = nI 0 := by
      rw [show pi1 1 = 1 from rfl, e2 1 (by decide)]
      exact LN.2
    generalize hL : (fun c => L (pi1 c)) = L4
    generalize hd : (fun c => d2 (pi1 c)) = d4
    have g0 : ∀ c, d2 (pi1 c) = d4 c := fun c => congrFun hd c
    simp only [g0] at q0 q1 q2 q3 q4
    refine (show Ex _ _ _ _ _ _ [some (.ref 0), some (.int (nI n)), some (.int 0), some (.ref 3)] [] (W0 d4 L4) _ _ from ?_)
    repeat refine x_s rfl rfl ?_
    refine x_put rfl rfl (by decide) rfl ⟨rfl, rfl⟩ (Or.inl rfl) ?_
    refine (show Ex _ _ _ _ _ _ _ _ (W0 (up2 d4 81 0 0) L4) _ _ from ?_)
    repeat refine x_s rfl rfl ?_
    refine x_put rfl rfl (by decide) rfl ⟨rfl, rfl⟩ (Or.inl rfl) ?_
    refine (show Ex _ _ _ _ _ _ _ _ (W0 (up2 (up2 d4 81 0 0) 86 0 0) L4) _ _ from ?_)
    repeat refine x_s rfl rfl ?_
    refine x_put rfl rfl (by decide) rfl ⟨rfl, rfl⟩ (Or.inl rfl) ?_
    refine (show Ex _ _ _ _ _ _ _ _ (W0 (up2 (up2 (up2 d4 81 0 0) 86 0 0) 0 13 0) L4) _ _ from ?_)
    have H5 : HC (up2 (up2 (up2 d4 81 0 0) 86 0 0) 0 13 0) (gFr D) := HC_pi HD1 dg (fun c h1 h2 => by
      rw [up2_ne (by omega), up2_ne (by omega), up2_ne (by omega)]
      exact q0 c h1 h2)
    have G5 : fGc d (up2 (up2 (up2 d4 81 0 0) 86 0 0) 0 13 0) := by
      refine ⟨fun c h1 _ h2 h3 => ?_, fun k h1 h2 => ?_, rfl, q3, q4, rfl, rfl⟩
      · rw [up2_ne (by omega), up2_ne h3, up2_ne h2]
        exact q1 c h1
      · rw [up2_k h1, up2_ne (by decide), up2_ne (by decide)]
        exact q2 k h2
    generalize up2 (up2 (up2 d4 81 0 0) 86 0 0) 0 13 0 = d5 at H5 G5 ⊢
    repeat refine x_s rfl rfl ?_
    refine x_cv (c_refresh d5 L4 H5 dg.1) rfl rfl rfl (by decide) rfl (by decide) rfl (Nat.le_of_ble_eq_true rfl) (by decide) (by decide) (by decide) ?_
    rintro _ _ ⟨rfl, d6, rfl, s6, w6⟩
    repeat refine x_s rfl rfl ?_
    refine x_iret rfl rfl rfl ⟨rfl, d6, rfl, ⟨fun c h1 h2 h3 h4 => ?_, fun k h1 h2 => ?_, ?_, ?_, ?_, ?_, ?_⟩, HC_sm H5 s6 (by decide), w6⟩
    · rw [s6 c h2]
      exact G5.1 c h1 h2 h3 h4
    · rw [s6 0 (by decide)]
      exact G5.2.1 k h1 h2
    · rw [s6 0 (by decide)]
      exact G5.2.2.1
    · rw [s6 0 (by decide)]
      exact G5.2.2.2.1
    · rw [s6 1 (by decide)]
      exact G5.2.2.2.2.1
    · rw [s6 81 (by decide)]
      exact G5.2.2.2.2.2.1
    · rw [s6 86 (by decide)]
      exact G5.2.2.2.2.2.2
end
