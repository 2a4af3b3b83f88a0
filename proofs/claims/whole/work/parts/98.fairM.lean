/-! THE MODEL reads a text -/
def gO (nv : Nat) (o : Option (List Int32)) : Gr := o.map (fun E vals => evA (fun i => if inB i nv then vals i.toInt.toNat else 0) E 0 (fun _ => 0))
abbrev gFr (D : Dr) : Fr := (D.1, gO 6 D.2.1, gO 5 D.2.2)
theorem sgn_D {l l' : List Tk} {D D' : Dr} (h : sgn l D = .inr (l', D')) : D' = D := by
  unfold sgn at h
  split at h
  · cases h
  · split at h
    · cases h
      rfl
    · cases h
theorem tkn_K {lo hi : Nat} {l l' : List Tk} {D' : Dr} {K : Nat → List Tk → LR} (h : tkn lo hi l K = .inr (l', D')) : ∃ v r, lo ≤ v ∧ v ≤ hi ∧ K v r = .inr (l', D') := by
  unfold tkn at h
  split at h
  · cases h
  · split at h
    · rename_i e
      obtain ⟨-, h1, h2⟩ := nmF_0 e
      exact ⟨_, _, h1, h2, h⟩
    · cases h
theorem line_DR {l l' : List Tk} {D D' : Dr} (R : DR D) (h : line l D = .inr (l', D')) : DR D' := by
  refine ⟨?_, trivial⟩
  have R := R.1
  unfold line at h
  split at h
  · cases h
  rename_i s k v r
  have rl : ∀ b, lnRule b s r D = .inr (l', D') → RG (D'.1, (none, none)) := by
    intro b h
    unfold lnRule at h
    split at h
    · cases h
    · split at h
      · cases h
      · rw [sgn_D h]
        exact R
  split at h
  · unfold lnOne at h
    split at h
    · cases h
    obtain ⟨x, r1, -, x2, h⟩ := tkn_K h
    split at h
    · cases h
    · split at h
      · rename_i e
        obtain ⟨-, y1, y2⟩ := nmF_0 e
        split at h
        · cases h
        · obtain ⟨z, r3, -, z2, h⟩ := tkn_K h
          rw [sgn_D h]
          exact RG_addP R (by omega) x2 y2 z2
      · cases h
  split at h
  · unfold lnNeedle at h
    split at h
    · cases h
    obtain ⟨x, r1, -, x2, h⟩ := tkn_K h
    split at h
    · cases h
    · split at h
      · rename_i e
        obtain ⟨-, y1, y2⟩ := nmF_0 e
        split at h
        · cases h
        · obtain ⟨z, r3, -, z2, h⟩ := tkn_K h
          obtain ⟨u, r4, -, u2, h⟩ := tkn_K h
          rw [sgn_D h]
          exact RG_addN R (by omega) x2 y2 z2 u2
      · cases h
  split at h
  · unfold lnSays at h
    split at h
    · cases h
    obtain ⟨x, r1, -, x2, h⟩ := tkn_K h
    split at h
    · cases h
    · split at h
      · split at h
        · cases h
        · obtain ⟨z, r3, -, z2, h⟩ := tkn_K h
          rw [sgn_D h]
          exact RG_tl (F := (D.1, (none, none))) R (show D.1 9 0 < 16 by omega) (by omega) (show _ < D.1 0 0 by omega) z2
      · cases h
  split at h
  · exact rl 17 h
  split at h
  · exact rl 20 h
  · cases h
/-- while lines are read -/
def NG (d d' : Nat → Nat → Int32) : Prop := (∀ c, c < 112 ∨ (112 < c ∧ c < 120) ∨ 127 < c → d' c = d c) ∧ (∀ k, (0 < k ∧ k < 11) ∨ k = 14 ∨ 32 < k → d' 112 k = d 112 k) ∧ d' 112 0 = 0 ∧ d' 112 11 = nI 0
theorem NG_NF {d d' d'' : Nat → Nat → Int32} (h : NG d d') (h' : NF d' d'') : NG d d'' := ⟨fun c a => (h'.1 c a).trans (h.1 c a), fun k a => (h'.2 k (by omega)).trans (h.2.1 k a), (h'.2 0 (by decide)).trans h.2.2.1, (h'.2 11 (by decide)).trans h.2.2.2⟩
theorem RlM_17 {d d' : Nat → Nat → Int32} {g : Option (List Int32)} {top : Nat} (H : RuM d 26 17 g top) (ht : top ≤ 1400) (ok : RO 6 g) (h1 : d' 112 3 = d 112 26) (h2 : ∀ i, i < 1400 → d' 117 i = d 125 i) : RlM d' 3 6 pmT (gO 6 g) := by
  cases g with
  | none => exact h1.trans H
  | some E =>
    obtain ⟨at0, a1, a2, a3, a4⟩ := H
    have a2 : at0 + (cod pmT E).length < top := a2
    refine ⟨E, at0, h1.trans a1, by omega, fun i t hi => ?_, ?_, ok.2.2.1, ok.2.2.2, fun _ => rfl⟩
    · have := (List.getElem?_eq_some_iff.mp hi).1
      rw [h2 _ (by omega)]
      exact a3 i t hi
    · rw [h2 _ (by omega)]
      exact a4
theorem RlM_20 {d d' : Nat → Nat → Int32} {g : Option (List Int32)} {top : Nat} (H : RuM d 27 20 g top) (ht : top ≤ 1400) (ok : RO 5 g) (h1 : d' 112 4 = d 112 27) (h2 : ∀ i, i < 1400 → d' 117 i = d 125 i) : RlM d' 4 5 pmC (gO 5 g) := by
  cases g with
  | none => exact h1.trans H
  | some E =>
    obtain ⟨at0, a1, a2, a3, a4⟩ := H
    have a2 : at0 + (cod pmC E).length < top := a2
    refine ⟨E, at0, h1.trans a1, by omega, fun i t hi => ?_, ?_, ok.2.2.1, ok.2.2.2, fun _ => rfl⟩
    · have := (List.getElem?_eq_some_iff.mp hi).1
      rw [h2 _ (by omega)]
      exact a3 i t hi
    · rw [h2 _ (by omega)]
      exact a4
def fBm (d d' : Nat → Nat → Int32) : Prop := (∀ c, c < 112 ∨ (112 < c ∧ c < 119) ∨ 127 < c → d' c = d c) ∧ (∀ k, (0 < k ∧ k < 11) ∨ k = 14 ∨ 32 < k → d' 112 k = d 112 k) ∧ d' 112 0 = 0 ∧ d' 112 11 = nI 0 ∧ d' 119 0 = d 119 0 + 1 ∧ ∀ k, k ≠ 0 → d' 119 k = d 119 k
def fGm (d d' : Nat → Nat → Int32) : Prop := (∀ c, c < 112 ∨ c = 119 ∨ 128 < c → d' c = d c) ∧ (∀ k, 32 < k → k ≠ 43 → k ≠ 56 → k ≠ 59 → d' 112 k = d 112 k) ∧ d' 112 0 = 0 ∧ d' 112 11 = nI 0 ∧ d' 112 43 = nI 0 ∧ d' 112 56 = nI 0 ∧ d' 112 59 = 0 ∧ d' 112 13 = -1
abbrev qFM (d : Nat → Nat → Int32) (L : Nat → Nat → Int64) (R : (Nat × Nat) ⊕ Dr) : xPost := fun q h => ∃ d' L', h = W0 d' L' ∧ ML L L' ∧ ((∃ f : Nat × Nat, q = some (.int (nI f.1)) ∧ fBm d d' ∧ d' 112 13 = nI f.2 ∧ R = .inl f) ∨ (q = some (.int 0) ∧ ∃ D, fGm d d' ∧ HB d' (gFr D) ∧ R = .inr D))
def fz (d : Nat → Nat → Int32) (n : Nat) : Nat → Nat → Int32 := up2 (up2 (up2 (up2 (up2 (up2 (up2 (up2 (up2 (up2 (up2 (up2 d 112 0 0) 112 11 0) 112 13 (-1)) 112 12 0) 112 15 (nI n)) 112 16 0) 112 23 0) 112 24 0) 112 25 0) 112 26 (-1)) 112 27 (-1)) 112 28 0
theorem fz_c {d : Nat → Nat → Int32} {n c : Nat} (h : ¬ c = 112) : fz d n c = d c := by
  unfold fz
  rw [up2_ne h, up2_ne h, up2_ne h, up2_ne h, up2_ne h, up2_ne h, up2_ne h, up2_ne h, up2_ne h, up2_ne h, up2_ne h, up2_ne h]
theorem fz_k {d : Nat → Nat → Int32} {n k : Nat} (h : (0 < k ∧ k < 11) ∨ k = 14 ∨ 32 < k) : fz d n 112 k = d 112 k := by
  unfold fz
  rw [up2_k (by omega), up2_k (by omega), up2_k (by omega), up2_k (by omega), up2_k (by omega), up2_k (by omega), up2_k (by omega), up2_k (by omega), up2_k (by omega), up2_k (by omega), up2_k (by omega), up2_k (by omega)]
theorem fz_f {d : Nat → Nat → Int32} {T : Nat → Nat} {n m : Nat} (H : HTM d m T) (hn : n ≤ m) : HXM (fz d n) T n ∧ fz d n 112 16 = nI 0 ∧ fz d n 112 12 = nI 0 ∧ NG d (fz d n) ∧ HDM (fz d n) Dz 0 := by
  refine ⟨⟨rfl, fun j hj => ?_, rfl⟩, rfl, rfl, ⟨fun c h => fz_c (by omega), fun k h => fz_k h, rfl, rfl⟩, ⟨rfl, rfl, rfl, fun p hp => absurd hp (Nat.not_lt_zero _), fun p hp => absurd hp (Nat.not_lt_zero _), fun p hp => absurd hp (Nat.not_lt_zero _), rfl, rfl, rfl⟩⟩
  rw [fz_c (by decide)]
  exact H.2 j (by omega)
section
variable (d : Nat → Nat → Int32) (L : Nat → Nat → Int64) {T : Nat → Nat} {n : Nat}
/- a number that is no number of bytes -/
set_option maxRecDepth 100000 in
set_option maxHeartbeats 1600000 in
theorem k_fairX {m : Nat} {x : Int32} (hx : x < 0 ∨ nI m < x) (H : d 112 11 = nI m) : Cn mX12_fair false 8 0 0 [.ref 112, .int x] (W0 d L) (fun q h => q = some (.int 0) ∧ h = W0 (up2 (up2 d 112 0 0) 112 0 1) L) := by
  have at22 : Ex mX12_fair false 8 0 0 22 [some (.ref 112), some (.int x), none] [.ref 112] (W0 (up2 d 112 0 0) L) (fun q h => q = some (.int 0) ∧ h = W0 (up2 (up2 d 112 0 0) 112 0 1) L) nX := by
    repeat refine x_s rfl rfl ?_
    refine x_cv (k_right (up2 d 112 0 0) L rfl false 1 (by decide)) rfl rfl rfl (by decide) rfl (by decide) rfl (Nat.le_of_ble_eq_true rfl) (by decide) (by decide) (by decide) ?_
    rintro _ _ ⟨rfl, rfl⟩
    refine x_br rfl rfl (fun c => absurd c (fun z => z rfl)) (fun c => ?_)
    repeat refine x_s rfl rfl ?_
    exact x_iret rfl rfl rfl ⟨rfl, rfl⟩
  refine Cn.intro gX12_fair rfl (Nat.le_of_ble_eq_true rfl) rfl ?_
  repeat refine x_s rfl rfl ?_
  refine x_put rfl rfl (by decide) rfl ⟨rfl, rfl⟩ (Or.inl rfl) ?_
  repeat refine x_s rfl rfl ?_
  refine x_br rfl rfl (fun c1 => ?_) (fun c1 => ?_)
  · exact at22
  · repeat refine x_s rfl rfl ?_
    have e : up2 d 112 0 0 112 11 = nI m := H
    rw [e]
    refine x_br rfl rfl (fun c => ?_) (fun c => absurd c (fun z => z (hx.resolve_left c1)))
    exact at22
set_option maxRecDepth 100000 in
set_option maxHeartbeats 1600000 in
theorem k_fairGood {R : (Nat × Nat) ⊕ Dr} {d2 : Nat → Nat → Int32} {L2 : Nat → Nat → Int64} {D : Dr} {top : Nat} {o2 : Option Value} (G : NG d d2) (mL : ML L L2) (h60 : d 116 6 = 60) (h13 : d2 112 13 = -1) (HD : HDM d2 D top) (ht : top ≤ 1400) (dg : DG D) (hR : R = .inr D) : Ex mX12_fair false 8 0 0 134 [some (.ref 112), some (.int (nI n)), o2] [] (W0 d2 L2) (qFM d L R) nX := by
  obtain ⟨b1, b2, b3, b4, b5, b6, b7, b8, b9⟩ := HD
  have r0 := dg.1.1
  have r4 := dg.1.2.1
  have r9 := dg.1.2.2.1
  simp only at r0 r4 r9
  repeat refine x_s rfl rfl ?_
  refine x_put rfl rfl (by decide) rfl ⟨rfl, rfl⟩ (Or.inl rfl) ?_
  repeat refine x_s rfl rfl ?_
  refine x_put rfl rfl (by decide) rfl ⟨rfl, rfl⟩ (Or.inl rfl) ?_
  repeat refine x_s rfl rfl ?_
  refine x_put rfl rfl (by decide) rfl ⟨rfl, rfl⟩ (Or.inl rfl) ?_
  repeat refine x_s rfl rfl ?_
  refine x_put rfl rfl (by decide) rfl ⟨rfl, rfl⟩ (Or.inl rfl) ?_
  iterate 2 refine x_s rfl rfl ?_
  have a1 : up2 (up2 (up2 (up2 d2 112 1 (d2 112 23)) 112 2 (d2 112 24)) 112 3 (d2 112 26)) 112 4 (d2 112 27) 112 1 = nI (D.1 0 0) := b1
  have a2 : up2 (up2 (up2 (up2 d2 112 1 (d2 112 23)) 112 2 (d2 112 24)) 112 3 (d2 112 26)) 112 4 (d2 112 27) 112 2 = nI (D.1 4 0) := b2
  have a3 : up2 (up2 (up2 (up2 d2 112 1 (d2 112 23)) 112 2 (d2 112 24)) 112 3 (d2 112 26)) 112 4 (d2 112 27) 112 3 = d2 112 26 := rfl
  have a4 : up2 (up2 (up2 (up2 d2 112 1 (d2 112 23)) 112 2 (d2 112 24)) 112 3 (d2 112 26)) 112 4 (d2 112 27) 112 4 = d2 112 27 := rfl
  have ak : ∀ k, k = 0 ∨ 4 < k → up2 (up2 (up2 (up2 d2 112 1 (d2 112 23)) 112 2 (d2 112 24)) 112 3 (d2 112 26)) 112 4 (d2 112 27) 112 k = d2 112 k := fun k hk => by
    rw [up2_k (by omega), up2_k (by omega), up2_k (by omega), up2_k (by omega)]
  have ac : ∀ c, ¬ c = 112 → up2 (up2 (up2 (up2 d2 112 1 (d2 112 23)) 112 2 (d2 112 24)) 112 3 (d2 112 26)) 112 4 (d2 112 27) c = d2 c := fun c hc => by
    rw [up2_ne hc, up2_ne hc, up2_ne hc, up2_ne hc]
  refine (show Ex _ _ _ _ _ _ _ _ (W0 (up2 (up2 (up2 (up2 d2 112 1 (d2 112 23)) 112 2 (d2 112 24)) 112 3 (d2 112 26)) 112 4 (d2 112 27)) L2) _ _ from ?_)
  generalize up2 (up2 (up2 (up2 d2 112 1 (d2 112 23)) 112 2 (d2 112 24)) 112 3 (d2 112 26)) 112 4 (d2 112 27) = dA at a1 a2 a3 a4 ak ac ⊢
  have lpA : ∀ Q : xPost, (∀ dB, sm [113, 114, 115] dA dB → (∀ i, i < 10 → dB 113 i = d2 120 i ∧ dB 114 i = d2 121 i ∧ dB 115 i = d2 122 i) → Ex mX12_fair false 8 0 0 216 [some (.ref 112), some (.int (nI n)), some (.int (nI 10))] [] (W0 dB L2) Q nX) → ∀ j, j ≤ 10 → ∀ dB, sm [113, 114, 115] dA dB → (∀ i, i < j → dB 113 i = d2 120 i ∧ dB 114 i = d2 121 i ∧ dB 115 i = d2 122 i) → Ex mX12_fair false 8 0 0 168 [some (.ref 112), some (.int (nI n)), some (.int (nI j))] [] (W0 dB L2) Q nX := by
    intro Q KQ
    refine x_down _ ?_ ?_
    · intro dB sB vB
      repeat refine x_s rfl rfl ?_
      refine x_br rfl rfl (fun c => ?_) (fun c => absurd c (fun z => z (Int32.le_refl _)))
      exact KQ dB sB vB
    · intro j hj ih dB sB vB
      repeat refine x_s rfl rfl ?_
      refine x_br rfl rfl (fun c => absurd c (nI_ge hj (by decide))) (fun c => ?_)
      repeat refine x_s rfl rfl ?_
      refine x_ald rfl rfl rfl (k := j) (rfl) (by omega) (by decide) rfl ?_
      repeat refine x_s rfl rfl ?_
      refine x_iast rfl rfl (k := j) (rfl) (by omega) (by decide) rfl ?_
      repeat refine x_s rfl rfl ?_
      refine x_ald rfl rfl rfl (k := j) (rfl) (by omega) (by decide) rfl ?_
      repeat refine x_s rfl rfl ?_
      refine x_iast rfl rfl (k := j) (rfl) (by omega) (by decide) rfl ?_
      repeat refine x_s rfl rfl ?_
      refine x_ald rfl rfl rfl (k := j) (rfl) (by omega) (by decide) rfl ?_
      repeat refine x_s rfl rfl ?_
      refine x_iast rfl rfl (k := j) (rfl) (by omega) (by decide) rfl ?_
      iterate 2 refine x_s rfl rfl ?_
      rw [nI_1]
      have e0 : dB 120 j = d2 120 j := by rw [sB 120 (by decide), ac 120 (by decide)]
      have e1 : up2 dB 113 j (dB 120 j) 121 j = d2 121 j := by rw [up2_ne (by decide), sB 121 (by decide), ac 121 (by decide)]
      have e2 : up2 (up2 dB 113 j (dB 120 j)) 114 j (up2 dB 113 j (dB 120 j) 121 j) 122 j = d2 122 j := by rw [up2_ne (by decide), up2_ne (by decide), sB 122 (by decide), ac 122 (by decide)]
      refine ih _ (sm_up (sm_up (sm_up sB (by decide)) (by decide)) (by decide)) (fun i hi => ?_)
      rw [e2, e1, e0]
      by_cases e : i = j
      · subst e
        refine ⟨?_, ?_, up2_eq⟩
        · rw [up2_ne (by decide), up2_ne (by decide), up2_eq]
        · rw [up2_ne (by decide), up2_eq]
      · obtain ⟨v1, v2, v3⟩ := vB i (by omega)
        refine ⟨?_, ?_, ?_⟩
        · rw [up2_ne (by decide), up2_ne (by decide), up2_k e, v1]
        · rw [up2_ne (by decide), up2_k e, up2_ne (by decide), v2]
        · rw [up2_k e, up2_ne (by decide), up2_ne (by decide), v3]
  refine lpA _ ?_ 0 (Nat.zero_le _) dA sm_rfl (fun i hi => absurd hi (Nat.not_lt_zero _))
  intro dB sB vB
  iterate 2 refine x_s rfl rfl ?_
  have lpB : ∀ Q : xPost, (∀ dC, sm [116] dB dC → (∀ i, i < 6 → dC 116 i = d2 123 i) → dC 116 6 = dB 116 6 → Ex mX12_fair false 8 0 0 242 [some (.ref 112), some (.int (nI n)), some (.int (nI 6))] [] (W0 dC L2) Q nX) → ∀ j, j ≤ 6 → ∀ dC, sm [116] dB dC → (∀ i, i < j → dC 116 i = d2 123 i) → dC 116 6 = dB 116 6 → Ex mX12_fair false 8 0 0 218 [some (.ref 112), some (.int (nI n)), some (.int (nI j))] [] (W0 dC L2) Q nX := by
    intro Q KQ
    refine x_down _ ?_ ?_
    · intro dC sC vC v6
      repeat refine x_s rfl rfl ?_
      refine x_br rfl rfl (fun c => ?_) (fun c => absurd c (fun z => z (Int32.le_refl _)))
      exact KQ dC sC vC v6
    · intro j hj ih dC sC vC v6
      repeat refine x_s rfl rfl ?_
      refine x_br rfl rfl (fun c => absurd c (nI_ge hj (by decide))) (fun c => ?_)
      repeat refine x_s rfl rfl ?_
      refine x_ald rfl rfl rfl (k := j) (rfl) (by omega) (by decide) rfl ?_
      repeat refine x_s rfl rfl ?_
      refine x_iast rfl rfl (k := j) (rfl) (by omega) (by decide) rfl ?_
      iterate 2 refine x_s rfl rfl ?_
      rw [nI_1]
      have e0 : dC 123 j = d2 123 j := by rw [sC 123 (by decide), sB 123 (by decide), ac 123 (by decide)]
      refine ih _ (sm_up sC (by decide)) (fun i hi => ?_) ?_
      · rw [e0]
        by_cases e : i = j
        · subst e
          exact up2_eq
        · rw [up2_k e]
          exact vC i (by omega)
      · rw [up2_k (by omega)]
        exact v6
  refine lpB _ ?_ 0 (Nat.zero_le _) dB sm_rfl (fun i hi => absurd hi (Nat.not_lt_zero _)) rfl
  intro dC sC vC v6
  repeat refine x_s rfl rfl ?_
  refine x_cv (k_copies125_117 dC L2) rfl rfl rfl (by decide) rfl (by decide) rfl (Nat.le_of_ble_eq_true rfl) (by decide) (by decide) (by decide) ?_
  rintro _ _ ⟨rfl, dE, rfl, sE, vE⟩
  repeat refine x_s rfl rfl ?_
  refine x_iast rfl rfl (k := 0) (rfl) (by omega) (by decide) rfl ?_
  have kC : ∀ k, dE 112 k = dA 112 k := fun k => by rw [sE 112 (by decide), sC 112 (by decide), sB 112 (by decide)]
  rw [kC 25, ak 25 (by decide), b3]
  repeat refine x_s rfl rfl ?_
  refine x_cv (k_copies124_128 (up2 dE 124 0 (nI (D.1 9 0))) L2) rfl rfl rfl (by decide) rfl (by decide) rfl (Nat.le_of_ble_eq_true rfl) (by decide) (by decide) (by decide) ?_
  rintro _ _ ⟨rfl, dH, rfl, sH, vH⟩
  repeat refine x_s rfl rfl ?_
  refine x_put rfl rfl (by decide) rfl ⟨rfl, rfl⟩ (Or.inl rfl) ?_
  repeat refine x_s rfl rfl ?_
  refine x_put rfl rfl (by decide) rfl ⟨rfl, rfl⟩ (Or.inl rfl) ?_
  repeat refine x_s rfl rfl ?_
  refine x_put rfl rfl (by decide) rfl ⟨rfl, rfl⟩ (Or.inl rfl) ?_
  repeat refine x_s rfl rfl ?_
  have hc : ∀ c, c ∉ ([113, 114, 115, 116, 117, 124, 128] : List Nat) → dH c = dA c := fun c hc => by
    simp only [List.mem_cons, List.not_mem_nil, or_false, not_or] at hc
    rw [sH c (by simp only [List.mem_cons, List.not_mem_nil, or_false]; exact hc.2.2.2.2.2.2), up2_ne hc.2.2.2.2.2.1, sE c (by simp only [List.mem_cons, List.not_mem_nil, or_false]; exact hc.2.2.2.2.1), sC c (by simp only [List.mem_cons, List.not_mem_nil, or_false]; exact hc.2.2.2.1), sB c (by simp only [List.mem_cons, List.not_mem_nil, or_false, not_or]; exact ⟨hc.1, hc.2.1, hc.2.2.1⟩)]
  have hk : ∀ k, k ≠ 43 → k ≠ 56 → k ≠ 59 → up2 (up2 (up2 dH 112 43 0) 112 56 0) 112 59 0 112 k = dA 112 k := fun k h1 h2 h3 => by
    rw [up2_k h3, up2_k h2, up2_k h1, hc 112 (by decide)]
  have hq : ∀ c, ¬ c = 112 → up2 (up2 (up2 dH 112 43 0) 112 56 0) 112 59 0 c = dH c := fun c h => by
    rw [up2_ne h, up2_ne h, up2_ne h]
  have z43 : up2 (up2 (up2 dH 112 43 0) 112 56 0) 112 59 0 112 43 = nI 0 := rfl
  have z56 : up2 (up2 (up2 dH 112 43 0) 112 56 0) 112 59 0 112 56 = nI 0 := rfl
  have z59 : up2 (up2 (up2 dH 112 43 0) 112 56 0) 112 59 0 112 59 = 0 := rfl
  refine x_iret rfl rfl rfl ⟨up2 (up2 (up2 dH 112 43 0) 112 56 0) 112 59 0, L2, rfl, mL, Or.inr ⟨rfl, D, ?_⟩⟩
  generalize up2 (up2 (up2 dH 112 43 0) 112 56 0) 112 59 0 = dZ at hk hq z43 z56 z59 ⊢
  refine ⟨⟨fun c h => ?_, fun k h1 h2 h3 h4 => ?_, ?_, ?_, z43, z56, z59, ?_⟩, ⟨?_, ?_, fun p hp => ?_, fun m hm => ?_, ⟨?_, fun s hs => ?_, fun m hm => ?_⟩, ?_, ?_, ?_⟩, hR⟩
  · have hcc : c ∉ ([113, 114, 115, 116, 117, 124, 128] : List Nat) := by
      simp only [List.mem_cons, List.not_mem_nil, or_false]
      omega
    rw [hq c (by omega), hc c hcc, ac c (by omega)]
    exact G.1 c (by omega)
  · rw [hk k h2 h3 h4, ak k (by omega)]
    exact G.2.1 k (by omega)
  · rw [hk 0 (by decide) (by decide) (by decide), ak 0 (by decide)]
    exact G.2.2.1
  · rw [hk 11 (by decide) (by decide) (by decide), ak 11 (by decide)]
    exact G.2.2.2
  · rw [hk 13 (by decide) (by decide) (by decide), ak 13 (by decide)]
    exact h13
  · rw [hk 1 (by decide) (by decide) (by decide)]
    exact a1
  · rw [hk 2 (by decide) (by decide) (by decide)]
    exact a2
  · have hp' : p < D.1 0 0 := hp
    have e : ∀ c, ¬ c = 112 → c ∉ ([116, 117, 124, 128] : List Nat) → dZ c = dB c := fun c h0 h => by
      simp only [List.mem_cons, List.not_mem_nil, or_false, not_or] at h
      rw [hq c h0, sH c (by simp only [List.mem_cons, List.not_mem_nil, or_false]; exact h.2.2.2), up2_ne h.2.2.1, sE c (by simp only [List.mem_cons, List.not_mem_nil, or_false]; exact h.2.1), sC c (by simp only [List.mem_cons, List.not_mem_nil, or_false]; exact h.1)]
    obtain ⟨v1, v2, v3⟩ := vB p (by omega)
    rw [e 113 (by decide) (by decide), e 114 (by decide) (by decide), e 115 (by decide) (by decide), v1, v2, v3]
    exact b4 p hp'
  · have hm' : m < D.1 4 0 := hm
    rw [hq 116 (by decide), sH 116 (by decide), up2_ne (by decide), sE 116 (by decide), vC m (by omega)]
    exact (b5 m hm').2.2.1
  · rw [hq 128 (by decide), vH 0 (by decide), up2_eq]
  · have hs' : s < D.1 9 0 := hs
    have e : ∀ k, ¬ k = 0 → k < 67 → dZ 128 (0 + k) = d2 124 k := fun k h0 h => by
      rw [Nat.zero_add, hq 128 (by decide), vH k h, up2_k h0, sE 124 (by decide), sC 124 (by decide), sB 124 (by decide), ac 124 (by decide)]
    rw [e _ (by omega) (by omega), e _ (by omega) (by omega), e _ (by omega) (by omega)]
    exact b6 s hs'
  · have hm' : m < D.1 4 0 := hm
    have e : ∀ k, ¬ k = 0 → k < 67 → dZ 128 (0 + k) = d2 124 k := fun k h0 h => by
      rw [Nat.zero_add, hq 128 (by decide), vH k h, up2_k h0, sE 124 (by decide), sC 124 (by decide), sB 124 (by decide), ac 124 (by decide)]
    rw [e _ (by omega) (by omega), e _ (by omega) (by omega), e _ (by omega) (by omega)]
    obtain ⟨w1, w2, w3, w4⟩ := b5 m hm'
    exact ⟨w1, w2, w4⟩
  · refine RlM_17 b8 ht dg.2.1 ?_ (fun i hi => ?_)
    · rw [hk 3 (by decide) (by decide) (by decide), a3]
    · rw [hq 117 (by decide), sH 117 (by decide), up2_ne (by decide), vE i hi, sC 125 (by decide), sB 125 (by decide), ac 125 (by decide)]
  · refine RlM_20 b9 ht dg.2.2 ?_ (fun i hi => ?_)
    · rw [hk 4 (by decide) (by decide) (by decide), a4]
    · rw [hq 117 (by decide), sH 117 (by decide), up2_ne (by decide), vE i hi, sC 125 (by decide), sB 125 (by decide), ac 125 (by decide)]
  · rw [hq 116 (by decide), sH 116 (by decide), up2_ne (by decide), sE 116 (by decide), v6, sB 116 (by decide), ac 116 (by decide), G.1 116 (by decide)]
    exact h60
set_option maxRecDepth 100000 in
set_option maxHeartbeats 1600000 in
theorem k_fairLp {R : (Nat × Nat) ⊕ Dr} (hn : n ≤ 700) (hT : ∀ j, T j < 256) (h60 : d 116 6 = 60) (hdg : ∀ D, R = .inr D → DG D) : ∀ (N : Nat) (o2 : Option Value) (l : List Tk) (D : Dr) (top : Nat) (d2 : Nat → Nat → Int32) (L2 : Nat → Nat → Int64), l.length ≤ N → NG d d2 → ML L L2 → MT d2 L2 T n l → HDM d2 D top → DR D → d2 112 12 = nI 0 → top + 2 * l.length ≤ 1402 → l.length ≤ 701 → lns N l D = R → Ex mX12_fair false 8 0 0 91 [some (.ref 112), some (.int (nI n)), o2] [] (W0 d2 L2) (qFM d L R) nX := by
  have bad : ∀ (o2 : Option Value) (d2 : Nat → Nat → Int32) (L2 : Nat → Nat → Int64) (f : Nat × Nat), NG d d2 → ML L L2 → FM d2 f → R = .inl f → Ex mX12_fair false 8 0 0 112 [some (.ref 112), some (.int (nI n)), o2] [] (W0 d2 L2) (qFM d L R) nX := by
    intro o2 d2 L2 f G m2 F2 hr
    have fb := F2.2.2.1
    repeat refine x_s rfl rfl ?_
    refine x_cv (k_isGood d2 L2 F2.1 F2.2.2.2.1) rfl rfl rfl (by decide) rfl (by decide) rfl (Nat.le_of_ble_eq_true rfl) (by decide) (by decide) (by decide) ?_
    rintro _ _ ⟨rfl, rfl⟩
    rw [decide_eq_false (by omega)]
    refine x_br rfl rfl (fun c => absurd c (fun z => z rfl)) (fun c => ?_)
    repeat refine x_s rfl rfl ?_
    refine x_ald rfl rfl rfl (k := 0) (rfl) (by omega) (by decide) rfl ?_
    repeat refine x_s rfl rfl ?_
    refine x_iast rfl rfl (k := 0) (rfl) (by omega) (by decide) rfl ?_
    repeat refine x_s rfl rfl ?_
    have e : up2 d2 119 0 (d2 119 0 + 1) 112 12 = nI f.1 := F2.1
    rw [e]
    refine x_iret rfl rfl rfl ⟨_, L2, rfl, m2, Or.inl ⟨f, rfl, ⟨fun c h => ?_, fun k h => G.2.1 k h, G.2.2.1, G.2.2.2, ?_, fun k h => ?_⟩, F2.2.1, hr⟩⟩
    · exact (up2_ne (by omega)).trans (G.1 c (by omega))
    · rw [up2_eq, G.1 119 (by decide)]
    · rw [up2_k h, G.1 119 (by decide)]
  intro N
  induction N with
  | zero =>
    intro o2 l D top d2 L2 hN G m2 M2 H2 R2 g2 ht hl hr
    obtain ⟨s, k, v, r, rfl⟩ := MT_ne M2
    exact absurd hN (by simp)
  | succ N ih =>
    intro o2 l D top d2 L2 hN G m2 M2 H2 R2 g2 ht hl hr
    obtain ⟨s, k, v, r, rfl⟩ := MT_ne M2
    obtain ⟨f1, f2, f3, f4, f5, f6⟩ := MT_f M2
    have sl := srt_le k
    repeat refine x_s rfl rfl ?_
    refine x_cv (k_isGood d2 L2 g2 (by decide)) rfl rfl rfl (by decide) rfl (by decide) rfl (Nat.le_of_ble_eq_true rfl) (by decide) (by decide) (by decide) ?_
    rintro _ _ ⟨rfl, rfl⟩
    refine x_br rfl rfl (fun c => absurd c (fun z => absurd z (by decide))) (fun c => ?_)
    repeat refine x_s rfl rfl ?_
    rw [f2]
    by_cases hk : k = 0
    · subst hk
      refine x_br rfl rfl (fun c => ?_) (fun c => absurd c (fun z => z rfl))
      repeat refine x_s rfl rfl ?_
      refine x_cv (k_isGood d2 L2 g2 (by decide)) rfl rfl rfl (by decide) rfl (by decide) rfl (Nat.le_of_ble_eq_true rfl) (by decide) (by decide) (by decide) ?_
      rintro _ _ ⟨rfl, rfl⟩
      refine x_br rfl rfl (fun c => ?_) (fun c => absurd c (fun z => absurd z (by decide)))
      rw [lns_e] at hr
      have h13 : d2 112 13 = -1 := by
        obtain ⟨i, hi, e, hx⟩ := M2
        exact hx.1.2.2
      simp only [List.length_cons] at ht
      exact k_fairGood d L G m2 h60 h13 H2 (by omega) (hdg D hr.symm) hr.symm
    refine x_br rfl rfl (fun c => absurd c (fun z => hk ((srt_e (j := 0) (by omega)).mp ((nI_eq (by omega) (by decide)).mp z)))) (fun c => ?_)
    repeat refine x_s rfl rfl ?_
    simp only [List.length_cons] at ht hl hN
    refine x_cv (k_line d2 L2 (by omega) hT M2 H2 R2 g2 ht (by omega)) rfl rfl rfl (by decide) rfl (by decide) rfl (Nat.le_of_ble_eq_true rfl) (by decide) (by decide) (by decide) ?_
    rintro _ _ ⟨rfl, d3, L3, rfl, N3, m3, hq⟩
    iterate 1 refine x_s rfl rfl ?_
    rcases hq with ⟨f, F3, e3⟩ | ⟨l', D', top', M3, H3, g3, t3, e3⟩
    · have fb := F3.2.2.1
      repeat refine x_s rfl rfl ?_
      refine x_cv (k_isGood d3 L3 F3.1 F3.2.2.2.1) rfl rfl rfl (by decide) rfl (by decide) rfl (Nat.le_of_ble_eq_true rfl) (by decide) (by decide) (by decide) ?_
      rintro _ _ ⟨rfl, rfl⟩
      rw [decide_eq_false (by omega)]
      refine x_br rfl rfl (fun c => ?_) (fun c => absurd c (fun z => z rfl))
      rw [lns_f hk e3] at hr
      exact bad o2 d3 L3 f (NG_NF G N3) (ML_tr m2 m3) F3 hr.symm
    · rw [lns_s hk e3] at hr
      have ll := line_len e3
      simp only [List.length_cons] at ll
      exact ih o2 l' D' top' d3 L3 (by omega) (NG_NF G N3) (ML_tr m2 m3) M3 H3 (line_DR R2 e3) g3 (by omega) (by omega) hr
set_option maxRecDepth 100000 in
set_option maxHeartbeats 1600000 in
theorem k_fair {R : (Nat × Nat) ⊕ Dr} {m : Nat} (hm : m ≤ 700) (hn : n ≤ m) (hT : ∀ j, T j < 256) (H : HTM d m T) (h60 : d 116 6 = 60) (hR : lns 702 (TL T n 0) Dz = R) (hdg : ∀ D, R = .inr D → DG D) : Cn mX12_fair false 8 0 0 [.ref 112, .int (nI n)] (W0 d L) (qFM d L R) := by
  refine Cn.intro gX12_fair rfl (Nat.le_of_ble_eq_true rfl) rfl ?_
  repeat refine x_s rfl rfl ?_
  refine x_put rfl rfl (by decide) rfl ⟨rfl, rfl⟩ (Or.inl rfl) ?_
  repeat refine x_s rfl rfl ?_
  refine x_br rfl rfl (fun c => absurd c (fun z => absurd z (nI_pos (by omega)))) (fun c => ?_)
  repeat refine x_s rfl rfl ?_
  have e : up2 d 112 0 0 112 11 = nI m := H.1
  rw [e]
  refine x_br rfl rfl (fun c => absurd c (fun z => absurd z (Int32.not_lt.mpr (nI_le hn (by omega))))) (fun c => ?_)
  repeat refine x_s rfl rfl ?_
  refine x_cv (k_right (up2 d 112 0 0) L rfl true 1 (by decide)) rfl rfl rfl (by decide) rfl (by decide) rfl (Nat.le_of_ble_eq_true rfl) (by decide) (by decide) (by decide) ?_
  rintro _ _ ⟨rfl, rfl⟩
  rw [if_pos (show true = true from rfl)]
  refine x_br rfl rfl (fun c => ?_) (fun c => absurd c (fun z => absurd z (by decide)))
  repeat refine x_s rfl rfl ?_
  refine x_put rfl rfl (by decide) rfl ⟨rfl, rfl⟩ (Or.inl rfl) ?_
  refine (show Ex _ _ _ _ _ _ _ _ (W0 (up2 (up2 d 112 0 0) 112 11 0) L) _ _ from ?_)
  repeat refine x_s rfl rfl ?_
  refine x_put rfl rfl (by decide) rfl ⟨rfl, rfl⟩ (Or.inl rfl) ?_
  refine (show Ex _ _ _ _ _ _ _ _ (W0 (up2 (up2 (up2 d 112 0 0) 112 11 0) 112 13 (-1)) L) _ _ from ?_)
  repeat refine x_s rfl rfl ?_
  refine x_put rfl rfl (by decide) rfl ⟨rfl, rfl⟩ (Or.inl rfl) ?_
  refine (show Ex _ _ _ _ _ _ _ _ (W0 (up2 (up2 (up2 (up2 d 112 0 0) 112 11 0) 112 13 (-1)) 112 12 0) L) _ _ from ?_)
  repeat refine x_s rfl rfl ?_
  refine x_put rfl rfl (by decide) rfl ⟨rfl, rfl⟩ (Or.inl rfl) ?_
  refine (show Ex _ _ _ _ _ _ _ _ (W0 (up2 (up2 (up2 (up2 (up2 d 112 0 0) 112 11 0) 112 13 (-1)) 112 12 0) 112 15 (nI n)) L) _ _ from ?_)
  repeat refine x_s rfl rfl ?_
  refine x_put rfl rfl (by decide) rfl ⟨rfl, rfl⟩ (Or.inl rfl) ?_
  refine (show Ex _ _ _ _ _ _ _ _ (W0 (up2 (up2 (up2 (up2 (up2 (up2 d 112 0 0) 112 11 0) 112 13 (-1)) 112 12 0) 112 15 (nI n)) 112 16 0) L) _ _ from ?_)
  repeat refine x_s rfl rfl ?_
  refine x_put rfl rfl (by decide) rfl ⟨rfl, rfl⟩ (Or.inl rfl) ?_
  refine (show Ex _ _ _ _ _ _ _ _ (W0 (up2 (up2 (up2 (up2 (up2 (up2 (up2 d 112 0 0) 112 11 0) 112 13 (-1)) 112 12 0) 112 15 (nI n)) 112 16 0) 112 23 0) L) _ _ from ?_)
  repeat refine x_s rfl rfl ?_
  refine x_put rfl rfl (by decide) rfl ⟨rfl, rfl⟩ (Or.inl rfl) ?_
  refine (show Ex _ _ _ _ _ _ _ _ (W0 (up2 (up2 (up2 (up2 (up2 (up2 (up2 (up2 d 112 0 0) 112 11 0) 112 13 (-1)) 112 12 0) 112 15 (nI n)) 112 16 0) 112 23 0) 112 24 0) L) _ _ from ?_)
  repeat refine x_s rfl rfl ?_
  refine x_put rfl rfl (by decide) rfl ⟨rfl, rfl⟩ (Or.inl rfl) ?_
  refine (show Ex _ _ _ _ _ _ _ _ (W0 (up2 (up2 (up2 (up2 (up2 (up2 (up2 (up2 (up2 d 112 0 0) 112 11 0) 112 13 (-1)) 112 12 0) 112 15 (nI n)) 112 16 0) 112 23 0) 112 24 0) 112 25 0) L) _ _ from ?_)
  repeat refine x_s rfl rfl ?_
  refine x_put rfl rfl (by decide) rfl ⟨rfl, rfl⟩ (Or.inl rfl) ?_
  refine (show Ex _ _ _ _ _ _ _ _ (W0 (up2 (up2 (up2 (up2 (up2 (up2 (up2 (up2 (up2 (up2 d 112 0 0) 112 11 0) 112 13 (-1)) 112 12 0) 112 15 (nI n)) 112 16 0) 112 23 0) 112 24 0) 112 25 0) 112 26 (-1)) L) _ _ from ?_)
  repeat refine x_s rfl rfl ?_
  refine x_put rfl rfl (by decide) rfl ⟨rfl, rfl⟩ (Or.inl rfl) ?_
  refine (show Ex _ _ _ _ _ _ _ _ (W0 (up2 (up2 (up2 (up2 (up2 (up2 (up2 (up2 (up2 (up2 (up2 d 112 0 0) 112 11 0) 112 13 (-1)) 112 12 0) 112 15 (nI n)) 112 16 0) 112 23 0) 112 24 0) 112 25 0) 112 26 (-1)) 112 27 (-1)) L) _ _ from ?_)
  repeat refine x_s rfl rfl ?_
  refine x_put rfl rfl (by decide) rfl ⟨rfl, rfl⟩ (Or.inl rfl) ?_
  refine (show Ex _ _ _ _ _ _ _ _ (W0 (up2 (up2 (up2 (up2 (up2 (up2 (up2 (up2 (up2 (up2 (up2 (up2 d 112 0 0) 112 11 0) 112 13 (-1)) 112 12 0) 112 15 (nI n)) 112 16 0) 112 23 0) 112 24 0) 112 25 0) 112 26 (-1)) 112 27 (-1)) 112 28 0) L) _ _ from ?_)
  repeat refine x_s rfl rfl ?_
  obtain ⟨X1, x16, g1, G1, H1⟩ := fz_f (d := d) (n := n) H hn
  refine (show Ex _ _ _ _ _ _ _ _ (W0 (fz d n) L) _ _ from ?_)
  generalize fz d n = d1 at X1 x16 g1 G1 H1 ⊢
  refine x_cv (k_go d1 L (i := 0) (by omega) (Nat.zero_le _) hT X1 x16) rfl rfl rfl (by decide) rfl (by decide) rfl (Nat.le_of_ble_eq_true rfl) (by omega) (by decide) (by decide) ?_
  rintro _ _ ⟨rfl, d2, L2, rfl, F2, m2, X2⟩
  exact k_fairLp d L (by omega) hT h60 hdg 702 none (TL T n 0) Dz 0 d2 L2 (by have := TL_len (T := T) (n := n) 0; omega) (NG_NF G1 (NF_MF F2)) m2 ⟨0, Nat.zero_le _, rfl, X2⟩ (HDM_MF H1 F2) ⟨DG_z.1, trivial⟩ ((F2.2 12 (by decide)).trans g1) (by have := TL_len (T := T) (n := n) 0; omega) (by have := TL_len (T := T) (n := n) 0; omega) hR
end
