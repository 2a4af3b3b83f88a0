/-! THE INVARIANT under the other calls -/
section
variable {d d1 d2 : Nat → Nat → Int32} {F : Fr} {n m : Nat} {E : Ac} {G : Gs} {Z : Sn} {T : Nat → Nat} {I : Im}
theorem ICi_k {k : Nat} {x : Int32} (H : ICi d I) (hk : ¬ k = 13) : ICi (up2 d 0 k x) I := by
  have e : ∀ c, ¬ c = 0 → up2 d 0 k x c = d c := fun c hc => up2_ne hc
  cases I with
  | none =>
    unfold ICi at H ⊢
    rw [up2_k (fun z => hk z.symm)]
    exact H
  | some q =>
    obtain ⟨f, n, E, G, Z⟩ := q
    obtain ⟨h1, h2, h3, h4⟩ := H
    exact ⟨by rw [up2_k (fun z => hk z.symm)]; exact h1, h2, h3, h4⟩
theorem IC_k {k : Nat} {x : Int32} (R : RG F) (H : IC d F n E Z m T I) (hk : ¬ k = 13) : IC (up2 d 0 k x) F n E Z m T I := by
  obtain ⟨h1, h2, h3, h4, h5, h6⟩ := H
  have t : sm [0] d (up2 d 0 k x) := sm_up sm_rfl (by decide)
  exact ⟨HC_sm h1 t (by decide), HW_sm R h2 t (by decide), HAc_sm h3 t (by decide), HZ_sm h4 t (by decide), HT_sm h5 t (by decide) (by decide), ICi_k h6 hk⟩
/-- both sides count a text or an act that was refused -/
theorem LI_fail {k : Nat} (H : LI d) (hk : k < 3) : LI (up2 (up2 (up2 d 0 (15 + k) (d 0 (15 + k) + 1)) 112 0 0) 119 k (d 119 k + 1)) := by
  obtain ⟨F, n, E, G, Z, m, T, I, a, b, c, e⟩ := H
  have a1 := IC_k (k := 15 + k) (x := d 0 (15 + k) + 1) c.1 a (by omega)
  have b1 : IMm (up2 d 0 (15 + k) (d 0 (15 + k) + 1)) F n G Z m T I := IMm_sm b (fun c hc => up2_ne (by omega))
  have b2 := IMm_mS c.1 b1 (mS_0 0)
  refine ⟨F, n, E, G, Z, m, T, I, ?_, ?_, c, fun j hj => ?_, ?_⟩
  · exact IC_sm (S := [119]) c.1 (IC_sm (S := [112]) c.1 a1 (sm_up sm_rfl (by decide)) (by decide)) (sm_up sm_rfl (by decide)) (by decide)
  · generalize up2 (up2 d 0 (15 + k) (d 0 (15 + k) + 1)) 112 0 0 = d3 at b2 ⊢
    obtain ⟨h1, h2, h3, h4, h5, h6⟩ := b2
    have t : ∀ c, ¬ c = 119 → up2 d3 119 k (d 119 k + 1) c = d3 c := fun c hc => up2_ne hc
    refine ⟨?_, h2, HGM_c h3 (t 129 (by decide)), h4, h5, IMi_e h6 (fun c hc => t c ?_) rfl rfl rfl⟩
    · unfold HB RowM RlM at h1 ⊢
      rw [t 112 (by decide), t 113 (by decide), t 114 (by decide), t 115 (by decide), t 116 (by decide), t 117 (by decide), t 128 (by decide)]
      exact h1
    · rintro rfl
      exact absurd hc (by decide)
  · rw [show up2 (up2 (up2 d 0 (15 + k) (d 0 (15 + k) + 1)) 112 0 0) 119 k (d 119 k + 1) 0 (15 + j) = up2 d 0 (15 + k) (d 0 (15 + k) + 1) 0 (15 + j) from rfl]
    by_cases h : j = k
    · subst h
      rw [up2_eq, up2_eq, e.1 j hk]
    · rw [up2_k h, up2_k (by omega)]
      exact e.1 j hj
  · rw [show up2 (up2 (up2 d 0 (15 + k) (d 0 (15 + k) + 1)) 112 0 0) 119 k (d 119 k + 1) 0 14 = up2 d 0 (15 + k) (d 0 (15 + k) + 1) 0 14 from rfl, up2_k (by omega)]
    exact e.2
/-- bytes are fed -/
theorem LI_feed {m' : Nat} {T' : Nat → Nat} (a : IC d F n E Z m T I) (b : IMm d F n G Z m T I) (c : IP F n E G Z m T I) (j : IJ d) (h1 : sm [1, 2] d d1) (c1 : HT d1 m' T') (h2 : ∀ c, c ≠ 112 → c ≠ 118 → d2 c = d1 c) (h3 : ∀ k, k ≠ 0 → k ≠ 11 → d2 112 k = d1 112 k) (m1 : HTM d2 m' T') (hm : m' ≤ 700) (hT : ∀ j, T' j < 256) : LI d2 := by
  obtain ⟨a1, a2, a3, a4, a5, a6⟩ := a
  obtain ⟨b1, b2, b3, b4, b5, b6⟩ := b
  obtain ⟨p1, p2, p3, p4, p5, p6, p7⟩ := c
  have t : sm [112, 118] d1 d2 := fun c hc => by
    simp only [List.mem_cons, List.not_mem_nil, or_false, not_or] at hc
    exact h2 c hc.1 hc.2
  have hi : ∀ c, 112 ≤ c → d1 c = d c := fun c hc => h1 c (by
    simp only [List.mem_cons, List.not_mem_nil, or_false]
    omega)
  have hc' : ∀ c, 112 < c → ¬ c = 118 → d2 c = d c := fun c x y => (h2 c (by omega) y).trans (hi c (by omega))
  have hk' : ∀ k, k ≠ 0 → k ≠ 11 → d2 112 k = d 112 k := fun k x y => (h3 k x y).trans (congrFun (hi 112 (by decide)) k)
  refine ⟨F, n, E, G, Z, m', T', I, ⟨HC_sm (HC_sm a1 h1 (by decide)) t (by decide), HW_sm p1 (HW_sm p1 a2 h1 (by decide)) t (by decide), HAc_sm (HAc_sm a3 h1 (by decide)) t (by decide), HZ_sm (HZ_sm a4 h1 (by decide)) t (by decide), HT_sm c1 t (by decide) (by decide), ICi_sm (ICi_sm a6 h1 (by decide)) t (by decide)⟩, ⟨?_, (hk' 43 (by decide) (by decide)).trans b2, HGM_c b3 (hc' 129 (by decide) (by decide)), ?_, m1, ?_⟩, ⟨p1, p2, p3, p4, hm, hT, p7⟩, fun k hk => ?_, ?_⟩
  · unfold HB RowM RlM at b1 ⊢
    rw [hk' 1 (by decide) (by decide), hk' 2 (by decide) (by decide), hk' 3 (by decide) (by decide), hk' 4 (by decide) (by decide), hc' 113 (by decide) (by decide), hc' 114 (by decide) (by decide), hc' 115 (by decide) (by decide), hc' 116 (by decide) (by decide), hc' 117 (by decide) (by decide), hc' 128 (by decide) (by decide)]
    exact b1
  · unfold HZM at b4 ⊢
    rw [hk' 56 (by decide) (by decide), hc' 141 (by decide) (by decide)]
    exact b4
  · refine IMi_e b6 (fun c hc => ?_) (hk' 59 (by decide) (by decide)) (hk' 60 (by decide) (by decide)) (hk' 61 (by decide) (by decide))
    have q : c = 142 ∨ c = 143 ∨ c = 144 := by
      simpa [imM] using hc
    exact hc' c (by omega) (by omega)
  · rw [hc' 119 (by decide) (by decide), h2 0 (by decide) (by decide), h1 0 (by decide)]
    exact j.1 k hk
  · rw [hk' 13 (by decide) (by decide), h2 0 (by decide) (by decide), h1 0 (by decide)]
    exact j.2
/-- a seeing more, or none any more -/
theorem LI_see {Z' : Sn} (a : IC d F n E Z m T I) (b : IMm d F n G Z m T I) (c : IP F n E G Z m T I) (j : IJ d) (h1 : sm [86, 87, 88, 89] d d1) (c1 : HZ d1 Z') (h2 : ∀ c, c ≠ 112 → c ≠ 141 → d2 c = d1 c) (h3 : ∀ k, k ≠ 0 → k ≠ 56 → d2 112 k = d1 112 k) (m1 : HZM d2 Z') (hZ : RZ F Z') : LI d2 := by
  obtain ⟨a1, a2, a3, a4, a5, a6⟩ := a
  obtain ⟨b1, b2, b3, b4, b5, b6⟩ := b
  obtain ⟨p1, p2, p3, p4, p5, p6, p7⟩ := c
  have t : sm [112, 141] d1 d2 := fun c hc => by
    simp only [List.mem_cons, List.not_mem_nil, or_false, not_or] at hc
    exact h2 c hc.1 hc.2
  have hi : ∀ c, 112 ≤ c → d1 c = d c := fun c hc => h1 c (by
    simp only [List.mem_cons, List.not_mem_nil, or_false]
    omega)
  have hc' : ∀ c, 112 < c → ¬ c = 141 → d2 c = d c := fun c x y => (h2 c (by omega) y).trans (hi c (by omega))
  have hk' : ∀ k, k ≠ 0 → k ≠ 56 → d2 112 k = d 112 k := fun k x y => (h3 k x y).trans (congrFun (hi 112 (by decide)) k)
  refine ⟨F, n, E, G, Z', m, T, I, ⟨HC_sm (HC_sm a1 h1 (by decide)) t (by decide), HW_sm p1 (HW_sm p1 a2 h1 (by decide)) t (by decide), HAc_sm (HAc_sm a3 h1 (by decide)) t (by decide), HZ_sm c1 t (by decide), HT_sm (HT_sm a5 h1 (by decide) (by decide)) t (by decide) (by decide), ICi_sm (ICi_sm a6 h1 (by decide)) t (by decide)⟩, ⟨?_, (hk' 43 (by decide) (by decide)).trans b2, HGM_c b3 (hc' 129 (by decide) (by decide)), m1, ?_, ?_⟩, ⟨p1, p2, p3, hZ, p5, p6, p7⟩, fun k hk => ?_, ?_⟩
  · unfold HB RowM RlM at b1 ⊢
    rw [hk' 1 (by decide) (by decide), hk' 2 (by decide) (by decide), hk' 3 (by decide) (by decide), hk' 4 (by decide) (by decide), hc' 113 (by decide) (by decide), hc' 114 (by decide) (by decide), hc' 115 (by decide) (by decide), hc' 116 (by decide) (by decide), hc' 117 (by decide) (by decide), hc' 128 (by decide) (by decide)]
    exact b1
  · unfold HTM at b5 ⊢
    rw [hk' 11 (by decide) (by decide), hc' 118 (by decide) (by decide)]
    exact b5
  · refine IMi_e b6 (fun c hc => ?_) (hk' 59 (by decide) (by decide)) (hk' 60 (by decide) (by decide)) (hk' 61 (by decide) (by decide))
    have q : c = 142 ∨ c = 143 ∨ c = 144 := by
      simpa [imM] using hc
    exact hc' c (by omega) (by omega)
  · rw [hc' 119 (by decide) (by decide), h2 0 (by decide) (by decide), h1 0 (by decide)]
    exact j.1 k hk
  · rw [hk' 13 (by decide) (by decide), h2 0 (by decide) (by decide), h1 0 (by decide)]
    exact j.2
end
