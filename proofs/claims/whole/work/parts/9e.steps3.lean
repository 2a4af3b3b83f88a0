/-! THE INVARIANT under image, restore, fair -/
theorem RowM_cp {d d' : Nat → Nat → Int32} {c c' o o' : Nat} {f : Nat → Nat → Nat} (H : RowM d c o f) (h9 : f 9 0 ≤ 16) (h4 : f 4 0 ≤ 6) (h : ∀ k, k < 67 → d' c' (o' + k) = d c (o + k)) : RowM d' c' o' f := by
  obtain ⟨a1, a2, a3⟩ := H
  refine ⟨?_, fun s hs => ?_, fun n hn => ?_⟩
  · have := h 0 (by decide)
    rw [Nat.add_zero, Nat.add_zero] at this
    exact this.trans a1
  · rw [h _ (by omega), h _ (by omega), h _ (by omega)]
    exact a2 s hs
  · rw [h _ (by omega), h _ (by omega), h _ (by omega)]
    exact a3 n hn
section
variable {d d1 d2 : Nat → Nat → Int32} {F : Fr} {n m : Nat} {E : Ac} {G : Gs} {Z : Sn} {T : Nat → Nat} {I : Im}
theorem LI_image (a : IC d F n E Z m T I) (b : IMm d F n G Z m T I) (c : IP F n E G Z m T I) (j : IJ d)
    (h1 : ∀ c, c ∉ 0 :: [90, 91, 92, 93, 94, 95, 96, 97, 98, 99, 100, 101, 102, 103, 104, 105, 106, 107] → d1 c = d c) (h2 : ∀ k, k ≠ 13 → d1 0 k = d 0 k) (h3 : d1 0 13 = 1) (h4 : HIf d1 F.1) (h5 : HAc d1 99 n E) (h6 : HZb d1 104 Z)
    (g1 : ∀ c, c ∉ [112, 142, 143, 144] → d2 c = d1 c) (g2 : ∀ k, k ∉ [0, 59, 60, 61] → d2 112 k = d1 112 k) (g3 : d2 112 59 = 1) (g4 : d2 112 60 = d1 112 43) (g5 : d2 112 61 = d1 112 56) (g6 : ∀ k, k < 67 → d2 142 k = d1 128 k) (g7 : ∀ k, k < 2680 → d2 143 k = d1 129 k) (g8 : ∀ k, k < 24 → d2 144 k = d1 141 k) : LI d2 := by
  obtain ⟨a1, a2, a3, a4, a5, a6⟩ := a
  obtain ⟨b1, b2, b3, b4, b5, b6⟩ := b
  obtain ⟨p1, p2, p3, p4, p5, p6, p7⟩ := c
  have r4 := p1.2.1
  have r9 := p1.2.2.1
  have t1 : sm (0 :: [90, 91, 92, 93, 94, 95, 96, 97, 98, 99, 100, 101, 102, 103, 104, 105, 106, 107]) d d1 := h1
  have t2 : sm [112, 142, 143, 144] d1 d2 := g1
  have hi : ∀ c, 112 ≤ c → d1 c = d c := fun c hc => h1 c (by
    simp only [List.mem_cons, List.not_mem_nil, or_false]
    omega)
  have hc' : ∀ c, c ∉ [112, 142, 143, 144] → 112 ≤ c → d2 c = d c := fun c x y => (g1 c x).trans (hi c y)
  have hk' : ∀ k, k ∉ [0, 59, 60, 61] → d2 112 k = d 112 k := fun k x => (g2 k x).trans (congrFun (hi 112 (by decide)) k)
  refine ⟨F, n, E, G, Z, m, T, some (F.1, n, E, G, Z), ⟨HC_sm (HC_sm a1 t1 (by decide)) t2 (by decide), HW_sm p1 (HW_sm p1 a2 t1 (by decide)) t2 (by decide), HAc_sm (HAc_sm a3 t1 (by decide)) t2 (by decide), HZ_sm (HZ_sm a4 t1 (by decide)) t2 (by decide), HT_sm (HT_sm a5 t1 (by decide) (by decide)) t2 (by decide) (by decide), ICi_sm (I := some (F.1, n, E, G, Z)) ⟨h3, h4, h5, h6⟩ t2 (by decide)⟩, ⟨?_, (hk' 43 (by decide)).trans b2, HGM_c b3 (hc' 129 (by decide) (by decide)), ?_, ?_, g3, ?_, ?_, fun q hq => ?_, ?_, fun i hi' => ?_⟩, ⟨p1, p2, p3, p4, p5, p6, p1, sF0_rfl, p2, p3, p4⟩, fun k hk => ?_, ?_⟩
  · unfold HB RowM RlM at b1 ⊢
    rw [hk' 1 (by decide), hk' 2 (by decide), hk' 3 (by decide), hk' 4 (by decide), hc' 113 (by decide) (by decide), hc' 114 (by decide) (by decide), hc' 115 (by decide) (by decide), hc' 116 (by decide) (by decide), hc' 117 (by decide) (by decide), hc' 128 (by decide) (by decide)]
    exact b1
  · unfold HZM at b4 ⊢
    rw [hk' 56 (by decide), hc' 141 (by decide) (by decide)]
    exact b4
  · unfold HTM at b5 ⊢
    rw [hk' 11 (by decide), hc' 118 (by decide) (by decide)]
    exact b5
  · refine RowM_cp b1.2.2.2.2.1 r9 r4 (fun k hk => ?_)
    rw [Nat.zero_add, g6 k hk, hi 128 (by decide)]
  · rw [g4, hi 112 (by decide)]
    exact b2
  · obtain ⟨x1, x2, x3⟩ := b3 q hq
    refine ⟨RowM_cp x1 x2 x3 (fun k hk => ?_), x2, x3⟩
    rw [g7 _ (by omega), hi 129 (by decide)]
  · rw [g5, hi 112 (by decide)]
    exact b4.1
  · have z8 := p4.1
    rw [g8 _ (by omega), g8 _ (by omega), g8 _ (by omega), hi 141 (by decide)]
    exact b4.2 i hi'
  · rw [hc' 119 (by decide) (by decide), g1 0 (by decide), h2 _ (by omega)]
    exact j.1 k hk
  · rw [hk' 13 (by decide), g1 0 (by decide), h2 14 (by decide)]
    exact j.2
theorem LI_restore {f : Nat → Nat → Nat} {n' : Nat} {E' : Ac} {G' : Gs} {Z' : Sn} (a : IC d F n E Z m T (some (f, n', E', G', Z'))) (b : IMm d F n G Z m T (some (f, n', E', G', Z'))) (c : IP F n E G Z m T (some (f, n', E', G', Z'))) (j : IJ d)
    (h1 : sm (SR ++ [29, 30, 31, 32, 33, 34, 35, 36, 37, 81, 82, 83, 84, 85, 86, 87, 88, 89]) d d1) (h2 : HC d1 (f, F.2)) (h3 : HW d1 (f, F.2)) (h4 : HAc d1 81 n' E') (h5 : HZ d1 Z')
    (g1 : ∀ c, c ∉ [112, 128, 129, 141] → d2 c = d1 c) (g2 : ∀ k, k ∉ [0, 43, 56] → d2 112 k = d1 112 k) (g4 : d2 112 43 = d1 112 60) (g5 : d2 112 56 = d1 112 61) (g6 : ∀ k, k < 67 → d2 128 k = d1 142 k) (g7 : ∀ k, k < 2680 → d2 129 k = d1 143 k) (g8 : ∀ k, k < 24 → d2 141 k = d1 144 k) : LI d2 := by
  obtain ⟨a1, a2, a3, a4, a5, a6⟩ := a
  obtain ⟨b1, b2, b3, b4, b5, b6, b7, b8, b9, b10, b11⟩ := b
  obtain ⟨p1, p2, p3, p4, p5, p6, q1, q2, q3, q4, q5⟩ := c
  have r4 := q1.2.1
  have r9 := q1.2.2.1
  have t2 : sm [112, 128, 129, 141] d1 d2 := g1
  have hi : ∀ c, 112 ≤ c → d1 c = d c := fun c hc => h1 c (by
    simp only [SR, List.mem_cons, List.mem_append, List.not_mem_nil, or_false, List.cons_append, List.nil_append]
    omega)
  have hc' : ∀ c, c ∉ [112, 128, 129, 141] → 112 ≤ c → d2 c = d c := fun c x y => (g1 c x).trans (hi c y)
  have hk' : ∀ k, k ∉ [0, 43, 56] → d2 112 k = d 112 k := fun k x => (g2 k x).trans (congrFun (hi 112 (by decide)) k)
  refine ⟨(f, F.2), n', E', G', Z', m, T, some (f, n', E', G', Z'), ⟨HC_sm h2 t2 (by decide), HW_sm q1 h3 t2 (by decide), HAc_sm h4 t2 (by decide), HZ_sm h5 t2 (by decide), HT_sm (HT_sm a5 h1 (by decide) (by decide)) t2 (by decide) (by decide), ICi_sm (ICi_sm a6 h1 (by decide)) t2 (by decide)⟩, ⟨?_, ?_, fun q hq => ?_, ⟨?_, fun i hi' => ?_⟩, ?_, ?_⟩, ⟨q1, q3, q4, q5, p5, p6, q1, sF0_rfl, q3, q4, q5⟩, fun k hk => ?_, ?_⟩
  · obtain ⟨c1, c2, c3, c4, c5, c6, c7, c8⟩ := b1
    refine ⟨?_, ?_, fun p hp => ?_, fun q hq => ?_, ?_, ?_, ?_, ?_⟩
    · show d2 112 1 = nI (f 0 0)
      rw [hk' 1 (by decide), c1, show f 0 = F.1 0 from q2.1]
    · show d2 112 2 = nI (f 4 0)
      rw [hk' 2 (by decide), c2, show f 4 = F.1 4 from q2.2.2.2.2.1]
    · have hp' : p < f 0 0 := hp
      rw [show f 0 = F.1 0 from q2.1] at hp'
      rw [hc' 113 (by decide) (by decide), hc' 114 (by decide) (by decide), hc' 115 (by decide) (by decide)]
      show d 113 p = nI (f 1 p) ∧ d 114 p = nI (f 2 p) ∧ d 115 p = nI (f 3 p)
      rw [show f 1 = F.1 1 from q2.2.1, show f 2 = F.1 2 from q2.2.2.1, show f 3 = F.1 3 from q2.2.2.2.1]
      exact c3 p hp'
    · have hq' : q < f 4 0 := hq
      rw [show f 4 = F.1 4 from q2.2.2.2.2.1] at hq'
      rw [hc' 116 (by decide) (by decide)]
      show d 116 q = nI (f 7 q)
      rw [show f 7 = F.1 7 from q2.2.2.2.2.2]
      exact c4 q hq'
    · refine RowM_cp b7 r9 r4 (fun k hk => ?_)
      rw [Nat.zero_add, g6 k hk, hi 142 (by decide)]
    · unfold RlM at c6 ⊢
      rw [hk' 3 (by decide), hc' 117 (by decide) (by decide)]
      exact c6
    · unfold RlM at c7 ⊢
      rw [hk' 4 (by decide), hc' 117 (by decide) (by decide)]
      exact c7
    · rw [hc' 116 (by decide) (by decide)]
      exact c8
  · rw [g4, hi 112 (by decide)]
    exact b8
  · obtain ⟨x1, x2, x3⟩ := b9 q hq
    refine ⟨RowM_cp x1 x2 x3 (fun k hk => ?_), x2, x3⟩
    rw [g7 _ (by omega), hi 143 (by decide)]
  · rw [g5, hi 112 (by decide)]
    exact b10
  · have z8 := q5.1
    rw [g8 _ (by omega), g8 _ (by omega), g8 _ (by omega), hi 144 (by decide)]
    exact b11 i hi'
  · unfold HTM at b5 ⊢
    rw [hk' 11 (by decide), hc' 118 (by decide) (by decide)]
    exact b5
  · exact IMi_e (I := some (f, n', E', G', Z')) ⟨b6, b7, b8, b9, b10, b11⟩ (fun c hc => by
      have q : c = 142 ∨ c = 143 ∨ c = 144 := by
        simpa [imM] using hc
      refine hc' c ?_ (by omega)
      simp only [List.mem_cons, List.not_mem_nil, or_false]
      omega) (hk' 59 (by decide)) (hk' 60 (by decide)) (hk' 61 (by decide))
  · rw [hc' 119 (by decide) (by decide), g1 0 (by decide), h1 0 (by decide)]
    exact j.1 k hk
  · rw [hk' 13 (by decide), g1 0 (by decide), h1 0 (by decide)]
    exact j.2
theorem LI_fairG {D : Dr} (j : IJ d) (h : fGc d d1) (h1 : HC d1 (gFr D)) (h2 : HW d1 (gFr D)) (dg : DG D) (g : fGm d1 d2) (g1 : HB d2 (gFr D)) : LI d2 := by
  obtain ⟨c1, c2, c3, c4, c5, c6, c7⟩ := h
  obtain ⟨m1, m2, m3, m4, m5, m6, m7, m8⟩ := g
  have R : RG (gFr D) := dg.1
  have t : sm [112, 113, 114, 115, 116, 117, 118, 120, 121, 122, 123, 124, 125, 126, 127, 128] d1 d2 := fun c hc => m1 c (by
    simp only [List.mem_cons, List.not_mem_nil, or_false] at hc
    omega)
  have n0 : ∀ {P : Nat → Prop} (i : Nat), i < 0 → P i := fun i hi => absurd hi (Nat.not_lt_zero _)
  refine ⟨gFr D, 0, fun _ => (0, 0, 0, 0), fun _ => D.1, (0, fun _ => 0, fun _ => 0, fun _ => 0), 0, fun _ => 0, none, ⟨HC_sm h1 t (by decide), HW_sm R h2 t (by decide), ⟨?_, fun i hi => absurd hi (Nat.not_lt_zero _)⟩, ⟨?_, fun i hi => absurd hi (Nat.not_lt_zero _)⟩, ⟨?_, fun i hi => absurd hi (Nat.not_lt_zero _)⟩, ?_⟩, ⟨g1, m5, fun i hi => absurd hi (Nat.not_lt_zero _), ⟨m6, fun i hi => absurd hi (Nat.not_lt_zero _)⟩, ⟨m4, fun i hi => absurd hi (Nat.not_lt_zero _)⟩, m7⟩, ⟨R, by decide, ⟨rfl, fun i hi => absurd hi (Nat.not_lt_zero _)⟩, ⟨Nat.zero_le _, fun i hi => absurd hi (Nat.not_lt_zero _)⟩, by decide, fun _ => show 0 < 256 by decide, trivial⟩, fun k hk => ?_, ?_⟩
  · rw [t 81 (by decide)]
    exact c6
  · rw [t 86 (by decide)]
    exact c7
  · rw [t 1 (by decide)]
    exact c5
  · show d2 0 13 = 0
    rw [t 0 (by decide)]
    exact c3
  · rw [m1 119 (by decide), c1 119 (by decide) (by decide) (by decide) (by decide), t 0 (by decide), c2 _ (by omega) (by omega)]
    exact j.1 k hk
  · rw [m8, t 0 (by decide), c4]
theorem LI_fairB {f : Nat × Nat} (a : IC d F n E Z m T I) (b : IMm d F n G Z m T I) (c : IP F n E G Z m T I) (j : IJ d) (h : fBc d d1 f) (g : fBm d1 d2) (g13 : d2 112 13 = nI f.2) : LI d2 := by
  obtain ⟨a1, a2, a3, a4, a5, a6⟩ := a
  obtain ⟨b1, b2, b3, b4, b5, b6⟩ := b
  obtain ⟨p1, p2, p3, p4, p5, p6, p7⟩ := c
  obtain ⟨c1, c2, c3, c4, c5⟩ := h
  obtain ⟨m1, m2, m3, m4, m5, m6⟩ := g
  have t : sm [112, 119, 120, 121, 122, 123, 124, 125, 126, 127] d1 d2 := fun c hc => m1 c (by
    simp only [List.mem_cons, List.not_mem_nil, or_false] at hc
    omega)
  have u : sm [0, 1, 4, 5, 6, 7, 8, 9, 10, 11, 12, 13, 14, 15, 16, 17, 18, 19, 20, 21, 22] d d1 := fun c hc => by
    simp only [List.mem_cons, List.not_mem_nil, or_false] at hc
    exact c1 c (by omega) (by omega) (by omega)
  have hc' : ∀ c, (112 < c ∧ c < 119) ∨ 127 < c → d2 c = d c := fun c hc => (m1 c (by omega)).trans (c1 c (by omega) (by omega) (by omega))
  have hk' : ∀ k, (0 < k ∧ k < 11) ∨ k = 14 ∨ 32 < k → d2 112 k = d 112 k := fun k hk => (m2 k hk).trans (congrFun (c1 112 (by decide) (by decide) (by decide)) k)
  have i1 : ICi d1 I := by
    cases I with
    | none => exact (c2 13 (by decide) (by decide)).trans a6
    | some q =>
      obtain ⟨f0, n0, E0, G0, Z0⟩ := q
      obtain ⟨x1, x2, x3, x4⟩ := a6
      have e : ∀ c, 90 ≤ c → d1 c = d c := fun c hc => c1 c (by omega) (by omega) (by omega)
      refine ⟨(c2 13 (by decide) (by decide)).trans x1, ?_, HAc_sm x3 u (by decide), ?_⟩
      · unfold HIf at x2 ⊢
        rw [e 90 (by decide), e 91 (by decide), e 92 (by decide), e 93 (by decide), e 94 (by decide), e 95 (by decide), e 96 (by decide), e 97 (by decide), e 98 (by decide)]
        exact x2
      · unfold HZb at x4 ⊢
        rw [e 104 (by decide), e (104 + 1) (by decide), e (104 + 2) (by decide), e (104 + 3) (by decide)]
        exact x4
  refine ⟨F, n, E, G, Z, 0, fun _ => 0, I, ⟨HC_sm (HC_sm a1 u (by decide)) t (by decide), HW_sm p1 (HW_sm p1 a2 u (by decide)) t (by decide), HAc_sm (HAc_sm a3 u (by decide)) t (by decide), HZ_sm (HZ_sm a4 u (by decide)) t (by decide), ⟨?_, fun i hi => absurd hi (Nat.not_lt_zero _)⟩, ICi_sm i1 t (by decide)⟩, ⟨?_, (hk' 43 (by decide)).trans b2, HGM_c b3 (hc' 129 (by decide)), ?_, ⟨m4, fun i hi => absurd hi (Nat.not_lt_zero _)⟩, ?_⟩, ⟨p1, p2, p3, p4, by decide, fun _ => show 0 < 256 by decide, p7⟩, fun k hk => ?_, ?_⟩
  · rw [t 1 (by decide)]
    exact c5
  · unfold HB RowM RlM at b1 ⊢
    rw [hk' 1 (by decide), hk' 2 (by decide), hk' 3 (by decide), hk' 4 (by decide), hc' 113 (by decide), hc' 114 (by decide), hc' 115 (by decide), hc' 116 (by decide), hc' 117 (by decide), hc' 128 (by decide)]
    exact b1
  · unfold HZM at b4 ⊢
    rw [hk' 56 (by decide), hc' 141 (by decide)]
    exact b4
  · refine IMi_e b6 (fun c hc => ?_) (hk' 59 (by decide)) (hk' 60 (by decide)) (hk' 61 (by decide))
    have q : c = 142 ∨ c = 143 ∨ c = 144 := by
      simpa [imM] using hc
    exact hc' c (by omega)
  · rw [t 0 (by decide)]
    have e119 : d1 119 = d 119 := c1 119 (by decide) (by decide) (by decide)
    by_cases h0 : k = 0
    · subst h0
      rw [m5, e119, show 15 + 0 = 15 from rfl, c4, j.1 0 (by decide)]
    · rw [m6 k h0, e119, c2 _ (by omega) (by omega)]
      exact j.1 k hk
  · rw [g13, t 0 (by decide), c3]
end
