/-! THE INVARIANT under the calls that change something -/
theorem sF0_rfl {f : Nat → Nat → Nat} : sF0 f f := ⟨rfl, rfl, rfl, rfl, rfl, rfl⟩
theorem sF0_sy {f g : Nat → Nat → Nat} (h : sF0 f g) : sF0 g f := ⟨h.1.symm, h.2.1.symm, h.2.2.1.symm, h.2.2.2.1.symm, h.2.2.2.2.1.symm, h.2.2.2.2.2.symm⟩
theorem sF0_tr {f g k : Nat → Nat → Nat} (h : sF0 f g) (h' : sF0 g k) : sF0 f k := ⟨h'.1.trans h.1, h'.2.1.trans h.2.1, h'.2.2.1.trans h.2.2.1, h'.2.2.2.1.trans h.2.2.2.1, h'.2.2.2.2.1.trans h.2.2.2.2.1, h'.2.2.2.2.2.trans h.2.2.2.2.2⟩
section
variable {d d1 d2 : Nat → Nat → Int32} {F : Fr} {n m : Nat} {E : Ac} {G : Gs} {Z : Sn} {T : Nat → Nat} {I : Im} {f' : Nat → Nat → Nat} {e : Nat × Nat × Nat × Nat}
theorem CHn_act (H : CHn F n E G) (hn : n ≤ 40) (R : RG F) (s : sF0 F.1 f') (v : vE e f') (q : eqB (rv e f') F.1) : CHn (f', F.2) (kN n) (kE n E e) (kG n G f') := by
  obtain ⟨h0, hj⟩ := H
  refine ⟨?_, fun j hlt => ?_⟩
  · unfold kG
    rw [if_pos rfl]
  unfold kN at hlt
  by_cases e1 : j = (if n = 40 then 39 else n)
  · have a1 : kE n E e j = e := by
      unfold kE
      rw [if_pos e1]
    have a2 : kG n G f' (j + 1) = f' := by
      unfold kG
      rw [if_pos (by rw [e1]; rfl)]
    have a3 : kG n G f' j = F.1 := by
      unfold kG sG kN
      rw [if_neg (by omega)]
      by_cases h40 : n = 40
      · rw [if_pos h40] at e1 ⊢
        rw [e1, ← h0, h40]
      · rw [if_neg h40] at e1 ⊢
        rw [e1, h0]
    rw [a1, a2, a3]
    exact ⟨v, q, R, sF0_sy s⟩
  · have a1 : kE n E e j = E (if n = 40 then j + 1 else j) := by
      unfold kE
      rw [if_neg e1]
    have a2 : kG n G f' (j + 1) = G ((if n = 40 then j + 1 else j) + 1) := by
      unfold kG sG kN
      rw [if_neg (by omega)]
      by_cases h40 : n = 40
      · rw [if_pos h40, if_pos h40]
      · rw [if_neg h40, if_neg h40]
    have a3 : kG n G f' j = G (if n = 40 then j + 1 else j) := by
      unfold kG sG kN
      rw [if_neg (by omega)]
    have lt : (if n = 40 then j + 1 else j) < n := by
      by_cases h40 : n = 40
      · rw [if_pos h40] at e1 hlt ⊢
        omega
      · rw [if_neg h40] at e1 hlt ⊢
        omega
    rw [a1, a2, a3]
    obtain ⟨b1, b2, b3, b4⟩ := hj _ lt
    exact ⟨b1, b2, b3, sF0_tr (sF0_sy s) b4⟩
theorem CHn_undo (H : CHn F n E G) (hn : 0 < n) : CHn (G (n - 1), F.2) (n - 1) E G := by
  obtain ⟨h0, hj⟩ := H
  refine ⟨rfl, fun j hlt => ?_⟩
  obtain ⟨b1, b2, b3, b4⟩ := hj j (by omega)
  exact ⟨b1, b2, b3, sF0_tr (sF0_sy (hj (n - 1) (by omega)).2.2.2) b4⟩
theorem IPi_s (H : IPi F I) (s : sF0 F.1 f') : IPi (f', F.2) I := by
  cases I with
  | none => trivial
  | some q =>
    obtain ⟨f, n, E, G, Z⟩ := q
    obtain ⟨a1, a2, a3, a4, a5⟩ := H
    exact ⟨a1, sF0_tr (sF0_sy s) a2, a3, a4, a5⟩
theorem RZ_s (H : RZ F Z) (s : sF0 F.1 f') : RZ (f', F.2) Z := by
  refine ⟨H.1, fun i hi => ?_⟩
  rw [show (f', F.2).1 4 0 = F.1 4 0 from congrFun s.2.2.2.2.1 0]
  exact H.2 i hi
/-- the model says that it was wrong, or that it wasn't -/
theorem LI_x (H : LI d) (x : Int32) : LI (up2 d 112 0 x) := LI_q H sm_rfl (mS_0 x)
/-- an act, or one taken back -/
theorem LI_chg {n' : Nat} {E' : Ac} {G' : Gs} (a : IC d F n E Z m T I) (b : IMm d F n G Z m T I) (c : IP F n E G Z m T I) (j : IJ d) (h1 : sm SA d d1) (c1 : HC d1 (f', F.2)) (c2 : HW d1 (f', F.2)) (c3 : HAc d1 81 n' E') (h2 : mA d1 d2) (m1 : d2 112 43 = nI n') (m2 : HB d2 (f', F.2)) (m3 : HGM d2 129 n' G') (R' : RG (f', F.2)) (hn : n' ≤ 40) (s : sF0 F.1 f') (ch : CHn (f', F.2) n' E' G') : LI d2 := by
  obtain ⟨a1, a2, a3, a4, a5, a6⟩ := a
  obtain ⟨b1, b2, b3, b4, b5, b6⟩ := b
  obtain ⟨p1, p2, p3, p4, p5, p6, p7⟩ := c
  have t : sm [112, 128, 129] d1 d2 := fun c hc => by
    simp only [List.mem_cons, List.not_mem_nil, or_false, not_or] at hc
    exact h2.1 c hc.1 hc.2.1 hc.2.2
  have hi : ∀ c, 112 ≤ c → d1 c = d c := fun c hc => h1 c (by
    simp only [SA, SR, List.mem_cons, List.mem_append, List.not_mem_nil, or_false, List.cons_append, List.nil_append]
    omega)
  refine ⟨(f', F.2), n', E', G', Z, m, T, I, ⟨HC_sm c1 t (by decide), HW_sm R' c2 t (by decide), HAc_sm c3 t (by decide), HZ_sm (HZ_sm a4 h1 (by decide)) t (by decide), HT_sm (HT_sm a5 h1 (by decide) (by decide)) t (by decide) (by decide), ICi_sm (ICi_sm a6 h1 (by decide)) t (by decide)⟩, ⟨m2, m1, m3, ?_, ?_, ?_⟩, ⟨R', hn, ch, RZ_s p4 s, p5, p6, IPi_s p7 s⟩, fun k hk => ?_, ?_⟩
  · unfold HZM at b4 ⊢
    rw [h2.2 56 (by decide) (by decide), h2.1 141 (by decide) (by decide) (by decide), hi 112 (by decide), hi 141 (by decide)]
    exact b4
  · unfold HTM at b5 ⊢
    rw [h2.2 11 (by decide) (by decide), h2.1 118 (by decide) (by decide) (by decide), hi 112 (by decide), hi 118 (by decide)]
    exact b5
  · refine IMi_e b6 (fun c hc => ?_) ?_ ?_ ?_
    · have q : c = 142 ∨ c = 143 ∨ c = 144 := by
        simpa [imM] using hc
      rw [h2.1 c (by omega) (by omega) (by omega), hi c (by omega)]
    · rw [h2.2 59 (by decide) (by decide), hi 112 (by decide)]
    · rw [h2.2 60 (by decide) (by decide), hi 112 (by decide)]
    · rw [h2.2 61 (by decide) (by decide), hi 112 (by decide)]
  · rw [h2.1 119 (by decide) (by decide) (by decide), hi 119 (by decide), h2.1 0 (by decide) (by decide) (by decide), h1 0 (by decide)]
    exact j.1 k hk
  · rw [h2.2 13 (by decide) (by decide), hi 112 (by decide), h2.1 0 (by decide) (by decide) (by decide), h1 0 (by decide)]
    exact j.2
end
