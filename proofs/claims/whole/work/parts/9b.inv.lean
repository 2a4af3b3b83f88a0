/-! WHAT HOLDS between two rounds of the law -/
abbrev Ac : Type := Nat → Nat × Nat × Nat × Nat
abbrev Gs : Type := Nat → Nat → Nat → Nat
abbrev Im : Type := Option ((Nat → Nat → Nat) × Nat × Ac × Gs × Sn)
/-- the rows of the model are the fairs before the acts of the component -/
def CHn (F : Fr) (n : Nat) (E : Ac) (G : Gs) : Prop := G n = F.1 ∧ ∀ j, j < n → vE (E j) (G (j + 1)) ∧ eqB (rv (E j) (G (j + 1))) (G j) ∧ RG (G j, F.2) ∧ sF0 F.1 (G j)
def ICi (d : Nat → Nat → Int32) (I : Im) : Prop := match I with
  | none => d 0 13 = 0
  | some (f, n, E, _, Z) => d 0 13 = 1 ∧ HIf d f ∧ HAc d 99 n E ∧ HZb d 104 Z
def IMi (d : Nat → Nat → Int32) (I : Im) : Prop := match I with
  | none => d 112 59 = 0
  | some (f, n, _, G, Z) => d 112 59 = 1 ∧ RowM d 142 0 f ∧ d 112 60 = nI n ∧ HGM d 143 n G ∧ d 112 61 = nI Z.1 ∧ ∀ i, i < Z.1 → d 144 (3 * i) = nI (Z.2.1 i) ∧ d 144 (3 * i + 1) = nI (Z.2.2.1 i) ∧ d 144 (3 * i + 2) = Z.2.2.2 i
def IPi (F : Fr) (I : Im) : Prop := match I with
  | none => True
  | some (f, n, E, G, Z) => RG (f, F.2) ∧ sF0 F.1 f ∧ n ≤ 40 ∧ CHn (f, F.2) n E G ∧ RZ (f, F.2) Z
def IC (d : Nat → Nat → Int32) (F : Fr) (n : Nat) (E : Ac) (Z : Sn) (m : Nat) (T : Nat → Nat) (I : Im) : Prop := HC d F ∧ HW d F ∧ HAc d 81 n E ∧ HZ d Z ∧ HT d m T ∧ ICi d I
def IMm (d : Nat → Nat → Int32) (F : Fr) (n : Nat) (G : Gs) (Z : Sn) (m : Nat) (T : Nat → Nat) (I : Im) : Prop := HB d F ∧ d 112 43 = nI n ∧ HGM d 129 n G ∧ HZM d Z ∧ HTM d m T ∧ IMi d I
def IP (F : Fr) (n : Nat) (E : Ac) (G : Gs) (Z : Sn) (m : Nat) (T : Nat → Nat) (I : Im) : Prop := RG F ∧ n ≤ 40 ∧ CHn F n E G ∧ RZ F Z ∧ m ≤ 700 ∧ (∀ j, T j < 256) ∧ IPi F I
def IJ (d : Nat → Nat → Int32) : Prop := (∀ k, k < 3 → d 119 k = d 0 (15 + k)) ∧ d 112 13 = d 0 14
def LI (d : Nat → Nat → Int32) : Prop := ∃ (F : Fr) (n : Nat) (E : Ac) (G : Gs) (Z : Sn) (m : Nat) (T : Nat → Nat) (I : Im), IC d F n E Z m T I ∧ IMm d F n G Z m T I ∧ IP F n E G Z m T I ∧ IJ d
section
variable {S : List Nat} {d d' : Nat → Nat → Int32} {F : Fr} {n m : Nat} {E : Ac} {G : Gs} {Z : Sn} {T : Nat → Nat} {I : Im}
theorem HAc_sm {b : Nat} (H : HAc d b n E) (h : sm S d d') (hS : ∀ c, c ∈ [b, b + 1, b + 2, b + 3, b + 4] → c ∉ S) : HAc d' b n E := by
  unfold HAc at H ⊢
  rw [h b (hS _ (by simp)), h (b + 1) (hS _ (by simp)), h (b + 2) (hS _ (by simp)), h (b + 3) (hS _ (by simp)), h (b + 4) (hS _ (by simp))]
  exact H
theorem HT_sm (H : HT d m T) (h : sm S d d') (h1 : 1 ∉ S) (h2 : 2 ∉ S) : HT d' m T := by
  unfold HT at H ⊢
  rw [h 1 h1, h 2 h2]
  exact H
def imC : List Nat := [0, 90, 91, 92, 93, 94, 95, 96, 97, 98, 99, 100, 101, 102, 103, 104, 105, 106, 107]
theorem ICi_sm (H : ICi d I) (h : sm S d d') (hS : ∀ c, c ∈ imC → c ∉ S) : ICi d' I := by
  have e : ∀ c, c ∈ imC → d' c = d c := fun c hc => h c (hS c hc)
  cases I with
  | none =>
    unfold ICi at H ⊢
    rw [e 0 (by decide)]
    exact H
  | some q =>
    obtain ⟨f, n, E, G, Z⟩ := q
    obtain ⟨h1, h2, h3, h4⟩ := H
    refine ⟨by rw [e 0 (by decide)]; exact h1, ?_, HAc_sm h3 h (fun c hc => hS c ?_), ?_⟩
    · unfold HIf at h2 ⊢
      rw [e 90 (by decide), e 91 (by decide), e 92 (by decide), e 93 (by decide), e 94 (by decide), e 95 (by decide), e 96 (by decide), e 97 (by decide), e 98 (by decide)]
      exact h2
    · revert c
      decide
    · unfold HZb at h4 ⊢
      rw [e 104 (by decide), e (104 + 1) (by decide), e (104 + 2) (by decide), e (104 + 3) (by decide)]
      exact h4
theorem IC_sm (R : RG F) (H : IC d F n E Z m T I) (h : sm S d d') (hS : ∀ c, c ∈ HCc ++ HWc ++ [81, 82, 83, 84, 85, 86, 87, 88, 89, 1, 2] ++ imC → c ∉ S) : IC d' F n E Z m T I := by
  obtain ⟨h1, h2, h3, h4, h5, h6⟩ := H
  have q : ∀ l : List Nat, (∀ c, c ∈ l → c ∈ HCc ++ HWc ++ [81, 82, 83, 84, 85, 86, 87, 88, 89, 1, 2] ++ imC) → ∀ c, c ∈ l → c ∉ S := fun l hl c hc => hS c (hl c hc)
  exact ⟨HC_sm h1 h (q HCc (by decide)), HW_sm R h2 h (q HWc (by decide)), HAc_sm h3 h (q _ (by decide)), HZ_sm h4 h (q _ (by decide)), HT_sm h5 h (hS 1 (by decide)) (hS 2 (by decide)), ICi_sm h6 h (q imC (by decide))⟩
/-- the model's numbers, but for the scratch -/
def imM : List Nat := [142, 143, 144]
theorem IMi_e (H : IMi d I) (h1 : ∀ c, c ∈ imM → d' c = d c) (h2 : d' 112 59 = d 112 59) (h3 : d' 112 60 = d 112 60) (h4 : d' 112 61 = d 112 61) : IMi d' I := by
  cases I with
  | none => exact h2.trans H
  | some q =>
    obtain ⟨f, n, E, G, Z⟩ := q
    obtain ⟨a1, a2, a3, a4, a5, a6⟩ := H
    refine ⟨h2.trans a1, ?_, h3.trans a3, fun j hj => ?_, h4.trans a5, fun i hi => ?_⟩
    · unfold RowM at a2 ⊢
      rw [h1 142 (by decide)]
      exact a2
    · have := a4 j hj
      unfold RowM at this ⊢
      rw [h1 143 (by decide)]
      exact this
    · rw [h1 144 (by decide)]
      exact a6 i hi
theorem HGM_c {b : Nat} (H : HGM d b n G) (h : d' b = d b) : HGM d' b n G := by
  intro j hj
  have := H j hj
  unfold RowM at this ⊢
  rw [h]
  exact this
/-- a call that only asks leaves the model as it was -/
theorem IMm_mS (R : RG F) (H : IMm d F n G Z m T I) (h : mS d d') : IMm d' F n G Z m T I := by
  obtain ⟨h1, h2, h3, h4, h5, h6⟩ := H
  refine ⟨HB_mS R h1 h, (h.2.1 43 (by decide) (by decide) (by decide)).trans h2, HGM_c h3 (h.1 129 (by decide)), HZM_mS h4 h, ⟨(h.2.1 11 (by decide) (by decide) (by decide)).trans h5.1, fun j hj => ?_⟩, IMi_e h6 (fun c hc => h.1 c ?_) (h.2.1 59 (by decide) (by decide) (by decide)) (h.2.1 60 (by decide) (by decide) (by decide)) (h.2.1 61 (by decide) (by decide) (by decide))⟩
  · rw [h.1 118 (by decide)]
    exact h5.2 j hj
  · revert c
    decide
theorem IMm_sm (H : IMm d F n G Z m T I) (h : ∀ c, 112 ≤ c → d' c = d c) : IMm d' F n G Z m T I := by
  obtain ⟨h1, h2, h3, h4, h5, h6⟩ := H
  have e : ∀ c, 112 ≤ c → ∀ k, d' c k = d c k := fun c hc k => congrFun (h c hc) k
  refine ⟨?_, (e 112 (by decide) 43).trans h2, HGM_c h3 (h 129 (by decide)), ?_, ⟨(e 112 (by decide) 11).trans h5.1, fun j hj => (e 118 (by decide) j).trans (h5.2 j hj)⟩, IMi_e h6 (fun c hc => h c ?_) (e 112 (by decide) 59) (e 112 (by decide) 60) (e 112 (by decide) 61)⟩
  · unfold HB RowM RlM at h1 ⊢
    rw [h 112 (by decide), h 113 (by decide), h 114 (by decide), h 115 (by decide), h 116 (by decide), h 117 (by decide), h 128 (by decide)]
    exact h1
  · unfold HZM at h4 ⊢
    rw [h 112 (by decide), h 141 (by decide)]
    exact h4
  · revert c
    decide
/-- both sides were asked -/
theorem LI_q {d1 d2 : Nat → Nat → Int32} (H : LI d) (h1 : sm SX d d1) (h2 : mS d1 d2) : LI d2 := by
  obtain ⟨F, n, E, G, Z, m, T, I, a, b, c, e⟩ := H
  refine ⟨F, n, E, G, Z, m, T, I, ?_, ?_, c, fun k hk => ?_, ?_⟩
  · have q1 := IC_sm c.1 a h1 (by decide)
    exact IC_sm (S := mSc) c.1 q1 h2.1 (by decide)
  · refine IMm_mS c.1 (IMm_sm b (fun c hc => h1 c ?_)) h2
    simp only [SX, List.mem_cons, List.not_mem_nil, or_false]
    omega
  · rw [h2.1 119 (by decide), h2.1 0 (by decide), h1 119 (by decide), h1 0 (by decide)]
    exact e.1 k hk
  · rw [h2.2.1 13 (by decide) (by decide) (by decide), h2.1 0 (by decide), h1 112 (by decide), h1 0 (by decide)]
    exact e.2
end
