/-! THE MODEL: the listing, who hears, what is shown -/
def DP (F : Fr) (xp : Bool) (p : Nat) : Prop := p < F.1 0 0 ∨ (xp = true ∧ p = 10)
def DN (F : Fr) (xn : Bool) (n : Nat) : Prop := n < F.1 4 0 ∨ (xn = true ∧ n = 6)
def pmT (i : Nat) : Nat := if i = 0 then 0 else if i = 1 then 4 else if i = 2 then 1 else if i = 3 then 2 else if i = 4 then 3 else 5
def pmC (i : Nat) : Nat := if i = 0 then 6 else if i = 1 then 7 else if i = 2 then 4 else if i = 3 then 8 else 5
def RlM (d : Nat → Nat → Int32) (k nv : Nat) (pm : Nat → Nat) (g : Gr) : Prop := match g with
  | none => d 112 k = -1
  | some g => ∃ (T : List Int32) (at0 : Nat), d 112 k = nI at0 ∧ at0 + (cod pm T).length < 1400 ∧ (∀ (i : Nat) (t : Int32), (cod pm T)[i]? = some t → d 117 (at0 + i) = t) ∧ d 117 (at0 + (cod pm T).length) = 0 ∧ wfA T 0 = true ∧ okT nv T = true ∧ ∀ vals : Nat → Int32, evA (fun i => if inB i nv then vals i.toInt.toNat else 0) T 0 (fun _ => 0) = g vals
/-- the model's listing is F -/
def HL (d : Nat → Nat → Int32) (F : Fr) (xp xn : Bool) : Prop := d 112 1 = nI (F.1 0 0) ∧ d 112 2 = nI (F.1 4 0) ∧ d 112 46 = nI (F.1 9 0) ∧ (∀ p, DP F xp p → d 113 p = nI (F.1 1 p) ∧ d 114 p = nI (F.1 2 p) ∧ d 115 p = nI (F.1 3 p)) ∧ (∀ n, DN F xn n → d 135 n = nI (F.1 5 n) ∧ d 136 n = nI (F.1 6 n) ∧ d 116 n = nI (F.1 7 n) ∧ d 137 n = nI (F.1 8 n)) ∧ (∀ s, s < F.1 9 0 → d 132 s = nI (F.1 10 s) ∧ d 133 s = nI (F.1 11 s) ∧ d 134 s = nI (F.1 12 s)) ∧ RlM d 3 6 pmT F.2.1 ∧ RlM d 4 5 pmC F.2.2
def RM (F : Fr) (xp xn : Bool) : Prop := F.1 0 0 ≤ 10 ∧ F.1 4 0 ≤ 6 ∧ F.1 9 0 ≤ 120 ∧ (∀ p, DP F xp p → F.1 1 p ≤ 40 ∧ F.1 2 p ≤ 40 ∧ F.1 3 p ≤ 9) ∧ (∀ n, DN F xn n → F.1 5 n ≤ 40 ∧ F.1 6 n ≤ 40 ∧ F.1 7 n ≤ 60 ∧ F.1 8 n ≤ 9) ∧ ∀ s, s < F.1 9 0 → F.1 10 s < 100 ∧ DP F xp (F.1 11 s) ∧ F.1 12 s ≤ 9
def HLc : List Nat := [112, 113, 114, 115, 116, 117, 132, 133, 134, 135, 136, 137]
theorem HL_sm {S : List Nat} {d d' : Nat → Nat → Int32} {F : Fr} {xp xn : Bool} (H : HL d F xp xn) (h : sm S d d') (hS : ∀ c, c ∈ HLc → c ∉ S) : HL d' F xp xn := by
  have e : ∀ c, c ∈ HLc → d' c = d c := fun c hc => h c (hS c hc)
  unfold HL RlM at H ⊢
  rw [e 112 (by decide), e 113 (by decide), e 114 (by decide), e 115 (by decide), e 116 (by decide), e 117 (by decide), e 132 (by decide), e 133 (by decide), e 134 (by decide), e 135 (by decide), e 136 (by decide), e 137 (by decide)]
  exact H
theorem dif_cm (a b : Nat) : dif a b = dif b a := by unfold dif; split <;> split <;> omega
theorem DP11 {F : Fr} {xp xn : Bool} (R : RM F xp xn) {p : Nat} (h : DP F xp p) : p < 11 := by
  have := R.1
  rcases h with h | h <;> omega
theorem DN7 {F : Fr} {xp xn : Bool} (R : RM F xp xn) {n : Nat} (h : DN F xn n) : n < 7 := by
  have := R.2.1
  rcases h with h | h <;> omega
theorem m1_lt {l t : Nat} (hl : l ≤ 1000) (ht : t ≤ 1000) : nI t ≤ m1 l ↔ t + 1 ≤ l := by
  unfold m1
  rw [ile, sub_tI (by rw [nI_tI (by omega)]; omega) (by decide), nI_tI (by omega), nI_tI (by omega), show (1 : Int32).toInt = 1 from rfl]
  omega
theorem m1_m1 {l : Nat} (hl : l ≤ 1000) : m1 l = -1 ↔ l = 0 := by
  unfold m1
  rw [ieq, sub_tI (by rw [nI_tI (by omega)]; omega) (by decide), nI_tI (by omega), show (1 : Int32).toInt = 1 from rfl, show (-1 : Int32).toInt = -1 from rfl]
  omega
section
variable (d : Nat → Nat → Int32) (L : Nat → Nat → Int64) {F : Fr} {xp xn : Bool}
set_option maxRecDepth 100000 in
set_option maxHeartbeats 1600000 in
theorem k_off {a b : Nat} (ha : a ≤ 1000) (hb : b ≤ 1000) : Cn mX12_off false 1 0 0 [.int (nI a), .int (nI b)] (W0 d L) (qP d L (nI (dif a b))) := by
  refine Cn.intro gX12_off rfl (Nat.le_of_ble_eq_true rfl) rfl ?_
  repeat refine x_s rfl rfl ?_
  refine x_br rfl rfl (fun c => ?_) (fun c => ?_)
  · have h : ¬ a < b := fun z => absurd c (nI_ge z (by omega))
    repeat refine x_s rfl rfl ?_
    refine x_iret rfl rfl rfl ⟨congrArg (fun z => some (Value.int z)) ?_, rfl⟩
    apply nI_ofI (dif_le (m := 100000) (by omega) (by omega))
    rw [nsub_tI (by omega) (by omega), dif, if_neg h]
    omega
  · have h : a < b := by
      rcases Nat.lt_or_ge a b with z | z
      · exact z
      · exact absurd (nI_le z (by omega)) c
    repeat refine x_s rfl rfl ?_
    refine x_iret rfl rfl rfl ⟨congrArg (fun z => some (Value.int z)) ?_, rfl⟩
    apply nI_ofI (dif_le (m := 100000) (by omega) (by omega))
    rw [nsub_tI (by omega) (by omega), dif, if_pos h]
    omega
set_option maxRecDepth 100000 in
set_option maxHeartbeats 1600000 in
theorem k_farOf (H : HL d F xp xn) (R : RM F xp xn) {n p : Nat} (hn : DN F xn n) (hp : DP F xp p) : Cn mX12_farOf false 2 0 0 [.ref 112, .int (nI n), .int (nI p)] (W0 d L) (qP d L (nI (far F n p))) := by
  have n7 := DN7 R hn
  have p11 := DP11 R hp
  have h4 := H.2.2.2.1 p hp
  have h5 := H.2.2.2.2.1 n hn
  have r4 := R.2.2.2.1 p hp
  have r5 := R.2.2.2.2.1 n hn
  have d1 := dif_le (a := F.1 5 n) (b := F.1 1 p) (m := 40) (by omega) (by omega)
  have d2 := dif_le (a := F.1 6 n) (b := F.1 2 p) (m := 40) (by omega) (by omega)
  have e : far F n p = if dif (F.1 5 n) (F.1 1 p) < dif (F.1 6 n) (F.1 2 p) then dif (F.1 6 n) (F.1 2 p) else dif (F.1 5 n) (F.1 1 p) := by
    unfold far
    rw [dif_cm (F.1 1 p), dif_cm (F.1 2 p)]
  refine Cn.intro gX12_farOf rfl (Nat.le_of_ble_eq_true rfl) rfl ?_
  repeat refine x_s rfl rfl ?_
  refine x_ald rfl rfl rfl (k := n) (rfl) (by omega) (by decide) rfl ?_
  repeat refine x_s rfl rfl ?_
  refine x_ald rfl rfl rfl (k := p) (rfl) (by omega) (by decide) rfl ?_
  rw [h5.1, h4.1]
  refine x_cs (k_off d L (a := F.1 5 n) (b := F.1 1 p) (by omega) (by omega)) rfl rfl rfl (by decide) (Nat.le_of_ble_eq_true rfl) (by decide) (by decide) (by decide) ?_
  rintro _ _ ⟨rfl, rfl⟩
  repeat refine x_s rfl rfl ?_
  refine x_ald rfl rfl rfl (k := n) (rfl) (by omega) (by decide) rfl ?_
  repeat refine x_s rfl rfl ?_
  refine x_ald rfl rfl rfl (k := p) (rfl) (by omega) (by decide) rfl ?_
  rw [h5.2.1, h4.2.1]
  refine x_cs (k_off d L (a := F.1 6 n) (b := F.1 2 p) (by omega) (by omega)) rfl rfl rfl (by decide) (Nat.le_of_ble_eq_true rfl) (by decide) (by decide) (by decide) ?_
  rintro _ _ ⟨rfl, rfl⟩
  repeat refine x_s rfl rfl ?_
  refine x_br rfl rfl (fun c => ?_) (fun c => ?_)
  · repeat refine x_s rfl rfl ?_
    refine x_iret rfl rfl rfl ⟨congrArg (fun z => some (Value.int z)) ?_, rfl⟩
    rw [e]
    by_cases z : dif (F.1 5 n) (F.1 1 p) < dif (F.1 6 n) (F.1 2 p)
    · rw [if_pos z]
    · rw [if_neg z]
      have := (nI_leI (by omega) (by omega)).mp c
      rw [show dif (F.1 6 n) (F.1 2 p) = dif (F.1 5 n) (F.1 1 p) by omega]
  · repeat refine x_s rfl rfl ?_
    refine x_iret rfl rfl rfl ⟨congrArg (fun z => some (Value.int z)) ?_, rfl⟩
    rw [e, if_neg (fun z => c (nI_le (by omega) (by omega)))]
set_option maxRecDepth 100000 in
set_option maxHeartbeats 1600000 in
theorem k_hears (H : HL d F xp xn) (R : RM F xp xn) {n s : Nat} (hn : DN F xn n) (hs : s < F.1 9 0) : Cn mX12_hears false 4 0 0 [.ref 112, .int (nI n), .int (nI s)] (W0 d L) (qS [130, 131] d L (bI (hr F n s))) := by
  have n7 := DN7 R hn
  have r3 := R.2.2.1
  have r6 := R.2.2.2.2.2 s hs
  have p11 := DP11 R r6.2.1
  have h6 := H.2.2.2.2.2.1 s hs
  have h4 := H.2.2.2.1 _ r6.2.1
  have h5 := H.2.2.2.2.1 n hn
  have r4 := R.2.2.2.1 _ r6.2.1
  have r5 := R.2.2.2.2.1 n hn
  have hfar : far F n (F.1 11 s) ≤ 40 := by
    have d1 := dif_le (a := F.1 1 (F.1 11 s)) (b := F.1 5 n) (m := 40) (by omega) (by omega)
    have d2 := dif_le (a := F.1 2 (F.1 11 s)) (b := F.1 6 n) (m := 40) (by omega) (by omega)
    unfold far
    split <;> omega
  have hR := H.2.2.2.2.2.2.1
  refine Cn.intro gX12_hears rfl (Nat.le_of_ble_eq_true rfl) rfl ?_
  repeat refine x_s rfl rfl ?_
  refine x_ald rfl rfl rfl (k := s) (rfl) (by omega) (by decide) rfl ?_
  rw [h6.2.1]
  repeat refine x_s rfl rfl ?_
  refine x_ald rfl rfl rfl (k := s) (rfl) (by omega) (by decide) rfl ?_
  rw [h6.2.2]
  refine x_br rfl rfl (fun c => ?_) (fun c => ?_)
  · have hd : 0 < F.1 12 s := by
      rcases Nat.eq_zero_or_pos (F.1 12 s) with z | z
      · rw [z] at c
        exact absurd rfl c
      · exact z
    repeat refine x_s rfl rfl ?_
    cases hg : F.2.1 with
    | none =>
      rw [hg] at hR
      have hR' : d 112 3 = -1 := hR
      refine x_br rfl rfl (fun c => absurd c (fun z => z hR')) (fun c => ?_)
      repeat refine x_s rfl rfl ?_
      refine x_cv (k_farOf d L H R hn r6.2.1) rfl rfl rfl (by decide) rfl (by decide) rfl (Nat.le_of_ble_eq_true rfl) (by decide) (by decide) (by decide) ?_
      rintro _ _ ⟨rfl, rfl⟩
      repeat refine x_s rfl rfl ?_
      refine x_ald rfl rfl rfl (k := n) (rfl) (by omega) (by decide) rfl ?_
      rw [h5.2.2.1]
      refine x_br rfl rfl (fun c1 => ?_) (fun c1 => ?_)
      · repeat refine x_s rfl rfl ?_
        refine x_iret rfl rfl rfl ⟨congrArg (fun z => some (Value.int z)) ?_, d, rfl, sm_rfl⟩
        have e : ¬ far F n (F.1 11 s) ≤ F.1 7 n := fun z => absurd c1 (nI_nlt z (by omega))
        simp [bI, hr, hl, tn, hg, e]
      · have e : far F n (F.1 11 s) ≤ F.1 7 n := by
          rcases Nat.lt_or_ge (F.1 7 n) (far F n (F.1 11 s)) with h | h
          · exact absurd (nI_lt h (by omega)) c1
          · exact h
        repeat refine x_s rfl rfl ?_
        refine x_ald rfl rfl rfl (k := s) (rfl) (by omega) (by decide) rfl ?_
        repeat refine x_s rfl rfl ?_
        refine x_ald rfl rfl rfl (k := n) (rfl) (by omega) (by decide) rfl ?_
        rw [h6.2.2, h5.2.2.2]
        refine x_br rfl rfl (fun c2 => ?_) (fun c2 => ?_)
        · repeat refine x_s rfl rfl ?_
          refine x_iret rfl rfl rfl ⟨congrArg (fun z => some (Value.int z)) ?_, d, rfl, sm_rfl⟩
          have e2 : ¬ F.1 8 n < F.1 12 s := fun z => absurd c2 (nI_ge z (by omega))
          simp [bI, hr, hl, tn, hg, e2]
        · repeat refine x_s rfl rfl ?_
          refine x_iret rfl rfl rfl ⟨congrArg (fun z => some (Value.int z)) ?_, d, rfl, sm_rfl⟩
          have e2 : F.1 8 n < F.1 12 s := by
            rcases Nat.lt_or_ge (F.1 8 n) (F.1 12 s) with h | h
            · exact h
            · exact absurd (nI_le h (by omega)) c2
          simp [bI, hr, hl, tn, hg, e, e2, hd]
    | some g =>
      rw [hg] at hR
      obtain ⟨T, at0, t1, t2, t3, t4, t5, t6, t7⟩ := hR
      refine x_br rfl rfl (fun c => ?_) (fun c => absurd c (fun z => absurd (t1.symm.trans z) (by rw [ieq, nI_tI (by omega), show (-1 : Int32).toInt = -1 from rfl]; omega)))
      repeat refine x_s rfl rfl ?_
      refine x_ald rfl rfl rfl (k := s) (rfl) (by omega) (by decide) rfl ?_
      rw [h6.2.2]
      refine x_iast rfl rfl (k := 0) (rfl) (by omega) (by decide) rfl ?_
      generalize g1 : up2 d 130 0 (nI (F.1 12 s)) = d1
      have s1 : sm [130] d d1 := by rw [← g1]; exact sm_up sm_rfl (by decide)
      have H1 := HL_sm H s1 (by decide)
      repeat refine x_s rfl rfl ?_
      refine x_ald rfl rfl rfl (k := F.1 11 s) (rfl) (by omega) (by decide) rfl ?_
      rw [(H1.2.2.2.1 _ r6.2.1).2.2]
      refine x_iast rfl rfl (k := 4) (rfl) (by omega) (by decide) rfl ?_
      generalize g2 : up2 d1 130 4 (nI (F.1 3 (F.1 11 s))) = d2
      have s2 : sm [130] d d2 := by rw [← g2]; exact sm_up s1 (by decide)
      have H2 := HL_sm H s2 (by decide)
      repeat refine x_s rfl rfl ?_
      refine x_cv (k_farOf d2 L H2 R hn r6.2.1) rfl rfl rfl (by decide) rfl (by decide) rfl (Nat.le_of_ble_eq_true rfl) (by decide) (by decide) (by decide) ?_
      rintro _ _ ⟨rfl, rfl⟩
      refine x_iast rfl rfl (k := 1) (rfl) (by omega) (by decide) rfl ?_
      generalize g3 : up2 d2 130 1 (nI (far F n (F.1 11 s))) = d3
      have s3 : sm [130] d d3 := by rw [← g3]; exact sm_up s2 (by decide)
      have H3 := HL_sm H s3 (by decide)
      repeat refine x_s rfl rfl ?_
      refine x_ald rfl rfl rfl (k := n) (rfl) (by omega) (by decide) rfl ?_
      rw [(H3.2.2.2.2.1 n hn).2.2.1]
      refine x_iast rfl rfl (k := 2) (rfl) (by omega) (by decide) rfl ?_
      generalize g4 : up2 d3 130 2 (nI (F.1 7 n)) = d4
      have s4 : sm [130] d d4 := by rw [← g4]; exact sm_up s3 (by decide)
      have H4 := HL_sm H s4 (by decide)
      repeat refine x_s rfl rfl ?_
      refine x_ald rfl rfl rfl (k := n) (rfl) (by omega) (by decide) rfl ?_
      rw [(H4.2.2.2.2.1 n hn).2.2.2]
      refine x_iast rfl rfl (k := 3) (rfl) (by omega) (by decide) rfl ?_
      generalize g5 : up2 d4 130 3 (nI (F.1 8 n)) = d5
      have s5 : sm [130] d d5 := by rw [← g5]; exact sm_up s4 (by decide)
      have H5 := HL_sm H s5 (by decide)
      repeat refine x_s rfl rfl ?_
      refine x_ald rfl rfl rfl (k := s) (rfl) (by omega) (by decide) rfl ?_
      rw [(H5.2.2.2.2.2.1 s hs).1]
      refine x_iast rfl rfl (k := 5) (rfl) (by omega) (by decide) rfl ?_
      generalize g6 : up2 d5 130 5 (nI (F.1 10 s)) = d6
      have s6 : sm [130] d d6 := by rw [← g6]; exact sm_up s5 (by decide)
      have H6 := HL_sm H s6 (by decide)
      repeat refine x_s rfl rfl ?_
      have hv : ∀ i, i < 6 → pmT i < 9 ∧ d6 130 (pmT i) = vt (F.1 12 s) (F.1 3 (F.1 11 s)) (far F n (F.1 11 s)) (F.1 7 n) (F.1 8 n) (F.1 10 s) i := by
        intro i hi
        subst g6 g5 g4 g3 g2 g1
        rcases (by omega : i = 0 ∨ i = 1 ∨ i = 2 ∨ i = 3 ∨ i = 4 ∨ i = 5) with rfl | rfl | rfl | rfl | rfl | rfl <;> exact ⟨by decide, rfl⟩
      have K := k_reckons d6 L pmT _ hv t2 (by rw [s6 117 (by decide)]; exact t3) (by rw [s6 117 (by decide)]; exact t4) t5 t6
      rw [t7] at K
      have e6 : d6 112 3 = nI at0 := by rw [s6 112 (by decide)]; exact t1
      rw [e6]
      refine x_cv (K) rfl rfl rfl (by decide) rfl (by decide) rfl (Nat.le_of_ble_eq_true rfl) (by decide) (by decide) (by decide) ?_
      rintro _ _ ⟨rfl, d7, rfl, hs2⟩
      have hs12 : sm [130, 131] d d7 := sm_go (sm_in s6 (by decide)) (sm_in hs2 (by decide))
      refine x_br rfl rfl (fun c1 => ?_) (fun c1 => ?_)
      · repeat refine x_s rfl rfl ?_
        refine x_iret rfl rfl rfl ⟨congrArg (fun z => some (Value.int z)) ?_, d7, rfl, hs12⟩
        simp [bI, hr, hl, tn, hg, hd, Int32.not_lt.mpr c1]
      · repeat refine x_s rfl rfl ?_
        refine x_iret rfl rfl rfl ⟨congrArg (fun z => some (Value.int z)) ?_, d7, rfl, hs12⟩
        simp [bI, hr, hl, tn, hg, hd, Int32.not_le.mp c1]
  · have hd : F.1 12 s = 0 := (nI_eq (b := 0) (by omega) (by omega)).mp c
    repeat refine x_s rfl rfl ?_
    refine x_iret rfl rfl rfl ⟨congrArg (fun z => some (Value.int z)) ?_, d, rfl, sm_rfl⟩
    simp [bI, hr, hl, tn, hd]
end
