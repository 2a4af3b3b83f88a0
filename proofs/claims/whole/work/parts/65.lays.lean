/-! THE MODEL: what it keeps, what it lays -/
/-- a row of the model's: sayings and needles -/
def RowM (d : Nat → Nat → Int32) (c o : Nat) (f : Nat → Nat → Nat) : Prop := d c o = nI (f 9 0) ∧ (∀ s, s < f 9 0 → d c (o + (1 + s)) = nI (f 10 s) ∧ d c (o + (17 + s)) = nI (f 11 s) ∧ d c (o + (33 + s)) = nI (f 12 s)) ∧ ∀ n, n < f 4 0 → d c (o + (49 + n)) = nI (f 5 n) ∧ d c (o + (55 + n)) = nI (f 6 n) ∧ d c (o + (61 + n)) = nI (f 8 n)
/-- the model's fair is F -/
def HB (d : Nat → Nat → Int32) (F : Fr) : Prop := d 112 1 = nI (F.1 0 0) ∧ d 112 2 = nI (F.1 4 0) ∧ (∀ p, p < F.1 0 0 → d 113 p = nI (F.1 1 p) ∧ d 114 p = nI (F.1 2 p) ∧ d 115 p = nI (F.1 3 p)) ∧ (∀ n, n < F.1 4 0 → d 116 n = nI (F.1 7 n)) ∧ RowM d 128 0 F.1 ∧ RlM d 3 6 pmT F.2.1 ∧ RlM d 4 5 pmC F.2.2 ∧ d 116 6 = 60
def mSc : List Nat := [112, 113, 114, 115, 130, 131, 132, 133, 134, 135, 136, 137, 138, 139, 140]
def mS (d d' : Nat → Nat → Int32) : Prop := (∀ c, c ∉ mSc → d' c = d c) ∧ (∀ k, k ≠ 0 → k ≠ 46 → k ≠ 58 → d' 112 k = d 112 k) ∧ ∀ c, c = 113 ∨ c = 114 ∨ c = 115 → ∀ k, k < 10 → d' c k = d c k
theorem mS_rfl {d : Nat → Nat → Int32} : mS d d := ⟨fun _ _ => rfl, fun _ _ _ _ => rfl, fun _ _ _ _ => rfl⟩
theorem mS_tr {d d' d'' : Nat → Nat → Int32} (h : mS d d') (h' : mS d' d'') : mS d d'' := ⟨fun c hc => (h'.1 c hc).trans (h.1 c hc), fun k a b c => (h'.2.1 k a b c).trans (h.2.1 k a b c), fun c hc k hk => (h'.2.2 c hc k hk).trans (h.2.2 c hc k hk)⟩
theorem mS_sm {S : List Nat} {d d' : Nat → Nat → Int32} (h : sm S d d') (hS : ∀ c, c ∈ S → c ∈ mSc) (h1 : 112 ∉ S) (h2 : 113 ∉ S) (h3 : 114 ∉ S) (h4 : 115 ∉ S) : mS d d' := by
  refine ⟨fun c hc => h c (fun z => hc (hS c z)), fun k _ _ _ => by rw [h 112 h1], fun c hc k hk => ?_⟩
  rcases hc with rfl | rfl | rfl
  · rw [h 113 h2]
  · rw [h 114 h3]
  · rw [h 115 h4]
theorem mS_go {S : List Nat} {d d' d'' : Nat → Nat → Int32} (h : mS d d') (hs : sm S d' d'') (hS : ∀ c, c ∈ S → c ∈ mSc) (h1 : 112 ∉ S) (h2 : 113 ∉ S) (h3 : 114 ∉ S) (h4 : 115 ∉ S) : mS d d'' := mS_tr h (mS_sm hs hS h1 h2 h3 h4)
theorem mS_f {d d' : Nat → Nat → Int32} {k : Nat} {x : Int32} (h : mS d d') (hk : k = 0 ∨ k = 46 ∨ k = 58) : mS d (up2 d' 112 k x) := by
  refine ⟨fun c hc => ?_, fun j a b c => ?_, fun c hc j hj => ?_⟩
  · rw [up2_ne (fun z => hc (by rw [z]; decide))]
    exact h.1 c hc
  · rw [up2_k (by omega)]
    exact h.2.1 j a b c
  · rw [up2_ne (by rcases hc with rfl | rfl | rfl <;> decide)]
    exact h.2.2 c hc j hj
theorem mS_c {d d' : Nat → Nat → Int32} {c k : Nat} {x : Int32} (h : mS d d') (hc : c ∈ [130, 131, 132, 133, 134, 135, 136, 137, 138, 139, 140]) : mS d (up2 d' c k x) := mS_go h (sm_up (S := [130, 131, 132, 133, 134, 135, 136, 137, 138, 139, 140]) sm_rfl hc) (by decide) (by decide) (by decide) (by decide) (by decide)
theorem mS_10 {d d' : Nat → Nat → Int32} {c : Nat} {x : Int32} (h : mS d d') (hc : c = 113 ∨ c = 114 ∨ c = 115) : mS d (up2 d' c 10 x) := by
  refine ⟨fun q hq => ?_, fun j a b e => ?_, fun q hq j hj => ?_⟩
  · rw [up2_ne (fun z => hq (by rw [z]; rcases hc with rfl | rfl | rfl <;> decide))]
    exact h.1 q hq
  · rw [up2_ne (by rcases hc with rfl | rfl | rfl <;> decide)]
    exact h.2.1 j a b e
  · by_cases e : q = c
    · subst e
      rw [up2_k (by omega)]
      exact h.2.2 q hq j hj
    · rw [up2_ne e]
      exact h.2.2 q hq j hj
theorem HB_mS {d d' : Nat → Nat → Int32} {F : Fr} (R : RG F) (H : HB d F) (h : mS d d') : HB d' F := by
  obtain ⟨a1, a2, a3, a4, a5, a6, a7, a8⟩ := H
  have r1 := R.1
  have f3 : ∀ p, p < F.1 0 0 → d' 113 p = d 113 p ∧ d' 114 p = d 114 p ∧ d' 115 p = d 115 p := fun p hp => ⟨h.2.2 113 (by simp) p (by omega), h.2.2 114 (by simp) p (by omega), h.2.2 115 (by simp) p (by omega)⟩
  unfold HB RowM RlM at *
  rw [h.2.1 1 (by decide) (by decide) (by decide), h.2.1 2 (by decide) (by decide) (by decide), h.2.1 3 (by decide) (by decide) (by decide), h.2.1 4 (by decide) (by decide) (by decide), h.1 116 (by decide), h.1 117 (by decide), h.1 128 (by decide)]
  refine ⟨a1, a2, fun p hp => ?_, a4, a5, a6, a7, a8⟩
  rw [(f3 p hp).1, (f3 p hp).2.1, (f3 p hp).2.2]
  exact a3 p hp
section
variable (d : Nat → Nat → Int32) (L : Nat → Nat → Int64) {F : Fr} {xp xn : Bool}
set_option maxRecDepth 100000 in
set_option maxHeartbeats 1600000 in
theorem k_right (h0 : d 112 0 = 0) (b : Bool) (w : Int32) (hw : ¬ w = 0) : Cn mX12_right false 1 0 0 [.ref 112, .int (bI b), .int w] (W0 d L) (fun r h => r = some (.int (bI b)) ∧ h = W0 (if b then d else up2 d 112 0 w) L) := by
  refine Cn.intro gX12_right rfl (Nat.le_of_ble_eq_true rfl) rfl ?_
  repeat refine x_s rfl rfl ?_
  refine x_br rfl rfl (fun c => absurd c (fun z => z h0)) (fun c => ?_)
  repeat refine x_s rfl rfl ?_
  cases b
  · refine x_br rfl rfl (fun c => absurd c (fun z => z rfl)) (fun c => ?_)
    repeat refine x_s rfl rfl ?_
    refine x_put rfl rfl (by decide) rfl ⟨rfl, rfl⟩ (Or.inl rfl) ?_
    repeat refine x_s rfl rfl ?_
    refine x_br rfl rfl (fun c => ?_) (fun c => absurd c (hw))
    repeat refine x_s rfl rfl ?_
    exact x_iret rfl rfl rfl ⟨rfl, rfl⟩
  · refine x_br rfl rfl (fun c => ?_) (fun c => absurd c (fun z => absurd z (by decide)))
    repeat refine x_s rfl rfl ?_
    refine x_br rfl rfl (fun c => absurd c (fun z => z h0)) (fun c => ?_)
    repeat refine x_s rfl rfl ?_
    exact x_iret rfl rfl rfl ⟨rfl, rfl⟩
set_option maxRecDepth 100000 in
set_option maxHeartbeats 1600000 in
theorem k_within (x a b : Int32) : Cn mX12_within false 1 0 0 [.int x, .int a, .int b] (W0 d L) (qP d L (bI (decide (a.toInt ≤ x.toInt ∧ x.toInt ≤ b.toInt)))) := by
  refine Cn.intro gX12_within rfl (Nat.le_of_ble_eq_true rfl) rfl ?_
  repeat refine x_s rfl rfl ?_
  refine x_br rfl rfl (fun c1 => ?_) (fun c1 => ?_)
  · rw [ilt] at c1
    repeat refine x_s rfl rfl ?_
    refine x_iret rfl rfl rfl ⟨congrArg (fun z => some (Value.int z)) ?_, rfl⟩
    rw [decide_eq_false (by omega)]
    rfl
  · rw [ilt] at c1
    repeat refine x_s rfl rfl ?_
    refine x_br rfl rfl (fun c2 => ?_) (fun c2 => ?_)
    · rw [ilt] at c2
      repeat refine x_s rfl rfl ?_
      refine x_iret rfl rfl rfl ⟨congrArg (fun z => some (Value.int z)) ?_, rfl⟩
      rw [decide_eq_false (by omega)]
      rfl
    · rw [ilt] at c2
      repeat refine x_s rfl rfl ?_
      refine x_iret rfl rfl rfl ⟨congrArg (fun z => some (Value.int z)) ?_, rfl⟩
      rw [decide_eq_true (by omega)]
      rfl
theorem wi_B {x : Int32} {b : Int32} {m : Nat} (hb : b.toInt = (m : Int)) : decide ((0 : Int32).toInt ≤ x.toInt ∧ x.toInt ≤ b.toInt) = inB x (m + 1) := by
  unfold inB
  rw [i0, hb]
  congr 1
  apply propext
  omega
abbrev qW (d : Nat → Nat → Int32) (L : Nat → Nat → Int64) (b : Bool) (w : Int32) : xPost := fun r h => r = some (.int (bI b)) ∧ h = W0 (if b then d else up2 d 112 0 w) L
set_option maxRecDepth 100000 in
set_option maxHeartbeats 1600000 in
theorem k_isHour (h0 : d 112 0 = 0) (x : Int32) : Cn mX12_isHour false 2 0 0 [.ref 112, .int x] (W0 d L) (qW d L (inB x 100) 1) := by
  refine Cn.intro gX12_isHour rfl (Nat.le_of_ble_eq_true rfl) rfl ?_
  repeat refine x_s rfl rfl ?_
  refine x_cs (k_within d L x 0 99) rfl rfl rfl (by decide) (Nat.le_of_ble_eq_true rfl) (by decide) (by decide) (by decide) ?_
  rintro _ _ ⟨rfl, rfl⟩
  rw [wi_B (m := 99) rfl]
  repeat refine x_s rfl rfl ?_
  refine x_cv (k_right d L h0 _ 1 (by decide)) rfl rfl rfl (by decide) rfl (by decide) rfl (Nat.le_of_ble_eq_true rfl) (by decide) (by decide) (by decide) ?_
  rintro _ _ ⟨rfl, rfl⟩
  exact x_iret rfl rfl (nar_b _) ⟨rfl, rfl⟩
set_option maxRecDepth 100000 in
set_option maxHeartbeats 1600000 in
theorem k_isWhat (h0 : d 112 0 = 0) (x : Int32) {m : Nat} (hm : m < 1000) : Cn mX12_isWhat false 2 0 0 [.ref 112, .int x, .int (nI m)] (W0 d L) (qW d L (inB x (m + 1)) 1) := by
  refine Cn.intro gX12_isWhat rfl (Nat.le_of_ble_eq_true rfl) rfl ?_
  repeat refine x_s rfl rfl ?_
  refine x_cs (k_within d L x 0 (nI m)) rfl rfl rfl (by decide) (Nat.le_of_ble_eq_true rfl) (by decide) (by decide) (by decide) ?_
  rintro _ _ ⟨rfl, rfl⟩
  rw [wi_B (m := m) (nI_tI (by omega))]
  repeat refine x_s rfl rfl ?_
  refine x_cv (k_right d L h0 _ 1 (by decide)) rfl rfl rfl (by decide) rfl (by decide) rfl (Nat.le_of_ble_eq_true rfl) (by decide) (by decide) (by decide) ?_
  rintro _ _ ⟨rfl, rfl⟩
  exact x_iret rfl rfl (nar_b _) ⟨rfl, rfl⟩
theorem inB_d {x c : Int32} {n : Nat} (hc : c = nI n) (hn : n < 100000) : (¬ x < 0 ∧ ¬ c ≤ x) ↔ inB x n = true := by
  unfold inB
  rw [hc, lt0, ile, nI_tI (by omega), decide_eq_true_iff]
  omega
set_option maxRecDepth 100000 in
set_option maxHeartbeats 1600000 in
theorem k_isPerson (h0 : d 112 0 = 0) {n : Nat} (hn : d 112 1 = nI n) (hn2 : n ≤ 1000) (x : Int32) : Cn mX12_isPerson false 2 0 0 [.ref 112, .int x] (W0 d L) (qW d L (inB x n) 1) := by
  have fin : ∀ b : Bool, b = inB x n → Ex mX12_isPerson false 2 0 0 18 [some (.ref 112), some (.int x)] [.int (bI b), .ref 112] (W0 d L) (qW d L (inB x n) 1) nX := by
    intro b hb
    subst hb
    repeat refine x_s rfl rfl ?_
    refine x_cv (k_right d L h0 _ 1 (by decide)) rfl rfl rfl (by decide) rfl (by decide) rfl (Nat.le_of_ble_eq_true rfl) (by decide) (by decide) (by decide) ?_
    rintro _ _ ⟨rfl, rfl⟩
    exact x_iret rfl rfl (nar_b _) ⟨rfl, rfl⟩
  refine Cn.intro gX12_isPerson rfl (Nat.le_of_ble_eq_true rfl) rfl ?_
  repeat refine x_s rfl rfl ?_
  refine x_br rfl rfl (fun c1 => ?_) (fun c1 => ?_)
  · iterate 1 refine x_s rfl rfl ?_
    refine fin false ?_
    cases hq : inB x n
    · rfl
    · exact absurd c1 ((inB_d hn (by omega)).mpr hq).1
  · repeat refine x_s rfl rfl ?_
    refine x_br rfl rfl (fun c2 => ?_) (fun c2 => ?_)
    · iterate 1 refine x_s rfl rfl ?_
      refine fin false ?_
      cases hq : inB x n
      · rfl
      · exact absurd c2 ((inB_d hn (by omega)).mpr hq).2
    · iterate 2 refine x_s rfl rfl ?_
      exact fin true ((inB_d hn (by omega)).mp ⟨c1, c2⟩).symm
set_option maxRecDepth 100000 in
set_option maxHeartbeats 1600000 in
theorem k_isNeedle (h0 : d 112 0 = 0) {n : Nat} (hn : d 112 2 = nI n) (hn2 : n ≤ 1000) (x : Int32) : Cn mX12_isNeedle false 2 0 0 [.ref 112, .int x] (W0 d L) (qW d L (inB x n) 1) := by
  have fin : ∀ b : Bool, b = inB x n → Ex mX12_isNeedle false 2 0 0 18 [some (.ref 112), some (.int x)] [.int (bI b), .ref 112] (W0 d L) (qW d L (inB x n) 1) nX := by
    intro b hb
    subst hb
    repeat refine x_s rfl rfl ?_
    refine x_cv (k_right d L h0 _ 1 (by decide)) rfl rfl rfl (by decide) rfl (by decide) rfl (Nat.le_of_ble_eq_true rfl) (by decide) (by decide) (by decide) ?_
    rintro _ _ ⟨rfl, rfl⟩
    exact x_iret rfl rfl (nar_b _) ⟨rfl, rfl⟩
  refine Cn.intro gX12_isNeedle rfl (Nat.le_of_ble_eq_true rfl) rfl ?_
  repeat refine x_s rfl rfl ?_
  refine x_br rfl rfl (fun c1 => ?_) (fun c1 => ?_)
  · iterate 1 refine x_s rfl rfl ?_
    refine fin false ?_
    cases hq : inB x n
    · rfl
    · exact absurd c1 ((inB_d hn (by omega)).mpr hq).1
  · repeat refine x_s rfl rfl ?_
    refine x_br rfl rfl (fun c2 => ?_) (fun c2 => ?_)
    · iterate 1 refine x_s rfl rfl ?_
      refine fin false ?_
      cases hq : inB x n
      · rfl
      · exact absurd c2 ((inB_d hn (by omega)).mpr hq).2
    · iterate 2 refine x_s rfl rfl ?_
      exact fin true ((inB_d hn (by omega)).mp ⟨c1, c2⟩).symm
set_option maxRecDepth 100000 in
set_option maxHeartbeats 1600000 in
theorem k_isSaying (h0 : d 112 0 = 0) {n : Nat} (hn : d 128 0 = nI n) (hn2 : n ≤ 1000) (x : Int32) : Cn mX12_isSaying false 2 0 0 [.ref 112, .int x] (W0 d L) (qW d L (inB x n) 1) := by
  have fin : ∀ b : Bool, b = inB x n → Ex mX12_isSaying false 2 0 0 20 [some (.ref 112), some (.int x)] [.int (bI b), .ref 112] (W0 d L) (qW d L (inB x n) 1) nX := by
    intro b hb
    subst hb
    repeat refine x_s rfl rfl ?_
    refine x_cv (k_right d L h0 _ 1 (by decide)) rfl rfl rfl (by decide) rfl (by decide) rfl (Nat.le_of_ble_eq_true rfl) (by decide) (by decide) (by decide) ?_
    rintro _ _ ⟨rfl, rfl⟩
    exact x_iret rfl rfl (nar_b _) ⟨rfl, rfl⟩
  refine Cn.intro gX12_isSaying rfl (Nat.le_of_ble_eq_true rfl) rfl ?_
  repeat refine x_s rfl rfl ?_
  refine x_br rfl rfl (fun c1 => ?_) (fun c1 => ?_)
  · iterate 1 refine x_s rfl rfl ?_
    refine fin false ?_
    cases hq : inB x n
    · rfl
    · exact absurd c1 ((inB_d hn (by omega)).mpr hq).1
  · repeat refine x_s rfl rfl ?_
    refine x_ald rfl rfl rfl (k := 0) (rfl) (by omega) (by decide) rfl ?_
    refine x_br rfl rfl (fun c2 => ?_) (fun c2 => ?_)
    · iterate 1 refine x_s rfl rfl ?_
      refine fin false ?_
      cases hq : inB x n
      · rfl
      · exact absurd c2 ((inB_d hn (by omega)).mpr hq).2
    · iterate 2 refine x_s rfl rfl ?_
      exact fin true ((inB_d hn (by omega)).mp ⟨c1, c2⟩).symm
theorem wi_L {x : Int32} : decide ((1 : Int32).toInt ≤ x.toInt ∧ x.toInt ≤ (9 : Int32).toInt) = decide (1 ≤ x.toInt ∧ x.toInt ≤ 9) := rfl
set_option maxRecDepth 100000 in
set_option maxHeartbeats 1600000 in
theorem k_isLie (h0 : d 112 0 = 0) (x y : Int32) : Cn mX12_isLie false 2 0 0 [.ref 112, .int x, .int y] (W0 d L) (qW d L (inL x y) 2) := by
  have fin : ∀ b : Bool, b = inL x y → Ex mX12_isLie false 2 0 0 26 [some (.ref 112), some (.int x), some (.int y)] [.int (bI b), .ref 112] (W0 d L) (qW d L (inL x y) 2) nX := by
    intro b hb
    subst hb
    repeat refine x_s rfl rfl ?_
    refine x_cv (k_right d L h0 _ 2 (by decide)) rfl rfl rfl (by decide) rfl (by decide) rfl (Nat.le_of_ble_eq_true rfl) (by decide) (by decide) (by decide) ?_
    rintro _ _ ⟨rfl, rfl⟩
    exact x_iret rfl rfl (nar_b _) ⟨rfl, rfl⟩
  refine Cn.intro gX12_isLie rfl (Nat.le_of_ble_eq_true rfl) rfl ?_
  repeat refine x_s rfl rfl ?_
  refine x_cs (k_within d L x 1 9) rfl rfl rfl (by decide) (Nat.le_of_ble_eq_true rfl) (by decide) (by decide) (by decide) ?_
  rintro _ _ ⟨rfl, rfl⟩
  rw [wi_L]
  refine x_br rfl rfl (fun c1 => ?_) (fun c1 => ?_)
  · iterate 1 refine x_s rfl rfl ?_
    exact fin false (by rw [inL, bI_0.mp c1]; rfl)
  · repeat refine x_s rfl rfl ?_
    refine x_cs (k_within d L y 0 99) rfl rfl rfl (by decide) (Nat.le_of_ble_eq_true rfl) (by decide) (by decide) (by decide) ?_
    rintro _ _ ⟨rfl, rfl⟩
    rw [wi_B (m := 99) rfl]
    refine x_br rfl rfl (fun c2 => ?_) (fun c2 => ?_)
    · iterate 1 refine x_s rfl rfl ?_
      exact fin false (by rw [inL, bI_0.mp c2, Bool.and_false])
    · iterate 2 refine x_s rfl rfl ?_
      exact fin true (by rw [inL, bI_n0.mp c1, bI_n0.mp c2]; rfl)
set_option maxRecDepth 100000 in
set_option maxHeartbeats 1600000 in
theorem k_adds {n : Nat} (hn : d 112 46 = nI n) (h2 : n < 120) (x y z : Int32) : Cn mX12_adds false 1 0 0 [.ref 112, .int x, .int y, .int z] (W0 d L) (fun r h => r = none ∧ h = W0 (up2 (up2 (up2 (up2 d 132 n x) 133 n y) 134 n z) 112 46 (nI (n + 1))) L) := by
  refine Cn.intro gX12_adds rfl (Nat.le_of_ble_eq_true rfl) rfl ?_
  repeat refine x_s rfl rfl ?_
  refine x_iast rfl rfl (k := n) (hn) (by omega) (by decide) rfl ?_
  repeat refine x_s rfl rfl ?_
  refine x_iast rfl rfl (k := n) (hn) (by omega) (by decide) rfl ?_
  repeat refine x_s rfl rfl ?_
  refine x_iast rfl rfl (k := n) (hn) (by omega) (by decide) rfl ?_
  repeat refine x_s rfl rfl ?_
  refine x_put rfl rfl (by decide) rfl ⟨rfl, rfl⟩ (Or.inl rfl) ?_
  have e : nI (n + 1) = d 112 46 + 1 := by rw [hn, nI_1]
  refine x_vret rfl rfl ⟨rfl, ?_⟩
  rw [e]
  rfl
/-- the fair with its first k sayings alone -/
def fst0 (F : Fr) (k : Nat) : Fr := (up2 F.1 9 0 k, F.2)
set_option maxRecDepth 100000 in
set_option maxHeartbeats 1600000 in
theorem k_lays0 (H : HB d F) (R : RG F) (b : Bool) : Cn mX12_lays0 false 2 0 0 [.ref 112, .int (bI b)] (W0 d L) (fun r h => r = none ∧ ∃ d', h = W0 d' L ∧ mS d d' ∧ d' 112 0 = d 112 0 ∧ HL d' (fst0 F (if b then F.1 9 0 else 0)) false false) := by
  have r2 := R.2.1
  have r3 := R.2.2.1
  have nd : ∀ m, m = (if b then F.1 9 0 else 0) → ∀ k, k ≤ 6 → ∀ d1, mS d d1 → d1 112 0 = d 112 0 → d1 112 46 = nI m → (∀ s, s < m → d1 132 s = nI (F.1 10 s) ∧ d1 133 s = nI (F.1 11 s) ∧ d1 134 s = nI (F.1 12 s)) → (∀ n, n < k → d1 135 n = d 128 (49 + n) ∧ d1 136 n = d 128 (55 + n) ∧ d1 137 n = d 128 (61 + n)) → Ex mX12_lays0 false 2 0 0 59 [some (.ref 112), some (.int (bI b)), some (.int (nI k))] [] (W0 d1 L) (fun r h => r = none ∧ ∃ d', h = W0 d' L ∧ mS d d' ∧ d' 112 0 = d 112 0 ∧ HL d' (fst0 F (if b then F.1 9 0 else 0)) false false) nX := by
    intro m hm
    refine x_down _ ?_ ?_
    · intro d1 hs h0 h46 hl hn
      repeat refine x_s rfl rfl ?_
      refine x_br rfl rfl (fun c => ?_) (fun c => absurd c (fun z => z (by decide)))
      refine x_vret rfl rfl ⟨rfl, d1, rfl, hs, h0, ?_⟩
      rw [← hm]
      obtain ⟨a1, a2, a3, a4, a5, a6, a7, a8⟩ := HB_mS R H hs
      have q5 := H.2.2.2.2.1
      refine ⟨a1, a2, h46, fun p hp => ?_, fun n hn0 => ?_, hl, a6, a7⟩
      · rcases hp with hp | hp
        · exact a3 p hp
        · exact absurd hp.1 (by decide)
      · rcases hn0 with hn0 | hn0
        · have hn' : n < F.1 4 0 := hn0
          obtain ⟨b1, b2, b3⟩ := hn n (by omega)
          have q := q5.2.2 n hn'
          simp only [Nat.zero_add] at q
          exact ⟨b1.trans q.1, b2.trans q.2.1, a4 n hn', b3.trans q.2.2⟩
        · exact absurd hn0.1 (by decide)
    · intro k hk ih d1 hs h0 h46 hl hn
      have e128 : d1 128 = d 128 := hs.1 128 (by decide)
      repeat refine x_s rfl rfl ?_
      refine x_br rfl rfl (fun c => absurd c (nI_ge (b := 6) hk (by decide))) (fun c => ?_)
      repeat refine x_s rfl rfl ?_
      rw [show (49 : Int32) + nI k = nI (49 + k) from nI_add 49 k]
      refine x_ald rfl rfl rfl (k := 49 + k) (rfl) (by omega) (by decide) rfl ?_
      refine x_iast rfl rfl (k := k) (rfl) (by omega) (by decide) rfl ?_
      repeat refine x_s rfl rfl ?_
      rw [show (55 : Int32) + nI k = nI (55 + k) from nI_add 55 k]
      refine x_ald rfl rfl rfl (k := 55 + k) (rfl) (by omega) (by decide) rfl ?_
      refine x_iast rfl rfl (k := k) (rfl) (by omega) (by decide) rfl ?_
      repeat refine x_s rfl rfl ?_
      rw [show (61 : Int32) + nI k = nI (61 + k) from nI_add 61 k]
      refine x_ald rfl rfl rfl (k := 61 + k) (rfl) (by omega) (by decide) rfl ?_
      refine x_iast rfl rfl (k := k) (rfl) (by omega) (by decide) rfl ?_
      iterate 2 refine x_s rfl rfl ?_
      rw [nI_1]
      refine ih _ (mS_c (mS_c (mS_c hs (by decide)) (by decide)) (by decide)) h0 h46 hl ?_
      intro n hn2
      by_cases e : n = k
      · subst e
        refine ⟨?_, ?_, ?_⟩
        · exact (show (if n = n then d1 128 (49 + n) else d1 135 n) = _ by rw [if_pos rfl, e128])
        · exact (show (if n = n then d1 128 (55 + n) else d1 136 n) = _ by rw [if_pos rfl, e128])
        · exact (show (if n = n then d1 128 (61 + n) else d1 137 n) = _ by rw [if_pos rfl, e128])
      · have q := hn n (by omega)
        exact ⟨(show (if n = k then d1 128 (49 + k) else d1 135 n) = _ by rw [if_neg e]; exact q.1), (show (if n = k then d1 128 (55 + k) else d1 136 n) = _ by rw [if_neg e]; exact q.2.1), (show (if n = k then d1 128 (61 + k) else d1 137 n) = _ by rw [if_neg e]; exact q.2.2)⟩
  have row := H.2.2.2.2.1
  have r128 : d 128 0 = nI (F.1 9 0) := row.1
  have sy : ∀ k, k ≤ F.1 9 0 → ∀ d1, (b = false → k = 0) → mS d d1 → d1 112 0 = d 112 0 → d1 112 46 = nI k → (∀ s, s < k → d1 132 s = nI (F.1 10 s) ∧ d1 133 s = nI (F.1 11 s) ∧ d1 134 s = nI (F.1 12 s)) → Ex mX12_lays0 false 2 0 0 7 [some (.ref 112), some (.int (bI b)), some (.int (nI k))] [] (W0 d1 L) (fun r h => r = none ∧ ∃ d', h = W0 d' L ∧ mS d d' ∧ d' 112 0 = d 112 0 ∧ HL d' (fst0 F (if b then F.1 9 0 else 0)) false false) nX := by
    refine x_down _ ?_ ?_
    · intro d1 hb hs h0 h46 hl
      have e128 : d1 128 = d 128 := hs.1 128 (by decide)
      repeat refine x_s rfl rfl ?_
      refine x_ald rfl rfl rfl (k := 0) (rfl) (by omega) (by decide) rfl ?_
      refine x_br rfl rfl (fun c => ?_) (fun c => absurd c (fun z => z (by rw [e128, r128]; exact Int32.le_refl _)))
      iterate 2 refine x_s rfl rfl ?_
      refine nd (F.1 9 0) ?_ 0 (by decide) d1 hs h0 h46 hl (fun n hn => by omega)
      cases b
      · exact hb rfl
      · rfl
    · intro k hk ih d1 hb hs h0 h46 hl
      have e128 : d1 128 = d 128 := hs.1 128 (by decide)
      have q := row.2.1 k hk
      simp only [Nat.zero_add] at q
      repeat refine x_s rfl rfl ?_
      refine x_ald rfl rfl rfl (k := 0) (rfl) (by omega) (by decide) rfl ?_
      refine x_br rfl rfl (fun c => absurd c (by rw [e128, r128]; exact nI_ge hk (by omega))) (fun c => ?_)
      repeat refine x_s rfl rfl ?_
      cases b
      · have hb0 := hb rfl
        subst hb0
        refine x_br rfl rfl (fun c => ?_) (fun c => absurd c (fun z => z rfl))
        iterate 2 refine x_s rfl rfl ?_
        exact nd 0 rfl 0 (by decide) d1 hs h0 h46 (fun s hs => by omega) (fun n hn => by omega)
      · refine x_br rfl rfl (fun c => absurd c (by decide)) (fun c => ?_)
        repeat refine x_s rfl rfl ?_
        rw [show (1 : Int32) + nI k = nI (1 + k) from nI_add 1 k]
        refine x_ald rfl rfl rfl (k := 1 + k) (rfl) (by omega) (by decide) rfl ?_
        repeat refine x_s rfl rfl ?_
        rw [show (17 : Int32) + nI k = nI (17 + k) from nI_add 17 k]
        refine x_ald rfl rfl rfl (k := 17 + k) (rfl) (by omega) (by decide) rfl ?_
        repeat refine x_s rfl rfl ?_
        rw [show (33 : Int32) + nI k = nI (33 + k) from nI_add 33 k]
        refine x_ald rfl rfl rfl (k := 33 + k) (rfl) (by omega) (by decide) rfl ?_
        rw [e128, q.1, q.2.1, q.2.2]
        refine x_cv (k_adds d1 L h46 (by omega) _ _ _) rfl rfl rfl (by decide) rfl (by decide) rfl (Nat.le_of_ble_eq_true rfl) (by decide) (by decide) (by decide) ?_
        rintro _ _ ⟨rfl, rfl⟩
        iterate 2 refine x_s rfl rfl ?_
        rw [nI_1]
        refine ih _ (fun z => by cases z) (mS_f (mS_c (mS_c (mS_c hs (by decide)) (by decide)) (by decide)) (by simp)) h0 rfl ?_
        intro s hs2
        by_cases e : s = k
        · subst e
          exact ⟨if_pos rfl, if_pos rfl, if_pos rfl⟩
        · have q2 := hl s (by omega)
          exact ⟨(if_neg e).trans q2.1, (if_neg e).trans q2.2.1, (if_neg e).trans q2.2.2⟩
  refine Cn.intro gX12_lays0 rfl (Nat.le_of_ble_eq_true rfl) rfl ?_
  repeat refine x_s rfl rfl ?_
  refine x_put rfl rfl (by decide) rfl ⟨rfl, rfl⟩ (Or.inl rfl) ?_
  iterate 2 refine x_s rfl rfl ?_
  exact sy 0 (Nat.zero_le _) _ (fun _ => rfl) (mS_f mS_rfl (by simp)) rfl rfl (fun s hs => by omega)
end
