/-! THE MODEL reads tokens -/
theorem kof_3 {c : Nat} : kof c = 3 ↔ c = 32 ∨ c = 10 := by
  unfold kof
  split
  · rename_i h
    exact ⟨fun _ => h, fun _ => rfl⟩
  · rename_i h
    refine ⟨fun z => ?_, fun z => absurd z h⟩
    split at z
    · omega
    split at z
    · omega
    split at z <;> omega
theorem kof_1i {c : Nat} : kof c = 1 ↔ 97 ≤ c ∧ c ≤ 122 := by
  refine ⟨kof_1, fun h => ?_⟩
  unfold kof
  rw [if_neg (by omega), if_pos h]
theorem kof_2i {c : Nat} : kof c = 2 ↔ 48 ≤ c ∧ c ≤ 57 := by
  refine ⟨kof_2, fun h => ?_⟩
  unfold kof
  rw [if_neg (by omega), if_neg (by omega), if_pos h]
def srt (k : Nat) : Nat := if k = 0 then 0 else if k = 1 then 1 else if k = 2 then 2 else if k = 4 then 4 else 3
/-- letters as a number, five bits each -/
def pk (T : Nat → Nat) (s : Nat) : Nat → Nat
  | 0 => 0
  | k + 1 => 32 * pk T s k + (T (s + k) - 96)
def pkR : List Nat → Nat
  | [] => 0
  | c :: r => 32 * pkR r + (c - 96)
theorem wmt_app {T : Nat → Nat} : ∀ (r : List Nat) (s c : Nat), wmt T s (r ++ [c]) = (wmt T s r && decide (T (s + r.length) = c))
  | [], s, c => by
    show (decide (T s = c) && wmt T (s + 1) []) = (true && decide (T (s + 0) = c))
    rw [Bool.true_and]
    exact Bool.and_true _
  | a :: r, s, c => by
    show (decide (T s = a) && wmt T (s + 1) (r ++ [c])) = ((decide (T s = a) && wmt T (s + 1) r) && decide (T (s + (r.length + 1)) = c))
    rw [wmt_app r (s + 1) c, Bool.and_assoc, show s + 1 + r.length = s + (r.length + 1) by omega]
theorem pk_i {T : Nat → Nat} {s : Nat} : ∀ (r : List Nat) (k : Nat), (∀ j, j < k → 97 ≤ T (s + j) ∧ T (s + j) ≤ 122) → (∀ c ∈ r, 97 ≤ c ∧ c ≤ 122) → (pkR r = pk T s k ↔ (k = r.length ∧ wmt T s r.reverse = true))
  | [], 0, _, _ => ⟨fun _ => ⟨rfl, rfl⟩, fun _ => rfl⟩
  | [], k + 1, h, _ => by
    have := h k (by omega)
    refine ⟨fun z => ?_, fun z => absurd z.1 (by simp)⟩
    unfold pkR pk at z
    omega
  | c :: r, 0, _, h => by
    have := h c List.mem_cons_self
    refine ⟨fun z => ?_, fun z => absurd z.1 (by simp)⟩
    unfold pkR pk at z
    omega
  | c :: r, k + 1, h, h' => by
    have a := h k (by omega)
    have b := h' c List.mem_cons_self
    have ih := pk_i r k (fun j hj => h j (by omega)) (fun q hq => h' q (List.mem_cons_of_mem _ hq))
    unfold pkR pk
    rw [List.reverse_cons, wmt_app, List.length_reverse, Bool.and_eq_true, decide_eq_true_eq, List.length_cons]
    constructor
    · intro z
      have z2 := ih.mp (by omega)
      refine ⟨by omega, z2.2, ?_⟩
      rw [← z2.1]
      omega
    · rintro ⟨z1, z2, z3⟩
      have z4 := ih.mpr ⟨by omega, z2⟩
      rw [show r.length = k by omega] at z3
      omega
theorem pk_b {T : Nat → Nat} {s : Nat} : ∀ k, (∀ j, j < k → 97 ≤ T (s + j) ∧ T (s + j) ≤ 122) → pk T s k < 32 ^ k
  | 0, _ => Nat.lt_of_lt_of_le Nat.zero_lt_one (Nat.le_refl 1)
  | k + 1, h => by
    have ih := pk_b k (fun j hj => h j (by omega))
    have a := h k (by omega)
    unfold pk
    rw [Nat.pow_succ]
    omega
def lI (a : Nat) : Int64 := Int64.ofNat a
theorem lI_inj {a b : Nat} (ha : a < 2 ^ 40) (hb : b < 2 ^ 40) : lI a = lI b ↔ a = b := by
  refine ⟨fun h => ?_, fun h => by rw [h]⟩
  have h2 := congrArg Int64.toInt h
  unfold lI at h2
  rw [Int64.toInt_ofNat_of_lt (by omega), Int64.toInt_ofNat_of_lt (by omega)] at h2
  omega
theorem lI_sh {a b : Nat} (ha : a < 2 ^ 30) (hb : b < 32) : (lI a <<< ((5 : Int32).toInt64 &&& 63)) ||| (nI b).toInt64 = lI (32 * a + b) := by
  apply Int64.toBitVec_inj.mp
  rw [Int64.toBitVec_or, Int64.toBitVec_shiftLeft]
  have e5 : (((5 : Int32).toInt64 &&& 63).toBitVec.smod 64).toNat = 5 := by decide
  have eb : (nI b).toInt64.toBitVec = BitVec.ofNat 64 b := by
    have : ∀ b, b < 32 → (nI b).toInt64.toBitVec = BitVec.ofNat 64 b := by decide +kernel
    exact this b hb
  show (lI a).toBitVec <<< (((5 : Int32).toInt64 &&& 63).toBitVec.smod 64).toNat ||| _ = _
  rw [e5, eb]
  show BitVec.ofNat 64 a <<< 5 ||| BitVec.ofNat 64 b = BitVec.ofNat 64 (32 * a + b)
  apply BitVec.eq_of_toNat_eq
  rw [BitVec.toNat_or, BitVec.toNat_shiftLeft, BitVec.toNat_ofNat, BitVec.toNat_ofNat, BitVec.toNat_ofNat, Nat.mod_eq_of_lt (a := a) (by omega), Nat.mod_eq_of_lt (a := b) (by omega), Nat.mod_eq_of_lt (a := 32 * a + b) (by omega), Nat.shiftLeft_eq, Nat.mod_eq_of_lt (by omega)]
  have := Nat.two_pow_add_eq_or_of_lt (i := 5) hb a
  rw [show a * 2 ^ 5 = 2 ^ 5 * a from Nat.mul_comm _ _, ← this]
def HXM (d : Nat → Nat → Int32) (T : Nat → Nat) (n : Nat) : Prop := d 112 15 = nI n ∧ (∀ j, j < n → d 118 j = nI (T j)) ∧ d 112 13 = -1
def MXs (d : Nat → Nat → Int32) (L : Nat → Nat → Int64) (T : Nat → Nat) (n s : Nat) : Prop := HXM d T n ∧ d 112 16 = nI (tE T n s) ∧ d 112 18 = nI s ∧ d 112 19 = nI (tE T n s - s) ∧ d 112 17 = nI (srt (tK T n s)) ∧ d 112 20 = nI (tN T n s) ∧ d 112 21 = nI (if s < n then T s else 0) ∧ L 112 22 = lI (if tK T n s = 1 then pk T s (min (tE T n s - s) 6) else 0)
def MT (d : Nat → Nat → Int32) (L : Nat → Nat → Int64) (T : Nat → Nat) (n : Nat) (l : List Tk) : Prop := ∃ i, i ≤ n ∧ l = TL T n i ∧ MXs d L T n (tS T n i)
def MF (d d' : Nat → Nat → Int32) : Prop := (∀ c, c ≠ 112 → d' c = d c) ∧ ∀ k, k < 16 ∨ 21 < k → d' 112 k = d 112 k
def ML (L L' : Nat → Nat → Int64) : Prop := ∀ c, c ≠ 112 → L' c = L c
theorem MF_rfl {d : Nat → Nat → Int32} : MF d d := ⟨fun _ _ => rfl, fun _ _ => rfl⟩
theorem MF_tr {d d' d'' : Nat → Nat → Int32} (h : MF d d') (h' : MF d' d'') : MF d d'' := ⟨fun c hc => (h'.1 c hc).trans (h.1 c hc), fun k a => (h'.2 k a).trans (h.2 k a)⟩
theorem MF_up {d d' : Nat → Nat → Int32} {k : Nat} {x : Int32} (h : MF d d') (h1 : 16 ≤ k) (h2 : k ≤ 21) : MF d (up2 d' 112 k x) := by
  refine ⟨fun c hc => (up2_ne hc).trans (h.1 c hc), fun j a => ?_⟩
  rw [up2_k (by omega)]
  exact h.2 j a
theorem ML_rfl {L : Nat → Nat → Int64} : ML L L := fun _ _ => rfl
theorem ML_tr {L L' L'' : Nat → Nat → Int64} (h : ML L L') (h' : ML L' L'') : ML L L'' := fun c hc => (h' c hc).trans (h c hc)
theorem ML_up {L L' : Nat → Nat → Int64} {k : Nat} {v : Int64} (h : ML L L') : ML L (up2 L' 112 k v) := fun c hc => (up2_ne (c' := c) (c := 112) hc).trans (h c hc)
theorem HXM_MF {d d' : Nat → Nat → Int32} {T : Nat → Nat} {n : Nat} (H : HXM d T n) (h : MF d d') : HXM d' T n := by
  refine ⟨(h.2 15 (by decide)).trans H.1, fun j hj => ?_, (h.2 13 (by decide)).trans H.2.2⟩
  rw [h.1 118 (by decide)]
  exact H.2.1 j hj
def bA (T : Nat → Nat) (n j : Nat) : Nat := if j < n then T j else 0
theorem bA_lt {T : Nat → Nat} {n j : Nat} (hT : ∀ j, T j < 256) : bA T n j < 256 := by
  unfold bA
  split
  · exact hT j
  · decide
section
variable (d : Nat → Nat → Int32) (L : Nat → Nat → Int64) {T : Nat → Nat} {n : Nat}
set_option maxRecDepth 100000 in
set_option maxHeartbeats 1600000 in
theorem k_byteAt {j : Nat} (hn : n ≤ 700) (hj : j ≤ n) (H : HXM d T n) : Cn mX12_byteAt false 1 0 0 [.ref 112, .int (nI j)] (W0 d L) (qP d L (nI (bA T n j))) := by
  refine Cn.intro gX12_byteAt rfl (Nat.le_of_ble_eq_true rfl) rfl ?_
  repeat refine x_s rfl rfl ?_
  rw [H.1]
  unfold bA
  rcases Nat.lt_or_ge j n with h | h
  · refine x_br rfl rfl (fun c => absurd c (nI_ge h (by omega))) (fun c => ?_)
    repeat refine x_s rfl rfl ?_
    refine x_ald rfl rfl rfl (k := j) (rfl) (by omega) (by decide) rfl ?_
    repeat refine x_s rfl rfl ?_
    refine x_iret rfl rfl rfl ⟨congrArg (fun z => some (Value.int z)) ?_, rfl⟩
    rw [if_pos h, H.2.1 j h]
  · refine x_br rfl rfl (fun c => ?_) (fun c => absurd c (fun z => z (nI_le h (by omega))))
    repeat refine x_s rfl rfl ?_
    refine x_iret rfl rfl rfl ⟨congrArg (fun z => some (Value.int z)) ?_, rfl⟩
    rw [if_neg (by omega)]
    rfl
set_option maxRecDepth 100000 in
set_option maxHeartbeats 1600000 in
theorem k_isLetter {c : Nat} (hc : c < 1000) : Cn mX12_isLetter false 1 0 0 [.int (nI c)] (W0 d L) (qP d L (bI (decide (kof c = 1)))) := by
  have e97 : (97 : Int32).toInt = 97 := rfl
  have e122 : (122 : Int32).toInt = 122 := rfl
  refine Cn.intro gX12_isLetter rfl (Nat.le_of_ble_eq_true rfl) rfl ?_
  repeat refine x_s rfl rfl ?_
  refine x_br rfl rfl (fun c1 => ?_) (fun c1 => ?_)
  · rw [ilt, nI_tI (by omega), e97] at c1
    repeat refine x_s rfl rfl ?_
    refine x_iret rfl rfl rfl ⟨congrArg (fun z => some (Value.int z)) ?_, rfl⟩
    rw [decide_eq_false (by rw [kof_1i]; omega)]
    rfl
  rw [ilt, nI_tI (by omega), e97] at c1
  repeat refine x_s rfl rfl ?_
  refine x_br rfl rfl (fun c2 => ?_) (fun c2 => ?_)
  · rw [ilt, nI_tI (by omega), e122] at c2
    repeat refine x_s rfl rfl ?_
    refine x_iret rfl rfl rfl ⟨congrArg (fun z => some (Value.int z)) ?_, rfl⟩
    rw [decide_eq_false (by rw [kof_1i]; omega)]
    rfl
  rw [ilt, nI_tI (by omega), e122] at c2
  repeat refine x_s rfl rfl ?_
  refine x_iret rfl rfl rfl ⟨congrArg (fun z => some (Value.int z)) ?_, rfl⟩
  rw [decide_eq_true (by rw [kof_1i]; omega)]
  rfl
set_option maxRecDepth 100000 in
set_option maxHeartbeats 1600000 in
theorem k_isDigit {c : Nat} (hc : c < 1000) : Cn mX12_isDigit false 1 0 0 [.int (nI c)] (W0 d L) (qP d L (bI (decide (kof c = 2)))) := by
  have e97 : (48 : Int32).toInt = 48 := rfl
  have e122 : (57 : Int32).toInt = 57 := rfl
  refine Cn.intro gX12_isDigit rfl (Nat.le_of_ble_eq_true rfl) rfl ?_
  repeat refine x_s rfl rfl ?_
  refine x_br rfl rfl (fun c1 => ?_) (fun c1 => ?_)
  · rw [ilt, nI_tI (by omega), e97] at c1
    repeat refine x_s rfl rfl ?_
    refine x_iret rfl rfl rfl ⟨congrArg (fun z => some (Value.int z)) ?_, rfl⟩
    rw [decide_eq_false (by rw [kof_2i]; omega)]
    rfl
  rw [ilt, nI_tI (by omega), e97] at c1
  repeat refine x_s rfl rfl ?_
  refine x_br rfl rfl (fun c2 => ?_) (fun c2 => ?_)
  · rw [ilt, nI_tI (by omega), e122] at c2
    repeat refine x_s rfl rfl ?_
    refine x_iret rfl rfl rfl ⟨congrArg (fun z => some (Value.int z)) ?_, rfl⟩
    rw [decide_eq_false (by rw [kof_2i]; omega)]
    rfl
  rw [ilt, nI_tI (by omega), e122] at c2
  repeat refine x_s rfl rfl ?_
  refine x_iret rfl rfl rfl ⟨congrArg (fun z => some (Value.int z)) ?_, rfl⟩
  rw [decide_eq_true (by rw [kof_2i]; omega)]
  rfl
theorem srt_s {k : Nat} (h0 : ¬ k = 0) (h1 : ¬ k = 1) (h2 : ¬ k = 2) : srt k = if k = 4 then 4 else 3 := by
  unfold srt
  rw [if_neg h0, if_neg h1, if_neg h2]
theorem kof_sg {c : Nat} (h1 : ¬ kof c = 1) (h2 : ¬ kof c = 2) (h3 : ¬ kof c = 3) : (c = 59 ∨ c = 40 ∨ c = 41 ∨ c = 43 ∨ c = 45 ∨ c = 42 ∨ c = 47 ∨ c = 60 ∨ c = 61) ↔ ¬ kof c = 4 := by
  rw [kof_1i] at h1
  rw [kof_2i] at h2
  rw [kof_3] at h3
  have e : kof c = if (40 ≤ c ∧ c ≤ 43) ∨ c = 45 ∨ c = 47 ∨ (59 ≤ c ∧ c ≤ 61) then c else 4 := by
    unfold kof
    rw [if_neg h3, if_neg h1, if_neg h2]
  rw [e]
  split
  · omega
  · omega
set_option maxRecDepth 100000 in
set_option maxHeartbeats 1600000 in
theorem k_go {i : Nat} (hn : n ≤ 700) (hi : i ≤ n) (hT : ∀ j, T j < 256) (H : HXM d T n) (h6 : d 112 16 = nI i) : Cn mX12_goes false 2 0 0 [.ref 112] (W0 d L) (fun r h => r = none ∧ ∃ d' L', h = W0 d' L' ∧ MF d d' ∧ ML L L' ∧ MXs d' L' T n (tS T n i)) := by
  obtain ⟨s1, s2, s3, s4⟩ := tS_sp (T := T) hi
  generalize tS T n i = s at s1 s2 s3 s4 ⊢
  have sk : ∀ Q : xPost, (∀ d1, MF d d1 → d1 112 16 = nI s → Ex mX12_goes false 2 0 0 50 [some (.ref 112), none] [] (W0 d1 L) Q nX) → ∀ k, k ≤ s → i ≤ k → ∀ d1, MF d d1 → d1 112 16 = nI k → Ex mX12_goes false 2 0 0 0 [some (.ref 112), none] [] (W0 d1 L) Q nX := by
    intro Q K
    refine x_down _ ?_ ?_
    · intro _ d1 f1 p1
      have H1 := HXM_MF H f1
      repeat refine x_s rfl rfl ?_
      rw [p1, H1.1]
      rcases Nat.lt_or_ge s n with h | h
      · have s5 := s3 h
        rw [kof_3] at s5
        have eb : bA T n s = T s := by
          unfold bA
          rw [if_pos h]
        refine x_br rfl rfl (fun c => absurd c (nI_ge h (by omega))) (fun c => ?_)
        repeat refine x_s rfl rfl ?_
        rw [p1]
        refine x_cv (k_byteAt d1 L hn s4 H1) rfl rfl rfl (by decide) rfl (by decide) rfl (Nat.le_of_ble_eq_true rfl) (by decide) (by decide) (by decide) ?_
        rintro _ _ ⟨rfl, rfl⟩
        rw [eb]
        repeat refine x_s rfl rfl ?_
        refine x_br rfl rfl (fun c => absurd c (fun z => s5 (Or.inl ((nI_eq (by have := hT s; omega) (by decide)).mp z)))) (fun c => ?_)
        repeat refine x_s rfl rfl ?_
        rw [p1]
        refine x_cv (k_byteAt d1 L hn s4 H1) rfl rfl rfl (by decide) rfl (by decide) rfl (Nat.le_of_ble_eq_true rfl) (by decide) (by decide) (by decide) ?_
        rintro _ _ ⟨rfl, rfl⟩
        rw [eb]
        repeat refine x_s rfl rfl ?_
        refine x_br rfl rfl (fun c => ?_) (fun c => absurd c (fun z => s5 (Or.inr ((nI_eq (by have := hT s; omega) (by decide)).mp z))))
        exact K d1 f1 p1
      · refine x_br rfl rfl (fun c => ?_) (fun c => absurd c (fun z => z (nI_le h (by omega))))
        exact K d1 f1 p1
    · intro k hk ih hik d1 f1 p1
      have H1 := HXM_MF H f1
      obtain ⟨a1, a2⟩ := s2 k hik hk
      rw [kof_3] at a2
      have eb : bA T n k = T k := by
        unfold bA
        rw [if_pos a1]
      have at37 : Ex mX12_goes false 2 0 0 37 [some (.ref 112), none] [] (W0 d1 L) Q nX := by
        repeat refine x_s rfl rfl ?_
        refine x_put rfl rfl (by decide) rfl ⟨rfl, rfl⟩ (Or.inl rfl) ?_
        iterate 1 refine x_s rfl rfl ?_
        rw [show d1 112 16 + 1 = nI (k + 1) from by rw [p1, nI_1]]
        exact ih (by omega) _ (MF_up f1 (by decide) (by decide)) up2_eq
      repeat refine x_s rfl rfl ?_
      rw [p1, H1.1]
      refine x_br rfl rfl (fun c => absurd c (nI_ge a1 (by omega))) (fun c => ?_)
      repeat refine x_s rfl rfl ?_
      rw [p1]
      refine x_cv (k_byteAt d1 L hn (by omega) H1) rfl rfl rfl (by decide) rfl (by decide) rfl (Nat.le_of_ble_eq_true rfl) (by decide) (by decide) (by decide) ?_
      rintro _ _ ⟨rfl, rfl⟩
      rw [eb]
      repeat refine x_s rfl rfl ?_
      rcases a2 with a2 | a2
      · rw [a2]
        refine x_br rfl rfl (fun c => ?_) (fun c => absurd c (fun z => z rfl))
        exact at37
      · rw [a2]
        refine x_br rfl rfl (fun c => absurd c (by decide)) (fun c => ?_)
        repeat refine x_s rfl rfl ?_
        rw [p1]
        refine x_cv (k_byteAt d1 L hn (by omega) H1) rfl rfl rfl (by decide) rfl (by decide) rfl (Nat.le_of_ble_eq_true rfl) (by decide) (by decide) (by decide) ?_
        rintro _ _ ⟨rfl, rfl⟩
        rw [eb, a2]
        repeat refine x_s rfl rfl ?_
        refine x_br rfl rfl (fun c => absurd c (fun z => z rfl)) (fun c => ?_)
        exact at37
  refine Cn.intro gX12_goes rfl (Nat.le_of_ble_eq_true rfl) rfl ?_
  refine sk _ ?_ i s1 (Nat.le_refl _) d MF_rfl h6
  intro d1 f1 p1
  repeat refine x_s rfl rfl ?_
  refine x_put rfl rfl (by decide) rfl ⟨rfl, rfl⟩ (Or.inl rfl) ?_
  repeat refine x_s rfl rfl ?_
  refine x_put rfl rfl (by decide) rfl ⟨rfl, rfl⟩ (Or.inl rfl) ?_
  repeat refine x_s rfl rfl ?_
  refine x_put rfl rfl (by decide) rfl ⟨rfl, rfl⟩ (Or.inl rfl) ?_
  rw [p1]
  have f2 : MF d (up2 (up2 d1 112 18 (nI s)) 112 20 0) := MF_up (MF_up f1 (by decide) (by decide)) (by decide) (by decide)
  have p2 : up2 (up2 d1 112 18 (nI s)) 112 20 0 112 16 = nI s := p1
  have t2 : up2 (up2 d1 112 18 (nI s)) 112 20 0 112 18 = nI s := rfl
  have v2 : up2 (up2 d1 112 18 (nI s)) 112 20 0 112 20 = nI 0 := rfl
  have l2 : up2 L 112 22 0 112 22 = lI 0 := rfl
  have g2 : ML L (up2 L 112 22 0) := ML_up ML_rfl
  generalize up2 (up2 d1 112 18 (nI s)) 112 20 0 = d2 at f2 p2 t2 v2 ⊢
  generalize up2 L 112 22 0 = L2 at l2 g2 ⊢
  have H2 := HXM_MF H f2
  repeat refine x_s rfl rfl ?_
  rw [p2]
  refine x_cv (k_byteAt d2 L2 hn s4 H2) rfl rfl rfl (by decide) rfl (by decide) rfl (Nat.le_of_ble_eq_true rfl) (by decide) (by decide) (by decide) ?_
  rintro _ _ ⟨rfl, rfl⟩
  repeat refine x_s rfl rfl ?_
  refine x_put rfl rfl (by decide) rfl ⟨rfl, rfl⟩ (Or.inl rfl) ?_
  have f3 : MF d (up2 d2 112 21 (nI (bA T n s))) := MF_up f2 (by decide) (by decide)
  have p3 : up2 d2 112 21 (nI (bA T n s)) 112 16 = nI s := p2
  have t3 : up2 d2 112 21 (nI (bA T n s)) 112 18 = nI s := t2
  have v3 : up2 d2 112 21 (nI (bA T n s)) 112 20 = nI 0 := v2
  have c3 : up2 d2 112 21 (nI (bA T n s)) 112 21 = nI (bA T n s) := up2_eq
  generalize up2 d2 112 21 (nI (bA T n s)) = d3 at f3 p3 t3 v3 c3 ⊢
  have H3 := HXM_MF H f3
  have fin : ∀ d4 L4, MF d d4 → ML L L4 → d4 112 16 = nI (tE T n s) → d4 112 18 = nI s → d4 112 17 = nI (srt (tK T n s)) → d4 112 20 = nI (tN T n s) → d4 112 21 = nI (bA T n s) → L4 112 22 = lI (if tK T n s = 1 then pk T s (min (tE T n s - s) 6) else 0) → Ex mX12_goes false 2 0 0 331 [some (.ref 112), some (.int (nI (bA T n s)))] [] (W0 d4 L4) (fun r h => r = none ∧ ∃ d' L', h = W0 d' L' ∧ MF d d' ∧ ML L L' ∧ MXs d' L' T n s) nX := by
    intro d4 L4 f4 g4 p4 t4 k4 v4 c4 l4
    have ge := tE_ge (T := T) (n := n) s
    have le : tE T n s ≤ n := by
      rcases Nat.lt_or_ge s n with z | z
      · exact (tE_sp z).2
      · unfold tE
        rw [if_neg (by omega)]
        exact s4
    repeat refine x_s rfl rfl ?_
    refine x_put rfl rfl (by decide) rfl ⟨rfl, rfl⟩ (Or.inl rfl) ?_
    have e : d4 112 16 - d4 112 18 = nI (tE T n s - s) := by rw [p4, t4, nI_s ge (by omega)]
    rw [e]
    refine x_vret rfl rfl ⟨rfl, _, L4, rfl, MF_up f4 (by decide) (by decide), g4, HXM_MF H (MF_up f4 (by decide) (by decide)), p4, t4, up2_eq, k4, v4, c4, l4⟩
  repeat refine x_s rfl rfl ?_
  rw [p3, H3.1]
  rcases Nat.lt_or_ge s n with hs | hs
  rotate_left
  · refine x_br rfl rfl (fun c => absurd c (fun z => absurd (nI_le hs (by omega)) (fun q => absurd z (Int32.not_lt.mpr q)))) (fun c => ?_)
    repeat refine x_s rfl rfl ?_
    refine x_put rfl rfl (by decide) rfl ⟨rfl, rfl⟩ (Or.inl rfl) ?_
    iterate 1 refine x_s rfl rfl ?_
    have eK : tK T n s = 0 := tK_0.mpr hs
    refine fin _ L2 (MF_up f3 (by decide) (by decide)) g2 ?_ t3 ?_ ?_ c3 ?_
    · unfold tE
      rw [if_neg (by omega)]
      exact p3
    · rw [eK]
      rfl
    · unfold tN
      rw [eK, if_neg (by decide)]
      exact v3
    · rw [eK, if_neg (by decide)]
      exact l2
  refine x_br rfl rfl (fun c => ?_) (fun c => absurd c (fun z => z (nI_lt hs (by omega))))
  have eb : bA T n s = T s := by
    unfold bA
    rw [if_pos hs]
  have eK : tK T n s = kof (T s) := by
    unfold tK
    rw [if_pos hs]
  have Ts := hT s
  obtain ⟨w3, w4⟩ := tE_sp (T := T) hs
  repeat refine x_s rfl rfl ?_
  refine x_cs (k_isLetter d3 L2 (c := bA T n s) (by omega)) rfl rfl rfl (by decide) (Nat.le_of_ble_eq_true rfl) (by decide) (by decide) (by decide) ?_
  rintro _ _ ⟨rfl, rfl⟩
  rw [eb]
  by_cases h1 : kof (T s) = 1
  · rw [decide_eq_true h1]
    refine x_br rfl rfl (fun c => absurd c (by decide)) (fun c => ?_)
    rw [← eb]
    obtain ⟨w1, w2⟩ := tE_wd hs (Or.inl h1)
    have lp : ∀ k, k ≤ tE T n s → s ≤ k → ∀ d4 L4, MF d d4 → ML L L4 → d4 112 16 = nI k → d4 112 18 = nI s → d4 112 20 = nI 0 → d4 112 21 = nI (bA T n s) → L4 112 22 = lI (pk T s (min (k - s) 6)) → Ex mX12_goes false 2 0 0 108 [some (.ref 112), some (.int (nI (bA T n s)))] [] (W0 d4 L4) (fun r h => r = none ∧ ∃ d' L', h = W0 d' L' ∧ MF d d' ∧ ML L L' ∧ MXs d' L' T n s) nX := by
      refine x_down _ ?_ ?_
      · intro _ d4 L4 f4 g4 p4 t4 v4 c4 l4
        have H4 := HXM_MF H f4
        repeat refine x_s rfl rfl ?_
        rw [p4]
        refine x_cv (k_byteAt d4 L4 hn w4 H4) rfl rfl rfl (by decide) rfl (by decide) rfl (Nat.le_of_ble_eq_true rfl) (by decide) (by decide) (by decide) ?_
        rintro _ _ ⟨rfl, rfl⟩
        refine x_cs (k_isLetter d4 L4 (c := bA T n (tE T n s)) (by have := bA_lt (n := n) (j := tE T n s) hT; omega)) rfl rfl rfl (by decide) (Nat.le_of_ble_eq_true rfl) (by decide) (by decide) (by decide) ?_
        rintro _ _ ⟨rfl, rfl⟩
        have hf : ¬ kof (bA T n (tE T n s)) = 1 := by
          unfold bA
          split
          · rename_i z
            rw [← h1]
            exact w2 z
          · decide
        rw [decide_eq_false hf]
        refine x_br rfl rfl (fun c => ?_) (fun c => absurd c (fun z => z rfl))
        repeat refine x_s rfl rfl ?_
        refine x_put rfl rfl (by decide) rfl ⟨rfl, rfl⟩ (Or.inl rfl) ?_
        iterate 1 refine x_s rfl rfl ?_
        refine fin _ L4 (MF_up f4 (by decide) (by decide)) g4 p4 t4 ?_ ?_ c4 ?_
        · rw [eK, h1]
          rfl
        · unfold tN
          rw [eK, h1, if_neg (by decide)]
          exact v4
        · rw [eK, if_pos h1]
          exact l4
      · intro k hke ih hsk d4 L4 f4 g4 p4 t4 v4 c4 l4
        have H4 := HXM_MF H f4
        obtain ⟨a1, a2⟩ := w1 k hsk hke
        rw [h1] at a2
        have ebk : bA T n k = T k := by
          unfold bA
          rw [if_pos a1]
        have Tk := hT k
        have at159 : ∀ L5, ML L L5 → L5 112 22 = lI (pk T s (min (k + 1 - s) 6)) → Ex mX12_goes false 2 0 0 159 [some (.ref 112), some (.int (nI (bA T n s)))] [] (W0 d4 L5) (fun r h => r = none ∧ ∃ d' L', h = W0 d' L' ∧ MF d d' ∧ ML L L' ∧ MXs d' L' T n s) nX := by
          intro L5 g5 l5
          repeat refine x_s rfl rfl ?_
          refine x_put rfl rfl (by decide) rfl ⟨rfl, rfl⟩ (Or.inl rfl) ?_
          iterate 1 refine x_s rfl rfl ?_
          rw [show d4 112 16 + 1 = nI (k + 1) from by rw [p4, nI_1]]
          exact ih (by omega) _ L5 (MF_up f4 (by decide) (by decide)) g5 up2_eq t4 v4 c4 l5
        repeat refine x_s rfl rfl ?_
        rw [p4]
        refine x_cv (k_byteAt d4 L4 hn (by omega) H4) rfl rfl rfl (by decide) rfl (by decide) rfl (Nat.le_of_ble_eq_true rfl) (by decide) (by decide) (by decide) ?_
        rintro _ _ ⟨rfl, rfl⟩
        refine x_cs (k_isLetter d4 L4 (c := bA T n k) (by have := bA_lt (n := n) (j := k) hT; omega)) rfl rfl rfl (by decide) (Nat.le_of_ble_eq_true rfl) (by decide) (by decide) (by decide) ?_
        rintro _ _ ⟨rfl, rfl⟩
        rw [ebk, decide_eq_true a2]
        refine x_br rfl rfl (fun c => absurd c (by decide)) (fun c => ?_)
        repeat refine x_s rfl rfl ?_
        rw [p4, t4, nI_s hsk (by omega)]
        rcases Nat.lt_or_ge (k - s) 6 with h | h
        · refine x_br rfl rfl (fun c => absurd c (nI_ge (b := 6) h (by decide))) (fun c => ?_)
          repeat refine x_s rfl rfl ?_
          rw [p4]
          refine x_cv (k_byteAt d4 L4 hn (by omega) H4) rfl rfl rfl (by decide) rfl (by decide) rfl (Nat.le_of_ble_eq_true rfl) (by decide) (by decide) (by decide) ?_
          rintro _ _ ⟨rfl, rfl⟩
          rw [ebk]
          repeat refine x_s rfl rfl ?_
          refine x_put rfl rfl (by decide) rfl ⟨rfl, rfl⟩ (Or.inl rfl) ?_
          obtain ⟨c1, c2⟩ := kof_1 a2
          have vb := pk_b (T := T) (s := s) (k - s) (fun j hj => by
            have := (w1 (s + j) (by omega) (by omega)).2
            rw [h1] at this
            exact kof_1 this)
          have pb : 32 ^ (k - s) ≤ 32 ^ 5 := Nat.pow_le_pow_right (by decide) (by omega)
          have pe : (32 : Nat) ^ 5 = 33554432 := by decide
          refine at159 _ (ML_up g4) ?_
          rw [up2_eq, l4, show (96 : Int32) = nI 96 from rfl, nI_s (by omega) (by omega), lI_sh (by rw [show min (k - s) 6 = k - s by omega]; omega) (by omega), show min (k + 1 - s) 6 = k - s + 1 by omega, show min (k - s) 6 = k - s by omega, show pk T s (k - s + 1) = 32 * pk T s (k - s) + (T (s + (k - s)) - 96) from rfl, show s + (k - s) = k by omega]
        · refine x_br rfl rfl (fun c => ?_) (fun c => absurd c (fun z => z (nI_le (a := 6) h (by omega))))
          refine at159 L4 g4 ?_
          rw [l4, show min (k - s) 6 = 6 by omega, show min (k + 1 - s) 6 = 6 by omega]
    refine lp s (tE_ge s) (Nat.le_refl _) d3 L2 f3 g2 p3 t3 v3 c3 ?_
    rw [Nat.sub_self]
    exact l2
  rw [decide_eq_false h1]
  refine x_br rfl rfl (fun c => ?_) (fun c => absurd c (fun z => z rfl))
  rw [← eb]
  repeat refine x_s rfl rfl ?_
  refine x_cs (k_isDigit d3 L2 (c := bA T n s) (by omega)) rfl rfl rfl (by decide) (Nat.le_of_ble_eq_true rfl) (by decide) (by decide) (by decide) ?_
  rintro _ _ ⟨rfl, rfl⟩
  rw [eb]
  by_cases h2 : kof (T s) = 2
  · rw [decide_eq_true h2]
    refine x_br rfl rfl (fun c => absurd c (by decide)) (fun c => ?_)
    rw [← eb]
    obtain ⟨w1, w2⟩ := tE_wd hs (Or.inr h2)
    have lp : ∀ k, k ≤ tE T n s → s ≤ k → ∀ d4, MF d d4 → d4 112 16 = nI k → d4 112 18 = nI s → d4 112 20 = nI (nvl T s (min (k - s) 4)) → d4 112 21 = nI (bA T n s) → Ex mX12_goes false 2 0 0 187 [some (.ref 112), some (.int (nI (bA T n s)))] [] (W0 d4 L2) (fun r h => r = none ∧ ∃ d' L', h = W0 d' L' ∧ MF d d' ∧ ML L L' ∧ MXs d' L' T n s) nX := by
      refine x_down _ ?_ ?_
      · intro _ d4 f4 p4 t4 v4 c4
        have H4 := HXM_MF H f4
        repeat refine x_s rfl rfl ?_
        rw [p4]
        refine x_cv (k_byteAt d4 L2 hn w4 H4) rfl rfl rfl (by decide) rfl (by decide) rfl (Nat.le_of_ble_eq_true rfl) (by decide) (by decide) (by decide) ?_
        rintro _ _ ⟨rfl, rfl⟩
        refine x_cs (k_isDigit d4 L2 (c := bA T n (tE T n s)) (by have := bA_lt (n := n) (j := tE T n s) hT; omega)) rfl rfl rfl (by decide) (Nat.le_of_ble_eq_true rfl) (by decide) (by decide) (by decide) ?_
        rintro _ _ ⟨rfl, rfl⟩
        have hf : ¬ kof (bA T n (tE T n s)) = 2 := by
          unfold bA
          split
          · rename_i z
            rw [← h2]
            exact w2 z
          · decide
        rw [decide_eq_false hf]
        refine x_br rfl rfl (fun c => ?_) (fun c => absurd c (fun z => z rfl))
        repeat refine x_s rfl rfl ?_
        refine x_put rfl rfl (by decide) rfl ⟨rfl, rfl⟩ (Or.inl rfl) ?_
        iterate 1 refine x_s rfl rfl ?_
        refine fin _ L2 (MF_up f4 (by decide) (by decide)) g2 p4 t4 ?_ ?_ c4 ?_
        · rw [eK, h2]
          rfl
        · unfold tN
          rw [eK, h2, if_pos rfl]
          exact v4
        · rw [eK, h2, if_neg (by decide)]
          exact l2
      · intro k hke ih hsk d4 f4 p4 t4 v4 c4
        have H4 := HXM_MF H f4
        obtain ⟨a1, a2⟩ := w1 k hsk hke
        rw [h2] at a2
        have ebk : bA T n k = T k := by
          unfold bA
          rw [if_pos a1]
        have at237 : ∀ d5, MF d d5 → d5 112 16 = nI k → d5 112 18 = nI s → d5 112 20 = nI (nvl T s (min (k + 1 - s) 4)) → d5 112 21 = nI (bA T n s) → Ex mX12_goes false 2 0 0 237 [some (.ref 112), some (.int (nI (bA T n s)))] [] (W0 d5 L2) (fun r h => r = none ∧ ∃ d' L', h = W0 d' L' ∧ MF d d' ∧ ML L L' ∧ MXs d' L' T n s) nX := by
          intro d5 f5 p5 t5 v5 c5
          repeat refine x_s rfl rfl ?_
          refine x_put rfl rfl (by decide) rfl ⟨rfl, rfl⟩ (Or.inl rfl) ?_
          iterate 1 refine x_s rfl rfl ?_
          rw [show d5 112 16 + 1 = nI (k + 1) from by rw [p5, nI_1]]
          exact ih (by omega) _ (MF_up f5 (by decide) (by decide)) up2_eq t5 v5 c5
        repeat refine x_s rfl rfl ?_
        rw [p4]
        refine x_cv (k_byteAt d4 L2 hn (by omega) H4) rfl rfl rfl (by decide) rfl (by decide) rfl (Nat.le_of_ble_eq_true rfl) (by decide) (by decide) (by decide) ?_
        rintro _ _ ⟨rfl, rfl⟩
        refine x_cs (k_isDigit d4 L2 (c := bA T n k) (by have := bA_lt (n := n) (j := k) hT; omega)) rfl rfl rfl (by decide) (Nat.le_of_ble_eq_true rfl) (by decide) (by decide) (by decide) ?_
        rintro _ _ ⟨rfl, rfl⟩
        rw [ebk, decide_eq_true a2]
        refine x_br rfl rfl (fun c => absurd c (by decide)) (fun c => ?_)
        repeat refine x_s rfl rfl ?_
        rw [p4, t4, nI_s hsk (by omega)]
        rcases Nat.lt_or_ge (k - s) 4 with h | h
        · refine x_br rfl rfl (fun c => absurd c (nI_ge (b := 4) h (by decide))) (fun c => ?_)
          repeat refine x_s rfl rfl ?_
          rw [p4]
          refine x_cv (k_byteAt d4 L2 hn (by omega) H4) rfl rfl rfl (by decide) rfl (by decide) rfl (Nat.le_of_ble_eq_true rfl) (by decide) (by decide) (by decide) ?_
          rintro _ _ ⟨rfl, rfl⟩
          rw [ebk]
          repeat refine x_s rfl rfl ?_
          refine x_put rfl rfl (by decide) rfl ⟨rfl, rfl⟩ (Or.inl rfl) ?_
          obtain ⟨c1, c2⟩ := kof_2 a2
          have vb := nvl_b (T := T) s (k - s) (fun j hj => by
            have := (w1 (s + j) (by omega) (by omega)).2
            rw [h2] at this
            exact kof_2 this)
          have pb : 10 ^ (k - s) ≤ 10 ^ 3 := Nat.pow_le_pow_right (by decide) (by omega)
          have pe : (10 : Nat) ^ 3 = 1000 := by decide
          have ev : (10 : Int32) * d4 112 20 + nI (T k) - 48 = nI (nvl T s (min (k + 1 - s) 4)) := by
            rw [v4, show (10 : Int32) = nI 10 from rfl, nI_mul, nI_add, show (48 : Int32) = nI 48 from rfl, show min (k - s) 4 = k - s by omega, nI_s (by omega) (by omega), show min (k + 1 - s) 4 = k - s + 1 by omega]
            congr 1
            rw [show nvl T s (k - s + 1) = 10 * nvl T s (k - s) + (T (s + (k - s)) - 48) from rfl, show s + (k - s) = k by omega]
            omega
          rw [ev]
          exact at237 _ (MF_up f4 (by decide) (by decide)) p4 t4 up2_eq c4
        · refine x_br rfl rfl (fun c => ?_) (fun c => absurd c (fun z => z (nI_le (a := 4) h (by omega))))
          refine at237 d4 f4 p4 t4 ?_ c4
          rw [v4, show min (k - s) 4 = 4 by omega, show min (k + 1 - s) 4 = 4 by omega]
    refine lp s (tE_ge s) (Nat.le_refl _) d3 f3 p3 t3 ?_ c3
    rw [Nat.sub_self]
    exact v3
  rw [decide_eq_false h2]
  refine x_br rfl rfl (fun c => ?_) (fun c => absurd c (fun z => z rfl))
  rw [← eb]
  have h3 := s3 hs
  have sg := kof_sg h1 h2 h3
  have kl := kof_le (T s)
  repeat refine x_s rfl rfl ?_
  refine x_put rfl rfl (by decide) rfl ⟨rfl, rfl⟩ (Or.inl rfl) ?_
  rw [show d3 112 16 + 1 = nI (s + 1) from by rw [p3, nI_1]]
  have f4 : MF d (up2 d3 112 16 (nI (s + 1))) := MF_up f3 (by decide) (by decide)
  have p4 : up2 d3 112 16 (nI (s + 1)) 112 16 = nI (s + 1) := up2_eq
  have t4 : up2 d3 112 16 (nI (s + 1)) 112 18 = nI s := t3
  have v4 : up2 d3 112 16 (nI (s + 1)) 112 20 = nI 0 := v3
  have c4 : up2 d3 112 16 (nI (s + 1)) 112 21 = nI (bA T n s) := c3
  generalize up2 d3 112 16 (nI (s + 1)) = d4 at f4 p4 t4 v4 c4 ⊢
  have at328 : ∀ y, y = nI (srt (tK T n s)) → Ex mX12_goes false 2 0 0 328 [some (.ref 112), some (.int (nI (bA T n s)))] [.int y, .ref 112] (W0 d4 L2) (fun r h => r = none ∧ ∃ d' L', h = W0 d' L' ∧ MF d d' ∧ ML L L' ∧ MXs d' L' T n s) nX := by
    intro y hy
    refine x_put rfl rfl (by decide) rfl ⟨rfl, rfl⟩ (Or.inl rfl) ?_
    refine fin _ L2 (MF_up f4 (by decide) (by decide)) g2 ?_ t4 hy ?_ c4 ?_
    · unfold tE
      rw [if_pos hs, if_neg (by omega)]
      exact p4
    · unfold tN
      rw [eK, if_neg h2]
      exact v4
    · rw [eK, if_neg h1]
      exact l2
  have at323 : (T s = 59 ∨ T s = 40 ∨ T s = 41 ∨ T s = 43 ∨ T s = 45 ∨ T s = 42 ∨ T s = 47 ∨ T s = 60 ∨ T s = 61) → Ex mX12_goes false 2 0 0 323 [some (.ref 112), some (.int (nI (bA T n s)))] [.ref 112] (W0 d4 L2) (fun r h => r = none ∧ ∃ d' L', h = W0 d' L' ∧ MF d d' ∧ ML L L' ∧ MXs d' L' T n s) nX := by
    intro hsg
    iterate 2 refine x_s rfl rfl ?_
    refine at328 _ ?_
    rw [eK, srt_s (by omega) h1 h2, if_neg (sg.mp hsg)]
    rfl
  rw [← eb] at sg at323
  have eqc : ∀ {m : Nat}, m < 1000 → (nI (bA T n s) = nI m ↔ bA T n s = m) := fun hm => nI_eq (by have := bA_lt (n := n) (j := s) hT; omega) (by omega)
  iterate 3 refine x_s rfl rfl ?_
  refine x_br rfl rfl (fun c1 => ?_) (fun c1 => ?_)
  · exact at323 (Or.inl ((eqc (m := 59) (by decide)).mp c1))
  have c1' := fun z => c1 ((eqc (m := 59) (by decide)).mpr z)
  repeat refine x_s rfl rfl ?_
  refine x_br rfl rfl (fun c2 => ?_) (fun c2 => ?_)
  · exact at323 (Or.inr (Or.inl ((eqc (m := 40) (by decide)).mp c2)))
  have c2' := fun z => c2 ((eqc (m := 40) (by decide)).mpr z)
  repeat refine x_s rfl rfl ?_
  refine x_br rfl rfl (fun c5 => ?_) (fun c5 => ?_)
  · exact at323 (Or.inr (Or.inr (Or.inl ((eqc (m := 41) (by decide)).mp c5))))
  have c5' := fun z => c5 ((eqc (m := 41) (by decide)).mpr z)
  repeat refine x_s rfl rfl ?_
  refine x_br rfl rfl (fun c6 => ?_) (fun c6 => ?_)
  · exact at323 (Or.inr (Or.inr (Or.inr (Or.inl ((eqc (m := 43) (by decide)).mp c6)))))
  have c6' := fun z => c6 ((eqc (m := 43) (by decide)).mpr z)
  repeat refine x_s rfl rfl ?_
  refine x_br rfl rfl (fun c7 => ?_) (fun c7 => ?_)
  · exact at323 (Or.inr (Or.inr (Or.inr (Or.inr (Or.inl ((eqc (m := 45) (by decide)).mp c7))))))
  have c7' := fun z => c7 ((eqc (m := 45) (by decide)).mpr z)
  repeat refine x_s rfl rfl ?_
  refine x_br rfl rfl (fun c8 => ?_) (fun c8 => ?_)
  · exact at323 (Or.inr (Or.inr (Or.inr (Or.inr (Or.inr (Or.inl ((eqc (m := 42) (by decide)).mp c8)))))))
  have c8' := fun z => c8 ((eqc (m := 42) (by decide)).mpr z)
  repeat refine x_s rfl rfl ?_
  refine x_br rfl rfl (fun c9 => ?_) (fun c9 => ?_)
  · exact at323 (Or.inr (Or.inr (Or.inr (Or.inr (Or.inr (Or.inr (Or.inl ((eqc (m := 47) (by decide)).mp c9))))))))
  have c9' := fun z => c9 ((eqc (m := 47) (by decide)).mpr z)
  repeat refine x_s rfl rfl ?_
  refine x_br rfl rfl (fun c10 => ?_) (fun c10 => ?_)
  · exact at323 (Or.inr (Or.inr (Or.inr (Or.inr (Or.inr (Or.inr (Or.inr (Or.inl ((eqc (m := 60) (by decide)).mp c10)))))))))
  have c10' := fun z => c10 ((eqc (m := 60) (by decide)).mpr z)
  repeat refine x_s rfl rfl ?_
  refine x_br rfl rfl (fun c11 => ?_) (fun c11 => ?_)
  rotate_left
  · exact at323 (Or.inr (Or.inr (Or.inr (Or.inr (Or.inr (Or.inr (Or.inr (Or.inr ((eqc (m := 61) (by decide)).mp c11)))))))))
  have c11' := fun z => c11 ((eqc (m := 61) (by decide)).mpr z)
  repeat refine x_s rfl rfl ?_
  refine at328 _ ?_
  have k4 : kof (T s) = 4 := by
    rw [← eb]
    rcases Nat.decEq (kof (bA T n s)) 4 with z | z
    · rcases sg.mpr z with y | y | y | y | y | y | y | y | y
      · exact absurd y c1'
      · exact absurd y c2'
      · exact absurd y c5'
      · exact absurd y c6'
      · exact absurd y c7'
      · exact absurd y c8'
      · exact absurd y c9'
      · exact absurd y c10'
      · exact absurd y c11'
    · exact z
  rw [eK, k4]
  rfl
end
