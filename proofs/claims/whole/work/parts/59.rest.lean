/-! THE CALLS: undo, see, forget, image, restore, fault, feed -/
/-- two fairs that are alike below their counts -/
def eqB (f g : Nat → Nat → Nat) : Prop := f 0 0 = g 0 0 ∧ f 4 0 = g 4 0 ∧ f 9 0 = g 9 0 ∧ (∀ p, p < f 0 0 → f 1 p = g 1 p ∧ f 2 p = g 2 p ∧ f 3 p = g 3 p) ∧ (∀ n, n < f 4 0 → f 5 n = g 5 n ∧ f 6 n = g 6 n ∧ f 7 n = g 7 n ∧ f 8 n = g 8 n) ∧ ∀ s, s < f 9 0 → f 10 s = g 10 s ∧ f 11 s = g 11 s ∧ f 12 s = g 12 s
theorem HC_eqB {d : Nat → Nat → Int32} {f g : Nat → Nat → Nat} {r : Gr × Gr} (H : HC d (f, r)) (e : eqB f g) : HC d (g, r) := by
  obtain ⟨h1, h2, h3, h4, h5, h6, h7, h8⟩ := H
  obtain ⟨e1, e2, e3, e4, e5, e6⟩ := e
  refine ⟨h1.trans (congrArg nI e1), h2.trans (congrArg nI e2), h3.trans (congrArg nI e3), fun p hp => ?_, fun n hn => ?_, fun s hs => ?_, h7, h8⟩
  · have hp' : p < f 0 0 := by rw [e1]; exact hp
    obtain ⟨a, b, c⟩ := h4 p hp'
    obtain ⟨a', b', c'⟩ := e4 p hp'
    exact ⟨a.trans (congrArg nI a'), b.trans (congrArg nI b'), c.trans (congrArg nI c')⟩
  · have hn' : n < f 4 0 := by rw [e2]; exact hn
    obtain ⟨a, b, c, q⟩ := h5 n hn'
    obtain ⟨a', b', c', q'⟩ := e5 n hn'
    exact ⟨a.trans (congrArg nI a'), b.trans (congrArg nI b'), c.trans (congrArg nI c'), q.trans (congrArg nI q')⟩
  · have hs' : s < f 9 0 := by rw [e3]; exact hs
    obtain ⟨a, b, c⟩ := h6 s hs'
    obtain ⟨a', b', c'⟩ := e6 s hs'
    exact ⟨a.trans (congrArg nI a'), b.trans (congrArg nI b'), c.trans (congrArg nI c')⟩
def sZ (Z : Sn) (n h : Nat) (v : Int32) : Sn := (Z.1 + 1, fun i => if i = Z.1 then n else Z.2.1 i, fun i => if i = Z.1 then h else Z.2.2.1 i, fun i => if i = Z.1 then v else Z.2.2.2 i)
/-- the seen at another place -/
def HZb (d : Nat → Nat → Int32) (b : Nat) (Z : Sn) : Prop := d b 0 = nI Z.1 ∧ ∀ i, i < Z.1 → d (b + 1) i = nI (Z.2.1 i) ∧ d (b + 2) i = nI (Z.2.2.1 i) ∧ d (b + 3) i = Z.2.2.2 i
/-- what is kept of a fair -/
def HIf (d : Nat → Nat → Int32) (f : Nat → Nat → Nat) : Prop := d 90 0 = nI (f 9 0) ∧ (∀ s, s < f 9 0 → d 91 s = nI (f 10 s) ∧ d 92 s = nI (f 11 s) ∧ d 93 s = nI (f 12 s)) ∧ d 94 0 = nI (f 4 0) ∧ ∀ n, n < f 4 0 → d 95 n = nI (f 5 n) ∧ d 96 n = nI (f 6 n) ∧ d 97 n = nI (f 7 n) ∧ d 98 n = nI (f 8 n)
def sb (m : Nat) : Int32 := (nI m).toInt8.toInt32
def by0 (x : Int32) (s : Nat) : Nat := ((x >>> (nI s &&& 31)) &&& 255).toBitVec.toNat
def HT (d : Nat → Nat → Int32) (n : Nat) (T : Nat → Nat) : Prop := d 1 1 = nI n ∧ ∀ j, j < n → d 2 j = sb (T j)
def pu (n : Nat) (T : Nat → Nat) (x : Int32) (j : Nat) : Nat := if j = n then by0 x 24 else if j = n + 1 then by0 x 16 else if j = n + 2 then by0 x 8 else if j = n + 3 then by0 x 0 else T j
theorem nI_bv (z : Int32) : nI z.toBitVec.toNat = z := Int32.toBitVec_inj.mp (show BitVec.ofNat 32 _ = _ by rw [BitVec.ofNat_toNat, BitVec.setWidth_eq])
theorem sb_by (x : Int32) (s : Nat) : sb (by0 x s) = (x >>> (nI s &&& 31)).toInt8.toInt32 := by
  unfold sb by0
  congr 1
  apply Int8.toBitVec_inj.mp
  generalize x >>> (nI s &&& 31) = y
  rw [nI_bv, Int32.toBitVec_toInt8, Int32.toBitVec_toInt8]
  apply BitVec.eq_of_getLsbD_eq
  intro i hi
  rw [BitVec.getLsbD_signExtend, BitVec.getLsbD_signExtend, Int32.toBitVec_and, BitVec.getLsbD_and]
  have : (255 : Int32).toBitVec.getLsbD i = decide (i < 8) := b_255 i
  rw [this]
  simp [hi, show i < 32 by omega]
theorem b8_idem (y : Int32) : y.toInt8.toInt32.toInt8.toInt32 = y.toInt8.toInt32 := by rw [Int8.toInt8_toInt32]
section
variable (d : Nat → Nat → Int32) (L : Nat → Nat → Int64) {F : Fr} {Z : Sn} {n : Nat} {E : Nat → Nat × Nat × Nat × Nat}
set_option maxRecDepth 100000 in
set_option maxHeartbeats 8000000 in
theorem p_undo (H : HC d F) (R : RG F) (HA0 : HAc d 81 n E) (hn : n ≤ 40) (G : Nat → Nat → Nat) (hG : 0 < n → vE (E (n - 1)) F.1 ∧ eqB (rv (E (n - 1)) F.1) G ∧ RG (G, F.2)) : Cn mX11_undo false 12 0 0 [.ref 0] (W0 d L) (fun r h => (0 < n ∧ r = some (.int (nI (n - 1))) ∧ qA d L (G, F.2) (n - 1) E h) ∨ (n = 0 ∧ r = some (.int (-1)) ∧ h = W0 d L)) := by
  refine Cn.intro gX11_undo rfl (Nat.le_of_ble_eq_true rfl) rfl ?_
  repeat refine x_s rfl rfl ?_
  rcases Nat.eq_zero_or_pos n with h0 | h0
  · refine x_br rfl rfl (fun c => absurd c (fun z => z (by rw [HA0.1, h0]; rfl))) (fun c => ?_)
    repeat refine x_s rfl rfl ?_
    exact x_iret rfl rfl rfl (Or.inr ⟨h0, rfl, rfl⟩)
  · refine x_br rfl rfl (fun c => ?_) (fun c => absurd c (fun z => absurd (HA0.1.symm.trans z) (nI_ne0 h0 (by omega))))
    obtain ⟨g1, g2, g3⟩ := hG h0
    have ha := HA0.2 (n - 1) (by omega)
    repeat refine x_s rfl rfl ?_
    refine x_cv (c_revert d L H (n := n - 1) (e := E (n - 1)) (by rw [HA0.1]; congr 1; omega) (by omega) ha.1 ha.2.1 ha.2.2.1 ha.2.2.2 g1) rfl rfl rfl (by decide) rfl (by decide) rfl (Nat.le_of_ble_eq_true rfl) (by decide) (by decide) (by decide) ?_
    rintro _ _ ⟨rfl, d1, rfl, hs1, h81, HF⟩
    have HF2 := HC_eqB HF g2
    repeat refine x_s rfl rfl ?_
    refine x_cv (c_refresh d1 L HF2 g3) rfl rfl rfl (by decide) rfl (by decide) rfl (Nat.le_of_ble_eq_true rfl) (by decide) (by decide) (by decide) ?_
    rintro _ _ ⟨rfl, d2, rfl, hs2, hw⟩
    have e81 : d2 81 0 = nI (n - 1) := by rw [hs2 81 (by decide)]; exact h81
    repeat refine x_s rfl rfl ?_
    refine x_iret rfl rfl rfl (Or.inl ⟨h0, by rw [e81], d2, rfl, sm_go (sm_in hs1 (by decide)) (sm_in hs2 (by decide)), HC_sm HF2 hs2 (by decide), hw, e81, fun j hj => ?_⟩)
    have := HA0.2 j (by omega)
    rw [hs2 (81 + 1) (by decide), hs2 (81 + 2) (by decide), hs2 (81 + 3) (by decide), hs2 (81 + 4) (by decide), hs1 (81 + 1) (by decide), hs1 (81 + 2) (by decide), hs1 (81 + 3) (by decide), hs1 (81 + 4) (by decide)]
    exact this
set_option maxRecDepth 100000 in
set_option maxHeartbeats 8000000 in
theorem p_see (H : HC d F) (R : RG F) (HZ0 : HZ d Z) (R2 : RZ F Z) (x y z : Int32) : Cx mX11_see 20 6 36 [.ref 0, .int x, .int y, .int z] (W0 d L) (fun r h => (inB x (F.1 4 0) && inB y 100) = true ∧ (((decide (Z.1 < 8) && inC z) = true ∧ r = some (.int (nI (Z.1 + 1))) ∧ ∃ d', h = W0 d' L ∧ sm [86, 87, 88, 89] d d' ∧ HZ d' (sZ Z (iN x) (iN y) z)) ∨ ((decide (Z.1 < 8) && inC z) = false ∧ r = some (.int (-1)) ∧ qF d L 17 h))) (qT 1 d L (inB x (F.1 4 0) && inB y 100)) := by
  have z1 := R2.1
  have e1 : (-1 : Int32).toInt = -1 := rfl
  have e9 : (9 : Int32).toInt = 9 := rfl
  refine Cx.intro gX11_see rfl (Nat.le_of_ble_eq_true rfl) rfl ?_
  repeat refine x_s rfl rfl ?_
  refine x_xv (c_needNeedle d L H R x) rfl rfl rfl rfl (by decide) rfl (by decide) rfl (Nat.le_of_ble_eq_true rfl) (by decide) (by decide) (by decide) ?_ ?_
  rotate_left
  · rintro _ _ ⟨rfl, rfl, hg⟩
    exact ⟨rfl, rfl, and_f1 hg⟩
  rintro _ _ ⟨rfl, rfl, hg⟩
  repeat refine x_s rfl rfl ?_
  refine x_xs (c_needHour d L y) rfl rfl rfl rfl (by decide) (Nat.le_of_ble_eq_true rfl) (by decide) (by decide) (by decide) ?_ ?_
  rotate_left
  · rintro _ _ ⟨rfl, rfl, hg2⟩
    exact ⟨rfl, rfl, and_f2 hg2⟩
  rintro _ _ ⟨rfl, rfl, hg2⟩
  have no : (decide (Z.1 < 8) && inC z) = false → Ex mX11_see false 20 4 24 32 [some (.ref 0), some (.int x), some (.int y), some (.int z)] [] (W0 d L) (fun r h => (inB x (F.1 4 0) && inB y 100) = true ∧ (((decide (Z.1 < 8) && inC z) = true ∧ r = some (.int (nI (Z.1 + 1))) ∧ ∃ d', h = W0 d' L ∧ sm [86, 87, 88, 89] d d' ∧ HZ d' (sZ Z (iN x) (iN y) z)) ∨ ((decide (Z.1 < 8) && inC z) = false ∧ r = some (.int (-1)) ∧ qF d L 17 h))) (qT 1 d L (inB x (F.1 4 0) && inB y 100)) := by
    intro hf
    repeat refine x_s rfl rfl ?_
    refine x_put rfl rfl (by decide) rfl ⟨rfl, rfl⟩ (Or.inl rfl) ?_
    repeat refine x_s rfl rfl ?_
    exact x_iret rfl rfl rfl ⟨and_t hg hg2, Or.inr ⟨hf, rfl, rfl⟩⟩
  repeat refine x_s rfl rfl ?_
  refine x_br rfl rfl (fun c1 => ?_) (fun c1 => ?_)
  · refine no (and_f1 (decide_eq_false (fun q => ?_)))
    have c1' : 8 ≤ d 86 0 := c1
    rw [HZ0.1] at c1'
    exact absurd c1' (nI_ge (b := 8) q (by decide))
  have hc : Z.1 < 8 := by
    rcases Nat.lt_or_ge Z.1 8 with q | q
    · exact q
    · exfalso
      apply c1
      show (8 : Int32) ≤ d 86 0
      rw [HZ0.1]
      exact nI_le (a := 8) q (by omega)
  repeat refine x_s rfl rfl ?_
  refine x_br rfl rfl (fun c2 => ?_) (fun c2 => ?_)
  · refine no (and_f2 ?_)
    rw [ilt, e1] at c2
    exact decide_eq_false (by omega)
  repeat refine x_s rfl rfl ?_
  refine x_br rfl rfl (fun c3 => ?_) (fun c3 => ?_)
  rotate_left
  · refine no (and_f2 ?_)
    rw [ile, e9] at c3
    exact decide_eq_false (by omega)
  have hz : inC z = true := by
    rw [ilt, e1] at c2
    rw [ile, e9] at c3
    exact decide_eq_true (by omega)
  clear no c1 c2 c3
  rw [and_t hg hg2, and_t (decide_eq_true hc) hz]
  obtain ⟨x1, x2, x3⟩ := inB_iN hg
  obtain ⟨y1, y2, y3⟩ := inB_iN hg2
  generalize iN x = a at x1 x2 x3 ⊢
  generalize iN y = b at y1 y2 y3 ⊢
  subst x2
  subst y2
  repeat refine x_s rfl rfl ?_
  refine x_cv (c_Z_add d L HZ0.1 hc _ _ _) rfl rfl rfl (by decide) rfl (by decide) rfl (Nat.le_of_ble_eq_true rfl) (by decide) (by decide) (by decide) ?_
  rintro _ _ ⟨rfl, rfl⟩
  repeat refine x_s rfl rfl ?_
  refine x_iret rfl rfl rfl ⟨rfl, Or.inl ⟨rfl, rfl, _, rfl, sm_up (sm_up (sm_up (sm_up sm_rfl (by decide)) (by decide)) (by decide)) (by decide), rfl, fun i hi => ?_⟩⟩
  have hi' : i < Z.1 + 1 := hi
  show (if i = Z.1 then nI a else d 87 i) = nI (if i = Z.1 then a else Z.2.1 i) ∧ (if i = Z.1 then nI b else d 88 i) = nI (if i = Z.1 then b else Z.2.2.1 i) ∧ (if i = Z.1 then z else d 89 i) = if i = Z.1 then z else Z.2.2.2 i
  by_cases e : i = Z.1
  · simp [e]
  · simp only [if_neg e]
    exact HZ0.2 i (by omega)
set_option maxRecDepth 100000 in
set_option maxHeartbeats 8000000 in
theorem p_forget : Cn mX11_forget false 1 0 0 [.ref 0] (W0 d L) (fun r h => r = none ∧ h = W0 (up2 d 86 0 0) L) := by
  refine Cn.intro gX11_forget rfl (Nat.le_of_ble_eq_true rfl) rfl ?_
  repeat refine x_s rfl rfl ?_
  refine x_put rfl rfl (by decide) rfl ⟨rfl, rfl⟩ (Or.inl rfl) ?_
  exact x_vret rfl rfl ⟨rfl, rfl⟩
set_option maxRecDepth 100000 in
set_option maxHeartbeats 8000000 in
theorem p_fault : Cn mX11_fault false 1 0 0 [.ref 0] (W0 d L) (qP d L (d 0 14)) := by
  refine Cn.intro gX11_fault rfl (Nat.le_of_ble_eq_true rfl) rfl ?_
  repeat refine x_s rfl rfl ?_
  exact x_iret rfl rfl rfl ⟨rfl, rfl⟩
set_option maxRecDepth 100000 in
set_option maxHeartbeats 8000000 in
theorem p_image (H : HC d F) (R : RG F) (HA0 : HAc d 81 n E) (hn : n ≤ 40) (HZ0 : HZ d Z) (R2 : RZ F Z) : Cn mX11_image false 6 0 0 [.ref 0] (W0 d L) (fun r h => r = none ∧ ∃ d', h = W0 d' L ∧ (∀ c, c ∉ 0 :: [90, 91, 92, 93, 94, 95, 96, 97, 98, 99, 100, 101, 102, 103, 104, 105, 106, 107] → d' c = d c) ∧ (∀ k, k ≠ 13 → d' 0 k = d 0 k) ∧ d' 0 13 = 1 ∧ HIf d' F.1 ∧ HAc d' 99 n E ∧ HZb d' 104 Z) := by
  have r2 := R.2.1
  have r3 := R.2.2.1
  have z1 := R2.1
  refine Cn.intro gX11_image rfl (Nat.le_of_ble_eq_true rfl) rfl ?_
  repeat refine x_s rfl rfl ?_
  refine x_put rfl rfl (by decide) rfl ⟨rfl, rfl⟩ (Or.inl rfl) ?_
  have hs0 : sm [0] d (up2 d 0 13 1) := sm_up sm_rfl (by decide)
  have k0 : ∀ k, k ≠ 13 → up2 d 0 13 1 0 k = d 0 k := fun k hk => up2_k hk
  have k13 : up2 d 0 13 1 0 13 = 1 := up2_eq
  generalize up2 d 0 13 1 = d0 at hs0 k0 k13 ⊢
  repeat refine x_s rfl rfl ?_
  refine x_cv (c_S_copy d0 L (a := 34) (b := 90) (Or.inl ⟨rfl, rfl⟩)) rfl rfl rfl (by decide) rfl (by decide) rfl (Nat.le_of_ble_eq_true rfl) (by decide) (by decide) (by decide) ?_
  rintro _ _ ⟨rfl, d1, rfl, hs1, a1, a2⟩
  repeat refine x_s rfl rfl ?_
  refine x_cv (c_N_copy d1 L (a := 29) (b := 94) (Or.inl ⟨rfl, rfl⟩)) rfl rfl rfl (by decide) rfl (by decide) rfl (Nat.le_of_ble_eq_true rfl) (by decide) (by decide) (by decide) ?_
  rintro _ _ ⟨rfl, d2, rfl, hs2, b1, b2⟩
  repeat refine x_s rfl rfl ?_
  refine x_cv (c_A_copy d2 L (a := 81) (b := 99) (Or.inl ⟨rfl, rfl⟩)) rfl rfl rfl (by decide) rfl (by decide) rfl (Nat.le_of_ble_eq_true rfl) (by decide) (by decide) (by decide) ?_
  rintro _ _ ⟨rfl, d3, rfl, hs3, c1, c2⟩
  repeat refine x_s rfl rfl ?_
  refine x_cv (c_Z_copy d3 L (a := 86) (b := 104) (Or.inl ⟨rfl, rfl⟩)) rfl rfl rfl (by decide) rfl (by decide) rfl (Nat.le_of_ble_eq_true rfl) (by decide) (by decide) (by decide) ?_
  rintro _ _ ⟨rfl, d4, rfl, hs4, e1, e2⟩
  have H0 := HC_sm H hs0 (by decide)
  have H1 := HC_sm H0 hs1 (by decide)
  have A2 := HA_sm (HA_sm (HA_sm HA0 hs0 (by decide)) hs1 (by decide)) hs2 (by decide)
  have Z3 := HZ_sm (HZ_sm (HZ_sm (HZ_sm HZ0 hs0 (by decide)) hs1 (by decide)) hs2 (by decide)) hs3 (by decide)
  refine x_vret rfl rfl ⟨rfl, d4, rfl, ?_, ?_, ?_, ?_, ?_, ?_⟩
  · exact sm_go (sm_in hs0 (by decide)) (sm_go (sm_in hs1 (by decide)) (sm_go (sm_in hs2 (by decide)) (sm_go (sm_in hs3 (by decide)) (sm_in hs4 (by decide)))))
  · intro k hk
    rw [hs4 0 (by decide), hs3 0 (by decide), hs2 0 (by decide), hs1 0 (by decide)]
    exact k0 k hk
  · rw [hs4 0 (by decide), hs3 0 (by decide), hs2 0 (by decide), hs1 0 (by decide)]
    exact k13
  · refine ⟨?_, fun s hs => ?_, ?_, fun m hm => ?_⟩
    · rw [hs4 90 (by decide), hs3 90 (by decide), hs2 90 (by decide)]
      exact a1.trans H0.2.2.1
    · rw [hs4 91 (by decide), hs3 91 (by decide), hs2 91 (by decide), hs4 92 (by decide), hs3 92 (by decide), hs2 92 (by decide), hs4 93 (by decide), hs3 93 (by decide), hs2 93 (by decide)]
      have q := a2 s (by omega)
      have h5 := H0.2.2.2.2.2.1 s hs
      exact ⟨q.1.trans h5.1, q.2.1.trans h5.2.1, q.2.2.trans h5.2.2⟩
    · rw [hs4 94 (by decide), hs3 94 (by decide)]
      exact b1.trans H1.2.1
    · rw [hs4 95 (by decide), hs3 95 (by decide), hs4 96 (by decide), hs3 96 (by decide), hs4 97 (by decide), hs3 97 (by decide), hs4 98 (by decide), hs3 98 (by decide)]
      have q := b2 m (by omega)
      have h4 := H1.2.2.2.2.1 m hm
      exact ⟨q.1.trans h4.1, q.2.1.trans h4.2.1, q.2.2.1.trans h4.2.2.1, q.2.2.2.trans h4.2.2.2⟩
  · refine HA_sm (d := d3) ⟨c1.trans A2.1, fun j hj => ?_⟩ hs4 (by decide)
    have q := c2 j (by omega)
    have h4 := A2.2 j hj
    exact ⟨q.1.trans h4.1, q.2.1.trans h4.2.1, q.2.2.1.trans h4.2.2.1, q.2.2.2.trans h4.2.2.2⟩
  · refine ⟨e1.trans Z3.1, fun i hi => ?_⟩
    have q := e2 i (by omega)
    have h4 := Z3.2 i hi
    exact ⟨q.1.trans h4.1, q.2.1.trans h4.2.1, q.2.2.trans h4.2.2⟩
set_option maxRecDepth 100000 in
set_option maxHeartbeats 8000000 in
theorem p_restore0 (h0 : d 0 13 = 0) : Cn mX11_restore false 10 0 0 [.ref 0] (W0 d L) (qP d L 0) := by
  refine Cn.intro gX11_restore rfl (Nat.le_of_ble_eq_true rfl) rfl ?_
  repeat refine x_s rfl rfl ?_
  refine x_br rfl rfl (fun c => absurd c (fun z => z h0)) (fun c => ?_)
  repeat refine x_s rfl rfl ?_
  exact x_iret rfl rfl rfl ⟨rfl, rfl⟩
set_option maxRecDepth 100000 in
set_option maxHeartbeats 8000000 in
theorem p_restore1 (h0 : d 0 13 = 1) (H : HC d F) {f : Nat → Nat → Nat} {Z' : Sn} (R' : RG (f, F.2)) (hp : f 0 = F.1 0 ∧ f 1 = F.1 1 ∧ f 2 = F.1 2 ∧ f 3 = F.1 3) (HI : HIf d f) (HA0 : HAc d 99 n E) (hn : n ≤ 40) (HZ0 : HZb d 104 Z') (R2 : RZ (f, F.2) Z') : Cn mX11_restore false 10 0 0 [.ref 0] (W0 d L) (fun r h => r = some (.int 1) ∧ ∃ d', h = W0 d' L ∧ sm (SR ++ [29, 30, 31, 32, 33, 34, 35, 36, 37, 81, 82, 83, 84, 85, 86, 87, 88, 89]) d d' ∧ HC d' (f, F.2) ∧ HW d' (f, F.2) ∧ HAc d' 81 n E ∧ HZ d' Z') := by
  have r2 := R'.2.1
  have r3 := R'.2.2.1
  have z1 := R2.1
  refine Cn.intro gX11_restore rfl (Nat.le_of_ble_eq_true rfl) rfl ?_
  repeat refine x_s rfl rfl ?_
  refine x_br rfl rfl (fun c => ?_) (fun c => absurd c (fun z => absurd (h0.symm.trans z) (by decide)))
  repeat refine x_s rfl rfl ?_
  refine x_cv (c_S_copy d L (a := 90) (b := 34) (Or.inr ⟨rfl, rfl⟩)) rfl rfl rfl (by decide) rfl (by decide) rfl (Nat.le_of_ble_eq_true rfl) (by decide) (by decide) (by decide) ?_
  rintro _ _ ⟨rfl, d1, rfl, hs1, a1, a2⟩
  repeat refine x_s rfl rfl ?_
  refine x_cv (c_N_copy d1 L (a := 94) (b := 29) (Or.inr ⟨rfl, rfl⟩)) rfl rfl rfl (by decide) rfl (by decide) rfl (Nat.le_of_ble_eq_true rfl) (by decide) (by decide) (by decide) ?_
  rintro _ _ ⟨rfl, d2, rfl, hs2, b1, b2⟩
  repeat refine x_s rfl rfl ?_
  refine x_cv (c_A_copy d2 L (a := 99) (b := 81) (Or.inr ⟨rfl, rfl⟩)) rfl rfl rfl (by decide) rfl (by decide) rfl (Nat.le_of_ble_eq_true rfl) (by decide) (by decide) (by decide) ?_
  rintro _ _ ⟨rfl, d3, rfl, hs3, c1, c2⟩
  repeat refine x_s rfl rfl ?_
  refine x_cv (c_Z_copy d3 L (a := 104) (b := 86) (Or.inr ⟨rfl, rfl⟩)) rfl rfl rfl (by decide) rfl (by decide) rfl (Nat.le_of_ble_eq_true rfl) (by decide) (by decide) (by decide) ?_
  rintro _ _ ⟨rfl, d4, rfl, hs4, e1, e2⟩
  have A2 := HA_sm (HA_sm HA0 hs1 (by decide)) hs2 (by decide)
  have e104 : ∀ c, c ∈ [104, 105, 106, 107] → d3 c = d c := fun c hc => by
    rw [hs3 c (by simp at hc; rcases hc with rfl | rfl | rfl | rfl <;> decide), hs2 c (by simp at hc; rcases hc with rfl | rfl | rfl | rfl <;> decide), hs1 c (by simp at hc; rcases hc with rfl | rfl | rfl | rfl <;> decide)]
  have A4 : HAc d4 81 n E := by
    refine HA_sm (d := d3) ⟨c1.trans A2.1, fun j hj => ?_⟩ hs4 (by decide)
    have q := c2 j (by omega)
    have h4 := A2.2 j hj
    exact ⟨q.1.trans h4.1, q.2.1.trans h4.2.1, q.2.2.1.trans h4.2.2.1, q.2.2.2.trans h4.2.2.2⟩
  have Z4 : HZ d4 Z' := by
    refine ⟨e1.trans ?_, fun i hi => ?_⟩
    · rw [e104 104 (by decide)]
      exact HZ0.1
    · have q := e2 i (by omega)
      have h4 := HZ0.2 i hi
      rw [e104 (104 + 1) (by decide), e104 (104 + 2) (by decide), e104 (104 + 3) (by decide)] at q
      exact ⟨q.1.trans h4.1, q.2.1.trans h4.2.1, q.2.2.trans h4.2.2⟩
  have H4 : HC d4 (f, F.2) := by
    obtain ⟨g1, g2, g3, g4, g5, g6, g7, g8⟩ := H
    obtain ⟨i1, i2, i3, i4⟩ := HI
    have ee : ∀ c, c ∈ [25, 26, 27, 28, 38, 39, 41, 42] → d4 c = d c := fun c hc => by
      rw [hs4 c (by simp at hc; rcases hc with rfl | rfl | rfl | rfl | rfl | rfl | rfl | rfl <;> decide), hs3 c (by simp at hc; rcases hc with rfl | rfl | rfl | rfl | rfl | rfl | rfl | rfl <;> decide), hs2 c (by simp at hc; rcases hc with rfl | rfl | rfl | rfl | rfl | rfl | rfl | rfl <;> decide), hs1 c (by simp at hc; rcases hc with rfl | rfl | rfl | rfl | rfl | rfl | rfl | rfl <;> decide)]
    refine ⟨?_, ?_, ?_, fun p hpp => ?_, fun m hm => ?_, fun s hs => ?_, ?_, ?_⟩
    · rw [ee 25 (by decide)]
      show d 25 0 = nI (f 0 0)
      rw [hp.1]
      exact g1
    · show d4 29 0 = nI (f 4 0)
      rw [hs4 29 (by decide), hs3 29 (by decide), b1, hs1 94 (by decide)]
      exact i3
    · show d4 34 0 = nI (f 9 0)
      rw [hs4 34 (by decide), hs3 34 (by decide), hs2 34 (by decide), a1]
      exact i1
    · show d4 26 p = nI (f 1 p) ∧ d4 27 p = nI (f 2 p) ∧ d4 28 p = nI (f 3 p)
      rw [ee 26 (by decide), ee 27 (by decide), ee 28 (by decide), hp.2.1, hp.2.2.1, hp.2.2.2]
      exact g4 p (by have : p < f 0 0 := hpp; rw [hp.1] at this; exact this)
    · have hm' : m < f 4 0 := hm
      have q := b2 m (by omega)
      have h4 := i4 m hm'
      show d4 30 m = nI (f 5 m) ∧ d4 31 m = nI (f 6 m) ∧ d4 32 m = nI (f 7 m) ∧ d4 33 m = nI (f 8 m)
      rw [hs4 30 (by decide), hs3 30 (by decide), hs4 31 (by decide), hs3 31 (by decide), hs4 32 (by decide), hs3 32 (by decide), hs4 33 (by decide), hs3 33 (by decide)]
      rw [hs1 (94 + 1) (by decide), hs1 (94 + 2) (by decide), hs1 (94 + 3) (by decide), hs1 (94 + 4) (by decide)] at q
      exact ⟨q.1.trans h4.1, q.2.1.trans h4.2.1, q.2.2.1.trans h4.2.2.1, q.2.2.2.trans h4.2.2.2⟩
    · have hs' : s < f 9 0 := hs
      have q := a2 s (by omega)
      have h4 := i2 s hs'
      show d4 35 s = nI (f 10 s) ∧ d4 36 s = nI (f 11 s) ∧ d4 37 s = nI (f 12 s)
      rw [hs4 35 (by decide), hs3 35 (by decide), hs2 35 (by decide), hs4 36 (by decide), hs3 36 (by decide), hs2 36 (by decide), hs4 37 (by decide), hs3 37 (by decide), hs2 37 (by decide)]
      exact ⟨q.1.trans h4.1, q.2.1.trans h4.2.1, q.2.2.trans h4.2.2⟩
    · unfold RlC at g7 ⊢
      rw [ee 38 (by decide), ee (38 + 1) (by decide)]
      exact g7
    · unfold RlC at g8 ⊢
      rw [ee 41 (by decide), ee (41 + 1) (by decide)]
      exact g8
  repeat refine x_s rfl rfl ?_
  refine x_cv (c_refresh d4 L H4 R') rfl rfl rfl (by decide) rfl (by decide) rfl (Nat.le_of_ble_eq_true rfl) (by decide) (by decide) (by decide) ?_
  rintro _ _ ⟨rfl, d5, rfl, hs5, hw⟩
  repeat refine x_s rfl rfl ?_
  refine x_iret rfl rfl rfl ⟨rfl, d5, rfl, ?_, HC_sm H4 hs5 (by decide), hw, HA_sm A4 hs5 (by decide), HZ_sm Z4 hs5 (by decide)⟩
  exact sm_go (sm_in hs1 (by decide)) (sm_go (sm_in hs2 (by decide)) (sm_go (sm_in hs3 (by decide)) (sm_go (sm_in hs4 (by decide)) (sm_in hs5 (by decide)))))
end
