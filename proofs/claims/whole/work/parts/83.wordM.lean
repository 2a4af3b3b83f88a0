/-! THE MODEL: known words, and what it knows of a token -/
theorem MT_hd {d : Nat → Nat → Int32} {L : Nat → Nat → Int64} {T : Nat → Nat} {n s k v : Nat} {r : List Tk} (H : MT d L T n ((s, k, v) :: r)) : s ≤ n ∧ MXs d L T n s ∧ k = tK T n s ∧ v = tV T n s ∧ (k ≠ 0 → s < n ∧ r = TL T n (tE T n s)) := by
  obtain ⟨i, hi, e, hx⟩ := H
  rw [TL_eq hi] at e
  obtain ⟨e1, e2⟩ := List.cons.inj e
  have a1 : s = tS T n i := congrArg Prod.fst e1
  have a2 : k = tK T n (tS T n i) := congrArg (fun q => q.2.1) e1
  have a3 : v = tV T n (tS T n i) := congrArg (fun q => q.2.2) e1
  rw [← a1] at a2 a3 hx e2
  refine ⟨by rw [a1]; exact (tS_sp hi).2.2.2, hx, a2, a3, fun h => ?_⟩
  have h2 : s < n := by
    rcases Nat.lt_or_ge s n with q | q
    · exact q
    · exact absurd (a2.trans (tK_0.mpr q)) h
  rw [if_pos h2] at e2
  exact ⟨h2, e2⟩
theorem MT_ne {d : Nat → Nat → Int32} {L : Nat → Nat → Int64} {T : Nat → Nat} {n : Nat} {l : List Tk} (H : MT d L T n l) : ∃ s k v r, l = (s, k, v) :: r := by
  obtain ⟨i, hi, e, hx⟩ := H
  rw [TL_eq hi] at e
  exact ⟨_, _, _, _, e⟩
theorem tE_le {T : Nat → Nat} {n s : Nat} (hs : s ≤ n) : tE T n s ≤ n := by
  rcases Nat.lt_or_ge s n with z | z
  · exact (tE_sp z).2
  · unfold tE
    rw [if_neg (by omega)]
    exact hs
theorem kof_id {c : Nat} (h1 : ¬ kof c = 1) (h2 : ¬ kof c = 2) (h3 : ¬ kof c = 3) (h4 : ¬ kof c = 4) : kof c = c := by
  rw [kof_1i] at h1
  rw [kof_2i] at h2
  rw [kof_3] at h3
  unfold kof at h4 ⊢
  rw [if_neg h3, if_neg h1, if_neg h2] at h4 ⊢
  split at h4
  · rename_i h
    rw [if_pos h]
  · exact absurd rfl h4
theorem kof_40 {c : Nat} (h1 : ¬ kof c = 1) (h2 : ¬ kof c = 2) (h3 : ¬ kof c = 3) (h4 : ¬ kof c = 4) : 40 ≤ kof c := by
  rw [kof_id h1 h2 h3 h4]
  rw [kof_1i] at h1
  rw [kof_2i] at h2
  rw [kof_3] at h3
  unfold kof at h4
  rw [if_neg h3, if_neg h1, if_neg h2] at h4
  split at h4
  · omega
  · exact absurd rfl h4
theorem MT_f {d : Nat → Nat → Int32} {L : Nat → Nat → Int64} {T : Nat → Nat} {n s k v : Nat} {r : List Tk} (H : MT d L T n ((s, k, v) :: r)) : d 112 18 = nI s ∧ d 112 17 = nI (srt k) ∧ k ≤ 61 ∧ ¬ k = 3 ∧ s ≤ n ∧ ∃ e, d 112 19 = nI e ∧ e ≤ n ∧ (k = 2 → (4 < e ∧ v = 10000) ∨ (e ≤ 4 ∧ v ≤ 9999 ∧ d 112 20 = nI v)) ∧ ∃ c, d 112 21 = nI c ∧ (c = k ∨ ¬ srt k = 3) ∧ (srt k = 3 → 40 ≤ k) := by
  have h3 : ¬ k = 3 := by
    obtain ⟨i, hi, e, hx⟩ := H
    rw [TL_eq hi] at e
    have a2 : k = tK T n (tS T n i) := congrArg (fun q => q.2.1) (List.cons.inj e).1
    intro z
    rcases Nat.lt_or_ge (tS T n i) n with q | q
    · have := (tS_sp hi).2.2.1 q
      unfold tK at a2
      rw [if_pos q] at a2
      exact this (a2.symm.trans z)
    · rw [tK_0.mpr q] at a2
      omega
  obtain ⟨g1, ⟨g2, g3, g4, g5, g6, g7, g8, g9⟩, b1, b2, b3⟩ := MT_hd H
  have le := tE_le (T := T) g1
  refine ⟨g4, by rw [b1]; exact g6, by rw [b1]; exact tK_le _, h3, g1, tE T n s - s, g5, by omega, fun hk => ?_, _, g8, ?_, ?_⟩
  · rw [b2]
    unfold tV
    rw [if_pos (by rw [← b1]; exact hk)]
    by_cases hl : 4 < tE T n s - s
    · rw [if_pos hl]
      exact Or.inl ⟨hl, rfl⟩
    · rw [if_neg hl]
      exact Or.inr ⟨by omega, tN_b, g7⟩
  · by_cases hs : srt k = 3
    · refine Or.inl ?_
      unfold srt at hs
      have z0 : ¬ k = 0 := fun z => by rw [if_pos z] at hs; omega
      rw [if_neg z0] at hs
      have z1 : ¬ k = 1 := fun z => by rw [if_pos z] at hs; omega
      rw [if_neg z1] at hs
      have z2 : ¬ k = 2 := fun z => by rw [if_pos z] at hs; omega
      rw [if_neg z2] at hs
      have z4 : ¬ k = 4 := fun z => by rw [if_pos z] at hs; omega
      have q := (b3 z0).1
      have e : k = kof (T s) := by
        rw [b1]
        unfold tK
        rw [if_pos q]
      rw [if_pos q]
      rw [e] at z1 z2 z4 h3
      rw [e]
      exact (kof_id z1 z2 h3 z4).symm
    · exact Or.inr hs
  · intro hs
    unfold srt at hs
    have z0 : ¬ k = 0 := fun z => by rw [if_pos z] at hs; omega
    rw [if_neg z0] at hs
    have z1 : ¬ k = 1 := fun z => by rw [if_pos z] at hs; omega
    rw [if_neg z1] at hs
    have z2 : ¬ k = 2 := fun z => by rw [if_pos z] at hs; omega
    rw [if_neg z2] at hs
    have z4 : ¬ k = 4 := fun z => by rw [if_pos z] at hs; omega
    have q := (b3 z0).1
    have e : k = kof (T s) := by
      rw [b1]
      unfold tK
      rw [if_pos q]
    rw [e] at z1 z2 z4 h3 ⊢
    exact kof_40 z1 z2 h3 z4
theorem srt_3 {k : Nat} (h3 : ¬ k = 3) : srt k = 3 ↔ (¬ k = 0 ∧ ¬ k = 1 ∧ ¬ k = 2 ∧ ¬ k = 4) := by
  unfold srt
  split
  · omega
  split
  · omega
  split
  · omega
  split <;> omega
theorem srt_le (k : Nat) : srt k ≤ 4 := by
  unfold srt
  split
  · omega
  split
  · omega
  split
  · omega
  split <;> omega
theorem srt_e {k j : Nat} (hj : j = 0 ∨ j = 1 ∨ j = 2 ∨ j = 4) : srt k = j ↔ k = j := by
  unfold srt
  split
  · omega
  split
  · omega
  split
  · omega
  split <;> omega
section
variable (d : Nat → Nat → Int32) (L : Nat → Nat → Int64) {T : Nat → Nat} {n : Nat}
theorem k_goes {s k v : Nat} {r : List Tk} (hn : n ≤ 700) (hT : ∀ j, T j < 256) (H : MT d L T n ((s, k, v) :: r)) (hk : k ≠ 0) : Cn mX12_goes false 2 0 0 [.ref 112] (W0 d L) (fun q h => q = none ∧ ∃ d' L', h = W0 d' L' ∧ MF d d' ∧ ML L L' ∧ MT d' L' T n r) := by
  obtain ⟨h1, h2, h3, h4, h5⟩ := MT_hd H
  obtain ⟨h6, h7⟩ := h5 hk
  refine (k_go d L hn (tE_sp (T := T) h6).2 hT h2.1 h2.2.1).imp (fun q h => ?_)
  rintro ⟨a, d', L', b, c, e, f⟩
  exact ⟨a, d', L', b, c, e, _, (tE_sp (T := T) h6).2, h7, f⟩
set_option maxRecDepth 100000 in
set_option maxHeartbeats 1600000 in
theorem k_isSign {b s k v : Nat} {r : List Tk} (hc : 40 ≤ b ∧ b ≤ 61) (H : MT d L T n ((s, k, v) :: r)) : Cn mX12_isSign false 1 0 0 [.ref 112, .int (nI b)] (W0 d L) (qP d L (bI (decide (k = b)))) := by
  obtain ⟨f1, f2, f3, f4, f5, e, f6, f7, f8, ch, f9, f10, f11⟩ := MT_f H
  have sl := srt_le k
  refine Cn.intro gX12_isSign rfl (Nat.le_of_ble_eq_true rfl) rfl ?_
  repeat refine x_s rfl rfl ?_
  rw [f2]
  by_cases h3 : srt k = 3
  · rw [h3]
    refine x_br rfl rfl (fun c => absurd c (fun z => z rfl)) (fun c => ?_)
    repeat refine x_s rfl rfl ?_
    have ek : ch = k := by
      rcases f10 with z | z
      · exact z
      · exact absurd h3 z
    rw [f9, ek]
    by_cases hk : k = b
    · refine x_br rfl rfl (fun c => absurd c (fun z => z (congrArg nI hk))) (fun c => ?_)
      repeat refine x_s rfl rfl ?_
      refine x_iret rfl rfl rfl ⟨congrArg (fun z => some (Value.int z)) ?_, rfl⟩
      rw [decide_eq_true hk]
      rfl
    · refine x_br rfl rfl (fun c => ?_) (fun c => absurd c (fun z => hk ((nI_eq (by omega) (by omega)).mp z)))
      repeat refine x_s rfl rfl ?_
      refine x_iret rfl rfl rfl ⟨congrArg (fun z => some (Value.int z)) ?_, rfl⟩
      rw [decide_eq_false hk]
      rfl
  · refine x_br rfl rfl (fun c => ?_) (fun c => absurd c (fun z => h3 ((nI_eq (by omega) (by decide)).mp z)))
    repeat refine x_s rfl rfl ?_
    refine x_iret rfl rfl rfl ⟨congrArg (fun z => some (Value.int z)) ?_, rfl⟩
    rw [decide_eq_false (fun z => h3 ((srt_3 f4).mpr (by omega)))]
    rfl
def sp5 (v : Int64) (c : Int32) : Int64 := (v <<< ((5 : Int32).toInt64 &&& 63)) ||| (c - 96).toInt64
def sp1 (v : Int64) (c : Int32) : Int64 := if c = 0 then v else sp5 v c
def spf (a b c e f g : Int32) : Int64 := sp1 (sp1 (sp1 (sp1 (sp5 (a.toInt64 - 96) b) c) e) f) g
set_option maxRecDepth 100000 in
set_option maxHeartbeats 1600000 in
theorem k_spelled (a b c e f g : Int32) : Cn mX12_spelled false 1 0 0 [.int a, .int b, .int c, .int e, .int f, .int g] (W0 d L) (fun r h => r = some (.long (spf a b c e f g)) ∧ h = W0 d L) := by
  generalize hz : spf a b c e f g = z
  have at84 : ∀ v, v = z → Ex mX12_spelled false 1 0 0 84 [some (.int a), some (.int b), some (.int c), some (.int e), some (.int f), some (.int g), some (.long v), none] [] (W0 d L) (fun r h => r = some (.long z) ∧ h = W0 d L) nX := by
    intro v hv
    repeat refine x_s rfl rfl ?_
    exact x_lret rfl rfl ⟨by rw [hv], rfl⟩
  have at66 : ∀ v, sp1 v g = z → Ex mX12_spelled false 1 0 0 66 [some (.int a), some (.int b), some (.int c), some (.int e), some (.int f), some (.int g), some (.long v), none] [] (W0 d L) (fun r h => r = some (.long z) ∧ h = W0 d L) nX := by
    intro v hv
    unfold sp1 at hv
    repeat refine x_s rfl rfl ?_
    refine x_br rfl rfl (fun q => ?_) (fun q => ?_)
    · exact at84 v (by rw [if_pos q] at hv; exact hv)
    · iterate 9 refine x_s rfl rfl ?_
      have hv' : sp5 v g = z := by rw [if_neg q] at hv; exact hv
      exact at84 _ hv'
  have at48 : ∀ v, sp1 (sp1 v f) g = z → Ex mX12_spelled false 1 0 0 48 [some (.int a), some (.int b), some (.int c), some (.int e), some (.int f), some (.int g), some (.long v), none] [] (W0 d L) (fun r h => r = some (.long z) ∧ h = W0 d L) nX := by
    intro v hv
    repeat refine x_s rfl rfl ?_
    refine x_br rfl rfl (fun q => ?_) (fun q => ?_)
    · exact at66 v (by rw [show sp1 v f = v from if_pos q] at hv; exact hv)
    · iterate 9 refine x_s rfl rfl ?_
      have hv' : sp1 (sp5 v f) g = z := by rw [show sp1 v f = sp5 v f from if_neg q] at hv; exact hv
      exact at66 _ hv'
  have at32 : ∀ v, sp1 (sp1 (sp1 v e) f) g = z → Ex mX12_spelled false 1 0 0 32 [some (.int a), some (.int b), some (.int c), some (.int e), some (.int f), some (.int g), some (.long v), none] [] (W0 d L) (fun r h => r = some (.long z) ∧ h = W0 d L) nX := by
    intro v hv
    repeat refine x_s rfl rfl ?_
    refine x_br rfl rfl (fun q => ?_) (fun q => ?_)
    · exact at48 v (by rw [show sp1 v e = v from if_pos q] at hv; exact hv)
    · iterate 9 refine x_s rfl rfl ?_
      have hv' : sp1 (sp1 (sp5 v e) f) g = z := by rw [show sp1 v e = sp5 v e from if_neg q] at hv; exact hv
      exact at48 _ hv'
  refine Cn.intro gX12_spelled rfl (Nat.le_of_ble_eq_true rfl) rfl ?_
  repeat refine x_s rfl rfl ?_
  refine x_br rfl rfl (fun q => ?_) (fun q => ?_)
  · have hv' : sp1 (sp1 (sp1 (sp5 (a.toInt64 - 96) b) e) f) g = z := by rw [spf, show sp1 (sp5 (a.toInt64 - 96) b) c = sp5 (a.toInt64 - 96) b from if_pos q] at hz; exact hz
    exact at32 _ hv'
  · iterate 9 refine x_s rfl rfl ?_
    have hv' : sp1 (sp1 (sp1 (sp5 (sp5 (a.toInt64 - 96) b) c) e) f) g = z := by rw [spf, show sp1 (sp5 (a.toInt64 - 96) b) c = sp5 (sp5 (a.toInt64 - 96) b) c from if_neg q] at hz; exact hz
    exact at32 _ hv'
def pkW (k : Nat) : Nat := pkR (KW.getD k []).reverse
theorem pkW_b : ∀ k, k < 17 → pkW k < 2 ^ 40 := by decide +kernel
set_option maxRecDepth 100000 in
set_option maxHeartbeats 1600000 in
theorem k_letters {k : Nat} (hk : k < 17) : Cn mX12_letters false 2 0 0 [.int (nI k)] (W0 d L) (fun r h => r = some (.long (lI (pkW k))) ∧ h = W0 d L) := by
  refine Cn.intro gX12_letters rfl (Nat.le_of_ble_eq_true rfl) rfl ?_
  repeat refine x_s rfl rfl ?_
  rcases (by omega : k = 0 ∨ k = 1 ∨ k = 2 ∨ k = 3 ∨ k = 4 ∨ k = 5 ∨ k = 6 ∨ k = 7 ∨ k = 8 ∨ k = 9 ∨ k = 10 ∨ k = 11 ∨ k = 12 ∨ k = 13 ∨ k = 14 ∨ k = 15 ∨ k = 16) with rfl | rfl | rfl | rfl | rfl | rfl | rfl | rfl | rfl | rfl | rfl | rfl | rfl | rfl | rfl | rfl | rfl
  · refine x_tsw (i := .iadd) (tgt := 80) rfl (Or.inl ⟨by decide, _, rfl, rfl⟩) ?_
    repeat refine x_s rfl rfl ?_
    refine x_cs (k_spelled d L 100 101 103 114 101 101) rfl rfl rfl (by decide) (Nat.le_of_ble_eq_true rfl) (by decide) (by decide) (by decide) ?_
    rintro _ _ ⟨rfl, rfl⟩
    exact x_lret rfl rfl ⟨congrArg (fun z => some (Value.long z)) (by decide +kernel), rfl⟩
  · refine x_tsw (i := .iadd) (tgt := 96) rfl (Or.inl ⟨by decide, _, rfl, rfl⟩) ?_
    repeat refine x_s rfl rfl ?_
    refine x_cs (k_spelled d L 102 97 114 0 0 0) rfl rfl rfl (by decide) (Nat.le_of_ble_eq_true rfl) (by decide) (by decide) (by decide) ?_
    rintro _ _ ⟨rfl, rfl⟩
    exact x_lret rfl rfl ⟨congrArg (fun z => some (Value.long z)) (by decide +kernel), rfl⟩
  · refine x_tsw (i := .iadd) (tgt := 109) rfl (Or.inl ⟨by decide, _, rfl, rfl⟩) ?_
    repeat refine x_s rfl rfl ?_
    refine x_cs (k_spelled d L 114 101 97 99 104 0) rfl rfl rfl (by decide) (Nat.le_of_ble_eq_true rfl) (by decide) (by decide) (by decide) ?_
    rintro _ _ ⟨rfl, rfl⟩
    exact x_lret rfl rfl ⟨congrArg (fun z => some (Value.long z)) (by decide +kernel), rfl⟩
  · refine x_tsw (i := .iadd) (tgt := 124) rfl (Or.inl ⟨by decide, _, rfl, rfl⟩) ?_
    repeat refine x_s rfl rfl ?_
    refine x_cs (k_spelled d L 114 117 115 116 0 0) rfl rfl rfl (by decide) (Nat.le_of_ble_eq_true rfl) (by decide) (by decide) (by decide) ?_
    rintro _ _ ⟨rfl, rfl⟩
    exact x_lret rfl rfl ⟨congrArg (fun z => some (Value.long z)) (by decide +kernel), rfl⟩
  · refine x_tsw (i := .iadd) (tgt := 138) rfl (Or.inl ⟨by decide, _, rfl, rfl⟩) ?_
    repeat refine x_s rfl rfl ?_
    refine x_cs (k_spelled d L 115 107 105 108 108 0) rfl rfl rfl (by decide) (Nat.le_of_ble_eq_true rfl) (by decide) (by decide) (by decide) ?_
    rintro _ _ ⟨rfl, rfl⟩
    exact x_lret rfl rfl ⟨congrArg (fun z => some (Value.long z)) (by decide +kernel), rfl⟩
  · refine x_tsw (i := .iadd) (tgt := 153) rfl (Or.inl ⟨by decide, _, rfl, rfl⟩) ?_
    repeat refine x_s rfl rfl ?_
    refine x_cs (k_spelled d L 104 111 117 114 0 0) rfl rfl rfl (by decide) (Nat.le_of_ble_eq_true rfl) (by decide) (by decide) (by decide) ?_
    rintro _ _ ⟨rfl, rfl⟩
    exact x_lret rfl rfl ⟨congrArg (fun z => some (Value.long z)) (by decide +kernel), rfl⟩
  · refine x_tsw (i := .iadd) (tgt := 167) rfl (Or.inl ⟨by decide, _, rfl, rfl⟩) ?_
    repeat refine x_s rfl rfl ?_
    refine x_cs (k_spelled d L 112 111 105 110 116 115) rfl rfl rfl (by decide) (Nat.le_of_ble_eq_true rfl) (by decide) (by decide) (by decide) ?_
    rintro _ _ ⟨rfl, rfl⟩
    exact x_lret rfl rfl ⟨congrArg (fun z => some (Value.long z)) (by decide +kernel), rfl⟩
  · refine x_tsw (i := .iadd) (tgt := 183) rfl (Or.inl ⟨by decide, _, rfl, rfl⟩) ?_
    repeat refine x_s rfl rfl ?_
    refine x_cs (k_spelled d L 102 108 97 116 0 0) rfl rfl rfl (by decide) (Nat.le_of_ble_eq_true rfl) (by decide) (by decide) (by decide) ?_
    rintro _ _ ⟨rfl, rfl⟩
    exact x_lret rfl rfl ⟨congrArg (fun z => some (Value.long z)) (by decide +kernel), rfl⟩
  · refine x_tsw (i := .iadd) (tgt := 197) rfl (Or.inl ⟨by decide, _, rfl, rfl⟩) ?_
    repeat refine x_s rfl rfl ?_
    refine x_cs (k_spelled d L 115 97 105 100 0 0) rfl rfl rfl (by decide) (Nat.le_of_ble_eq_true rfl) (by decide) (by decide) (by decide) ?_
    rintro _ _ ⟨rfl, rfl⟩
    exact x_lret rfl rfl ⟨congrArg (fun z => some (Value.long z)) (by decide +kernel), rfl⟩
  · refine x_tsw (i := .iadd) (tgt := 211) rfl (Or.inl ⟨by decide, _, rfl, rfl⟩) ?_
    repeat refine x_s rfl rfl ?_
    refine x_cs (k_spelled d L 111 110 101 0 0 0) rfl rfl rfl (by decide) (Nat.le_of_ble_eq_true rfl) (by decide) (by decide) (by decide) ?_
    rintro _ _ ⟨rfl, rfl⟩
    exact x_lret rfl rfl ⟨congrArg (fun z => some (Value.long z)) (by decide +kernel), rfl⟩
  · refine x_tsw (i := .iadd) (tgt := 224) rfl (Or.inl ⟨by decide, _, rfl, rfl⟩) ?_
    repeat refine x_s rfl rfl ?_
    refine x_cs (k_spelled d L 110 101 101 100 108 101) rfl rfl rfl (by decide) (Nat.le_of_ble_eq_true rfl) (by decide) (by decide) (by decide) ?_
    rintro _ _ ⟨rfl, rfl⟩
    exact x_lret rfl rfl ⟨congrArg (fun z => some (Value.long z)) (by decide +kernel), rfl⟩
  · refine x_tsw (i := .iadd) (tgt := 240) rfl (Or.inl ⟨by decide, _, rfl, rfl⟩) ?_
    repeat refine x_s rfl rfl ?_
    refine x_cs (k_spelled d L 115 97 121 115 0 0) rfl rfl rfl (by decide) (Nat.le_of_ble_eq_true rfl) (by decide) (by decide) (by decide) ?_
    rintro _ _ ⟨rfl, rfl⟩
    exact x_lret rfl rfl ⟨congrArg (fun z => some (Value.long z)) (by decide +kernel), rfl⟩
  · refine x_tsw (i := .iadd) (tgt := 254) rfl (Or.inl ⟨by decide, _, rfl, rfl⟩) ?_
    repeat refine x_s rfl rfl ?_
    refine x_cs (k_spelled d L 116 117 114 110 115 0) rfl rfl rfl (by decide) (Nat.le_of_ble_eq_true rfl) (by decide) (by decide) (by decide) ?_
    rintro _ _ ⟨rfl, rfl⟩
    exact x_lret rfl rfl ⟨congrArg (fun z => some (Value.long z)) (by decide +kernel), rfl⟩
  · refine x_tsw (i := .iadd) (tgt := 269) rfl (Or.inl ⟨by decide, _, rfl, rfl⟩) ?_
    repeat refine x_s rfl rfl ?_
    refine x_cs (k_spelled d L 99 111 117 114 116 0) rfl rfl rfl (by decide) (Nat.le_of_ble_eq_true rfl) (by decide) (by decide) (by decide) ?_
    rintro _ _ ⟨rfl, rfl⟩
    exact x_lret rfl rfl ⟨congrArg (fun z => some (Value.long z)) (by decide +kernel), rfl⟩
  · refine x_tsw (i := .iadd) (tgt := 284) rfl (Or.inl ⟨by decide, _, rfl, rfl⟩) ?_
    repeat refine x_s rfl rfl ?_
    refine x_cs (k_spelled d L 97 110 100 0 0 0) rfl rfl rfl (by decide) (Nat.le_of_ble_eq_true rfl) (by decide) (by decide) (by decide) ?_
    rintro _ _ ⟨rfl, rfl⟩
    exact x_lret rfl rfl ⟨congrArg (fun z => some (Value.long z)) (by decide +kernel), rfl⟩
  · refine x_tsw (i := .iadd) (tgt := 297) rfl (Or.inl ⟨by decide, _, rfl, rfl⟩) ?_
    repeat refine x_s rfl rfl ?_
    refine x_cs (k_spelled d L 111 114 0 0 0 0) rfl rfl rfl (by decide) (Nat.le_of_ble_eq_true rfl) (by decide) (by decide) (by decide) ?_
    rintro _ _ ⟨rfl, rfl⟩
    exact x_lret rfl rfl ⟨congrArg (fun z => some (Value.long z)) (by decide +kernel), rfl⟩
  · refine x_tsw (i := .iadd) (tgt := 309) rfl (Or.inr ⟨by decide, by decide⟩) ?_
    repeat refine x_s rfl rfl ?_
    refine x_cs (k_spelled d L 110 111 116 0 0 0) rfl rfl rfl (by decide) (Nat.le_of_ble_eq_true rfl) (by decide) (by decide) (by decide) ?_
    rintro _ _ ⟨rfl, rfl⟩
    exact x_lret rfl rfl ⟨congrArg (fun z => some (Value.long z)) (by decide +kernel), rfl⟩
def kwI (k v : Nat) : Int32 := if k = 1 ∧ v < 17 then nI v else -1
set_option maxRecDepth 100000 in
set_option maxHeartbeats 1600000 in
theorem k_knownWord {s k v : Nat} {r : List Tk} (hT : ∀ j, T j < 256) (hn : n ≤ 700) (H : MT d L T n ((s, k, v) :: r)) : Cn mX12_knownWord false 3 0 0 [.ref 112] (W0 d L) (qP d L (kwI k v)) := by
  obtain ⟨f1, f2, f3, f4, f5, f6⟩ := MT_f H
  obtain ⟨g1, ⟨g2, g3, g4, g5, g6, g7, g8, g9⟩, b1, b2, b3⟩ := MT_hd H
  have sl := srt_le k
  have le := tE_le (T := T) g1
  refine Cn.intro gX12_knownWord rfl (Nat.le_of_ble_eq_true rfl) rfl ?_
  repeat refine x_s rfl rfl ?_
  rw [f2]
  by_cases hk : k = 1
  rotate_left
  · refine x_br rfl rfl (fun c => ?_) (fun c => absurd c (fun z => hk ((srt_e (by omega)).mp ((nI_eq (by omega) (by decide)).mp z))))
    repeat refine x_s rfl rfl ?_
    refine x_iret rfl rfl rfl ⟨congrArg (fun z => some (Value.int z)) ?_, rfl⟩
    unfold kwI
    rw [if_neg (fun z => hk z.1)]
  rw [(srt_e (by omega)).mpr hk]
  refine x_br rfl rfl (fun c => absurd c (fun z => z rfl)) (fun c => ?_)
  repeat refine x_s rfl rfl ?_
  rw [g5]
  have q := (b3 (by omega)).1
  have ek : kof (T s) = 1 := by
    have : tK T n s = 1 := by rw [← b1]; exact hk
    unfold tK at this
    rw [if_pos q] at this
    exact this
  obtain ⟨w1, w2⟩ := tE_wd q (Or.inl ek)
  have ev : v = KW.findIdx (isW T s (tE T n s)) := by
    rw [b2]
    unfold tV
    rw [← b1, hk, if_neg (by decide), if_pos rfl]
  have vl : v ≤ 17 := by rw [ev]; exact fx_le _ _
  by_cases hl : tE T n s - s ≤ 6
  rotate_left
  · refine x_br rfl rfl (fun c => absurd c (fun z => absurd z (nI_ge (b := tE T n s - s) (a := 6) (by omega) (by omega)))) (fun c => ?_)
    repeat refine x_s rfl rfl ?_
    refine x_iret rfl rfl rfl ⟨congrArg (fun z => some (Value.int z)) ?_, rfl⟩
    unfold kwI
    rw [if_neg]
    rintro ⟨-, z⟩
    have c := isW_ix (T := T) (s := s) (e := tE T n s) z
    rw [decide_eq_true ev.symm] at c
    unfold isW at c
    rw [Bool.and_eq_true, decide_eq_true_eq] at c
    have := (KW_l v z).1
    omega
  refine x_br rfl rfl (fun c => ?_) (fun c => absurd c (fun z => absurd (nI_le (a := tE T n s - s) (b := 6) hl (by decide)) z))
  have g9' : L 112 22 = lI (pk T s (tE T n s - s)) := by
    rw [g9, ← b1, if_pos hk, show min (tE T n s - s) 6 = tE T n s - s by omega]
  have lt : ∀ j, j < tE T n s - s → 97 ≤ T (s + j) ∧ T (s + j) ≤ 122 := fun j hj => by
    have := (w1 (s + j) (by omega) (by omega)).2
    rw [ek] at this
    exact kof_1 this
  have pb := pk_b (T := T) (s := s) (tE T n s - s) lt
  have pb2 : 32 ^ (tE T n s - s) ≤ 32 ^ 6 := Nat.pow_le_pow_right (by decide) hl
  have pe : (32 : Nat) ^ 6 = 1073741824 := by decide
  have eqv : ∀ a, a < 17 → (lg_cmp (lI (pkW a)) (L 112 22) = 0 ↔ v = a) := by
    intro a ha
    have l3 := (KW_l a ha).2.2
    rw [lc_eq, ← lc_eqi, g9', lI_inj (pkW_b a ha) (by omega)]
    unfold pkW
    rw [pk_i (T := T) (s := s) _ _ lt (fun c hc => l3 c (List.mem_reverse.mp hc)), List.reverse_reverse, List.length_reverse]
    have c := isW_ix (T := T) (s := s) (e := tE T n s) ha
    rw [← ev] at c
    unfold isW at c
    constructor
    · rintro ⟨z1, z2⟩
      rw [z2, decide_eq_true z1] at c
      exact of_decide_eq_true c.symm
    · intro z
      rw [decide_eq_true z, Bool.and_eq_true, decide_eq_true_eq] at c
      exact c
  have lp : ∀ a, a ≤ v → Ex mX12_knownWord false 3 0 0 21 [some (.ref 112), some (.int (nI a))] [] (W0 d L) (qP d L (kwI k v)) nX := by
    refine x_down _ ?_ ?_
    · repeat refine x_s rfl rfl ?_
      by_cases h17 : v < 17
      · refine x_br rfl rfl (fun c => absurd c (nI_ge (b := 17) h17 (by decide))) (fun c => ?_)
        repeat refine x_s rfl rfl ?_
        refine x_cs (k_letters d L h17) rfl rfl rfl (by decide) (Nat.le_of_ble_eq_true rfl) (by decide) (by decide) (by decide) ?_
        rintro _ _ ⟨rfl, rfl⟩
        repeat refine x_s rfl rfl ?_
        refine x_br rfl rfl (fun c => absurd c (fun z => z ((eqv v h17).mpr rfl))) (fun c => ?_)
        repeat refine x_s rfl rfl ?_
        refine x_iret rfl rfl rfl ⟨congrArg (fun z => some (Value.int z)) ?_, rfl⟩
        unfold kwI
        rw [if_pos ⟨hk, h17⟩]
      · refine x_br rfl rfl (fun c => ?_) (fun c => absurd c (fun z => z (nI_le (a := 17) (by omega) (by omega))))
        repeat refine x_s rfl rfl ?_
        refine x_iret rfl rfl rfl ⟨congrArg (fun z => some (Value.int z)) ?_, rfl⟩
        unfold kwI
        rw [if_neg (fun z => h17 z.2)]
    · intro a ha ih
      repeat refine x_s rfl rfl ?_
      refine x_br rfl rfl (fun c => absurd c (nI_ge (b := 17) (by omega) (by decide))) (fun c => ?_)
      repeat refine x_s rfl rfl ?_
      refine x_cs (k_letters d L (k := a) (by omega)) rfl rfl rfl (by decide) (Nat.le_of_ble_eq_true rfl) (by decide) (by decide) (by decide) ?_
      rintro _ _ ⟨rfl, rfl⟩
      repeat refine x_s rfl rfl ?_
      refine x_br rfl rfl (fun c => ?_) (fun c => absurd c (fun z => absurd ((eqv a (by omega)).mp z) (by omega)))
      iterate 2 refine x_s rfl rfl ?_
      rw [nI_1]
      exact ih
  iterate 2 refine x_s rfl rfl ?_
  exact lp 0 (Nat.zero_le _)
end
