/-! THE MODEL: feed, acts, what is seen, the image -/
theorem nI_mul (a b : Nat) : nI a * nI b = nI (a * b) := (Int32.ofNat_mul a b).symm
theorem mul67 (k : Nat) : (67 : Int32) * nI k = nI (67 * k) := nI_mul 67 k
theorem nI_s {a b : Nat} (h : b ≤ a) (ha : a ≤ 100000) : nI a - nI b = nI (a - b) := by
  apply nI_ofI (by omega)
  rw [nsub_tI ha (by omega)]
  omega
def HGM (d : Nat → Nat → Int32) (b n : Nat) (G : Nat → Nat → Nat → Nat) : Prop := ∀ j, j < n → RowM d b (67 * j) (G j) ∧ G j 9 0 ≤ 16 ∧ G j 4 0 ≤ 6
def sG (n : Nat) (G : Nat → Nat → Nat → Nat) (j : Nat) : Nat → Nat → Nat := G (if n = 40 then j + 1 else j)
/-- the rows that are kept, one more behind them -/
def kG (n : Nat) (G : Nat → Nat → Nat → Nat) (f : Nat → Nat → Nat) (j : Nat) : Nat → Nat → Nat := if j = kN n then f else sG n G j
def sF0 (f g : Nat → Nat → Nat) : Prop := g 0 = f 0 ∧ g 1 = f 1 ∧ g 2 = f 2 ∧ g 3 = f 3 ∧ g 4 = f 4 ∧ g 7 = f 7
def mA (d d' : Nat → Nat → Int32) : Prop := (∀ c, c ≠ 112 → c ≠ 128 → c ≠ 129 → d' c = d c) ∧ ∀ k, k ≠ 0 → k ≠ 43 → d' 112 k = d 112 k
theorem mA_rfl {d : Nat → Nat → Int32} : mA d d := ⟨fun _ _ _ _ => rfl, fun _ _ _ => rfl⟩
theorem mA_f {d d' : Nat → Nat → Int32} {k : Nat} {x : Int32} (h : mA d d') (hk : k = 0 ∨ k = 43) : mA d (up2 d' 112 k x) := by
  refine ⟨fun c h1 h2 h3 => (up2_ne h1).trans (h.1 c h1 h2 h3), fun j h1 h2 => ?_⟩
  rw [up2_k (by omega)]
  exact h.2 j h1 h2
theorem mA_c {d d' : Nat → Nat → Int32} {c k : Nat} {x : Int32} (h : mA d d') (hc : c = 128 ∨ c = 129) : mA d (up2 d' c k x) := by
  refine ⟨fun b h1 h2 h3 => (up2_ne (by omega)).trans (h.1 b h1 h2 h3), fun j h1 h2 => ?_⟩
  rw [up2_ne (by omega)]
  exact h.2 j h1 h2
theorem HB_mA {d d' : Nat → Nat → Int32} {F : Fr} {f : Nat → Nat → Nat} (H : HB d F) (h : mA d d') (hs : sF0 F.1 f) (hr : RowM d' 128 0 f) : HB d' (f, F.2) := by
  obtain ⟨a1, a2, a3, a4, a5, a6, a7, a8⟩ := H
  obtain ⟨s0, s1, s2, s3, s4, s7⟩ := hs
  refine ⟨?_, ?_, fun p hp => ?_, fun n hn => ?_, hr, ?_, ?_, ?_⟩
  · show d' 112 1 = nI (f 0 0)
    rw [h.2 1 (by decide) (by decide), a1, s0]
  · show d' 112 2 = nI (f 4 0)
    rw [h.2 2 (by decide) (by decide), a2, s4]
  · have hp' : p < f 0 0 := hp
    rw [s0] at hp'
    show d' 113 p = nI (f 1 p) ∧ d' 114 p = nI (f 2 p) ∧ d' 115 p = nI (f 3 p)
    rw [h.1 113 (by decide) (by decide) (by decide), h.1 114 (by decide) (by decide) (by decide), h.1 115 (by decide) (by decide) (by decide), s1, s2, s3]
    exact a3 p hp'
  · have hn' : n < f 4 0 := hn
    rw [s4] at hn'
    show d' 116 n = nI (f 7 n)
    rw [h.1 116 (by decide) (by decide) (by decide), s7]
    exact a4 n hn'
  · unfold RlM at a6 ⊢
    rw [h.2 3 (by decide) (by decide), h.1 117 (by decide) (by decide) (by decide)]
    exact a6
  · unfold RlM at a7 ⊢
    rw [h.2 4 (by decide) (by decide), h.1 117 (by decide) (by decide) (by decide)]
    exact a7
  · rw [h.1 116 (by decide) (by decide) (by decide)]
    exact a8
theorem RowM_raw {d d' : Nat → Nat → Int32} {c u c' u' : Nat} {f : Nat → Nat → Nat} (h9 : f 9 0 ≤ 16) (h4 : f 4 0 ≤ 6) (e : ∀ k, k < 67 → d' c' (u' + k) = d c (u + k)) (H : RowM d c u f) : RowM d' c' u' f := by
  obtain ⟨h1, h2, h3⟩ := H
  refine ⟨(e 0 (by decide)).trans h1, fun s hs => ?_, fun n hn => ?_⟩
  · obtain ⟨a, b, q⟩ := h2 s hs
    exact ⟨(e (1 + s) (by omega)).trans a, (e (17 + s) (by omega)).trans b, (e (33 + s) (by omega)).trans q⟩
  · obtain ⟨a, b, q⟩ := h3 n hn
    exact ⟨(e (49 + n) (by omega)).trans a, (e (55 + n) (by omega)).trans b, (e (61 + n) (by omega)).trans q⟩
theorem kN_40 : kN 40 = 40 := rfl
theorem kN_n {n : Nat} (h : ¬ n = 40) : kN n = n + 1 := by unfold kN; rw [if_neg h]
theorem HG_keeps {d d2 : Nat → Nat → Int32} {F : Fr} {n : Nat} {G : Nat → Nat → Nat → Nat} (H : RowM d 128 0 F.1) (R : RG F) (HG : HGM d 129 n G) (hG : G n = F.1)
    (e : ∀ j k, j < kN n → k < 67 → d2 129 (67 * j + k) = if j = (if n = 40 then 39 else n) then d 128 k else d 129 (67 * (if n = 40 then j + 1 else j) + k)) : HGM d2 129 (kN n) (sG n G) := by
  intro j hj
  by_cases e1 : j = (if n = 40 then 39 else n)
  · have e2 : sG n G j = F.1 := by
      unfold sG
      rw [← hG]
      congr 1
      by_cases h40 : n = 40
      · rw [if_pos h40] at e1 ⊢
        omega
      · rw [if_neg h40] at e1 ⊢
        omega
    rw [e2]
    refine ⟨RowM_raw R.2.2.1 R.2.1 (fun k hk => ?_) H, R.2.2.1, R.2.1⟩
    rw [e j k hj hk, if_pos e1, Nat.zero_add]
  · have hj' : (if n = 40 then j + 1 else j) < n := by
      by_cases h40 : n = 40
      · rw [if_pos h40] at e1 ⊢
        rw [h40] at hj
        have : j < 40 := hj
        omega
      · rw [if_neg h40] at e1 ⊢
        rw [kN_n h40] at hj
        omega
    obtain ⟨g1, g2, g3⟩ := HG _ hj'
    refine ⟨RowM_raw g2 g3 (fun k hk => ?_) g1, g2, g3⟩
    rw [e j k hj hk, if_neg e1]
theorem HGM_ne {d d' : Nat → Nat → Int32} {b n : Nat} {G G' : Nat → Nat → Nat → Nat} (H : HGM d b n G) (e : d' b = d b) (hG : ∀ j, j < n → G' j = G j) : HGM d' b n G' := by
  intro j hj
  rw [hG j hj]
  unfold RowM
  rw [e]
  exact H j hj
theorem kG_lt {n j : Nat} {G : Nat → Nat → Nat → Nat} {f : Nat → Nat → Nat} (h : j < kN n) : kG n G f j = sG n G j := by
  unfold kG
  rw [if_neg (by omega)]
section
variable (d : Nat → Nat → Int32) (L : Nat → Nat → Int64) {F : Fr} {Z : Sn} {n : Nat} {G : Nat → Nat → Nat → Nat}
set_option maxRecDepth 100000 in
set_option maxHeartbeats 1600000 in
theorem k_keeps (hn : n ≤ 40) (h43 : d 112 43 = nI n) : Cn mX12_keeps false 1 0 0 [.ref 112] (W0 d L) (fun r h => r = none ∧ ∃ d', h = W0 d' L ∧ (∀ c, c ≠ 112 → c ≠ 129 → d' c = d c) ∧ (∀ k, k ≠ 43 → d' 112 k = d 112 k) ∧ d' 112 43 = nI (kN n) ∧ ∀ j k, j < kN n → k < 67 → d' 129 (67 * j + k) = if j = (if n = 40 then 39 else n) then d 128 k else d 129 (67 * (if n = 40 then j + 1 else j) + k)) := by
  have lp2 : ∀ m, m ≤ 39 → ∀ d1 : Nat → Nat → Int32, d1 112 43 = nI m → ∀ Q : xPost, (∀ d2 : Nat → Nat → Int32, sm [129] d1 d2 → (∀ i, i < 67 * m → d2 129 i = d1 129 i) → (∀ i, i < 67 → d2 129 (67 * m + i) = d1 128 i) → Q none (W0 (up2 d2 112 43 (nI (m + 1))) L)) → ∀ k, k ≤ 67 → ∀ d2 : Nat → Nat → Int32, sm [129] d1 d2 → (∀ i, i < 67 * m → d2 129 i = d1 129 i) → (∀ i, i < k → d2 129 (67 * m + i) = d1 128 i) → Ex mX12_keeps false 1 0 0 52 [some (.ref 112), some (.int (nI k))] [] (W0 d2 L) Q nX := by
    intro m hm d1 h1 Q K
    refine x_down _ ?_ ?_
    · intro d2 s2 a2 b2
      have e43 : d2 112 43 = nI m := (congrFun (s2 112 (by decide)) 43).trans h1
      repeat refine x_s rfl rfl ?_
      refine x_br rfl rfl (fun c => ?_) (fun c => absurd c (fun z => z (by decide)))
      repeat refine x_s rfl rfl ?_
      refine x_put rfl rfl (by decide) rfl ⟨rfl, rfl⟩ (Or.inl rfl) ?_
      have e : d2 112 43 + 1 = nI (m + 1) := by rw [e43, nI_1]
      refine x_vret rfl rfl ?_
      have K' := K d2 s2 a2 b2
      rw [← e] at K'
      exact K'
    · intro k hk ih d2 s2 a2 b2
      have e43 : d2 112 43 = nI m := (congrFun (s2 112 (by decide)) 43).trans h1
      have e128 : d2 128 = d1 128 := s2 128 (by decide)
      repeat refine x_s rfl rfl ?_
      refine x_br rfl rfl (fun c => absurd c (nI_ge (b := 67) hk (by decide))) (fun c => ?_)
      repeat refine x_s rfl rfl ?_
      refine x_ald rfl rfl rfl (k := k) (rfl) (by omega) (by decide) rfl ?_
      refine x_iast rfl rfl (k := 67 * m + k) (by rw [e43, mul67, nI_add]) (by omega) (by decide) rfl ?_
      iterate 2 refine x_s rfl rfl ?_
      rw [nI_1]
      refine ih _ (sm_up s2 (by decide)) (fun i hi => ?_) (fun i hi => ?_)
      · exact (show (if i = 67 * m + k then d2 128 k else d2 129 i) = _ by rw [if_neg (by omega)]; exact a2 i hi)
      · by_cases e : i = k
        · subst e
          exact (show (if 67 * m + i = 67 * m + i then d2 128 i else d2 129 (67 * m + i)) = _ by rw [if_pos rfl, e128])
        · exact (show (if 67 * m + i = 67 * m + k then d2 128 k else d2 129 (67 * m + i)) = _ by rw [if_neg (by omega)]; exact b2 i (by omega))
  have lp1 : ∀ Q : xPost, (∀ d2 : Nat → Nat → Int32, sm [129] d d2 → (∀ i, i < 2613 → d2 129 i = d 129 (i + 67)) → Ex mX12_keeps false 1 0 0 40 [some (.ref 112), some (.int (nI 2680))] [] (W0 d2 L) Q nX) → ∀ k, k ≤ 2680 → 67 ≤ k → ∀ d2 : Nat → Nat → Int32, sm [129] d d2 → (∀ i, i + 67 < k → d2 129 i = d 129 (i + 67)) → (∀ i, k ≤ i + 67 → d2 129 i = d 129 i) → Ex mX12_keeps false 1 0 0 12 [some (.ref 112), some (.int (nI k))] [] (W0 d2 L) Q nX := by
    intro Q K
    refine x_down _ ?_ ?_
    · intro _ d2 s2 a2 b2
      repeat refine x_s rfl rfl ?_
      refine x_br rfl rfl (fun c => ?_) (fun c => absurd c (fun z => z (by decide)))
      exact K d2 s2 (fun i hi => a2 i (by omega))
    · intro k hk ih h67 d2 s2 a2 b2
      repeat refine x_s rfl rfl ?_
      refine x_br rfl rfl (fun c => absurd c (nI_ge (b := 2680) hk (by decide))) (fun c => ?_)
      repeat refine x_s rfl rfl ?_
      refine x_ald rfl rfl rfl (k := k) (rfl) (by omega) (by decide) rfl ?_
      refine x_iast rfl rfl (k := k - 67) (nI_s (b := 67) h67 (by omega)) (by omega) (by decide) rfl ?_
      iterate 2 refine x_s rfl rfl ?_
      rw [nI_1]
      refine ih (by omega) _ (sm_up s2 (by decide)) (fun i hi => ?_) (fun i hi => ?_)
      · by_cases e : i = k - 67
        · exact (show (if i = k - 67 then d2 129 k else d2 129 i) = _ by rw [if_pos e, b2 k (by omega)]; exact congrArg (d 129) (by omega))
        · exact (show (if i = k - 67 then d2 129 k else d2 129 i) = _ by rw [if_neg e]; exact a2 i (by omega))
      · exact (show (if i = k - 67 then d2 129 k else d2 129 i) = _ by rw [if_neg (by omega)]; exact b2 i (by omega))
  refine Cn.intro gX12_keeps rfl (Nat.le_of_ble_eq_true rfl) rfl ?_
  repeat refine x_s rfl rfl ?_
  by_cases h40 : n = 40
  · subst h40
    refine x_br rfl rfl (fun c => absurd c (fun z => z h43)) (fun c => ?_)
    iterate 2 refine x_s rfl rfl ?_
    refine lp1 _ ?_ 67 (by decide) (by decide) d sm_rfl (fun i hi => by omega) (fun i _ => rfl)
    intro d2 s2 a2
    have e39 : d2 112 43 - 1 = nI 39 := by
      rw [s2 112 (by decide), h43]
      decide
    repeat refine x_s rfl rfl ?_
    refine x_put rfl rfl (by decide) rfl ⟨rfl, rfl⟩ (Or.inl rfl) ?_
    rw [e39]
    iterate 2 refine x_s rfl rfl ?_
    refine lp2 39 (by decide) (up2 d2 112 43 (nI 39)) up2_eq _ ?_ 0 (by decide) _ sm_rfl (fun _ _ => rfl) (fun i hi => by omega)
    intro d3 s3 a3 b3
    refine ⟨rfl, _, rfl, fun c c1 c2 => ?_, fun k hk => ?_, up2_eq, fun j k hj hk => ?_⟩
    · exact (up2_ne c1).trans ((s3 c (by simp [c2])).trans ((up2_ne c1).trans (s2 c (by simp [c2]))))
    · exact (up2_k hk).trans ((congrFun (s3 112 (by decide)) k).trans ((up2_k hk).trans (congrFun (s2 112 (by decide)) k)))
    · have hj' : j < 40 := hj
      show d3 129 (67 * j + k) = _
      by_cases e : j = 39
      · subst e
        rw [if_pos (by rfl)]
        exact (b3 k hk).trans (congrFun ((up2_ne (by decide)).trans (s2 128 (by decide))) k)
      · rw [if_neg (by rw [if_pos rfl]; exact e), if_pos rfl]
        refine (a3 _ (by omega)).trans ((congrFun (up2_ne (by decide)) _).trans ((a2 _ (by omega)).trans (congrArg (d 129) (by omega))))
  · refine x_br rfl rfl (fun c => ?_) (fun c => absurd c (fun z => h40 ((nI_eq (by omega) (by decide)).mp (h43.symm.trans z))))
    iterate 2 refine x_s rfl rfl ?_
    refine lp2 n (by omega) d h43 _ ?_ 0 (by decide) d sm_rfl (fun _ _ => rfl) (fun i hi => by omega)
    intro d3 s3 a3 b3
    refine ⟨rfl, _, rfl, fun c c1 c2 => ?_, fun k hk => ?_, by rw [kN_n h40]; exact up2_eq, fun j k hj hk => ?_⟩
    · exact (up2_ne c1).trans (s3 c (by simp [c2]))
    · exact (up2_k hk).trans (congrFun (s3 112 (by decide)) k)
    · rw [kN_n h40] at hj
      show d3 129 (67 * j + k) = _
      simp only [if_neg h40]
      by_cases e : j = n
      · subst e
        rw [if_pos rfl]
        exact b3 k hk
      · rw [if_neg e]
        exact a3 _ (by omega)
set_option maxRecDepth 100000 in
set_option maxHeartbeats 1600000 in
theorem k_refuses {k : Nat} (hk : k < 3) : Cn mX12_refuses false 1 0 0 [.ref 112, .int (nI k)] (W0 d L) (fun r h => r = some (.int (-1)) ∧ h = W0 (up2 d 119 k (d 119 k + 1)) L) := by
  refine Cn.intro gX12_refuses rfl (Nat.le_of_ble_eq_true rfl) rfl ?_
  repeat refine x_s rfl rfl ?_
  refine x_ald rfl rfl rfl (k := k) (rfl) (by omega) (by decide) rfl ?_
  repeat refine x_s rfl rfl ?_
  refine x_iast rfl rfl (k := k) (rfl) (by omega) (by decide) rfl ?_
  repeat refine x_s rfl rfl ?_
  exact x_iret rfl rfl rfl ⟨rfl, rfl⟩
abbrev qMA (d : Nat → Nat → Int32) (L : Nat → Nat → Int64) (F' : Fr) (n' : Nat) (G' : Nat → Nat → Nat → Nat) (h : xHp) : Prop := ∃ d', h = W0 d' L ∧ mA d d' ∧ d' 112 0 = 0 ∧ d' 112 43 = nI n' ∧ HB d' F' ∧ HGM d' 129 n' G'
abbrev qMF (d : Nat → Nat → Int32) (L : Nat → Nat → Int64) (k : Nat) (h : xHp) : Prop := h = W0 (up2 (up2 d 112 0 0) 119 k (d 119 k + 1)) L
/-- what stands behind keeps -/
theorem kept_s {d0 d2 : Nat → Nat → Int32} (H : HB d F) (R : RG F) (HG : HGM d 129 n G) (hG : G n = F.1) (m0 : d0 = up2 d 112 0 0) (p1 : ∀ c, c ≠ 112 → c ≠ 129 → d2 c = d0 c) (p2 : ∀ k, k ≠ 43 → d2 112 k = d0 112 k) (p4 : ∀ j k, j < kN n → k < 67 → d2 129 (67 * j + k) = if j = (if n = 40 then 39 else n) then d0 128 k else d0 129 (67 * (if n = 40 then j + 1 else j) + k)) : mA d d2 ∧ d2 112 0 = 0 ∧ RowM d2 128 0 F.1 ∧ HGM d2 129 (kN n) (sG n G) := by
  subst m0
  have e128 : d2 128 = d 128 := (p1 128 (by decide) (by decide)).trans (up2_ne (by decide))
  refine ⟨⟨fun c h1 h2 h3 => (p1 c h1 h3).trans (up2_ne h1), fun k h1 h2 => (p2 k h2).trans (up2_k h1)⟩, (p2 0 (by decide)).trans up2_eq, ?_, ?_⟩
  · have h5 := H.2.2.2.2.1
    unfold RowM at h5 ⊢
    rw [e128]
    exact h5
  · refine HG_keeps H.2.2.2.2.1 R HG hG (fun j k hj hk => ?_)
    rw [p4 j k hj hk]
    rfl
theorem sF0_tl {f : Nat → Nat → Nat} {a b g : Nat} : sF0 f (tl f a b g) := ⟨rfl, rfl, rfl, rfl, rfl, rfl⟩
theorem sF0_bk {f : Nat → Nat → Nat} : sF0 f (bk f) := ⟨rfl, rfl, rfl, rfl, rfl, rfl⟩
theorem sF0_ru {f : Nat → Nat → Nat} {m v : Nat} : sF0 f (ru f m v) := ⟨rfl, rfl, rfl, rfl, rfl, rfl⟩
theorem sF0_ca {f : Nat → Nat → Nat} {m x y : Nat} : sF0 f (ca f m x y) := ⟨rfl, rfl, rfl, rfl, rfl, rfl⟩
theorem Row_tl {d2 : Nat → Nat → Int32} {f : Nat → Nat → Nat} (H : RowM d2 128 0 f) (h0 : f 9 0 < 16) (h4 : f 4 0 ≤ 6) (a b g : Nat) {x : Int32} (hx : x = nI (f 9 0 + 1)) : RowM (up2 (up2 (up2 (up2 d2 128 (1 + f 9 0) (nI a)) 128 (17 + f 9 0) (nI b)) 128 (33 + f 9 0) (nI g)) 128 0 x) 128 0 (tl f a b g) := by
  have gi : ∀ i, up2 (up2 (up2 (up2 d2 128 (1 + f 9 0) (nI a)) 128 (17 + f 9 0) (nI b)) 128 (33 + f 9 0) (nI g)) 128 0 x 128 i = if i = 0 then x else if i = 33 + f 9 0 then nI g else if i = 17 + f 9 0 then nI b else if i = 1 + f 9 0 then nI a else d2 128 i := fun _ => rfl
  obtain ⟨r1, r2, r3⟩ := H
  refine ⟨hx, fun s hs => ?_, fun m hm => ?_⟩
  · have hs' : s < f 9 0 + 1 := hs
    simp only [Nat.zero_add]
    show _ = nI (if s = f 9 0 then a else f 10 s) ∧ _ = nI (if s = f 9 0 then b else f 11 s) ∧ _ = nI (if s = f 9 0 then g else f 12 s)
    rw [gi, gi, gi]
    by_cases e : s = f 9 0
    · subst e
      refine ⟨?_, ?_, ?_⟩
      · rw [if_neg (by omega), if_neg (by omega), if_neg (by omega), if_pos rfl, if_pos rfl]
      · rw [if_neg (by omega), if_neg (by omega), if_pos rfl, if_pos rfl]
      · rw [if_neg (by omega), if_pos rfl, if_pos rfl]
    · have q := r2 s (by omega)
      simp only [Nat.zero_add] at q
      rw [if_neg e, if_neg e, if_neg e]
      refine ⟨?_, ?_, ?_⟩
      · rw [if_neg (by omega), if_neg (by omega), if_neg (by omega), if_neg (by omega)]
        exact q.1
      · rw [if_neg (by omega), if_neg (by omega), if_neg (by omega), if_neg (by omega)]
        exact q.2.1
      · rw [if_neg (by omega), if_neg (by omega), if_neg (by omega), if_neg (by omega)]
        exact q.2.2
  · have hm' : m < f 4 0 := hm
    have q := r3 m hm'
    simp only [Nat.zero_add] at q ⊢
    rw [gi, gi, gi]
    refine ⟨?_, ?_, ?_⟩
    · rw [if_neg (by omega), if_neg (by omega), if_neg (by omega), if_neg (by omega)]
      exact q.1
    · rw [if_neg (by omega), if_neg (by omega), if_neg (by omega), if_neg (by omega)]
      exact q.2.1
    · rw [if_neg (by omega), if_neg (by omega), if_neg (by omega), if_neg (by omega)]
      exact q.2.2
theorem Row_bk {d2 : Nat → Nat → Int32} {f : Nat → Nat → Nat} (H : RowM d2 128 0 f) {x : Int32} (hx : x = nI (f 9 0 - 1)) : RowM (up2 d2 128 0 x) 128 0 (bk f) := by
  obtain ⟨r1, r2, r3⟩ := H
  refine ⟨hx, fun s hs => ?_, fun m hm => ?_⟩
  · have hs' : s < f 9 0 - 1 := hs
    have q := r2 s (by omega)
    simp only [Nat.zero_add] at q ⊢
    rw [up2_k (by omega), up2_k (by omega), up2_k (by omega)]
    exact q
  · have q := r3 m hm
    simp only [Nat.zero_add] at q ⊢
    rw [up2_k (by omega), up2_k (by omega), up2_k (by omega)]
    exact q
theorem Row_ru {d2 : Nat → Nat → Int32} {f : Nat → Nat → Nat} (H : RowM d2 128 0 f) (h9 : f 9 0 ≤ 16) (h4 : f 4 0 ≤ 6) {m : Nat} (v : Nat) : RowM (up2 d2 128 (61 + m) (nI v)) 128 0 (ru f m v) := by
  obtain ⟨r1, r2, r3⟩ := H
  refine ⟨(up2_k (by omega)).trans r1, fun s hs => ?_, fun j hj => ?_⟩
  · have hs' : s < f 9 0 := hs
    have q := r2 s hs'
    simp only [Nat.zero_add] at q ⊢
    rw [up2_k (by omega), up2_k (by omega), up2_k (by omega)]
    exact q
  · have hj' : j < f 4 0 := hj
    have q := r3 j hj'
    simp only [Nat.zero_add] at q ⊢
    rw [up2_k (by omega), up2_k (by omega)]
    refine ⟨q.1, q.2.1, ?_⟩
    show (if 61 + j = 61 + m then nI v else d2 128 (61 + j)) = nI (if j = m then v else f 8 j)
    by_cases e : j = m
    · rw [if_pos (by omega), if_pos e]
    · rw [if_neg (by omega), if_neg e]
      exact q.2.2
theorem Row_ca {d2 : Nat → Nat → Int32} {f : Nat → Nat → Nat} (H : RowM d2 128 0 f) (h9 : f 9 0 ≤ 16) (h4 : f 4 0 ≤ 6) {m : Nat} (hm : m < 6) (x y : Nat) : RowM (up2 (up2 d2 128 (49 + m) (nI x)) 128 (55 + m) (nI y)) 128 0 (ca f m x y) := by
  have gi : ∀ i, up2 (up2 d2 128 (49 + m) (nI x)) 128 (55 + m) (nI y) 128 i = if i = 55 + m then nI y else if i = 49 + m then nI x else d2 128 i := fun _ => rfl
  obtain ⟨r1, r2, r3⟩ := H
  refine ⟨?_, fun s hs => ?_, fun j hj => ?_⟩
  · rw [gi, if_neg (by omega), if_neg (by omega)]
    exact r1
  · have hs' : s < f 9 0 := hs
    have q := r2 s hs'
    simp only [Nat.zero_add] at q ⊢
    rw [gi, gi, gi]
    refine ⟨?_, ?_, ?_⟩
    · rw [if_neg (by omega), if_neg (by omega)]
      exact q.1
    · rw [if_neg (by omega), if_neg (by omega)]
      exact q.2.1
    · rw [if_neg (by omega), if_neg (by omega)]
      exact q.2.2
  · have hj' : j < f 4 0 := hj
    have q := r3 j hj'
    simp only [Nat.zero_add] at q ⊢
    rw [gi, gi, gi]
    show _ = nI (if j = m then x else f 5 j) ∧ _ = nI (if j = m then y else f 6 j) ∧ _ = nI (f 8 j)
    refine ⟨?_, ?_, ?_⟩
    · by_cases e : j = m
      · rw [if_neg (by omega), if_pos (by omega), if_pos e]
      · rw [if_neg (by omega), if_neg (by omega), if_neg e]
        exact q.1
    · by_cases e : j = m
      · rw [if_pos (by omega), if_pos e]
      · rw [if_neg (by omega), if_neg (by omega), if_neg e]
        exact q.2.1
    · rw [if_neg (by omega), if_neg (by omega)]
      exact q.2.2
set_option maxRecDepth 100000 in
set_option maxHeartbeats 1600000 in
theorem q_tell (H : HB d F) (R : RG F) (h43 : d 112 43 = nI n) (hn : n ≤ 40) (HG : HGM d 129 n G) (hG : G n = F.1) (x y z : Int32) : Cn mX12_tell false 4 0 0 [.ref 112, .int x, .int y, .int z] (W0 d L) (fun r h => (inB y (F.1 0 0) = false ∧ r = some (.int 0) ∧ h = W0 (up2 d 112 0 1) L) ∨ (inB y (F.1 0 0) = true ∧ (((decide (F.1 9 0 < 16) && (inB x 100 && inB z 10)) = true ∧ r = some (.int (nI (F.1 9 0))) ∧ qMA d L (tl F.1 (iN x) (iN y) (iN z), F.2) (kN n) (kG n G (tl F.1 (iN x) (iN y) (iN z))) h) ∨ ((decide (F.1 9 0 < 16) && (inB x 100 && inB z 10)) = false ∧ r = some (.int (-1)) ∧ qMF d L 1 h)))) := by
  have r1 := R.1
  have r2 := R.2.1
  have r3 := R.2.2.1
  have e128 : d 128 0 = nI (F.1 9 0) := H.2.2.2.2.1.1
  refine Cn.intro gX12_tell rfl (Nat.le_of_ble_eq_true rfl) rfl ?_
  repeat refine x_s rfl rfl ?_
  refine x_put rfl rfl (by decide) rfl ⟨rfl, rfl⟩ (Or.inl rfl) ?_
  generalize hd0 : up2 d 112 0 0 = d0
  have f1 : d0 112 0 = 0 := by rw [← hd0]; exact up2_eq
  have f2 : d0 112 1 = nI (F.1 0 0) := by rw [← hd0]; exact H.1
  have f3 : d0 128 = d 128 := by rw [← hd0]; rfl
  have f4 : d0 119 = d 119 := by rw [← hd0]; rfl
  have f5 : d0 112 43 = nI n := by rw [← hd0]; exact h43
  repeat refine x_s rfl rfl ?_
  refine x_cv (k_isPerson d0 L f1 f2 (by omega) y) rfl rfl rfl (by decide) rfl (by decide) rfl (Nat.le_of_ble_eq_true rfl) (by decide) (by decide) (by decide) ?_
  rintro _ _ ⟨rfl, rfl⟩
  cases hb : inB y (F.1 0 0)
  · rw [if_neg (by decide)]
    refine x_br rfl rfl (fun c => absurd c (fun z => z rfl)) (fun c => ?_)
    repeat refine x_s rfl rfl ?_
    refine x_iret rfl rfl rfl (Or.inl ⟨rfl, rfl, ?_⟩)
    rw [← hd0, up_up]
  rw [if_pos rfl]
  refine x_br rfl rfl (fun c => ?_) (fun c => absurd c (fun z => absurd z (by decide)))
  obtain ⟨y1, y2, y3⟩ := inB_iN hb
  have no : (decide (F.1 9 0 < 16) && (inB x 100 && inB z 10)) = false → Ex mX12_tell false 4 0 0 50 [some (.ref 112), some (.int x), some (.int y), some (.int z), some (.int (nI (F.1 9 0)))] [] (W0 d0 L) (fun r h => (true = false ∧ r = some (.int 0) ∧ h = W0 (up2 d 112 0 1) L) ∨ (true = true ∧ (((decide (F.1 9 0 < 16) && (inB x 100 && inB z 10)) = true ∧ r = some (.int (nI (F.1 9 0))) ∧ qMA d L (tl F.1 (iN x) (iN y) (iN z), F.2) (kN n) (kG n G (tl F.1 (iN x) (iN y) (iN z))) h) ∨ ((decide (F.1 9 0 < 16) && (inB x 100 && inB z 10)) = false ∧ r = some (.int (-1)) ∧ qMF d L 1 h)))) nX := by
    intro hf
    repeat refine x_s rfl rfl ?_
    refine x_cv (k_refuses d0 L (k := 1) (by decide)) rfl rfl rfl (by decide) rfl (by decide) rfl (Nat.le_of_ble_eq_true rfl) (by decide) (by decide) (by decide) ?_
    rintro _ _ ⟨rfl, rfl⟩
    refine x_iret rfl rfl rfl (Or.inr ⟨rfl, Or.inr ⟨hf, rfl, ?_⟩⟩)
    rw [f4, ← hd0]
  repeat refine x_s rfl rfl ?_
  refine x_ald rfl rfl rfl (k := 0) (rfl) (by omega) (by decide) rfl ?_
  rw [f3, e128]
  repeat refine x_s rfl rfl ?_
  refine x_br rfl rfl (fun c1 => ?_) (fun c1 => ?_)
  · refine no (and_f1 (decide_eq_false (fun q => ?_)))
    have c1' := (nI_eq (a := F.1 9 0) (b := 16) (by omega) (by decide)).mp c1
    omega
  have hc : F.1 9 0 < 16 := by
    rcases Nat.lt_or_ge (F.1 9 0) 16 with q | q
    · exact q
    · exact absurd (congrArg nI (show F.1 9 0 = 16 by omega)) c1
  repeat refine x_s rfl rfl ?_
  refine x_cs (k_within d0 L x 0 99) rfl rfl rfl (by decide) (Nat.le_of_ble_eq_true rfl) (by decide) (by decide) (by decide) ?_
  rintro _ _ ⟨rfl, rfl⟩
  rw [wi_B (m := 99) rfl]
  cases hx : inB x 100
  · refine x_br rfl rfl (fun c => ?_) (fun c => absurd c (fun z => z rfl))
    rw [hx] at no
    exact no (and_f2 rfl)
  refine x_br rfl rfl (fun c => absurd c (by decide)) (fun c => ?_)
  repeat refine x_s rfl rfl ?_
  refine x_cs (k_within d0 L z 0 9) rfl rfl rfl (by decide) (Nat.le_of_ble_eq_true rfl) (by decide) (by decide) (by decide) ?_
  rintro _ _ ⟨rfl, rfl⟩
  rw [wi_B (m := 9) rfl]
  cases hz : inB z 10
  · refine x_br rfl rfl (fun c => absurd c (fun z => z rfl)) (fun c => ?_)
    rw [hx, hz] at no
    exact no (and_f2 rfl)
  refine x_br rfl rfl (fun c => ?_) (fun c => absurd c (fun z => absurd z (by decide)))
  clear no
  obtain ⟨x1, x2, x3⟩ := inB_iN hx
  obtain ⟨z1, z2, z3⟩ := inB_iN hz
  repeat refine x_s rfl rfl ?_
  refine x_cv (k_keeps d0 L hn f5) rfl rfl rfl (by decide) rfl (by decide) rfl (Nat.le_of_ble_eq_true rfl) (by decide) (by decide) (by decide) ?_
  rintro _ _ ⟨rfl, d2, rfl, p1, p2, p3, p4⟩
  obtain ⟨m2, t2, w2, g2⟩ := kept_s d H R HG hG hd0.symm p1 p2 p4
  repeat refine x_s rfl rfl ?_
  rw [show (1 : Int32) + nI (F.1 9 0) = nI (1 + F.1 9 0) from nI_add 1 _]
  refine x_iast rfl rfl (k := 1 + F.1 9 0) (rfl) (by omega) (by decide) rfl ?_
  repeat refine x_s rfl rfl ?_
  rw [show (17 : Int32) + nI (F.1 9 0) = nI (17 + F.1 9 0) from nI_add 17 _]
  refine x_iast rfl rfl (k := 17 + F.1 9 0) (rfl) (by omega) (by decide) rfl ?_
  repeat refine x_s rfl rfl ?_
  rw [show (33 : Int32) + nI (F.1 9 0) = nI (33 + F.1 9 0) from nI_add 33 _]
  refine x_iast rfl rfl (k := 33 + F.1 9 0) (rfl) (by omega) (by decide) rfl ?_
  repeat refine x_s rfl rfl ?_
  refine x_ald rfl rfl rfl (k := 0) (rfl) (by omega) (by decide) rfl ?_
  repeat refine x_s rfl rfl ?_
  refine x_iast rfl rfl (k := 0) (rfl) (by omega) (by decide) rfl ?_
  repeat refine x_s rfl rfl ?_
  refine x_iret rfl rfl rfl (Or.inr ⟨rfl, Or.inl ⟨?_, rfl, _, rfl, ?_, t2, p3, ?_, ?_⟩⟩)
  · rw [decide_eq_true hc]
    rfl
  · exact mA_c (mA_c (mA_c (mA_c m2 (Or.inl rfl)) (Or.inl rfl)) (Or.inl rfl)) (Or.inl rfl)
  · refine HB_mA H (mA_c (mA_c (mA_c (mA_c m2 (Or.inl rfl)) (Or.inl rfl)) (Or.inl rfl)) (Or.inl rfl)) sF0_tl ?_
    have q := Row_tl w2 hc r2 (iN x) (iN y) (iN z) (x := d2 128 0 + 1) (by rw [w2.1, nI_1])
    rw [← x2, ← y2, ← z2] at q
    have e0 : up2 (up2 (up2 d2 128 (1 + F.1 9 0) x) 128 (17 + F.1 9 0) y) 128 (33 + F.1 9 0) z 128 0 = d2 128 0 := by
      rw [up2_k (by omega), up2_k (by omega), up2_k (by omega)]
    rw [e0]
    exact q
  · exact HGM_ne g2 rfl (fun j hj => kG_lt hj)
set_option maxRecDepth 100000 in
set_option maxHeartbeats 1600000 in
theorem q_back (H : HB d F) (R : RG F) (h43 : d 112 43 = nI n) (hn : n ≤ 40) (HG : HGM d 129 n G) (hG : G n = F.1) : Cn mX12_back false 4 0 0 [.ref 112] (W0 d L) (fun r h => (0 < F.1 9 0 ∧ r = some (.int (nI (F.1 9 0 - 1))) ∧ qMA d L (bk F.1, F.2) (kN n) (kG n G (bk F.1)) h) ∨ (F.1 9 0 = 0 ∧ r = some (.int (-1)) ∧ qMF d L 1 h)) := by
  have r3 := R.2.2.1
  have e128 : d 128 0 = nI (F.1 9 0) := H.2.2.2.2.1.1
  refine Cn.intro gX12_back rfl (Nat.le_of_ble_eq_true rfl) rfl ?_
  repeat refine x_s rfl rfl ?_
  refine x_put rfl rfl (by decide) rfl ⟨rfl, rfl⟩ (Or.inl rfl) ?_
  generalize hd0 : up2 d 112 0 0 = d0
  have f3 : d0 128 = d 128 := by rw [← hd0]; rfl
  have f4 : d0 119 = d 119 := by rw [← hd0]; rfl
  have f5 : d0 112 43 = nI n := by rw [← hd0]; exact h43
  repeat refine x_s rfl rfl ?_
  refine x_ald rfl rfl rfl (k := 0) (rfl) (by omega) (by decide) rfl ?_
  rw [f3, e128]
  rcases Nat.eq_zero_or_pos (F.1 9 0) with h0 | h0
  · refine x_br rfl rfl (fun c => absurd c (fun z => z (by rw [h0]; rfl))) (fun c => ?_)
    repeat refine x_s rfl rfl ?_
    refine x_cv (k_refuses d0 L (k := 1) (by decide)) rfl rfl rfl (by decide) rfl (by decide) rfl (Nat.le_of_ble_eq_true rfl) (by decide) (by decide) (by decide) ?_
    rintro _ _ ⟨rfl, rfl⟩
    refine x_iret rfl rfl rfl (Or.inr ⟨h0, rfl, ?_⟩)
    rw [f4, ← hd0]
  · refine x_br rfl rfl (fun c => ?_) (fun c => absurd c (fun z => absurd z (nI_ne0 h0 (by omega))))
    repeat refine x_s rfl rfl ?_
    refine x_cv (k_keeps d0 L hn f5) rfl rfl rfl (by decide) rfl (by decide) rfl (Nat.le_of_ble_eq_true rfl) (by decide) (by decide) (by decide) ?_
    rintro _ _ ⟨rfl, d2, rfl, p1, p2, p3, p4⟩
    obtain ⟨m2, t2, w2, g2⟩ := kept_s d H R HG hG hd0.symm p1 p2 p4
    repeat refine x_s rfl rfl ?_
    refine x_ald rfl rfl rfl (k := 0) (rfl) (by omega) (by decide) rfl ?_
    repeat refine x_s rfl rfl ?_
    refine x_iast rfl rfl (k := 0) (rfl) (by omega) (by decide) rfl ?_
    repeat refine x_s rfl rfl ?_
    refine x_ald rfl rfl rfl (k := 0) (rfl) (by omega) (by decide) rfl ?_
    have e : d2 128 0 - 1 = nI (F.1 9 0 - 1) := by
      rw [w2.1]
      exact nI_s (b := 1) h0 (by omega)
    refine x_iret rfl rfl rfl (Or.inl ⟨h0, congrArg (fun z => some (Value.int z)) (up2_eq.trans e), _, rfl, mA_c m2 (Or.inl rfl), t2, p3, ?_, ?_⟩)
    · exact HB_mA H (mA_c m2 (Or.inl rfl)) sF0_bk (Row_bk w2 e)
    · exact HGM_ne g2 rfl (fun j hj => kG_lt hj)
set_option maxRecDepth 100000 in
set_option maxHeartbeats 1600000 in
theorem q_rust (H : HB d F) (R : RG F) (h43 : d 112 43 = nI n) (hn : n ≤ 40) (HG : HGM d 129 n G) (hG : G n = F.1) (x y : Int32) : Cn mX12_rust false 4 0 0 [.ref 112, .int x, .int y] (W0 d L) (fun r h => (inB x (F.1 4 0) = false ∧ r = some (.int 0) ∧ h = W0 (up2 d 112 0 1) L) ∨ (inB x (F.1 4 0) = true ∧ ((inB y 10 = true ∧ r = some (.int (nI (F.1 8 (iN x)))) ∧ qMA d L (ru F.1 (iN x) (iN y), F.2) (kN n) (kG n G (ru F.1 (iN x) (iN y))) h) ∨ (inB y 10 = false ∧ r = some (.int (-1)) ∧ qMF d L 1 h)))) := by
  have r2 := R.2.1
  have r3 := R.2.2.1
  refine Cn.intro gX12_rust rfl (Nat.le_of_ble_eq_true rfl) rfl ?_
  repeat refine x_s rfl rfl ?_
  refine x_put rfl rfl (by decide) rfl ⟨rfl, rfl⟩ (Or.inl rfl) ?_
  generalize hd0 : up2 d 112 0 0 = d0
  have f1 : d0 112 0 = 0 := by rw [← hd0]; exact up2_eq
  have f2 : d0 112 2 = nI (F.1 4 0) := by rw [← hd0]; exact H.2.1
  have f4 : d0 119 = d 119 := by rw [← hd0]; rfl
  have f5 : d0 112 43 = nI n := by rw [← hd0]; exact h43
  repeat refine x_s rfl rfl ?_
  refine x_cv (k_isNeedle d0 L f1 f2 (by omega) x) rfl rfl rfl (by decide) rfl (by decide) rfl (Nat.le_of_ble_eq_true rfl) (by decide) (by decide) (by decide) ?_
  rintro _ _ ⟨rfl, rfl⟩
  cases hb : inB x (F.1 4 0)
  · rw [if_neg (by decide)]
    refine x_br rfl rfl (fun c => absurd c (fun z => z rfl)) (fun c => ?_)
    repeat refine x_s rfl rfl ?_
    refine x_iret rfl rfl rfl (Or.inl ⟨rfl, rfl, ?_⟩)
    rw [← hd0, up_up]
  rw [if_pos rfl]
  refine x_br rfl rfl (fun c => ?_) (fun c => absurd c (fun z => absurd z (by decide)))
  obtain ⟨x1, x2, x3⟩ := inB_iN hb
  repeat refine x_s rfl rfl ?_
  refine x_cs (k_within d0 L y 0 9) rfl rfl rfl (by decide) (Nat.le_of_ble_eq_true rfl) (by decide) (by decide) (by decide) ?_
  rintro _ _ ⟨rfl, rfl⟩
  rw [wi_B (m := 9) rfl]
  cases hy : inB y 10
  · refine x_br rfl rfl (fun c => absurd c (fun z => z rfl)) (fun c => ?_)
    repeat refine x_s rfl rfl ?_
    refine x_cv (k_refuses d0 L (k := 1) (by decide)) rfl rfl rfl (by decide) rfl (by decide) rfl (Nat.le_of_ble_eq_true rfl) (by decide) (by decide) (by decide) ?_
    rintro _ _ ⟨rfl, rfl⟩
    refine x_iret rfl rfl rfl (Or.inr ⟨rfl, Or.inr ⟨rfl, rfl, ?_⟩⟩)
    rw [f4, ← hd0]
  refine x_br rfl rfl (fun c => ?_) (fun c => absurd c (fun z => absurd z (by decide)))
  obtain ⟨y1, y2, y3⟩ := inB_iN hy
  repeat refine x_s rfl rfl ?_
  refine x_cv (k_keeps d0 L hn f5) rfl rfl rfl (by decide) rfl (by decide) rfl (Nat.le_of_ble_eq_true rfl) (by decide) (by decide) (by decide) ?_
  rintro _ _ ⟨rfl, d2, rfl, p1, p2, p3, p4⟩
  obtain ⟨m2, t2, w2, g2⟩ := kept_s d H R HG hG hd0.symm p1 p2 p4
  have ex : (61 : Int32) + x = nI (61 + iN x) := (congrArg (fun q => (61 : Int32) + q) x2).trans (nI_add 61 _)
  have w3 := w2.2.2 (iN x) x1
  simp only [Nat.zero_add] at w3
  repeat refine x_s rfl rfl ?_
  refine x_ald rfl rfl rfl (k := 61 + iN x) (ex) (by omega) (by decide) rfl ?_
  repeat refine x_s rfl rfl ?_
  refine x_iast rfl rfl (k := 61 + iN x) (ex) (by omega) (by decide) rfl ?_
  repeat refine x_s rfl rfl ?_
  refine x_iret rfl rfl rfl (Or.inr ⟨rfl, Or.inl ⟨rfl, congrArg (fun z => some (Value.int z)) w3.2.2, _, rfl, mA_c m2 (Or.inl rfl), t2, p3, ?_, ?_⟩⟩)
  · refine HB_mA H (mA_c m2 (Or.inl rfl)) sF0_ru ?_
    have q := Row_ru w2 r3 r2 (m := iN x) (iN y)
    rw [← y2] at q
    exact q
  · exact HGM_ne g2 rfl (fun j hj => kG_lt hj)
set_option maxRecDepth 100000 in
set_option maxHeartbeats 1600000 in
theorem q_carry (H : HB d F) (R : RG F) (h43 : d 112 43 = nI n) (hn : n ≤ 40) (HG : HGM d 129 n G) (hG : G n = F.1) (x y z : Int32) : Cn mX12_carry false 4 0 0 [.ref 112, .int x, .int y, .int z] (W0 d L) (fun r h => (inB x (F.1 4 0) = false ∧ r = some (.int 0) ∧ h = W0 (up2 d 112 0 1) L) ∨ (inB x (F.1 4 0) = true ∧ (((inB y 41 && inB z 41) = true ∧ r = some (.int (100 * nI (F.1 6 (iN x)) + nI (F.1 5 (iN x)))) ∧ qMA d L (ca F.1 (iN x) (iN y) (iN z), F.2) (kN n) (kG n G (ca F.1 (iN x) (iN y) (iN z))) h) ∨ ((inB y 41 && inB z 41) = false ∧ r = some (.int (-1)) ∧ qMF d L 1 h)))) := by
  have r2 := R.2.1
  have r3 := R.2.2.1
  refine Cn.intro gX12_carry rfl (Nat.le_of_ble_eq_true rfl) rfl ?_
  repeat refine x_s rfl rfl ?_
  refine x_put rfl rfl (by decide) rfl ⟨rfl, rfl⟩ (Or.inl rfl) ?_
  generalize hd0 : up2 d 112 0 0 = d0
  have f1 : d0 112 0 = 0 := by rw [← hd0]; exact up2_eq
  have f2 : d0 112 2 = nI (F.1 4 0) := by rw [← hd0]; exact H.2.1
  have f4 : d0 119 = d 119 := by rw [← hd0]; rfl
  have f5 : d0 112 43 = nI n := by rw [← hd0]; exact h43
  repeat refine x_s rfl rfl ?_
  refine x_cv (k_isNeedle d0 L f1 f2 (by omega) x) rfl rfl rfl (by decide) rfl (by decide) rfl (Nat.le_of_ble_eq_true rfl) (by decide) (by decide) (by decide) ?_
  rintro _ _ ⟨rfl, rfl⟩
  cases hb : inB x (F.1 4 0)
  · rw [if_neg (by decide)]
    refine x_br rfl rfl (fun c => absurd c (fun z => z rfl)) (fun c => ?_)
    repeat refine x_s rfl rfl ?_
    refine x_iret rfl rfl rfl (Or.inl ⟨rfl, rfl, ?_⟩)
    rw [← hd0, up_up]
  rw [if_pos rfl]
  refine x_br rfl rfl (fun c => ?_) (fun c => absurd c (fun z => absurd z (by decide)))
  obtain ⟨x1, x2, x3⟩ := inB_iN hb
  have no : (inB y 41 && inB z 41) = false → Ex mX12_carry false 4 0 0 35 [some (.ref 112), some (.int x), some (.int y), some (.int z), none] [] (W0 d0 L) (fun r h => (true = false ∧ r = some (.int 0) ∧ h = W0 (up2 d 112 0 1) L) ∨ (true = true ∧ (((inB y 41 && inB z 41) = true ∧ r = some (.int (100 * nI (F.1 6 (iN x)) + nI (F.1 5 (iN x)))) ∧ qMA d L (ca F.1 (iN x) (iN y) (iN z), F.2) (kN n) (kG n G (ca F.1 (iN x) (iN y) (iN z))) h) ∨ ((inB y 41 && inB z 41) = false ∧ r = some (.int (-1)) ∧ qMF d L 1 h)))) nX := by
    intro hf
    repeat refine x_s rfl rfl ?_
    refine x_cv (k_refuses d0 L (k := 1) (by decide)) rfl rfl rfl (by decide) rfl (by decide) rfl (Nat.le_of_ble_eq_true rfl) (by decide) (by decide) (by decide) ?_
    rintro _ _ ⟨rfl, rfl⟩
    refine x_iret rfl rfl rfl (Or.inr ⟨rfl, Or.inr ⟨hf, rfl, ?_⟩⟩)
    rw [f4, ← hd0]
  repeat refine x_s rfl rfl ?_
  refine x_cs (k_within d0 L y 0 40) rfl rfl rfl (by decide) (Nat.le_of_ble_eq_true rfl) (by decide) (by decide) (by decide) ?_
  rintro _ _ ⟨rfl, rfl⟩
  rw [wi_B (m := 40) rfl]
  cases hy : inB y 41
  · refine x_br rfl rfl (fun c => ?_) (fun c => absurd c (fun z => z rfl))
    rw [hy] at no
    exact no rfl
  refine x_br rfl rfl (fun c => absurd c (by decide)) (fun c => ?_)
  repeat refine x_s rfl rfl ?_
  refine x_cs (k_within d0 L z 0 40) rfl rfl rfl (by decide) (Nat.le_of_ble_eq_true rfl) (by decide) (by decide) (by decide) ?_
  rintro _ _ ⟨rfl, rfl⟩
  rw [wi_B (m := 40) rfl]
  cases hz : inB z 41
  · refine x_br rfl rfl (fun c => absurd c (fun z => z rfl)) (fun c => ?_)
    rw [hy, hz] at no
    exact no rfl
  refine x_br rfl rfl (fun c => ?_) (fun c => absurd c (fun z => absurd z (by decide)))
  clear no
  obtain ⟨y1, y2, y3⟩ := inB_iN hy
  obtain ⟨z1, z2, z3⟩ := inB_iN hz
  repeat refine x_s rfl rfl ?_
  refine x_cv (k_keeps d0 L hn f5) rfl rfl rfl (by decide) rfl (by decide) rfl (Nat.le_of_ble_eq_true rfl) (by decide) (by decide) (by decide) ?_
  rintro _ _ ⟨rfl, d2, rfl, p1, p2, p3, p4⟩
  obtain ⟨m2, t2, w2, g2⟩ := kept_s d H R HG hG hd0.symm p1 p2 p4
  have ex : (55 : Int32) + x = nI (55 + iN x) := (congrArg (fun q => (55 : Int32) + q) x2).trans (nI_add 55 _)
  have ey : (49 : Int32) + x = nI (49 + iN x) := (congrArg (fun q => (49 : Int32) + q) x2).trans (nI_add 49 _)
  have w3 := w2.2.2 (iN x) x1
  simp only [Nat.zero_add] at w3
  repeat refine x_s rfl rfl ?_
  refine x_ald rfl rfl rfl (k := 55 + iN x) (ex) (by omega) (by decide) rfl ?_
  repeat refine x_s rfl rfl ?_
  refine x_ald rfl rfl rfl (k := 49 + iN x) (ey) (by omega) (by decide) rfl ?_
  repeat refine x_s rfl rfl ?_
  refine x_iast rfl rfl (k := 49 + iN x) (ey) (by omega) (by decide) rfl ?_
  repeat refine x_s rfl rfl ?_
  refine x_iast rfl rfl (k := 55 + iN x) (ex) (by omega) (by decide) rfl ?_
  repeat refine x_s rfl rfl ?_
  rw [w3.1, w3.2.1]
  refine x_iret rfl rfl rfl (Or.inr ⟨rfl, Or.inl ⟨rfl, rfl, _, rfl, mA_c (mA_c m2 (Or.inl rfl)) (Or.inl rfl), t2, p3, ?_, ?_⟩⟩)
  · refine HB_mA H (mA_c (mA_c m2 (Or.inl rfl)) (Or.inl rfl)) sF0_ca ?_
    have q := Row_ca w2 r3 r2 (m := iN x) (by omega) (iN y) (iN z)
    rw [← y2, ← z2] at q
    exact q
  · exact HGM_ne g2 rfl (fun j hj => kG_lt hj)
set_option maxRecDepth 100000 in
set_option maxHeartbeats 1600000 in
theorem q_undo (H : HB d F) (R : RG F) (h43 : d 112 43 = nI n) (hn : n ≤ 40) (HG : HGM d 129 n G) (hS : ∀ j, j < n → sF0 F.1 (G j)) : Cn mX12_undo false 1 0 0 [.ref 112] (W0 d L) (fun r h => (0 < n ∧ r = some (.int (nI (n - 1))) ∧ qMA d L (G (n - 1), F.2) (n - 1) G h) ∨ (n = 0 ∧ r = some (.int (-1)) ∧ h = W0 (up2 d 112 0 0) L)) := by
  refine Cn.intro gX12_undo rfl (Nat.le_of_ble_eq_true rfl) rfl ?_
  repeat refine x_s rfl rfl ?_
  refine x_put rfl rfl (by decide) rfl ⟨rfl, rfl⟩ (Or.inl rfl) ?_
  generalize hd0 : up2 d 112 0 0 = d0
  have f1 : d0 112 0 = 0 := by rw [← hd0]; exact up2_eq
  have f5 : d0 112 43 = nI n := by rw [← hd0]; exact h43
  have m0 : mA d d0 := by rw [← hd0]; exact mA_f mA_rfl (Or.inl rfl)
  have f9 : d0 129 = d 129 := by rw [← hd0]; rfl
  repeat refine x_s rfl rfl ?_
  rcases Nat.eq_zero_or_pos n with h0 | h0
  · refine x_br rfl rfl (fun c => absurd c (fun z => z (by rw [f5, h0]; rfl))) (fun c => ?_)
    repeat refine x_s rfl rfl ?_
    exact x_iret rfl rfl rfl (Or.inr ⟨h0, rfl, rfl⟩)
  · refine x_br rfl rfl (fun c => ?_) (fun c => absurd c (fun z => absurd (f5.symm.trans z) (nI_ne0 h0 (by omega))))
    have e : d0 112 43 - 1 = nI (n - 1) := by
      rw [f5]
      exact nI_s (b := 1) h0 (by omega)
    repeat refine x_s rfl rfl ?_
    refine x_put rfl rfl (by decide) rfl ⟨rfl, rfl⟩ (Or.inl rfl) ?_
    rw [e]
    have lp : ∀ k, k ≤ 67 → ∀ d2 : Nat → Nat → Int32, mA d d2 → d2 112 0 = 0 → d2 112 43 = nI (n - 1) → d2 129 = d 129 → (∀ i, i < k → d2 128 i = d 129 (67 * (n - 1) + i)) → Ex mX12_undo false 1 0 0 26 [some (.ref 112), some (.int (nI k))] [] (W0 d2 L) (fun r h => (0 < n ∧ r = some (.int (nI (n - 1))) ∧ qMA d L (G (n - 1), F.2) (n - 1) G h) ∨ (n = 0 ∧ r = some (.int (-1)) ∧ h = W0 d0 L)) nX := by
      refine x_down _ ?_ ?_
      · intro d2 m2 t2 c2 a2 b2
        repeat refine x_s rfl rfl ?_
        refine x_br rfl rfl (fun c => ?_) (fun c => absurd c (fun z => z (by decide)))
        repeat refine x_s rfl rfl ?_
        obtain ⟨g1, g2, g3⟩ := HG (n - 1) (by omega)
        refine x_iret rfl rfl rfl (Or.inl ⟨h0, congrArg (fun z => some (Value.int z)) c2, d2, rfl, m2, t2, c2, ?_, ?_⟩)
        · refine HB_mA H m2 (hS (n - 1) (by omega)) (RowM_raw g2 g3 (fun k hk => ?_) g1)
          rw [Nat.zero_add]
          exact b2 k hk
        · exact HGM_ne (fun j hj => HG j (by omega)) a2 (fun _ _ => rfl)
      · intro k hk ih d2 m2 t2 c2 a2 b2
        repeat refine x_s rfl rfl ?_
        refine x_br rfl rfl (fun c => absurd c (nI_ge (b := 67) hk (by decide))) (fun c => ?_)
        repeat refine x_s rfl rfl ?_
        rw [c2, mul67, nI_add]
        refine x_ald rfl rfl rfl (k := 67 * (n - 1) + k) (rfl) (by omega) (by decide) rfl ?_
        refine x_iast rfl rfl (k := k) (rfl) (by omega) (by decide) rfl ?_
        iterate 2 refine x_s rfl rfl ?_
        rw [nI_1]
        refine ih _ (mA_c m2 (Or.inl rfl)) t2 c2 a2 (fun i hi => ?_)
        by_cases e : i = k
        · subst e
          exact (show (if i = i then d2 129 (67 * (n - 1) + i) else d2 128 i) = _ by rw [if_pos rfl, a2])
        · exact (show (if i = k then d2 129 (67 * (n - 1) + k) else d2 128 i) = _ by rw [if_neg e]; exact b2 i (by omega))
    iterate 2 refine x_s rfl rfl ?_
    exact lp 0 (by decide) _ (mA_f m0 (Or.inr rfl)) f1 up2_eq f9 (fun i hi => by omega)
def HTM (d : Nat → Nat → Int32) (n : Nat) (T : Nat → Nat) : Prop := d 112 11 = nI n ∧ ∀ j, j < n → d 118 j = nI (T j)
theorem nI_by (x : Int32) (s : Nat) : nI (by0 x s) = (x >>> (nI s &&& 31)) &&& 255 := nI_bv _
set_option maxRecDepth 100000 in
set_option maxHeartbeats 1600000 in
theorem k_lays {T : Nat → Nat} (H : HTM d n T) (hn : n + 4 ≤ 700) (x : Int32) : Cn mX12_lays false 1 0 0 [.ref 112, .int x] (W0 d L) (fun r h => r = none ∧ ∃ d', h = W0 d' L ∧ (∀ c, c ≠ 112 → c ≠ 118 → d' c = d c) ∧ (∀ k, k ≠ 11 → d' 112 k = d 112 k) ∧ HTM d' (n + 4) (pu n T x)) := by
  have step : ∀ (Q : xPost) (m s : Nat) (d1 : Nat → Nat → Int32), d1 112 11 = nI m → m < 700 → s ≤ 24 → Ex mX12_lays false 1 0 0 3 [some (.ref 112), some (.int x), some (.int (nI s + -8))] [] (W0 (up2 (up2 d1 118 m (nI (by0 x s))) 112 11 (nI (m + 1))) L) Q nX → Ex mX12_lays false 1 0 0 3 [some (.ref 112), some (.int x), some (.int (nI s))] [] (W0 d1 L) Q nX := by
    intro Q m s d1 h1 hm hs K
    repeat refine x_s rfl rfl ?_
    refine x_br rfl rfl (fun c => absurd c (nI_pos (by omega))) (fun c => ?_)
    repeat refine x_s rfl rfl ?_
    refine x_iast rfl rfl (k := m) (h1) (by omega) (by decide) rfl ?_
    rw [← nI_by]
    repeat refine x_s rfl rfl ?_
    refine x_put rfl rfl (by decide) rfl ⟨rfl, rfl⟩ (Or.inl rfl) ?_
    iterate 2 refine x_s rfl rfl ?_
    have e : d1 112 11 + 1 = nI (m + 1) := by rw [h1, nI_1]
    rw [← e] at K
    exact K
  have m8 : ∀ s, s ≤ 24 → 8 ≤ s → nI s + -8 = nI (s - 8) := by
    intro s h1 h2
    apply ieq.mpr
    rw [add_tI (by rw [nI_tI (by omega)]; omega) (by decide), nI_tI (by omega), nI_tI (by omega), show (-8 : Int32).toInt = -8 from rfl]
    omega
  refine Cn.intro gX12_lays rfl (Nat.le_of_ble_eq_true rfl) rfl ?_
  iterate 2 refine x_s rfl rfl ?_
  refine step _ n 24 d H.1 (by omega) (by omega) ?_
  rw [m8 24 (by omega) (by omega)]
  refine step _ (n + 1) 16 _ rfl (by omega) (by omega) ?_
  rw [m8 16 (by omega) (by omega)]
  refine step _ (n + 2) 8 _ rfl (by omega) (by omega) ?_
  rw [m8 8 (by omega) (by omega)]
  refine step _ (n + 3) 0 _ rfl (by omega) (by omega) ?_
  repeat refine x_s rfl rfl ?_
  refine x_br rfl rfl (fun c => ?_) (fun c => absurd c (by decide))
  refine x_vret rfl rfl ⟨rfl, _, rfl, fun c h1 h2 => ?_, fun k hk => ?_, rfl, fun j hj => ?_⟩
  · rw [up2_ne h1, up2_ne h2, up2_ne h1, up2_ne h2, up2_ne h1, up2_ne h2, up2_ne h1, up2_ne h2]
  · rw [up2_k hk, up2_ne (by decide), up2_k hk, up2_ne (by decide), up2_k hk, up2_ne (by decide), up2_k hk, up2_ne (by decide)]
  · show (if j = n + 3 then nI (by0 x 0) else if j = n + 2 then nI (by0 x 8) else if j = n + 1 then nI (by0 x 16) else if j = n then nI (by0 x 24) else d 118 j) = _
    unfold pu
    by_cases e3 : j = n + 3
    · simp [e3]
    by_cases e2 : j = n + 2
    · simp [e2]
    by_cases e1 : j = n + 1
    · simp [e1]
    by_cases e0 : j = n
    · simp [e0]
    simp only [if_neg e0, if_neg e1, if_neg e2, if_neg e3]
    exact H.2 j (by omega)
set_option maxRecDepth 100000 in
set_option maxHeartbeats 1600000 in
theorem q_feed {T : Nat → Nat} (H : HTM d n T) (hn : n ≤ 700) (a b u e g : Int32) : Cn mX12_feed false 3 0 0 [.ref 112, .int a, .int b, .int u, .int e, .int g] (W0 d L) (fun r h => (n + 20 ≤ 700 ∧ r = some (.int (nI (n + 20))) ∧ ∃ d', h = W0 d' L ∧ (∀ c, c ≠ 112 → c ≠ 118 → d' c = d c) ∧ (∀ k, k ≠ 0 → k ≠ 11 → d' 112 k = d 112 k) ∧ d' 112 0 = 0 ∧ HTM d' (n + 20) (fd n T a b u e g)) ∨ (700 < n + 20 ∧ r = some (.int (-1)) ∧ h = W0 (up2 d 112 0 0) L)) := by
  refine Cn.intro gX12_feed rfl (Nat.le_of_ble_eq_true rfl) rfl ?_
  repeat refine x_s rfl rfl ?_
  refine x_put rfl rfl (by decide) rfl ⟨rfl, rfl⟩ (Or.inl rfl) ?_
  generalize hd0 : up2 d 112 0 0 = d0
  have f1 : d0 112 0 = 0 := by rw [← hd0]; exact up2_eq
  have H0 : HTM d0 n T := by rw [← hd0]; exact H
  have p1 : ∀ c, c ≠ 112 → c ≠ 118 → d0 c = d c := fun c h1 _ => by rw [← hd0]; exact up2_ne h1
  have p2 : ∀ k, k ≠ 0 → k ≠ 11 → d0 112 k = d 112 k := fun k h1 _ => by rw [← hd0]; exact up2_k h1
  iterate 2 refine x_s rfl rfl ?_
  rw [H0.1]
  repeat refine x_s rfl rfl ?_
  rw [show nI n + 20 = nI (n + 20) from nI_add n 20]
  rcases Nat.lt_or_ge 700 (n + 20) with h | h
  · refine x_br rfl rfl (fun c => absurd c (nI_ge (a := 700) h (by omega))) (fun c => ?_)
    repeat refine x_s rfl rfl ?_
    exact x_iret rfl rfl rfl (Or.inr ⟨h, rfl, rfl⟩)
  · refine x_br rfl rfl (fun c => ?_) (fun c => absurd c (fun z => absurd (nI_le (b := 700) h (by decide)) z))
    repeat refine x_s rfl rfl ?_
    refine x_cv (k_lays d0 L H0 (by omega) a) rfl rfl rfl (by decide) rfl (by decide) rfl (Nat.le_of_ble_eq_true rfl) (by decide) (by decide) (by decide) ?_
    rintro _ _ ⟨rfl, d1, rfl, a1, b1, H1⟩
    repeat refine x_s rfl rfl ?_
    refine x_cv (k_lays d1 L H1 (by omega) b) rfl rfl rfl (by decide) rfl (by decide) rfl (Nat.le_of_ble_eq_true rfl) (by decide) (by decide) (by decide) ?_
    rintro _ _ ⟨rfl, d2, rfl, a2, b2, H2⟩
    repeat refine x_s rfl rfl ?_
    refine x_cv (k_lays d2 L H2 (by omega) u) rfl rfl rfl (by decide) rfl (by decide) rfl (Nat.le_of_ble_eq_true rfl) (by decide) (by decide) (by decide) ?_
    rintro _ _ ⟨rfl, d3, rfl, a3, b3, H3⟩
    repeat refine x_s rfl rfl ?_
    refine x_cv (k_lays d3 L H3 (by omega) e) rfl rfl rfl (by decide) rfl (by decide) rfl (Nat.le_of_ble_eq_true rfl) (by decide) (by decide) (by decide) ?_
    rintro _ _ ⟨rfl, d4, rfl, a4, b4, H4⟩
    repeat refine x_s rfl rfl ?_
    refine x_cv (k_lays d4 L H4 (by omega) g) rfl rfl rfl (by decide) rfl (by decide) rfl (Nat.le_of_ble_eq_true rfl) (by decide) (by decide) (by decide) ?_
    rintro _ _ ⟨rfl, d5, rfl, a5, b5, H5⟩
    repeat refine x_s rfl rfl ?_
    refine x_iret rfl rfl rfl (Or.inl ⟨h, congrArg (fun z => some (Value.int z)) H5.1, d5, rfl, fun c h1 h2 => ?_, fun k h1 h2 => ?_, ?_, H5⟩)
    · rw [a5 c h1 h2, a4 c h1 h2, a3 c h1 h2, a2 c h1 h2, a1 c h1 h2, p1 c h1 h2]
    · rw [b5 k h2, b4 k h2, b3 k h2, b2 k h2, b1 k h2, p2 k h1 h2]
    · rw [b5 0 (by decide), b4 0 (by decide), b3 0 (by decide), b2 0 (by decide), b1 0 (by decide), f1]
set_option maxRecDepth 100000 in
set_option maxHeartbeats 1600000 in
theorem q_fault : Cn mX12_fault false 1 0 0 [.ref 112] (W0 d L) (fun r h => r = some (.int (d 112 13)) ∧ h = W0 (up2 d 112 0 0) L) := by
  refine Cn.intro gX12_fault rfl (Nat.le_of_ble_eq_true rfl) rfl ?_
  repeat refine x_s rfl rfl ?_
  refine x_put rfl rfl (by decide) rfl ⟨rfl, rfl⟩ (Or.inl rfl) ?_
  repeat refine x_s rfl rfl ?_
  exact x_iret rfl rfl rfl ⟨rfl, rfl⟩
set_option maxRecDepth 100000 in
set_option maxHeartbeats 1600000 in
theorem k_thrown : Cn mX12_thrown false 1 0 0 [.ref 112] (W0 d L) (qP d L (d 112 0)) := by
  refine Cn.intro gX12_thrown rfl (Nat.le_of_ble_eq_true rfl) rfl ?_
  repeat refine x_s rfl rfl ?_
  exact x_iret rfl rfl rfl ⟨rfl, rfl⟩
set_option maxRecDepth 100000 in
set_option maxHeartbeats 1600000 in
theorem q_forget : Cn mX12_forget false 1 0 0 [.ref 112] (W0 d L) (fun r h => r = none ∧ h = W0 (up2 (up2 d 112 0 0) 112 56 0) L) := by
  refine Cn.intro gX12_forget rfl (Nat.le_of_ble_eq_true rfl) rfl ?_
  repeat refine x_s rfl rfl ?_
  refine x_put rfl rfl (by decide) rfl ⟨rfl, rfl⟩ (Or.inl rfl) ?_
  repeat refine x_s rfl rfl ?_
  refine x_put rfl rfl (by decide) rfl ⟨rfl, rfl⟩ (Or.inl rfl) ?_
  exact x_vret rfl rfl ⟨rfl, rfl⟩
set_option maxRecDepth 100000 in
set_option maxHeartbeats 1600000 in
theorem q_see (H : HB d F) (R : RG F) (HZ0 : HZM d Z) (z1 : Z.1 ≤ 8) (x y z : Int32) : Cn mX12_see false 4 0 0 [.ref 112, .int x, .int y, .int z] (W0 d L) (fun r h => ((inB x (F.1 4 0) && inB y 100) = false ∧ r = some (.int 0) ∧ h = W0 (up2 d 112 0 1) L) ∨ ((inB x (F.1 4 0) && inB y 100) = true ∧ (((decide (Z.1 < 8) && inC z) = true ∧ r = some (.int (nI (Z.1 + 1))) ∧ ∃ d', h = W0 d' L ∧ (∀ c, c ≠ 112 → c ≠ 141 → d' c = d c) ∧ (∀ k, k ≠ 0 → k ≠ 56 → d' 112 k = d 112 k) ∧ d' 112 0 = 0 ∧ HZM d' (sZ Z (iN x) (iN y) z)) ∨ ((decide (Z.1 < 8) && inC z) = false ∧ r = some (.int (-1)) ∧ qMF d L 2 h)))) := by
  have r2 := R.2.1
  refine Cn.intro gX12_see rfl (Nat.le_of_ble_eq_true rfl) rfl ?_
  repeat refine x_s rfl rfl ?_
  refine x_put rfl rfl (by decide) rfl ⟨rfl, rfl⟩ (Or.inl rfl) ?_
  generalize hd0 : up2 d 112 0 0 = d0
  have f1 : d0 112 0 = 0 := by rw [← hd0]; exact up2_eq
  have f2 : d0 112 2 = nI (F.1 4 0) := by rw [← hd0]; exact H.2.1
  have f4 : d0 119 = d 119 := by rw [← hd0]; rfl
  have f5 : d0 112 56 = nI Z.1 := by rw [← hd0]; exact HZ0.1
  have f6 : ∀ c, c ≠ 112 → d0 c = d c := fun c h1 => by rw [← hd0]; exact up2_ne h1
  have f7 : ∀ k, k ≠ 0 → d0 112 k = d 112 k := fun k h1 => by rw [← hd0]; exact up2_k h1
  repeat refine x_s rfl rfl ?_
  refine x_cv (k_isNeedle d0 L f1 f2 (by omega) x) rfl rfl rfl (by decide) rfl (by decide) rfl (Nat.le_of_ble_eq_true rfl) (by decide) (by decide) (by decide) ?_
  rintro _ _ ⟨rfl, rfl⟩
  cases hb : inB x (F.1 4 0)
  · rw [if_neg (by decide)]
    refine x_br rfl rfl (fun c => ?_) (fun c => absurd c (fun z => z rfl))
    repeat refine x_s rfl rfl ?_
    refine x_iret rfl rfl rfl (Or.inl ⟨rfl, rfl, ?_⟩)
    rw [← hd0, up_up]
  rw [if_pos rfl]
  refine x_br rfl rfl (fun c => absurd c (by decide)) (fun c => ?_)
  repeat refine x_s rfl rfl ?_
  refine x_cv (k_isHour d0 L f1 y) rfl rfl rfl (by decide) rfl (by decide) rfl (Nat.le_of_ble_eq_true rfl) (by decide) (by decide) (by decide) ?_
  rintro _ _ ⟨rfl, rfl⟩
  cases hh : inB y 100
  · rw [if_neg (by decide)]
    refine x_br rfl rfl (fun c => absurd c (fun z => z rfl)) (fun c => ?_)
    repeat refine x_s rfl rfl ?_
    refine x_iret rfl rfl rfl (Or.inl ⟨rfl, rfl, ?_⟩)
    rw [← hd0, up_up]
  rw [if_pos rfl]
  refine x_br rfl rfl (fun c => ?_) (fun c => absurd c (fun z => absurd z (by decide)))
  obtain ⟨x1, x2, x3⟩ := inB_iN hb
  obtain ⟨y1, y2, y3⟩ := inB_iN hh
  have no : (decide (Z.1 < 8) && inC z) = false → Ex mX12_see false 4 0 0 42 [some (.ref 112), some (.int x), some (.int y), some (.int z)] [] (W0 d0 L) (fun r h => ((true && true) = false ∧ r = some (.int 0) ∧ h = W0 (up2 d 112 0 1) L) ∨ ((true && true) = true ∧ (((decide (Z.1 < 8) && inC z) = true ∧ r = some (.int (nI (Z.1 + 1))) ∧ ∃ d', h = W0 d' L ∧ (∀ c, c ≠ 112 → c ≠ 141 → d' c = d c) ∧ (∀ k, k ≠ 0 → k ≠ 56 → d' 112 k = d 112 k) ∧ d' 112 0 = 0 ∧ HZM d' (sZ Z (iN x) (iN y) z)) ∨ ((decide (Z.1 < 8) && inC z) = false ∧ r = some (.int (-1)) ∧ qMF d L 2 h)))) nX := by
    intro hf
    repeat refine x_s rfl rfl ?_
    refine x_cv (k_refuses d0 L (k := 2) (by decide)) rfl rfl rfl (by decide) rfl (by decide) rfl (Nat.le_of_ble_eq_true rfl) (by decide) (by decide) (by decide) ?_
    rintro _ _ ⟨rfl, rfl⟩
    refine x_iret rfl rfl rfl (Or.inr ⟨rfl, Or.inr ⟨hf, rfl, ?_⟩⟩)
    rw [f4, ← hd0]
  iterate 2 refine x_s rfl rfl ?_
  rw [f5]
  repeat refine x_s rfl rfl ?_
  refine x_br rfl rfl (fun c1 => ?_) (fun c1 => ?_)
  · refine no (and_f1 (decide_eq_false (fun q => ?_)))
    have c1' := (nI_eq (a := Z.1) (b := 8) (by omega) (by decide)).mp c1
    omega
  have hc : Z.1 < 8 := by
    rcases Nat.lt_or_ge Z.1 8 with q | q
    · exact q
    · exact absurd (congrArg nI (show Z.1 = 8 by omega)) c1
  repeat refine x_s rfl rfl ?_
  refine x_cs (k_within d0 L z (-1) 9) rfl rfl rfl (by decide) (Nat.le_of_ble_eq_true rfl) (by decide) (by decide) (by decide) ?_
  rintro _ _ ⟨rfl, rfl⟩
  rw [wi_C]
  cases hz : inC z
  · refine x_br rfl rfl (fun c => absurd c (fun z => z rfl)) (fun c => ?_)
    rw [hz] at no
    exact no (and_f2 rfl)
  refine x_br rfl rfl (fun c => ?_) (fun c => absurd c (fun z => absurd z (by decide)))
  clear no
  have e3 : (3 : Int32) * d0 112 56 = nI (3 * Z.1) := by rw [f5]; exact nI_mul 3 _
  repeat refine x_s rfl rfl ?_
  refine x_iast rfl rfl (k := 3 * Z.1) (e3) (by omega) (by decide) rfl ?_
  repeat refine x_s rfl rfl ?_
  refine x_iast rfl rfl (k := 3 * Z.1 + 1) ((congrArg (fun q => q + (1 : Int32)) e3).trans (nI_add _ 1)) (by omega) (by decide) rfl ?_
  repeat refine x_s rfl rfl ?_
  refine x_iast rfl rfl (k := 3 * Z.1 + 2) ((congrArg (fun q => q + (2 : Int32)) e3).trans (nI_add _ 2)) (by omega) (by decide) rfl ?_
  repeat refine x_s rfl rfl ?_
  refine x_put rfl rfl (by decide) rfl ⟨rfl, rfl⟩ (Or.inl rfl) ?_
  repeat refine x_s rfl rfl ?_
  have e8 : d0 112 56 + 1 = nI (Z.1 + 1) := by rw [f5, nI_1]
  refine x_iret rfl rfl rfl (Or.inr ⟨rfl, Or.inl ⟨?_, congrArg (fun z => some (Value.int z)) e8, _, rfl, fun c h1 h2 => ?_, fun k h1 h2 => ?_, f1, e8, fun i hi => ?_⟩⟩)
  · rw [decide_eq_true hc]
    rfl
  · rw [up2_ne h1, up2_ne h2, up2_ne h2, up2_ne h2]
    exact f6 c h1
  · rw [up2_k h2, up2_ne (by decide), up2_ne (by decide), up2_ne (by decide)]
    exact f7 k h1
  · have hi' : i < Z.1 + 1 := hi
    have gi : ∀ q, up2 (up2 (up2 (up2 d0 141 (3 * Z.1) x) 141 (3 * Z.1 + 1) y) 141 (3 * Z.1 + 2) z) 112 56 (d0 112 56 + 1) 141 q = if q = 3 * Z.1 + 2 then z else if q = 3 * Z.1 + 1 then y else if q = 3 * Z.1 then x else d0 141 q := fun _ => rfl
    refine ⟨(gi _).trans ?_, (gi _).trans ?_, (gi _).trans ?_⟩
    · show _ = nI (if i = Z.1 then iN x else Z.2.1 i)
      by_cases e : i = Z.1
      · subst e
        rw [if_neg (by omega), if_neg (by omega), if_pos rfl, if_pos rfl]
        exact x2
      · rw [if_neg (by omega), if_neg (by omega), if_neg (by omega), if_neg e, f6 141 (by decide)]
        exact (HZ0.2 i (by omega)).1
    · show _ = nI (if i = Z.1 then iN y else Z.2.2.1 i)
      by_cases e : i = Z.1
      · subst e
        rw [if_neg (by omega), if_pos rfl, if_pos rfl]
        exact y2
      · rw [if_neg (by omega), if_neg (by omega), if_neg (by omega), if_neg e, f6 141 (by decide)]
        exact (HZ0.2 i (by omega)).2.1
    · show _ = (if i = Z.1 then z else Z.2.2.2 i)
      by_cases e : i = Z.1
      · subst e
        rw [if_pos rfl, if_pos rfl]
      · rw [if_neg (by omega), if_neg (by omega), if_neg (by omega), if_neg e, f6 141 (by decide)]
        exact (HZ0.2 i (by omega)).2.2
set_option maxRecDepth 100000 in
set_option maxHeartbeats 1600000 in
theorem k_copies128_142 : Cn mX12_copies false 1 0 0 [.ref 112, .ref 128, .ref 142] (W0 d L) (fun r h => r = none ∧ ∃ d', h = W0 d' L ∧ sm [142] d d' ∧ ∀ k, k < 67 → d' 142 k = d 128 k) := by
  have lp : ∀ k, k ≤ 67 → ∀ d2 : Nat → Nat → Int32, sm [142] d d2 → (∀ i, i < k → d2 142 i = d 128 i) → Ex mX12_copies false 1 0 0 2 [some (.ref 112), some (.ref 128), some (.ref 142), some (.int (nI k))] [] (W0 d2 L) (fun r h => r = none ∧ ∃ d', h = W0 d' L ∧ sm [142] d d' ∧ ∀ k, k < 67 → d' 142 k = d 128 k) nX := by
    refine x_down _ ?_ ?_
    · intro d2 s2 a2
      repeat refine x_s rfl rfl ?_
      refine x_br rfl rfl (fun c => ?_) (fun c => absurd c (fun z => z (by decide)))
      exact x_vret rfl rfl ⟨rfl, d2, rfl, s2, a2⟩
    · intro k hk ih d2 s2 a2
      repeat refine x_s rfl rfl ?_
      refine x_br rfl rfl (fun c => absurd c (nI_ge (b := 67) hk (by decide))) (fun c => ?_)
      repeat refine x_s rfl rfl ?_
      refine x_ald rfl rfl rfl (k := k) (rfl) (by omega) (by decide) rfl ?_
      refine x_iast rfl rfl (k := k) (rfl) (by omega) (by decide) rfl ?_
      iterate 2 refine x_s rfl rfl ?_
      rw [nI_1]
      refine ih _ (sm_up s2 (by decide)) (fun i hi => ?_)
      by_cases e : i = k
      · subst e
        exact (show (if i = i then d2 128 i else d2 142 i) = _ by rw [if_pos rfl, s2 128 (by decide)])
      · exact (show (if i = k then d2 128 k else d2 142 i) = _ by rw [if_neg e]; exact a2 i (by omega))
  refine Cn.intro gX12_copies rfl (Nat.le_of_ble_eq_true rfl) rfl ?_
  iterate 2 refine x_s rfl rfl ?_
  exact lp 0 (by decide) d sm_rfl (fun i hi => by omega)
set_option maxRecDepth 100000 in
set_option maxHeartbeats 1600000 in
theorem k_copies129_143 : Cn mX12_copies false 1 0 0 [.ref 112, .ref 129, .ref 143] (W0 d L) (fun r h => r = none ∧ ∃ d', h = W0 d' L ∧ sm [143] d d' ∧ ∀ k, k < 2680 → d' 143 k = d 129 k) := by
  have lp : ∀ k, k ≤ 2680 → ∀ d2 : Nat → Nat → Int32, sm [143] d d2 → (∀ i, i < k → d2 143 i = d 129 i) → Ex mX12_copies false 1 0 0 2 [some (.ref 112), some (.ref 129), some (.ref 143), some (.int (nI k))] [] (W0 d2 L) (fun r h => r = none ∧ ∃ d', h = W0 d' L ∧ sm [143] d d' ∧ ∀ k, k < 2680 → d' 143 k = d 129 k) nX := by
    refine x_down _ ?_ ?_
    · intro d2 s2 a2
      repeat refine x_s rfl rfl ?_
      refine x_br rfl rfl (fun c => ?_) (fun c => absurd c (fun z => z (by decide)))
      exact x_vret rfl rfl ⟨rfl, d2, rfl, s2, a2⟩
    · intro k hk ih d2 s2 a2
      repeat refine x_s rfl rfl ?_
      refine x_br rfl rfl (fun c => absurd c (nI_ge (b := 2680) hk (by decide))) (fun c => ?_)
      repeat refine x_s rfl rfl ?_
      refine x_ald rfl rfl rfl (k := k) (rfl) (by omega) (by decide) rfl ?_
      refine x_iast rfl rfl (k := k) (rfl) (by omega) (by decide) rfl ?_
      iterate 2 refine x_s rfl rfl ?_
      rw [nI_1]
      refine ih _ (sm_up s2 (by decide)) (fun i hi => ?_)
      by_cases e : i = k
      · subst e
        exact (show (if i = i then d2 129 i else d2 143 i) = _ by rw [if_pos rfl, s2 129 (by decide)])
      · exact (show (if i = k then d2 129 k else d2 143 i) = _ by rw [if_neg e]; exact a2 i (by omega))
  refine Cn.intro gX12_copies rfl (Nat.le_of_ble_eq_true rfl) rfl ?_
  iterate 2 refine x_s rfl rfl ?_
  exact lp 0 (by decide) d sm_rfl (fun i hi => by omega)
set_option maxRecDepth 100000 in
set_option maxHeartbeats 1600000 in
theorem k_copies141_144 : Cn mX12_copies false 1 0 0 [.ref 112, .ref 141, .ref 144] (W0 d L) (fun r h => r = none ∧ ∃ d', h = W0 d' L ∧ sm [144] d d' ∧ ∀ k, k < 24 → d' 144 k = d 141 k) := by
  have lp : ∀ k, k ≤ 24 → ∀ d2 : Nat → Nat → Int32, sm [144] d d2 → (∀ i, i < k → d2 144 i = d 141 i) → Ex mX12_copies false 1 0 0 2 [some (.ref 112), some (.ref 141), some (.ref 144), some (.int (nI k))] [] (W0 d2 L) (fun r h => r = none ∧ ∃ d', h = W0 d' L ∧ sm [144] d d' ∧ ∀ k, k < 24 → d' 144 k = d 141 k) nX := by
    refine x_down _ ?_ ?_
    · intro d2 s2 a2
      repeat refine x_s rfl rfl ?_
      refine x_br rfl rfl (fun c => ?_) (fun c => absurd c (fun z => z (by decide)))
      exact x_vret rfl rfl ⟨rfl, d2, rfl, s2, a2⟩
    · intro k hk ih d2 s2 a2
      repeat refine x_s rfl rfl ?_
      refine x_br rfl rfl (fun c => absurd c (nI_ge (b := 24) hk (by decide))) (fun c => ?_)
      repeat refine x_s rfl rfl ?_
      refine x_ald rfl rfl rfl (k := k) (rfl) (by omega) (by decide) rfl ?_
      refine x_iast rfl rfl (k := k) (rfl) (by omega) (by decide) rfl ?_
      iterate 2 refine x_s rfl rfl ?_
      rw [nI_1]
      refine ih _ (sm_up s2 (by decide)) (fun i hi => ?_)
      by_cases e : i = k
      · subst e
        exact (show (if i = i then d2 141 i else d2 144 i) = _ by rw [if_pos rfl, s2 141 (by decide)])
      · exact (show (if i = k then d2 141 k else d2 144 i) = _ by rw [if_neg e]; exact a2 i (by omega))
  refine Cn.intro gX12_copies rfl (Nat.le_of_ble_eq_true rfl) rfl ?_
  iterate 2 refine x_s rfl rfl ?_
  exact lp 0 (by decide) d sm_rfl (fun i hi => by omega)
set_option maxRecDepth 100000 in
set_option maxHeartbeats 1600000 in
theorem k_copies142_128 : Cn mX12_copies false 1 0 0 [.ref 112, .ref 142, .ref 128] (W0 d L) (fun r h => r = none ∧ ∃ d', h = W0 d' L ∧ sm [128] d d' ∧ ∀ k, k < 67 → d' 128 k = d 142 k) := by
  have lp : ∀ k, k ≤ 67 → ∀ d2 : Nat → Nat → Int32, sm [128] d d2 → (∀ i, i < k → d2 128 i = d 142 i) → Ex mX12_copies false 1 0 0 2 [some (.ref 112), some (.ref 142), some (.ref 128), some (.int (nI k))] [] (W0 d2 L) (fun r h => r = none ∧ ∃ d', h = W0 d' L ∧ sm [128] d d' ∧ ∀ k, k < 67 → d' 128 k = d 142 k) nX := by
    refine x_down _ ?_ ?_
    · intro d2 s2 a2
      repeat refine x_s rfl rfl ?_
      refine x_br rfl rfl (fun c => ?_) (fun c => absurd c (fun z => z (by decide)))
      exact x_vret rfl rfl ⟨rfl, d2, rfl, s2, a2⟩
    · intro k hk ih d2 s2 a2
      repeat refine x_s rfl rfl ?_
      refine x_br rfl rfl (fun c => absurd c (nI_ge (b := 67) hk (by decide))) (fun c => ?_)
      repeat refine x_s rfl rfl ?_
      refine x_ald rfl rfl rfl (k := k) (rfl) (by omega) (by decide) rfl ?_
      refine x_iast rfl rfl (k := k) (rfl) (by omega) (by decide) rfl ?_
      iterate 2 refine x_s rfl rfl ?_
      rw [nI_1]
      refine ih _ (sm_up s2 (by decide)) (fun i hi => ?_)
      by_cases e : i = k
      · subst e
        exact (show (if i = i then d2 142 i else d2 128 i) = _ by rw [if_pos rfl, s2 142 (by decide)])
      · exact (show (if i = k then d2 142 k else d2 128 i) = _ by rw [if_neg e]; exact a2 i (by omega))
  refine Cn.intro gX12_copies rfl (Nat.le_of_ble_eq_true rfl) rfl ?_
  iterate 2 refine x_s rfl rfl ?_
  exact lp 0 (by decide) d sm_rfl (fun i hi => by omega)
set_option maxRecDepth 100000 in
set_option maxHeartbeats 1600000 in
theorem k_copies143_129 : Cn mX12_copies false 1 0 0 [.ref 112, .ref 143, .ref 129] (W0 d L) (fun r h => r = none ∧ ∃ d', h = W0 d' L ∧ sm [129] d d' ∧ ∀ k, k < 2680 → d' 129 k = d 143 k) := by
  have lp : ∀ k, k ≤ 2680 → ∀ d2 : Nat → Nat → Int32, sm [129] d d2 → (∀ i, i < k → d2 129 i = d 143 i) → Ex mX12_copies false 1 0 0 2 [some (.ref 112), some (.ref 143), some (.ref 129), some (.int (nI k))] [] (W0 d2 L) (fun r h => r = none ∧ ∃ d', h = W0 d' L ∧ sm [129] d d' ∧ ∀ k, k < 2680 → d' 129 k = d 143 k) nX := by
    refine x_down _ ?_ ?_
    · intro d2 s2 a2
      repeat refine x_s rfl rfl ?_
      refine x_br rfl rfl (fun c => ?_) (fun c => absurd c (fun z => z (by decide)))
      exact x_vret rfl rfl ⟨rfl, d2, rfl, s2, a2⟩
    · intro k hk ih d2 s2 a2
      repeat refine x_s rfl rfl ?_
      refine x_br rfl rfl (fun c => absurd c (nI_ge (b := 2680) hk (by decide))) (fun c => ?_)
      repeat refine x_s rfl rfl ?_
      refine x_ald rfl rfl rfl (k := k) (rfl) (by omega) (by decide) rfl ?_
      refine x_iast rfl rfl (k := k) (rfl) (by omega) (by decide) rfl ?_
      iterate 2 refine x_s rfl rfl ?_
      rw [nI_1]
      refine ih _ (sm_up s2 (by decide)) (fun i hi => ?_)
      by_cases e : i = k
      · subst e
        exact (show (if i = i then d2 143 i else d2 129 i) = _ by rw [if_pos rfl, s2 143 (by decide)])
      · exact (show (if i = k then d2 143 k else d2 129 i) = _ by rw [if_neg e]; exact a2 i (by omega))
  refine Cn.intro gX12_copies rfl (Nat.le_of_ble_eq_true rfl) rfl ?_
  iterate 2 refine x_s rfl rfl ?_
  exact lp 0 (by decide) d sm_rfl (fun i hi => by omega)
set_option maxRecDepth 100000 in
set_option maxHeartbeats 1600000 in
theorem k_copies144_141 : Cn mX12_copies false 1 0 0 [.ref 112, .ref 144, .ref 141] (W0 d L) (fun r h => r = none ∧ ∃ d', h = W0 d' L ∧ sm [141] d d' ∧ ∀ k, k < 24 → d' 141 k = d 144 k) := by
  have lp : ∀ k, k ≤ 24 → ∀ d2 : Nat → Nat → Int32, sm [141] d d2 → (∀ i, i < k → d2 141 i = d 144 i) → Ex mX12_copies false 1 0 0 2 [some (.ref 112), some (.ref 144), some (.ref 141), some (.int (nI k))] [] (W0 d2 L) (fun r h => r = none ∧ ∃ d', h = W0 d' L ∧ sm [141] d d' ∧ ∀ k, k < 24 → d' 141 k = d 144 k) nX := by
    refine x_down _ ?_ ?_
    · intro d2 s2 a2
      repeat refine x_s rfl rfl ?_
      refine x_br rfl rfl (fun c => ?_) (fun c => absurd c (fun z => z (by decide)))
      exact x_vret rfl rfl ⟨rfl, d2, rfl, s2, a2⟩
    · intro k hk ih d2 s2 a2
      repeat refine x_s rfl rfl ?_
      refine x_br rfl rfl (fun c => absurd c (nI_ge (b := 24) hk (by decide))) (fun c => ?_)
      repeat refine x_s rfl rfl ?_
      refine x_ald rfl rfl rfl (k := k) (rfl) (by omega) (by decide) rfl ?_
      refine x_iast rfl rfl (k := k) (rfl) (by omega) (by decide) rfl ?_
      iterate 2 refine x_s rfl rfl ?_
      rw [nI_1]
      refine ih _ (sm_up s2 (by decide)) (fun i hi => ?_)
      by_cases e : i = k
      · subst e
        exact (show (if i = i then d2 144 i else d2 141 i) = _ by rw [if_pos rfl, s2 144 (by decide)])
      · exact (show (if i = k then d2 144 k else d2 141 i) = _ by rw [if_neg e]; exact a2 i (by omega))
  refine Cn.intro gX12_copies rfl (Nat.le_of_ble_eq_true rfl) rfl ?_
  iterate 2 refine x_s rfl rfl ?_
  exact lp 0 (by decide) d sm_rfl (fun i hi => by omega)
set_option maxRecDepth 100000 in
set_option maxHeartbeats 1600000 in
theorem k_copies125_117 : Cn mX12_copies false 1 0 0 [.ref 112, .ref 125, .ref 117] (W0 d L) (fun r h => r = none ∧ ∃ d', h = W0 d' L ∧ sm [117] d d' ∧ ∀ k, k < 1400 → d' 117 k = d 125 k) := by
  have lp : ∀ k, k ≤ 1400 → ∀ d2 : Nat → Nat → Int32, sm [117] d d2 → (∀ i, i < k → d2 117 i = d 125 i) → Ex mX12_copies false 1 0 0 2 [some (.ref 112), some (.ref 125), some (.ref 117), some (.int (nI k))] [] (W0 d2 L) (fun r h => r = none ∧ ∃ d', h = W0 d' L ∧ sm [117] d d' ∧ ∀ k, k < 1400 → d' 117 k = d 125 k) nX := by
    refine x_down _ ?_ ?_
    · intro d2 s2 a2
      repeat refine x_s rfl rfl ?_
      refine x_br rfl rfl (fun c => ?_) (fun c => absurd c (fun z => z (by decide)))
      exact x_vret rfl rfl ⟨rfl, d2, rfl, s2, a2⟩
    · intro k hk ih d2 s2 a2
      repeat refine x_s rfl rfl ?_
      refine x_br rfl rfl (fun c => absurd c (nI_ge (b := 1400) hk (by decide))) (fun c => ?_)
      repeat refine x_s rfl rfl ?_
      refine x_ald rfl rfl rfl (k := k) (rfl) (by omega) (by decide) rfl ?_
      refine x_iast rfl rfl (k := k) (rfl) (by omega) (by decide) rfl ?_
      iterate 2 refine x_s rfl rfl ?_
      rw [nI_1]
      refine ih _ (sm_up s2 (by decide)) (fun i hi => ?_)
      by_cases e : i = k
      · subst e
        exact (show (if i = i then d2 125 i else d2 117 i) = _ by rw [if_pos rfl, s2 125 (by decide)])
      · exact (show (if i = k then d2 125 k else d2 117 i) = _ by rw [if_neg e]; exact a2 i (by omega))
  refine Cn.intro gX12_copies rfl (Nat.le_of_ble_eq_true rfl) rfl ?_
  iterate 2 refine x_s rfl rfl ?_
  exact lp 0 (by decide) d sm_rfl (fun i hi => by omega)
set_option maxRecDepth 100000 in
set_option maxHeartbeats 1600000 in
theorem k_copies124_128 : Cn mX12_copies false 1 0 0 [.ref 112, .ref 124, .ref 128] (W0 d L) (fun r h => r = none ∧ ∃ d', h = W0 d' L ∧ sm [128] d d' ∧ ∀ k, k < 67 → d' 128 k = d 124 k) := by
  have lp : ∀ k, k ≤ 67 → ∀ d2 : Nat → Nat → Int32, sm [128] d d2 → (∀ i, i < k → d2 128 i = d 124 i) → Ex mX12_copies false 1 0 0 2 [some (.ref 112), some (.ref 124), some (.ref 128), some (.int (nI k))] [] (W0 d2 L) (fun r h => r = none ∧ ∃ d', h = W0 d' L ∧ sm [128] d d' ∧ ∀ k, k < 67 → d' 128 k = d 124 k) nX := by
    refine x_down _ ?_ ?_
    · intro d2 s2 a2
      repeat refine x_s rfl rfl ?_
      refine x_br rfl rfl (fun c => ?_) (fun c => absurd c (fun z => z (by decide)))
      exact x_vret rfl rfl ⟨rfl, d2, rfl, s2, a2⟩
    · intro k hk ih d2 s2 a2
      repeat refine x_s rfl rfl ?_
      refine x_br rfl rfl (fun c => absurd c (nI_ge (b := 67) hk (by decide))) (fun c => ?_)
      repeat refine x_s rfl rfl ?_
      refine x_ald rfl rfl rfl (k := k) (rfl) (by omega) (by decide) rfl ?_
      refine x_iast rfl rfl (k := k) (rfl) (by omega) (by decide) rfl ?_
      iterate 2 refine x_s rfl rfl ?_
      rw [nI_1]
      refine ih _ (sm_up s2 (by decide)) (fun i hi => ?_)
      by_cases e : i = k
      · subst e
        exact (show (if i = i then d2 124 i else d2 128 i) = _ by rw [if_pos rfl, s2 124 (by decide)])
      · exact (show (if i = k then d2 124 k else d2 128 i) = _ by rw [if_neg e]; exact a2 i (by omega))
  refine Cn.intro gX12_copies rfl (Nat.le_of_ble_eq_true rfl) rfl ?_
  iterate 2 refine x_s rfl rfl ?_
  exact lp 0 (by decide) d sm_rfl (fun i hi => by omega)
set_option maxRecDepth 100000 in
set_option maxHeartbeats 1600000 in
theorem q_image : Cn mX12_image false 2 0 0 [.ref 112] (W0 d L) (fun r h => r = none ∧ ∃ d', h = W0 d' L ∧ (∀ c, c ∉ [112, 142, 143, 144] → d' c = d c) ∧ (∀ k, k ∉ [0, 59, 60, 61] → d' 112 k = d 112 k) ∧ d' 112 0 = 0 ∧ d' 112 59 = 1 ∧ d' 112 60 = d 112 43 ∧ d' 112 61 = d 112 56 ∧ (∀ k, k < 67 → d' 142 k = d 128 k) ∧ (∀ k, k < 2680 → d' 143 k = d 129 k) ∧ ∀ k, k < 24 → d' 144 k = d 141 k) := by
  refine Cn.intro gX12_image rfl (Nat.le_of_ble_eq_true rfl) rfl ?_
  repeat refine x_s rfl rfl ?_
  refine x_put rfl rfl (by decide) rfl ⟨rfl, rfl⟩ (Or.inl rfl) ?_
  repeat refine x_s rfl rfl ?_
  refine x_put rfl rfl (by decide) rfl ⟨rfl, rfl⟩ (Or.inl rfl) ?_
  repeat refine x_s rfl rfl ?_
  refine x_put rfl rfl (by decide) rfl ⟨rfl, rfl⟩ (Or.inl rfl) ?_
  repeat refine x_s rfl rfl ?_
  refine x_put rfl rfl (by decide) rfl ⟨rfl, rfl⟩ (Or.inl rfl) ?_
  generalize hd0 : up2 (up2 (up2 (up2 d 112 0 0) 112 59 1) 112 60 _) 112 61 _ = d0
  have f1 : d0 112 0 = 0 := by rw [← hd0]; rfl
  have f2 : d0 112 59 = 1 := by rw [← hd0]; rfl
  have f3 : d0 112 60 = d 112 43 := by rw [← hd0]; rfl
  have f4 : d0 112 61 = d 112 56 := by rw [← hd0]; rfl
  have f5 : ∀ c, c ≠ 112 → d0 c = d c := fun c h1 => by rw [← hd0, up2_ne h1, up2_ne h1, up2_ne h1, up2_ne h1]
  have f6 : ∀ k, k ∉ [0, 59, 60, 61] → d0 112 k = d 112 k := fun k h1 => by
    simp only [List.mem_cons, List.not_mem_nil, or_false, not_or] at h1
    rw [← hd0, up2_k h1.2.2.2, up2_k h1.2.2.1, up2_k h1.2.1, up2_k h1.1]
  repeat refine x_s rfl rfl ?_
  refine x_cv (k_copies128_142 d0 L) rfl rfl rfl (by decide) rfl (by decide) rfl (Nat.le_of_ble_eq_true rfl) (by decide) (by decide) (by decide) ?_
  rintro _ _ ⟨rfl, d1, rfl, s1, a1⟩
  repeat refine x_s rfl rfl ?_
  refine x_cv (k_copies129_143 d1 L) rfl rfl rfl (by decide) rfl (by decide) rfl (Nat.le_of_ble_eq_true rfl) (by decide) (by decide) (by decide) ?_
  rintro _ _ ⟨rfl, d2, rfl, s2, a2⟩
  repeat refine x_s rfl rfl ?_
  refine x_cv (k_copies141_144 d2 L) rfl rfl rfl (by decide) rfl (by decide) rfl (Nat.le_of_ble_eq_true rfl) (by decide) (by decide) (by decide) ?_
  rintro _ _ ⟨rfl, d3, rfl, s3, a3⟩
  have ee : ∀ c, c ∉ [142, 143, 144] → d3 c = d0 c := fun c h1 => by
    simp only [List.mem_cons, List.not_mem_nil, or_false, not_or] at h1
    rw [s3 c (by simp [h1.2.2]), s2 c (by simp [h1.2.1]), s1 c (by simp [h1.1])]
  refine x_vret rfl rfl ⟨rfl, d3, rfl, fun c h1 => ?_, fun k hk => ?_, ?_, ?_, ?_, ?_, fun k hk => ?_, fun k hk => ?_, fun k hk => ?_⟩
  · have h1' := h1
    simp only [List.mem_cons, List.not_mem_nil, or_false, not_or] at h1
    rw [ee c (by simp [h1.2.1, h1.2.2.1, h1.2.2.2]), f5 c h1.1]
  · rw [ee 112 (by decide)]
    exact f6 k hk
  · rw [ee 112 (by decide)]
    exact f1
  · rw [ee 112 (by decide)]
    exact f2
  · rw [ee 112 (by decide)]
    exact f3
  · rw [ee 112 (by decide)]
    exact f4
  · rw [s3 142 (by decide), s2 142 (by decide), a1 k hk, f5 128 (by decide)]
  · rw [s3 143 (by decide), a2 k hk, s1 129 (by decide), f5 129 (by decide)]
  · rw [a3 k hk, s2 141 (by decide), s1 141 (by decide), f5 141 (by decide)]
set_option maxRecDepth 100000 in
set_option maxHeartbeats 1600000 in
theorem q_restore0 (h0 : d 112 59 = 0) : Cn mX12_restore false 2 0 0 [.ref 112] (W0 d L) (fun r h => r = some (.int 0) ∧ h = W0 (up2 d 112 0 0) L) := by
  refine Cn.intro gX12_restore rfl (Nat.le_of_ble_eq_true rfl) rfl ?_
  repeat refine x_s rfl rfl ?_
  refine x_put rfl rfl (by decide) rfl ⟨rfl, rfl⟩ (Or.inl rfl) ?_
  repeat refine x_s rfl rfl ?_
  refine x_br rfl rfl (fun c => absurd c (fun z => z h0)) (fun c => ?_)
  repeat refine x_s rfl rfl ?_
  exact x_iret rfl rfl rfl ⟨rfl, rfl⟩
set_option maxRecDepth 100000 in
set_option maxHeartbeats 1600000 in
theorem q_restore1 (h0 : d 112 59 = 1) : Cn mX12_restore false 2 0 0 [.ref 112] (W0 d L) (fun r h => r = some (.int 1) ∧ ∃ d', h = W0 d' L ∧ (∀ c, c ∉ [112, 128, 129, 141] → d' c = d c) ∧ (∀ k, k ∉ [0, 43, 56] → d' 112 k = d 112 k) ∧ d' 112 0 = 0 ∧ d' 112 43 = d 112 60 ∧ d' 112 56 = d 112 61 ∧ (∀ k, k < 67 → d' 128 k = d 142 k) ∧ (∀ k, k < 2680 → d' 129 k = d 143 k) ∧ ∀ k, k < 24 → d' 141 k = d 144 k) := by
  refine Cn.intro gX12_restore rfl (Nat.le_of_ble_eq_true rfl) rfl ?_
  repeat refine x_s rfl rfl ?_
  refine x_put rfl rfl (by decide) rfl ⟨rfl, rfl⟩ (Or.inl rfl) ?_
  repeat refine x_s rfl rfl ?_
  refine x_br rfl rfl (fun c => ?_) (fun c => absurd c (fun z => absurd (h0.symm.trans z) (by decide)))
  repeat refine x_s rfl rfl ?_
  refine x_put rfl rfl (by decide) rfl ⟨rfl, rfl⟩ (Or.inl rfl) ?_
  repeat refine x_s rfl rfl ?_
  refine x_put rfl rfl (by decide) rfl ⟨rfl, rfl⟩ (Or.inl rfl) ?_
  generalize hd0 : up2 (up2 (up2 d 112 0 0) 112 43 _) 112 56 _ = d0
  have f1 : d0 112 0 = 0 := by rw [← hd0]; rfl
  have f3 : d0 112 43 = d 112 60 := by rw [← hd0]; rfl
  have f4 : d0 112 56 = d 112 61 := by rw [← hd0]; rfl
  have f5 : ∀ c, c ≠ 112 → d0 c = d c := fun c h1 => by rw [← hd0, up2_ne h1, up2_ne h1, up2_ne h1]
  have f6 : ∀ k, k ∉ [0, 43, 56] → d0 112 k = d 112 k := fun k h1 => by
    simp only [List.mem_cons, List.not_mem_nil, or_false, not_or] at h1
    rw [← hd0, up2_k h1.2.2, up2_k h1.2.1, up2_k h1.1]
  repeat refine x_s rfl rfl ?_
  refine x_cv (k_copies142_128 d0 L) rfl rfl rfl (by decide) rfl (by decide) rfl (Nat.le_of_ble_eq_true rfl) (by decide) (by decide) (by decide) ?_
  rintro _ _ ⟨rfl, d1, rfl, s1, a1⟩
  repeat refine x_s rfl rfl ?_
  refine x_cv (k_copies143_129 d1 L) rfl rfl rfl (by decide) rfl (by decide) rfl (Nat.le_of_ble_eq_true rfl) (by decide) (by decide) (by decide) ?_
  rintro _ _ ⟨rfl, d2, rfl, s2, a2⟩
  repeat refine x_s rfl rfl ?_
  refine x_cv (k_copies144_141 d2 L) rfl rfl rfl (by decide) rfl (by decide) rfl (Nat.le_of_ble_eq_true rfl) (by decide) (by decide) (by decide) ?_
  rintro _ _ ⟨rfl, d3, rfl, s3, a3⟩
  have ee : ∀ c, c ∉ [128, 129, 141] → d3 c = d0 c := fun c h1 => by
    simp only [List.mem_cons, List.not_mem_nil, or_false, not_or] at h1
    rw [s3 c (by simp [h1.2.2]), s2 c (by simp [h1.2.1]), s1 c (by simp [h1.1])]
  repeat refine x_s rfl rfl ?_
  refine x_iret rfl rfl rfl ⟨rfl, d3, rfl, fun c h1 => ?_, fun k hk => ?_, ?_, ?_, ?_, fun k hk => ?_, fun k hk => ?_, fun k hk => ?_⟩
  · simp only [List.mem_cons, List.not_mem_nil, or_false, not_or] at h1
    rw [ee c (by simp [h1.2.1, h1.2.2.1, h1.2.2.2]), f5 c h1.1]
  · rw [ee 112 (by decide)]
    exact f6 k hk
  · rw [ee 112 (by decide)]
    exact f1
  · rw [ee 112 (by decide)]
    exact f3
  · rw [ee 112 (by decide)]
    exact f4
  · rw [s3 128 (by decide), s2 128 (by decide), a1 k hk, f5 142 (by decide)]
  · rw [s3 129 (by decide), a2 k hk, s1 143 (by decide), f5 143 (by decide)]
  · rw [a3 k hk, s2 144 (by decide), s1 144 (by decide), f5 144 (by decide)]
end
