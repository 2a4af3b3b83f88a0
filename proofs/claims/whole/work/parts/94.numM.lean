/-! THE MODEL reads lines -/
def RuM (d : Nat → Nat → Int32) (k b : Nat) (g : Option (List Int32)) (top : Nat) : Prop := match g with
  | none => d 112 k = -1
  | some E => ∃ at0, d 112 k = nI at0 ∧ at0 + (cod (pmB b) E).length < top ∧ (∀ (i : Nat) (t : Int32), (cod (pmB b) E)[i]? = some t → d 125 (at0 + i) = t) ∧ d 125 (at0 + (cod (pmB b) E).length) = 0
def HDM (d : Nat → Nat → Int32) (D : Dr) (top : Nat) : Prop := d 112 23 = nI (D.1 0 0) ∧ d 112 24 = nI (D.1 4 0) ∧ d 112 25 = nI (D.1 9 0) ∧ (∀ p, p < D.1 0 0 → d 120 p = nI (D.1 1 p) ∧ d 121 p = nI (D.1 2 p) ∧ d 122 p = nI (D.1 3 p)) ∧ (∀ m, m < D.1 4 0 → d 124 (49 + m) = nI (D.1 5 m) ∧ d 124 (55 + m) = nI (D.1 6 m) ∧ d 123 m = nI (D.1 7 m) ∧ d 124 (61 + m) = nI (D.1 8 m)) ∧ (∀ s, s < D.1 9 0 → d 124 (1 + s) = nI (D.1 10 s) ∧ d 124 (17 + s) = nI (D.1 11 s) ∧ d 124 (33 + s) = nI (D.1 12 s)) ∧ d 112 28 = nI top ∧ RuM d 26 17 D.2.1 top ∧ RuM d 27 20 D.2.2 top
def FM (d : Nat → Nat → Int32) (f : Nat × Nat) : Prop := d 112 12 = nI f.1 ∧ d 112 13 = nI f.2 ∧ 1 ≤ f.1 ∧ f.1 ≤ 5 ∧ f.2 ≤ 700
def NF (d d' : Nat → Nat → Int32) : Prop := (∀ c, c < 112 ∨ (112 < c ∧ c < 120) ∨ 127 < c → d' c = d c) ∧ ∀ k, k < 12 ∨ k = 14 ∨ k = 15 ∨ 32 < k → d' 112 k = d 112 k
theorem NF_rfl {d : Nat → Nat → Int32} : NF d d := ⟨fun _ _ => rfl, fun _ _ => rfl⟩
theorem NF_tr {d d' d'' : Nat → Nat → Int32} (h : NF d d') (h' : NF d' d'') : NF d d'' := ⟨fun c a => (h'.1 c a).trans (h.1 c a), fun k a => (h'.2 k a).trans (h.2 k a)⟩
theorem NF_MF {d d' : Nat → Nat → Int32} (h : MF d d') : NF d d' := ⟨fun c a => h.1 c (by omega), fun k a => h.2 k (by omega)⟩
theorem NF_EF {at0 : Nat} {d d' : Nat → Nat → Int32} (h : EF at0 d d') : NF d d' := ⟨fun c a => h.1 c (by omega) (by omega) (by omega) (by omega), fun k a => h.2.1 k (by omega)⟩
theorem NF_f {d d' : Nat → Nat → Int32} {k : Nat} {x : Int32} (h : NF d d') (hk : k = 12 ∨ k = 13 ∨ (16 ≤ k ∧ k ≤ 32)) : NF d (up2 d' 112 k x) := by
  refine ⟨fun c a => (up2_ne (by omega)).trans (h.1 c a), fun j a => ?_⟩
  rw [up2_k (by omega)]
  exact h.2 j a
theorem NF_c {d d' : Nat → Nat → Int32} {c k : Nat} {x : Int32} (h : NF d d') (hc : 120 ≤ c ∧ c ≤ 127) : NF d (up2 d' c k x) := by
  refine ⟨fun q a => (up2_ne (by omega)).trans (h.1 q a), fun j a => ?_⟩
  rw [up2_ne (by omega)]
  exact h.2 j a
theorem RuM_e {d d' : Nat → Nat → Int32} {k b top : Nat} {g : Option (List Int32)} (H : RuM d k b g top) (h1 : d' 112 k = d 112 k) (h2 : ∀ i, i < top → d' 125 i = d 125 i) : RuM d' k b g top := by
  cases g with
  | none => exact h1.trans H
  | some E =>
    obtain ⟨at0, a1, a2, a3, a4⟩ := H
    refine ⟨at0, h1.trans a1, a2, fun i t hi => ?_, ?_⟩
    · have := (List.getElem?_eq_some_iff.mp hi).1
      rw [h2 _ (by omega)]
      exact a3 i t hi
    · rw [h2 _ (by omega)]
      exact a4
theorem RuM_t {d : Nat → Nat → Int32} {k b top top' : Nat} {g : Option (List Int32)} (H : RuM d k b g top) (h : top ≤ top') : RuM d k b g top' := by
  cases g with
  | none => exact H
  | some E =>
    obtain ⟨at0, a1, a2, a3, a4⟩ := H
    exact ⟨at0, a1, by omega, a3, a4⟩
theorem HDM_e {d d' : Nat → Nat → Int32} {D : Dr} {top : Nat} (H : HDM d D top) (h0 : ∀ k, 23 ≤ k → k ≤ 28 → d' 112 k = d 112 k) (h1 : ∀ p, p < D.1 0 0 → d' 120 p = d 120 p ∧ d' 121 p = d 121 p ∧ d' 122 p = d 122 p) (h2 : ∀ m, m < D.1 4 0 → d' 124 (49 + m) = d 124 (49 + m) ∧ d' 124 (55 + m) = d 124 (55 + m) ∧ d' 123 m = d 123 m ∧ d' 124 (61 + m) = d 124 (61 + m)) (h3 : ∀ s, s < D.1 9 0 → d' 124 (1 + s) = d 124 (1 + s) ∧ d' 124 (17 + s) = d 124 (17 + s) ∧ d' 124 (33 + s) = d 124 (33 + s)) (h4 : ∀ i, i < top → d' 125 i = d 125 i) : HDM d' D top := by
  obtain ⟨a1, a2, a3, a4, a5, a6, a7, a8, a9⟩ := H
  refine ⟨(h0 23 (by decide) (by decide)).trans a1, (h0 24 (by decide) (by decide)).trans a2, (h0 25 (by decide) (by decide)).trans a3, fun p hp => ?_, fun m hm => ?_, fun s hs => ?_, (h0 28 (by decide) (by decide)).trans a7, RuM_e a8 (h0 26 (by decide) (by decide)) h4, RuM_e a9 (h0 27 (by decide) (by decide)) h4⟩
  · obtain ⟨b1, b2, b3⟩ := h1 p hp
    rw [b1, b2, b3]
    exact a4 p hp
  · obtain ⟨b1, b2, b3, b4⟩ := h2 m hm
    rw [b1, b2, b3, b4]
    exact a5 m hm
  · obtain ⟨b1, b2, b3⟩ := h3 s hs
    rw [b1, b2, b3]
    exact a6 s hs
theorem HDM_MF {d d' : Nat → Nat → Int32} {D : Dr} {top : Nat} (H : HDM d D top) (h : MF d d') : HDM d' D top := by
  refine HDM_e H (fun k a b => h.2 k (by omega)) (fun p _ => ?_) (fun m _ => ?_) (fun s _ => ?_) (fun i _ => congrFun (h.1 125 (by decide)) i)
  · rw [h.1 120 (by decide), h.1 121 (by decide), h.1 122 (by decide)]
    exact ⟨rfl, rfl, rfl⟩
  · rw [h.1 123 (by decide), h.1 124 (by decide)]
    exact ⟨rfl, rfl, rfl, rfl⟩
  · rw [h.1 124 (by decide)]
    exact ⟨rfl, rfl, rfl⟩
theorem HDM_p {d : Nat → Nat → Int32} {D : Dr} {top c k : Nat} {x : Int32} (H : HDM d D top) (hc : c = 120 ∨ c = 121 ∨ c = 122) (hk : D.1 0 0 ≤ k) : HDM (up2 d c k x) D top := by
  refine HDM_e H (fun k a b => congrFun (up2_ne (by omega)) k) (fun p hp => ?_) (fun m _ => ?_) (fun s _ => ?_) (fun i _ => congrFun (up2_ne (by omega)) i)
  · have e : ∀ c', up2 d c k x c' p = d c' p := fun c' => by
      by_cases z : c' = c
      · subst z
        exact up2_k (by omega)
      · exact congrFun (up2_ne z) p
    exact ⟨e 120, e 121, e 122⟩
  · rw [up2_ne (by omega), up2_ne (by omega)]
    exact ⟨rfl, rfl, rfl, rfl⟩
  · rw [up2_ne (by omega)]
    exact ⟨rfl, rfl, rfl⟩
theorem HDM_r {d : Nat → Nat → Int32} {D : Dr} {top k : Nat} {x : Int32} (H : HDM d D top) (hk : D.1 4 0 ≤ k) : HDM (up2 d 123 k x) D top := by
  refine HDM_e H (fun k a b => congrFun (up2_ne (by decide)) k) (fun p hp => ?_) (fun m hm => ?_) (fun s _ => ?_) (fun i _ => congrFun (up2_ne (by decide)) i)
  · rw [up2_ne (by decide), up2_ne (by decide), up2_ne (by decide)]
    exact ⟨rfl, rfl, rfl⟩
  · rw [up2_ne (by decide), up2_k (by omega)]
    exact ⟨rfl, rfl, rfl, rfl⟩
  · rw [up2_ne (by decide)]
    exact ⟨rfl, rfl, rfl⟩
theorem HDM_w {d : Nat → Nat → Int32} {D : Dr} {top k : Nat} {x : Int32} (H : HDM d D top) (h1 : ∀ m, m < D.1 4 0 → ¬ k = 49 + m ∧ ¬ k = 55 + m ∧ ¬ k = 61 + m) (h2 : ∀ s, s < D.1 9 0 → ¬ k = 1 + s ∧ ¬ k = 17 + s ∧ ¬ k = 33 + s) : HDM (up2 d 124 k x) D top := by
  refine HDM_e H (fun k a b => congrFun (up2_ne (by decide)) k) (fun p hp => ?_) (fun m hm => ?_) (fun s hs => ?_) (fun i _ => congrFun (up2_ne (by decide)) i)
  · rw [up2_ne (by decide), up2_ne (by decide), up2_ne (by decide)]
    exact ⟨rfl, rfl, rfl⟩
  · obtain ⟨z1, z2, z3⟩ := h1 m hm
    rw [up2_k (fun z => z1 z.symm), up2_k (fun z => z2 z.symm), up2_k (fun z => z3 z.symm), up2_ne (by decide)]
    exact ⟨rfl, rfl, rfl, rfl⟩
  · obtain ⟨z1, z2, z3⟩ := h2 s hs
    rw [up2_k (fun z => z1 z.symm), up2_k (fun z => z2 z.symm), up2_k (fun z => z3 z.symm)]
    exact ⟨rfl, rfl, rfl⟩
section
variable (d : Nat → Nat → Int32) (L : Nat → Nat → Int64) {T : Nat → Nat} {n : Nat}
set_option maxRecDepth 100000 in
set_option maxHeartbeats 1600000 in
theorem k_numberHere {s k v lo hi : Nat} {r : List Tk} (hn : n ≤ 700) (hlo : lo ≤ 9999) (hhi : hi ≤ 9999) (H : MT d L T n ((s, k, v) :: r)) (g12 : d 112 12 = nI 0) : Cn mX12_numberHere false 2 0 0 [.ref 112, .int (nI lo), .int (nI hi)] (W0 d L) (fun q h => (nmF lo hi k v = 0 ∧ q = some (.int 1) ∧ h = W0 d L) ∨ (1 ≤ nmF lo hi k v ∧ q = some (.int 0) ∧ h = W0 (up2 (up2 d 112 12 (nI (nmF lo hi k v))) 112 13 (nI s)) L)) := by
  obtain ⟨f1, f2, f3, f4, f5, e, f6, f7, f8, ch, f9, f10, f11⟩ := MT_f H
  have sl := srt_le k
  have bad : ∀ f, f = 1 ∨ f = 2 → f = nmF lo hi k v → Ex mX12_numberHere false 2 0 0 54 [some (.ref 112), some (.int (nI lo)), some (.int (nI hi))] [] (W0 (up2 (up2 d 112 12 (nI f)) 112 13 (nI s)) L) (fun q h => (nmF lo hi k v = 0 ∧ q = some (.int 1) ∧ h = W0 d L) ∨ (1 ≤ nmF lo hi k v ∧ q = some (.int 0) ∧ h = W0 (up2 (up2 d 112 12 (nI (nmF lo hi k v))) 112 13 (nI s)) L)) nX := by
    intro f hf hq
    have z : up2 (up2 d 112 12 (nI f)) 112 13 (nI s) 112 12 = nI f := rfl
    repeat refine x_s rfl rfl ?_
    refine x_cv (k_isGood (up2 (up2 d 112 12 (nI f)) 112 13 (nI s)) L z (by omega)) rfl rfl rfl (by decide) rfl (by decide) rfl (Nat.le_of_ble_eq_true rfl) (by decide) (by decide) (by decide) ?_
    rintro _ _ ⟨rfl, rfl⟩
    rw [decide_eq_false (by omega)]
    rw [← hq]
    exact x_iret rfl rfl rfl (Or.inr ⟨by omega, rfl, rfl⟩)
  have two : ¬ (lo ≤ v ∧ v ≤ hi) → k = 2 → Ex mX12_numberHere false 2 0 0 49 [some (.ref 112), some (.int (nI lo)), some (.int (nI hi))] [] (W0 d L) (fun q h => (nmF lo hi k v = 0 ∧ q = some (.int 1) ∧ h = W0 d L) ∨ (1 ≤ nmF lo hi k v ∧ q = some (.int 0) ∧ h = W0 (up2 (up2 d 112 12 (nI (nmF lo hi k v))) 112 13 (nI s)) L)) nX := by
    intro hv hk
    repeat refine x_s rfl rfl ?_
    refine x_cv (k_wrong d L g12 _) rfl rfl rfl (by decide) rfl (by decide) rfl (Nat.le_of_ble_eq_true rfl) (by decide) (by decide) (by decide) ?_
    rintro _ _ ⟨rfl, rfl⟩
    rw [f1]
    exact bad 2 (Or.inr rfl) (by unfold nmF; rw [if_pos hk, if_neg hv])
  refine Cn.intro gX12_numberHere rfl (Nat.le_of_ble_eq_true rfl) rfl ?_
  repeat refine x_s rfl rfl ?_
  refine x_cv (k_isGood d L g12 (by decide)) rfl rfl rfl (by decide) rfl (by decide) rfl (Nat.le_of_ble_eq_true rfl) (by decide) (by decide) (by decide) ?_
  rintro _ _ ⟨rfl, rfl⟩
  refine x_br rfl rfl (fun c => ?_) (fun c => absurd c (fun z => absurd z (by decide)))
  repeat refine x_s rfl rfl ?_
  rw [f2]
  by_cases hk : k = 2
  rotate_left
  · refine x_br rfl rfl (fun c => absurd c (fun z => hk ((srt_e (by omega)).mp ((nI_eq (by omega) (by decide)).mp z)))) (fun c => ?_)
    repeat refine x_s rfl rfl ?_
    refine x_cv (k_wrong d L g12 _) rfl rfl rfl (by decide) rfl (by decide) rfl (Nat.le_of_ble_eq_true rfl) (by decide) (by decide) (by decide) ?_
    rintro _ _ ⟨rfl, rfl⟩
    rw [f1]
    iterate 1 refine x_s rfl rfl ?_
    exact bad 1 (Or.inl rfl) (by unfold nmF; rw [if_neg hk])
  rw [(srt_e (j := 2) (by omega)).mpr hk]
  refine x_br rfl rfl (fun c => ?_) (fun c => absurd c (fun z => z rfl))
  repeat refine x_s rfl rfl ?_
  rw [f6]
  rcases f8 hk with ⟨a1, a2⟩ | ⟨a1, a2, a3⟩
  · refine x_br rfl rfl (fun c => ?_) (fun c => absurd c (fun z => z (nI_lt (a := 4) a1 (by omega))))
    exact two (by omega) hk
  refine x_br rfl rfl (fun c => absurd c (fun z => absurd z (Int32.not_lt.mpr (nI_le (b := 4) a1 (by decide))))) (fun c => ?_)
  repeat refine x_s rfl rfl ?_
  rw [a3]
  by_cases h1 : v < lo
  · refine x_br rfl rfl (fun c => ?_) (fun c => absurd c (fun z => z (nI_lt h1 (by omega))))
    exact two (by omega) hk
  refine x_br rfl rfl (fun c => absurd c (fun z => absurd z (Int32.not_lt.mpr (nI_le (by omega) (by omega))))) (fun c => ?_)
  repeat refine x_s rfl rfl ?_
  rw [a3]
  by_cases h2 : v ≤ hi
  rotate_left
  · refine x_br rfl rfl (fun c => absurd c (fun z => absurd z (nI_ge (by omega) (by omega)))) (fun c => ?_)
    exact two (by omega) hk
  refine x_br rfl rfl (fun c => ?_) (fun c => absurd c (fun z => z (nI_le h2 (by omega))))
  repeat refine x_s rfl rfl ?_
  refine x_cv (k_isGood d L g12 (by decide)) rfl rfl rfl (by decide) rfl (by decide) rfl (Nat.le_of_ble_eq_true rfl) (by decide) (by decide) (by decide) ?_
  rintro _ _ ⟨rfl, rfl⟩
  refine x_iret rfl rfl rfl (Or.inl ⟨?_, rfl, rfl⟩)
  unfold nmF
  rw [if_pos hk, if_pos (by omega)]
set_option maxRecDepth 100000 in
set_option maxHeartbeats 1600000 in
theorem k_numberHereB {f : Nat} {x y : Int32} (g12 : d 112 12 = nI f) (h1 : 1 ≤ f) (h5 : f ≤ 5) : Cn mX12_numberHere false 2 0 0 [.ref 112, .int x, .int y] (W0 d L) (fun q h => q = some (.int 0) ∧ h = W0 d L) := by
  refine Cn.intro gX12_numberHere rfl (Nat.le_of_ble_eq_true rfl) rfl ?_
  repeat refine x_s rfl rfl ?_
  refine x_cv (k_isGood d L g12 h5) rfl rfl rfl (by decide) rfl (by decide) rfl (Nat.le_of_ble_eq_true rfl) (by decide) (by decide) (by decide) ?_
  rintro _ _ ⟨rfl, rfl⟩
  rw [decide_eq_false (by omega)]
  refine x_br rfl rfl (fun c => absurd c (fun z => z rfl)) (fun c => ?_)
  repeat refine x_s rfl rfl ?_
  exact x_iret rfl rfl rfl ⟨rfl, rfl⟩
set_option maxRecDepth 100000 in
set_option maxHeartbeats 1600000 in
theorem k_number {s k v lo hi : Nat} {r : List Tk} (hn : n ≤ 700) (hT : ∀ j, T j < 256) (hlo : lo ≤ 9999) (hhi : hi ≤ 9999) (H : MT d L T n ((s, k, v) :: r)) (g12 : d 112 12 = nI 0) : Cn mX12_number false 3 0 0 [.ref 112, .int (nI lo), .int (nI hi)] (W0 d L) (fun q h => (nmF lo hi k v = 0 ∧ q = some (.int (nI v)) ∧ ∃ d' L', h = W0 d' L' ∧ MF d d' ∧ ML L L' ∧ MT d' L' T n r) ∨ (1 ≤ nmF lo hi k v ∧ q = some (.int 0) ∧ h = W0 (up2 (up2 d 112 12 (nI (nmF lo hi k v))) 112 13 (nI s)) L)) := by
  obtain ⟨f1, f2, f3, f4, f5, e, f6, f7, f8, ch, f9, f10, f11⟩ := MT_f H
  refine Cn.intro gX12_number rfl (Nat.le_of_ble_eq_true rfl) rfl ?_
  repeat refine x_s rfl rfl ?_
  refine x_cv (k_numberHere d L hn hlo hhi H g12) rfl rfl rfl (by decide) rfl (by decide) rfl (Nat.le_of_ble_eq_true rfl) (by decide) (by decide) (by decide) ?_
  rintro rv _ hq
  rcases hq with ⟨e0, rfl, rfl⟩ | ⟨e0, rfl, rfl⟩
  · obtain ⟨rfl, l1, l2⟩ := nmF_0 e0
    have e9 : d 112 20 = nI v := by
      rcases f8 rfl with ⟨a1, a2⟩ | ⟨a1, a2, a3⟩
      · omega
      · exact a3
    refine x_br rfl rfl (fun c => absurd c (by decide)) (fun c => ?_)
    repeat refine x_s rfl rfl ?_
    rw [e9]
    refine x_cv (k_isGood d L g12 (by decide)) rfl rfl rfl (by decide) rfl (by decide) rfl (Nat.le_of_ble_eq_true rfl) (by decide) (by decide) (by decide) ?_
    rintro _ _ ⟨rfl, rfl⟩
    refine x_br rfl rfl (fun c => absurd c (by decide)) (fun c => ?_)
    repeat refine x_s rfl rfl ?_
    refine x_cv (k_goes d L hn hT H (by decide)) rfl rfl rfl (by decide) rfl (by decide) rfl (Nat.le_of_ble_eq_true rfl) (by decide) (by decide) (by decide) ?_
    rintro _ _ ⟨rfl, d2, L2, rfl, F2, m2, M2⟩
    repeat refine x_s rfl rfl ?_
    exact x_iret rfl rfl rfl (Or.inl ⟨e0, rfl, d2, L2, rfl, F2, m2, M2⟩)
  · have nb := nmF_b lo hi k v
    have z : up2 (up2 d 112 12 (nI (nmF lo hi k v))) 112 13 (nI s) 112 12 = nI (nmF lo hi k v) := rfl
    refine x_br rfl rfl (fun c => ?_) (fun c => absurd c (fun z => z rfl))
    repeat refine x_s rfl rfl ?_
    refine x_cv (k_isGood (up2 (up2 d 112 12 (nI (nmF lo hi k v))) 112 13 (nI s)) L z (by omega)) rfl rfl rfl (by decide) rfl (by decide) rfl (Nat.le_of_ble_eq_true rfl) (by decide) (by decide) (by decide) ?_
    rintro _ _ ⟨rfl, rfl⟩
    rw [decide_eq_false (by omega)]
    refine x_br rfl rfl (fun c => ?_) (fun c => absurd c (fun z => z rfl))
    repeat refine x_s rfl rfl ?_
    exact x_iret rfl rfl rfl (Or.inr ⟨e0, rfl, rfl⟩)
set_option maxRecDepth 100000 in
set_option maxHeartbeats 1600000 in
theorem k_numberB {f : Nat} {x y : Int32} (g12 : d 112 12 = nI f) (h1 : 1 ≤ f) (h5 : f ≤ 5) : Cn mX12_number false 3 0 0 [.ref 112, .int x, .int y] (W0 d L) (fun q h => q = some (.int 0) ∧ h = W0 d L) := by
  refine Cn.intro gX12_number rfl (Nat.le_of_ble_eq_true rfl) rfl ?_
  repeat refine x_s rfl rfl ?_
  refine x_cv (k_numberHereB d L g12 h1 h5) rfl rfl rfl (by decide) rfl (by decide) rfl (Nat.le_of_ble_eq_true rfl) (by decide) (by decide) (by decide) ?_
  rintro _ _ ⟨rfl, rfl⟩
  refine x_br rfl rfl (fun c => ?_) (fun c => absurd c (fun z => z rfl))
  repeat refine x_s rfl rfl ?_
  refine x_cv (k_isGood d L g12 h5) rfl rfl rfl (by decide) rfl (by decide) rfl (Nat.le_of_ble_eq_true rfl) (by decide) (by decide) (by decide) ?_
  rintro _ _ ⟨rfl, rfl⟩
  rw [decide_eq_false (by omega)]
  refine x_br rfl rfl (fun c => ?_) (fun c => absurd c (fun z => z rfl))
  repeat refine x_s rfl rfl ?_
  exact x_iret rfl rfl rfl ⟨rfl, rfl⟩
set_option maxRecDepth 100000 in
set_option maxHeartbeats 1600000 in
theorem k_need {s k v : Nat} {r : List Tk} (hn : n ≤ 700) (hT : ∀ j, T j < 256) (H : MT d L T n ((s, k, v) :: r)) (g12 : d 112 12 = nI 0) : Cn mX12_need false 3 0 0 [.ref 112, .int (bI (decide (k = 59)))] (W0 d L) (fun q h => q = none ∧ ((k = 59 ∧ ∃ d' L', h = W0 d' L' ∧ MF d d' ∧ ML L L' ∧ MT d' L' T n r) ∨ (¬ k = 59 ∧ h = W0 (up2 (up2 d 112 12 (nI 1)) 112 13 (nI s)) L))) := by
  obtain ⟨f1, f2, f3, f4, f5, f6⟩ := MT_f H
  refine Cn.intro gX12_need rfl (Nat.le_of_ble_eq_true rfl) rfl ?_
  repeat refine x_s rfl rfl ?_
  refine x_cv (k_isGood d L g12 (by decide)) rfl rfl rfl (by decide) rfl (by decide) rfl (Nat.le_of_ble_eq_true rfl) (by decide) (by decide) (by decide) ?_
  rintro _ _ ⟨rfl, rfl⟩
  refine x_br rfl rfl (fun c => ?_) (fun c => absurd c (fun z => absurd z (by decide)))
  repeat refine x_s rfl rfl ?_
  by_cases hk : k = 59
  · rw [decide_eq_true hk]
    refine x_br rfl rfl (fun c => absurd c (by decide)) (fun c => ?_)
    repeat refine x_s rfl rfl ?_
    refine x_cv (k_goes d L hn hT H (by omega)) rfl rfl rfl (by decide) rfl (by decide) rfl (Nat.le_of_ble_eq_true rfl) (by decide) (by decide) (by decide) ?_
    rintro _ _ ⟨rfl, d2, L2, rfl, F2, m2, M2⟩
    repeat refine x_s rfl rfl ?_
    exact x_vret rfl rfl ⟨rfl, Or.inl ⟨hk, d2, L2, rfl, F2, m2, M2⟩⟩
  · rw [decide_eq_false hk]
    refine x_br rfl rfl (fun c => ?_) (fun c => absurd c (fun z => z rfl))
    repeat refine x_s rfl rfl ?_
    refine x_cv (k_wrong d L g12 _) rfl rfl rfl (by decide) rfl (by decide) rfl (Nat.le_of_ble_eq_true rfl) (by decide) (by decide) (by decide) ?_
    rintro _ _ ⟨rfl, rfl⟩
    rw [f1]
    exact x_vret rfl rfl ⟨rfl, Or.inr ⟨hk, rfl⟩⟩
set_option maxRecDepth 100000 in
set_option maxHeartbeats 1600000 in
theorem k_needB {f : Nat} {x : Int32} (g12 : d 112 12 = nI f) (h1 : 1 ≤ f) (h5 : f ≤ 5) : Cn mX12_need false 3 0 0 [.ref 112, .int x] (W0 d L) (fun q h => q = none ∧ h = W0 d L) := by
  refine Cn.intro gX12_need rfl (Nat.le_of_ble_eq_true rfl) rfl ?_
  repeat refine x_s rfl rfl ?_
  refine x_cv (k_isGood d L g12 h5) rfl rfl rfl (by decide) rfl (by decide) rfl (Nat.le_of_ble_eq_true rfl) (by decide) (by decide) (by decide) ?_
  rintro _ _ ⟨rfl, rfl⟩
  rw [decide_eq_false (by omega)]
  refine x_br rfl rfl (fun c => absurd c (fun z => z rfl)) (fun c => ?_)
  exact x_vret rfl rfl ⟨rfl, rfl⟩
end
abbrev qNl (T : Nat → Nat) (n : Nat) (d : Nat → Nat → Int32) (L : Nat → Nat → Int64) (top : Nat) (len : Nat) (res : LR) : xPost := fun q h => q = none ∧ ∃ d' L', h = W0 d' L' ∧ NF d d' ∧ ML L L' ∧ ((∃ f, FM d' f ∧ res = .inl f) ∨ (∃ l' D' top', MT d' L' T n l' ∧ HDM d' D' top' ∧ d' 112 12 = nI 0 ∧ top' + 2 * l'.length ≤ 1402 ∧ l'.length ≤ len ∧ res = sgn l' D'))
theorem FM_of {d : Nat → Nat → Int32} {f s : Nat} (h1 : 1 ≤ f) (h5 : f ≤ 5) (hs : s ≤ 700) : FM (up2 (up2 d 112 12 (nI f)) 112 13 (nI s)) (f, s) := ⟨rfl, rfl, h1, h5, hs⟩
