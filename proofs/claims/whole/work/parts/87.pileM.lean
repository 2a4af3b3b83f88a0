/-! THE MODEL reads an EXPR: its pile of what waits -/
def sth (x : Int32) : Nat := if x = 5 then 1 else if x = 4 then 2 else if x = 3 then 3 else if x = 6 ∨ x = 7 then 4 else if x = 8 ∨ x = 9 then 5 else 6
theorem sth_opM (t : Int32) : sth (opM t) = str t := by
  unfold opM str
  by_cases h1 : t = -11
  · rw [if_pos h1, if_pos h1]; decide
  rw [if_neg h1, if_neg h1]
  by_cases h2 : t = -12
  · rw [if_pos h2, if_pos h2]; decide
  rw [if_neg h2, if_neg h2]
  by_cases h3 : t = -13
  · subst h3; decide
  rw [if_neg h3]
  by_cases h4 : t = -14
  · subst h4; decide
  rw [if_neg h4]
  by_cases h5 : t = -15
  · subst h5; decide
  rw [if_neg h5]
  by_cases h6 : t = -16
  · subst h6; decide
  rw [if_neg h6]
  by_cases h7 : t = -17
  · subst h7; decide
  rw [if_neg h7]
  by_cases h8 : t = -19
  · subst h8; decide
  rw [if_neg h8, if_neg h8, if_neg (fun z => z.elim h3 h4), if_neg (fun z => z.elim h5 h6)]
  decide
theorem opM_14 (t : Int32) : ¬ (14 : Int32) ≤ opM t := by
  unfold opM
  split
  · decide
  split
  · decide
  split
  · decide
  split
  · decide
  split
  · decide
  split
  · decide
  split
  · decide
  split <;> decide
/-- what waits, as it stands in the row; the last on top -/
def WA (d : Nat → Nat → Int32) (X : List Int32) : Prop := d 112 31 = nI X.length ∧ ∀ (i : Nat) (x : Int32), X.reverse[i]? = some x → d 126 i = x
def rdp (l : Nat) : List Int32 → List Int32 × List Int32
  | [] => ([], [])
  | x :: X => if (14 : Int32) ≤ x then ([], x :: X) else if l ≤ sth x then (x :: (rdp l X).1, (rdp l X).2) else ([], x :: X)
theorem WA_top {d : Nat → Nat → Int32} {x : Int32} {X : List Int32} (H : WA d (x :: X)) : d 126 X.length = x := by
  refine H.2 X.length x ?_
  rw [List.reverse_cons, List.getElem?_append_right (by rw [List.length_reverse]; exact Nat.le_refl _), List.length_reverse, Nat.sub_self]
  rfl
theorem WA_tl {d d' : Nat → Nat → Int32} {x : Int32} {X : List Int32} (H : WA d (x :: X)) (h1 : d' 112 31 = nI X.length) (h2 : d' 126 = d 126) : WA d' X := by
  refine ⟨h1, fun i y hi => ?_⟩
  rw [h2]
  refine H.2 i y ?_
  have hl : i < X.reverse.length := (List.getElem?_eq_some_iff.mp hi).1
  rw [List.reverse_cons, List.getElem?_append_left hl]
  exact hi
theorem WA_c {d d' : Nat → Nat → Int32} {X : List Int32} (H : WA d X) (h1 : d' 112 31 = d 112 31) (h2 : d' 126 = d 126) : WA d' X := by
  unfold WA at H ⊢
  rw [h1, h2]
  exact H
theorem WA_pu {d : Nat → Nat → Int32} {X : List Int32} (H : WA d X) (x : Int32) : WA (up2 (up2 d 126 X.length x) 112 31 (nI (X.length + 1))) (x :: X) := by
  refine ⟨rfl, fun i y hi => ?_⟩
  show (if i = X.length then x else d 126 i) = y
  rw [List.reverse_cons] at hi
  by_cases e : i = X.length
  · rw [if_pos e]
    rw [e, List.getElem?_append_right (by rw [List.length_reverse]; exact Nat.le_refl _), List.length_reverse, Nat.sub_self] at hi
    exact Option.some.inj hi
  · rw [if_neg e]
    have h2 := (List.getElem?_eq_some_iff.mp hi).1
    simp only [List.length_append, List.length_reverse, List.length_cons, List.length_nil] at h2
    rw [List.getElem?_append_left (by rw [List.length_reverse]; omega)] at hi
    exact H.2 i y hi
def DF (m : Nat) (d d' : Nat → Nat → Int32) : Prop := (∀ c, c ≠ 112 → c ≠ 125 → d' c = d c) ∧ (∀ k, k ≠ 28 → k ≠ 31 → d' 112 k = d 112 k) ∧ ∀ i, i < m → d' 125 i = d 125 i
section
variable (d : Nat → Nat → Int32) (L : Nat → Nat → Int64) {T : Nat → Nat} {n : Nat}
set_option maxRecDepth 100000 in
set_option maxHeartbeats 1600000 in
theorem k_puts {m : Nat} (hm : d 112 28 = nI m) (h : m < 1400) (x : Int32) : Cn mX12_puts false 1 0 0 [.ref 112, .int x] (W0 d L) (fun r h => r = none ∧ h = W0 (up2 (up2 d 125 m x) 112 28 (nI (m + 1))) L) := by
  refine Cn.intro gX12_puts rfl (Nat.le_of_ble_eq_true rfl) rfl ?_
  repeat refine x_s rfl rfl ?_
  refine x_iast rfl rfl (k := m) (hm) (by omega) (by decide) rfl ?_
  repeat refine x_s rfl rfl ?_
  refine x_put rfl rfl (by decide) rfl ⟨rfl, rfl⟩ (Or.inl rfl) ?_
  have e : d 112 28 + 1 = nI (m + 1) := by rw [hm, nI_1]
  rw [← e]
  exact x_vret rfl rfl ⟨rfl, rfl⟩
set_option maxRecDepth 100000 in
set_option maxHeartbeats 1600000 in
theorem k_waitsFor {m : Nat} (hm : d 112 31 = nI m) (h : m < 950) (x : Int32) : Cn mX12_waitsFor false 1 0 0 [.ref 112, .int x] (W0 d L) (fun r h => r = none ∧ h = W0 (up2 (up2 d 126 m x) 112 31 (nI (m + 1))) L) := by
  refine Cn.intro gX12_waitsFor rfl (Nat.le_of_ble_eq_true rfl) rfl ?_
  repeat refine x_s rfl rfl ?_
  refine x_iast rfl rfl (k := m) (hm) (by omega) (by decide) rfl ?_
  repeat refine x_s rfl rfl ?_
  refine x_put rfl rfl (by decide) rfl ⟨rfl, rfl⟩ (Or.inl rfl) ?_
  have e : d 112 31 + 1 = nI (m + 1) := by rw [hm, nI_1]
  rw [← e]
  exact x_vret rfl rfl ⟨rfl, rfl⟩
set_option maxRecDepth 100000 in
set_option maxHeartbeats 1600000 in
theorem k_isOpen (x : Int32) : Cn mX12_isOpen false 1 0 0 [.int x] (W0 d L) (qP d L (bI (decide ((14 : Int32) ≤ x)))) := by
  refine Cn.intro gX12_isOpen rfl (Nat.le_of_ble_eq_true rfl) rfl ?_
  repeat refine x_s rfl rfl ?_
  refine x_br rfl rfl (fun c1 => ?_) (fun c1 => ?_)
  · repeat refine x_s rfl rfl ?_
    refine x_iret rfl rfl rfl ⟨congrArg (fun z => some (Value.int z)) ?_, rfl⟩
    rw [decide_eq_false (Int32.not_le.mpr c1)]
    rfl
  · repeat refine x_s rfl rfl ?_
    refine x_iret rfl rfl rfl ⟨congrArg (fun z => some (Value.int z)) ?_, rfl⟩
    rw [decide_eq_true (Int32.not_lt.mp c1)]
    rfl
set_option maxRecDepth 100000 in
set_option maxHeartbeats 1600000 in
theorem k_strength (x : Int32) : Cn mX12_strength false 1 0 0 [.int x] (W0 d L) (qP d L (nI (sth x))) := by
  have fin : ∀ m, m = sth x → Ex mX12_strength false 1 0 0 61 [some (.int x)] [.int (nI m)] (W0 d L) (qP d L (nI (sth x))) nX := by
    intro m hm
    rw [hm]
    exact x_iret rfl rfl rfl ⟨rfl, rfl⟩
  unfold sth at fin ⊢
  refine Cn.intro gX12_strength rfl (Nat.le_of_ble_eq_true rfl) rfl ?_
  repeat refine x_s rfl rfl ?_
  refine x_br rfl rfl (fun c1 => ?_) (fun c1 => ?_)
  rotate_left
  · iterate 2 refine x_s rfl rfl ?_
    exact fin 1 (by rw [if_pos c1])
  rw [if_neg c1] at fin ⊢
  repeat refine x_s rfl rfl ?_
  refine x_br rfl rfl (fun c2 => ?_) (fun c2 => ?_)
  rotate_left
  · iterate 2 refine x_s rfl rfl ?_
    exact fin 2 (by rw [if_pos c2])
  rw [if_neg c2] at fin ⊢
  repeat refine x_s rfl rfl ?_
  refine x_br rfl rfl (fun c3 => ?_) (fun c3 => ?_)
  rotate_left
  · iterate 2 refine x_s rfl rfl ?_
    exact fin 3 (by rw [if_pos c3])
  rw [if_neg c3] at fin ⊢
  repeat refine x_s rfl rfl ?_
  refine x_br rfl rfl (fun c4 => ?_) (fun c4 => ?_)
  · iterate 2 refine x_s rfl rfl ?_
    exact fin 4 (by rw [if_pos (Or.inl c4)])
  repeat refine x_s rfl rfl ?_
  refine x_br rfl rfl (fun c5 => ?_) (fun c5 => ?_)
  rotate_left
  · iterate 2 refine x_s rfl rfl ?_
    exact fin 4 (by rw [if_pos (Or.inr c5)])
  rw [if_neg (fun z => z.elim c4 c5)] at fin ⊢
  repeat refine x_s rfl rfl ?_
  refine x_br rfl rfl (fun c6 => ?_) (fun c6 => ?_)
  · iterate 2 refine x_s rfl rfl ?_
    exact fin 5 (by rw [if_pos (Or.inl c6)])
  repeat refine x_s rfl rfl ?_
  refine x_br rfl rfl (fun c7 => ?_) (fun c7 => ?_)
  rotate_left
  · iterate 2 refine x_s rfl rfl ?_
    exact fin 5 (by rw [if_pos (Or.inr c7)])
  rw [if_neg (fun z => z.elim c6 c7)] at fin ⊢
  iterate 1 refine x_s rfl rfl ?_
  exact fin 6 rfl
theorem sth_le (x : Int32) : sth x ≤ 6 := by
  unfold sth
  split
  · decide
  split
  · decide
  split
  · decide
  split
  · decide
  split <;> decide
set_option maxRecDepth 100000 in
set_option maxHeartbeats 1600000 in
theorem k_drops {l : Nat} (hl : l ≤ 10) : ∀ (X : List Int32) (d : Nat → Nat → Int32) (m : Nat), WA d X → d 112 28 = nI m → m + X.length ≤ 1399 → X.length ≤ 949 → Cn mX12_drops false 2 0 0 [.ref 112, .int (nI l)] (W0 d L) (fun r h => r = none ∧ ∃ d', h = W0 d' L ∧ DF m d d' ∧ WA d' (rdp l X).2 ∧ d' 112 28 = nI (m + (rdp l X).1.length) ∧ ∀ (i : Nat) (x : Int32), (rdp l X).1[i]? = some x → d' 125 (m + i) = x) := by
  have lp : ∀ (X : List Int32) (d1 : Nat → Nat → Int32) (m : Nat), WA d1 X → d1 112 28 = nI m → m + X.length ≤ 1399 → X.length ≤ 949 → ∀ Q : xPost, (∀ d', DF m d1 d' → WA d' (rdp l X).2 → d' 112 28 = nI (m + (rdp l X).1.length) → (∀ (i : Nat) (x : Int32), (rdp l X).1[i]? = some x → d' 125 (m + i) = x) → Q none (W0 d' L)) → Ex mX12_drops false 2 0 0 0 [some (.ref 112), some (.int (nI l))] [] (W0 d1 L) Q nX := by
    intro X
    induction X with
    | nil =>
      intro d1 m hW hm h1 h2 Q K
      repeat refine x_s rfl rfl ?_
      rw [hW.1]
      refine x_br rfl rfl (fun c => ?_) (fun c => absurd c (fun z => z (by decide)))
      exact x_vret rfl rfl (K d1 ⟨fun _ _ _ => rfl, fun _ _ _ => rfl, fun _ _ => rfl⟩ hW hm (fun i x hi => by cases hi))
    | cons x X ih =>
      intro d1 m hW hm h1 h2 Q K
      simp only [List.length_cons] at h1 h2
      have h31 : d1 112 31 = nI (X.length + 1) := hW.1
      have ei : d1 112 31 - 1 = nI X.length := by
        rw [h31]
        exact nI_s (b := 1) (by omega) (by omega)
      have ex := WA_top hW
      have stay : (rdp l (x :: X)) = ([], x :: X) → Q none (W0 d1 L) := fun e => by
        refine K d1 ⟨fun _ _ _ => rfl, fun _ _ _ => rfl, fun _ _ => rfl⟩ ?_ ?_ ?_
        · rw [e]; exact hW
        · rw [e]; exact hm
        · rw [e]; intro i x hi; cases hi
      repeat refine x_s rfl rfl ?_
      refine x_br rfl rfl (fun c => absurd c (fun z => absurd z (by rw [h31, ile, nI_tI (by omega)]; have : (0 : Int32).toInt = 0 := rfl; omega))) (fun c => ?_)
      repeat refine x_s rfl rfl ?_
      refine x_ald rfl rfl rfl (k := X.length) (ei) (by omega) (by decide) rfl ?_
      rw [ex]
      refine x_cs (k_isOpen d1 L x) rfl rfl rfl (by decide) (Nat.le_of_ble_eq_true rfl) (by decide) (by decide) (by decide) ?_
      rintro _ _ ⟨rfl, rfl⟩
      by_cases ho : (14 : Int32) ≤ x
      · rw [decide_eq_true ho]
        refine x_br rfl rfl (fun c => ?_) (fun c => absurd c (fun z => absurd z (by decide)))
        exact x_vret rfl rfl (stay (by rw [rdp, if_pos ho]))
      rw [decide_eq_false ho]
      refine x_br rfl rfl (fun c => absurd c (fun z => z rfl)) (fun c => ?_)
      repeat refine x_s rfl rfl ?_
      refine x_ald rfl rfl rfl (k := X.length) (ei) (by omega) (by decide) rfl ?_
      rw [ex]
      refine x_cs (k_strength d1 L x) rfl rfl rfl (by decide) (Nat.le_of_ble_eq_true rfl) (by decide) (by decide) (by decide) ?_
      rintro _ _ ⟨rfl, rfl⟩
      repeat refine x_s rfl rfl ?_
      have sl := sth_le x
      by_cases hs : l ≤ sth x
      rotate_left
      · refine x_br rfl rfl (fun c => ?_) (fun c => absurd c (fun z => absurd (nI_lt (a := sth x) (b := l) (by omega) (by omega)) z))
        exact x_vret rfl rfl (stay (by rw [rdp, if_neg ho, if_neg hs]))
      refine x_br rfl rfl (fun c => absurd c (fun z => absurd z (Int32.not_lt.mpr (nI_le hs (by omega))))) (fun c => ?_)
      repeat refine x_s rfl rfl ?_
      refine x_put rfl rfl (by decide) rfl ⟨rfl, rfl⟩ (Or.inl rfl) ?_
      rw [ei]
      have t0 : WA (up2 d1 112 31 (nI X.length)) X := WA_tl hW up2_eq (up2_ne (by decide))
      have t1 : up2 d1 112 31 (nI X.length) 112 28 = nI m := hm
      have t2 : up2 d1 112 31 (nI X.length) 126 X.length = x := ex
      repeat refine x_s rfl rfl ?_
      refine x_ald rfl rfl rfl (k := X.length) (rfl) (by omega) (by decide) rfl ?_
      rw [t2]
      refine x_cv (k_puts (up2 d1 112 31 (nI X.length)) L t1 (by omega) x) rfl rfl rfl (by decide) rfl (by decide) rfl (Nat.le_of_ble_eq_true rfl) (by decide) (by decide) (by decide) ?_
      rintro _ _ ⟨rfl, rfl⟩
      iterate 1 refine x_s rfl rfl ?_
      have e : rdp l (x :: X) = (x :: (rdp l X).1, (rdp l X).2) := by rw [rdp, if_neg ho, if_pos hs]
      have w3 : WA (up2 (up2 (up2 d1 112 31 (nI X.length)) 125 m x) 112 28 (nI (m + 1))) X := WA_c t0 (by rw [up2_k (by decide), up2_ne (by decide)]) (by rw [up2_ne (by decide), up2_ne (by decide)])
      have g3 : up2 (up2 (up2 d1 112 31 (nI X.length)) 125 m x) 112 28 (nI (m + 1)) 112 28 = nI (m + 1) := up2_eq
      have c3 : ∀ c, c ≠ 112 → c ≠ 125 → up2 (up2 (up2 d1 112 31 (nI X.length)) 125 m x) 112 28 (nI (m + 1)) c = d1 c := fun c h1 h2 => by rw [up2_ne h1, up2_ne h2, up2_ne h1]
      have k3 : ∀ k, k ≠ 28 → k ≠ 31 → up2 (up2 (up2 d1 112 31 (nI X.length)) 125 m x) 112 28 (nI (m + 1)) 112 k = d1 112 k := fun k h1 h2 => by rw [up2_k h1, up2_ne (by decide), up2_k h2]
      have i3 : ∀ i, up2 (up2 (up2 d1 112 31 (nI X.length)) 125 m x) 112 28 (nI (m + 1)) 125 i = if i = m then x else d1 125 i := fun i => rfl
      generalize up2 (up2 (up2 d1 112 31 (nI X.length)) 125 m x) 112 28 (nI (m + 1)) = d3 at w3 g3 c3 k3 i3 ⊢
      refine ih d3 (m + 1) w3 g3 (by omega) (by omega) Q (fun d' a b c f => ?_)
      refine K d' ⟨fun c h1 h2 => ?_, fun k h1 h2 => ?_, fun i hi => ?_⟩ ?_ ?_ ?_
      · rw [a.1 c h1 h2, c3 c h1 h2]
      · rw [a.2.1 k h1 h2, k3 k h1 h2]
      · rw [a.2.2 i (by omega), i3, if_neg (by omega)]
      · rw [e]; exact b
      · rw [e, c]
        simp only [List.length_cons]
        rw [show m + 1 + (rdp l X).1.length = m + ((rdp l X).1.length + 1) by omega]
      · rw [e]
        intro i y hi
        cases i with
        | zero =>
          have hy : x = y := Option.some.inj hi
          rw [a.2.2 (m + 0) (by omega), i3, if_pos (by omega)]
          exact hy
        | succ i =>
          have := f i y hi
          rw [show m + (i + 1) = m + 1 + i by omega]
          exact this
  intro X d m hW hm h1 h2
  refine Cn.intro gX12_drops rfl (Nat.le_of_ble_eq_true rfl) rfl ?_
  exact lp X d m hW hm h1 h2 _ (fun d' a b c e => ⟨rfl, d', rfl, a, b, c, e⟩)
set_option maxRecDepth 100000 in
set_option maxHeartbeats 1600000 in
theorem k_isGood {f : Nat} (h : d 112 12 = nI f) (hf : f ≤ 5) : Cn mX12_isGood false 1 0 0 [.ref 112] (W0 d L) (qP d L (bI (decide (f = 0)))) := by
  refine Cn.intro gX12_isGood rfl (Nat.le_of_ble_eq_true rfl) rfl ?_
  repeat refine x_s rfl rfl ?_
  rw [h]
  by_cases h0 : f = 0
  · subst h0
    refine x_br rfl rfl (fun c => absurd c (fun z => z rfl)) (fun c => ?_)
    repeat refine x_s rfl rfl ?_
    exact x_iret rfl rfl rfl ⟨rfl, rfl⟩
  · refine x_br rfl rfl (fun c => ?_) (fun c => absurd c (fun z => absurd z (nI_ne0 (by omega) (by omega))))
    repeat refine x_s rfl rfl ?_
    refine x_iret rfl rfl rfl ⟨congrArg (fun z => some (Value.int z)) ?_, rfl⟩
    rw [decide_eq_false h0]
    rfl
set_option maxRecDepth 100000 in
set_option maxHeartbeats 1600000 in
theorem k_wrong (h : d 112 12 = 0) (x : Int32) : Cn mX12_wrong false 1 0 0 [.ref 112, .int x] (W0 d L) (fun r h => r = none ∧ h = W0 (up2 (up2 d 112 12 x) 112 13 (d 112 18)) L) := by
  refine Cn.intro gX12_wrong rfl (Nat.le_of_ble_eq_true rfl) rfl ?_
  repeat refine x_s rfl rfl ?_
  refine x_br rfl rfl (fun c => ?_) (fun c => absurd c (fun z => z h))
  repeat refine x_s rfl rfl ?_
  refine x_put rfl rfl (by decide) rfl ⟨rfl, rfl⟩ (Or.inl rfl) ?_
  repeat refine x_s rfl rfl ?_
  refine x_put rfl rfl (by decide) rfl ⟨rfl, rfl⟩ (Or.inl rfl) ?_
  exact x_vret rfl rfl ⟨rfl, rfl⟩
set_option maxRecDepth 100000 in
set_option maxHeartbeats 1600000 in
theorem k_isOpened {X : List Int32} (hW : WA d X) (hx : X.length ≤ 949) : Cn mX12_isOpened false 2 0 0 [.ref 112] (W0 d L) (qP d L (bI (X.any (fun x => decide ((14 : Int32) ≤ x))))) := by
  have lp : ∀ (Y : List Int32) (Z : List Int32), X = Z ++ Y → (Z.any (fun x => decide ((14 : Int32) ≤ x))) = false → Ex mX12_isOpened false 2 0 0 7 [some (.ref 112), some (.int (m1 Y.length))] [] (W0 d L) (qP d L (bI (X.any (fun x => decide ((14 : Int32) ≤ x))))) nX := by
    intro Y
    induction Y with
    | nil =>
      intro Z e hz
      have eX : (X.any (fun x => decide ((14 : Int32) ≤ x))) = false := by rw [e, List.append_nil]; exact hz
      rw [eX]
      repeat refine x_s rfl rfl ?_
      refine x_br rfl rfl (fun c => ?_) (fun c => absurd c (fun z => z (by decide)))
      repeat refine x_s rfl rfl ?_
      refine x_br rfl rfl (fun c => ?_) (fun c => absurd c (fun z => z (by decide)))
      repeat refine x_s rfl rfl ?_
      exact x_iret rfl rfl rfl ⟨rfl, rfl⟩
    | cons y Y ih =>
      intro Z e hz
      have hl : Z.length + (Y.length + 1) ≤ 949 := by
        have := congrArg List.length e
        simp only [List.length_append, List.length_cons] at this
        omega
      have em : m1 (y :: Y).length = nI Y.length := by
        unfold m1
        exact nI_s (a := (y :: Y).length) (b := 1) (by simp) (by simp only [List.length_cons]; omega)
      have ey : d 126 Y.length = y := by
        refine hW.2 Y.length y ?_
        rw [e, List.reverse_append, List.reverse_cons, List.append_assoc, List.getElem?_append_right (by rw [List.length_reverse]; exact Nat.le_refl _), List.length_reverse, Nat.sub_self]
        rfl
      rw [em]
      repeat refine x_s rfl rfl ?_
      refine x_br rfl rfl (fun c => absurd c (nI_pos (by omega))) (fun c => ?_)
      repeat refine x_s rfl rfl ?_
      refine x_ald rfl rfl rfl (k := Y.length) (rfl) (by omega) (by decide) rfl ?_
      rw [ey]
      refine x_cs (k_isOpen d L y) rfl rfl rfl (by decide) (Nat.le_of_ble_eq_true rfl) (by decide) (by decide) (by decide) ?_
      rintro _ _ ⟨rfl, rfl⟩
      by_cases ho : (14 : Int32) ≤ y
      · rw [decide_eq_true ho]
        refine x_br rfl rfl (fun c => ?_) (fun c => absurd c (fun z => absurd z (by decide)))
        repeat refine x_s rfl rfl ?_
        refine x_br rfl rfl (fun c => absurd c (nI_pos (by omega))) (fun c => ?_)
        repeat refine x_s rfl rfl ?_
        refine x_iret rfl rfl rfl ⟨congrArg (fun z => some (Value.int z)) ?_, rfl⟩
        rw [e, List.any_append, List.any_cons, decide_eq_true ho, Bool.true_or, Bool.or_true]
        rfl
      · rw [decide_eq_false ho]
        refine x_br rfl rfl (fun c => absurd c (fun z => z rfl)) (fun c => ?_)
        iterate 2 refine x_s rfl rfl ?_
        have ih' := ih (Z ++ [y]) (by rw [e, List.append_assoc]; rfl) (by rw [List.any_append, hz, List.any_cons, decide_eq_false ho]; rfl)
        rw [show nI Y.length + -1 = m1 Y.length from (Int32.sub_eq_add_neg _ _).symm]
        exact ih'
  refine Cn.intro gX12_isOpened rfl (Nat.le_of_ble_eq_true rfl) rfl ?_
  iterate 5 refine x_s rfl rfl ?_
  rw [hW.1]
  exact lp X [] rfl rfl
end
