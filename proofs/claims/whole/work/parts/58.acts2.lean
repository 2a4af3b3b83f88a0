/-! THE CALLS that act -/
def HAc (d : Nat → Nat → Int32) (b n : Nat) (E : Nat → Nat × Nat × Nat × Nat) : Prop := d b 0 = nI n ∧ ∀ j, j < n → d (b + 1) j = nI (E j).1 ∧ d (b + 2) j = nI (E j).2.1 ∧ d (b + 3) j = nI (E j).2.2.1 ∧ d (b + 4) j = nI (E j).2.2.2
def kN (n : Nat) : Nat := (if n = 40 then 39 else n) + 1
def kE (n : Nat) (E : Nat → Nat × Nat × Nat × Nat) (e : Nat × Nat × Nat × Nat) (j : Nat) : Nat × Nat × Nat × Nat := if j = (if n = 40 then 39 else n) then e else E (if n = 40 then j + 1 else j)
def tl (f : Nat → Nat → Nat) (h p g : Nat) : Nat → Nat → Nat := up2 (up2 (up2 (up2 f 10 (f 9 0) h) 11 (f 9 0) p) 12 (f 9 0) g) 9 0 (f 9 0 + 1)
def bk (f : Nat → Nat → Nat) : Nat → Nat → Nat := up2 f 9 0 (f 9 0 - 1)
def ru (f : Nat → Nat → Nat) (n v : Nat) : Nat → Nat → Nat := up2 f 8 n v
def ca (f : Nat → Nat → Nat) (n x y : Nat) : Nat → Nat → Nat := up2 (up2 f 5 n x) 6 n y
theorem HA_sm {S : List Nat} {d d' : Nat → Nat → Int32} {b n : Nat} {E : Nat → Nat × Nat × Nat × Nat} (H : HAc d b n E) (h : sm S d d') (hS : ∀ c, c ∈ [b, b + 1, b + 2, b + 3, b + 4] → c ∉ S) : HAc d' b n E := by
  unfold HAc
  rw [h b (hS _ (by simp)), h (b + 1) (hS _ (by simp)), h (b + 2) (hS _ (by simp)), h (b + 3) (hS _ (by simp)), h (b + 4) (hS _ (by simp))]
  exact H
section
variable {F : Fr}
theorem RG_tl (R : RG F) {h p g : Nat} (h0 : F.1 9 0 < 16) (h1 : h < 100) (h2 : p < F.1 0 0) (h3 : g ≤ 9) : RG (tl F.1 h p g, F.2) := by
  obtain ⟨r1, r2, r3, r4, r5, r6⟩ := R
  refine ⟨r1, r2, ?_, r4, r5, fun s hs => ?_⟩
  · show F.1 9 0 + 1 ≤ 16
    omega
  · have hs' : s < F.1 9 0 + 1 := hs
    show (if s = F.1 9 0 then h else F.1 10 s) < 100 ∧ (if s = F.1 9 0 then p else F.1 11 s) < F.1 0 0 ∧ (if s = F.1 9 0 then g else F.1 12 s) ≤ 9
    by_cases e : s = F.1 9 0
    · simp only [if_pos e]
      exact ⟨h1, h2, h3⟩
    · simp only [if_neg e]
      exact r6 s (by omega)
theorem RG_bk (R : RG F) : RG (bk F.1, F.2) := by
  obtain ⟨r1, r2, r3, r4, r5, r6⟩ := R
  refine ⟨r1, r2, ?_, r4, r5, fun s hs => ?_⟩
  · show F.1 9 0 - 1 ≤ 16
    omega
  · have hs' : s < F.1 9 0 - 1 := hs
    exact r6 s (by omega)
theorem RG_ru (R : RG F) {n v : Nat} (hv : v ≤ 9) : RG (ru F.1 n v, F.2) := by
  obtain ⟨r1, r2, r3, r4, r5, r6⟩ := R
  refine ⟨r1, r2, r3, r4, fun m hm => ?_, r6⟩
  have q := r5 m hm
  refine ⟨q.1, q.2.1, q.2.2.1, ?_⟩
  show (if m = n then v else F.1 8 m) ≤ 9
  split
  · exact hv
  · exact q.2.2.2
theorem RG_ca (R : RG F) {n x y : Nat} (hx : x ≤ 40) (hy : y ≤ 40) : RG (ca F.1 n x y, F.2) := by
  obtain ⟨r1, r2, r3, r4, r5, r6⟩ := R
  refine ⟨r1, r2, r3, r4, fun m hm => ?_, r6⟩
  have q := r5 m hm
  refine ⟨?_, ?_, q.2.2.1, q.2.2.2⟩
  · show (if m = n then x else F.1 5 m) ≤ 40
    split
    · exact hx
    · exact q.1
  · show (if m = n then y else F.1 6 m) ≤ 40
    split
    · exact hy
    · exact q.2.1
end
/-- what an act may change -/
def SA : List Nat := SR ++ [34, 35, 36, 37, 33, 30, 31, 81, 82, 83, 84, 85]
section
variable (d : Nat → Nat → Int32) (L : Nat → Nat → Int64) {F : Fr} {Z : Sn} {n : Nat} {E : Nat → Nat × Nat × Nat × Nat}
/-- the fair has become F', the acts have become n', E' -/
abbrev qA (d : Nat → Nat → Int32) (L : Nat → Nat → Int64) (F' : Fr) (n' : Nat) (E' : Nat → Nat × Nat × Nat × Nat) (h : xHp) : Prop := ∃ d', h = W0 d' L ∧ sm SA d d' ∧ HC d' F' ∧ HW d' F' ∧ HAc d' 81 n' E'
abbrev qF (d : Nat → Nat → Int32) (L : Nat → Nat → Int64) (k : Nat) (h : xHp) : Prop := h = W0 (up2 d 0 k (d 0 k + 1)) L
theorem keep_HA {d d' : Nat → Nat → Int32} {n : Nat} {E : Nat → Nat × Nat × Nat × Nat} (HA0 : HAc d 81 n E) {e : Nat × Nat × Nat × Nat} {x a b c : Int32} (kk : d' 81 0 = nI ((if n = 40 then 39 else n) + 1) ∧ (∀ j, j < (if n = 40 then 39 else n) → d' 82 j = d 82 (if n = 40 then j + 1 else j) ∧ d' 83 j = d 83 (if n = 40 then j + 1 else j) ∧ d' 84 j = d 84 (if n = 40 then j + 1 else j) ∧ d' 85 j = d 85 (if n = 40 then j + 1 else j)) ∧ d' 82 (if n = 40 then 39 else n) = x ∧ d' 83 (if n = 40 then 39 else n) = a ∧ d' 84 (if n = 40 then 39 else n) = b ∧ d' 85 (if n = 40 then 39 else n) = c) (h1 : x = nI e.1) (h2 : a = nI e.2.1) (h3 : b = nI e.2.2.1) (h4 : c = nI e.2.2.2) : HAc d' 81 (kN n) (kE n E e) := by
  obtain ⟨k1, k2, k3, k4, k5, k6⟩ := kk
  refine ⟨k1, fun j hj => ?_⟩
  unfold kE
  by_cases ej : j = (if n = 40 then 39 else n)
  · rw [if_pos ej, ej]
    exact ⟨k3.trans h1, k4.trans h2, k5.trans h3, k6.trans h4⟩
  · rw [if_neg ej]
    have hj2 : j < (if n = 40 then 39 else n) := by unfold kN at hj; omega
    obtain ⟨a1, a2, a3, a4⟩ := k2 j hj2
    have hj3 : (if n = 40 then j + 1 else j) < n := by
      split at hj2
      · rename_i z
        rw [if_pos z]
        omega
      · rename_i z
        rw [if_neg z]
        omega
    obtain ⟨b1, b2, b3, b4⟩ := HA0.2 _ hj3
    exact ⟨a1.trans b1, a2.trans b2, a3.trans b3, a4.trans b4⟩
def inT (x : Int32) (m : Nat) : Bool := inB x (m + 1)
set_option maxRecDepth 100000 in
set_option maxHeartbeats 8000000 in
theorem p_tell (H : HC d F) (R : RG F) (HA0 : HAc d 81 n E) (hn : n ≤ 40) (x y z : Int32) : Cx mX11_tell 20 6 36 [.ref 0, .int x, .int y, .int z] (W0 d L) (fun r h => inB y (F.1 0 0) = true ∧ (((decide (F.1 9 0 < 16) && (inB x 100 && inB z 10)) = true ∧ r = some (.int (nI (F.1 9 0))) ∧ qA d L (tl F.1 (iN x) (iN y) (iN z), F.2) (kN n) (kE n E (0, 0, 0, 0)) h) ∨ ((decide (F.1 9 0 < 16) && (inB x 100 && inB z 10)) = false ∧ r = some (.int (-1)) ∧ qF d L 16 h))) (qT 1 d L (inB y (F.1 0 0))) := by
  have r1 := R.1
  have r3 := R.2.2.1
  refine Cx.intro gX11_tell rfl (Nat.le_of_ble_eq_true rfl) rfl ?_
  repeat refine x_s rfl rfl ?_
  refine x_xv (c_needPerson d L H R y) rfl rfl rfl rfl (by decide) rfl (by decide) rfl (Nat.le_of_ble_eq_true rfl) (by decide) (by decide) (by decide) ?_ ?_
  rotate_left
  · exact fun _ _ z => z
  rintro _ _ ⟨rfl, rfl, hg⟩
  have no : (decide (F.1 9 0 < 16) && (inB x 100 && inB z 10)) = false → Ex mX11_tell false 20 5 30 44 [some (.ref 0), some (.int x), some (.int y), some (.int z), some (.ref 34)] [] (W0 d L) (fun r h => inB y (F.1 0 0) = true ∧ (((decide (F.1 9 0 < 16) && (inB x 100 && inB z 10)) = true ∧ r = some (.int (nI (F.1 9 0))) ∧ qA d L (tl F.1 (iN x) (iN y) (iN z), F.2) (kN n) (kE n E (0, 0, 0, 0)) h) ∨ ((decide (F.1 9 0 < 16) && (inB x 100 && inB z 10)) = false ∧ r = some (.int (-1)) ∧ qF d L 16 h))) (qT 1 d L (inB y (F.1 0 0))) := by
    intro hf
    repeat refine x_s rfl rfl ?_
    refine x_put rfl rfl (by decide) rfl ⟨rfl, rfl⟩ (Or.inl rfl) ?_
    repeat refine x_s rfl rfl ?_
    exact x_iret rfl rfl rfl ⟨hg, Or.inr ⟨hf, rfl, rfl⟩⟩
  repeat refine x_s rfl rfl ?_
  refine x_br rfl rfl (fun c1 => ?_) (fun c1 => ?_)
  · refine no (and_f1 (decide_eq_false (fun q => ?_)))
    have c1' : 16 ≤ d 34 0 := c1
    rw [H.2.2.1] at c1'
    exact absurd c1' (nI_ge (b := 16) q (by decide))
  have hc : F.1 9 0 < 16 := by
    rcases Nat.lt_or_ge (F.1 9 0) 16 with q | q
    · exact q
    · exfalso
      apply c1
      show (16 : Int32) ≤ d 34 0
      rw [H.2.2.1]
      exact nI_le (a := 16) q (by omega)
  repeat refine x_s rfl rfl ?_
  refine x_cs (c_isHour d L x) rfl rfl rfl (by decide) (Nat.le_of_ble_eq_true rfl) (by decide) (by decide) (by decide) ?_
  rintro _ _ ⟨rfl, rfl⟩
  refine x_br rfl rfl (fun c2 => ?_) (fun c2 => ?_)
  · exact no (and_f2 (and_f1 (bI_0.mp c2)))
  have hx := bI_n0.mp c2
  repeat refine x_s rfl rfl ?_
  refine x_br rfl rfl (fun c3 => ?_) (fun c3 => ?_)
  · exact no (and_f2 (and_f2 (inB_f1 c3)))
  repeat refine x_s rfl rfl ?_
  refine x_br rfl rfl (fun c4 => ?_) (fun c4 => ?_)
  rotate_left
  · refine no (and_f2 (and_f2 ?_))
    rw [ile, show (9 : Int32).toInt = 9 from rfl] at c4
    exact decide_eq_false (by omega)
  have hz : inB z 10 = true := by
    rw [ile, show (9 : Int32).toInt = 9 from rfl] at c4
    rw [lt0] at c3
    exact decide_eq_true (by omega)
  have G := and_t (decide_eq_true hc) (and_t hx hz)
  clear no c1 c2 c3 c4
  rw [hg, G]
  obtain ⟨x1, x2, x3⟩ := inB_iN hx
  obtain ⟨y1, y2, y3⟩ := inB_iN hg
  obtain ⟨z1, z2, z3⟩ := inB_iN hz
  generalize iN x = ho at x1 x2 x3 ⊢
  generalize iN y = p at y1 y2 y3 ⊢
  generalize iN z = g at z1 z2 z3 ⊢
  subst x2
  subst y2
  subst z2
  repeat refine x_s rfl rfl ?_
  refine x_cv (c_S_add d L (b := 34) (n := F.1 9 0) (Or.inr rfl) H.2.2.1 hc _ _ _) rfl rfl rfl (by decide) rfl (by decide) rfl (Nat.le_of_ble_eq_true rfl) (by decide) (by decide) (by decide) ?_
  rintro _ _ ⟨rfl, rfl⟩
  have HF : HC _ (tl F.1 ho p g, F.2) := HC_add H ho p g
  have RF := RG_tl R (h := ho) (p := p) (g := g) hc x1 y1 (by omega)
  have hs1 : sm [34, 35, 36, 37] d (up2 (up2 (up2 (up2 d 35 (F.1 9 0) (nI ho)) 36 (F.1 9 0) (nI p)) 37 (F.1 9 0) (nI g)) 34 0 (nI (F.1 9 0 + 1))) := sm_up (sm_up (sm_up (sm_up sm_rfl (by decide)) (by decide)) (by decide)) (by decide)
  generalize up2 (up2 (up2 (up2 d 35 (F.1 9 0) (nI ho)) 36 (F.1 9 0) (nI p)) 37 (F.1 9 0) (nI g)) 34 0 (nI (F.1 9 0 + 1)) = d1 at HF hs1 ⊢
  have HA1 := HA_sm HA0 hs1 (by decide)
  repeat refine x_s rfl rfl ?_
  refine x_cv (c_keep d1 L HA1.1 hn 0 0 0 0) rfl rfl rfl (by decide) rfl (by decide) rfl (Nat.le_of_ble_eq_true rfl) (by decide) (by decide) (by decide) ?_
  rintro _ _ ⟨rfl, d2, rfl, hs2, kk⟩
  have HA2 := keep_HA HA1 (e := (0, 0, 0, 0)) kk rfl rfl rfl rfl
  repeat refine x_s rfl rfl ?_
  refine x_cv (c_refresh d2 L (HC_sm HF hs2 (by decide)) RF) rfl rfl rfl (by decide) rfl (by decide) rfl (Nat.le_of_ble_eq_true rfl) (by decide) (by decide) (by decide) ?_
  rintro _ _ ⟨rfl, d3, rfl, hs3, hw⟩
  have HF3 := HC_sm (HC_sm HF hs2 (by decide)) hs3 (by decide)
  repeat refine x_s rfl rfl ?_
  refine x_iret rfl rfl rfl ⟨rfl, Or.inl ⟨rfl, ?_, d3, rfl, sm_go (sm_in hs1 (by decide)) (sm_go (sm_in hs2 (by decide)) (sm_in hs3 (by decide))), HF3, hw, HA_sm HA2 hs3 (by decide)⟩⟩
  have e : d3 34 0 = nI (F.1 9 0 + 1) := HF3.2.2.1
  rw [e, nI_pred]
set_option maxRecDepth 100000 in
set_option maxHeartbeats 8000000 in
theorem p_back (H : HC d F) (R : RG F) (HA0 : HAc d 81 n E) (hn : n ≤ 40) : Cn mX11_back false 12 0 0 [.ref 0] (W0 d L) (fun r h => (0 < F.1 9 0 ∧ r = some (.int (nI (F.1 9 0 - 1))) ∧ qA d L (bk F.1, F.2) (kN n) (kE n E (1, F.1 10 (F.1 9 0 - 1), F.1 11 (F.1 9 0 - 1), F.1 12 (F.1 9 0 - 1))) h) ∨ (F.1 9 0 = 0 ∧ r = some (.int (-1)) ∧ qF d L 16 h)) := by
  have r3 := R.2.2.1
  refine Cn.intro gX11_back rfl (Nat.le_of_ble_eq_true rfl) rfl ?_
  iterate 7 refine x_s rfl rfl ?_
  rw [H.2.2.1]
  repeat refine x_s rfl rfl ?_
  rcases Nat.eq_zero_or_pos (F.1 9 0) with h0 | h0
  · rw [h0]
    refine x_br rfl rfl (fun c => absurd c (by decide)) (fun c => ?_)
    repeat refine x_s rfl rfl ?_
    refine x_put rfl rfl (by decide) rfl ⟨rfl, rfl⟩ (Or.inl rfl) ?_
    repeat refine x_s rfl rfl ?_
    exact x_iret rfl rfl rfl (Or.inr ⟨rfl, rfl, rfl⟩)
  · obtain ⟨m, hm⟩ : ∃ m, F.1 9 0 = m + 1 := ⟨F.1 9 0 - 1, by omega⟩
    rw [hm]
    rw [nI_pred]
    refine x_br rfl rfl (fun c => ?_) (fun c => absurd c (fun z => z (nI_pos' (by omega))))
    have h5 := H.2.2.2.2.2.1 m (by omega)
    repeat refine x_s rfl rfl ?_
    refine x_ald rfl rfl rfl (k := m) (rfl) (by omega) (by decide) rfl ?_
    repeat refine x_s rfl rfl ?_
    refine x_ald rfl rfl rfl (k := m) (rfl) (by omega) (by decide) rfl ?_
    repeat refine x_s rfl rfl ?_
    refine x_ald rfl rfl rfl (k := m) (rfl) (by omega) (by decide) rfl ?_
    rw [h5.1, h5.2.1, h5.2.2]
    refine x_cv (c_keep d L HA0.1 hn _ _ _ _) rfl rfl rfl (by decide) rfl (by decide) rfl (Nat.le_of_ble_eq_true rfl) (by decide) (by decide) (by decide) ?_
    rintro _ _ ⟨rfl, d1, rfl, hs1, kk⟩
    have HA1 := keep_HA HA0 (e := (1, F.1 10 m, F.1 11 m, F.1 12 m)) kk rfl rfl rfl rfl
    have H1 := HC_sm H hs1 (by decide)
    repeat refine x_s rfl rfl ?_
    refine x_cv (c_S_drop d1 L (n := m) (by rw [H1.2.2.1, hm]) (by omega)) rfl rfl rfl (by decide) rfl (by decide) rfl (Nat.le_of_ble_eq_true rfl) (by decide) (by decide) (by decide) ?_
    rintro _ _ ⟨rfl, rfl⟩
    have HF : HC _ (bk F.1, F.2) := HC_drop H1
    rw [hm, Nat.add_sub_cancel] at HF
    have hs2 : sm [34] d1 (up2 d1 34 0 (nI m)) := sm_up sm_rfl (by decide)
    generalize up2 d1 34 0 (nI m) = d2 at HF hs2 ⊢
    repeat refine x_s rfl rfl ?_
    refine x_cv (c_refresh d2 L HF (RG_bk R)) rfl rfl rfl (by decide) rfl (by decide) rfl (Nat.le_of_ble_eq_true rfl) (by decide) (by decide) (by decide) ?_
    rintro _ _ ⟨rfl, d3, rfl, hs3, hw⟩
    repeat refine x_s rfl rfl ?_
    exact x_iret rfl rfl rfl (Or.inl ⟨by omega, rfl, d3, rfl, sm_go (sm_in hs1 (by decide)) (sm_go (sm_in hs2 (by decide)) (sm_in hs3 (by decide))), HC_sm HF hs3 (by decide), hw, HA_sm (HA_sm HA1 hs2 (by decide)) hs3 (by decide)⟩)
set_option maxRecDepth 100000 in
set_option maxHeartbeats 8000000 in
theorem p_rust (H : HC d F) (R : RG F) (HA0 : HAc d 81 n E) (hn : n ≤ 40) (x y : Int32) : Cx mX11_rust 20 6 36 [.ref 0, .int x, .int y] (W0 d L) (fun r h => inB x (F.1 4 0) = true ∧ ((inB y 10 = true ∧ r = some (.int (nI (F.1 8 (iN x)))) ∧ qA d L (ru F.1 (iN x) (iN y), F.2) (kN n) (kE n E (2, iN x, F.1 8 (iN x), 0)) h) ∨ (inB y 10 = false ∧ r = some (.int (-1)) ∧ qF d L 16 h))) (qT 1 d L (inB x (F.1 4 0))) := by
  have r2 := R.2.1
  refine Cx.intro gX11_rust rfl (Nat.le_of_ble_eq_true rfl) rfl ?_
  repeat refine x_s rfl rfl ?_
  refine x_xv (c_needNeedle d L H R x) rfl rfl rfl rfl (by decide) rfl (by decide) rfl (Nat.le_of_ble_eq_true rfl) (by decide) (by decide) (by decide) ?_ ?_
  rotate_left
  · exact fun _ _ z => z
  rintro _ _ ⟨rfl, rfl, hg⟩
  have no : inB y 10 = false → Ex mX11_rust false 20 5 30 15 [some (.ref 0), some (.int x), some (.int y), none, none] [] (W0 d L) (fun r h => inB x (F.1 4 0) = true ∧ ((inB y 10 = true ∧ r = some (.int (nI (F.1 8 (iN x)))) ∧ qA d L (ru F.1 (iN x) (iN y), F.2) (kN n) (kE n E (2, iN x, F.1 8 (iN x), 0)) h) ∨ (inB y 10 = false ∧ r = some (.int (-1)) ∧ qF d L 16 h))) (qT 1 d L (inB x (F.1 4 0))) := by
    intro hf
    repeat refine x_s rfl rfl ?_
    refine x_put rfl rfl (by decide) rfl ⟨rfl, rfl⟩ (Or.inl rfl) ?_
    repeat refine x_s rfl rfl ?_
    exact x_iret rfl rfl rfl ⟨hg, Or.inr ⟨hf, rfl, rfl⟩⟩
  repeat refine x_s rfl rfl ?_
  refine x_br rfl rfl (fun c3 => ?_) (fun c3 => ?_)
  · exact no (inB_f1 c3)
  repeat refine x_s rfl rfl ?_
  refine x_br rfl rfl (fun c4 => ?_) (fun c4 => ?_)
  rotate_left
  · refine no ?_
    rw [ile, show (9 : Int32).toInt = 9 from rfl] at c4
    exact decide_eq_false (by omega)
  have hz : inB y 10 = true := by
    rw [ile, show (9 : Int32).toInt = 9 from rfl] at c4
    rw [lt0] at c3
    exact decide_eq_true (by omega)
  clear no c3 c4
  rw [hg, hz]
  obtain ⟨x1, x2, x3⟩ := inB_iN hg
  obtain ⟨y1, y2, y3⟩ := inB_iN hz
  generalize iN x = a at x1 x2 x3 ⊢
  generalize iN y = v at y1 y2 y3 ⊢
  subst x2
  subst y2
  have h4 := H.2.2.2.2.1 a x1
  repeat refine x_s rfl rfl ?_
  refine x_ald rfl rfl rfl (k := a) (rfl) (by omega) (by decide) rfl ?_
  rw [h4.2.2.2]
  repeat refine x_s rfl rfl ?_
  refine x_cv (c_keep d L HA0.1 hn _ _ _ _) rfl rfl rfl (by decide) rfl (by decide) rfl (Nat.le_of_ble_eq_true rfl) (by decide) (by decide) (by decide) ?_
  rintro _ _ ⟨rfl, d1, rfl, hs1, kk⟩
  have HA1 := keep_HA HA0 (e := (2, a, F.1 8 a, 0)) kk rfl rfl rfl rfl
  have H1 := HC_sm H hs1 (by decide)
  repeat refine x_s rfl rfl ?_
  refine x_cv (c_N_setRust d1 L (n := F.1 4 0) (k := a) H1.2.1 x1 r2 _) rfl rfl rfl (by decide) rfl (by decide) rfl (Nat.le_of_ble_eq_true rfl) (by decide) (by decide) (by decide) ?_
  rintro _ _ ⟨rfl, rfl⟩
  have HF : HC _ (ru F.1 a v, F.2) := HC_rust H1 a v
  have hs2 : sm [33] d1 (up2 d1 33 a (nI v)) := sm_up sm_rfl (by decide)
  generalize up2 d1 33 a (nI v) = d2 at HF hs2 ⊢
  repeat refine x_s rfl rfl ?_
  refine x_cv (c_refresh d2 L HF (RG_ru R (by omega))) rfl rfl rfl (by decide) rfl (by decide) rfl (Nat.le_of_ble_eq_true rfl) (by decide) (by decide) (by decide) ?_
  rintro _ _ ⟨rfl, d3, rfl, hs3, hw⟩
  repeat refine x_s rfl rfl ?_
  exact x_iret rfl rfl rfl ⟨rfl, Or.inl ⟨rfl, rfl, d3, rfl, sm_go (sm_in hs1 (by decide)) (sm_go (sm_in hs2 (by decide)) (sm_in hs3 (by decide))), HC_sm HF hs3 (by decide), hw, HA_sm (HA_sm HA1 hs2 (by decide)) hs3 (by decide)⟩⟩
set_option maxRecDepth 100000 in
set_option maxHeartbeats 8000000 in
theorem p_carry (H : HC d F) (R : RG F) (HA0 : HAc d 81 n E) (hn : n ≤ 40) (x y z : Int32) : Cx mX11_carry 20 6 36 [.ref 0, .int x, .int y, .int z] (W0 d L) (fun r h => inB x (F.1 4 0) = true ∧ (((inB y 41 && inB z 41) = true ∧ r = some (.int (100 * nI (F.1 6 (iN x)) + nI (F.1 5 (iN x)))) ∧ qA d L (ca F.1 (iN x) (iN y) (iN z), F.2) (kN n) (kE n E (3, iN x, F.1 5 (iN x), F.1 6 (iN x))) h) ∨ ((inB y 41 && inB z 41) = false ∧ r = some (.int (-1)) ∧ qF d L 16 h))) (qT 1 d L (inB x (F.1 4 0))) := by
  have r2 := R.2.1
  refine Cx.intro gX11_carry rfl (Nat.le_of_ble_eq_true rfl) rfl ?_
  repeat refine x_s rfl rfl ?_
  refine x_xv (c_needNeedle d L H R x) rfl rfl rfl rfl (by decide) rfl (by decide) rfl (Nat.le_of_ble_eq_true rfl) (by decide) (by decide) (by decide) ?_ ?_
  rotate_left
  · exact fun _ _ z => z
  rintro _ _ ⟨rfl, rfl, hg⟩
  have no : (inB y 41 && inB z 41) = false → Ex mX11_carry false 20 5 30 25 [some (.ref 0), some (.int x), some (.int y), some (.int z), none, none, none] [] (W0 d L) (fun r h => inB x (F.1 4 0) = true ∧ (((inB y 41 && inB z 41) = true ∧ r = some (.int (100 * nI (F.1 6 (iN x)) + nI (F.1 5 (iN x)))) ∧ qA d L (ca F.1 (iN x) (iN y) (iN z), F.2) (kN n) (kE n E (3, iN x, F.1 5 (iN x), F.1 6 (iN x))) h) ∨ ((inB y 41 && inB z 41) = false ∧ r = some (.int (-1)) ∧ qF d L 16 h))) (qT 1 d L (inB x (F.1 4 0))) := by
    intro hf
    repeat refine x_s rfl rfl ?_
    refine x_put rfl rfl (by decide) rfl ⟨rfl, rfl⟩ (Or.inl rfl) ?_
    repeat refine x_s rfl rfl ?_
    exact x_iret rfl rfl rfl ⟨hg, Or.inr ⟨hf, rfl, rfl⟩⟩
  repeat refine x_s rfl rfl ?_
  refine x_br rfl rfl (fun c1 => ?_) (fun c1 => ?_)
  · exact no (and_f1 (inB_f1 c1))
  repeat refine x_s rfl rfl ?_
  refine x_br rfl rfl (fun c2 => ?_) (fun c2 => ?_)
  · refine no (and_f1 ?_)
    rw [ilt, show (40 : Int32).toInt = 40 from rfl] at c2
    exact decide_eq_false (by omega)
  repeat refine x_s rfl rfl ?_
  refine x_br rfl rfl (fun c3 => ?_) (fun c3 => ?_)
  · exact no (and_f2 (inB_f1 c3))
  repeat refine x_s rfl rfl ?_
  refine x_br rfl rfl (fun c4 => ?_) (fun c4 => ?_)
  rotate_left
  · refine no (and_f2 ?_)
    rw [ile, show (40 : Int32).toInt = 40 from rfl] at c4
    exact decide_eq_false (by omega)
  have hy : inB y 41 = true := by
    rw [ilt, show (40 : Int32).toInt = 40 from rfl] at c2
    rw [lt0] at c1
    exact decide_eq_true (by omega)
  have hz : inB z 41 = true := by
    rw [ile, show (40 : Int32).toInt = 40 from rfl] at c4
    rw [lt0] at c3
    exact decide_eq_true (by omega)
  clear no c1 c2 c3 c4
  rw [hg, and_t hy hz]
  obtain ⟨x1, x2, x3⟩ := inB_iN hg
  obtain ⟨y1, y2, y3⟩ := inB_iN hy
  obtain ⟨z1, z2, z3⟩ := inB_iN hz
  generalize iN x = a at x1 x2 x3 ⊢
  generalize iN y = v at y1 y2 y3 ⊢
  generalize iN z = w at z1 z2 z3 ⊢
  subst x2
  subst y2
  subst z2
  have h4 := H.2.2.2.2.1 a x1
  repeat refine x_s rfl rfl ?_
  refine x_ald rfl rfl rfl (k := a) (rfl) (by omega) (by decide) rfl ?_
  rw [h4.1]
  repeat refine x_s rfl rfl ?_
  refine x_ald rfl rfl rfl (k := a) (rfl) (by omega) (by decide) rfl ?_
  rw [h4.2.1]
  repeat refine x_s rfl rfl ?_
  refine x_cv (c_keep d L HA0.1 hn _ _ _ _) rfl rfl rfl (by decide) rfl (by decide) rfl (Nat.le_of_ble_eq_true rfl) (by decide) (by decide) (by decide) ?_
  rintro _ _ ⟨rfl, d1, rfl, hs1, kk⟩
  have HA1 := keep_HA HA0 (e := (3, a, F.1 5 a, F.1 6 a)) kk rfl rfl rfl rfl
  have H1 := HC_sm H hs1 (by decide)
  repeat refine x_s rfl rfl ?_
  refine x_cv (c_N_setPlace d1 L (n := F.1 4 0) (k := a) H1.2.1 x1 r2 _ _) rfl rfl rfl (by decide) rfl (by decide) rfl (Nat.le_of_ble_eq_true rfl) (by decide) (by decide) (by decide) ?_
  rintro _ _ ⟨rfl, rfl⟩
  have HF : HC _ (ca F.1 a v w, F.2) := HC_place H1 a v w
  have hs2 : sm [30, 31] d1 (up2 (up2 d1 30 a (nI v)) 31 a (nI w)) := sm_up (sm_up sm_rfl (by decide)) (by decide)
  generalize up2 (up2 d1 30 a (nI v)) 31 a (nI w) = d2 at HF hs2 ⊢
  repeat refine x_s rfl rfl ?_
  refine x_cv (c_refresh d2 L HF (RG_ca R (by omega) (by omega))) rfl rfl rfl (by decide) rfl (by decide) rfl (Nat.le_of_ble_eq_true rfl) (by decide) (by decide) (by decide) ?_
  rintro _ _ ⟨rfl, d3, rfl, hs3, hw⟩
  repeat refine x_s rfl rfl ?_
  refine x_cs (c_placeNumber d3 L _ _) rfl rfl rfl (by decide) (Nat.le_of_ble_eq_true rfl) (by decide) (by decide) (by decide) ?_
  rintro _ _ ⟨rfl, rfl⟩
  exact x_iret rfl rfl rfl ⟨rfl, Or.inl ⟨rfl, rfl, d3, rfl, sm_go (sm_in hs1 (by decide)) (sm_go (sm_in hs2 (by decide)) (sm_in hs3 (by decide))), HC_sm HF hs3 (by decide), hw, HA_sm (HA_sm HA1 hs2 (by decide)) hs3 (by decide)⟩⟩
end
