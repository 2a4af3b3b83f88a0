/-! THE CALLS (component) -/
def SX : List Nat := [40, 43, 67, 69, 70, 71, 72, 73, 74, 75, 76, 78, 79, 80, 108, 109, 110]
def sL (L L' : Nat → Nat → Int64) : Prop := ∀ c, c ≠ 111 → L' c = L c
theorem sL_rfl {L : Nat → Nat → Int64} : sL L L := fun _ _ => rfl
def iN (x : Int32) : Nat := x.toInt.toNat
theorem iN_nI {n : Nat} (h : n < 2147483648) : iN (nI n) = n := by
  unfold iN
  rw [nI_toI h]
  simp
/-- where g holds, v is returned, and only what is laid by the way has changed -/
abbrev qG (d : Nat → Nat → Int32) (L : Nat → Nat → Int64) (g : Bool) (v : Int32) : xPost := fun r h => g = true ∧ r = some (.int v) ∧ ∃ d' L', h = W0 d' L' ∧ sm SX d d' ∧ sL L L'
theorem inB_iN {x : Int32} {n : Nat} (h : inB x n = true) : iN x < n ∧ x = nI (iN x) ∧ iN x < 2147483648 := by
  obtain ⟨k, h1, h2, rfl⟩ := inB_of h
  rw [iN_nI h2]
  exact ⟨h1, rfl, h2⟩
theorem and_f1 {a b : Bool} (h : a = false) : (a && b) = false := by rw [h]; rfl
theorem and_f2 {a b : Bool} (h : b = false) : (a && b) = false := by rw [h, Bool.and_false]
theorem and_t {a b : Bool} (h : a = true) (h' : b = true) : (a && b) = true := by rw [h, h']; rfl
theorem fF_t {f : Nat → Bool} {k n : Nat} (hk : k < n) (h : f k = true) : fF f k (n - k) = nI k := by
  rw [show n - k = (n - (k + 1)) + 1 by omega, fF, if_pos h]
theorem fF_f {f : Nat → Bool} {k n : Nat} (hk : k < n) (h : f k = false) : fF f k (n - k) = fF f (k + 1) (n - (k + 1)) := by
  rw [show n - k = (n - (k + 1)) + 1 by omega, fF, if_neg (by rw [h]; decide)]
section
variable (d : Nat → Nat → Int32) (L : Nat → Nat → Int64) {F : Fr} {Z : Sn}
def aCount (d : Nat → Nat → Int32) (F : Fr) (w : Nat) : Int32 := if w = 0 then nI (F.1 0 0) else if w = 1 then nI (F.1 4 0) else if w = 2 then nI (F.1 9 0) else if w = 3 then nI (cF (fun s => decide (0 < F.1 12 s)) (F.1 9 0)) else if w = 4 then d 81 0 else if w = 5 then d 86 0 else if w = 6 then d 1 1 else if w = 7 then d 0 15 else if w = 8 then d 0 16 else if w = 9 then d 0 17 else if w = 10 then ltF F (F.1 9 0) else nI (mx (fun s => mh F (F.1 10 s)) (F.1 9 0))
set_option maxRecDepth 100000 in
set_option maxHeartbeats 8000000 in
theorem p_count (H : HC d F) (R : RG F) (K : HW d F) (x : Int32) : Cx mX11_count 20 6 36 [.ref 0, .int x] (W0 d L) (qG d L (inB x 12) (aCount d F (iN x))) (qT 1 d L (inB x 12)) := by
  have r1 := R.1
  have r2 := R.2.1
  have r3 := R.2.2.1
  refine Cx.intro gX11_count rfl (Nat.le_of_ble_eq_true rfl) rfl ?_
  repeat refine x_s rfl rfl ?_
  refine x_xs (c_needWhat d L x (m := 11) (by decide)) rfl rfl rfl rfl (by decide) (Nat.le_of_ble_eq_true rfl) (by decide) (by decide) (by decide) ?_ ?_
  rotate_left
  · exact fun _ _ z => z
  rintro _ _ ⟨rfl, rfl, hg⟩
  obtain ⟨q1, q2, q3⟩ := inB_iN hg
  rw [hg]
  generalize iN x = w at q1 q2 q3 ⊢
  subst q2
  repeat refine x_s rfl rfl ?_
  rcases (by omega : w = 0 ∨ w = 1 ∨ w = 2 ∨ w = 3 ∨ w = 4 ∨ w = 5 ∨ w = 6 ∨ w = 7 ∨ w = 8 ∨ w = 9 ∨ w = 10 ∨ w = 11) with rfl | rfl | rfl | rfl | rfl | rfl | rfl | rfl | rfl | rfl | rfl | rfl
  · refine x_tsw (i := .iadd) (tgt := 72) rfl (Or.inl ⟨by decide, _, rfl, rfl⟩) ?_
    repeat refine x_s rfl rfl ?_
    exact x_iret rfl rfl rfl ⟨rfl, congrArg (fun z => some (Value.int z)) (H.1), d, L, rfl, sm_rfl, sL_rfl⟩
  · refine x_tsw (i := .iadd) (tgt := 80) rfl (Or.inl ⟨by decide, _, rfl, rfl⟩) ?_
    repeat refine x_s rfl rfl ?_
    exact x_iret rfl rfl rfl ⟨rfl, congrArg (fun z => some (Value.int z)) (H.2.1), d, L, rfl, sm_rfl, sL_rfl⟩
  · refine x_tsw (i := .iadd) (tgt := 88) rfl (Or.inl ⟨by decide, _, rfl, rfl⟩) ?_
    repeat refine x_s rfl rfl ?_
    exact x_iret rfl rfl rfl ⟨rfl, congrArg (fun z => some (Value.int z)) (H.2.2.1), d, L, rfl, sm_rfl, sL_rfl⟩
  · refine x_tsw (i := .iadd) (tgt := 96) rfl (Or.inl ⟨by decide, _, rfl, rfl⟩) ?_
    repeat refine x_s rfl rfl ?_
    refine x_cv (c_lies d L H R) rfl rfl rfl (by decide) rfl (by decide) rfl (Nat.le_of_ble_eq_true rfl) (by decide) (by decide) (by decide) ?_
    rintro _ _ ⟨rfl, rfl⟩
    exact x_iret rfl rfl rfl ⟨rfl, rfl, d, L, rfl, sm_rfl, sL_rfl⟩
  · refine x_tsw (i := .iadd) (tgt := 104) rfl (Or.inl ⟨by decide, _, rfl, rfl⟩) ?_
    repeat refine x_s rfl rfl ?_
    exact x_iret rfl rfl rfl ⟨rfl, rfl, d, L, rfl, sm_rfl, sL_rfl⟩
  · refine x_tsw (i := .iadd) (tgt := 112) rfl (Or.inl ⟨by decide, _, rfl, rfl⟩) ?_
    repeat refine x_s rfl rfl ?_
    exact x_iret rfl rfl rfl ⟨rfl, rfl, d, L, rfl, sm_rfl, sL_rfl⟩
  · refine x_tsw (i := .iadd) (tgt := 120) rfl (Or.inl ⟨by decide, _, rfl, rfl⟩) ?_
    repeat refine x_s rfl rfl ?_
    exact x_iret rfl rfl rfl ⟨rfl, rfl, d, L, rfl, sm_rfl, sL_rfl⟩
  · refine x_tsw (i := .iadd) (tgt := 128) rfl (Or.inl ⟨by decide, _, rfl, rfl⟩) ?_
    repeat refine x_s rfl rfl ?_
    exact x_iret rfl rfl rfl ⟨rfl, rfl, d, L, rfl, sm_rfl, sL_rfl⟩
  · refine x_tsw (i := .iadd) (tgt := 133) rfl (Or.inl ⟨by decide, _, rfl, rfl⟩) ?_
    repeat refine x_s rfl rfl ?_
    exact x_iret rfl rfl rfl ⟨rfl, rfl, d, L, rfl, sm_rfl, sL_rfl⟩
  · refine x_tsw (i := .iadd) (tgt := 138) rfl (Or.inl ⟨by decide, _, rfl, rfl⟩) ?_
    repeat refine x_s rfl rfl ?_
    exact x_iret rfl rfl rfl ⟨rfl, rfl, d, L, rfl, sm_rfl, sL_rfl⟩
  · refine x_tsw (i := .iadd) (tgt := 143) rfl (Or.inl ⟨by decide, _, rfl, rfl⟩) ?_
    repeat refine x_s rfl rfl ?_
    refine x_cv (c_latest d L H R) rfl rfl rfl (by decide) rfl (by decide) rfl (Nat.le_of_ble_eq_true rfl) (by decide) (by decide) (by decide) ?_
    rintro _ _ ⟨rfl, rfl⟩
    exact x_iret rfl rfl rfl ⟨rfl, rfl, d, L, rfl, sm_rfl, sL_rfl⟩
  · refine x_tsw (i := .iadd) (tgt := 151) rfl (Or.inr ⟨by decide, by decide⟩) ?_
    repeat refine x_s rfl rfl ?_
    refine x_cv (c_mostLies d L H R) rfl rfl rfl (by decide) rfl (by decide) rfl (Nat.le_of_ble_eq_true rfl) (by decide) (by decide) (by decide) ?_
    rintro _ _ ⟨rfl, rfl⟩
    exact x_iret rfl rfl rfl ⟨rfl, rfl, d, L, rfl, sm_rfl, sL_rfl⟩
def aOne (F : Fr) (p w : Nat) : Int32 := if w = 0 then nI (F.1 1 p) else if w = 1 then nI (F.1 2 p) else if w = 2 then nI (F.1 3 p) else if w = 3 then bF (fun s => decide (F.1 11 s = p)) (F.1 9 0) else bF (fun n => decide (far F n p ≤ F.1 7 n)) (F.1 4 0)
set_option maxRecDepth 100000 in
set_option maxHeartbeats 8000000 in
theorem p_one (H : HC d F) (R : RG F) (K : HW d F) (x y : Int32) : Cx mX11_one 20 6 36 [.ref 0, .int x, .int y] (W0 d L) (qG d L (inB x (F.1 0 0) && inB y 5) (aOne F (iN x) (iN y))) (qT 1 d L (inB x (F.1 0 0) && inB y 5)) := by
  have r1 := R.1
  have r2 := R.2.1
  have r3 := R.2.2.1
  refine Cx.intro gX11_one rfl (Nat.le_of_ble_eq_true rfl) rfl ?_
  repeat refine x_s rfl rfl ?_
  refine x_xv (c_needPerson d L H R x) rfl rfl rfl rfl (by decide) rfl (by decide) rfl (Nat.le_of_ble_eq_true rfl) (by decide) (by decide) (by decide) ?_ ?_
  rotate_left
  · rintro _ _ ⟨rfl, rfl, hg⟩
    exact ⟨rfl, rfl, and_f1 hg⟩
  rintro _ _ ⟨rfl, rfl, hg⟩
  repeat refine x_s rfl rfl ?_
  refine x_xs (c_needWhat d L y (m := 4) (by decide)) rfl rfl rfl rfl (by decide) (Nat.le_of_ble_eq_true rfl) (by decide) (by decide) (by decide) ?_ ?_
  rotate_left
  · rintro _ _ ⟨rfl, rfl, hg2⟩
    exact ⟨rfl, rfl, and_f2 hg2⟩
  rintro _ _ ⟨rfl, rfl, hg2⟩
  rw [and_t hg hg2]
  obtain ⟨q1, q2, q3⟩ := inB_iN hg
  generalize iN x = n at q1 q2 q3 ⊢
  subst q2
  obtain ⟨s1, s2, s3⟩ := inB_iN hg2
  generalize iN y = w at s1 s2 s3 ⊢
  subst s2
  repeat refine x_s rfl rfl ?_
  have h3 := H.2.2.2.1 n q1
  rcases (by omega : w = 0 ∨ w = 1 ∨ w = 2 ∨ w = 3 ∨ w = 4) with rfl | rfl | rfl | rfl | rfl
  · refine x_tsw (i := .iadd) (tgt := 52) rfl (Or.inl ⟨by decide, _, rfl, rfl⟩) ?_
    repeat refine x_s rfl rfl ?_
    refine x_ald rfl rfl rfl (k := n) (rfl) (by omega) (by decide) rfl ?_
    exact x_iret rfl rfl rfl ⟨rfl, congrArg (fun z => some (Value.int z)) (h3.1), d, L, rfl, sm_rfl, sL_rfl⟩
  · refine x_tsw (i := .iadd) (tgt := 59) rfl (Or.inl ⟨by decide, _, rfl, rfl⟩) ?_
    repeat refine x_s rfl rfl ?_
    refine x_ald rfl rfl rfl (k := n) (rfl) (by omega) (by decide) rfl ?_
    exact x_iret rfl rfl rfl ⟨rfl, congrArg (fun z => some (Value.int z)) (h3.2.1), d, L, rfl, sm_rfl, sL_rfl⟩
  · refine x_tsw (i := .iadd) (tgt := 66) rfl (Or.inl ⟨by decide, _, rfl, rfl⟩) ?_
    repeat refine x_s rfl rfl ?_
    refine x_ald rfl rfl rfl (k := n) (rfl) (by omega) (by decide) rfl ?_
    exact x_iret rfl rfl rfl ⟨rfl, congrArg (fun z => some (Value.int z)) (h3.2.2), d, L, rfl, sm_rfl, sL_rfl⟩
  · refine x_tsw (i := .iadd) (tgt := 73) rfl (Or.inl ⟨by decide, _, rfl, rfl⟩) ?_
    repeat refine x_s rfl rfl ?_
    refine x_cv (c_saidBy d L H R q1) rfl rfl rfl (by decide) rfl (by decide) rfl (Nat.le_of_ble_eq_true rfl) (by decide) (by decide) (by decide) ?_
    rintro _ _ ⟨rfl, rfl⟩
    exact x_iret rfl rfl rfl ⟨rfl, rfl, d, L, rfl, sm_rfl, sL_rfl⟩
  · refine x_tsw (i := .iadd) (tgt := 88) rfl (Or.inr ⟨by decide, by decide⟩) ?_
    repeat refine x_s rfl rfl ?_
    refine x_cv (c_inReach d L H R q1) rfl rfl rfl (by decide) rfl (by decide) rfl (Nat.le_of_ble_eq_true rfl) (by decide) (by decide) (by decide) ?_
    rintro _ _ ⟨rfl, rfl⟩
    exact x_iret rfl rfl rfl ⟨rfl, rfl, d, L, rfl, sm_rfl, sL_rfl⟩
def aNeedle (F : Fr) (n w : Nat) : Int32 := if w = 0 then nI (F.1 5 n) else if w = 1 then nI (F.1 6 n) else if w = 2 then nI (F.1 7 n) else if w = 3 then nI (F.1 8 n) else if w = 4 then bF (hr F n) (F.1 9 0) else if w = 5 then nI (cF (fun j => decide (sh F n (j + 1) ≠ sh F n j)) 99) else wo F n (F.1 9 0)
set_option maxRecDepth 100000 in
set_option maxHeartbeats 8000000 in
theorem p_needle (H : HC d F) (R : RG F) (K : HW d F) (x y : Int32) : Cx mX11_needle 20 6 36 [.ref 0, .int x, .int y] (W0 d L) (qG d L (inB x (F.1 4 0) && inB y 7) (aNeedle F (iN x) (iN y))) (qT 1 d L (inB x (F.1 4 0) && inB y 7)) := by
  have r1 := R.1
  have r2 := R.2.1
  have r3 := R.2.2.1
  refine Cx.intro gX11_needle rfl (Nat.le_of_ble_eq_true rfl) rfl ?_
  repeat refine x_s rfl rfl ?_
  refine x_xv (c_needNeedle d L H R x) rfl rfl rfl rfl (by decide) rfl (by decide) rfl (Nat.le_of_ble_eq_true rfl) (by decide) (by decide) (by decide) ?_ ?_
  rotate_left
  · rintro _ _ ⟨rfl, rfl, hg⟩
    exact ⟨rfl, rfl, and_f1 hg⟩
  rintro _ _ ⟨rfl, rfl, hg⟩
  repeat refine x_s rfl rfl ?_
  refine x_xs (c_needWhat d L y (m := 6) (by decide)) rfl rfl rfl rfl (by decide) (Nat.le_of_ble_eq_true rfl) (by decide) (by decide) (by decide) ?_ ?_
  rotate_left
  · rintro _ _ ⟨rfl, rfl, hg2⟩
    exact ⟨rfl, rfl, and_f2 hg2⟩
  rintro _ _ ⟨rfl, rfl, hg2⟩
  rw [and_t hg hg2]
  obtain ⟨q1, q2, q3⟩ := inB_iN hg
  generalize iN x = n at q1 q2 q3 ⊢
  subst q2
  obtain ⟨s1, s2, s3⟩ := inB_iN hg2
  generalize iN y = w at s1 s2 s3 ⊢
  subst s2
  repeat refine x_s rfl rfl ?_
  have h4 := H.2.2.2.2.1 n q1
  rcases (by omega : w = 0 ∨ w = 1 ∨ w = 2 ∨ w = 3 ∨ w = 4 ∨ w = 5 ∨ w = 6) with rfl | rfl | rfl | rfl | rfl | rfl | rfl
  · refine x_tsw (i := .iadd) (tgt := 60) rfl (Or.inl ⟨by decide, _, rfl, rfl⟩) ?_
    repeat refine x_s rfl rfl ?_
    refine x_ald rfl rfl rfl (k := n) (rfl) (by omega) (by decide) rfl ?_
    exact x_iret rfl rfl rfl ⟨rfl, congrArg (fun z => some (Value.int z)) (h4.1), d, L, rfl, sm_rfl, sL_rfl⟩
  · refine x_tsw (i := .iadd) (tgt := 67) rfl (Or.inl ⟨by decide, _, rfl, rfl⟩) ?_
    repeat refine x_s rfl rfl ?_
    refine x_ald rfl rfl rfl (k := n) (rfl) (by omega) (by decide) rfl ?_
    exact x_iret rfl rfl rfl ⟨rfl, congrArg (fun z => some (Value.int z)) (h4.2.1), d, L, rfl, sm_rfl, sL_rfl⟩
  · refine x_tsw (i := .iadd) (tgt := 74) rfl (Or.inl ⟨by decide, _, rfl, rfl⟩) ?_
    repeat refine x_s rfl rfl ?_
    refine x_ald rfl rfl rfl (k := n) (rfl) (by omega) (by decide) rfl ?_
    exact x_iret rfl rfl rfl ⟨rfl, congrArg (fun z => some (Value.int z)) (h4.2.2.1), d, L, rfl, sm_rfl, sL_rfl⟩
  · refine x_tsw (i := .iadd) (tgt := 81) rfl (Or.inl ⟨by decide, _, rfl, rfl⟩) ?_
    repeat refine x_s rfl rfl ?_
    refine x_ald rfl rfl rfl (k := n) (rfl) (by omega) (by decide) rfl ?_
    exact x_iret rfl rfl rfl ⟨rfl, congrArg (fun z => some (Value.int z)) (h4.2.2.2), d, L, rfl, sm_rfl, sL_rfl⟩
  · refine x_tsw (i := .iadd) (tgt := 88) rfl (Or.inl ⟨by decide, _, rfl, rfl⟩) ?_
    repeat refine x_s rfl rfl ?_
    refine x_ald rfl rfl rfl (k := n) (rfl) (by omega) (by decide) rfl ?_
    exact x_iret rfl rfl rfl ⟨rfl, congrArg (fun z => some (Value.int z)) ((K.1 n q1).1), d, L, rfl, sm_rfl, sL_rfl⟩
  · refine x_tsw (i := .iadd) (tgt := 98) rfl (Or.inl ⟨by decide, _, rfl, rfl⟩) ?_
    repeat refine x_s rfl rfl ?_
    refine x_cv (c_quivers d L R K q1) rfl rfl rfl (by decide) rfl (by decide) rfl (Nat.le_of_ble_eq_true rfl) (by decide) (by decide) (by decide) ?_
    rintro _ _ ⟨rfl, rfl⟩
    exact x_iret rfl rfl rfl ⟨rfl, rfl, d, L, rfl, sm_rfl, sL_rfl⟩
  · refine x_tsw (i := .iadd) (tgt := 107) rfl (Or.inr ⟨by decide, by decide⟩) ?_
    repeat refine x_s rfl rfl ?_
    refine x_cv (c_worth d L H R K q1) rfl rfl rfl (by decide) rfl (by decide) rfl (Nat.le_of_ble_eq_true rfl) (by decide) (by decide) (by decide) ?_
    rintro _ _ ⟨rfl, rfl⟩
    exact x_iret rfl rfl rfl ⟨rfl, rfl, d, L, rfl, sm_rfl, sL_rfl⟩
def aSaying (F : Fr) (s w : Nat) : Int32 := if w = 0 then nI (F.1 10 s) else if w = 1 then nI (F.1 11 s) else if w = 2 then nI (F.1 12 s) else bF (fun n => hr F n s) (F.1 4 0)
set_option maxRecDepth 100000 in
set_option maxHeartbeats 8000000 in
theorem p_saying (H : HC d F) (R : RG F) (K : HW d F) (x y : Int32) : Cx mX11_saying 20 6 36 [.ref 0, .int x, .int y] (W0 d L) (qG d L (inB x (F.1 9 0) && inB y 4) (aSaying F (iN x) (iN y))) (qT 1 d L (inB x (F.1 9 0) && inB y 4)) := by
  have r1 := R.1
  have r2 := R.2.1
  have r3 := R.2.2.1
  refine Cx.intro gX11_saying rfl (Nat.le_of_ble_eq_true rfl) rfl ?_
  repeat refine x_s rfl rfl ?_
  refine x_xv (c_needSaying d L H R x) rfl rfl rfl rfl (by decide) rfl (by decide) rfl (Nat.le_of_ble_eq_true rfl) (by decide) (by decide) (by decide) ?_ ?_
  rotate_left
  · rintro _ _ ⟨rfl, rfl, hg⟩
    exact ⟨rfl, rfl, and_f1 hg⟩
  rintro _ _ ⟨rfl, rfl, hg⟩
  repeat refine x_s rfl rfl ?_
  refine x_xs (c_needWhat d L y (m := 3) (by decide)) rfl rfl rfl rfl (by decide) (Nat.le_of_ble_eq_true rfl) (by decide) (by decide) (by decide) ?_ ?_
  rotate_left
  · rintro _ _ ⟨rfl, rfl, hg2⟩
    exact ⟨rfl, rfl, and_f2 hg2⟩
  rintro _ _ ⟨rfl, rfl, hg2⟩
  rw [and_t hg hg2]
  obtain ⟨q1, q2, q3⟩ := inB_iN hg
  generalize iN x = n at q1 q2 q3 ⊢
  subst q2
  obtain ⟨s1, s2, s3⟩ := inB_iN hg2
  generalize iN y = w at s1 s2 s3 ⊢
  subst s2
  repeat refine x_s rfl rfl ?_
  have h5 := H.2.2.2.2.2.1 n q1
  rcases (by omega : w = 0 ∨ w = 1 ∨ w = 2 ∨ w = 3) with rfl | rfl | rfl | rfl
  · refine x_tsw (i := .iadd) (tgt := 48) rfl (Or.inl ⟨by decide, _, rfl, rfl⟩) ?_
    repeat refine x_s rfl rfl ?_
    refine x_ald rfl rfl rfl (k := n) (rfl) (by omega) (by decide) rfl ?_
    exact x_iret rfl rfl rfl ⟨rfl, congrArg (fun z => some (Value.int z)) (h5.1), d, L, rfl, sm_rfl, sL_rfl⟩
  · refine x_tsw (i := .iadd) (tgt := 55) rfl (Or.inl ⟨by decide, _, rfl, rfl⟩) ?_
    repeat refine x_s rfl rfl ?_
    refine x_ald rfl rfl rfl (k := n) (rfl) (by omega) (by decide) rfl ?_
    exact x_iret rfl rfl rfl ⟨rfl, congrArg (fun z => some (Value.int z)) (h5.2.1), d, L, rfl, sm_rfl, sL_rfl⟩
  · refine x_tsw (i := .iadd) (tgt := 62) rfl (Or.inl ⟨by decide, _, rfl, rfl⟩) ?_
    repeat refine x_s rfl rfl ?_
    refine x_ald rfl rfl rfl (k := n) (rfl) (by omega) (by decide) rfl ?_
    exact x_iret rfl rfl rfl ⟨rfl, congrArg (fun z => some (Value.int z)) (h5.2.2), d, L, rfl, sm_rfl, sL_rfl⟩
  · refine x_tsw (i := .iadd) (tgt := 69) rfl (Or.inr ⟨by decide, by decide⟩) ?_
    repeat refine x_s rfl rfl ?_
    refine x_cv (c_hearersOf d L H R K q1) rfl rfl rfl (by decide) rfl (by decide) rfl (Nat.le_of_ble_eq_true rfl) (by decide) (by decide) (by decide) ?_
    rintro _ _ ⟨rfl, rfl⟩
    exact x_iret rfl rfl rfl ⟨rfl, rfl, d, L, rfl, sm_rfl, sL_rfl⟩
set_option maxRecDepth 100000 in
set_option maxHeartbeats 8000000 in
theorem p_shows (H : HC d F) (R : RG F) (K : HW d F) (x y : Int32) : Cx mX11_shows 20 6 36 [.ref 0, .int x, .int y] (W0 d L) (qG d L (inB x (F.1 4 0) && inB y 100) (sh F (iN x) (iN y))) (qT 1 d L (inB x (F.1 4 0) && inB y 100)) := by
  have r1 := R.1
  have r2 := R.2.1
  have r3 := R.2.2.1
  refine Cx.intro gX11_shows rfl (Nat.le_of_ble_eq_true rfl) rfl ?_
  repeat refine x_s rfl rfl ?_
  refine x_xv (c_needNeedle d L H R x) rfl rfl rfl rfl (by decide) rfl (by decide) rfl (Nat.le_of_ble_eq_true rfl) (by decide) (by decide) (by decide) ?_ ?_
  rotate_left
  · rintro _ _ ⟨rfl, rfl, hg⟩
    exact ⟨rfl, rfl, and_f1 hg⟩
  rintro _ _ ⟨rfl, rfl, hg⟩
  repeat refine x_s rfl rfl ?_
  refine x_xs (c_needHour d L y) rfl rfl rfl rfl (by decide) (Nat.le_of_ble_eq_true rfl) (by decide) (by decide) (by decide) ?_ ?_
  rotate_left
  · rintro _ _ ⟨rfl, rfl, hg2⟩
    exact ⟨rfl, rfl, and_f2 hg2⟩
  rintro _ _ ⟨rfl, rfl, hg2⟩
  rw [and_t hg hg2]
  obtain ⟨q1, q2, q3⟩ := inB_iN hg
  generalize iN x = n at q1 q2 q3 ⊢
  subst q2
  obtain ⟨s1, s2, s3⟩ := inB_iN hg2
  generalize iN y = w at s1 s2 s3 ⊢
  subst s2
  repeat refine x_s rfl rfl ?_
  refine x_ald rfl rfl rfl (k := n) rfl (by omega) (by decide) (xav_rows (by omega)) ?_
  repeat refine x_s rfl rfl ?_
  refine x_ald rfl (SH_rows (by omega)) rfl (k := w) (rfl) (by omega) (by decide) rfl ?_
  exact x_iret rfl rfl rfl ⟨rfl, congrArg (fun z => some (Value.int z)) (((K.1 n q1).2.1 w s1).1), d, L, rfl, sm_rfl, sL_rfl⟩
set_option maxRecDepth 100000 in
set_option maxHeartbeats 8000000 in
theorem p_last (H : HC d F) (R : RG F) (K : HW d F) (x y : Int32) : Cx mX11_last 20 6 36 [.ref 0, .int x, .int y] (W0 d L) (qG d L (inB x (F.1 4 0) && inB y 100) (la F (iN x) (iN y))) (qT 1 d L (inB x (F.1 4 0) && inB y 100)) := by
  have r1 := R.1
  have r2 := R.2.1
  have r3 := R.2.2.1
  refine Cx.intro gX11_last rfl (Nat.le_of_ble_eq_true rfl) rfl ?_
  repeat refine x_s rfl rfl ?_
  refine x_xv (c_needNeedle d L H R x) rfl rfl rfl rfl (by decide) rfl (by decide) rfl (Nat.le_of_ble_eq_true rfl) (by decide) (by decide) (by decide) ?_ ?_
  rotate_left
  · rintro _ _ ⟨rfl, rfl, hg⟩
    exact ⟨rfl, rfl, and_f1 hg⟩
  rintro _ _ ⟨rfl, rfl, hg⟩
  repeat refine x_s rfl rfl ?_
  refine x_xs (c_needHour d L y) rfl rfl rfl rfl (by decide) (Nat.le_of_ble_eq_true rfl) (by decide) (by decide) (by decide) ?_ ?_
  rotate_left
  · rintro _ _ ⟨rfl, rfl, hg2⟩
    exact ⟨rfl, rfl, and_f2 hg2⟩
  rintro _ _ ⟨rfl, rfl, hg2⟩
  rw [and_t hg hg2]
  obtain ⟨q1, q2, q3⟩ := inB_iN hg
  generalize iN x = n at q1 q2 q3 ⊢
  subst q2
  obtain ⟨s1, s2, s3⟩ := inB_iN hg2
  generalize iN y = w at s1 s2 s3 ⊢
  subst s2
  repeat refine x_s rfl rfl ?_
  refine x_ald rfl rfl rfl (k := n) rfl (by omega) (by decide) (xav_lasts (by omega)) ?_
  repeat refine x_s rfl rfl ?_
  refine x_ald rfl (SH_lasts (by omega)) rfl (k := w) (rfl) (by omega) (by decide) rfl ?_
  exact x_iret rfl rfl rfl ⟨rfl, congrArg (fun z => some (Value.int z)) (((K.1 n q1).2.1 w s1).2), d, L, rfl, sm_rfl, sL_rfl⟩
set_option maxRecDepth 100000 in
set_option maxHeartbeats 8000000 in
theorem p_points (H : HC d F) (R : RG F) (K : HW d F) (x y : Int32) : Cx mX11_points 20 6 36 [.ref 0, .int x, .int y] (W0 d L) (qG d L (inB x (F.1 0 0) && inB y 100) (bF (fun n => pt F n (iN x) (sh F n (iN y))) (F.1 4 0))) (qT 1 d L (inB x (F.1 0 0) && inB y 100)) := by
  have r1 := R.1
  have r2 := R.2.1
  have r3 := R.2.2.1
  refine Cx.intro gX11_points rfl (Nat.le_of_ble_eq_true rfl) rfl ?_
  repeat refine x_s rfl rfl ?_
  refine x_xv (c_needPerson d L H R x) rfl rfl rfl rfl (by decide) rfl (by decide) rfl (Nat.le_of_ble_eq_true rfl) (by decide) (by decide) (by decide) ?_ ?_
  rotate_left
  · rintro _ _ ⟨rfl, rfl, hg⟩
    exact ⟨rfl, rfl, and_f1 hg⟩
  rintro _ _ ⟨rfl, rfl, hg⟩
  repeat refine x_s rfl rfl ?_
  refine x_xs (c_needHour d L y) rfl rfl rfl rfl (by decide) (Nat.le_of_ble_eq_true rfl) (by decide) (by decide) (by decide) ?_ ?_
  rotate_left
  · rintro _ _ ⟨rfl, rfl, hg2⟩
    exact ⟨rfl, rfl, and_f2 hg2⟩
  rintro _ _ ⟨rfl, rfl, hg2⟩
  rw [and_t hg hg2]
  obtain ⟨q1, q2, q3⟩ := inB_iN hg
  generalize iN x = n at q1 q2 q3 ⊢
  subst q2
  obtain ⟨s1, s2, s3⟩ := inB_iN hg2
  generalize iN y = w at s1 s2 s3 ⊢
  subst s2
  repeat refine x_s rfl rfl ?_
  refine x_cv (c_pointersAt d L H R K q1 s1) rfl rfl rfl (by decide) rfl (by decide) rfl (Nat.le_of_ble_eq_true rfl) (by decide) (by decide) (by decide) ?_
  rintro _ _ ⟨rfl, rfl⟩
  exact x_iret rfl rfl rfl ⟨rfl, rfl, d, L, rfl, sm_rfl, sL_rfl⟩
set_option maxRecDepth 100000 in
set_option maxHeartbeats 8000000 in
theorem p_side (x y : Int32) : Cn mX11_side false 3 0 0 [.ref 0, .int x, .int y] (W0 d L) (qP d L (nI (sd x.toInt y.toInt))) := by
  refine Cn.intro gX11_side rfl (Nat.le_of_ble_eq_true rfl) rfl ?_
  repeat refine x_s rfl rfl ?_
  refine x_cs (c_sideOf d L x y) rfl rfl rfl (by decide) (Nat.le_of_ble_eq_true rfl) (by decide) (by decide) (by decide) ?_
  rintro _ _ ⟨rfl, rfl⟩
  exact x_iret rfl rfl rfl ⟨rfl, rfl⟩
set_option maxRecDepth 100000 in
set_option maxHeartbeats 8000000 in
theorem p_accused (H : HC d F) (R : RG F) (K : HW d F) (x : Int32) : Cx mX11_accused 20 6 36 [.ref 0, .int x] (W0 d L) (qG d L (inB x 100) (accI F (iN x))) (qT 1 d L (inB x 100)) := by
  have r1 := R.1
  have r2 := R.2.1
  have r3 := R.2.2.1
  refine Cx.intro gX11_accused rfl (Nat.le_of_ble_eq_true rfl) rfl ?_
  repeat refine x_s rfl rfl ?_
  refine x_xs (c_needHour d L x) rfl rfl rfl rfl (by decide) (Nat.le_of_ble_eq_true rfl) (by decide) (by decide) (by decide) ?_ ?_
  rotate_left
  · exact fun _ _ z => z
  rintro _ _ ⟨rfl, rfl, hg⟩
  obtain ⟨q1, q2, q3⟩ := inB_iN hg
  rw [hg]
  generalize iN x = w at q1 q2 q3 ⊢
  subst q2
  repeat refine x_s rfl rfl ?_
  refine x_cv (c_accusedIn d L H R K q1) rfl rfl rfl (by decide) rfl (by decide) rfl (Nat.le_of_ble_eq_true rfl) (by decide) (by decide) (by decide) ?_
  rintro _ _ ⟨rfl, d1, rfl, hs⟩
  exact x_iret rfl rfl rfl ⟨rfl, rfl, d1, L, rfl, sm_in hs (by decide), sL_rfl⟩
set_option maxRecDepth 100000 in
set_option maxHeartbeats 8000000 in
theorem p_clash (H : HC d F) (R : RG F) (K : HW d F) : Cn mX11_clash false 5 0 0 [.ref 0] (W0 d L) (qP d L (fF (cl F) 0 100)) := by
  have lp : ∀ k, k ≤ 100 → fF (cl F) 0 100 = fF (cl F) k (100 - k) → Ex mX11_clash false 5 0 0 2 [some (.ref 0), some (.int (nI k))] [] (W0 d L) (qP d L (fF (cl F) 0 100)) nX := by
    refine x_down _ ?_ ?_
    · intro ha
      repeat refine x_s rfl rfl ?_
      refine x_br rfl rfl (fun c => ?_) (fun c => absurd c (fun z => z (by decide)))
      repeat refine x_s rfl rfl ?_
      exact x_iret rfl rfl rfl ⟨by rw [ha]; rfl, rfl⟩
    · intro k hk ih ha
      repeat refine x_s rfl rfl ?_
      refine x_br rfl rfl (fun c => absurd c (nI_ge (b := 100) hk (by decide))) (fun c => ?_)
      repeat refine x_s rfl rfl ?_
      refine x_cv (c_clashesIn d L H R K hk) rfl rfl rfl (by decide) rfl (by decide) rfl (Nat.le_of_ble_eq_true rfl) (by decide) (by decide) (by decide) ?_
      rintro _ _ ⟨rfl, rfl⟩
      refine x_br rfl rfl (fun c => ?_) (fun c => ?_)
      · iterate 2 refine x_s rfl rfl ?_
        rw [nI_1]
        exact ih (ha.trans (fF_f hk (bI_0.mp c)))
      · repeat refine x_s rfl rfl ?_
        exact x_iret rfl rfl rfl ⟨by rw [ha.trans (fF_t hk (bI_n0.mp c))], rfl⟩
  refine Cn.intro gX11_clash rfl (Nat.le_of_ble_eq_true rfl) rfl ?_
  iterate 2 refine x_s rfl rfl ?_
  exact lp 0 (Nat.zero_le _) rfl
end
