/-! WATCH: one lie more -/
def H67 (d : Nat → Nat → Int32) (F : Fr) (dg ho : Nat) : Prop := ∀ p, p < F.1 0 0 → d 67 p = bF (fun n => hl F n p dg ho) (F.1 4 0)
def Bh (F : Fr) (n ho s : Nat) : Bool := hr F n s && decide (F.1 10 s = ho)
def H71 (d : Nat → Nat → Int32) (F : Fr) (ho : Nat) : Prop := ∀ n, n < F.1 4 0 → HY d (71 + n) (wx F n (Bh F n ho) (F.1 9 0)) (wy F n (Bh F n ho) (F.1 9 0)) (wm F n (Bh F n ho) (F.1 9 0))
theorem H67_sm {S : List Nat} {d d' : Nat → Nat → Int32} {F : Fr} {dg ho : Nat} (H : H67 d F dg ho) (h : sm S d d') (hS : 67 ∉ S) : H67 d' F dg ho := by
  intro p hp
  rw [h 67 hS]
  exact H p hp
theorem H71_sm {S : List Nat} {d d' : Nat → Nat → Int32} {F : Fr} {ho : Nat} (R : RG F) (H : H71 d F ho) (h : sm S d d') (hS : ∀ c, c ∈ [71, 72, 73, 74, 75, 76] → c ∉ S) : H71 d' F ho := by
  intro n hn
  have r2 := R.2.1
  have e : d' (71 + n) = d (71 + n) := h _ (hS _ (by rcases (by omega : n = 0 ∨ n = 1 ∨ n = 2 ∨ n = 3 ∨ n = 4 ∨ n = 5) with rfl | rfl | rfl | rfl | rfl | rfl <;> decide))
  unfold HY
  rw [e]
  exact H n hn
/-- what needle n would show by a lie of p alone -/
def shA (F : Fr) (dg ho n p : Nat) : Int32 := if hl F n p dg ho then sid F n p else -1
def unl (F : Fr) (dg ho p q : Nat) : Int32 := bF (fun n => decide (shA F dg ho n p ≠ shA F dg ho n q)) (F.1 4 0)
def tA (F : Fr) (dg ho : Nat) (x : Int32) : Bool := !(aF (fun p => aF (fun q => decide (unl F dg ho p q &&& x = 0)) p) (F.1 0 0))
def hA (F : Fr) (dg ho : Nat) (x : Int32) : Bool := !(aF (fun p => decide (bF (fun n => hl F n p dg ho) (F.1 4 0) &&& x = 0)) (F.1 0 0))
/-- ways to people -/
def ax (F : Fr) (n : Nat) (C : Nat → Bool) : Nat → Int
  | 0 => 0
  | k + 1 => if C k then ax F n C k + dx F n k else ax F n C k
def ay (F : Fr) (n : Nat) (C : Nat → Bool) : Nat → Int
  | 0 => 0
  | k + 1 => if C k then ay F n C k + dy F n k else ay F n C k
def am (F : Fr) (n : Nat) (C : Nat → Bool) : Nat → Bool
  | 0 => false
  | k + 1 => if C k then am F n C k || mv F n k else am F n C k
def Cy (F : Fr) (n ho : Nat) (y : Int32) (p : Nat) : Bool := bt y p && hl F n p 9 ho
/-- what needle n would show in this hour if the people y lied in it, too -/
def sBL (F : Fr) (n ho : Nat) (y : Int32) : Int32 := if aF (Cy F n ho y) (F.1 0 0) then nI (sg (wx F n (Bh F n ho) (F.1 9 0) + ax F n (Cy F n ho y) (F.1 0 0)) (wy F n (Bh F n ho) (F.1 9 0) + ay F n (Cy F n ho y) (F.1 0 0)) (wm F n (Bh F n ho) (F.1 9 0) || am F n (Cy F n ho y) (F.1 0 0))) else sh F n ho
def aS (F : Fr) (x : Int32) (ho : Nat) (y v : Int32) : Bool := !(aF (fun n => bt x n && decide (sBL F n ho y ≠ v)) (F.1 4 0))
/-- what needle n would show in hour h if it heard one lie more, in hour t, from the place (x, y) -/
def sBe (F : Fr) (n h t x y : Nat) : Int32 := if h < t ∨ t + 1 < l1 F (hr F n) h (F.1 9 0) then sh F n h else nI (sg (wx F n (Bh F n t) (F.1 9 0) + ((x : Int) - (F.1 5 n : Int))) (wy F n (Bh F n t) (F.1 9 0) + ((y : Int) - (F.1 6 n : Int))) (wm F n (Bh F n t) (F.1 9 0) || (decide ((x : Int) - (F.1 5 n : Int) ≠ 0) || decide ((y : Int) - (F.1 6 n : Int) ≠ 0))))
def lB (f : Nat → Bool) : Nat → Int64
  | 0 => 0
  | k + 1 => if f k then lB f k ||| ((1 : Int64) <<< ((nI k).toInt64 &&& 63)) else lB f k
theorem m1_le {l t : Nat} (hl : l ≤ 1000) (ht : t ≤ 1000) : m1 l ≤ nI t ↔ l ≤ t + 1 := by
  unfold m1
  rw [ile, sub_tI (by rw [nI_tI (by omega)]; omega) (by decide), nI_tI (by omega), nI_tI (by omega), show (1 : Int32).toInt = 1 from rfl]
  omega
section
variable (d : Nat → Nat → Int32) (L : Nat → Nat → Int64) {F : Fr}
theorem ax_b (R : RG F) {n : Nat} (hn : n < F.1 4 0) (C : Nat → Bool) : ∀ k, k ≤ F.1 0 0 → (-(40 * k : Int) ≤ ax F n C k ∧ ax F n C k ≤ 40 * k) ∧ -(40 * k : Int) ≤ ay F n C k ∧ ay F n C k ≤ 40 * k
  | 0, _ => by simp [ax, ay]
  | k + 1, hk => by
    have ih := ax_b R hn C k (by omega)
    have tb := dx_b R hn (p := k) (by omega)
    unfold ax ay
    split <;> (push_cast; omega)
set_option maxRecDepth 100000 in
set_option maxHeartbeats 8000000 in
theorem c_noteLies (H : HC d F) (R : RG F) {dg ho : Nat} (hd : dg ≤ 1000) : Cn mX9_noteLies false 7 0 0 [.ref 23, .int (nI dg), .int (nI ho)] (W0 d L) (fun r h => r = none ∧ ∃ d', h = W0 d' L ∧ sm [40, 70, 67] d d' ∧ H67 d' F dg ho) := by
  have r1 := R.1
  have lp : ∀ k, k ≤ F.1 0 0 → ∀ d1, sm [40, 70, 67] d d1 → (∀ p, p < k → d1 67 p = bF (fun n => hl F n p dg ho) (F.1 4 0)) → Ex mX9_noteLies false 7 0 0 2 [some (.ref 23), some (.int (nI dg)), some (.int (nI ho)), some (.int (nI k))] [] (W0 d1 L) (fun r h => r = none ∧ ∃ d', h = W0 d' L ∧ sm [40, 70, 67] d d' ∧ H67 d' F dg ho) nX := by
    refine x_down _ ?_ ?_
    · intro d1 hs hj
      have H1 := HC_sm H hs (by decide)
      repeat refine x_s rfl rfl ?_
      refine x_br rfl rfl (fun c => ?_) (fun c => absurd c (fun z => z (lp_x H1.1)))
      exact x_vret rfl rfl ⟨rfl, d1, rfl, hs, hj⟩
    · intro k hk ih d1 hs hj
      have H1 := HC_sm H hs (by decide)
      repeat refine x_s rfl rfl ?_
      refine x_br rfl rfl (fun c => absurd c (lp_c H1.1 hk (by omega))) (fun c => ?_)
      repeat refine x_s rfl rfl ?_
      refine x_cv (c_hearersOfLie d1 L H1 R (p := k) (dg := dg) (ho := ho) hk hd) rfl rfl rfl (by decide) rfl (by decide) rfl (Nat.le_of_ble_eq_true rfl) (by decide) (by decide) (by decide) ?_
      rintro _ _ ⟨rfl, d2, rfl, hs2⟩
      refine x_iast rfl rfl (k := k) (rfl) (by omega) (by decide) rfl ?_
      iterate 2 refine x_s rfl rfl ?_
      rw [nI_1]
      refine ih _ (sm_up (sm_go hs (sm_in hs2 (by decide))) (by decide)) ?_
      intro p hp
      by_cases e : p = k
      · subst e
        exact up2_eq
      · rw [up2_k e, hs2 67 (by decide)]
        exact hj p (by omega)
  refine Cn.intro gX9_noteLies rfl (Nat.le_of_ble_eq_true rfl) rfl ?_
  iterate 2 refine x_s rfl rfl ?_
  exact lp 0 (Nat.zero_le _) d sm_rfl (fun j hj => by omega)
set_option maxRecDepth 100000 in
set_option maxHeartbeats 8000000 in
theorem c_noteSums (H : HC d F) (R : RG F) (K : HW d F) {ho : Nat} (hh : ho < 100) : Cn mX9_noteSums false 4 0 0 [.ref 23, .int (nI ho)] (W0 d L) (fun r h => r = none ∧ ∃ d', h = W0 d' L ∧ sm [71, 72, 73, 74, 75, 76] d d' ∧ H71 d' F ho) := by
  have r2 := R.2.1
  have r3 := R.2.2.1
  have lp : ∀ k, k ≤ F.1 4 0 → ∀ d1, sm [71, 72, 73, 74, 75, 76] d d1 → (∀ n, n < k → HY d1 (71 + n) (wx F n (Bh F n ho) (F.1 9 0)) (wy F n (Bh F n ho) (F.1 9 0)) (wm F n (Bh F n ho) (F.1 9 0))) → Ex mX9_noteSums false 4 0 0 2 [some (.ref 23), some (.int (nI ho)), some (.int (nI k))] [] (W0 d1 L) (fun r h => r = none ∧ ∃ d', h = W0 d' L ∧ sm [71, 72, 73, 74, 75, 76] d d' ∧ H71 d' F ho) nX := by
    refine x_down _ ?_ ?_
    · intro d1 hs hj
      have H1 := HC_sm H hs (by decide)
      repeat refine x_s rfl rfl ?_
      refine x_br rfl rfl (fun c => ?_) (fun c => absurd c (fun z => z (lp_x H1.2.1)))
      exact x_vret rfl rfl ⟨rfl, d1, rfl, hs, hj⟩
    · intro k hk ih d1 hs hj
      have H1 := HC_sm H hs (by decide)
      have K1 := HW_sm R K hs (by decide)
      repeat refine x_s rfl rfl ?_
      refine x_br rfl rfl (fun c => absurd c (lp_c H1.2.1 hk (by omega))) (fun c => ?_)
      repeat refine x_s rfl rfl ?_
      refine x_ald rfl rfl rfl (k := k) rfl (by omega) (by decide) (xav_sums (by omega)) ?_
      repeat refine x_s rfl rfl ?_
      refine x_ald rfl rfl rfl (k := ho) (rfl) (by omega) (by decide) rfl ?_
      repeat refine x_s rfl rfl ?_
      refine x_ald rfl rfl rfl (k := k) (rfl) (by omega) (by decide) rfl ?_
      rw [K1.2 ho hh, (K1.1 k hk).1]
      repeat refine x_s rfl rfl ?_
      refine x_cv (c_addUp d1 L H1 R (wc_n (by omega)) hk (B := Bh F k ho) (fun s hs => by rw [b_and, bF_bt _ _ _ (by omega), bF_bt _ _ _ (by omega), decide_eq_true hs, Bool.true_and, Bool.true_and, Bool.and_comm]; rfl)) rfl rfl rfl (by decide) rfl (by decide) rfl (Nat.le_of_ble_eq_true rfl) (by decide) (by decide) (by decide) ?_
      rintro _ _ ⟨rfl, d2, rfl, hs2, hy⟩
      iterate 2 refine x_s rfl rfl ?_
      rw [nI_1]
      refine ih d2 (sm_go hs (sm_in hs2 ?_)) ?_
      · intro c hc
        simp only [List.mem_cons, List.not_mem_nil, or_false] at hc ⊢
        omega
      · intro n hn
        by_cases e : n = k
        · subst e
          exact hy
        · unfold HY
          rw [hs2 _ (by simp; omega)]
          exact hj n (by omega)
  refine Cn.intro gX9_noteSums rfl (Nat.le_of_ble_eq_true rfl) rfl ?_
  iterate 2 refine x_s rfl rfl ?_
  exact lp 0 (Nat.zero_le _) d sm_rfl (fun j hj => by omega)
set_option maxRecDepth 100000 in
set_option maxHeartbeats 8000000 in
theorem c_shownAlone (R : RG F) (K : HW d F) {n p dg ho : Nat} (h6 : H67 d F dg ho) (hn : n < F.1 4 0) (hp : p < F.1 0 0) : Cn mX9_shownAlone false 1 0 0 [.ref 23, .int (nI n), .int (nI p)] (W0 d L) (qP d L (shA F dg ho n p)) := by
  have r1 := R.1
  have r2 := R.2.1
  have hb := bF_bt (fun n => hl F n p dg ho) (F.1 4 0) n (by omega)
  rw [decide_eq_true hn, Bool.true_and] at hb
  refine Cn.intro gX9_shownAlone rfl (Nat.le_of_ble_eq_true rfl) rfl ?_
  repeat refine x_s rfl rfl ?_
  refine x_ald rfl rfl rfl (k := p) (rfl) (by omega) (by decide) rfl ?_
  rw [h6 p hp]
  repeat refine x_s rfl rfl ?_
  refine x_br rfl rfl (fun c => ?_) (fun c => ?_)
  · have hc := hb.symm.trans ((bt_test (by omega)).mp c)
    repeat refine x_s rfl rfl ?_
    refine x_iret rfl rfl rfl ⟨congrArg (fun z => some (Value.int z)) ?_, rfl⟩
    simp [shA, hc]
  · have hc : hl F n p dg ho = true := by
      cases hc : hl F n p dg ho
      · exact absurd ((bt_test (by omega)).mpr (hb.trans hc)) c
      · rfl
    repeat refine x_s rfl rfl ?_
    refine x_ald rfl rfl rfl (k := n) rfl (by omega) (by decide) (xav_sides (by omega)) ?_
    repeat refine x_s rfl rfl ?_
    refine x_ald rfl (SH_sides (by omega)) rfl (k := p) (rfl) (by omega) (by decide) rfl ?_
    rw [(K.1 n hn).2.2 p hp]
    repeat refine x_s rfl rfl ?_
    refine x_iret rfl rfl rfl ⟨congrArg (fun z => some (Value.int z)) ?_, rfl⟩
    simp [shA, hc]
set_option maxRecDepth 100000 in
set_option maxHeartbeats 8000000 in
theorem c_unlike (H : HC d F) (R : RG F) (K : HW d F) {p q dg ho : Nat} (h6 : H67 d F dg ho) (hp : p < F.1 0 0) (hq : q < F.1 0 0) : Cn mX9_unlike false 2 0 0 [.ref 23, .int (nI p), .int (nI q)] (W0 d L) (qP d L (unl F dg ho p q)) := by
  have r2 := R.2.1
  have lp : ∀ k, k ≤ F.1 4 0 → ∀ a, a = bF (fun n => decide (shA F dg ho n p ≠ shA F dg ho n q)) k → Ex mX9_unlike false 2 0 0 5 [some (.ref 23), some (.int (nI p)), some (.int (nI q)), some (.int a), some (.int (nI k))] [] (W0 d L) (qP d L (unl F dg ho p q)) nX := by
    refine x_down _ ?_ ?_
    · intro a ha
      repeat refine x_s rfl rfl ?_
      refine x_br rfl rfl (fun c => ?_) (fun c => absurd c (fun z => z (lp_x H.2.1)))
      repeat refine x_s rfl rfl ?_
      exact x_iret rfl rfl rfl ⟨by rw [ha]; rfl, rfl⟩
    · intro k hk ih a ha
      repeat refine x_s rfl rfl ?_
      refine x_br rfl rfl (fun c => absurd c (lp_c H.2.1 hk (by omega))) (fun c => ?_)
      repeat refine x_s rfl rfl ?_
      refine x_cv (c_shownAlone d L R K h6 hk hp) rfl rfl rfl (by decide) rfl (by decide) rfl (Nat.le_of_ble_eq_true rfl) (by decide) (by decide) (by decide) ?_
      rintro _ _ ⟨rfl, rfl⟩
      repeat refine x_s rfl rfl ?_
      refine x_cv (c_shownAlone d L R K h6 hk hq) rfl rfl rfl (by decide) rfl (by decide) rfl (Nat.le_of_ble_eq_true rfl) (by decide) (by decide) (by decide) ?_
      rintro _ _ ⟨rfl, rfl⟩
      refine x_br rfl rfl (fun c => ?_) (fun c => ?_)
      · have hb : shA F dg ho k p = shA F dg ho k q := c
        iterate 2 refine x_s rfl rfl ?_
        rw [nI_1]
        exact ih _ (by simp [bF, hb, ha])
      · have hb : ¬ shA F dg ho k p = shA F dg ho k q := c
        iterate 8 refine x_s rfl rfl ?_
        rw [nI_1]
        exact ih _ (by simp [bF, hb, ha])
  refine Cn.intro gX9_unlike rfl (Nat.le_of_ble_eq_true rfl) rfl ?_
  iterate 4 refine x_s rfl rfl ?_
  exact lp 0 (Nat.zero_le _) 0 rfl
set_option maxRecDepth 100000 in
set_option maxHeartbeats 8000000 in
theorem c_tellsApart (H : HC d F) (R : RG F) (K : HW d F) {dg ho : Nat} (h6 : H67 d F dg ho) (x : Int32) : Cn mX9_tellsApart false 3 0 0 [.ref 23, .int x] (W0 d L) (qP d L (bI (tA F dg ho x))) := by
  have r1 := R.1
  have lp : ∀ k, k ≤ F.1 0 0 → aF (fun p => aF (fun q => decide (unl F dg ho p q &&& x = 0)) p) k = false → ∀ o, Ex mX9_tellsApart false 3 0 0 2 [some (.ref 23), some (.int x), some (.int (nI k)), o] [] (W0 d L) (qP d L (bI (tA F dg ho x))) nX := by
    refine x_down _ ?_ ?_
    · intro ha o
      repeat refine x_s rfl rfl ?_
      refine x_br rfl rfl (fun c => ?_) (fun c => absurd c (fun z => z (lp_x H.1)))
      repeat refine x_s rfl rfl ?_
      exact x_iret rfl rfl rfl ⟨by rw [tA, ha]; rfl, rfl⟩
    · intro k hk ih ha o
      repeat refine x_s rfl rfl ?_
      refine x_br rfl rfl (fun c => absurd c (lp_c H.1 hk (by omega))) (fun c => ?_)
      have lp2 : ∀ m, m ≤ k → aF (fun q => decide (unl F dg ho k q &&& x = 0)) m = false → Ex mX9_tellsApart false 3 0 0 18 [some (.ref 23), some (.int x), some (.int (nI k)), some (.int (nI m))] [] (W0 d L) (qP d L (bI (tA F dg ho x))) nX := by
        refine x_down _ ?_ ?_
        · intro hb
          iterate 2 refine x_s rfl rfl ?_
          refine x_br rfl rfl (fun c => ?_) (fun c => absurd c (fun z => z (Int32.le_refl _)))
          iterate 2 refine x_s rfl rfl ?_
          rw [nI_1]
          exact ih (by simp [aF, ha, hb]) _
        · intro m hm ih2 hb
          iterate 2 refine x_s rfl rfl ?_
          refine x_br rfl rfl (fun c => absurd c (nI_ge hm (by omega))) (fun c => ?_)
          repeat refine x_s rfl rfl ?_
          refine x_cv (c_unlike d L H R K h6 hk (q := m) (by omega)) rfl rfl rfl (by decide) rfl (by decide) rfl (Nat.le_of_ble_eq_true rfl) (by decide) (by decide) (by decide) ?_
          rintro _ _ ⟨rfl, rfl⟩
          repeat refine x_s rfl rfl ?_
          refine x_br rfl rfl (fun c1 => ?_) (fun c1 => ?_)
          · have c2 : ¬ unl F dg ho k m &&& x = 0 := c1
            iterate 2 refine x_s rfl rfl ?_
            rw [nI_1]
            exact ih2 (by simp [aF, hb, c2])
          · have c2 : unl F dg ho k m &&& x = 0 := c1
            repeat refine x_s rfl rfl ?_
            refine x_iret rfl rfl rfl ⟨?_, rfl⟩
            have hz : aF (fun p => aF (fun q => decide (unl F dg ho p q &&& x = 0)) p) (F.1 0 0) = true := aF_iff.mpr ⟨k, hk, aF_iff.mpr ⟨m, hm, by simp [c2]⟩⟩
            rw [tA, hz]
            rfl
      iterate 2 refine x_s rfl rfl ?_
      exact lp2 0 (Nat.zero_le _) rfl
  refine Cn.intro gX9_tellsApart rfl (Nat.le_of_ble_eq_true rfl) rfl ?_
  iterate 2 refine x_s rfl rfl ?_
  by_cases h0 : 1 ≤ F.1 0 0
  · exact lp 1 h0 rfl _
  · repeat refine x_s rfl rfl ?_
    have e0 : F.1 0 0 = 0 := by omega
    have e1 : d 25 0 = 0 := by rw [H.1, e0]; rfl
    refine x_br rfl rfl (fun c => ?_) (fun c => absurd c (fun z => z (by rw [e1]; decide)))
    repeat refine x_s rfl rfl ?_
    exact x_iret rfl rfl rfl ⟨by rw [tA, e0]; rfl, rfl⟩
set_option maxRecDepth 100000 in
set_option maxHeartbeats 8000000 in
theorem c_hearAll (H : HC d F) (R : RG F) {dg ho : Nat} (h6 : H67 d F dg ho) (x : Int32) : Cn mX9_hearAll false 1 0 0 [.ref 23, .int x] (W0 d L) (qP d L (bI (hA F dg ho x))) := by
  have r1 := R.1
  have lp : ∀ k, k ≤ F.1 0 0 → aF (fun p => decide (bF (fun n => hl F n p dg ho) (F.1 4 0) &&& x = 0)) k = false → Ex mX9_hearAll false 1 0 0 2 [some (.ref 23), some (.int x), some (.int (nI k))] [] (W0 d L) (qP d L (bI (hA F dg ho x))) nX := by
    refine x_down _ ?_ ?_
    · intro ha
      repeat refine x_s rfl rfl ?_
      refine x_br rfl rfl (fun c => ?_) (fun c => absurd c (fun z => z (lp_x H.1)))
      repeat refine x_s rfl rfl ?_
      exact x_iret rfl rfl rfl ⟨by rw [hA, ha]; rfl, rfl⟩
    · intro k hk ih ha
      repeat refine x_s rfl rfl ?_
      refine x_br rfl rfl (fun c => absurd c (lp_c H.1 hk (by omega))) (fun c => ?_)
      repeat refine x_s rfl rfl ?_
      refine x_ald rfl rfl rfl (k := k) (rfl) (by omega) (by decide) rfl ?_
      rw [h6 k hk]
      repeat refine x_s rfl rfl ?_
      refine x_br rfl rfl (fun c1 => ?_) (fun c1 => ?_)
      · have c2 : ¬ bF (fun n => hl F n k dg ho) (F.1 4 0) &&& x = 0 := c1
        iterate 2 refine x_s rfl rfl ?_
        rw [nI_1]
        exact ih (by simp [aF, ha, c2])
      · have c2 : bF (fun n => hl F n k dg ho) (F.1 4 0) &&& x = 0 := c1
        repeat refine x_s rfl rfl ?_
        refine x_iret rfl rfl rfl ⟨?_, rfl⟩
        rw [hA, aF_iff.mpr ⟨k, hk, by simp [c2]⟩]
        rfl
  refine Cn.intro gX9_hearAll rfl (Nat.le_of_ble_eq_true rfl) rfl ?_
  iterate 2 refine x_s rfl rfl ?_
  exact lp 0 (Nat.zero_le _) rfl
end
