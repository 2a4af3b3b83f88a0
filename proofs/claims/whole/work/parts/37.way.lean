/-! WAYS, and what a needle shows by them -/
/-- cell b is the way (X, Y), moved or not -/
def HY (d : Nat → Nat → Int32) (b : Nat) (X Y : Int) (M : Bool) : Prop := (d b 0).toInt = X ∧ (d b 1).toInt = Y ∧ d b 2 = bI M
def wc (b : Nat) : Prop := b = 69 ∨ b = 71 ∨ b = 72 ∨ b = 73 ∨ b = 74 ∨ b = 75 ∨ b = 76
theorem wc_sh {b : Nat} (h : wc b) : xsh SH b = some (10, 3) := by rcases h with rfl | rfl | rfl | rfl | rfl | rfl | rfl <;> rfl
theorem wc_n {n : Nat} (h : n < 6) : wc (71 + n) := by
  rcases (by omega : n = 0 ∨ n = 1 ∨ n = 2 ∨ n = 3 ∨ n = 4 ∨ n = 5) with rfl | rfl | rfl | rfl | rfl | rfl <;> unfold wc <;> omega
/-- nothing is returned, the cell b has become the way -/
abbrev qY (b : Nat) (d : Nat → Nat → Int32) (L : Nat → Nat → Int64) (X Y : Int) (M : Bool) : xPost := fun r h => r = none ∧ ∃ d', h = W0 d' L ∧ sm [b] d d' ∧ HY d' b X Y M
theorem wc_not {b : Nat} (h : wc b) : ∀ c, c ∈ HCc → c ∉ [b] := by rcases h with rfl | rfl | rfl | rfl | rfl | rfl | rfl <;> decide
theorem wc_not2 {b : Nat} (h : wc b) : ∀ c, c ∈ HWc → c ∉ [b] := by rcases h with rfl | rfl | rfl | rfl | rfl | rfl | rfl <;> decide
theorem xfit_b {x : Int32} {M : Bool} (h : x = bI M) : xfit 10 2 (.int x) := by
  subst h
  cases M <;> exact ⟨rfl, rfl⟩
section
variable (d : Nat → Nat → Int32) (L : Nat → Nat → Int64) {F : Fr}
set_option maxRecDepth 100000 in
set_option maxHeartbeats 8000000 in
theorem c_W_clear {b : Nat} (hb : wc b) : Cn mX10_clear false 1 0 0 [.ref b] (W0 d L) (qY b d L 0 0 false) := by
  rcases hb with rfl | rfl | rfl | rfl | rfl | rfl | rfl
  all_goals
    refine Cn.intro gX10_clear rfl (Nat.le_of_ble_eq_true rfl) rfl ?_
    repeat refine x_s rfl rfl ?_
    refine x_put rfl rfl (by decide) rfl ⟨rfl, rfl⟩ (Or.inl rfl) ?_
    repeat refine x_s rfl rfl ?_
    refine x_put rfl rfl (by decide) rfl ⟨rfl, rfl⟩ (Or.inl rfl) ?_
    repeat refine x_s rfl rfl ?_
    refine x_put rfl rfl (by decide) rfl ⟨rfl, rfl⟩ (Or.inl rfl) ?_
    exact x_vret rfl rfl ⟨rfl, _, rfl, sm_up (sm_up (sm_up sm_rfl (by decide)) (by decide)) (by decide), rfl, rfl, rfl⟩
set_option maxRecDepth 100000 in
set_option maxHeartbeats 8000000 in
theorem c_W_copy {n : Nat} (hn : n < 6) {X Y : Int} {M : Bool} (h : HY d (71 + n) X Y M) : Cn mX10_copyFrom false 1 0 0 [.ref 69, .ref (71 + n)] (W0 d L) (qY 69 d L X Y M) := by
  rcases (by omega : n = 0 ∨ n = 1 ∨ n = 2 ∨ n = 3 ∨ n = 4 ∨ n = 5) with rfl | rfl | rfl | rfl | rfl | rfl
  all_goals
    refine Cn.intro gX10_copyFrom rfl (Nat.le_of_ble_eq_true rfl) rfl ?_
    repeat refine x_s rfl rfl ?_
    refine x_put rfl rfl (by decide) rfl ⟨rfl, rfl⟩ (Or.inl rfl) ?_
    repeat refine x_s rfl rfl ?_
    refine x_put rfl rfl (by decide) rfl ⟨rfl, rfl⟩ (Or.inl rfl) ?_
    repeat refine x_s rfl rfl ?_
    refine x_put rfl rfl (by decide) rfl (xfit_b (M := M) h.2.2) (Or.inl rfl) ?_
    exact x_vret rfl rfl ⟨rfl, _, rfl, sm_up (sm_up (sm_up sm_rfl (by decide)) (by decide)) (by decide), h.1, h.2.1, h.2.2⟩
set_option maxRecDepth 100000 in
set_option maxHeartbeats 8000000 in
theorem c_W_add {b : Nat} (hb : wc b) {X Y A B : Int} {M : Bool} {a c : Int32} (h : HY d b X Y M) (hX : -50000 ≤ X ∧ X ≤ 50000) (hY : -50000 ≤ Y ∧ Y ≤ 50000) (ha : a.toInt = A) (hc : c.toInt = B) (hA : -50000 ≤ A ∧ A ≤ 50000) (hB : -50000 ≤ B ∧ B ≤ 50000) : Cn mX10_add false 1 0 0 [.ref b, .int a, .int c] (W0 d L) (qY b d L (X + A) (Y + B) (M || (decide (A ≠ 0) || decide (B ≠ 0)))) := by
  have e1 : (d b 0 + a).toInt = X + A := by rw [add_tI (by rw [h.1]; omega) (by rw [ha]; omega), h.1, ha]
  have e2 : (d b 1 + c).toInt = Y + B := by rw [add_tI (by rw [h.2.1]; omega) (by rw [hc]; omega), h.2.1, hc]
  have za : a = 0 ↔ A = 0 := by rw [ieq, ha, i0]
  have zc : c = 0 ↔ B = 0 := by rw [ieq, hc, i0]
  have hM := h.2.2
  rcases hb with rfl | rfl | rfl | rfl | rfl | rfl | rfl
  all_goals
    refine Cn.intro gX10_add rfl (Nat.le_of_ble_eq_true rfl) rfl ?_
    repeat refine x_s rfl rfl ?_
    refine x_put rfl rfl (by decide) rfl ⟨rfl, rfl⟩ (Or.inl rfl) ?_
    repeat refine x_s rfl rfl ?_
    refine x_put rfl rfl (by decide) rfl ⟨rfl, rfl⟩ (Or.inl rfl) ?_
    repeat refine x_s rfl rfl ?_
    refine x_br rfl rfl (fun c1 => ?_) (fun c1 => ?_)
    · have hm : M = true := bI_n0.mp (fun z => c1 (hM.trans z))
      repeat refine x_s rfl rfl ?_
      refine x_put rfl rfl (by decide) rfl ⟨rfl, rfl⟩ (Or.inl rfl) ?_
      exact x_vret rfl rfl ⟨rfl, _, rfl, sm_up (sm_up (sm_up sm_rfl (by decide)) (by decide)) (by decide), e1, e2, by rw [hm]; rfl⟩
    · have hm : M = false := bI_0.mp (hM.symm.trans c1)
      repeat refine x_s rfl rfl ?_
      refine x_br rfl rfl (fun c2 => ?_) (fun c2 => ?_)
      · have hA' : ¬ A = 0 := fun z => c2 (za.mpr z)
        repeat refine x_s rfl rfl ?_
        refine x_put rfl rfl (by decide) rfl ⟨rfl, rfl⟩ (Or.inl rfl) ?_
        exact x_vret rfl rfl ⟨rfl, _, rfl, sm_up (sm_up (sm_up sm_rfl (by decide)) (by decide)) (by decide), e1, e2, by simp [hm, hA']; rfl⟩
      · have hA' : A = 0 := za.mp c2
        repeat refine x_s rfl rfl ?_
        refine x_br rfl rfl (fun c3 => ?_) (fun c3 => ?_)
        · have hB' : B = 0 := zc.mp c3
          repeat refine x_s rfl rfl ?_
          refine x_put rfl rfl (by decide) rfl ⟨rfl, rfl⟩ (Or.inl rfl) ?_
          exact x_vret rfl rfl ⟨rfl, _, rfl, sm_up (sm_up (sm_up sm_rfl (by decide)) (by decide)) (by decide), e1, e2, by simp [hm, hA', hB']; rfl⟩
        · have hB' : ¬ B = 0 := fun z => c3 (zc.mpr z)
          repeat refine x_s rfl rfl ?_
          refine x_put rfl rfl (by decide) rfl ⟨rfl, rfl⟩ (Or.inl rfl) ?_
          exact x_vret rfl rfl ⟨rfl, _, rfl, sm_up (sm_up (sm_up sm_rfl (by decide)) (by decide)) (by decide), e1, e2, by simp [hm, hA', hB']; rfl⟩
set_option maxRecDepth 100000 in
set_option maxHeartbeats 8000000 in
theorem c_W_sign {X Y : Int} {M : Bool} (h : HY d 69 X Y M) : Cn mX10_sign false 3 0 0 [.ref 69] (W0 d L) (qP d L (nI (sg X Y M))) := by
  obtain ⟨h1, h2, h3⟩ := h
  refine Cn.intro gX10_sign rfl (Nat.le_of_ble_eq_true rfl) rfl ?_
  repeat refine x_s rfl rfl ?_
  refine x_br rfl rfl (fun c1 => ?_) (fun c1 => ?_)
  · have hm : M = true := bI_n0.mp (fun z => c1 (h3.trans z))
    have main : ¬ (X = 0 ∧ Y = 0) → Ex mX10_sign false 3 0 0 29 [some (.ref 69)] [] (W0 d L) (qP d L (nI (sg X Y M))) nX := by
      intro hn
      repeat refine x_s rfl rfl ?_
      refine x_cn (c_sideOf d L (d 69 0) (d 69 1)) rfl rfl rfl (by decide) (Nat.le_of_ble_eq_true rfl) (by decide) (by decide) (by decide) ?_
      rintro _ _ ⟨rfl, rfl⟩
      refine x_iret rfl rfl rfl ⟨congrArg (fun z => some (Value.int z)) ?_, rfl⟩
      rw [h1, h2]
      simp only [sg, hm, if_true, if_neg hn]
    repeat refine x_s rfl rfl ?_
    refine x_br rfl rfl (fun c2 => ?_) (fun c2 => ?_)
    · exact main (fun z => c2 (ieq.mpr (by rw [i0]; exact h1.trans z.1)))
    · repeat refine x_s rfl rfl ?_
      refine x_br rfl rfl (fun c3 => ?_) (fun c3 => ?_)
      · exact main (fun z => c3 (ieq.mpr (by rw [i0]; exact h2.trans z.2)))
      · repeat refine x_s rfl rfl ?_
        refine x_iret rfl rfl rfl ⟨congrArg (fun z => some (Value.int z)) ?_, rfl⟩
        have x0 : X = 0 := by rw [← h1]; exact (ieq.mp c2).trans i0
        have y0 : Y = 0 := by rw [← h2]; exact (ieq.mp c3).trans i0
        simp [sg, hm, x0, y0]
        rfl
  · have hm : M = false := bI_0.mp (h3.symm.trans c1)
    repeat refine x_s rfl rfl ?_
    refine x_iret rfl rfl rfl ⟨congrArg (fun z => some (Value.int z)) ?_, rfl⟩
    simp [sg, hm]
    rfl
theorem dx_b (R : RG F) {n p : Nat} (hn : n < F.1 4 0) (hp : p < F.1 0 0) : (-40 ≤ dx F n p ∧ dx F n p ≤ 40) ∧ -40 ≤ dy F n p ∧ dy F n p ≤ 40 := by
  have r4 := R.2.2.2.1 p hp
  have r5 := R.2.2.2.2.1 n hn
  unfold dx dy
  omega
theorem dx_t (R : RG F) {n p : Nat} (hn : n < F.1 4 0) (hp : p < F.1 0 0) : (nI (F.1 1 p) - nI (F.1 5 n)).toInt = dx F n p ∧ (nI (F.1 2 p) - nI (F.1 6 n)).toInt = dy F n p := by
  have r4 := R.2.2.2.1 p hp
  have r5 := R.2.2.2.2.1 n hn
  exact ⟨nsub_tI (by omega) (by omega), nsub_tI (by omega) (by omega)⟩
set_option maxRecDepth 100000 in
set_option maxHeartbeats 8000000 in
theorem c_addPerson (H : HC d F) (R : RG F) {b n p : Nat} (hb : wc b) (hn : n < F.1 4 0) (hp : p < F.1 0 0) {X Y : Int} {M : Bool} (h : HY d b X Y M) (hX : -40000 ≤ X ∧ X ≤ 40000) (hY : -40000 ≤ Y ∧ Y ≤ 40000) : Cn mX9_addPerson false 2 0 0 [.ref 23, .ref b, .int (nI n), .int (nI p)] (W0 d L) (qY b d L (X + dx F n p) (Y + dy F n p) (M || mv F n p)) := by
  have t := dx_t R hn hp
  have tb := dx_b R hn hp
  refine Cn.intro gX9_addPerson rfl (Nat.le_of_ble_eq_true rfl) rfl ?_
  repeat refine x_s rfl rfl ?_
  refine x_cv (c_wayX d L H R hn hp) rfl rfl rfl (by decide) rfl (by decide) rfl (Nat.le_of_ble_eq_true rfl) (by decide) (by decide) (by decide) ?_
  rintro _ _ ⟨rfl, rfl⟩
  repeat refine x_s rfl rfl ?_
  refine x_cv (c_wayY d L H R hn hp) rfl rfl rfl (by decide) rfl (by decide) rfl (Nat.le_of_ble_eq_true rfl) (by decide) (by decide) (by decide) ?_
  rintro _ _ ⟨rfl, rfl⟩
  refine x_cv (c_W_add d L hb h (by omega) (by omega) t.1 t.2 (by omega) (by omega)) rfl rfl rfl (by decide) (wc_sh hb) (by decide) rfl (Nat.le_of_ble_eq_true rfl) (by decide) (by decide) (by decide) ?_
  rintro _ _ ⟨rfl, d', rfl, hs, hy⟩
  exact x_vret rfl rfl ⟨rfl, d', rfl, hs, hy⟩
theorem wx_b (R : RG F) {n : Nat} (hn : n < F.1 4 0) (B : Nat → Bool) : ∀ k, k ≤ F.1 9 0 → (-(40 * k : Int) ≤ wx F n B k ∧ wx F n B k ≤ 40 * k) ∧ -(40 * k : Int) ≤ wy F n B k ∧ wy F n B k ≤ 40 * k
  | 0, _ => by simp [wx, wy]
  | k + 1, hk => by
    have ih := wx_b R hn B k (by omega)
    have r6 := R.2.2.2.2.2 k (by omega)
    have tb := dx_b R hn r6.2.1
    unfold wx wy
    split <;> (push_cast; omega)
set_option maxRecDepth 100000 in
set_option maxHeartbeats 8000000 in
theorem c_addUp (H : HC d F) (R : RG F) {b n : Nat} (hb : wc b) (hn : n < F.1 4 0) {bits : Int32} {B : Nat → Bool} (hB : ∀ s, s < F.1 9 0 → bt bits s = B s) : Cn mX9_addUp false 3 0 0 [.ref 23, .ref b, .int (nI n), .int bits] (W0 d L) (qY b d L (wx F n B (F.1 9 0)) (wy F n B (F.1 9 0)) (wm F n B (F.1 9 0))) := by
  have r3 := R.2.2.1
  have lp : ∀ k, k ≤ F.1 9 0 → ∀ d1, sm [b] d d1 → HY d1 b (wx F n B k) (wy F n B k) (wm F n B k) → Ex mX9_addUp false 3 0 0 7 [some (.ref 23), some (.ref b), some (.int (nI n)), some (.int bits), some (.int (nI k))] [] (W0 d1 L) (qY b d L (wx F n B (F.1 9 0)) (wy F n B (F.1 9 0)) (wm F n B (F.1 9 0))) nX := by
    refine x_down _ ?_ ?_
    · intro d1 hs hy
      have H1 := HC_sm H hs (wc_not hb)
      repeat refine x_s rfl rfl ?_
      refine x_br rfl rfl (fun c => ?_) (fun c => absurd c (fun z => z (lp_x H1.2.2.1)))
      exact x_vret rfl rfl ⟨rfl, d1, rfl, hs, hy⟩
    · intro k hk ih d1 hs hy
      have H1 := HC_sm H hs (wc_not hb)
      have h5 := H1.2.2.2.2.2.1 k hk
      have r6 := R.2.2.2.2.2 k hk
      have wb := wx_b R hn B k (by omega)
      repeat refine x_s rfl rfl ?_
      refine x_br rfl rfl (fun c => absurd c (lp_c H1.2.2.1 hk (by omega))) (fun c => ?_)
      repeat refine x_s rfl rfl ?_
      refine x_br rfl rfl (fun c => ?_) (fun c => ?_)
      · have hc : B k = false := (hB k hk).symm.trans ((bt_test (by omega)).mp c)
        iterate 2 refine x_s rfl rfl ?_
        rw [nI_1]
        exact ih d1 hs (by simpa [wx, wy, wm, hc] using hy)
      · have hc : B k = true := by
          cases hc : B k
          · exact absurd ((bt_test (by omega)).mpr ((hB k hk).trans hc)) c
          · rfl
        repeat refine x_s rfl rfl ?_
        refine x_ald rfl rfl rfl (k := k) (rfl) (by omega) (by decide) rfl ?_
        rw [h5.2.1]
        refine x_cv (c_addPerson d1 L H1 R hb hn r6.2.1 hy (by omega) (by omega)) rfl rfl rfl (by decide) rfl (by decide) rfl (Nat.le_of_ble_eq_true rfl) (by decide) (by decide) (by decide) ?_
        rintro _ _ ⟨rfl, d2, rfl, hs2, hy2⟩
        iterate 2 refine x_s rfl rfl ?_
        rw [nI_1]
        exact ih d2 (sm_go hs hs2) (by simpa [wx, wy, wm, hc] using hy2)
  refine Cn.intro gX9_addUp rfl (Nat.le_of_ble_eq_true rfl) rfl ?_
  repeat refine x_s rfl rfl ?_
  refine x_cv (c_W_clear d L hb) rfl rfl rfl (by decide) (wc_sh hb) (by decide) rfl (Nat.le_of_ble_eq_true rfl) (by decide) (by decide) (by decide) ?_
  rintro _ _ ⟨rfl, d1, rfl, hs, hy⟩
  iterate 2 refine x_s rfl rfl ?_
  exact lp 0 (Nat.zero_le _) d1 hs hy
end
