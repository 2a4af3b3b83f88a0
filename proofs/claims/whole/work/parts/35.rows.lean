/-! WATCH: what is asked of the rows -/
/-- what refresh has laid -/
def HW (d : Nat → Nat → Int32) (F : Fr) : Prop := (∀ n, n < F.1 4 0 → d 44 n = bF (hr F n) (F.1 9 0) ∧ (∀ h, h < 100 → d (46 + n) h = sh F n h ∧ d (53 + n) h = la F n h) ∧ ∀ p, p < F.1 0 0 → d (60 + n) p = sid F n p) ∧ ∀ h, h < 100 → d 66 h = bF (fun s => decide (F.1 10 s = h)) (F.1 9 0)
def HWc : List Nat := [44, 46, 47, 48, 49, 50, 51, 53, 54, 55, 56, 57, 58, 60, 61, 62, 63, 64, 65, 66]
theorem HW_sm {S : List Nat} {d d' : Nat → Nat → Int32} {F : Fr} (R : RG F) (H : HW d F) (h : sm S d d') (hS : ∀ c, c ∈ HWc → c ∉ S) : HW d' F := by
  have e : ∀ c, c ∈ HWc → d' c = d c := fun c hc => h c (hS c hc)
  have r2 := R.2.1
  refine ⟨fun n hn => ?_, fun h hh => ?_⟩
  · obtain ⟨a1, a2, a3⟩ := H.1 n hn
    have e1 : d' (46 + n) = d (46 + n) := e _ (by rcases (by omega : n = 0 ∨ n = 1 ∨ n = 2 ∨ n = 3 ∨ n = 4 ∨ n = 5) with rfl | rfl | rfl | rfl | rfl | rfl <;> decide)
    have e2 : d' (53 + n) = d (53 + n) := e _ (by rcases (by omega : n = 0 ∨ n = 1 ∨ n = 2 ∨ n = 3 ∨ n = 4 ∨ n = 5) with rfl | rfl | rfl | rfl | rfl | rfl <;> decide)
    have e3 : d' (60 + n) = d (60 + n) := e _ (by rcases (by omega : n = 0 ∨ n = 1 ∨ n = 2 ∨ n = 3 ∨ n = 4 ∨ n = 5) with rfl | rfl | rfl | rfl | rfl | rfl <;> decide)
    rw [e 44 (by decide), e1, e2, e3]
    exact ⟨a1, a2, a3⟩
  · rw [e 66 (by decide)]
    exact H.2 h hh
/-- whom needle n points at in hour h -/
def pb (F : Fr) (h n : Nat) : Int32 := bF (fun p => pt F n p (sh F n h)) (F.1 0 0)
def clp (F : Fr) (h n m : Nat) : Bool := decide (pb F h n ≠ 0) && (decide (pb F h m ≠ 0) && decide (pb F h m &&& pb F h n = 0))
def cl (F : Fr) (h : Nat) : Bool := aF (fun n => aF (clp F h n) n) (F.1 4 0)
def wo (F : Fr) (n : Nat) : Nat → Int32
  | 0 => 0
  | k + 1 => if hr F n k then wo F n k + (if sid F n (F.1 11 k) = sh F n (F.1 10 k) then 1 else -1) else wo F n k
def lii (F : Fr) (h : Nat) : Nat → Int32
  | 0 => 0
  | k + 1 => if decide (F.1 10 k = h) && decide (0 < F.1 12 k) then lii F h k ||| ((1 : Int32) <<< (nI (F.1 11 k) &&& 31)) else lii F h k
theorem or_0 (x : Int32) : x ||| 0 = x := b_ext (fun i _ => by rw [b_or, b_0, Bool.or_false])
theorem shl_0 {k : Nat} (hk : k < 32) : (0 : Int32) <<< (nI k &&& 31) = 0 := b_ext (fun i hi => by rw [b_shl k hk 0 hi, b_0, b_0, Bool.and_false])
section
variable (d : Nat → Nat → Int32) (L : Nat → Nat → Int64) {F : Fr}
set_option maxRecDepth 100000 in
set_option maxHeartbeats 8000000 in
theorem c_hearersOf (H : HC d F) (R : RG F) (K : HW d F) {s : Nat} (hs : s < F.1 9 0) : Cn mX9_hearersOf false 1 0 0 [.ref 23, .int (nI s)] (W0 d L) (qP d L (bF (fun n => hr F n s) (F.1 4 0))) := by
  have r2 := R.2.1
  have r3 := R.2.2.1
  have lp : ∀ k, k ≤ F.1 4 0 → ∀ a, a = bF (fun n => hr F n s) k → Ex mX9_hearersOf false 1 0 0 4 [some (.ref 23), some (.int (nI s)), some (.int a), some (.int (nI k))] [] (W0 d L) (qP d L (bF (fun n => hr F n s) (F.1 4 0))) nX := by
    refine x_down _ ?_ ?_
    · intro a ha
      repeat refine x_s rfl rfl ?_
      refine x_br rfl rfl (fun c => ?_) (fun c => absurd c (fun z => z (lp_x H.2.1)))
      repeat refine x_s rfl rfl ?_
      exact x_iret rfl rfl rfl ⟨by rw [ha], rfl⟩
    · intro k hk ih a ha
      repeat refine x_s rfl rfl ?_
      refine x_br rfl rfl (fun c => absurd c (lp_c H.2.1 hk (by omega))) (fun c => ?_)
      repeat refine x_s rfl rfl ?_
      refine x_ald rfl rfl rfl (k := k) (rfl) (by omega) (by decide) rfl ?_
      rw [(K.1 k hk).1]
      iterate 10 refine x_s rfl rfl ?_
      rw [nI_1]
      refine ih _ ?_
      have hb := bF_bt (hr F k) (F.1 9 0) s (by omega)
      rw [decide_eq_true hs, Bool.true_and] at hb
      cases hc : hr F k s
      · rw [(bt_test (by omega)).mpr (hb.trans hc), shl_0 (by omega), or_0]
        simp [bF, hc, ha]
      · rw [(bt_test1 (by omega)).mpr (hb.trans hc)]
        simp [bF, hc, ha]
  refine Cn.intro gX9_hearersOf rfl (Nat.le_of_ble_eq_true rfl) rfl ?_
  iterate 4 refine x_s rfl rfl ?_
  exact lp 0 (Nat.zero_le _) 0 rfl
set_option maxRecDepth 100000 in
set_option maxHeartbeats 8000000 in
theorem c_pointsAt (R : RG F) (K : HW d F) {n p h : Nat} (hn : n < F.1 4 0) (hp : p < F.1 0 0) (hh : h < 100) : Cn mX9_pointsAt false 1 0 0 [.ref 23, .int (nI n), .int (nI p), .int (nI h)] (W0 d L) (qP d L (bI (pt F n p (sh F n h)))) := by
  have r1 := R.1
  have r2 := R.2.1
  have k1 := K.1 n hn
  refine Cn.intro gX9_pointsAt rfl (Nat.le_of_ble_eq_true rfl) rfl ?_
  repeat refine x_s rfl rfl ?_
  refine x_ald rfl rfl rfl (k := n) rfl (by omega) (by decide) (xav_rows (by omega)) ?_
  repeat refine x_s rfl rfl ?_
  refine x_ald rfl (SH_rows (by omega)) rfl (k := h) (rfl) (by omega) (by decide) rfl ?_
  rw [(k1.2.1 h hh).1]
  repeat refine x_s rfl rfl ?_
  refine x_br rfl rfl (fun c => ?_) (fun c => ?_)
  · repeat refine x_s rfl rfl ?_
    refine x_iret rfl rfl rfl ⟨congrArg (fun z => some (Value.int z)) ?_, rfl⟩
    have c' : sh F n h = 8 := c
    simp [bI, pt, c']
  · have c' : ¬ sh F n h = 8 := c
    repeat refine x_s rfl rfl ?_
    refine x_ald rfl rfl rfl (k := n) rfl (by omega) (by decide) (xav_sides (by omega)) ?_
    repeat refine x_s rfl rfl ?_
    refine x_ald rfl (SH_sides (by omega)) rfl (k := p) (rfl) (by omega) (by decide) rfl ?_
    rw [k1.2.2 p hp]
    refine x_br rfl rfl (fun c2 => ?_) (fun c2 => ?_)
    · repeat refine x_s rfl rfl ?_
      refine x_iret rfl rfl rfl ⟨congrArg (fun z => some (Value.int z)) ?_, rfl⟩
      have c3 : ¬ sh F n h = sid F n p := c2
      simp [bI, pt, c3]
    · repeat refine x_s rfl rfl ?_
      refine x_iret rfl rfl rfl ⟨congrArg (fun z => some (Value.int z)) ?_, rfl⟩
      have c3 : sh F n h = sid F n p := c2
      simp [bI, pt, c3, c']
      exact fun z => absurd (c3.trans z) c'
set_option maxRecDepth 100000 in
set_option maxHeartbeats 8000000 in
theorem c_pointersAt (H : HC d F) (R : RG F) (K : HW d F) {p h : Nat} (hp : p < F.1 0 0) (hh : h < 100) : Cn mX9_pointersAt false 2 0 0 [.ref 23, .int (nI p), .int (nI h)] (W0 d L) (qP d L (bF (fun n => pt F n p (sh F n h)) (F.1 4 0))) := by
  have r2 := R.2.1
  have lp : ∀ k, k ≤ F.1 4 0 → ∀ a, a = bF (fun n => pt F n p (sh F n h)) k → Ex mX9_pointersAt false 2 0 0 5 [some (.ref 23), some (.int (nI p)), some (.int (nI h)), some (.int a), some (.int (nI k))] [] (W0 d L) (qP d L (bF (fun n => pt F n p (sh F n h)) (F.1 4 0))) nX := by
    refine x_down _ ?_ ?_
    · intro a ha
      repeat refine x_s rfl rfl ?_
      refine x_br rfl rfl (fun c => ?_) (fun c => absurd c (fun z => z (lp_x H.2.1)))
      repeat refine x_s rfl rfl ?_
      exact x_iret rfl rfl rfl ⟨by rw [ha], rfl⟩
    · intro k hk ih a ha
      repeat refine x_s rfl rfl ?_
      refine x_br rfl rfl (fun c => absurd c (lp_c H.2.1 hk (by omega))) (fun c => ?_)
      repeat refine x_s rfl rfl ?_
      refine x_cv (c_pointsAt d L R K hk hp hh) rfl rfl rfl (by decide) rfl (by decide) rfl (Nat.le_of_ble_eq_true rfl) (by decide) (by decide) (by decide) ?_
      rintro _ _ ⟨rfl, rfl⟩
      refine x_br rfl rfl (fun c => ?_) (fun c => ?_)
      · have hb := bI_0.mp c
        iterate 2 refine x_s rfl rfl ?_
        rw [nI_1]
        exact ih _ (by simp [bF, hb, ha])
      · have hb := bI_n0.mp c
        iterate 8 refine x_s rfl rfl ?_
        rw [nI_1]
        exact ih _ (by simp [bF, hb, ha])
  refine Cn.intro gX9_pointersAt rfl (Nat.le_of_ble_eq_true rfl) rfl ?_
  iterate 4 refine x_s rfl rfl ?_
  exact lp 0 (Nat.zero_le _) 0 rfl
set_option maxRecDepth 100000 in
set_option maxHeartbeats 8000000 in
theorem c_pointedBy (H : HC d F) (R : RG F) (K : HW d F) {n h : Nat} (hn : n < F.1 4 0) (hh : h < 100) : Cn mX9_pointedBy false 2 0 0 [.ref 23, .int (nI n), .int (nI h)] (W0 d L) (qP d L (pb F h n)) := by
  have r1 := R.1
  have lp : ∀ k, k ≤ F.1 0 0 → ∀ a, a = bF (fun p => pt F n p (sh F n h)) k → Ex mX9_pointedBy false 2 0 0 5 [some (.ref 23), some (.int (nI n)), some (.int (nI h)), some (.int a), some (.int (nI k))] [] (W0 d L) (qP d L (pb F h n)) nX := by
    refine x_down _ ?_ ?_
    · intro a ha
      repeat refine x_s rfl rfl ?_
      refine x_br rfl rfl (fun c => ?_) (fun c => absurd c (fun z => z (lp_x H.1)))
      repeat refine x_s rfl rfl ?_
      exact x_iret rfl rfl rfl ⟨by rw [ha]; rfl, rfl⟩
    · intro k hk ih a ha
      repeat refine x_s rfl rfl ?_
      refine x_br rfl rfl (fun c => absurd c (lp_c H.1 hk (by omega))) (fun c => ?_)
      repeat refine x_s rfl rfl ?_
      refine x_cv (c_pointsAt d L R K hn hk hh) rfl rfl rfl (by decide) rfl (by decide) rfl (Nat.le_of_ble_eq_true rfl) (by decide) (by decide) (by decide) ?_
      rintro _ _ ⟨rfl, rfl⟩
      refine x_br rfl rfl (fun c => ?_) (fun c => ?_)
      · have hb := bI_0.mp c
        iterate 2 refine x_s rfl rfl ?_
        rw [nI_1]
        exact ih _ (by simp [bF, hb, ha])
      · have hb := bI_n0.mp c
        iterate 8 refine x_s rfl rfl ?_
        rw [nI_1]
        exact ih _ (by simp [bF, hb, ha])
  refine Cn.intro gX9_pointedBy rfl (Nat.le_of_ble_eq_true rfl) rfl ?_
  iterate 4 refine x_s rfl rfl ?_
  exact lp 0 (Nat.zero_le _) 0 rfl
set_option maxRecDepth 100000 in
set_option maxHeartbeats 8000000 in
theorem c_clashesIn (H : HC d F) (R : RG F) (K : HW d F) {h : Nat} (hh : h < 100) : Cn mX9_clashesIn false 3 0 0 [.ref 23, .int (nI h)] (W0 d L) (qP d L (bI (cl F h))) := by
  have r2 := R.2.1
  have lp : ∀ k, k ≤ F.1 4 0 → aF (fun n => aF (clp F h n) n) k = false → ∀ o1 o2 o3, Ex mX9_clashesIn false 3 0 0 2 [some (.ref 23), some (.int (nI h)), some (.int (nI k)), o1, o2, o3] [] (W0 d L) (qP d L (bI (cl F h))) nX := by
    refine x_down _ ?_ ?_
    · intro ha o1 o2 o3
      repeat refine x_s rfl rfl ?_
      refine x_br rfl rfl (fun c => ?_) (fun c => absurd c (fun z => z (lp_x H.2.1)))
      repeat refine x_s rfl rfl ?_
      exact x_iret rfl rfl rfl ⟨by rw [cl, ha]; rfl, rfl⟩
    · intro k hk ih ha o1 o2 o3
      have hit : ∀ m, m < k → clp F h k m = true → cl F h = true := fun m hm z => aF_iff.mpr ⟨k, hk, aF_iff.mpr ⟨m, hm, z⟩⟩
      repeat refine x_s rfl rfl ?_
      refine x_br rfl rfl (fun c => absurd c (lp_c H.2.1 hk (by omega))) (fun c => ?_)
      repeat refine x_s rfl rfl ?_
      refine x_cv (c_pointedBy d L H R K hk hh) rfl rfl rfl (by decide) rfl (by decide) rfl (Nat.le_of_ble_eq_true rfl) (by decide) (by decide) (by decide) ?_
      rintro _ _ ⟨rfl, rfl⟩
      have lp2 : ∀ m, m ≤ k → aF (clp F h k) m = false → ∀ o, Ex mX9_clashesIn false 3 0 0 26 [some (.ref 23), some (.int (nI h)), some (.int (nI k)), some (.int (pb F h k)), some (.int (nI m)), o] [] (W0 d L) (qP d L (bI (cl F h))) nX := by
        refine x_down _ ?_ ?_
        · intro hb o
          iterate 2 refine x_s rfl rfl ?_
          refine x_br rfl rfl (fun c => ?_) (fun c => absurd c (fun z => z (Int32.le_refl _)))
          iterate 2 refine x_s rfl rfl ?_
          rw [nI_1]
          exact ih (by simp [aF, ha, hb]) _ _ _
        · intro m hm ih2 hb o
          iterate 2 refine x_s rfl rfl ?_
          refine x_br rfl rfl (fun c => absurd c (nI_ge hm (by omega))) (fun c => ?_)
          repeat refine x_s rfl rfl ?_
          refine x_br rfl rfl (fun c1 => ?_) (fun c1 => ?_)
          · iterate 2 refine x_s rfl rfl ?_
            rw [nI_1]
            refine ih ?_ _ _ _
            have e : clp F h k = fun _ => false := by
              funext j
              simp [clp, show pb F h k = 0 from c1]
            simp [aF, ha]
            rw [aF_no]
            intro j _
            rw [e]
          · repeat refine x_s rfl rfl ?_
            refine x_cv (c_pointedBy d L H R K (n := m) (by omega) hh) rfl rfl rfl (by decide) rfl (by decide) rfl (Nat.le_of_ble_eq_true rfl) (by decide) (by decide) (by decide) ?_
            rintro _ _ ⟨rfl, rfl⟩
            iterate 2 refine x_s rfl rfl ?_
            refine x_br rfl rfl (fun c2 => ?_) (fun c2 => ?_)
            · iterate 2 refine x_s rfl rfl ?_
              rw [nI_1]
              exact ih2 (by simp [aF, hb, clp, show pb F h m = 0 from c2]) _
            · repeat refine x_s rfl rfl ?_
              refine x_br rfl rfl (fun c3 => ?_) (fun c3 => ?_)
              · iterate 2 refine x_s rfl rfl ?_
                rw [nI_1]
                exact ih2 (by simp [aF, hb, clp]; exact fun _ _ => c3) _
              · repeat refine x_s rfl rfl ?_
                exact x_iret rfl rfl rfl ⟨by rw [hit m hm (by simp [clp]; exact ⟨c1, c2, c3⟩)]; rfl, rfl⟩
      iterate 3 refine x_s rfl rfl ?_
      exact lp2 0 (Nat.zero_le _) rfl _
  refine Cn.intro gX9_clashesIn rfl (Nat.le_of_ble_eq_true rfl) rfl ?_
  iterate 2 refine x_s rfl rfl ?_
  by_cases h0 : 1 ≤ F.1 4 0
  · exact lp 1 h0 rfl _ _ _
  · repeat refine x_s rfl rfl ?_
    have e0 : F.1 4 0 = 0 := by omega
    have e1 : d 29 0 = 0 := by rw [H.2.1, e0]; rfl
    refine x_br rfl rfl (fun c => ?_) (fun c => absurd c (fun z => z (by rw [e1]; decide)))
    repeat refine x_s rfl rfl ?_
    exact x_iret rfl rfl rfl ⟨by rw [cl, e0]; rfl, rfl⟩
end
