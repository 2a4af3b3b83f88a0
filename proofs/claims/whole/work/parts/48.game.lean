/-! COUPLES -/
def yC (one other c : Nat) : Int32 := ((nI c >>> ((1 : Int32) &&& 31)) <<< (nI one &&& 31)) ||| ((nI c &&& 1) <<< (nI other &&& 31))
def HG (d : Nat → Nat → Int32) (F : Fr) (one other ho : Nat) : Prop := ∀ c, c < 4 → d 110 c = accB F ho (yC one other c)
def gn (at0 : Int32) (choice p much : Int32) : Int32 := 5 * choice - (if at0 = p then much else 0)
/-- whether couple c rests: g what each couple leads to -/
def rst (g : Nat → Int32) (c : Nat) (one other much : Int32) : Bool := decide (gn (g (c ^^^ 2)) (1 - (nI c >>> ((1 : Int32) &&& 31))) one much ≤ gn (g c) (nI c >>> ((1 : Int32) &&& 31)) one much) && decide (gn (g (c ^^^ 1)) (1 - (nI c &&& 1)) other much ≤ gn (g c) (nI c &&& 1) other much)
theorem x2_4 : ∀ c, c < 4 → nI c ^^^ 2 = nI (c ^^^ 2) ∧ c ^^^ 2 < 4 ∧ nI c ^^^ 1 = nI (c ^^^ 1) ∧ c ^^^ 1 < 4 := by decide +kernel
section
variable (d : Nat → Nat → Int32) (L : Nat → Nat → Int64) {F : Fr}
set_option maxRecDepth 100000 in
set_option maxHeartbeats 8000000 in
theorem c_judgeCouples (H : HC d F) (R : RG F) (K : HW d F) {one other ho : Nat} (hh : ho < 100) : Cn mX11_judgeCouples false 8 0 0 [.ref 0, .int (nI one), .int (nI other), .int (nI ho)] (W0 d L) (fun r h => r = none ∧ ∃ d', h = W0 d' L ∧ sm [40, 70, 67, 71, 72, 73, 74, 75, 76, 69, 78, 79, 43, 80, 110] d d' ∧ HG d' F one other ho) := by
  have lp : ∀ k, k ≤ 4 → ∀ d1, sm [40, 70, 67, 71, 72, 73, 74, 75, 76, 69, 78, 79, 43, 80, 110] d d1 → H67 d1 F 9 ho → H71 d1 F ho → (∀ c, c < k → d1 110 c = accB F ho (yC one other c)) → Ex mX11_judgeCouples false 8 0 0 21 [some (.ref 0), some (.int (nI one)), some (.int (nI other)), some (.int (nI ho)), some (.int (nI k))] [] (W0 d1 L) (fun r h => r = none ∧ ∃ d', h = W0 d' L ∧ sm [40, 70, 67, 71, 72, 73, 74, 75, 76, 69, 78, 79, 43, 80, 110] d d' ∧ HG d' F one other ho) nX := by
    refine x_down _ ?_ ?_
    · intro d1 hs h6 h7 hc
      repeat refine x_s rfl rfl ?_
      refine x_br rfl rfl (fun c => ?_) (fun c => absurd c (fun z => z (by decide)))
      exact x_vret rfl rfl ⟨rfl, d1, rfl, hs, hc⟩
    · intro k hk ih d1 hs h6 h7 hc
      have H1 := HC_sm H hs (by decide)
      have K1 := HW_sm R K hs (by decide)
      repeat refine x_s rfl rfl ?_
      refine x_br rfl rfl (fun c => absurd c (nI_ge (b := 4) hk (by decide))) (fun c => ?_)
      repeat refine x_s rfl rfl ?_
      refine x_cv (c_hearBesides d1 L H1 R K1 hh h6 h7 (yC one other k)) rfl rfl rfl (by decide) rfl (by decide) rfl (Nat.le_of_ble_eq_true rfl) (by decide) (by decide) (by decide) ?_
      rintro _ _ ⟨rfl, d2, rfl, hs2, hk2⟩
      repeat refine x_s rfl rfl ?_
      refine x_cv (c_accuse d2 L (HC_sm H1 hs2 (by decide)) R (HW_sm R K1 hs2 (by decide)) hk2 (-1)) rfl rfl rfl (by decide) rfl (by decide) rfl (Nat.le_of_ble_eq_true rfl) (by decide) (by decide) (by decide) ?_
      rintro _ _ ⟨rfl, d3, rfl, hs3⟩
      rw [acc_all R]
      refine x_iast rfl rfl (k := k) (rfl) (by omega) (by decide) rfl ?_
      iterate 2 refine x_s rfl rfl ?_
      rw [nI_1 k]
      refine ih _ (sm_up (sm_go hs (sm_go (sm_in hs2 (by decide)) (sm_in hs3 (by decide)))) (by decide)) ?_ ?_ ?_
      · exact H67_sm h6 (sm_up (sm_tr hs2 hs3 (U := [69, 78, 79, 43, 80, 110]) (by simp; omega)) (by decide)) (by decide)
      · exact H71_sm R h7 (sm_up (sm_tr hs2 hs3 (U := [69, 78, 79, 43, 80, 110]) (by simp; omega)) (by decide)) (by decide)
      · intro c hc2
        by_cases e : c = k
        · subst e
          rw [up2_eq]
          rfl
        · rw [up2_k e, hs3 110 (by decide), hs2 110 (by decide)]
          exact hc c (by omega)
  refine Cn.intro gX11_judgeCouples rfl (Nat.le_of_ble_eq_true rfl) rfl ?_
  repeat refine x_s rfl rfl ?_
  refine x_cv (c_noteLies d L H R (dg := 9) (ho := ho) (by decide)) rfl rfl rfl (by decide) rfl (by decide) rfl (Nat.le_of_ble_eq_true rfl) (by decide) (by decide) (by decide) ?_
  rintro _ _ ⟨rfl, d1, rfl, hs, h6⟩
  repeat refine x_s rfl rfl ?_
  refine x_cv (c_noteSums d1 L (HC_sm H hs (by decide)) R (HW_sm R K hs (by decide)) hh) rfl rfl rfl (by decide) rfl (by decide) rfl (Nat.le_of_ble_eq_true rfl) (by decide) (by decide) (by decide) ?_
  rintro _ _ ⟨rfl, d2, rfl, hs2, h7⟩
  iterate 2 refine x_s rfl rfl ?_
  exact lp 0 (Nat.zero_le _) d2 (sm_go (sm_in hs (by decide)) (sm_in hs2 (by decide))) (H67_sm h6 hs2 (by decide)) h7 (fun c hc => by omega)
set_option maxRecDepth 100000 in
set_option maxHeartbeats 8000000 in
theorem c_gain {c : Nat} (hc : c < 4) {ix : Int32} (hi : ix = nI c) (ch p much : Int32) : Cn mX11_gain false 1 0 0 [.ref 0, .int ch, .int ix, .int p, .int much] (W0 d L) (qP d L (gn (d 110 c) ch p much)) := by
  refine Cn.intro gX11_gain rfl (Nat.le_of_ble_eq_true rfl) rfl ?_
  repeat refine x_s rfl rfl ?_
  refine x_ald rfl rfl rfl (k := c) (hi) (by omega) (by decide) rfl ?_
  repeat refine x_s rfl rfl ?_
  refine x_br rfl rfl (fun c1 => ?_) (fun c1 => ?_)
  · repeat refine x_s rfl rfl ?_
    refine x_iret rfl rfl rfl ⟨congrArg (fun z => some (Value.int z)) ?_, rfl⟩
    rw [gn, if_neg c1]
  · repeat refine x_s rfl rfl ?_
    refine x_iret rfl rfl rfl ⟨congrArg (fun z => some (Value.int z)) ?_, rfl⟩
    rw [gn, if_pos c1]
set_option maxRecDepth 100000 in
set_option maxHeartbeats 8000000 in
theorem c_rests {c : Nat} (hc : c < 4) (one other much : Int32) : Cn mX11_rests false 2 0 0 [.ref 0, .int (nI c), .int one, .int other, .int much] (W0 d L) (qP d L (bI (rst (d 110) c one other much))) := by
  have hx := x2_4 c hc
  refine Cn.intro gX11_rests rfl (Nat.le_of_ble_eq_true rfl) rfl ?_
  repeat refine x_s rfl rfl ?_
  refine x_cv (c_gain d L hc rfl _ _ _) rfl rfl rfl (by decide) rfl (by decide) rfl (Nat.le_of_ble_eq_true rfl) (by decide) (by decide) (by decide) ?_
  rintro _ _ ⟨rfl, rfl⟩
  repeat refine x_s rfl rfl ?_
  refine x_cv (c_gain d L hx.2.1 hx.1 _ _ _) rfl rfl rfl (by decide) rfl (by decide) rfl (Nat.le_of_ble_eq_true rfl) (by decide) (by decide) (by decide) ?_
  rintro _ _ ⟨rfl, rfl⟩
  refine x_br rfl rfl (fun c1 => ?_) (fun c1 => ?_)
  · repeat refine x_s rfl rfl ?_
    refine x_iret rfl rfl rfl ⟨congrArg (fun z => some (Value.int z)) ?_, rfl⟩
    rw [rst, decide_eq_false (Int32.not_le.mpr c1)]
    rfl
  · repeat refine x_s rfl rfl ?_
    refine x_cv (c_gain d L hc rfl _ _ _) rfl rfl rfl (by decide) rfl (by decide) rfl (Nat.le_of_ble_eq_true rfl) (by decide) (by decide) (by decide) ?_
    rintro _ _ ⟨rfl, rfl⟩
    repeat refine x_s rfl rfl ?_
    refine x_cv (c_gain d L hx.2.2.2 hx.2.2.1 _ _ _) rfl rfl rfl (by decide) rfl (by decide) rfl (Nat.le_of_ble_eq_true rfl) (by decide) (by decide) (by decide) ?_
    rintro _ _ ⟨rfl, rfl⟩
    refine x_br rfl rfl (fun c2 => ?_) (fun c2 => ?_)
    · repeat refine x_s rfl rfl ?_
      refine x_iret rfl rfl rfl ⟨congrArg (fun z => some (Value.int z)) ?_, rfl⟩
      rw [rst, decide_eq_false (Int32.not_le.mpr c2), Bool.and_false]
      rfl
    · repeat refine x_s rfl rfl ?_
      refine x_iret rfl rfl rfl ⟨congrArg (fun z => some (Value.int z)) ?_, rfl⟩
      rw [rst, decide_eq_true (Int32.not_lt.mp c1), decide_eq_true (Int32.not_lt.mp c2)]
      rfl
end
