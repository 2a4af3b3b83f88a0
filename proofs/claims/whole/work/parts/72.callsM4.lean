/-! THE CALLS (model): butFor, clash, suspects -/
section
variable (d : Nat → Nat → Int32) (L : Nat → Nat → Int64) {F : Fr} {Z : Sn}
theorem HL_noD {xp xn : Bool} (H : HL d F xp xn) (k : Nat) : HL (up2 d 134 k 0) (noD F k) xp xn := by
  obtain ⟨h1, h2, h3, h4, h5, h6, h7, h8⟩ := H
  refine ⟨h1, h2, h3, h4, h5, fun s hs => ?_, h7, h8⟩
  have q := h6 s hs
  refine ⟨q.1, q.2.1, ?_⟩
  show (if s = k then 0 else d 134 s) = nI (if s = k then 0 else F.1 12 s)
  by_cases e : s = k
  · simp [e]
    rfl
  · simp only [if_neg e]
    exact q.2.2
theorem RM_noD {xp xn : Bool} (R : RM F xp xn) (k : Nat) : RM (noD F k) xp xn := by
  obtain ⟨r1, r2, r3, r4, r5, r6⟩ := R
  refine ⟨r1, r2, r3, r4, r5, fun s hs => ?_⟩
  have q := r6 s hs
  refine ⟨q.1, q.2.1, ?_⟩
  show (if s = k then 0 else F.1 12 s) ≤ 9
  split
  · exact Nat.zero_le _
  · exact q.2.2
theorem HL_back {xp xn : Bool} {d' : Nat → Nat → Int32} {k : Nat} (H : HL d F xp xn) (hs : sm [130, 131, 134] d d') (h : ∀ s, s < F.1 9 0 → d' 134 s = d 134 s) : HL d' F xp xn := by
  have e : ∀ c, c ∉ [130, 131, 134] → d' c = d c := hs
  unfold HL RlM at *
  rw [e 112 (by decide), e 113 (by decide), e 114 (by decide), e 115 (by decide), e 116 (by decide), e 117 (by decide), e 132 (by decide), e 133 (by decide), e 135 (by decide), e 136 (by decide), e 137 (by decide)]
  obtain ⟨h1, h2, h3, h4, h5, h6, h7, h8⟩ := H
  refine ⟨h1, h2, h3, h4, h5, fun s hs2 => ?_, h7, h8⟩
  rw [h s hs2]
  exact h6 s hs2
set_option maxRecDepth 100000 in
set_option maxHeartbeats 1600000 in
theorem q_butFor (H : HB d F) (R : RG F) (x : Int32) : Cn mX12_butFor false 12 0 0 [.ref 112, .int x] (W0 d L) (qM d L (inB x (F.1 9 0)) (nI (bfc F (iN x) (F.1 4 0))) (1)) := by
  have r1 := R.1
  have r2 := R.2.1
  have r3 := R.2.2.1
  refine Cn.intro gX12_butFor rfl (Nat.le_of_ble_eq_true rfl) rfl ?_
  repeat refine x_s rfl rfl ?_
  refine x_put rfl rfl (by decide) rfl ⟨rfl, rfl⟩ (Or.inl rfl) ?_
  have m0 : mS d (up2 d 112 0 0) := mS_0 0
  have z0 : up2 d 112 0 0 112 0 = 0 := up2_eq
  have H0 := HB_mS R H m0
  generalize hd0 : up2 d 112 0 0 = d0 at m0 z0 H0 ⊢
  repeat refine x_s rfl rfl ?_
  refine x_cv (k_isSaying d0 L z0 H0.2.2.2.2.1.1 (by omega) x) rfl rfl rfl (by decide) rfl (by decide) rfl (Nat.le_of_ble_eq_true rfl) (by decide) (by decide) (by decide) ?_
  rintro _ _ ⟨rfl, rfl⟩
  cases hb : inB x (F.1 9 0)
  · rw [if_neg (by decide)]
    refine x_br rfl rfl (fun c => absurd c (fun z => z rfl)) (fun c => ?_)
    repeat refine x_s rfl rfl ?_
    exact x_iret rfl rfl rfl ⟨rfl, _, rfl, mS_f m0 (Or.inl rfl), rfl⟩
  rw [if_pos rfl]
  refine x_br rfl rfl (fun c => ?_) (fun c => absurd c (fun z => absurd z (by decide)))
  obtain ⟨q1, q2, q3⟩ := inB_iN hb
  generalize iN x = k at q1 q2 q3 ⊢
  subst q2
  repeat refine x_s rfl rfl ?_
  refine x_cv (k_lays0 d0 L H0 R true) rfl rfl rfl (by decide) rfl (by decide) rfl (Nat.le_of_ble_eq_true rfl) (by decide) (by decide) (by decide) ?_
  rintro _ _ ⟨rfl, d1, rfl, m1, t1, H1⟩
  rw [if_pos rfl, fst0_self] at H1
  have M1 := mS_tr m0 m1
  have T1 : d1 112 0 = 0 := t1.trans z0
  have RM1 := RM_of R
  have h6 := H1.2.2.2.2.2.1 k q1
  repeat refine x_s rfl rfl ?_
  refine x_ald rfl rfl rfl (k := k) (rfl) (by omega) (by decide) rfl ?_
  rw [h6.2.2]
  have lp : ∀ n, n ≤ F.1 4 0 → ∀ a, a = nI (bfc F k n) → ∀ d2, sm [130, 131, 134] d1 d2 → (∀ s, s < F.1 9 0 → d2 134 s = d1 134 s) → ∀ o1 o2, Ex mX12_butFor false 12 0 0 32 [some (.ref 112), some (.int (nI k)), some (.int a), some (.int (nI (F.1 12 k))), some (.int (nI n)), o1, o2] [] (W0 d2 L) (qM d L true (nI (bfc F k (F.1 4 0))) 1) nX := by
    refine x_down _ ?_ ?_
    · intro a ha d2 hs2 he o1 o2
      have H2 := HL_back (k := k) d1 H1 hs2 he
      repeat refine x_s rfl rfl ?_
      refine x_br rfl rfl (fun c => ?_) (fun c => absurd c (fun z => z (lp_x H2.2.1)))
      repeat refine x_s rfl rfl ?_
      exact x_iret rfl rfl rfl ⟨by rw [ha]; rfl, d2, rfl, mS_go M1 hs2 (by decide) (by decide) (by decide) (by decide) (by decide), by rw [hs2 112 (by decide)]; exact T1⟩
    · intro n hn ih a ha d2 hs2 he o1 o2
      have H2 := HL_back (k := k) d1 H1 hs2 he
      repeat refine x_s rfl rfl ?_
      refine x_br rfl rfl (fun c => absurd c (lp_c H2.2.1 hn (by omega))) (fun c => ?_)
      have lp2 : ∀ h, h ≤ 100 → ∀ b, b = nI (bfc F k n + cF (fun h => decide (shB F n (Bx F n k) h ≠ sh F n h)) h) → ∀ d3, sm [130, 131, 134] d1 d3 → (∀ s, s < F.1 9 0 → d3 134 s = d1 134 s) → ∀ o, Ex mX12_butFor false 12 0 0 44 [some (.ref 112), some (.int (nI k)), some (.int b), some (.int (nI (F.1 12 k))), some (.int (nI n)), some (.int (nI h)), o] [] (W0 d3 L) (qM d L true (nI (bfc F k (F.1 4 0))) 1) nX := by
        refine x_down _ ?_ ?_
        · intro b hb d3 hs3 he3 o
          repeat refine x_s rfl rfl ?_
          refine x_br rfl rfl (fun c => ?_) (fun c => absurd c (fun z => z (by decide)))
          iterate 2 refine x_s rfl rfl ?_
          rw [nI_1]
          exact ih _ hb d3 hs3 he3 _ _
        · intro h hh ih2 b hb d3 hs3 he3 o
          have H3 := HL_back (k := k) d1 H1 hs3 he3
          repeat refine x_s rfl rfl ?_
          refine x_br rfl rfl (fun c => absurd c (nI_ge (b := 100) hh (by decide))) (fun c => ?_)
          repeat refine x_s rfl rfl ?_
          refine x_cv (k_showsIn d3 L H3 RM1 (n := n) (h := h) (Or.inl hn) hh) rfl rfl rfl (by decide) rfl (by decide) rfl (Nat.le_of_ble_eq_true rfl) (by decide) (by decide) (by decide) ?_
          rintro _ _ ⟨rfl, d4, rfl, hs4⟩
          have H4 := HL_sm H3 hs4 (by decide)
          repeat refine x_s rfl rfl ?_
          refine x_iast rfl rfl (k := k) (rfl) (by omega) (by decide) rfl ?_
          have H5 := HL_noD d4 H4 k
          repeat refine x_s rfl rfl ?_
          refine x_cv (k_showsIn _ L H5 (RM_noD RM1 k) (n := n) (h := h) (Or.inl hn) hh) rfl rfl rfl (by decide) rfl (by decide) rfl (Nat.le_of_ble_eq_true rfl) (by decide) (by decide) (by decide) ?_
          rintro _ _ ⟨rfl, d5, rfl, hs5⟩
          rw [sh_noD]
          have fin2 : ∀ (c : Int32), c = nI (bfc F k n + cF (fun h => decide (shB F n (Bx F n k) h ≠ sh F n h)) (h + 1)) → Ex mX12_butFor false 12 0 0 89 [some (.ref 112), some (.int (nI k)), some (.int c), some (.int (nI (F.1 12 k))), some (.int (nI n)), some (.int (nI h)), some (.int (sh F n h))] [] (W0 d5 L) (qM d L true (nI (bfc F k (F.1 4 0))) 1) nX := by
            intro c hc
            repeat refine x_s rfl rfl ?_
            refine x_iast rfl rfl (k := k) (rfl) (by omega) (by decide) rfl ?_
            iterate 2 refine x_s rfl rfl ?_
            rw [nI_1]
            refine ih2 _ hc _ ?_ ?_ _
            · exact sm_up (sm_go hs3 (sm_go (sm_in hs4 (by decide)) (sm_go (sm_up sm_rfl (by decide)) (sm_in hs5 (by decide))))) (by decide)
            · intro s hs
              show (if s = k then nI (F.1 12 k) else d5 134 s) = _
              by_cases e : s = k
              · rw [if_pos e, e]
                exact h6.2.2.symm
              · rw [if_neg e, hs5 134 (by decide)]
                show (if s = k then 0 else d4 134 s) = _
                rw [if_neg e, hs4 134 (by decide)]
                exact he3 s hs
          repeat refine x_s rfl rfl ?_
          refine x_br rfl rfl (fun c1 => ?_) (fun c1 => ?_)
          · have c2 : shB F n (Bx F n k) h = sh F n h := c1
            iterate 3 refine x_s rfl rfl ?_
            refine fin2 _ ?_
            rw [hb, cF, if_neg (by simp [c2])]
            exact Int32.add_zero _
          · have c2 : ¬ shB F n (Bx F n k) h = sh F n h := c1
            iterate 4 refine x_s rfl rfl ?_
            refine fin2 _ ?_
            rw [hb, cF, if_pos (by simp [c2]), nI_1]
            rfl
      iterate 2 refine x_s rfl rfl ?_
      exact lp2 0 (Nat.zero_le _) a ha d2 hs2 he _
  iterate 3 refine x_s rfl rfl ?_
  exact lp 0 (Nat.zero_le _) 0 rfl d1 sm_rfl (fun _ _ => rfl) _ _
set_option maxRecDepth 100000 in
set_option maxHeartbeats 1600000 in
theorem q_clash (H : HB d F) (R : RG F) : Cn mX12_clash false 12 0 0 [.ref 112] (W0 d L) (qM d L (true) (fF (cl F) 0 100) (1)) := by
  have r1 := R.1
  have r2 := R.2.1
  have r3 := R.2.2.1
  refine Cn.intro gX12_clash rfl (Nat.le_of_ble_eq_true rfl) rfl ?_
  repeat refine x_s rfl rfl ?_
  refine x_put rfl rfl (by decide) rfl ⟨rfl, rfl⟩ (Or.inl rfl) ?_
  have m0 : mS d (up2 d 112 0 0) := mS_0 0
  have z0 : up2 d 112 0 0 112 0 = 0 := up2_eq
  have H0 := HB_mS R H m0
  generalize hd0 : up2 d 112 0 0 = d0 at m0 z0 H0 ⊢
  repeat refine x_s rfl rfl ?_
  refine x_cv (k_lays0 d0 L H0 R true) rfl rfl rfl (by decide) rfl (by decide) rfl (Nat.le_of_ble_eq_true rfl) (by decide) (by decide) (by decide) ?_
  rintro _ _ ⟨rfl, d1, rfl, m1, t1, H1⟩
  rw [if_pos rfl, fst0_self] at H1
  have M1 := mS_tr m0 m1
  have T1 : d1 112 0 = 0 := t1.trans z0
  have RM1 := RM_of R
  have lp : ∀ h, h ≤ 100 → ∀ V, V = fF (cl F) h (100 - h) → ∀ d2, sm [130, 131, 139] d1 d2 → ∀ o1 o2, Ex mX12_clash false 12 0 0 12 [some (.ref 112), some (.int (nI h)), o1, o2] [] (W0 d2 L) (qM d L true V 1) nX := by
    refine x_down _ ?_ ?_
    · intro V hV d2 hs2 o1 o2
      repeat refine x_s rfl rfl ?_
      refine x_br rfl rfl (fun c => ?_) (fun c => absurd c (fun z => z (by decide)))
      repeat refine x_s rfl rfl ?_
      exact x_iret rfl rfl rfl ⟨by rw [hV]; rfl, d2, rfl, mS_go M1 hs2 (by decide) (by decide) (by decide) (by decide) (by decide), by rw [hs2 112 (by decide)]; exact T1⟩
    · intro h hh ih V hV d2 hs2 o1 o2
      repeat refine x_s rfl rfl ?_
      refine x_br rfl rfl (fun c => absurd c (nI_ge (b := 100) hh (by decide))) (fun c => ?_)
      have pairs : ∀ d3, sm [130, 131, 139] d1 d3 → (∀ n, n < F.1 4 0 → d3 139 n = pb F h n) → ∀ a, a ≤ F.1 4 0 → (∀ m n, m < a → m < n → n < F.1 4 0 → clp F h n m = false) → ∀ o, Ex mX12_clash false 12 0 0 48 [some (.ref 112), some (.int (nI h)), some (.int (nI a)), o] [] (W0 d3 L) (qM d L true V 1) nX := by
        intro d3 hs3 hp
        have H3 := HL_sm H1 hs3 (by decide)
        refine x_down _ ?_ ?_
        · intro hno o
          repeat refine x_s rfl rfl ?_
          refine x_br rfl rfl (fun c => ?_) (fun c => absurd c (fun z => z (lp_x H3.2.1)))
          iterate 2 refine x_s rfl rfl ?_
          rw [nI_1]
          refine ih _ (hV.trans (fF_f hh ?_)) d3 hs3 _ _
          unfold cl
          rw [aF_no]
          intro n hn
          rw [aF_no]
          intro m hm
          exact hno m n (by omega) hm hn
        · intro a ha ih2 hno o
          repeat refine x_s rfl rfl ?_
          refine x_br rfl rfl (fun c => absurd c (lp_c H3.2.1 ha (by omega))) (fun c => ?_)
          have row : ∀ b, b ≤ F.1 4 0 → a < b → (∀ n, a < n → n < b → clp F h n a = false) → Ex mX12_clash false 12 0 0 60 [some (.ref 112), some (.int (nI h)), some (.int (nI a)), some (.int (nI b))] [] (W0 d3 L) (qM d L true V 1) nX := by
            refine x_down _ ?_ ?_
            · intro hab hno2
              repeat refine x_s rfl rfl ?_
              refine x_br rfl rfl (fun c => ?_) (fun c => absurd c (fun z => z (lp_x H3.2.1)))
              iterate 2 refine x_s rfl rfl ?_
              rw [nI_1]
              refine ih2 ?_ _
              intro m n h1 h2 h3
              by_cases e : m = a
              · subst e
                exact hno2 n h2 h3
              · exact hno m n (by omega) h2 h3
            · intro b hb ih3 hab hno2
              have next : clp F h b a = false → Ex mX12_clash false 12 0 0 104 [some (.ref 112), some (.int (nI h)), some (.int (nI a)), some (.int (nI b))] [] (W0 d3 L) (qM d L true V 1) nX := by
                intro hf
                iterate 2 refine x_s rfl rfl ?_
                rw [nI_1]
                refine ih3 (by omega) ?_
                intro n h1 h2
                by_cases e : n = b
                · subst e
                  exact hf
                · exact hno2 n h1 (by omega)
              repeat refine x_s rfl rfl ?_
              refine x_br rfl rfl (fun c => absurd c (lp_c H3.2.1 hb (by omega))) (fun c => ?_)
              repeat refine x_s rfl rfl ?_
              refine x_ald rfl rfl rfl (k := a) (rfl) (by omega) (by decide) rfl ?_
              rw [hp a ha]
              refine x_br rfl rfl (fun c1 => ?_) (fun c1 => ?_)
              · exact next (by rw [clp, show pb F h a = 0 from c1]; simp)
              · have c1' : ¬ pb F h a = 0 := c1
                repeat refine x_s rfl rfl ?_
                refine x_ald rfl rfl rfl (k := b) (rfl) (by omega) (by decide) rfl ?_
                rw [hp b hb]
                refine x_br rfl rfl (fun c2 => ?_) (fun c2 => ?_)
                · exact next (by rw [clp, show pb F h b = 0 from c2]; simp)
                · have c2' : ¬ pb F h b = 0 := c2
                  repeat refine x_s rfl rfl ?_
                  refine x_ald rfl rfl rfl (k := a) (rfl) (by omega) (by decide) rfl ?_
                  repeat refine x_s rfl rfl ?_
                  refine x_ald rfl rfl rfl (k := b) (rfl) (by omega) (by decide) rfl ?_
                  rw [hp a ha, hp b hb]
                  repeat refine x_s rfl rfl ?_
                  refine x_br rfl rfl (fun c3 => ?_) (fun c3 => ?_)
                  · have c3' : ¬ pb F h a &&& pb F h b = 0 := c3
                    exact next (by rw [clp, decide_eq_false c3']; simp)
                  · have c3' : pb F h a &&& pb F h b = 0 := c3
                    repeat refine x_s rfl rfl ?_
                    refine x_iret rfl rfl rfl ⟨?_, d3, rfl, mS_go M1 hs3 (by decide) (by decide) (by decide) (by decide) (by decide), by rw [hs3 112 (by decide)]; exact T1⟩
                    rw [hV.trans (fF_t hh (aF_iff.mpr ⟨b, hb, aF_iff.mpr ⟨a, hab, by rw [clp, decide_eq_true c1', decide_eq_true c2', decide_eq_true c3']; rfl⟩⟩))]
                    rfl
          iterate 4 refine x_s rfl rfl ?_
          rw [nI_1]
          exact row (a + 1) (by omega) (by omega) (fun n h1 h2 => by omega)
      have fill : ∀ n, n ≤ F.1 4 0 → ∀ d3, sm [130, 131, 139] d1 d3 → (∀ m, m < n → d3 139 m = pb F h m) → ∀ o, Ex mX12_clash false 12 0 0 20 [some (.ref 112), some (.int (nI h)), some (.int (nI n)), o] [] (W0 d3 L) (qM d L true V 1) nX := by
        refine x_down _ ?_ ?_
        · intro d3 hs3 hp o
          have H3 := HL_sm H1 hs3 (by decide)
          repeat refine x_s rfl rfl ?_
          refine x_br rfl rfl (fun c => ?_) (fun c => absurd c (fun z => z (lp_x H3.2.1)))
          iterate 2 refine x_s rfl rfl ?_
          exact pairs d3 hs3 hp 0 (Nat.zero_le _) (fun m n h1 => by omega) _
        · intro n hn ih2 d3 hs3 hp o
          have H3 := HL_sm H1 hs3 (by decide)
          repeat refine x_s rfl rfl ?_
          refine x_br rfl rfl (fun c => absurd c (lp_c H3.2.1 hn (by omega))) (fun c => ?_)
          repeat refine x_s rfl rfl ?_
          refine x_cv (k_pointedBy d3 L H3 RM1 hn hh) rfl rfl rfl (by decide) rfl (by decide) rfl (Nat.le_of_ble_eq_true rfl) (by decide) (by decide) (by decide) ?_
          rintro _ _ ⟨rfl, d4, rfl, hs4⟩
          refine x_iast rfl rfl (k := n) (rfl) (by omega) (by decide) rfl ?_
          iterate 2 refine x_s rfl rfl ?_
          rw [nI_1]
          refine ih2 _ (sm_up (sm_go hs3 (sm_in hs4 (by decide))) (by decide)) ?_ _
          intro m hm
          by_cases e : m = n
          · subst e
            exact up2_eq
          · rw [up2_k e, hs4 139 (by decide)]
            exact hp m (by omega)
      iterate 2 refine x_s rfl rfl ?_
      exact fill 0 (Nat.zero_le _) d2 hs2 (fun m hm => by omega) _
  iterate 2 refine x_s rfl rfl ?_
  exact lp 0 (Nat.zero_le _) _ rfl d1 sm_rfl _ _
set_option maxRecDepth 100000 in
set_option maxHeartbeats 1600000 in
theorem q_suspects (H : HB d F) (R : RG F) (HZ0 : HZM d Z) (R2 : RZ F Z) (x : Int32) : Cn mX12_suspects false 14 0 0 [.ref 112, .int x] (W0 d L) (qM d L (inB x 100) (bF (isS F Z (iN x)) (F.1 0 0)) (1)) := by
  have r1 := R.1
  have r2 := R.2.1
  have r3 := R.2.2.1
  refine Cn.intro gX12_suspects rfl (Nat.le_of_ble_eq_true rfl) rfl ?_
  repeat refine x_s rfl rfl ?_
  refine x_put rfl rfl (by decide) rfl ⟨rfl, rfl⟩ (Or.inl rfl) ?_
  have m0 : mS d (up2 d 112 0 0) := mS_0 0
  have z0 : up2 d 112 0 0 112 0 = 0 := up2_eq
  have H0 := HB_mS R H m0
  generalize hd0 : up2 d 112 0 0 = d0 at m0 z0 H0 ⊢
  repeat refine x_s rfl rfl ?_
  refine x_cv (k_isHour d0 L z0 x) rfl rfl rfl (by decide) rfl (by decide) rfl (Nat.le_of_ble_eq_true rfl) (by decide) (by decide) (by decide) ?_
  rintro _ _ ⟨rfl, rfl⟩
  cases hb : inB x 100
  · rw [if_neg (by decide)]
    refine x_br rfl rfl (fun c => absurd c (fun z => z rfl)) (fun c => ?_)
    repeat refine x_s rfl rfl ?_
    exact x_iret rfl rfl rfl ⟨rfl, _, rfl, mS_f m0 (Or.inl rfl), rfl⟩
  rw [if_pos rfl]
  refine x_br rfl rfl (fun c => ?_) (fun c => absurd c (fun z => absurd z (by decide)))
  obtain ⟨q1, q2, q3⟩ := inB_iN hb
  generalize iN x = t at q1 q2 q3 ⊢
  subst q2
  have lp : ∀ k, k ≤ F.1 0 0 → ∀ a, a = bF (isS F Z t) k → ∀ d1, mS d d1 → d1 112 0 = 0 → ∀ o, Ex mX12_suspects false 14 0 0 19 [some (.ref 112), some (.int (nI t)), some (.int a), some (.int (nI k)), o] [] (W0 d1 L) (qM d L true (bF (isS F Z t) (F.1 0 0)) 1) nX := by
    refine x_down _ ?_ ?_
    · intro a ha d1 M1 T1 o
      have H1 := HB_mS R H M1
      repeat refine x_s rfl rfl ?_
      refine x_br rfl rfl (fun c => ?_) (fun c => absurd c (fun z => z (lp_x H1.1)))
      repeat refine x_s rfl rfl ?_
      exact x_iret rfl rfl rfl ⟨by rw [ha]; rfl, d1, rfl, M1, T1⟩
    · intro k hk ih a ha d1 M1 T1 o
      have H1 := HB_mS R H M1
      repeat refine x_s rfl rfl ?_
      refine x_br rfl rfl (fun c => absurd c (lp_c H1.1 hk (by omega))) (fun c => ?_)
      have lp2 : ∀ j, j ≤ 9 → ∀ b, b = (if aF (fun j => sHo F Z t (F.1 1 k) (F.1 2 k) (bF (fun n => hl F n k (j + 1) t) (F.1 4 0))) j then a ||| ((1 : Int32) <<< (nI k &&& 31)) else a) → ∀ d2, mS d d2 → d2 112 0 = 0 → Ex mX12_suspects false 14 0 0 30 [some (.ref 112), some (.int (nI t)), some (.int b), some (.int (nI k)), some (.int (nI (j + 1)))] [] (W0 d2 L) (qM d L true (bF (isS F Z t) (F.1 0 0)) 1) nX := by
        refine x_down _ ?_ ?_
        · intro b hb d2 M2 T2
          repeat refine x_s rfl rfl ?_
          refine x_br rfl rfl (fun c => ?_) (fun c => absurd c (fun z => z (by decide)))
          iterate 2 refine x_s rfl rfl ?_
          rw [nI_1]
          refine ih _ ?_ d2 M2 T2 _
          rw [hb, ha, bF]
          rfl
        · intro j hj ih2 b hb d2 M2 T2
          have H2 := HB_mS R H M2
          repeat refine x_s rfl rfl ?_
          refine x_br rfl rfl (fun c => absurd c (nI_nlt (a := 9) (by omega) (by omega))) (fun c => ?_)
          repeat refine x_s rfl rfl ?_
          refine x_cv (k_lays0 d2 L H2 R true) rfl rfl rfl (by decide) rfl (by decide) rfl (Nat.le_of_ble_eq_true rfl) (by decide) (by decide) (by decide) ?_
          rintro _ _ ⟨rfl, d3, rfl, m3, t3, H3⟩
          rw [if_pos rfl, fst0_self] at H3
          have M3 := mS_tr M2 m3
          have T3 : d3 112 0 = 0 := t3.trans T2
          repeat refine x_s rfl rfl ?_
          refine x_cv (k_adds d3 L H3.2.2.1 (by omega) _ _ _) rfl rfl rfl (by decide) rfl (by decide) rfl (Nat.le_of_ble_eq_true rfl) (by decide) (by decide) (by decide) ?_
          rintro _ _ ⟨rfl, rfl⟩
          have H4 := HL_tl H3 t k (j + 1)
          have M4 : mS d (up2 (up2 (up2 (up2 d3 132 (F.1 9 0) (nI t)) 133 (F.1 9 0) (nI k)) 134 (F.1 9 0) (nI (j + 1))) 112 46 (nI (F.1 9 0 + 1))) := mS_f (mS_c (mS_c (mS_c M3 (by decide)) (by decide)) (by decide)) (by simp)
          have T4 : (up2 (up2 (up2 (up2 d3 132 (F.1 9 0) (nI t)) 133 (F.1 9 0) (nI k)) 134 (F.1 9 0) (nI (j + 1))) 112 46 (nI (F.1 9 0 + 1))) 112 0 = 0 := T3
          generalize (up2 (up2 (up2 (up2 d3 132 (F.1 9 0) (nI t)) 133 (F.1 9 0) (nI k)) 134 (F.1 9 0) (nI (j + 1))) 112 46 (nI (F.1 9 0 + 1))) = d4 at H4 M4 T4 ⊢
          repeat refine x_s rfl rfl ?_
          refine x_cv (k_plantedNow d4 L H4 (RM_tl (RM_of R) (by omega) q1 (Or.inl hk) (by omega)) (HZM_mS HZ0 M4) R2.1 R2.2) rfl rfl rfl (by decide) rfl (by decide) rfl (Nat.le_of_ble_eq_true rfl) (by decide) (by decide) (by decide) ?_
          rintro _ _ ⟨rfl, d5, rfl, hs5⟩
          have M5 := mS_go M4 hs5 (by decide) (by decide) (by decide) (by decide) (by decide)
          have T5 : d5 112 0 = 0 := by rw [hs5 112 (by decide)]; exact T4
          have se := sHo_tl F R Z R2 t k (j + 1)
          refine x_br rfl rfl (fun c1 => ?_) (fun c1 => ?_)
          · have c2 : sHo F Z t (F.1 1 k) (F.1 2 k) (bF (fun n => hl F n k (j + 1) t) (F.1 4 0)) = false := by rw [se]; exact decide_eq_false c1
            iterate 5 refine x_s rfl rfl ?_
            rw [nI_1, or_0]
            refine ih2 _ ?_ d5 M5 T5
            rw [hb, aF, c2, Bool.or_false]
          · have c2 : sHo F Z t (F.1 1 k) (F.1 2 k) (bF (fun n => hl F n k (j + 1) t) (F.1 4 0)) = true := by rw [se]; exact decide_eq_true c1
            iterate 8 refine x_s rfl rfl ?_
            rw [nI_1 (j + 1)]
            refine ih2 _ ?_ d5 M5 T5
            rw [hb, aF, c2, Bool.or_true, if_pos rfl]
            split
            · apply b_ext
              intro i hi
              rw [b_or, b_or]
              cases bt a i <;> cases bt ((1 : Int32) <<< (nI k &&& 31)) i <;> rfl
            · rfl
      iterate 2 refine x_s rfl rfl ?_
      exact lp2 0 (Nat.zero_le _) a (by rw [aF]; rfl) d1 M1 T1
  iterate 4 refine x_s rfl rfl ?_
  exact lp 0 (Nat.zero_le _) 0 rfl d0 m0 z0 _
end
