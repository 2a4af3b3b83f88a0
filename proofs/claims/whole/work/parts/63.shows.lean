/-! THE MODEL: last, shows, points; the court -/
section
variable (d : Nat → Nat → Int32) (L : Nat → Nat → Int64) {F : Fr} {xp xn : Bool}
set_option maxRecDepth 100000 in
set_option maxHeartbeats 1600000 in
theorem k_lastOf (H : HL d F xp xn) (R : RM F xp xn) {n h : Nat} (hn : DN F xn n) (hh : h < 100) : Cn mX12_lastOf false 5 0 0 [.ref 112, .int (nI n), .int (nI h)] (W0 d L) (qS [130, 131] d L (la F n h)) := by
  have r3 := R.2.2.1
  have lp : ∀ k, k ≤ F.1 9 0 → ∀ a, a = m1 (l1 F (hr F n) h k) → ∀ d1, sm [130, 131] d d1 → Ex mX12_lastOf false 5 0 0 5 [some (.ref 112), some (.int (nI n)), some (.int (nI h)), some (.int a), some (.int (nI k))] [] (W0 d1 L) (qS [130, 131] d L (la F n h)) nX := by
    refine x_down _ ?_ ?_
    · intro a ha d1 hs
      have H1 := HL_sm H hs (by decide)
      repeat refine x_s rfl rfl ?_
      refine x_br rfl rfl (fun c => ?_) (fun c => absurd c (fun z => z (lp_x H1.2.2.1)))
      repeat refine x_s rfl rfl ?_
      exact x_iret rfl rfl rfl ⟨by rw [ha]; rfl, d1, rfl, hs⟩
    · intro k hk ih a ha d1 hs
      have H1 := HL_sm H hs (by decide)
      have h6 := H1.2.2.2.2.2.1 k hk
      have r6 := R.2.2.2.2.2 k hk
      have hle := l1_le (F := F) (B := hr F n) (h := h) (n := k)
      repeat refine x_s rfl rfl ?_
      refine x_br rfl rfl (fun c => absurd c (lp_c H1.2.2.1 hk (by omega))) (fun c => ?_)
      repeat refine x_s rfl rfl ?_
      refine x_ald rfl rfl rfl (k := k) (rfl) (by omega) (by decide) rfl ?_
      rw [h6.1]
      repeat refine x_s rfl rfl ?_
      refine x_br rfl rfl (fun c1 => ?_) (fun c1 => ?_)
      · have e : ¬ F.1 10 k ≤ h := fun z => absurd c1 (nI_nlt z (by omega))
        iterate 2 refine x_s rfl rfl ?_
        rw [nI_1]
        exact ih _ (by rw [ha, l1, if_neg (by simp [e])]) d1 hs
      · have e : F.1 10 k ≤ h := by
          rcases Nat.lt_or_ge h (F.1 10 k) with z | z
          · exact absurd (nI_lt z (by omega)) c1
          · exact z
        repeat refine x_s rfl rfl ?_
        refine x_ald rfl rfl rfl (k := k) (rfl) (by omega) (by decide) rfl ?_
        rw [h6.1]
        repeat refine x_s rfl rfl ?_
        rw [ha]
        refine x_br rfl rfl (fun c2 => ?_) (fun c2 => ?_)
        · have e2 : ¬ l1 F (hr F n) h k ≤ F.1 10 k := by
            have := (m1_lt (by omega) (by omega)).mp c2
            omega
          iterate 2 refine x_s rfl rfl ?_
          rw [nI_1]
          exact ih _ (by rw [l1, if_neg (by simp [e2])]) d1 hs
        · have e2 : l1 F (hr F n) h k ≤ F.1 10 k := by
            have := mt (m1_lt (by omega) (by omega)).mpr c2
            omega
          repeat refine x_s rfl rfl ?_
          refine x_cv (k_hears d1 L H1 R hn hk) rfl rfl rfl (by decide) rfl (by decide) rfl (Nat.le_of_ble_eq_true rfl) (by decide) (by decide) (by decide) ?_
          rintro _ _ ⟨rfl, d2, rfl, hs2⟩
          have H2 := HL_sm H1 hs2 (by decide)
          refine x_br rfl rfl (fun c3 => ?_) (fun c3 => ?_)
          · iterate 2 refine x_s rfl rfl ?_
            rw [nI_1]
            exact ih _ (by rw [l1, if_neg (by simp [bI_0.mp c3])]) d2 (sm_go hs hs2)
          · repeat refine x_s rfl rfl ?_
            refine x_ald rfl rfl rfl (k := k) (rfl) (by omega) (by decide) rfl ?_
            rw [(H2.2.2.2.2.2.1 k hk).1]
            iterate 3 refine x_s rfl rfl ?_
            rw [nI_1]
            exact ih _ (by rw [l1, if_pos (by simp [bI_n0.mp c3, e, e2]), m1_s]) d2 (sm_go hs hs2)
  refine Cn.intro gX12_lastOf rfl (Nat.le_of_ble_eq_true rfl) rfl ?_
  iterate 4 refine x_s rfl rfl ?_
  exact lp 0 (Nat.zero_le _) _ rfl d sm_rfl
theorem wx_bM (R : RM F xp xn) {n : Nat} (hn : DN F xn n) (B : Nat → Bool) : ∀ k, k ≤ F.1 9 0 → (-(40 * k : Int) ≤ wx F n B k ∧ wx F n B k ≤ 40 * k) ∧ -(40 * k : Int) ≤ wy F n B k ∧ wy F n B k ≤ 40 * k
  | 0, _ => by simp [wx, wy]
  | k + 1, hk => by
    have ih := wx_bM R hn B k (by omega)
    have r6 := R.2.2.2.2.2 k (by omega)
    have r4 := R.2.2.2.1 _ r6.2.1
    have r5 := R.2.2.2.2.1 n hn
    unfold wx wy dx dy
    split <;> (push_cast; omega)
set_option maxRecDepth 100000 in
set_option maxHeartbeats 1600000 in
theorem k_showsIn (H : HL d F xp xn) (R : RM F xp xn) {n h : Nat} (hn : DN F xn n) (hh : h < 100) : Cn mX12_showsIn false 6 0 0 [.ref 112, .int (nI n), .int (nI h)] (W0 d L) (qS [130, 131] d L (sh F n h)) := by
  have r3 := R.2.2.1
  have n7 := DN7 R hn
  have hle := l1_le (F := F) (B := hr F n) (h := h) (n := F.1 9 0)
  refine Cn.intro gX12_showsIn rfl (Nat.le_of_ble_eq_true rfl) rfl ?_
  repeat refine x_s rfl rfl ?_
  refine x_cv (k_lastOf d L H R hn hh) rfl rfl rfl (by decide) rfl (by decide) rfl (Nat.le_of_ble_eq_true rfl) (by decide) (by decide) (by decide) ?_
  rintro _ _ ⟨rfl, d0, rfl, hs0⟩
  generalize hl0 : l1 F (hr F n) h (F.1 9 0) = l at hle
  rw [show la F n h = m1 l by rw [la, hl0]]
  have hsh : sh F n h = if l = 0 then -1 else nI (sB F n (fun s => hr F n s && decide (F.1 10 s + 1 = l))) := by
    rw [sh, shB, hl0]
  rw [hsh]
  generalize hB : (fun s => hr F n s && decide (F.1 10 s + 1 = l)) = B
  repeat refine x_s rfl rfl ?_
  refine x_br rfl rfl (fun c1 => ?_) (fun c1 => ?_)
  · have hl : ¬ l = 0 := fun z => c1 ((m1_m1 (by omega)).mpr z)
    rw [if_neg hl]
    have lp : ∀ k, k ≤ F.1 9 0 → ∀ a b c, a.toInt = wx F n B k → b.toInt = wy F n B k → c = bI (!wm F n B k) → ∀ d1, sm [130, 131] d d1 → ∀ o1 o2, Ex mX12_showsIn false 6 0 0 26 [some (.ref 112), some (.int (nI n)), some (.int (nI h)), some (.int (m1 l)), some (.int a), some (.int b), some (.int c), some (.int (nI k)), o1, o2] [] (W0 d1 L) (qS [130, 131] d L (nI (sB F n B))) nX := by
      refine x_down _ ?_ ?_
      · intro a b c ha hb hc d1 hs o1 o2
        have H1 := HL_sm H hs (by decide)
        have main : wm F n B (F.1 9 0) = true → ¬ (wx F n B (F.1 9 0) = 0 ∧ wy F n B (F.1 9 0) = 0) → Ex mX12_showsIn false 6 0 0 168 [some (.ref 112), some (.int (nI n)), some (.int (nI h)), some (.int (m1 l)), some (.int a), some (.int b), some (.int c), some (.int (nI (F.1 9 0))), o1, o2] [] (W0 d1 L) (qS [130, 131] d L (nI (sB F n B))) nX := by
          intro hm hz
          repeat refine x_s rfl rfl ?_
          refine x_cs (k_sideOf d1 L a b) rfl rfl rfl (by decide) (Nat.le_of_ble_eq_true rfl) (by decide) (by decide) (by decide) ?_
          rintro _ _ ⟨rfl, rfl⟩
          refine x_iret rfl rfl rfl ⟨?_, d1, rfl, hs⟩
          rw [ha, hb, sB, sg, if_pos hm, if_neg hz]
        repeat refine x_s rfl rfl ?_
        refine x_br rfl rfl (fun c => ?_) (fun c => absurd c (fun z => z (lp_x H1.2.2.1)))
        repeat refine x_s rfl rfl ?_
        rw [hc]
        refine x_br rfl rfl (fun c2 => ?_) (fun c2 => ?_)
        · have hm : wm F n B (F.1 9 0) = true := by
            cases hw : wm F n B (F.1 9 0)
            · rw [hw] at c2
              exact absurd c2 (by decide)
            · rfl
          rw [hc] at main
          repeat refine x_s rfl rfl ?_
          refine x_br rfl rfl (fun c3 => ?_) (fun c3 => ?_)
          · exact main hm (fun z => c3 (ieq.mpr (by rw [i0, ha]; exact z.1)))
          · repeat refine x_s rfl rfl ?_
            refine x_br rfl rfl (fun c4 => ?_) (fun c4 => ?_)
            · exact main hm (fun z => c4 (ieq.mpr (by rw [i0, hb]; exact z.2)))
            · repeat refine x_s rfl rfl ?_
              refine x_iret rfl rfl rfl ⟨?_, d1, rfl, hs⟩
              have x0 : wx F n B (F.1 9 0) = 0 := by rw [← ha]; exact (ieq.mp c3).trans i0
              have y0 : wy F n B (F.1 9 0) = 0 := by rw [← hb]; exact (ieq.mp c4).trans i0
              rw [sB, sg, if_pos hm, if_pos ⟨x0, y0⟩]
              rfl
        · have hm : wm F n B (F.1 9 0) = false := by
            cases hw : wm F n B (F.1 9 0)
            · rfl
            · rw [hw] at c2
              exact absurd rfl c2
          repeat refine x_s rfl rfl ?_
          refine x_iret rfl rfl rfl ⟨?_, d1, rfl, hs⟩
          rw [sB, sg, if_neg (by rw [hm]; decide)]
          rfl
      · intro k hk ih a b c ha hb hc d1 hs o1 o2
        have H1 := HL_sm H hs (by decide)
        have h6 := H1.2.2.2.2.2.1 k hk
        have r6 := R.2.2.2.2.2 k hk
        have p11 := DP11 R r6.2.1
        have r4 := R.2.2.2.1 _ r6.2.1
        have r5 := R.2.2.2.2.1 n hn
        have wb := wx_bM R hn B k (by omega)
        have ml : m1 l = nI (l - 1) := by
          obtain ⟨q, rfl⟩ : ∃ q, l = q + 1 := ⟨l - 1, by omega⟩
          exact m1_s q
        repeat refine x_s rfl rfl ?_
        refine x_br rfl rfl (fun c => absurd c (lp_c H1.2.2.1 hk (by omega))) (fun c => ?_)
        repeat refine x_s rfl rfl ?_
        refine x_ald rfl rfl rfl (k := k) (rfl) (by omega) (by decide) rfl ?_
        rw [h6.1]
        repeat refine x_s rfl rfl ?_
        refine x_br rfl rfl (fun c2 => ?_) (fun c2 => ?_)
        · have e : ¬ F.1 10 k + 1 = l := fun z => c2 (by rw [ml]; congr 1; omega)
          have hBk : B k = false := by rw [← hB]; simp [e]
          iterate 2 refine x_s rfl rfl ?_
          rw [nI_1]
          exact ih _ _ _ (by rw [wx, if_neg (by rw [hBk]; decide), ha]) (by rw [wy, if_neg (by rw [hBk]; decide), hb]) (by rw [wm, if_neg (by rw [hBk]; decide), hc]) d1 hs _ _
        · have e : F.1 10 k + 1 = l := by
            rw [ml] at c2
            have := (nI_eq (by omega) (by omega)).mp c2
            omega
          repeat refine x_s rfl rfl ?_
          refine x_cv (k_hears d1 L H1 R hn hk) rfl rfl rfl (by decide) rfl (by decide) rfl (Nat.le_of_ble_eq_true rfl) (by decide) (by decide) (by decide) ?_
          rintro _ _ ⟨rfl, d2, rfl, hs2⟩
          have hs12 := sm_go hs hs2
          have H2 := HL_sm H1 hs2 (by decide)
          have h62 := H2.2.2.2.2.2.1 k hk
          have h42 := H2.2.2.2.1 _ r6.2.1
          have h52 := H2.2.2.2.2.1 n hn
          refine x_br rfl rfl (fun c3 => ?_) (fun c3 => ?_)
          · have hBk : B k = true := by rw [← hB]; simp [e, bI_n0.mp c3]
            have tx : (nI (F.1 1 (F.1 11 k)) - nI (F.1 5 n)).toInt = dx F n (F.1 11 k) := nsub_tI (by omega) (by omega)
            have ty : (nI (F.1 2 (F.1 11 k)) - nI (F.1 6 n)).toInt = dy F n (F.1 11 k) := nsub_tI (by omega) (by omega)
            have bx : -40 ≤ dx F n (F.1 11 k) ∧ dx F n (F.1 11 k) ≤ 40 := by unfold dx; omega
            have by1 : -40 ≤ dy F n (F.1 11 k) ∧ dy F n (F.1 11 k) ≤ 40 := by unfold dy; omega
            repeat refine x_s rfl rfl ?_
            refine x_ald rfl rfl rfl (k := k) (rfl) (by omega) (by decide) rfl ?_
            rw [h62.2.1]
            refine x_ald rfl rfl rfl (k := F.1 11 k) (rfl) (by omega) (by decide) rfl ?_
            repeat refine x_s rfl rfl ?_
            refine x_ald rfl rfl rfl (k := n) (rfl) (by omega) (by decide) rfl ?_
            rw [h42.1, h52.1]
            repeat refine x_s rfl rfl ?_
            refine x_ald rfl rfl rfl (k := k) (rfl) (by omega) (by decide) rfl ?_
            rw [h62.2.1]
            refine x_ald rfl rfl rfl (k := F.1 11 k) (rfl) (by omega) (by decide) rfl ?_
            repeat refine x_s rfl rfl ?_
            refine x_ald rfl rfl rfl (k := n) (rfl) (by omega) (by decide) rfl ?_
            rw [h42.2.1, h52.2.1]
            iterate 1 refine x_s rfl rfl ?_
            generalize nI (F.1 1 (F.1 11 k)) - nI (F.1 5 n) = X at tx ⊢
            generalize nI (F.1 2 (F.1 11 k)) - nI (F.1 6 n) = Y at ty ⊢
            have fx : (a + X).toInt = wx F n B (k + 1) := by rw [add_tI (by rw [ha]; omega) (by rw [tx]; omega), ha, tx, wx, if_pos hBk]
            have fy : (b + Y).toInt = wy F n B (k + 1) := by rw [add_tI (by rw [hb]; omega) (by rw [ty]; omega), hb, ty, wy, if_pos hBk]
            have zx : X = 0 ↔ dx F n (F.1 11 k) = 0 := by rw [ieq, tx, i0]
            have zy : Y = 0 ↔ dy F n (F.1 11 k) = 0 := by rw [ieq, ty, i0]
            have fm : wm F n B (k + 1) = (wm F n B k || mv F n (F.1 11 k)) := by rw [wm, if_pos hBk]
            repeat refine x_s rfl rfl ?_
            rw [hc]
            refine x_br rfl rfl (fun c4 => ?_) (fun c4 => ?_)
            · have hw : wm F n B k = true := by
                cases hw : wm F n B k
                · rw [hw] at c4
                  exact absurd c4 (by decide)
                · rfl
              iterate 4 refine x_s rfl rfl ?_
              rw [nI_1]
              exact ih _ _ 0 fx fy (by rw [fm, hw]; rfl) d2 hs12 _ _
            · have hw : wm F n B k = false := by
                cases hw : wm F n B k
                · rfl
                · rw [hw] at c4
                  exact absurd rfl c4
              repeat refine x_s rfl rfl ?_
              refine x_br rfl rfl (fun c5 => ?_) (fun c5 => ?_)
              · have z1 : ¬ dx F n (F.1 11 k) = 0 := fun z => c5 (zx.mpr z)
                iterate 4 refine x_s rfl rfl ?_
                rw [nI_1]
                exact ih _ _ 0 fx fy (by rw [fm, hw, mv, decide_eq_true z1]; rfl) d2 hs12 _ _
              · have z1 : dx F n (F.1 11 k) = 0 := zx.mp c5
                repeat refine x_s rfl rfl ?_
                refine x_br rfl rfl (fun c6 => ?_) (fun c6 => ?_)
                · have z2 : ¬ dy F n (F.1 11 k) = 0 := fun z => c6 (zy.mpr z)
                  iterate 4 refine x_s rfl rfl ?_
                  rw [nI_1]
                  exact ih _ _ 0 fx fy (by rw [fm, hw, mv, decide_eq_true z2, Bool.or_true, Bool.or_true]; rfl) d2 hs12 _ _
                · have z2 : dy F n (F.1 11 k) = 0 := zy.mp c6
                  iterate 5 refine x_s rfl rfl ?_
                  rw [nI_1]
                  exact ih _ _ 1 fx fy (by rw [fm, hw, mv, decide_eq_false (fun z => z z1), decide_eq_false (fun z => z z2)]; rfl) d2 hs12 _ _
          · have hBk : B k = false := by rw [← hB]; simp [bI_0.mp c3]
            iterate 3 refine x_s rfl rfl ?_
            rw [nI_1]
            exact ih _ _ _ (by rw [wx, if_neg (by rw [hBk]; decide), ha]) (by rw [wy, if_neg (by rw [hBk]; decide), hb]) (by rw [wm, if_neg (by rw [hBk]; decide), hc]) d2 hs12 _ _
    iterate 8 refine x_s rfl rfl ?_
    exact lp 0 (Nat.zero_le _) 0 0 1 rfl rfl rfl d0 hs0 _ _
  · have hl : l = 0 := (m1_m1 (by omega)).mp c1
    rw [if_pos hl]
    repeat refine x_s rfl rfl ?_
    exact x_iret rfl rfl rfl ⟨rfl, d0, rfl, hs0⟩
end
