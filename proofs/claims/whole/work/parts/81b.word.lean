/-! THE COMPONENT: words, and what the reader knows of a token -/
theorem Cn.imp {M : xM} {fr : Bool} {dp kc ks : Nat} {av : List Value} {h : xHp} {Q Q' : xPost} (hC : Cn M fr dp kc ks av h Q) (hq : ∀ v h', Q v h' → Q' v h') : Cn M fr dp kc ks av h Q' := by
  obtain ⟨g1, g2, g3⟩ := hC
  refine ⟨g1, g2, fun l hl D ka al sz => ?_⟩
  intro p e ha hc hk s m args below hf happ hP hK
  obtain ⟨n, o, h1, h2, h3, ⟨⟨v, h', e1, e2, e3⟩, e4⟩, h5⟩ := g3 l hl D ka al sz p e ha hc hk s m args below hf happ hP hK
  exact ⟨n, o, h1, h2, h3, ⟨⟨v, h', e1, hq v h' e2, e3⟩, e4⟩, h5⟩
theorem LT_hd {d : Nat → Nat → Int32} {T : Nat → Nat} {n s k v : Nat} {r : List Tk} (H : LT d T n ((s, k, v) :: r)) : s ≤ n ∧ LXs d T n s ∧ k = tK T n s ∧ v = tV T n s ∧ (k ≠ 0 → s < n ∧ r = TL T n (tE T n s)) := by
  obtain ⟨i, hi, e, hx⟩ := H
  rw [TL_eq hi] at e
  obtain ⟨e1, e2⟩ := List.cons.inj e
  have a1 : s = tS T n i := congrArg Prod.fst e1
  have a2 : k = tK T n (tS T n i) := congrArg (fun q => q.2.1) e1
  have a3 : v = tV T n (tS T n i) := congrArg (fun q => q.2.2) e1
  rw [← a1] at a2 a3 hx e2
  refine ⟨by rw [a1]; exact (tS_sp hi).2.2.2, hx, a2, a3, fun h => ?_⟩
  have h2 : s < n := by
    rcases Nat.lt_or_ge s n with q | q
    · exact q
    · exact absurd (a2.trans (tK_0.mpr q)) h
  rw [if_pos h2] at e2
  exact ⟨h2, e2⟩
theorem LT_ne {d : Nat → Nat → Int32} {T : Nat → Nat} {n : Nat} {l : List Tk} (H : LT d T n l) : ∃ s k v r, l = (s, k, v) :: r := by
  obtain ⟨i, hi, e, hx⟩ := H
  rw [TL_eq hi] at e
  exact ⟨_, _, _, _, e⟩
/-- what the reader has in its fields -/
theorem LT_f {d : Nat → Nat → Int32} {T : Nat → Nat} {n s k v : Nat} {r : List Tk} (H : LT d T n ((s, k, v) :: r)) : d 1 7 = nI s ∧ d 1 8 = nI k ∧ k ≤ 61 ∧ s ≤ n ∧ ∃ e, d 1 6 = nI e ∧ s ≤ e ∧ e ≤ n ∧ (k = 2 → (4 < e - s ∧ v = 10000) ∨ (e - s ≤ 4 ∧ v ≤ 9999 ∧ d 1 9 = nI v)) := by
  obtain ⟨h1, ⟨h2, h3, h4, h5, h6⟩, h7, h8, h9⟩ := LT_hd H
  refine ⟨h4, by rw [h7]; exact h5, by rw [h7]; exact tK_le _, h1, tE T n s, h3, tE_ge _, ?_, fun hk => ?_⟩
  · rcases Nat.lt_or_ge s n with q | q
    · exact (tE_sp q).2
    · unfold tE
      rw [if_neg (by omega)]
      exact h1
  · rw [h8]
    unfold tV
    rw [if_pos (by rw [← h7]; exact hk)]
    by_cases hl : 4 < tE T n s - s
    · rw [if_pos hl]
      exact Or.inl ⟨hl, rfl⟩
    · rw [if_neg hl]
      exact Or.inr ⟨by omega, tN_b, h6⟩
theorem LXs_c {d d' : Nat → Nat → Int32} {T : Nat → Nat} {n s : Nat} (H : LXs d T n s) (h2 : d' 2 = d 2) (h1 : ∀ k, k = 5 ∨ k = 6 ∨ k = 7 ∨ k = 8 ∨ k = 9 → d' 1 k = d 1 k) : LXs d' T n s := by
  obtain ⟨⟨a1, a2⟩, a3, a4, a5, a6⟩ := H
  refine ⟨⟨(h1 5 (by simp)).trans a1, fun j hj => ?_⟩, (h1 6 (by simp)).trans a3, (h1 7 (by simp)).trans a4, (h1 8 (by simp)).trans a5, (h1 9 (by simp)).trans a6⟩
  rw [h2]
  exact a2 j hj
theorem LT_c {d d' : Nat → Nat → Int32} {T : Nat → Nat} {n : Nat} {l : List Tk} (H : LT d T n l) (h2 : d' 2 = d 2) (h1 : ∀ k, k = 5 ∨ k = 6 ∨ k = 7 ∨ k = 8 ∨ k = 9 → d' 1 k = d 1 k) : LT d' T n l := by
  obtain ⟨i, hi, e, hx⟩ := H
  exact ⟨i, hi, e, LXs_c hx h2 h1⟩
section
variable (d : Nat → Nat → Int32) (L : Nat → Nat → Int64) {T : Nat → Nat} {n : Nat}
theorem c_advance {s k v : Nat} {r : List Tk} (hn : n ≤ 700) (hT : ∀ j, T j < 256) (H : LT d T n ((s, k, v) :: r)) (hk : k ≠ 0) : Cn mX5_advance false 2 0 0 [.ref 1] (W0 d L) (fun q h => q = none ∧ ∃ d', h = W0 d' L ∧ LF d d' ∧ LT d' T n r) := by
  obtain ⟨h1, h2, h3, h4, h5⟩ := LT_hd H
  obtain ⟨h6, h7⟩ := h5 hk
  refine (c_adv d L hn (tE_sp (T := T) h6).2 hT h2.1 h2.2.1).imp (fun q h => ?_)
  rintro ⟨a, d', b, c, e⟩
  exact ⟨a, d', b, c, _, (tE_sp (T := T) h6).2, h7, e⟩
theorem x_len : Cond.methodLink RX5 70 yJ0_length_8abf5 ∈ xTG := xTG_in (xat_in (p := 4002) (by decide +kernel)) rfl
theorem x_chr : Cond.methodLink RX5 75 yJ0_charAt_5068e ∈ xTG := xTG_in (xat_in (p := 4012) (by decide +kernel)) rfl
set_option maxRecDepth 100000 in
set_option maxHeartbeats 1600000 in
theorem c_isWord {q s : Nat} {ent : String × Nat × String × List Int32} {w : List Nat} (hn : n ≤ 700) (hT : ∀ j, T j < 256) (hq : xSL[q]? = some ent) (hw : ent.2.2.2 = w.map nI) (hl : w.length ≤ 6) (hc : ∀ c ∈ w, c < 128) (hs : s ≤ n) (H : LXs d T n s) : Cn mX5_isWord false 6 0 0 [.ref 1, .ref (5000 + q)] (W0 d L) (qP d L (bI (decide (tK T n s = 1) && isW T s (tE T n s) w))) := by
  obtain ⟨h2, h3, h4, h5, h6⟩ := H
  have eln : ent.2.2.2.length = w.length := by rw [hw, List.length_map]
  have kl := tK_le (T := T) (n := n) s
  have ge := tE_ge (T := T) (n := n) s
  have le : tE T n s ≤ n := by
    rcases Nat.lt_or_ge s n with z | z
    · exact (tE_sp z).2
    · unfold tE
      rw [if_neg (by omega)]
      exact hs
  refine Cn.intro gX5_isWord rfl (Nat.le_of_ble_eq_true rfl) rfl ?_
  repeat refine x_s rfl rfl ?_
  rw [h5]
  by_cases hk : tK T n s = 1
  rotate_left
  · refine x_br rfl rfl (fun c => ?_) (fun c => absurd c (fun z => hk ((nI_eq (by omega) (by decide)).mp z)))
    repeat refine x_s rfl rfl ?_
    refine x_iret rfl rfl rfl ⟨congrArg (fun z => some (Value.int z)) ?_, rfl⟩
    rw [decide_eq_false hk]
    rfl
  rw [decide_eq_true hk, Bool.true_and, hk]
  refine x_br rfl rfl (fun c => absurd c (fun z => z rfl)) (fun c => ?_)
  repeat refine x_s rfl rfl ?_
  refine x_cvS hq (s_length (W0 d L) hq) rfl x_len xw_len.1 xw_len.2 xw_ini rfl rfl (by decide) rfl (Nat.le_of_ble_eq_true rfl) (by decide) (by decide) (by decide) ?_
  rintro _ _ ⟨rfl, rfl⟩
  rw [h3, h4, nI_s ge (by omega), eln]
  unfold isW
  by_cases he : tE T n s - s = w.length
  rotate_left
  · refine x_br rfl rfl (fun c => absurd c (fun z => he ((nI_eq (by omega) (by omega)).mp z))) (fun c => ?_)
    repeat refine x_s rfl rfl ?_
    refine x_iret rfl rfl rfl ⟨congrArg (fun z => some (Value.int z)) ?_, rfl⟩
    rw [decide_eq_false he]
    rfl
  rw [decide_eq_true he, Bool.true_and]
  refine x_br rfl rfl (fun c => ?_) (fun c => absurd c (fun z => absurd (congrArg nI he) z))
  have lp : ∀ (r : List Nat) (j : Nat), w.drop j = r → j ≤ w.length → Ex mX5_isWord false 6 0 0 28 [some (.ref 1), some (.ref (5000 + q)), some (.int (nI j))] [] (W0 d L) (qP d L (bI (wmt T (s + j) r))) nX := by
    intro r
    induction r with
    | nil =>
      intro j hj jl
      have hjl : w.length ≤ j := List.drop_eq_nil_iff.mp hj
      iterate 2 refine x_s rfl rfl ?_
      refine x_cvS hq (s_length (W0 d L) hq) rfl x_len xw_len.1 xw_len.2 xw_ini rfl rfl (by decide) rfl (Nat.le_of_ble_eq_true rfl) (by decide) (by decide) (by decide) ?_
      rintro _ _ ⟨rfl, rfl⟩
      rw [eln]
      refine x_br rfl rfl (fun c => ?_) (fun c => absurd c (fun z => z (nI_le hjl (by omega))))
      repeat refine x_s rfl rfl ?_
      exact x_iret rfl rfl rfl ⟨rfl, rfl⟩
    | cons ch r ih =>
      intro j hj jl
      have hlt : j < w.length := by
        rcases Nat.lt_or_ge j w.length with z | z
        · exact z
        · rw [List.drop_eq_nil_iff.mpr z] at hj
          cases hj
      have e2 := List.drop_eq_getElem_cons hlt
      rw [hj] at e2
      obtain ⟨e3, e4⟩ := List.cons.inj e2
      have cl : ch < 128 := hc ch (by rw [e3]; exact List.getElem_mem _)
      have eg : ent.2.2.2.getD j 0 = nI ch := by
        rw [hw, List.getD_eq_getElem?_getD, List.getElem?_map, List.getElem?_eq_getElem hlt, ← e3]
        rfl
      iterate 2 refine x_s rfl rfl ?_
      refine x_cvS hq (s_length (W0 d L) hq) rfl x_len xw_len.1 xw_len.2 xw_ini rfl rfl (by decide) rfl (Nat.le_of_ble_eq_true rfl) (by decide) (by decide) (by decide) ?_
      rintro _ _ ⟨rfl, rfl⟩
      rw [eln]
      refine x_br rfl rfl (fun c => absurd c (nI_ge hlt (by omega))) (fun c => ?_)
      repeat refine x_s rfl rfl ?_
      refine x_ald rfl rfl rfl (k := s + j) (by rw [h4, nI_add]) (by omega) (by decide) rfl ?_
      iterate 2 refine x_s rfl rfl ?_
      refine x_cvS hq (s_chr (W0 d L) hq (b := j) (by rw [eln]; exact hlt)) rfl x_chr xw_chr.1 xw_chr.2 xw_ini rfl rfl (by decide) rfl (Nat.le_of_ble_eq_true rfl) (by decide) (by decide) (by decide) ?_
      rintro _ _ ⟨rfl, rfl⟩
      rw [eg, h2.2 (s + j) (by omega)]
      by_cases hm : T (s + j) = ch
      · refine x_br rfl rfl (fun c => ?_) (fun c => absurd c (fun z => z ((sb_eq (hT _) cl).mpr hm)))
        iterate 2 refine x_s rfl rfl ?_
        rw [nI_1]
        have ih' := ih (j + 1) e4.symm hlt
        rw [show wmt T (s + j) (ch :: r) = wmt T (s + (j + 1)) r from by rw [wmt, decide_eq_true hm, Bool.true_and]; rfl]
        exact ih'
      · refine x_br rfl rfl (fun c => absurd c (fun z => hm ((sb_eq (hT _) cl).mp z))) (fun c => ?_)
        repeat refine x_s rfl rfl ?_
        refine x_iret rfl rfl rfl ⟨congrArg (fun z => some (Value.int z)) ?_, rfl⟩
        rw [wmt, decide_eq_false hm]
        rfl
  iterate 2 refine x_s rfl rfl ?_
  exact lp w 0 rfl (Nat.zero_le _)
/-- String constants (their numbers) and words (theirs) -/
def SK : List (Nat × Nat) := [(1, 9), (2, 10), (3, 11), (4, 12), (17, 13), (5, 16), (6, 0), (7, 4), (8, 1), (9, 2), (10, 3), (11, 5), (12, 6), (13, 7), (14, 8), (15, 14), (16, 15)]
theorem SK_ok : ∀ q ∈ SK, q.2 < 17 ∧ (xSL.getD q.1 ("", 0, "", [])).2.2.2 = (KW.getD q.2 []).map nI ∧ q.1 < xSL.length := by decide +kernel
theorem c_isK {q a s k v : Nat} {r : List Tk} (hq : (q, a) ∈ SK) (hn : n ≤ 700) (hT : ∀ j, T j < 256) (H : LT d T n ((s, k, v) :: r)) : Cn mX5_isWord false 6 0 0 [.ref 1, .ref (5000 + q)] (W0 d L) (qP d L (bI (decide (k = 1) && decide (v = a)))) := by
  obtain ⟨h1, h2, h3, h4, h5⟩ := LT_hd H
  obtain ⟨a1, a2, a3⟩ := SK_ok (q, a) hq
  obtain ⟨l1, l2, l3⟩ := KW_l a a1
  have e : xSL[q]? = some (xSL.getD q ("", 0, "", [])) := by
    rw [List.getD_eq_getElem?_getD, List.getElem?_eq_getElem a3]
    rfl
  have c := c_isWord d L (T := T) (w := KW.getD a []) hn hT e a2 l1 (fun c hc => by have := l3 c hc; omega) h1 h2
  have eb : (decide (tK T n s = 1) && isW T s (tE T n s) (KW.getD a [])) = (decide (k = 1) && decide (v = a)) := by
    rw [← h3]
    by_cases hk : k = 1
    · rw [isW_ix a1, h4]
      unfold tV
      rw [← h3, hk, if_neg (by decide), if_pos rfl]
    · rw [decide_eq_false hk]
      rfl
  rw [eb] at c
  exact c
end
