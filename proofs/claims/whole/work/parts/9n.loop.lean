/-! THE LAW'S LOOP -/
theorem law_out {n j : Nat} (hn : n ≤ 3072) (hj : j ≤ n) (h : ¬ nI n - 6 < nI j) : j + 6 ≤ n := by
  by_cases h6 : 6 ≤ n
  · have e : nI n - 6 = nI (n - 6) := nI_s (b := 6) h6 (by omega)
    rw [e, nI_ltI (by omega) (by omega)] at h
    omega
  · exfalso
    apply h
    have hn' : n = 0 ∨ n = 1 ∨ n = 2 ∨ n = 3 ∨ n = 4 ∨ n = 5 := by omega
    have hj' : j = 0 ∨ j = 1 ∨ j = 2 ∨ j = 3 ∨ j = 4 ∨ j = 5 := by omega
    rcases hn' with rfl | rfl | rfl | rfl | rfl | rfl <;> rcases hj' with rfl | rfl | rfl | rfl | rfl | rfl <;> decide
theorem law_far {w : Nat} (h1 : 43 ≤ w) (h2 : w < 64) : (42 : Int) < (nI w).toInt := by
  rw [nI_toI (by omega)]
  omega
set_option maxRecDepth 100000 in
set_option maxHeartbeats 4000000 in
/-- a round: by the script's number -/
theorem law_go {n j kc ks w : Nat} {xs : Nat → Int32} {d : Nat → Nat → Int32} {L : Nat → Nat → Int64} (hj : j + 6 ≤ n) (hn : n ≤ 3072) (hw : w < 64) (hI : LI d) (hkc : 6 ≤ kc) (hks : 36 ≤ ks) (K : ∀ d' L', LI d' → ExG (PhS n xs) false (mW []) false 70 (kc - 6) (ks - 36) 2675 (lk j) [] (W0 d' L') Qe Xe) : ExG (PhS n xs) false (mW pCH) false 70 kc ks 40 (lk j) [.int (nI w)] (W0 d L) Qe Xe := by
  by_cases h43 : 43 ≤ w
  · exact y_tsw (tgt := 2675) rfl (Or.inr ⟨Or.inr (law_far h43 hw), rfl⟩) (y_rows ⟨rfl, trivial⟩ (y_room (by omega) (by omega) (K d L hI)))
  · match w, h43 with
    | 0, _ => exact y_tsw (tgt := 228) rfl (Or.inl ⟨⟨by decide, by decide⟩, 188, rfl, rfl⟩) (y_rows ⟨rfl, trivial⟩ (lw_feed hj hn hI hkc hks K))
    | 1, _ => exact y_tsw (tgt := 301) rfl (Or.inl ⟨⟨by decide, by decide⟩, 261, rfl, rfl⟩) (y_rows ⟨rfl, trivial⟩ (lw_fair hj hn hI hkc hks K))
    | 2, _ => exact y_tsw (tgt := 357) rfl (Or.inl ⟨⟨by decide, by decide⟩, 317, rfl, rfl⟩) (y_rows ⟨rfl, trivial⟩ (lw_fault hj hn hI hkc hks K))
    | 3, _ => exact y_tsw (tgt := 370) rfl (Or.inl ⟨⟨by decide, by decide⟩, 330, rfl, rfl⟩) (y_rows ⟨rfl, trivial⟩ (lw_count hj hn hI hkc hks K))
    | 4, _ => exact y_tsw (tgt := 426) rfl (Or.inl ⟨⟨by decide, by decide⟩, 386, rfl, rfl⟩) (y_rows ⟨rfl, trivial⟩ (lw_one hj hn hI hkc hks K))
    | 5, _ => exact y_tsw (tgt := 494) rfl (Or.inl ⟨⟨by decide, by decide⟩, 454, rfl, rfl⟩) (y_rows ⟨rfl, trivial⟩ (lw_needle hj hn hI hkc hks K))
    | 6, _ => exact y_tsw (tgt := 562) rfl (Or.inl ⟨⟨by decide, by decide⟩, 522, rfl, rfl⟩) (y_rows ⟨rfl, trivial⟩ (lw_saying hj hn hI hkc hks K))
    | 7, _ => exact y_tsw (tgt := 630) rfl (Or.inl ⟨⟨by decide, by decide⟩, 590, rfl, rfl⟩) (y_rows ⟨rfl, trivial⟩ (lw_shows hj hn hI hkc hks K))
    | 8, _ => exact y_tsw (tgt := 698) rfl (Or.inl ⟨⟨by decide, by decide⟩, 658, rfl, rfl⟩) (y_rows ⟨rfl, trivial⟩ (lw_last hj hn hI hkc hks K))
    | 9, _ => exact y_tsw (tgt := 766) rfl (Or.inl ⟨⟨by decide, by decide⟩, 726, rfl, rfl⟩) (y_rows ⟨rfl, trivial⟩ (lw_points hj hn hI hkc hks K))
    | 10, _ => exact y_tsw (tgt := 834) rfl (Or.inl ⟨⟨by decide, by decide⟩, 794, rfl, rfl⟩) (y_rows ⟨rfl, trivial⟩ (lw_side hj hn hI hkc hks K))
    | 11, _ => exact y_tsw (tgt := 871) rfl (Or.inl ⟨⟨by decide, by decide⟩, 831, rfl, rfl⟩) (y_rows ⟨rfl, trivial⟩ (lw_accused hj hn hI hkc hks K))
    | 12, _ => exact y_tsw (tgt := 927) rfl (Or.inl ⟨⟨by decide, by decide⟩, 887, rfl, rfl⟩) (y_rows ⟨rfl, trivial⟩ (lw_tell hj hn hI hkc hks K))
    | 13, _ => exact y_tsw (tgt := 1007) rfl (Or.inl ⟨⟨by decide, by decide⟩, 967, rfl, rfl⟩) (y_rows ⟨rfl, trivial⟩ (lw_back hj hn hI hkc hks K))
    | 14, _ => exact y_tsw (tgt := 1020) rfl (Or.inl ⟨⟨by decide, by decide⟩, 980, rfl, rfl⟩) (y_rows ⟨rfl, trivial⟩ (lw_rust hj hn hI hkc hks K))
    | 15, _ => exact y_tsw (tgt := 1088) rfl (Or.inl ⟨⟨by decide, by decide⟩, 1048, rfl, rfl⟩) (y_rows ⟨rfl, trivial⟩ (lw_carry hj hn hI hkc hks K))
    | 16, _ => exact y_tsw (tgt := 1168) rfl (Or.inl ⟨⟨by decide, by decide⟩, 1128, rfl, rfl⟩) (y_rows ⟨rfl, trivial⟩ (lw_undo hj hn hI hkc hks K))
    | 17, _ => exact y_tsw (tgt := 1181) rfl (Or.inl ⟨⟨by decide, by decide⟩, 1141, rfl, rfl⟩) (y_rows ⟨rfl, trivial⟩ (lw_clash hj hn hI hkc hks K))
    | 18, _ => exact y_tsw (tgt := 1194) rfl (Or.inl ⟨⟨by decide, by decide⟩, 1154, rfl, rfl⟩) (y_rows ⟨rfl, trivial⟩ (lw_just hj hn hI hkc hks K))
    | 19, _ => exact y_tsw (tgt := 1274) rfl (Or.inl ⟨⟨by decide, by decide⟩, 1234, rfl, rfl⟩) (y_rows ⟨rfl, trivial⟩ (lw_apart hj hn hI hkc hks K))
    | 20, _ => exact y_tsw (tgt := 1342) rfl (Or.inl ⟨⟨by decide, by decide⟩, 1302, rfl, rfl⟩) (y_rows ⟨rfl, trivial⟩ (lw_alibi hj hn hI hkc hks K))
    | 21, _ => exact y_tsw (tgt := 1422) rfl (Or.inl ⟨⟨by decide, by decide⟩, 1382, rfl, rfl⟩) (y_rows ⟨rfl, trivial⟩ (lw_plan hj hn hI hkc hks K))
    | 22, _ => exact y_tsw (tgt := 1502) rfl (Or.inl ⟨⟨by decide, by decide⟩, 1462, rfl, rfl⟩) (y_rows ⟨rfl, trivial⟩ (lw_see hj hn hI hkc hks K))
    | 23, _ => exact y_tsw (tgt := 1582) rfl (Or.inl ⟨⟨by decide, by decide⟩, 1542, rfl, rfl⟩) (y_rows ⟨rfl, trivial⟩ (lw_forget hj hn hI hkc hks K))
    | 24, _ => exact y_tsw (tgt := 1593) rfl (Or.inl ⟨⟨by decide, by decide⟩, 1553, rfl, rfl⟩) (y_rows ⟨rfl, trivial⟩ (lw_planted hj hn hI hkc hks K))
    | 25, _ => exact y_tsw (tgt := 1606) rfl (Or.inl ⟨⟨by decide, by decide⟩, 1566, rfl, rfl⟩) (y_rows ⟨rfl, trivial⟩ (lw_suspects hj hn hI hkc hks K))
    | 26, _ => exact y_tsw (tgt := 1662) rfl (Or.inl ⟨⟨by decide, by decide⟩, 1622, rfl, rfl⟩) (y_rows ⟨rfl, trivial⟩ (lw_spots hj hn hI hkc hks K))
    | 27, _ => exact y_tsw (tgt := 1730) rfl (Or.inl ⟨⟨by decide, by decide⟩, 1690, rfl, rfl⟩) (y_rows ⟨rfl, trivial⟩ (lw_saucer hj hn hI hkc hks K))
    | 28, _ => exact y_tsw (tgt := 1810) rfl (Or.inl ⟨⟨by decide, by decide⟩, 1770, rfl, rfl⟩) (y_rows ⟨rfl, trivial⟩ (lw_game hj hn hI hkc hks K))
    | 29, _ => exact y_tsw (tgt := 1914) rfl (Or.inl ⟨⟨by decide, by decide⟩, 1874, rfl, rfl⟩) (y_rows ⟨rfl, trivial⟩ (lw_years hj hn hI hkc hks K))
    | 30, _ => exact y_tsw (tgt := 1994) rfl (Or.inl ⟨⟨by decide, by decide⟩, 1954, rfl, rfl⟩) (y_rows ⟨rfl, trivial⟩ (lw_shown hj hn hI hkc hks K))
    | 31, _ => exact y_tsw (tgt := 2062) rfl (Or.inl ⟨⟨by decide, by decide⟩, 2022, rfl, rfl⟩) (y_rows ⟨rfl, trivial⟩ (lw_named hj hn hI hkc hks K))
    | 32, _ => exact y_tsw (tgt := 2130) rfl (Or.inl ⟨⟨by decide, by decide⟩, 2090, rfl, rfl⟩) (y_rows ⟨rfl, trivial⟩ (lw_butFor hj hn hI hkc hks K))
    | 33, _ => exact y_tsw (tgt := 2186) rfl (Or.inl ⟨⟨by decide, by decide⟩, 2146, rfl, rfl⟩) (y_rows ⟨rfl, trivial⟩ (lw_rusted hj hn hI hkc hks K))
    | 34, _ => exact y_tsw (tgt := 2242) rfl (Or.inl ⟨⟨by decide, by decide⟩, 2202, rfl, rfl⟩) (y_rows ⟨rfl, trivial⟩ (lw_ears hj hn hI hkc hks K))
    | 35, _ => exact y_tsw (tgt := 2310) rfl (Or.inl ⟨⟨by decide, by decide⟩, 2270, rfl, rfl⟩) (y_rows ⟨rfl, trivial⟩ (lw_hideouts hj hn hI hkc hks K))
    | 36, _ => exact y_tsw (tgt := 2402) rfl (Or.inl ⟨⟨by decide, by decide⟩, 2362, rfl, rfl⟩) (y_rows ⟨rfl, trivial⟩ (lw_pardon hj hn hI hkc hks K))
    | 37, _ => exact y_tsw (tgt := 2470) rfl (Or.inl ⟨⟨by decide, by decide⟩, 2430, rfl, rfl⟩) (y_rows ⟨rfl, trivial⟩ (lw_falsely hj hn hI hkc hks K))
    | 38, _ => exact y_tsw (tgt := 2526) rfl (Or.inl ⟨⟨by decide, by decide⟩, 2486, rfl, rfl⟩) (y_rows ⟨rfl, trivial⟩ (lw_truest hj hn hI hkc hks K))
    | 39, _ => exact y_tsw (tgt := 2539) rfl (Or.inl ⟨⟨by decide, by decide⟩, 2499, rfl, rfl⟩) (y_rows ⟨rfl, trivial⟩ (lw_first hj hn hI hkc hks K))
    | 40, _ => exact y_tsw (tgt := 2595) rfl (Or.inl ⟨⟨by decide, by decide⟩, 2555, rfl, rfl⟩) (y_rows ⟨rfl, trivial⟩ (lw_busiest hj hn hI hkc hks K))
    | 41, _ => exact y_tsw (tgt := 2651) rfl (Or.inl ⟨⟨by decide, by decide⟩, 2611, rfl, rfl⟩) (y_rows ⟨rfl, trivial⟩ (lw_image hj hn hI hkc hks K))
    | 42, _ => exact y_tsw (tgt := 2662) rfl (Or.inl ⟨⟨by decide, by decide⟩, 2622, rfl, rfl⟩) (y_rows ⟨rfl, trivial⟩ (lw_restore hj hn hI hkc hks K))
    | w + 43, h => exact absurd (Nat.le_add_left 43 w) h
set_option maxRecDepth 100000 in
set_option maxHeartbeats 4000000 in
theorem law_loop {n : Nat} {xs : Nat → Int32} (hn : n ≤ 3072) : ∀ (f j : Nat) (d : Nat → Nat → Int32) (L : Nat → Nat → Int64) (kc ks : Nat), j ≤ n → n < j + 6 * (f + 1) → 6 * f ≤ kc → 36 * f ≤ ks → LI d → ExG (PhS n xs) false (mW []) false 70 kc ks 23 (lk j) [] (W0 d L) Qe Xe := by
  intro f
  induction f with
  | zero =>
    intro j d L kc ks hj hf hkc hks hI
    refine y_rows gCH ?_
    refine y_s rfl rfl ?_
    refine y_s rfl rfl ?_
    refine y_slen rfl ?_
    refine y_s rfl rfl ?_
    refine y_s rfl rfl ?_
    refine y_br rfl rfl (fun _ => ?_) (fun z => ?_)
    · refine y_s rfl rfl ?_
      exact y_iret rfl rfl rfl ⟨rfl, rfl⟩
    · have := law_out hn hj z
      omega
  | succ f ih =>
    intro j d L kc ks hj hf hkc hks hI
    refine y_rows gCH ?_
    refine y_s rfl rfl ?_
    refine y_s rfl rfl ?_
    refine y_slen rfl ?_
    refine y_s rfl rfl ?_
    refine y_s rfl rfl ?_
    refine y_br rfl rfl (fun _ => ?_) (fun z => ?_)
    · refine y_s rfl rfl ?_
      exact y_iret rfl rfl rfl ⟨rfl, rfl⟩
    · have hj6 := law_out hn hj z
      refine y_s rfl rfl ?_
      refine y_s rfl rfl ?_
      refine y_sld (k := j) rfl rfl (by omega) hn ?_
      refine y_s rfl rfl ?_
      refine y_s rfl rfl ?_
      obtain ⟨w, hw, e⟩ := pk_andE (xs j) (m := 63) 6 rfl
      rw [e]
      refine law_go hj6 hn hw hI (by omega) (by omega) (fun d' L' h' => ?_)
      refine y_rows gCH ?_
      refine y_s rfl rfl ?_
      refine y_s rfl rfl ?_
      have e6 : nI j + 6 = nI (j + 6) := nI_add j 6
      rw [e6]
      exact y_rows ⟨rfl, trivial⟩ (ih (j + 6) d' L' _ _ hj6 (by omega) (by omega) (by omega) h')
