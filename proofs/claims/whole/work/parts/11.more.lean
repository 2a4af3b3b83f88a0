/-! MORE CALLS, DIVISION, SWITCHES -/
set_option maxHeartbeats 4000000 in
/-- a static call -/
theorem x_cs {M M' : xM} {fr : Bool} {dp kc ks dp' kc' ks' pc nx i : Nat} {li : Int32} {ll : Int64} {ls : List (Option Value)} {As r : List Value} {st : List Value} {h : xHp} {Q Q' : xPost} {X : Nat → xHp → Prop}
    (hC : Cn M' fr dp' kc' ks' As h Q') (hf : xft M.2.2.2.2.2 pc = some (nx, .invokestatic i, [1, M'.1], li, ll)) (hst : st = As.reverse ++ r) (hn : As.length = xNp M'.1) (hm : M'.1 < 335) (hr : (r.map fun v => v.category).sum ≤ 8) (hdp : dp' + 1 ≤ dp) (hkc : kc' ≤ kc) (hks : ks' ≤ ks)
    (k : ∀ v h', Q' v h' → Ex M fr dp (kc - kc') (ks - ks') nx ls (v.toList ++ r) h' Q X) : Ex M fr dp kc ks pc ls st h Q X := by
  intro hg p l e R s m args below meth c D ka al A H locs cells slots mc ms lsA C R0 B hW hS hl
  obtain ⟨hd, rfl, hres⟩ := xft_dec hg.1 hf rfl
  obtain ⟨hg', hh', hM⟩ := hC
  obtain ⟨q, hq, e1, e2, e3, e4⟩ := xlk_m (Or.inr (Or.inl rfl)) (by decide) hres
  obtain ⟨w1, w2, -, w4⟩ := xMk hq
  rw [e1, e2, e3, e4] at w1
  rw [e3, e4] at w2
  rw [e4] at w4
  have hts := C.2.2.2.2.2.1
  have hw1 : Cond.methodLink (xOwn M.2.1) i (xY M'.1) ∈ xTG := xTG_in w1 rfl
  have hmL := hg'.2.2.2.2.1
  refine xback (Q' := Q') (a := (As.map (xcv al)).toArray) hg C R0 B hkc hks hW hS hl rfl (va_runS (Ts := xTG) (own := xOwn M.2.1) (As := As.map (xcv al)) (bytes := M'.2.2.1) (maxL := M'.2.2.2.1) (ret := M'.2.2.2.2.1) ⟨C.1, C.2.1, C.2.2.2.1, C.2.2.2.2.1, hts⟩ (hM l C.2.2.2.2.2.2.2.2.2.2.1 D ka al H.size) ⟨callB_of As.length hts (xGoodIn hg' hh') (by rw [← xcw_code hh']; rfl) rfl rfl (hts _ w4) (hts _ hw1) ⟨hg'.2.2.2.2.2.1, hg'.2.2.2.2.2.2, by rw [hn]; exact xNp_ok _ hm⟩ ⟨by show dp' + 1 ≤ R.frames; omega, by show 8 + (M'.2.2.2.1 + 11) + 64 * dp' ≤ R.locals; omega⟩, hts _ w2⟩ ⟨xPc_blind, xpre (av := As) C hW hS⟩ rfl (by simp) hl.1 ?_ (lv_room ?_) hd ⟨by omega, by omega⟩) k
  · show List.map (xcv al) st = _
    rw [hst]
    simp
  · simpa [xcv_cat, Function.comp_def] using hr
theorem xnest {al : Nat → Nat} {A : Nat → Prop} {U : State} {H : Heap} {q : Nat × Nat × Nat × Nat × Nat × Nat × Nat × Nat} {o i tag mid : Nat} (hF : xFx al A U H) (hq : q ∈ xLKm) (e1 : q.1 = o) (e2 : q.2.1 = i) (e3 : q.2.2.1 = tag) (e4 : q.2.2.2.1 = mid) (ht : tag = 3 ∨ tag = 4) : va_Nw (.methodLinkNest (xOwn o) i (xY mid) RX11) U := by
  have h := hF.1 q hq (by rw [e3]; exact ht)
  rw [e1, e2, e3, e4] at h
  unfold xMw1 at h
  rw [if_pos ht] at h
  exact h
set_option maxHeartbeats 4000000 in
/-- a static call of a nest mate's method -/
theorem x_cn {M M' : xM} {fr : Bool} {dp kc ks dp' kc' ks' pc nx i : Nat} {li : Int32} {ll : Int64} {ls : List (Option Value)} {As r : List Value} {st : List Value} {h : xHp} {Q Q' : xPost} {X : Nat → xHp → Prop}
    (hC : Cn M' fr dp' kc' ks' As h Q') (hf : xft M.2.2.2.2.2 pc = some (nx, .invokestatic i, [3, M'.1], li, ll)) (hst : st = As.reverse ++ r) (hn : As.length = xNp M'.1) (hm : M'.1 < 335) (hr : (r.map fun v => v.category).sum ≤ 8) (hdp : dp' + 1 ≤ dp) (hkc : kc' ≤ kc) (hks : ks' ≤ ks)
    (k : ∀ v h', Q' v h' → Ex M fr dp (kc - kc') (ks - ks') nx ls (v.toList ++ r) h' Q X) : Ex M fr dp kc ks pc ls st h Q X := by
  intro hg p l e R s m args below meth c D ka al A H locs cells slots mc ms lsA C R0 B hW hS hl
  obtain ⟨hd, rfl, hres⟩ := xft_dec hg.1 hf rfl
  obtain ⟨hg', hh', hM⟩ := hC
  obtain ⟨q, hq, e1, e2, e3, e4⟩ := xlk_m (Or.inr (Or.inl rfl)) (by decide) hres
  obtain ⟨w1, w2, -, w4⟩ := xMk hq
  rw [e3, e4] at w2
  rw [e4] at w4
  have hts := C.2.2.2.2.2.1
  have hnw := xnest C.2.2.2.2.2.2.2.2.2.1 hq e1 e2 e3 e4 (Or.inl rfl)
  have hmL := hg'.2.2.2.2.1
  refine xback (Q' := Q') (a := (As.map (xcv al)).toArray) hg C R0 B hkc hks hW hS hl rfl (va_runSN (Ts := xTG) (own := xOwn M.2.1) (As := As.map (xcv al)) (bytes := M'.2.2.1) (maxL := M'.2.2.2.1) (ret := M'.2.2.2.2.1) ⟨C.1, C.2.1, C.2.2.2.1, C.2.2.2.2.1, hts⟩ (hM l C.2.2.2.2.2.2.2.2.2.2.1 D ka al H.size) ⟨va_cnB As.length hts (xGoodIn hg' hh') (by rw [← xcw_code hh']; rfl) rfl rfl hnw (hts _ w4) ⟨hg'.2.2.2.2.2.1, hg'.2.2.2.2.2.2, by rw [hn]; exact xNp_ok _ hm⟩ ⟨by show dp' + 1 ≤ R.frames; omega, by show 8 + (M'.2.2.2.1 + 11) + 64 * dp' ≤ R.locals; omega⟩, hts _ w2, trivial⟩ ⟨xPc_blind, xpre (av := As) C hW hS⟩ rfl (by simp) hl.1 ?_ (lv_room ?_) hd ⟨by omega, by omega⟩) k
  · show List.map (xcv al) st = _
    rw [hst]
    simp
  · simpa [xcv_cat, Function.comp_def] using hr
section XDV
variable {M : xM} {fr : Bool} {dp kc ks pc nx : Nat} {rs : List Nat} {li : Int32} {ll : Int64} {ls : List (Option Value)} {st : List Value} {h : xHp} {Q : xPost} {X : Nat → xHp → Prop}
theorem x_idiv {x y : Int32} (hf : xft M.2.2.2.2.2 pc = some (nx, .idiv, rs, li, ll)) (hy : ¬ y = 0) (k : Ex M fr dp kc ks nx ls (.int (x / y) :: st) h Q X) : Ex M fr dp kc ks pc ls (.int y :: .int x :: st) h Q X := by
  intro hg p l e R s m args below meth c D ka al A H locs cells slots mc ms lsA C R0 B hW hS hl
  obtain ⟨hd, rfl, -⟩ := xft_dec hg.1 hf rfl
  exact lv_idiv C.1 C.2.1 hd hy (k hg p l e R s m args below meth c D ka al A H locs cells slots mc ms lsA C R0 B hW hS hl)
theorem x_irem {x y : Int32} (hf : xft M.2.2.2.2.2 pc = some (nx, .irem, rs, li, ll)) (hy : ¬ y = 0) (k : Ex M fr dp kc ks nx ls (.int (x - x / y * y) :: st) h Q X) : Ex M fr dp kc ks pc ls (.int y :: .int x :: st) h Q X := by
  intro hg p l e R s m args below meth c D ka al A H locs cells slots mc ms lsA C R0 B hW hS hl
  obtain ⟨hd, rfl, -⟩ := xft_dec hg.1 hf rfl
  exact lv_irem C.1 C.2.1 hd hy (k hg p l e R s m args below meth c D ka al A H locs cells slots mc ms lsA C R0 B hW hS hl)
theorem x_tsw {i : Instr} {x : Int32} {tgt : Nat} {dflt lo hi : Int} {offs : Array Int} (hf : xft M.2.2.2.2.2 pc = some (nx, .tableswitch dflt lo hi offs, rs, li, ll)) (ht : (((¬ x.toInt < lo ∧ ¬ hi < x.toInt) ∧ ∃ off, offs[(x.toInt - lo).toNat]? = some off ∧ (pc : Int) + off = (tgt : Int))) ∨ ((x.toInt < lo ∨ hi < x.toInt) ∧ (pc : Int) + dflt = (tgt : Int))) (k : Ex M fr dp kc ks tgt ls st h Q X) : Ex M fr dp kc ks pc ls (.int x :: st) h Q X := by
  intro hg p l e R s m args below meth c D ka al A H locs cells slots mc ms lsA C R0 B hW hS hl
  have K := k hg p l e R s m args below meth c D ka al A H locs cells slots mc ms lsA C R0 B hW hS hl
  have h1 := xft_row hg.1 hf
  unfold xrok at h1
  simp only [xtab, if_true, Bool.and_eq_true, decide_eq_true_eq] at h1
  rcases ht with ⟨⟨a1, a2⟩, off, a3, a4⟩ | ⟨a1, a2⟩
  · exact lv_tableIn C.1 C.2.1 h1.1.1 a1 a2 a3 a4 K
  · exact lv_tableOut C.1 C.2.1 h1.1.1 a1 a2 K
end XDV
theorem xlk_n {o pc nx : Nat} {i : Instr} {tag mid j : Nat} {li : Int32} {ll : Int64} (hi : i = .invokevirtual j ∨ i = .invokestatic j ∨ i = .invokespecial j) (ht : ¬ tag < 10) (h : xres o (pc, nx, i, [tag, mid], li, ll) = true) : Cond.methodLink (xOwn o) j (xNn tag) ∈ xTG := by
  have h1 : (xLKn.any fun q => q.1 == o && q.2.1 == j && q.2.2.1 == tag) = true := by
    rcases hi with rfl | rfl | rfl <;> · simpa [xres, ht] using h
  obtain ⟨q, hq, h2⟩ := List.any_eq_true.mp h1
  simp only [Bool.and_eq_true, beq_iff_eq] at h2
  have h3 := List.all_eq_true.mp xLKn_ok q hq
  simp only [decide_eq_true_eq] at h3
  rw [h2.1.1, h2.1.2, h2.2] at h3
  exact xTG_in (xat_in h3) rfl
theorem xN_max : Cond.static Lib.Math.max.name ∈ xTG ∧ Cond.code Lib.Math.max.name Lib.Math.max.code 2 (some .int) ∈ xTG := ⟨xTG_in (xat_in (p := 3019) (by decide +kernel)) rfl, xTG_in (xat_in (p := 3020) rfl) rfl⟩
theorem xN_min : Cond.static Lib.Math.min.name ∈ xTG ∧ Cond.code Lib.Math.min.name Lib.Math.min.code 2 (some .int) ∈ xTG := ⟨xTG_in (xat_in (p := 3219) (by decide +kernel)) rfl, xTG_in (xat_in (p := 3220) rfl) rfl⟩
theorem xN_abs : Cond.static Lib.Math.abs.name ∈ xTG ∧ Cond.code Lib.Math.abs.name Lib.Math.abs.code 1 (some .int) ∈ xTG := ⟨xTG_in (xat_in (p := 3016) (by decide +kernel)) rfl, xTG_in (xat_in (p := 3017) rfl) rfl⟩
theorem xN_labs : Cond.static Lib.MathLoose.abs_long.x ∈ xTG ∧ Cond.code Lib.MathLoose.abs_long.x Lib.MathLoose.abs_long.code 2 (some .long) ∈ xTG := ⟨xTG_in (xat_in (p := 2206) (by decide +kernel)) rfl, xTG_in (xat_in (p := 2207) rfl) rfl⟩
theorem xN_mi : Cond.initialized "java/lang/Math" ∈ xTG := xTG_in (xat_in (p := 1018) (by decide +kernel)) rfl
theorem xN_sy : Cond.native arraycopyName ∈ xTG ∧ Cond.static arraycopyName ∈ xTG ∧ Cond.initialized "java/lang/System" ∈ xTG := ⟨xTG_in (xat_in (p := 2223) (by decide +kernel)) rfl, xTG_in (xat_in (p := 2222) (by decide +kernel)) rfl, xTG_in (xat_in (p := 1025) (by decide +kernel)) rfl⟩
theorem xN_ob : Cond.instanceMethod Lib.objectInit ∈ xTG ∧ Cond.code Lib.objectInit ⟨#[0xb1]⟩ 1 none ∈ xTG := ⟨xTG_in (xat_in (p := 1033) (by decide +kernel)) rfl, xTG_in (xat_in (p := 1034) rfl) rfl⟩
section XNT
variable {M : xM} {fr : Bool} {dp kc ks pc nx i mid : Nat} {li : Int32} {ll : Int64} {ls : List (Option Value)} {st : List Value} {h : xHp} {Q : xPost} {X : Nat → xHp → Prop}
theorem xst_cat {al : Nat → Nat} {st : List Value} {n : Nat} (h : (st.map fun v => v.category).sum ≤ n) : ((st.map (xcv al)).map fun v => v.category).sum ≤ n := by simpa [xcv_cat, Function.comp_def] using h
set_option maxHeartbeats 4000000 in
theorem x_max {x y : Int32} (hf : xft M.2.2.2.2.2 pc = some (nx, .invokestatic i, [10, mid], li, ll)) (hd1 : 1 ≤ dp) (hst : (st.map fun v => v.category).sum ≤ 8) (k : Ex M fr dp kc ks nx ls (.int (if x < y then y else x) :: st) h Q X) : Ex M fr dp kc ks pc ls (.int y :: .int x :: st) h Q X := by
  intro hg p l e R s m args below meth c D ka al A H locs cells slots mc ms lsA C R0 B hW hS hl
  obtain ⟨hd, rfl, hres⟩ := xft_dec hg.1 hf rfl
  have hts := C.2.2.2.2.2.1
  have hst' := xst_cat (al := al) hst
  exact va_mmax C.1 C.2.1 (C.2.2.2.1.trans hl.1.symm) C.2.2.2.2.1 (hts _ (xlk_n (Or.inr (Or.inl rfl)) (by decide) hres)) (hts _ xN_max.1) (hts _ xN_mi) (hts _ xN_max.2) (by omega) (by omega) (by omega) (by omega) hd (k hg p l e R s m args below meth c D ka al A H locs cells slots mc ms lsA C R0 B hW hS hl)
set_option maxHeartbeats 4000000 in
theorem x_min {x y : Int32} (hf : xft M.2.2.2.2.2 pc = some (nx, .invokestatic i, [11, mid], li, ll)) (hd1 : 1 ≤ dp) (hst : (st.map fun v => v.category).sum ≤ 8) (k : Ex M fr dp kc ks nx ls (.int (if y < x then y else x) :: st) h Q X) : Ex M fr dp kc ks pc ls (.int y :: .int x :: st) h Q X := by
  intro hg p l e R s m args below meth c D ka al A H locs cells slots mc ms lsA C R0 B hW hS hl
  obtain ⟨hd, rfl, hres⟩ := xft_dec hg.1 hf rfl
  have hts := C.2.2.2.2.2.1
  have hst' := xst_cat (al := al) hst
  exact va_mmin C.1 C.2.1 (C.2.2.2.1.trans hl.1.symm) C.2.2.2.2.1 (hts _ (xlk_n (Or.inr (Or.inl rfl)) (by decide) hres)) (hts _ xN_min.1) (hts _ xN_mi) (hts _ xN_min.2) (by omega) (by omega) (by omega) (by omega) hd (k hg p l e R s m args below meth c D ka al A H locs cells slots mc ms lsA C R0 B hW hS hl)
set_option maxHeartbeats 4000000 in
theorem x_abs {x : Int32} (hf : xft M.2.2.2.2.2 pc = some (nx, .invokestatic i, [12, mid], li, ll)) (hd1 : 1 ≤ dp) (hst : (st.map fun v => v.category).sum ≤ 8) (k : Ex M fr dp kc ks nx ls (.int (if 0 ≤ x then x else 0 - x) :: st) h Q X) : Ex M fr dp kc ks pc ls (.int x :: st) h Q X := by
  intro hg p l e R s m args below meth c D ka al A H locs cells slots mc ms lsA C R0 B hW hS hl
  obtain ⟨hd, rfl, hres⟩ := xft_dec hg.1 hf rfl
  have hts := C.2.2.2.2.2.1
  have hst' := xst_cat (al := al) hst
  exact va_mabs C.1 C.2.1 (C.2.2.2.1.trans hl.1.symm) C.2.2.2.2.1 (hts _ (xlk_n (Or.inr (Or.inl rfl)) (by decide) hres)) (hts _ xN_abs.1) (hts _ xN_mi) (hts _ xN_abs.2) (by omega) (by omega) (by omega) (by omega) hd (k hg p l e R s m args below meth c D ka al A H locs cells slots mc ms lsA C R0 B hW hS hl)
set_option maxHeartbeats 4000000 in
theorem x_labs {x : Int64} (hf : xft M.2.2.2.2.2 pc = some (nx, .invokestatic i, [13, mid], li, ll)) (hd1 : 1 ≤ dp) (hst : (st.map fun v => v.category).sum ≤ 8) (k : Ex M fr dp kc ks nx ls (.long (if 0 < x then x else -x) :: st) h Q X) : Ex M fr dp kc ks pc ls (.long x :: st) h Q X := by
  intro hg p l e R s m args below meth c D ka al A H locs cells slots mc ms lsA C R0 B hW hS hl
  obtain ⟨hd, rfl, hres⟩ := xft_dec hg.1 hf rfl
  have hts := C.2.2.2.2.2.1
  have hst' := xst_cat (al := al) hst
  exact va_mabs_long C.1 C.2.1 (C.2.2.2.1.trans hl.1.symm) C.2.2.2.2.1 (hts _ (xlk_n (Or.inr (Or.inl rfl)) (by decide) hres)) (hts _ xN_labs.1) (hts _ xN_mi) (hts _ xN_labs.2) (by omega) (by omega) (by omega) (by omega) hd (k hg p l e R s m args below meth c D ka al A H locs cells slots mc ms lsA C R0 B hW hS hl)
end XNT
