/-! CALLS OF WHAT MAY THROW -/
section XCB
variable {p : Program} {l : Launch} {e : Env} {R : Room} {s : State} {m : MethodId} {args : Array Value} {below : List Frame} {meth : Method} {c : Code} {H : Heap} {locs : List Loc} {cells slots : Nat}
theorem xbackX {M : xM} {dp kc ks kc' ks' pc nx mc ms : Nat} {D : va_G} {ka : Nat → ClassId} {al : Nat → Nat} {A : Nat → Prop} {h : xHp} {Q : xPost} {X X' : Nat → xHp → Prop} {Q' : xPost} {ls : List (Option Value)} {lsA : Array Slot} {st0 : List Value} {r : List Value} {a : Array Value} (hg : xgd M)
    (C : xCx p l s m args meth c M D ka al A) (R0 : dp ≤ R.frames ∧ 64 * dp ≤ R.locals ∧ mc ≤ R.cells ∧ ms ≤ R.slots) (B : cells + kc ≤ mc ∧ slots + ks ≤ ms) (hkc : kc' ≤ kc) (hks : ks' ≤ ks) (hW : xWd false D ka al A h H) (hS : va_S A s.heap H locs) (hl : lv_has lsA M.2.2.2.1 (xl al ls)) (hnx : nx = pc + 3)
    (hr : vx_Run p l e R s m args below meth c H locs cells slots kc' ks' (F0 m pc lsA st0) (r.map (xcv al)) (xQc false D ka al (va_A (xws ka al h) H.size) Q' a) (xXC D ka al (va_A (xws ka al h) H.size) X') (va_A (xws ka al h) H.size))
    (k : ∀ v h', Q' v h' → Ex M false dp (kc - kc') (ks - ks') nx ls (v.toList ++ r) h' Q X)
    (kx : ∀ (j : Nat) (h' : xHp) (H1 : Heap) (locs1 : List Loc) (ce : Cell) (q : Addr), X' j h' → xWd false D ka al A h' H1 → va_S A s.heap H1 locs1 → H1[q]? = some ce → ce.vm = .none → s.vm.findClass (xEx j) = some ce.cls → vx_W p l e R s m args below meth c H1 locs1 (cells + kc') (slots + ks') (vx_MQ below (xQc false D ka al A Q) (xXC D ka al A X) args s mc ms A) (F0 m pc lsA (r.map (xcv al))) q) :
    W p l e R s m args below meth c H locs cells slots (vx_MQ below (xQc false D ka al A Q) (xXC D ka al A X) args s mc ms A) (F0 m pc lsA st0) := by
  have hsub := xA_sub hW.2.1 hS C.2.2.2.2.2.2.2.2.1
  intro T hT XX
  rcases hr T hT XX with ⟨v, st₀, t, T', L, h0, X', hL, e1, e2, ⟨⟨v', h', hv, hq, hW', hK'⟩, hz, hk⟩, st⟩ | ⟨q, st₀, t, T', L, E, ce, h0, X', hL, e1, e2, ⟨⟨j, h', rfl, hq, hW', hK'⟩, hz, hk⟩, hce, hcv, hcl, st⟩
  · cases hv
    rw [h0] at hz hk
    subst hnx
    obtain ⟨t2, a1, b1⟩ := k v' h' hq hg p l e R s m args below meth c D ka al A T'.heap (locs ++ L) (cells + kc') (slots + ks') mc ms lsA C R0 ⟨by omega, by omega⟩ ⟨by rw [e1]; exact hW'.1, hW'.2.1.weaken (fun _ q _ z => hsub q.1 z), by rw [e1]; exact hW'.2.2⟩
      ⟨Nat.le_trans hS.1 (by rw [e1]; exact hz), fun q h1 h2 => by rw [e1, hk q (Nat.lt_of_lt_of_le h1 hS.1) (fun z => h2 (hsub q z))]; exact hS.2.1 q h1 h2, fun q hq => by
        rcases List.mem_append.mp hq with z | z
        · exact hS.2.2 q z
        · exact hsub _ (hL q z)⟩ hl T' rfl X'
    refine ⟨t2, st t2 ?_, b1⟩
    have : (v'.map (xcv al)).toList ++ r.map (xcv al) = (v'.toList ++ r).map (xcv al) := by cases v' <;> rfl
    rw [this]
    exact a1
  · rw [h0] at hz hk
    obtain ⟨t2, a1, b1⟩ := kx j h' T'.heap (locs ++ L) ce q hq ⟨by rw [e1]; exact hW'.1, hW'.2.1.weaken (fun _ q _ z => hsub q.1 z), fun z => by cases z⟩
      ⟨Nat.le_trans hS.1 (by rw [e1]; exact hz), fun q h1 h2 => by rw [e1, hk q (Nat.lt_of_lt_of_le h1 hS.1) (fun z => h2 (hsub q z))]; exact hS.2.1 q h1 h2, fun q hq => by
        rcases List.mem_append.mp hq with z | z
        · exact hS.2.2 q z
        · exact hsub _ (hL q z)⟩ (by rw [e1]; exact hce) hcv hcl T' rfl X'
    exact ⟨t2, st.trans a1, b1⟩
/-- it goes on to the caller -/
theorem xout {M : xM} {pc mc ms : Nat} {D : va_G} {ka : Nat → ClassId} {al : Nat → Nat} {A : Nat → Prop} {h' : xHp} {Q : xPost} {X : Nat → xHp → Prop} {lsA : Array Slot} {r : List Value} {j : Nat} {H1 : Heap} {locs1 : List Loc} {ce : Cell} {q : Addr} (C : xCx p l s m args meth c M D ka al A) (hh : xHh M.1 = []) (hX : X j h') (hW : xWd false D ka al A h' H1) (hS : va_S A s.heap H1 locs1) (hce : H1[q]? = some ce) (hcv : ce.vm = .none) (hcl : s.vm.findClass (xEx j) = some ce.cls) (hc : cells ≤ mc) (hs : slots ≤ ms) :
    vx_W p l e R s m args below meth c H1 locs1 cells slots (vx_MQ below (xQc false D ka al A Q) (xXC D ka al A X) args s mc ms A) (F0 m pc lsA r) q := by
  refine vx_out (E := xEx j) ?_ C.2.2.2.2.2.2.1 hce hcv hcl (fun t ht hvm => ⟨⟨j, h', rfl, hX, by rw [ht]; exact hW, va_K.moved hvm C.2.2.2.2.2.2.2.1⟩, hS.F ht⟩) hS.2.2 hc hs
  rw [C.2.2.2.2.2.2.2.2.2.2.2.2, xtbl_nil hh]
  exact fun x hx => nomatch hx
end XCB
set_option maxHeartbeats 4000000 in
/-- a virtual call of a method that may throw; what it throws goes on to the caller -/
theorem x_xv {M M' : xM} {dp kc ks dp' kc' ks' pc nx i ci n b : Nat} {li : Int32} {ll : Int64} {ls : List (Option Value)} {As r : List Value} {st : List Value} {h : xHp} {Q Q' : xPost} {X X' : Nat → xHp → Prop}
    (hC : Cx M' dp' kc' ks' (.ref b :: As) h Q' X') (hf : xft M.2.2.2.2.2 pc = some (nx, .invokevirtual i, [0, M'.1], li, ll)) (hh : xHh M.1 = []) (hst : st = As.reverse ++ .ref b :: r) (hn : As.length = xNp M'.1) (hm : M'.1 < 335) (hsh : xsh h.1 b = some (ci, n)) (hci : ci < 13) (hcl : M'.2.1 = ci) (hr : (r.map fun v => v.category).sum ≤ 8) (hdp : dp' + 1 ≤ dp) (hkc : kc' ≤ kc) (hks : ks' ≤ ks)
    (k : ∀ v h', Q' v h' → Ex M false dp (kc - kc') (ks - ks') nx ls (v.toList ++ r) h' Q X) (kx : ∀ j h', X' j h' → X j h') : Ex M false dp kc ks pc ls st h Q X := by
  intro hg p l e R s m args below meth c D ka al A H locs cells slots mc ms lsA C R0 B hW hS hl
  obtain ⟨hd, rfl, hres⟩ := xft_dec hg.1 hf rfl
  obtain ⟨hg', hh', hM⟩ := hC
  obtain ⟨q, hq, e1, e2, e3, e4⟩ := xlk_m (Or.inl rfl) (by decide) hres
  obtain ⟨w1, w2, w3, w4⟩ := xMk hq
  rw [e1, e2, e3, e4] at w1
  rw [e3, e4] at w2
  rw [e4] at w3 w4
  have hts := C.2.2.2.2.2.1
  have hw1 : Cond.methodLink (xOwn M.2.1) i (xY M'.1) ∈ xTG := xTG_in w1 rfl
  have hcs : (xY M'.1).cls = xOwn ci := by rw [hg'.2.2.1, hcl]
  have hmL := hg'.2.2.2.2.1
  refine xbackX (Q' := Q') (X' := X') (a := (Value.ref (al b) :: As.map (xcv al)).toArray) hg C R0 B hkc hks hW hS hl rfl (vx_runV (Ts := xTG) (own := xOwn M.2.1) (C := (xY M'.1).cls) (As := As.map (xcv al)) (bytes := M'.2.2.1) (maxL := M'.2.2.2.1) (ret := M'.2.2.2.2.1) ⟨C.1, C.2.1, C.2.2.2.1, C.2.2.2.2.1, hts⟩ (hM l C.2.2.2.2.2.2.2.2.2.2.1 D ka al H.size) ⟨callB_of As.length hts (xGoodIn hg' hh') (by rw [← xcw_code hh']; rfl) rfl rfl (hts _ w4) (hts _ hw1) ⟨hg'.2.2.2.2.2.1, hg'.2.2.2.2.2.2, by rw [hn]; exact xNp_ok _ hm⟩ ⟨by show dp' + 1 ≤ R.frames; omega, by show 8 + (M'.2.2.2.1 + 11) + 64 * dp' ≤ R.locals; omega⟩, hts _ w2, hts _ (w3 e3)⟩ ⟨xPc_blind, ?_, ?_⟩ rfl (by simp) hl.1 ?_ (lv_room ?_) hd ⟨by omega, by omega⟩) k (fun j h' H1 locs1 ce q9 hx9 hW9 hS9 hce hcv hcl9 => xout C hh (kx j h' hx9) hW9 hS9 hce hcv hcl9 (by omega) (by omega))
  · obtain ⟨T, hT1, -⟩ := xvw hci
    have hw := xws_get (ka := ka) (al := al) (xsh_get hsh)
    rw [xcell_obj (by omega)] at hw
    rw [hcs]
    exact va_recv C.2.2.2.2.2.2.2.1 hW.1 hT1 hw
  · exact xpre (av := .ref b :: As) C hW hS
  · show List.map (xcv al) st = _
    rw [hst]
    simp [xcv]
  · simpa [xcv_cat, Function.comp_def] using hr
set_option maxHeartbeats 4000000 in
/-- a static call of a method that may throw -/
theorem x_xs {M M' : xM} {dp kc ks dp' kc' ks' pc nx i : Nat} {li : Int32} {ll : Int64} {ls : List (Option Value)} {As r : List Value} {st : List Value} {h : xHp} {Q Q' : xPost} {X X' : Nat → xHp → Prop}
    (hC : Cx M' dp' kc' ks' As h Q' X') (hf : xft M.2.2.2.2.2 pc = some (nx, .invokestatic i, [1, M'.1], li, ll)) (hh : xHh M.1 = []) (hst : st = As.reverse ++ r) (hn : As.length = xNp M'.1) (hm : M'.1 < 335) (hr : (r.map fun v => v.category).sum ≤ 8) (hdp : dp' + 1 ≤ dp) (hkc : kc' ≤ kc) (hks : ks' ≤ ks)
    (k : ∀ v h', Q' v h' → Ex M false dp (kc - kc') (ks - ks') nx ls (v.toList ++ r) h' Q X) (kx : ∀ j h', X' j h' → X j h') : Ex M false dp kc ks pc ls st h Q X := by
  intro hg p l e R s m args below meth c D ka al A H locs cells slots mc ms lsA C R0 B hW hS hl
  obtain ⟨hd, rfl, hres⟩ := xft_dec hg.1 hf rfl
  obtain ⟨hg', hh', hM⟩ := hC
  obtain ⟨q, hq, e1, e2, e3, e4⟩ := xlk_m (Or.inr (Or.inl rfl)) (by decide) hres
  obtain ⟨w1, w2, -, w4⟩ := xMk hq
  rw [e1, e2, e3, e4] at w1
  rw [e3, e4] at w2
  rw [e4] at w4
  have hts := C.2.2.2.2.2.1
  have hw1 : Cond.methodLink (xOwn M.2.1) i (xY M'.1) ∈ xTG := xTG_in w1 rfl
  have hmL := hg'.2.2.2.2.1
  refine xbackX (Q' := Q') (X' := X') (a := (As.map (xcv al)).toArray) hg C R0 B hkc hks hW hS hl rfl (vx_runS (Ts := xTG) (own := xOwn M.2.1) (As := As.map (xcv al)) (bytes := M'.2.2.1) (maxL := M'.2.2.2.1) (ret := M'.2.2.2.2.1) ⟨C.1, C.2.1, C.2.2.2.1, C.2.2.2.2.1, hts⟩ (hM l C.2.2.2.2.2.2.2.2.2.2.1 D ka al H.size) ⟨callB_of As.length hts (xGoodIn hg' hh') (by rw [← xcw_code hh']; rfl) rfl rfl (hts _ w4) (hts _ hw1) ⟨hg'.2.2.2.2.2.1, hg'.2.2.2.2.2.2, by rw [hn]; exact xNp_ok _ hm⟩ ⟨by show dp' + 1 ≤ R.frames; omega, by show 8 + (M'.2.2.2.1 + 11) + 64 * dp' ≤ R.locals; omega⟩, hts _ w2⟩ ⟨xPc_blind, xpre (av := As) C hW hS⟩ rfl (by simp) hl.1 ?_ (lv_room ?_) hd ⟨by omega, by omega⟩) k (fun j h' H1 locs1 ce q9 hx9 hW9 hS9 hce hcv hcl9 => xout C hh (kx j h' hx9) hW9 hS9 hce hcv hcl9 (by omega) (by omega))
  · show List.map (xcv al) st = _
    rw [hst]
    simp
  · simpa [xcv_cat, Function.comp_def] using hr
