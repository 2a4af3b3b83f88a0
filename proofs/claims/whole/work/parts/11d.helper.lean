/-! THE LAW'S HELPERS: a call in a try, and the call of such a helper -/
theorem xkL13 : Cond.classLink RL 13 "java/lang/IllegalArgumentException" ∈ xTG := xTG_in (xat_in (p := 3143) (by decide +kernel)) rfl
theorem xkL18 : Cond.classLink RL 18 "java/util/NoSuchElementException" ∈ xTG := xTG_in (xat_in (p := 4154) (by decide +kernel)) rfl
/-- where what is thrown is caught -/
def xhnd : List (Nat × Nat × Nat × Nat) → Nat → Nat → Option Nat
  | [], _, _ => none
  | q :: t, pc, j => if q.1 ≤ pc ∧ pc < q.2.1 ∧ ((j = 1 ∧ q.2.2.2 = 18) ∨ (j = 0 ∧ q.2.2.2 = 13)) then some q.2.2.1 else if j = 0 ∧ q.2.2.2 = 18 then xhnd t pc j else none
section XCW
variable {p : Program} {l : Launch} {e : Env} {R : Room} {s : State} {m : MethodId} {args : Array Value} {below : List Frame} {meth : Method} {c : Code} {H : Heap} {locs : List Loc} {cells slots : Nat} {Q : State → Prop}
theorem xcatchW {M : xM} {D : va_G} {ka : Nat → ClassId} {al : Nat → Nat} {A : Nat → Prop} {lsA : Array Slot} {r : List Value} {j pc hp : Nat} {H1 : Heap} {locs1 : List Loc} {ce : Cell} {q : Addr} (C : xCx p l s m args meth c M D ka al A) (hM : M.2.1 = 13) (hj : j = 0 ∨ j = 1) (hce : H1[q]? = some ce) (hcv : ce.vm = .none) (hcl : s.vm.findClass (xEx j) = some ce.cls)
    (kk : W p l e R s m args below meth c H1 locs1 cells slots Q (F0 m hp lsA [.ref q])) :
    ∀ (hh : List (Nat × Nat × Nat × Nat)) (pre : List ExceptionTableEntry), c.exceptionTable.toList = pre ++ tableOf hh → (∀ z ∈ pre, covers z pc = false ∨ (z.catchType ≠ 0 ∧ ∃ nm : String, (Cond.classLink RL z.catchType nm).before args s = true ∧ va_Nc (xEx j) nm s)) → xhnd hh pc j = some hp →
      vx_W p l e R s m args below meth c H1 locs1 cells slots Q (F0 m pc lsA r) q
  | [], pre, ht, hp9, hx => by cases hx
  | x :: t, pre, ht, hp9, hx => by
    have hown : s.vm.findClass RL = some m.cls := by
      have h := C.2.2.2.2.1
      rw [hM] at h
      exact h
    have hts := C.2.2.2.2.2.1
    have hF := C.2.2.2.2.2.2.2.2.2.1
    unfold xhnd at hx
    split at hx
    · rename_i hc
      cases hx
      obtain ⟨c1, c2, c3⟩ := hc
      have hcv2 : covers ⟨x.1, x.2.1, x.2.2.1, x.2.2.2⟩ pc = true := by simp [covers, c1, c2]
      rcases c3 with ⟨rfl, hct⟩ | ⟨rfl, hct⟩
      · exact vx_catch (own := RL) (name := "java/util/NoSuchElementException") (E := xEx 1) hown pre ⟨x.1, x.2.1, x.2.2.1, x.2.2.2⟩ (tableOf t) ht hp9 hcv2 (by show x.2.2.2 ≠ 0; rw [hct]; decide) (by show (Cond.classLink RL x.2.2.2 _).before args s = true; rw [hct]; exact hts _ xkL18) (va_Nw.use rfl (hF.2.2.2.2.2.2.1 (.castable "java/util/NoSuchElementException" "java/util/NoSuchElementException") (by simp [xBad]))) hce hcv hcl kk
      · exact vx_catch (own := RL) (name := "java/lang/IllegalArgumentException") (E := xEx 0) hown pre ⟨x.1, x.2.1, x.2.2.1, x.2.2.2⟩ (tableOf t) ht hp9 hcv2 (by show x.2.2.2 ≠ 0; rw [hct]; decide) (by show (Cond.classLink RL x.2.2.2 _).before args s = true; rw [hct]; exact hts _ xkL13) (va_Nw.use rfl (hF.2.2.2.2.2.2.1 (.castable "java/lang/IllegalArgumentException" "java/lang/IllegalArgumentException") (by simp [xBad]))) hce hcv hcl kk
    · split at hx
      · rename_i hc
        obtain ⟨rfl, hct⟩ := hc
        refine xcatchW C hM hj hce hcv hcl kk t (pre ++ [⟨x.1, x.2.1, x.2.2.1, x.2.2.2⟩]) (by rw [ht, List.append_assoc]; rfl) ?_ hx
        intro z hz
        rcases List.mem_append.mp hz with hz | hz
        · exact hp9 z hz
        · rw [List.mem_singleton] at hz
          subst hz
          exact Or.inr ⟨by show x.2.2.2 ≠ 0; rw [hct]; decide, "java/util/NoSuchElementException", by show (Cond.classLink RL x.2.2.2 _).before args s = true; rw [hct]; exact hts _ xkL18, hF.2.2.2.2.2.1⟩
      · cases hx
end XCW
set_option maxHeartbeats 4000000 in
/-- a virtual call in a try: what it throws is caught here; behind the catch nothing is known of the locals -/
theorem x_xcv {M M' : xM} {dp kc ks dp' kc' ks' pc nx i ci n b : Nat} {li : Int32} {ll : Int64} {ls : List (Option Value)} {As r : List Value} {st : List Value} {h : xHp} {Q Q' : xPost} {X X' : Nat → xHp → Prop}
    (hC : Cx M' dp' kc' ks' (.ref b :: As) h Q' X') (hf : xft M.2.2.2.2.2 pc = some (nx, .invokevirtual i, [0, M'.1], li, ll)) (hMo : M.2.1 = 13) (hst : st = As.reverse ++ .ref b :: r) (hn : As.length = xNp M'.1) (hm : M'.1 < 335) (hsh : xsh h.1 b = some (ci, n)) (hci : ci < 13) (hcl : M'.2.1 = ci) (hr : (r.map fun v => v.category).sum ≤ 8) (hdp : dp' + 1 ≤ dp) (hkc : kc' ≤ kc) (hks : ks' ≤ ks)
    (k : ∀ v h', Q' v h' → Ex M false dp (kc - kc') (ks - ks') nx ls (v.toList ++ r) h' Q X)
    (kx : ∀ j h', X' j h' → (j = 0 ∨ j = 1) ∧ ∃ hp nxh ia rs li ll, xhnd (xHh M.1) pc j = some hp ∧ xft M.2.2.2.2.2 hp = some (nxh, ia, rs, li, ll) ∧ ((∃ q, ia = .astore q ∧ q < M.2.2.2.1) ∨ (∃ q : Fin 4, ia = .astore_n q ∧ (q : Nat) < M.2.2.2.1)) ∧ Ex M false dp (kc - kc') (ks - ks') nxh [] [] h' Q X) : Ex M false dp kc ks pc ls st h Q X := by
  intro hg p l e R s m args below meth c D ka al A H locs cells slots mc ms lsA C R0 B hW hS hl
  obtain ⟨hd, rfl, hres⟩ := xft_dec hg.1 hf rfl
  obtain ⟨hg', hh', hM⟩ := hC
  obtain ⟨q, hq, e1, e2, e3, e4⟩ := xlk_m (Or.inl rfl) (by decide) hres
  obtain ⟨w1, w2, w3, w4⟩ := xMk hq
  rw [e1, e2, e3, e4] at w1
  rw [e3, e4] at w2
  rw [e4] at w3 w4
  have hts := C.2.2.2.2.2.1
  have hw1 : Cond.methodLink (xOwn M.2.1) i (xY M'.1) ∈ xTG := xTG_in w1 rfl
  have hcs : (xY M'.1).cls = xOwn ci := by rw [hg'.2.2.1, hcl]
  have hmL := hg'.2.2.2.2.1
  refine xbackX (Q' := Q') (X' := X') (a := (Value.ref (al b) :: As.map (xcv al)).toArray) hg C R0 B hkc hks hW hS hl rfl (vx_runV (Ts := xTG) (own := xOwn M.2.1) (C := (xY M'.1).cls) (As := As.map (xcv al)) (bytes := M'.2.2.1) (maxL := M'.2.2.2.1) (ret := M'.2.2.2.2.1) ⟨C.1, C.2.1, C.2.2.2.1, C.2.2.2.2.1, hts⟩ (hM l C.2.2.2.2.2.2.2.2.2.2.1 D ka al H.size) ⟨callB_of As.length hts (xGoodIn hg' hh') (by rw [← xcw_code hh']; rfl) rfl rfl (hts _ w4) (hts _ hw1) ⟨hg'.2.2.2.2.2.1, hg'.2.2.2.2.2.2, by rw [hn]; exact xNp_ok _ hm⟩ ⟨by show dp' + 1 ≤ R.frames; omega, by show 8 + (M'.2.2.2.1 + 11) + 64 * dp' ≤ R.locals; omega⟩, hts _ w2, hts _ (w3 e3)⟩ ⟨xPc_blind, ?_, ?_⟩ rfl (by simp) hl.1 ?_ (lv_room ?_) hd ⟨by omega, by omega⟩) k ?_
  · obtain ⟨T, hT1, -⟩ := xvw hci
    have hw := xws_get (ka := ka) (al := al) (xsh_get hsh)
    rw [xcell_obj (by omega)] at hw
    rw [hcs]
    exact va_recv C.2.2.2.2.2.2.2.1 hW.1 hT1 hw
  · exact xpre (av := .ref b :: As) C hW hS
  · show List.map (xcv al) st = _
    rw [hst]
    simp [xcv]
  · simpa [xcv_cat, Function.comp_def] using hr
  · intro j h' H1 locs1 ce q9 hx9 hW9 hS9 hce hcv hcl9
    obtain ⟨hj, hp, nxh, ia, rs2, li2, ll2, a1, a2, a3, a4⟩ := kx j h' hx9
    refine xcatchW C hMo hj hce hcv hcl9 ?_ (xHh M.1) [] C.2.2.2.2.2.2.2.2.2.2.2.2 (fun z hz => nomatch hz) a1
    have K := fun lsB hlB => a4 hg p l e R s m args below meth c D ka al A H1 locs1 (cells + kc') (slots + ks') mc ms lsB C R0 ⟨by omega, by omega⟩ hW9 hS9 hlB
    rcases a3 with ⟨jj, rfl, hlt⟩ | ⟨jj, rfl, hlt⟩
    · obtain ⟨hd2, rfl, -⟩ := xft_dec hg.1 a2 rfl
      exact lv_astore C.1 C.2.1 hd2 hl hlt rfl fun lsB hlB => K lsB (xl_sub hlB (fun q hq => nomatch hq))
    · obtain ⟨hd2, rfl, -⟩ := xft_dec hg.1 a2 rfl
      exact lv_astore_n C.1 C.2.1 hd2 rfl hl hlt rfl fun lsB hlB => K lsB (xl_sub hlB (fun q hq => nomatch hq))
/-- a helper's contract -/
def Ch (M : xM) (dp kc ks : Nat) (av : List Value) (h : xHp) (Q : xPost) : Prop :=
  xgd M ∧ xHh M.1 ≠ [] ∧ ∀ (l : Launch), l.stackTraces = false → ∀ (D : va_G) (ka : Nat → ClassId) (al : Nat → Nat) (sz : Nat),
    Met l (xY M.1) (xwM M) (xrm dp kc ks) (xPc false D ka al av h sz) (xQc false D ka al (va_A (xws ka al h) sz) Q) kc ks (va_A (xws ka al h) sz)
theorem xcw_with {M : xM} (h : xHh M.1 ≠ []) : xcw M = .codeWith (xY M.1) M.2.2.1 M.2.2.2.1 M.2.2.2.2.1 (xHh M.1) := by
  unfold xcw
  split
  · rename_i e
    exact absurd e h
  · rfl
set_option maxHeartbeats 4000000 in
theorem Ch.intro {M : xM} {dp kc ks : Nat} {av : List Value} {ls : List (Option Value)} {h : xHp} {Q : xPost} (hg : xgd M) (hh : xHh M.1 ≠ []) (hn : (xent av).length ≤ M.2.2.2.1) (hls : xpad M.2.2.2.1 (xent av) = ls) (k : Ex M false dp kc ks 0 ls [] h Q (fun _ _ => False)) : Ch M dp kc ks av h Q := by
  refine ⟨hg, hh, fun l hl D ka al sz => va_MetW (cc := M.2.2.1) (maxL := M.2.2.2.1) (ret := M.2.2.2.2.1) (hh := xHh M.1) hg.2.2.2.1 (by rw [← xcw_with hh]; rfl) ?_⟩
  intro p e s m args below meth c s₁ B hml hv
  obtain ⟨rfl, hsz, hW, hK, hF⟩ := hv
  have hts := atoms_spec (ws := xwM M) B.pre
  have hcd := hts _ List.mem_cons_self
  rw [xcw_with hh] at hcd
  subst hsz
  rw [lg_entry_eq]
  refine xno_throw (k hg p l e _ s m _ below meth c D ka al _ s.heap [] 0 0 kc ks _ ⟨B.exec, B.bytes, B.returns, hml, ?_, fun w hw => hts w (List.mem_cons_of_mem _ hw), B.notSynchronized, hK, fun q hq => Or.inr hq, hF, hl, (name_of_methodNamed B.named B.method).1, vx_table (x := xY M.1) B hcd⟩ ⟨Nat.le_refl _, Nat.le_refl _, Nat.le_refl _, Nat.le_refl _⟩ ⟨by omega, by omega⟩ hW va_S.rf (xl_entry hn hls))
  rw [← hg.2.2.1]
  exact findClass_of_methodNamed B.named
set_option maxHeartbeats 4000000 in
/-- a static call of a helper -/
theorem x_ch {M M' : xM} {dp kc ks dp' kc' ks' pc nx i : Nat} {li : Int32} {ll : Int64} {ls : List (Option Value)} {As r : List Value} {st : List Value} {h : xHp} {Q Q' : xPost} {X : Nat → xHp → Prop}
    (hC : Ch M' dp' kc' ks' As h Q') (hf : xft M.2.2.2.2.2 pc = some (nx, .invokestatic i, [1, M'.1], li, ll)) (hst : st = As.reverse ++ r) (hn : As.length = xNp M'.1) (hm : M'.1 < 335) (hr : (r.map fun v => v.category).sum ≤ 8) (hdp : dp' + 1 ≤ dp) (hkc : kc' ≤ kc) (hks : ks' ≤ ks)
    (k : ∀ v h', Q' v h' → Ex M false dp (kc - kc') (ks - ks') nx ls (v.toList ++ r) h' Q X) : Ex M false dp kc ks pc ls st h Q X := by
  intro hg p l e R s m args below meth c D ka al A H locs cells slots mc ms lsA C R0 B hW hS hl
  obtain ⟨hd, rfl, hres⟩ := xft_dec hg.1 hf rfl
  obtain ⟨hg', hh', hM⟩ := hC
  obtain ⟨q, hq, e1, e2, e3, e4⟩ := xlk_m (Or.inr (Or.inl rfl)) (by decide) hres
  obtain ⟨w1, w2, -, w4⟩ := xMk hq
  rw [e1, e2, e3, e4] at w1
  rw [e3, e4] at w2
  rw [e4] at w4
  have hts := C.2.2.2.2.2.1
  have hw1 : Cond.methodLink (xOwn M.2.1) i (xY M'.1) ∈ xTG := xTG_in w1 rfl
  have hmL := hg'.2.2.2.2.1
  have hcw : xcw M' ∈ xTG := xTG_in hg'.2.1 (by rw [xcw_with hh']; rfl)
  have hGI : GoodIn xTG (va_wsS (xOwn M.2.1) i (xY M'.1) (xwM M')) := by
    intro w hw
    have : w ∈ xTG := by
      unfold va_wsS at hw
      rcases List.mem_append.mp hw with z | z
      · simp only [List.mem_cons, List.not_mem_nil, or_false] at z
        rcases z with rfl | rfl | rfl
        · exact hw1
        · exact w2
        · exact w4
      · rcases List.mem_cons.mp z with rfl | z
        · exact hcw
        · exact z
    exact ⟨this, xTG_good _ this⟩
  refine xback (Q' := Q') (a := (As.map (xcv al)).toArray) hg C R0 B hkc hks hW hS hl rfl (vx_runSW (Ts := xTG) (own := xOwn M.2.1) (As := As.map (xcv al)) (bytes := M'.2.2.1) (maxL := M'.2.2.2.1) (ret := M'.2.2.2.2.1) (hh := xHh M'.1) ⟨C.1, C.2.1, C.2.2.2.1, C.2.2.2.2.1, hts⟩ (hM l C.2.2.2.2.2.2.2.2.2.2.1 D ka al H.size) (vx_cwSW As.length hts hGI (by rw [← xcw_with hh']; rfl) rfl rfl ⟨hg'.2.2.2.2.2.1, hg'.2.2.2.2.2.2, by rw [hn]; exact xNp_ok _ hm⟩ ⟨by show dp' + 1 ≤ R.frames; omega, by show 8 + (M'.2.2.2.1 + 11) + 64 * dp' ≤ R.locals; omega⟩) ⟨xPc_blind, xpre (av := As) C hW hS⟩ rfl (by simp) hl.1 ?_ (lv_room ?_) hd ⟨by omega, by omega⟩) k
  · show List.map (xcv al) st = _
    rw [hst]
    simp
  · simpa [xcv_cat, Function.comp_def] using hr
