/-! RETURNS -/
section XR
variable {M : xM} {fr : Bool} {dp kc ks pc nx : Nat} {rs : List Nat} {li : Int32} {ll : Int64} {ls : List (Option Value)} {h : xHp} {Q : xPost} {X : Nat → xHp → Prop}
theorem x_iret {v : Int32} {ty : FieldType} (hf : xft M.2.2.2.2.2 pc = some (nx, .ireturn, rs, li, ll)) (hr : M.2.2.2.2.1 = some ty) (hn : narrow ty (.int v) = .int v) (hq : Q (some (.int v)) h) : Ex M fr dp kc ks pc ls [.int v] h Q X := by
  intro hg p l e R s m args below meth c D ka al A H locs cells slots mc ms lsA C R0 B hW hS hl
  obtain ⟨hd, rfl, -⟩ := xft_dec hg.1 hf rfl
  have hlk := C.2.2.2.2.2.2.1
  refine W.widen (k := mc) (n := ms) (by omega) (by omega) (vx_ret ?_)
  exact W.zret C.1 C.2.1 (C.2.2.1.trans hr) hn (fun t ht hWm => ⟨⟨some (.int v), h, rfl, hq, by rw [ht]; exact hW, va_K.moved hWm.alike C.2.2.2.2.2.2.2.1⟩, hS.F ht⟩) hS.2.2 hd hlk
theorem x_vret (hf : xft M.2.2.2.2.2 pc = some (nx, .return_, rs, li, ll)) (hr : M.2.2.2.2.1 = none) (hq : Q none h) : Ex M fr dp kc ks pc ls [] h Q X := by
  intro hg p l e R s m args below meth c D ka al A H locs cells slots mc ms lsA C R0 B hW hS hl
  obtain ⟨hd, rfl, -⟩ := xft_dec hg.1 hf rfl
  have hlk := C.2.2.2.2.2.2.1
  refine W.widen (k := mc) (n := ms) (by omega) (by omega) (vx_ret ?_)
  exact W.vret C.1 C.2.1 (C.2.2.1.trans hr) (fun t ht hWm => ⟨⟨none, h, rfl, hq, by rw [ht]; exact hW, va_K.moved hWm.alike C.2.2.2.2.2.2.2.1⟩, hS.F ht⟩) hS.2.2 hd hlk
theorem x_lret {v : Int64} (hf : xft M.2.2.2.2.2 pc = some (nx, .lreturn, rs, li, ll)) (hr : M.2.2.2.2.1 = some .long) (hq : Q (some (.long v)) h) : Ex M fr dp kc ks pc ls [.long v] h Q X := by
  intro hg p l e R s m args below meth c D ka al A H locs cells slots mc ms lsA C R0 B hW hS hl
  obtain ⟨hd, rfl, -⟩ := xft_dec hg.1 hf rfl
  have hlk := C.2.2.2.2.2.2.1
  refine W.widen (k := mc) (n := ms) (by omega) (by omega) (vx_ret ?_)
  exact W.lret C.1 C.2.1 (C.2.2.1.trans hr) (fun t ht hWm => ⟨⟨some (.long v), h, rfl, hq, by rw [ht]; exact hW, va_K.moved hWm.alike C.2.2.2.2.2.2.2.1⟩, hS.F ht⟩) hS.2.2 hd hlk
end XR
/-! CONTRACTS: a method, called with these values in this world, returns with Q (and, Cx, may throw with X) -/
def xPc (fr : Bool) (D : va_G) (ka : Nat → ClassId) (al : Nat → Nat) (av : List Value) (h : xHp) (sz : Nat) : Array Value → State → Prop :=
  va_Pc (av.map (xcv al)) fun U => U.heap.size = sz ∧ xWd fr D ka al (va_A (xws ka al h) sz) h U.heap ∧ va_K D vwCl (xtys ka) U ∧ xFx al (va_A (xws ka al h) sz) U U.heap
def Cn (M : xM) (fr : Bool) (dp kc ks : Nat) (av : List Value) (h : xHp) (Q : xPost) : Prop :=
  xgd M ∧ xHh M.1 = [] ∧ ∀ (l : Launch), l.stackTraces = false → ∀ (D : va_G) (ka : Nat → ClassId) (al : Nat → Nat) (sz : Nat),
    Met l (xY M.1) (xwM M) (xrm dp kc ks) (xPc fr D ka al av h sz) (xQc fr D ka al (va_A (xws ka al h) sz) Q) kc ks (va_A (xws ka al h) sz)
def Cx (M : xM) (dp kc ks : Nat) (av : List Value) (h : xHp) (Q : xPost) (X : Nat → xHp → Prop) : Prop :=
  xgd M ∧ xHh M.1 = [] ∧ ∀ (l : Launch), l.stackTraces = false → ∀ (D : va_G) (ka : Nat → ClassId) (al : Nat → Nat) (sz : Nat),
    vx_Met l (xY M.1) (xwM M) (xrm dp kc ks) (xPc false D ka al av h sz) (xQc false D ka al (va_A (xws ka al h) sz) Q) (xXC D ka al (va_A (xws ka al h) sz) X) kc ks (va_A (xws ka al h) sz)
theorem xPc_blind {fr : Bool} {D : va_G} {ka : Nat → ClassId} {al : Nat → Nat} {av : List Value} {h : xHp} {sz : Nat} : FrameBlind (xPc fr D ka al av h sz) := by
  intro a U g mk hq
  obtain ⟨q0, q1, q2, q3, q4⟩ := hq
  exact ⟨q0, q1, q2, va_K.moved (u := U) (U := U.calling g mk a) (Vm.Alike.refl U.vm) q3, q4.go (U := U.calling g mk a) (H := U.heap) (State.WarmedH.refl U) (fun _ _ _ => rfl) (fun _ h => h)⟩
/-- the locals with which a method begins -/
def xent : List Value → List (Option Value)
  | [] => []
  | v :: r => match xc1 v with
    | true => some v :: xent r
    | false => some v :: none :: xent r
theorem xc1_cat2 {v : Value} (h : xc1 v = false) : v.category = 2 := by cases v <;> first | rfl | cases h
theorem xent_mem : ∀ (av : List Value) (al : Nat → Nat) (i j : Nat) (v : Value), (xent av)[j]? = some (some v) → (i + j, xcv al v) ∈ lv_args i (av.map (xcv al))
  | [], al, i, j, v, h => by simp [xent] at h
  | w :: r, al, i, j, v, h => by
    unfold xent at h
    simp only [List.map_cons, lv_args, xcv_cat]
    split at h
    · rename_i hc
      rw [if_neg (by rw [xc1_cat hc]; decide)]
      cases j with
      | zero => simp at h; subst h; exact List.mem_cons_self
      | succ j =>
        rw [List.getElem?_cons_succ] at h
        have := xent_mem r al (i + 1) j v h
        exact List.mem_cons_of_mem _ (by rw [show i + (j + 1) = i + 1 + j by omega]; exact this)
    · rename_i hc
      rw [if_pos (xc1_cat2 hc)]
      match j, h with
      | 0, h => simp at h; subst h; exact List.mem_cons_self
      | 1, h => simp at h
      | j + 2, h =>
        simp only [List.getElem?_cons_succ] at h
        have := xent_mem r al (i + 2) j v h
        exact List.mem_cons_of_mem _ (by rw [show i + (j + 2) = i + 2 + j by omega]; exact this)
/-- more locals, of which nothing is known -/
def xpad : Nat → List (Option Value) → List (Option Value)
  | 0, l => l
  | n + 1, [] => none :: xpad n []
  | n + 1, a :: r => a :: xpad n r
theorem xpad_get : ∀ (n : Nat) (l : List (Option Value)) (j : Nat) (v : Value), (xpad n l)[j]? = some (some v) → l[j]? = some (some v)
  | 0, l, j, v, h => h
  | n + 1, [], j, v, h => by
    cases j with
    | zero => simp [xpad] at h
    | succ j => simp only [xpad, List.getElem?_cons_succ] at h; have := xpad_get n [] j v h; simp at this
  | n + 1, a :: r, j, v, h => by
    cases j with
    | zero => simpa [xpad] using h
    | succ j => simp only [xpad, List.getElem?_cons_succ] at h ⊢; exact xpad_get n r j v h
theorem xent_len : ∀ (av : List Value) (al : Nat → Nat), (lg_sl (av.map (xcv al))).length = (xent av).length
  | [], al => rfl
  | v :: r, al => by
    have ih := xent_len r al
    simp only [lg_sl] at ih
    cases hc : xc1 v with
    | true =>
      simp only [xent, hc, lg_sl, List.map_cons, List.flatMap_cons, List.length_append, xcv_cat, xc1_cat hc, List.length_cons, ih]
      simp
      omega
    | false =>
      simp only [xent, hc, lg_sl, List.map_cons, List.flatMap_cons, List.length_append, xcv_cat, xc1_cat2 hc, List.length_cons, ih]
      simp
      omega
theorem xl_entry {av : List Value} {al : Nat → Nat} {n : Nat} {ls : List (Option Value)} (hn : (xent av).length ≤ n) (hls : xpad n (xent av) = ls) : lv_has ((lg_sl (av.map (xcv al)) ++ List.replicate (n - (lg_sl (av.map (xcv al))).length) Slot.unset).toArray) n (xl al ls) := by
  refine xl_sub (lv_entry (av.map (xcv al)) (n := n) (by rw [xent_len]; exact hn)) ?_
  rintro ⟨j, w⟩ hq
  obtain ⟨v, h1, rfl⟩ := xl_mem.mp hq
  rw [← hls] at h1
  have := xent_mem av al 0 j v (xpad_get _ _ _ _ h1)
  rwa [Nat.zero_add] at this
theorem xno_throw {p : Program} {l : Launch} {e : Env} {R : Room} {s : State} {m : MethodId} {args : Array Value} {below : List Frame} {meth : Method} {c : Code} {H : Heap} {locs : List Loc} {cells slots mc ms : Nat} {free : Addr → Prop} {g : JFrame} {Qc : Array Value → State → Outcome → State → Prop} {D : va_G} {ka : Nat → ClassId} {al : Nat → Nat} {A : Nat → Prop}
    (k : W p l e R s m args below meth c H locs cells slots (vx_MQ below Qc (xXC D ka al A (fun _ _ => False)) args s mc ms free) g) : W p l e R s m args below meth c H locs cells slots (MQ below Qc args s mc ms free) g := by
  intro T hT X
  obtain ⟨t, a1, o, b1, b2, b3⟩ := k T hT X
  rcases b3 with ⟨b3, b4⟩ | ⟨q, -, E, ce, L, ⟨⟨k, h, -, hF, -⟩, -⟩, -⟩
  · exact ⟨t, a1, o, b1, b2, b3, b4⟩
  · exact hF.elim
theorem xcw_code {M : xM} (h : xHh M.1 = []) : xcw M = .code (xY M.1) M.2.2.1 M.2.2.2.1 M.2.2.2.2.1 := by
  unfold xcw
  rw [h]
theorem xtbl_nil {M : xM} (h : xHh M.1 = []) : tableOf (xHh M.1) = [] := by rw [h]; rfl
set_option maxHeartbeats 4000000 in
theorem xbody {M : xM} {fr : Bool} {dp kc ks : Nat} {av : List Value} {ls : List (Option Value)} {h : xHp} {Q : xPost} {X : Nat → xHp → Prop} (hg : xgd M) (hh : xHh M.1 = []) (hn : (xent av).length ≤ M.2.2.2.1) (hls : xpad M.2.2.2.1 (xent av) = ls) (k : Ex M fr dp kc ks 0 ls [] h Q X) {l : Launch} (hl : l.stackTraces = false) {D : va_G} {ka : Nat → ClassId} {al : Nat → Nat} {sz : Nat} {p : Program} {e : Env} {s : State} {m : MethodId} {args : Array Value} {below : List Frame} {meth : Method} {c : Code} {s₁ : State}
    (B : BodyLoose p l (xY M.1) (headSpec (xwM M) (xrm dp kc ks)) M.2.2.1 M.2.2.2.1 M.2.2.2.2.1 e s m args below meth c s₁) (hml : c.maxLocals = M.2.2.2.1) (ht : ∀ x ∈ c.exceptionTable.toList, False) (hv : xPc fr D ka al av h sz args s) :
    W p l e (headSpec (xwM M) (xrm dp kc ks)).room s m args below meth c s.heap [] 0 0 (vx_MQ below (xQc fr D ka al (va_A (xws ka al h) sz) Q) (xXC D ka al (va_A (xws ka al h) sz) X) args s kc ks (va_A (xws ka al h) sz)) (entryFrame m args M.2.2.2.1) := by
  obtain ⟨rfl, hsz, hW, hK, hF⟩ := hv
  have hts := atoms_spec (ws := xwM M) B.pre
  subst hsz
  rw [lg_entry_eq]
  refine k hg p l e _ s m _ below meth c D ka al _ s.heap [] 0 0 kc ks _ ⟨B.exec, B.bytes, B.returns, hml, ?_, fun w hw => hts w (List.mem_cons_of_mem _ hw), B.notSynchronized, hK, fun q hq => Or.inr hq, hF, hl, (name_of_methodNamed B.named B.method).1, ?_⟩ ⟨Nat.le_refl _, Nat.le_refl _, Nat.le_refl _, Nat.le_refl _⟩ ⟨by omega, by omega⟩ hW va_S.rf (xl_entry hn hls)
  · rw [← hg.2.2.1]
    exact findClass_of_methodNamed B.named
  · rw [xtbl_nil hh]
    cases hc : c.exceptionTable.toList with
    | nil => rfl
    | cons a t => exact (ht a (by rw [hc]; exact List.mem_cons_self)).elim
set_option maxHeartbeats 4000000 in
theorem Cn.intro {M : xM} {fr : Bool} {dp kc ks : Nat} {av : List Value} {ls : List (Option Value)} {h : xHp} {Q : xPost} (hg : xgd M) (hh : xHh M.1 = []) (hn : (xent av).length ≤ M.2.2.2.1) (hls : xpad M.2.2.2.1 (xent av) = ls) (k : Ex M fr dp kc ks 0 ls [] h Q (fun _ _ => False)) : Cn M fr dp kc ks av h Q := by
  refine ⟨hg, hh, fun l hl D ka al sz => Met.ofW (cc := M.2.2.1) (maxL := M.2.2.2.1) (ret := M.2.2.2.2.1) hg.2.2.2.1 (by rw [← xcw_code hh]; rfl) ?_⟩
  intro p e s m args below meth c s₁ B hml hv
  refine xno_throw (xbody hg hh hn hls k hl B hml ?_ hv)
  have hts := atoms_spec (ws := xwM M) B.pre
  have hcd := hts _ List.mem_cons_self
  rw [xcw_code hh] at hcd
  obtain ⟨meth9, c9, h1, h2, -, -, -, -, h7, -⟩ := Cond.code_spec B.named hcd
  cases Option.some.inj (h1.symm.trans B.method)
  cases Option.some.inj (h2.symm.trans (Stand.of_body B).code)
  intro x hx
  rw [Array.isEmpty_iff.mp h7] at hx
  cases hx
set_option maxHeartbeats 4000000 in
theorem Cx.intro {M : xM} {dp kc ks : Nat} {av : List Value} {ls : List (Option Value)} {h : xHp} {Q : xPost} {X : Nat → xHp → Prop} (hg : xgd M) (hh : xHh M.1 = []) (hn : (xent av).length ≤ M.2.2.2.1) (hls : xpad M.2.2.2.1 (xent av) = ls) (k : Ex M false dp kc ks 0 ls [] h Q X) : Cx M dp kc ks av h Q X := by
  refine ⟨hg, hh, fun l hl D ka al sz => vx_ofW (cc := M.2.2.1) (maxL := M.2.2.2.1) (ret := M.2.2.2.2.1) hg.2.2.2.1 (by rw [← xcw_code hh]; rfl) ?_⟩
  intro p e s m args below meth c s₁ B hml ht hv
  exact xbody hg hh hn hls k hl B hml ht hv
/-! CALLS -/
theorem xA_sub {A : Nat → Prop} {ws : va_W} {H0 H : Heap} {locs : List Loc} (hD : va_D A ws) (hS : va_S A H0 H locs) (hA : ∀ q, H0.size ≤ q → A q) : ∀ q, va_A ws H.size q → A q := by
  rintro q (⟨k, e, h⟩ | h)
  · exact hD.2 k (q, e) h
  · exact hA q (Nat.le_trans hS.1 h)
theorem xD_self {A : Nat → Prop} {ws : va_W} {sz : Nat} (hD : va_D A ws) : va_D (va_A ws sz) ws := hD.self
section XCL
variable {p : Program} {l : Launch} {e : Env} {R : Room} {s : State} {m : MethodId} {args : Array Value} {below : List Frame} {meth : Method} {c : Code} {H : Heap} {locs : List Loc} {cells slots : Nat}
/-- what a callee finds -/
theorem xpre {M : xM} {fr : Bool} {D : va_G} {ka : Nat → ClassId} {al : Nat → Nat} {A : Nat → Prop} {h : xHp} {av : List Value} (C : xCx p l s m args meth c M D ka al A) (hW : xWd fr D ka al A h H) (hS : va_S A s.heap H locs) : ∀ U : State, U.heap = H → s.WarmedH U.vm → xPc fr D ka al av h H.size (av.map (xcv al)).toArray U := by
  intro U hU hWm
  refine ⟨rfl, by rw [hU], ⟨by rw [hU]; exact hW.1, hW.2.1.self, by rw [hU]; exact hW.2.2⟩, va_K.moved hWm.alike C.2.2.2.2.2.2.2.1, ?_⟩
  rw [hU]
  exact C.2.2.2.2.2.2.2.2.2.1.go hWm hS.2.1 (xA_sub hW.2.1 hS C.2.2.2.2.2.2.2.2.1)
/-- behind a call -/
theorem xback {M : xM} {fr : Bool} {dp kc ks kc' ks' pc nx mc ms : Nat} {D : va_G} {ka : Nat → ClassId} {al : Nat → Nat} {A : Nat → Prop} {h : xHp} {Q : xPost} {X : Nat → xHp → Prop} {Q' : xPost} {ls : List (Option Value)} {lsA : Array Slot} {st0 : List Value} {r : List Value} {a : Array Value} (hg : xgd M)
    (C : xCx p l s m args meth c M D ka al A) (R0 : dp ≤ R.frames ∧ 64 * dp ≤ R.locals ∧ mc ≤ R.cells ∧ ms ≤ R.slots) (B : cells + kc ≤ mc ∧ slots + ks ≤ ms) (hkc : kc' ≤ kc) (hks : ks' ≤ ks) (hW : xWd fr D ka al A h H) (hS : va_S A s.heap H locs) (hl : lv_has lsA M.2.2.2.1 (xl al ls)) (hnx : nx = pc + 3)
    (hr : va_Run p l e R s m args below meth c H locs cells slots kc' ks' (F0 m pc lsA st0) (r.map (xcv al)) (xQc fr D ka al (va_A (xws ka al h) H.size) Q' a) (va_A (xws ka al h) H.size))
    (k : ∀ v h', Q' v h' → Ex M fr dp (kc - kc') (ks - ks') nx ls (v.toList ++ r) h' Q X) :
    W p l e R s m args below meth c H locs cells slots (vx_MQ below (xQc fr D ka al A Q) (xXC D ka al A X) args s mc ms A) (F0 m pc lsA st0) := by
  have hsub := xA_sub hW.2.1 hS C.2.2.2.2.2.2.2.2.1
  intro T hT XX
  obtain ⟨v, st₀, t, T', L, h0, X', hL, e1, e2, ⟨⟨v', h', hv, hq, hW', hK'⟩, hz, hk⟩, st⟩ := hr T hT XX
  cases hv
  rw [h0] at hz hk
  subst hnx
  obtain ⟨t2, a1, b1⟩ := k v' h' hq hg p l e R s m args below meth c D ka al A T'.heap (locs ++ L) (cells + kc') (slots + ks') mc ms lsA C R0 ⟨by omega, by omega⟩ ⟨by rw [e1]; exact hW'.1, hW'.2.1.weaken (fun _ q _ z => hsub q.1 z), by rw [e1]; exact hW'.2.2⟩
    ⟨Nat.le_trans hS.1 (by rw [e1]; exact hz), fun q h1 h2 => by rw [e1, hk q (Nat.lt_of_lt_of_le h1 hS.1) (fun z => h2 (hsub q z))]; exact hS.2.1 q h1 h2, fun q hq => by
      rcases List.mem_append.mp hq with z | z
      · exact hS.2.2 q z
      · exact hsub _ (hL q z)⟩ hl T' rfl X'
  refine ⟨t2, st t2 ?_, b1⟩
  have : (v'.map (xcv al)).toList ++ r.map (xcv al) = (v'.toList ++ r).map (xcv al) := by cases v' <;> rfl
  rw [this]
  exact a1
end XCL
theorem xlk_m {o pc nx : Nat} {i : Instr} {tag mid j : Nat} {li : Int32} {ll : Int64} (hi : i = .invokevirtual j ∨ i = .invokestatic j ∨ i = .invokespecial j) (ht : tag < 10) (h : xres o (pc, nx, i, [tag, mid], li, ll) = true) : ∃ q ∈ xLKm, q.1 = o ∧ q.2.1 = j ∧ q.2.2.1 = tag ∧ q.2.2.2.1 = mid := by
  have h1 : (xLKm.any fun q => q.1 == o && q.2.1 == j && q.2.2.1 == tag && q.2.2.2.1 == mid) = true := by
    rcases hi with rfl | rfl | rfl <;> · simpa [xres, ht] using h
  obtain ⟨q, hq, h2⟩ := List.any_eq_true.mp h1
  simp only [Bool.and_eq_true, beq_iff_eq] at h2
  exact ⟨q, hq, h2.1.1.1, h2.1.1.2, h2.1.2, h2.2⟩
theorem xTG_good : ∀ w ∈ xTG, (w.onTables && w.keeps) = true ∨ ∃ ty, w = .arrayClass ty := fun _ h => good_of_word (List.mem_filter.mp h).2
theorem xGoodIn {M : xM} (hg : xgd M) (hh : xHh M.1 = []) : GoodIn xTG (xwM M) := by
  intro w hw
  rcases List.mem_cons.mp hw with rfl | hw
  · have h1 : goodWord (xcw M) = true := by rw [xcw_code hh]; rfl
    have h2 := xTG_in hg.2.1 h1
    exact ⟨h2, xTG_good _ h2⟩
  · exact ⟨hw, xTG_good _ hw⟩
theorem xMk {q : Nat × Nat × Nat × Nat × Nat × Nat × Nat × Nat} (hq : q ∈ xLKm) : xMw1 q.1 q.2.1 q.2.2.1 q.2.2.2.1 ∈ lw_tbl ∧ xMw2 q.2.2.1 q.2.2.2.1 ∈ xTG ∧ (q.2.2.1 = 0 → xMw3 q.2.2.2.1 ∈ xTG) ∧ xMw4 q.2.2.2.1 ∈ xTG := by
  have h := List.all_eq_true.mp xLKm_ok q hq
  unfold xMok at h
  simp only [Bool.and_eq_true, decide_eq_true_eq] at h
  refine ⟨xat_in h.1.1.1, xTG_in (xat_in h.1.1.2) ?_, fun z => ?_, xTG_in (xat_in h.2) rfl⟩
  · unfold xMw2
    split <;> rfl
  · have h3 := h.1.2
    rw [if_pos z] at h3
    exact xTG_in (xat_in (of_decide_eq_true h3)) rfl
set_option maxHeartbeats 4000000 in
/-- a virtual call -/
theorem x_cv {M M' : xM} {fr : Bool} {dp kc ks dp' kc' ks' pc nx i ci n b : Nat} {li : Int32} {ll : Int64} {ls : List (Option Value)} {As r : List Value} {st : List Value} {h : xHp} {Q Q' : xPost} {X : Nat → xHp → Prop}
    (hC : Cn M' fr dp' kc' ks' (.ref b :: As) h Q') (hf : xft M.2.2.2.2.2 pc = some (nx, .invokevirtual i, [0, M'.1], li, ll)) (hst : st = As.reverse ++ .ref b :: r) (hn : As.length = xNp M'.1) (hm : M'.1 < 335) (hsh : xsh h.1 b = some (ci, n)) (hci : ci < 13) (hcl : M'.2.1 = ci) (hr : (r.map fun v => v.category).sum ≤ 8) (hdp : dp' + 1 ≤ dp) (hkc : kc' ≤ kc) (hks : ks' ≤ ks)
    (k : ∀ v h', Q' v h' → Ex M fr dp (kc - kc') (ks - ks') nx ls (v.toList ++ r) h' Q X) : Ex M fr dp kc ks pc ls st h Q X := by
  intro hg p l e R s m args below meth c D ka al A H locs cells slots mc ms lsA C R0 B hW hS hl
  obtain ⟨hd, rfl, hres⟩ := xft_dec hg.1 hf rfl
  obtain ⟨hg', hh', hM⟩ := hC
  obtain ⟨q, hq, e1, e2, e3, e4⟩ := xlk_m (Or.inl rfl) (by decide) hres
  obtain ⟨w1, w2, w3, w4⟩ := xMk hq
  rw [e1, e2, e3, e4] at w1
  rw [e3, e4] at w2
  rw [e4] at w3 w4
  have hts := C.2.2.2.2.2.1
  have hw1 : Cond.methodLink (xOwn M.2.1) i (xY M'.1) ∈ xTG := xTG_in w1 rfl
  have hcs : (xY M'.1).cls = xOwn ci := by rw [hg'.2.2.1, hcl]
  have hmL := hg'.2.2.2.2.1
  refine xback (Q' := Q') (a := (Value.ref (al b) :: As.map (xcv al)).toArray) hg C R0 B hkc hks hW hS hl rfl (va_runV (Ts := xTG) (own := xOwn M.2.1) (C := (xY M'.1).cls) (As := As.map (xcv al)) (bytes := M'.2.2.1) (maxL := M'.2.2.2.1) (ret := M'.2.2.2.2.1) ⟨C.1, C.2.1, C.2.2.2.1, C.2.2.2.2.1, hts⟩ (hM l C.2.2.2.2.2.2.2.2.2.2.1 D ka al H.size) ⟨callB_of As.length hts (xGoodIn hg' hh') (by rw [← xcw_code hh']; rfl) rfl rfl (hts _ w4) (hts _ hw1) ⟨hg'.2.2.2.2.2.1, hg'.2.2.2.2.2.2, by rw [hn]; exact xNp_ok _ hm⟩ ⟨by show dp' + 1 ≤ R.frames; omega, by show 8 + (M'.2.2.2.1 + 11) + 64 * dp' ≤ R.locals; omega⟩, hts _ w2, hts _ (w3 e3)⟩ ⟨xPc_blind, ?_, ?_⟩ rfl (by simp) hl.1 ?_ (lv_room ?_) hd ⟨by omega, by omega⟩) k
  · obtain ⟨T, hT1, -⟩ := xvw hci
    have hw := xws_get (ka := ka) (al := al) (xsh_get hsh)
    rw [xcell_obj (by omega)] at hw
    rw [hcs]
    exact va_recv C.2.2.2.2.2.2.2.1 hW.1 hT1 hw
  · exact xpre (av := .ref b :: As) C hW hS
  · show List.map (xcv al) st = _
    rw [hst]
    simp [xcv]
  · simpa [xcv_cat, Function.comp_def] using hr
