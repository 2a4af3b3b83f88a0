/-! EXCEPTIONS: 'throw new E("text")', E's own constructor with any entry number (the library's law of the traceless launch has entry 7 alone) -/
def xNo (w : Cond) : Bool := decide (w ≠ .isRef (.static Bundle.tN "UNASSIGNED_STACK" Bundle.steD)) && decide (w ≠ .isRef (.static Bundle.tN "SUPPRESSED_SENTINEL" Bundle.listD)) && decide (w ≠ .laysStatic Bundle.tN "UNASSIGNED_STACK" Bundle.steD) && decide (w ≠ .laysStatic Bundle.tN "SUPPRESSED_SENTINEL" Bundle.listD)
section XTH
variable {p : Program} {l : Launch} {e : Env} {R : Room} {s : State} {m₀ : MethodId} {args : Array Value} {below : List Frame} {meth : Method} {c : Code} {W : State} {locs : List Loc} {cells slots : Nat}
set_option maxHeartbeats 4000000 in
theorem xctor (X : Stand p l e R s m₀ args below meth c W locs cells slots) (hexec : p.tables.exec = Jvm.exec) (htr : e.platform.stackTraces = false) {own cls : String} {names : List String} {ic : Nat}
    {ix : Nat} {rx : ByteArray} (x0 : decode rx 0 = .ok (.aload_n 0, 1)) (x1 : decode rx 1 = .ok (.aload_n 1, 1)) (x2 : decode rx 2 = .ok (.invokespecial ix, 3)) (x5 : decode rx 5 = .ok (.return_, 1))
    (hown : s.vm.findClass own = some m₀.cls) (hcls : Bundle.fit cls = true) (hnames : ∀ n ∈ names, Bundle.fit n = true)
    (h : ∀ a ∈ Bundle.ownAtomsX own ic cls ix rx names, a.before args s = true)
    (hlocs : ∀ x ∈ locs, ∀ cell, s.heap[x.base]? = some cell → cell.vm.isStatics = false)
    {a : Addr} {cX : ClassId} {kX : Class} (hfoundX : s.vm.findClass cls = some cX) (hkX : s.vm.classes[cX]? = some kX) (hcell : W.heap[a]? = some (freshCell cX kX)) (hnew : s.heap.size ≤ a)
    {msg : Value} (hmsg : msg.isRef = true)
    {g : JFrame} (hg : g.method = m₀) (hsize : g.locals.size = c.maxLocals) (hlocked : g.locked = none) (hentered : g.entered = []) {rest : List Value} (hstack : g.stack = msg :: .ref a :: .ref a :: rest)
    (hd6 : decode c.code g.pc = .ok (.invokespecial ic, 3)) (hd9 : decode c.code (g.pc + 3) = .ok (.athrow, 1)) (hout : ∀ x ∈ c.exceptionTable.toList, covers x (g.pc + 3) = false)
    (hRframes : names.length + 3 < R.frames) (hRlocals : 2 * g.monitorRoom + ((Value.ref a :: rest).map fun v => v.category).sum + (13 * (names.length + 1) + 42) ≤ R.locals) (hlocks : meth.locks = false) :
    ∃ U : State, Steps p.tables e below (W.setTop g) U ∧ U.status = .running ∧ Ended U below (.threw a) ∧ s.WarmedH U.vm ∧ s.sameButNew ({ U with vm := s.vm } : State) locs cells slots ∧
      ∃ ce, U.heap[a]? = some ce ∧ ce.vm = .none ∧ s.vm.findClass cls = some ce.cls := by
  have howns : e.platform.frameOwnsMonitors = true := by rw [X.admits.platform]
  have hfin : e.platform.finalization = false := by rw [X.admits.platform]
  have hpl : e.platform.magicAccessors = ({} : Platform).magicAccessors := by rw [X.admits.platform]
  have a' : ∀ x, x ∈ Bundle.ownAtomsX own ic cls ix rx names → x.holds args s none s [] = true := fun x hx => h x hx
  obtain ⟨T, Z0, L, -, Y⟩ := ThrowableC.of_atoms (args := args) howns hfin hpl (fun x hx => h x (by simp [Bundle.ownAtomsX, hx]))
  obtain ⟨Z, M, LZ, LM, hnZ⟩ := Init0T.ofS_atoms (args := args) hpl L Y (fun x hx => h x (by simp [Bundle.ownAtomsX, hx]))
  obtain ⟨P1, Ps, hlen, L1, hL, hP1m, hlink1, hlink⟩ := Bundle.chainSX (args := args) hpl hnZ x0 x1 x2 x5 names cls hcls hnames (fun x hx => h x (by simp [Bundle.ownAtomsX, hx]))
  have hfound : s.vm.findClass cls = some P1.m.cls := findClass_of_methodNamed hP1m
  cases Option.some.inj (hfoundX.symm.trans hfound)
  obtain ⟨c1, kX', hc1, hk, hord, -, -, hn6⟩ := Cond.instantiable_spec (a' (.instantiable cls 6) (by simp [Bundle.ownAtomsX]))
  cases Option.some.inj (hc1.symm.trans hfound)
  cases Option.some.inj (hkX.symm.trans hk)
  have hsel : ∀ (y : MethodName) (my : MethodId), (Cond.selects cls y y).holds args s none s [] = true → s.methodNamed? y = some my → (y.cls ≠ "java/lang/invoke/MethodHandle" ∧ y.cls ≠ "java/lang/invoke/VarHandle") → selectMethod e.platform s.vm P1.m.cls my = .method my := by
    intro y my hy hm hne
    obtain ⟨c2, r2, m2, q1, q2, q3, q4, -⟩ := Cond.selects_spec hy
    cases Option.some.inj (q1.symm.trans hfound)
    cases Option.some.inj (q2.symm.trans (State.methodFound?_of_named hm hne))
    cases Option.some.inj (q3.symm.trans hm)
    rw [Launch.admits_selectMethod X.admits]
    exact q4
  have hsel0 := hsel Bundle.tFill0 T.fill0 (a' _ (by simp [Bundle.ownAtomsX])) Y.fill0 (by decide)
  have hselF := hsel Bundle.tFill T.fill (a' _ (by simp [Bundle.ownAtomsX])) Y.fill (by decide)
  obtain ⟨cellS0, hcS0, hiss⟩ := Y.statics
  obtain ⟨u0, hu0⟩ := Cond.staticRefV Y.unassigned L.unassignedStatic L.statics hcS0 hiss (a' (.isRef (.static Bundle.tN "UNASSIGNED_STACK" Bundle.steD)) (by simp [Bundle.ownAtomsX]))
  obtain ⟨sen, hsen⟩ := Cond.staticRefV Y.sentinel L.sentinelStatic L.statics hcS0 hiss (a' (.isRef (.static Bundle.tN "SUPPRESSED_SENTINEL" Bundle.listD)) (by simp [Bundle.ownAtomsX]))
  obtain ⟨ci198, i198, fB, hk198, hg198, ha198, hsB, -, hnB, htB, hffB⟩ := Cond.ownField (t := .object "java/lang/Object") Y.found L.cls (by decide +kernel) (a' (.fieldLink Bundle.tN 198 Bundle.tN "backtrace" "Ljava/lang/Object;") (by simp [Bundle.ownAtomsX])) (a' (.lays Bundle.tN Bundle.tN "backtrace" "Ljava/lang/Object;") (by simp [Bundle.ownAtomsX])) e.platform hpl
  obtain ⟨cellS, hcS', heS, -, hkeep⟩ := X.same.2.2.2.2.2 T.aS cellS0 hcS0
  have hcellS : W.heap[T.aS]? = some cellS := hcS'
  have hout' : ∀ i, (⟨T.aS, i⟩ : Loc) ∉ locs := fun i hmem => by
    have := hlocs _ hmem cellS0 hcS0
    rw [hiss] at this
    cases this
  have hknownS : cellS.vm ≠ .unknown := by
    rw [heS]
    intro hu
    rw [show cellS0.vm = .unknown from hu] at hiss
    cases hiss
  have hneS : T.aS ≠ a := Nat.ne_of_lt (Nat.lt_of_lt_of_le (Array.getElem?_eq_some_iff.mp hcS0).1 hnew)
  obtain ⟨iM, hffM⟩ := Y.msg
  obtain ⟨tyC, dC, hdC, hdnC⟩ := Cond.laysAt hfound hk Y.cause (a' (.lays cls Bundle.tN "cause" "Ljava/lang/Throwable;") (by simp [Bundle.ownAtomsX]))
  obtain ⟨tyS, dS, hdS, hdnS⟩ := Cond.laysAt hfound hk Y.stack (a' (.lays cls Bundle.tN "stackTrace" Bundle.steD) (by simp [Bundle.ownAtomsX]))
  obtain ⟨tyP, dP, hdP, hdnP⟩ := Cond.laysAt hfound hk Y.supp (a' (.lays cls Bundle.tN "suppressedExceptions" Bundle.listD) (by simp [Bundle.ownAtomsX]))
  obtain ⟨tyM, dM, hdM, hdnM⟩ := Cond.laysAt hfound hk hffM (a' (.lays cls Bundle.tN "detailMessage" "Ljava/lang/String;") (by simp [Bundle.ownAtomsX]))
  obtain ⟨tyB, dB, hdB, hdnB⟩ := Cond.laysAt hfound hk hffB (a' (.lays cls Bundle.tN "backtrace" "Ljava/lang/Object;") (by simp [Bundle.ownAtomsX]))
  have bC := Cond.laysApart hdB hdC hdnB hdnC (by rw [hnB, Y.causeName]; decide)
  have bS := Cond.laysApart hdB hdS hdnB hdnS (by rw [hnB, Y.stackName]; decide)
  have bP := Cond.laysApart hdB hdP hdnB hdnP (by rw [hnB, Y.suppName]; decide)
  have hskip : SkipFacts T e.platform s (fun u => u) u0 ((preparedCellV T.toThrowableT (freshCell P1.m.cls kX) a u0 sen).withEntry W.cur) :=
    ⟨{ ci198 := ci198, i198 := i198, fBack := fB }, ⟨hk198, hg198, ha198, hsB⟩, by
      have := fresh_default (c := P1.m.cls) tyB
      rw [htB] at this
      simpa [preparedCellV, Cell.setSlot, Cell.withEntry, Array.getElem?_setIfInBounds, bC, bS, bP, bC.symm, bS.symm, bP.symm, defaultValue] using this, fun _ _ => rfl⟩
  obtain ⟨tm, methC, cdC, kC, vm₁, hnC, -, -, -, -, -, -, -, hW₁, st1⟩ := Steps.initColdS (tb := p.tables) (e := e) (below := below) (s := s) (U := W) X.here hexec X.warmed hpl hown (t := Bundle.initS cls) rfl rfl (Bundle.fit_spec hcls).2
    (a' (.methodLink own ic (Bundle.initS cls)) (by simp [Bundle.ownAtomsX])) (h (.instanceMethod (Bundle.initS cls)) (by cases names <;> simp [Bundle.ownAtomsX, Bundle.chainSAtomsX, Bundle.passSAtoms])) (bytes := rx) (maxL := 2) (h (.code (Bundle.initS cls) rx 2 none) (by cases names <;> simp [Bundle.ownAtomsX, Bundle.chainSAtomsX, Bundle.passSAtoms]))
    (f := g) hg (a := a) (msg := msg) (rest := .ref a :: rest) hstack hd6
  cases Option.some.inj (hnC.symm.trans hP1m)
  have X₁ := X.noted hW₁
  obtain ⟨vm₂, X₂, st2⟩ := X₁.ctorMessageOffV hexec (g := { g with stack := .ref a :: rest }) hg hsize T L Z LZ M LM (P1 :: Ps)
    (fun P hP => by rcases List.mem_cons.mp hP with rfl | hP; exact L1; exact hL P hP) ⟨hlink1, hlink⟩ (u0 := u0) (sen := sen) (self := a) hmsg (cell := freshCell P1.m.cls kX) (cellS := cellS)
    hcell (fun _ => by simp) (by simp) rfl rfl hsel0 hselF hcellS hneS hknownS (by rw [hkeep _ (hout' _)]; exact hu0) (by rw [hkeep _ (hout' _)]; exact hsen)
    (Takes.of_laid hk hord tyC (by rw [Y.causeType]; rfl)) (Takes.of_laid hk hord tyS (by rw [Y.stackType]; exact fits_refV_array _ u0)) (Takes.of_laid hk hord tyP (by rw [Y.suppType]; exact fits_refV_object _ sen))
    (Takes.of_laid hk hord tyM (by rw [Y.msgType]; exact fits_refV_object _ ⟨msg, hmsg⟩)) Y.objLocals hskip htr [] hd6
    (by simp only [List.length_cons, hlen]; omega) (by simp only [List.length_cons, hlen]; exact hRlocals)
  obtain ⟨hwalk, hrun, hended, hWU, hsame⟩ := X₂.athrowLeaves hexec (g := { g with stack := .ref a :: rest, pc := g.pc + 3 }) hg hlocked hentered hout (a := a) (rest := rest) rfl hd9 hlocks
  have hlt : a < ((W.setVm vm₁).setVm vm₂).heap.size := (Array.getElem?_eq_some_iff.mp hcell).1
  have hU := heapAt_setCell_self (s := (W.setVm vm₁).setVm vm₂) (plainBareV T.toThrowableT (freshCell P1.m.cls kX) a u0 sen msg) hlt
  refine ⟨_, st1 _ (fun acts => ?_), hrun, hended, hWU, hsame.weaken (fun y hy hlt' => ?_) (Nat.le_refl _) (Nat.le_refl _), _, hU, rfl, hfound⟩
  · rw [doInvoke_state]
    exact st2 _ hwalk
  · rcases List.mem_append.mp hy with h1 | h1
    · exact h1
    · exfalso
      have hb : y.base = a := by
        simp only [List.mem_cons, List.not_mem_nil, or_false] at h1
        rcases h1 with rfl | rfl | rfl | rfl | rfl <;> rfl
      rw [hb] at hlt'
      exact Nat.not_lt.mpr hnew hlt'
end XTH
theorem xstrw {al : Nat → Nat} {A : Nat → Prop} {U : State} {H : Heap} {o pc nx i k : Nat} {li : Int32} {ll : Int64} (hF : xFx al A U H) (h : xres o (pc, nx, .ldc_w i, [k], li, ll) = true) : ∃ tx, vk_R (xOwn o) i tx (al (5000 + k)) U := by
  unfold xres at h
  simp only at h
  split at h
  · rename_i q hq
    simp only [Bool.and_eq_true, decide_eq_true_eq, beq_iff_eq] at h
    have h1 := (hF.2.1 k q hq).1
    rw [h.1, h.2] at h1
    exact ⟨_, h1⟩
  · cases h
def xchk : List Cond → List Nat → Bool
  | [], [] => true
  | w :: r, p :: q => decide (xat p = some w) && xchk r q
  | _, _ => false
theorem xchk_in : ∀ {ws : List Cond} {ps : List Nat}, xchk ws ps = true → ∀ w ∈ ws, w ∈ lw_tbl
  | [], _, _, w, hw => absurd hw List.not_mem_nil
  | a :: r, [], h, w, hw => by cases h
  | a :: r, p :: q, h, w, hw => by
    unfold xchk at h
    rw [Bool.and_eq_true, decide_eq_true_eq] at h
    rcases List.mem_cons.mp hw with rfl | hw
    · exact xat_in h.1
    · exact xchk_in h.2 w hw
def xnms : List String := ["java/lang/RuntimeException", "java/lang/Exception"]
def xcE (kx : Nat) : Nat := if kx = 1 then 351 else 93
def xkE (kx : Nat) : Nat := if kx = 1 then 349 else 89
def xiE (kx : Nat) : Nat := if kx = 1 then 13 else 7
def xrE (kx : Nat) : ByteArray := if kx = 1 then prog_31_method_4_code else prog_19_method_2_code
def xoE (kx : Nat) : List Cond := (Bundle.ownAtomsX RX11 (xcE kx) (xEx kx) (xiE kx) (xrE kx) xnms).filter xNo
theorem xoA : xchk (xoE 0) [1014, 3170, 3179, 3182, 3185, 3187, 3171, 3172, 1033, 1034, 3173, 3178, 3183, 3203, 3160, 3204, 3162, 3205, 3164, 3174, 3176, 3166, 3199, 3200, 3202, 3166, 3190, 3191, 3192, 3193, 3152, 3193, 3194, 3195, 3196, 3154, 3196, 3197, 3198, 3199, 3156, 3189, 3149, 3150, 3157, 3158, 3159, 3161, 3163, 3165, 3169, 3168, 3167] = true := by decide +kernel
theorem xoB : xchk (xoE 1) [1014, 3170, 3179, 3182, 3185, 3187, 3171, 3172, 1033, 1034, 3173, 3178, 3183, 3203, 3160, 3204, 3162, 3205, 3164, 3174, 3176, 3166, 3199, 3200, 3202, 3166, 4173, 4174, 4175, 3193, 3152, 3193, 3194, 3195, 3196, 3154, 3196, 3197, 3198, 3199, 3156, 4172, 4163, 4164, 4165, 3181, 4166, 4167, 4168, 4169, 3169, 3168, 4170] = true := by decide +kernel
theorem xoA2 : ((xoE 0).all fun w => goodWord w || decide (w ∈ xBad)) = true := by decide +kernel
theorem xoB2 : ((xoE 1).all fun w => goodWord w || decide (w ∈ xBad)) = true := by decide +kernel
theorem xoE_in {kx : Nat} (hk : kx = 0 ∨ kx = 1) : ∀ w ∈ xoE kx, w ∈ xTG ∨ w ∈ xBad := by
  intro w hw
  rcases hk with rfl | rfl
  · have h1 := xchk_in xoA w hw
    have h2 := List.all_eq_true.mp xoA2 w hw
    simp only [Bool.or_eq_true, decide_eq_true_eq] at h2
    exact h2.elim (fun z => Or.inl (xTG_in h1 z)) Or.inr
  · have h1 := xchk_in xoB w hw
    have h2 := List.all_eq_true.mp xoB2 w hw
    simp only [Bool.or_eq_true, decide_eq_true_eq] at h2
    exact h2.elim (fun z => Or.inl (xTG_in h1 z)) Or.inr
theorem xBad_tab : ∀ w ∈ xBad, w.onTables = true := by
  intro w hw
  simp only [xBad, List.mem_cons, List.not_mem_nil, or_false] at hw
  rcases hw with rfl | rfl | rfl | rfl | rfl <;> rfl
theorem xkA : Cond.classLink RX11 89 "java/lang/IllegalArgumentException" ∈ xTG ∧ Cond.initialized "java/lang/IllegalArgumentException" ∈ xTG := ⟨xTG_in (xat_in (p := 3148) (by decide +kernel)) rfl, xTG_in (xat_in (p := 1017) (by decide +kernel)) rfl⟩
theorem xkB : Cond.classLink RX11 349 "java/util/NoSuchElementException" ∈ xTG ∧ Cond.initialized "java/util/NoSuchElementException" ∈ xTG := ⟨xTG_in (xat_in (p := 4162) (by decide +kernel)) rfl, xTG_in (xat_in (p := 1024) (by decide +kernel)) rfl⟩
theorem xkE_in {kx : Nat} (hk : kx = 0 ∨ kx = 1) : Cond.classLink RX11 (xkE kx) (xEx kx) ∈ xTG ∧ Cond.initialized (xEx kx) ∈ xTG := by
  rcases hk with rfl | rfl
  · exact xkA
  · exact xkB
theorem xdA {kx : Nat} (hk : kx = 0 ∨ kx = 1) : decode (xrE kx) 0 = .ok (.aload_n 0, 1) ∧ decode (xrE kx) 1 = .ok (.aload_n 1, 1) ∧ decode (xrE kx) 2 = .ok (.invokespecial (xiE kx), 3) ∧ decode (xrE kx) 5 = .ok (.return_, 1) := by
  rcases hk with rfl | rfl
  · exact ⟨by decide +kernel, by decide +kernel, by decide +kernel, by decide +kernel⟩
  · exact ⟨by decide +kernel, by decide +kernel, by decide +kernel, by decide +kernel⟩
theorem xown_all {own cls : String} {ic ix : Nat} {rx : ByteArray} {names : List String} {args : Array Value} {s : State} {A : Nat → Prop} (h1 : ∀ w ∈ (Bundle.ownAtomsX own ic cls ix rx names).filter xNo, w.before args s = true) (hU : vx_Zq Bundle.tN "UNASSIGNED_STACK" Bundle.steD A s s.heap) (hN : vx_Zq Bundle.tN "SUPPRESSED_SENTINEL" Bundle.listD A s s.heap) : ∀ w ∈ Bundle.ownAtomsX own ic cls ix rx names, w.before args s = true := by
  intro w hw
  by_cases e1 : w = .isRef (.static Bundle.tN "UNASSIGNED_STACK" Bundle.steD)
  · rw [e1]; exact vx_isRefq hU.1
  · by_cases e2 : w = .isRef (.static Bundle.tN "SUPPRESSED_SENTINEL" Bundle.listD)
    · rw [e2]; exact vx_isRefq hN.1
    · by_cases e3 : w = .laysStatic Bundle.tN "UNASSIGNED_STACK" Bundle.steD
      · rw [e3]; exact hU.2.word
      · by_cases e4 : w = .laysStatic Bundle.tN "SUPPRESSED_SENTINEL" Bundle.listD
        · rw [e4]; exact hN.2.word
        · exact h1 w (List.mem_filter.mpr ⟨hw, by simp [xNo, e1, e2, e3, e4]⟩)
set_option maxHeartbeats 8000000 in
/-- 'throw new E("text")' in SaucerFair: 0 IllegalArgumentException, 1 NoSuchElementException -/
theorem x_throw {M : xM} {dp kc ks pc n5 n9 kx k : Nat} {i2 : Instr} {r0 r1 r3 r4 : List Nat} {a0 a1 a2 a3 a4 : Int32} {b0 b1 b2 b3 b4 : Int64} {ls : List (Option Value)} {st : List Value} {h : xHp} {Q : xPost} {X : Nat → xHp → Prop}
    (hk : kx = 0 ∨ kx = 1) (hM : M.2.1 = 11) (hh : xHh M.1 = []) (f0 : xft M.2.2.2.2.2 pc = some (pc + 3, .new (xkE kx), r0, a0, b0)) (f1 : xft M.2.2.2.2.2 (pc + 3) = some (pc + 4, .dup, r1, a1, b1)) (f2 : xft M.2.2.2.2.2 (pc + 4) = some (n5, i2, [k], a2, b2)) (hi2 : (∃ j, i2 = .ldc j) ∨ ∃ j, i2 = .ldc_w j)
    (f3 : xft M.2.2.2.2.2 n5 = some (n5 + 3, .invokespecial (xcE kx), r3, a3, b3)) (f4 : xft M.2.2.2.2.2 (n5 + 3) = some (n9, .athrow, r4, a4, b4)) (hd : 8 ≤ dp) (hc : 1 ≤ kc) (hs : 6 ≤ ks) (hst : (st.map fun v => v.category).sum ≤ 8) (hX : X kx h) : Ex M false dp kc ks pc ls st h Q X := by
  intro hg p l e R s m args below meth c D ka al A H locs cells slots mc ms lsA C R0 B hW hS hl
  obtain ⟨hx, hb, hr, hml, hown, hts, hlk, hK, hA, hF, htrc, hnm, htb⟩ := C
  obtain ⟨d0, -, -⟩ := xft_dec hg.1 f0 rfl
  obtain ⟨d3, -, -⟩ := xft_dec hg.1 f1 rfl
  obtain ⟨d7, -, -⟩ := xft_dec hg.1 f3 rfl
  obtain ⟨d10, -, -⟩ := xft_dec hg.1 f4 rfl
  rw [hM] at hown
  have hst' := xst_cat (al := al) hst
  intro T hT XX
  have htr : e.platform.stackTraces = false := (show e.platform.stackTraces = l.stackTraces by rw [XX.admits.platform]).trans htrc
  have Y := vx_rebase XX (R' := { frames := R.frames, locals := R.locals, cells := 1, slots := 6 }) (Nat.le_refl _) (Nat.le_refl _) (by show cells + 1 ≤ R.cells; omega) (by show slots + 6 ≤ R.slots; omega)
  obtain ⟨s', hA'⟩ : ∃ z, z = (T.setVm s.vm).setFrames (.invoking m args :: below) := ⟨_, rfl⟩
  rw [← hA'] at Y
  have hvm : s'.vm = s.vm := by rw [hA']; rfl
  have hhp : s'.heap = H := by rw [hA']; exact hT
  have hW0 : s.WarmedH s'.vm := by rw [hvm]; exact State.WarmedH.refl s
  have hF' : xFx al A s' s'.heap := hF.go hW0 (by rw [hhp]; exact hS.2.1) (fun _ z => z)
  have gd : ∀ w ∈ xTG, w.before args s' = true := fun w hw => word_at hW0 (xTG_good w hw) (hts w hw)
  have hat' : ∀ w ∈ xoE kx, w.before args s' = true := by
    intro w hw
    rcases xoE_in hk w hw with z | z
    · exact gd w z
    · exact va_Nw.use (xBad_tab w z) (hF'.2.2.2.2.2.2.1 w z)
  have hall : ∀ w ∈ Bundle.ownAtomsX RX11 (xcE kx) (xEx kx) (xiE kx) (xrE kx) xnms, w.before args s' = true := xown_all hat' hF'.2.2.1 hF'.2.2.2.1
  have hown' : s'.vm.findClass RX11 = some m.cls := by rw [hvm]; exact hown
  have hins : (Cond.instantiable (xEx kx) 6).before args s' = true := hall _ (by simp [Bundle.ownAtomsX])
  obtain ⟨vm₁, cX, kX, hfX, hkX, -, -, X₁, st1⟩ := Y.newCold hx (own := RX11) (C := xEx kx) (index := xkE kx) (n := 6) hown' (gd _ (xkE_in hk).1) hins (gd _ (xkE_in hk).2)
    (g := F0 m pc lsA (st.map (xcv al))) rfl (by rw [hb]; exact d0) (Nat.le_refl _) (Nat.le_refl _)
  generalize hT1 : (T.setVm vm₁).pushCell { cls := cX, slots := kX.instanceTypes.map defaultValue, vm := .none } = T1 at X₁ st1
  have hcat : (Value.ref T.heap.size).category = 1 := rfl
  have hcellA : T1.heap[T.heap.size]? = some (freshCell cX kX) := by rw [← hT1]; exact State.heap_pushCell_size _ _
  have d3' : decode c.code (pc + 3) = .ok (.dup, 1) := by rw [hb]; exact d3
  have hxt : ∀ x ∈ c.exceptionTable.toList, False := by
    rw [htb, xtbl_nil hh]
    exact fun x hx => nomatch hx
  have hcls : Bundle.fit (xEx kx) = true := by rcases hk with rfl | rfl <;> decide +kernel
  have hd4 := xdA hk
  obtain ⟨U, hsteps, hrun, hend, hWm, hsame, ce, hce, hcv, hcf⟩ := xctor X₁ hx htr (own := RX11) (cls := xEx kx) (names := xnms) (ic := xcE kx) hd4.1 hd4.2.1 hd4.2.2.1 hd4.2.2.2 hown' hcls (by decide +kernel) hall (fun x hx => nomatch hx) hfX hkX hcellA (by rw [hhp, hT]; exact Nat.le_refl _) (msg := .ref (al (5000 + k))) rfl
    (g := { method := m, pc := n5, locals := lsA, stack := .ref (al (5000 + k)) :: .ref T.heap.size :: .ref T.heap.size :: st.map (xcv al), locked := none }) rfl (hl.1.trans hml.symm) rfl rfl (rest := st.map (xcv al)) rfl
    (by rw [hb]; exact d7) (by rw [hb]; exact d10) (fun x hx => (hxt x hx).elim) (by show 2 + 3 < R.frames; omega) (by show 2 * 0 + ((Value.ref T.heap.size :: st.map (xcv al)).map fun v => v.category).sum + (13 * (2 + 1) + 42) ≤ R.locals; simp only [List.map_cons, List.sum_cons, hcat]; omega) hlk
  obtain ⟨f1', f2'⟩ := vx_frame hsame
  rw [hhp] at f1' f2'
  have hWs : s.WarmedH U.vm := State.WarmedH.trans hW0 hWm
  have hcl : s.vm.findClass (xEx kx) = some ce.cls := by
    rw [hvm] at hcf
    exact hcf
  have hsm : s.sameButNew ({ U with vm := s.vm } : State) locs mc ms := by
    subst hA'
    obtain ⟨e1, e2⟩ := hsame
    rw [State.setFrames_setFrames] at e1
    have h2 : (T.setVm s.vm).sameButNew ({ U with vm := s.vm } : State) [] (0 + 1) (0 + 6) := ⟨e1, e2⟩
    have h3 := XX.same.trans h2
    rw [List.append_nil] at h3
    exact h3.mono (by omega) (by omega)
  have keep : ∀ q : Nat, q < H.size → U.heap[q]? = H[q]? := fun q hq => f2' q hq (fun z hz => nomatch hz)
  refine ⟨U, ?_, .threw T.heap.size, hrun, hend, Or.inr ⟨T.heap.size, rfl, xEx kx, ce, locs, ⟨⟨kx, h, rfl, hX, ⟨hW.1.kept (fun j q hq => keep q.1 (hW.1 j q hq).lt), hW.2.1, fun z => by cases z⟩, va_K.moved hWs.alike hK⟩, ⟨Nat.le_trans hS.1 f1', fun q h1 h2 => by rw [keep q (Nat.lt_of_lt_of_le h1 hS.1)]; exact hS.2.1 q h1 h2⟩⟩, hce, hcv, hcl, hWs, hsm, hS.2.2⟩⟩
  refine st1 _ ?_
  show Steps p.tables e below (T1.setTop { method := m, pc := pc + 3, locals := lsA, stack := .ref T.heap.size :: st.map (xcv al), locked := none }) _
  jvm_step X₁.here [X₁.here.top, hx, d3', Value.category]
  rcases hi2 with ⟨j, rfl⟩ | ⟨j, rfl⟩
  · obtain ⟨d4, rfl, hres⟩ := xft_dec hg.1 f2 rfl
    rw [hM] at hres
    obtain ⟨tx, hv⟩ := xstr hF' hres
    exact X₁.ldcString hx (own := RX11) (text := tx) (index := j) (a := al (5000 + k)) hown' hv.1 hv.2
      (g := { method := m, pc := pc + 4, locals := lsA, stack := .ref T.heap.size :: .ref T.heap.size :: st.map (xcv al), locked := none }) rfl (by rw [hb]; exact d4) _ hsteps
  · obtain ⟨d4, rfl, hres⟩ := xft_dec hg.1 f2 rfl
    rw [hM] at hres
    obtain ⟨tx, hv⟩ := xstrw hF' hres
    exact X₁.ldcStringW hx (own := RX11) (text := tx) (index := j) (a := al (5000 + k)) hown' hv.1 hv.2
      (g := { method := m, pc := pc + 4, locals := lsA, stack := .ref T.heap.size :: .ref T.heap.size :: st.map (xcv al), locked := none }) rfl (by rw [hb]; exact d4) _ hsteps
