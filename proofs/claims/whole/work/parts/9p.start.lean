/-! WHAT THE STATEMENT GIVES at the law's entry -/
def sW (q : String × Nat × String × List Int32) : List Cond := [.exactly (.string q.1 q.2.1) "java/lang/String", .eq (.field (.string q.1 q.2.1) "java/lang/String" "coder" "B") (.int 0), .arrayOf (.field (.string q.1 q.2.1) "java/lang/String" "value" "[B") .byte, .eq (.length (.field (.string q.1 q.2.1) "java/lang/String" "value" "[B")) (.int (Int32.ofNat q.2.2.2.length))] ++ (List.range q.2.2.2.length).map fun j => .eq (.elem (.field (.string q.1 q.2.1) "java/lang/String" "value" "[B") (.int (Int32.ofNat j))) (.int (q.2.2.2.getD j 0))
set_option maxRecDepth 100000 in
theorem sW_all : (flatC narrow_1).drop 37 = xSL.flatMap sW := by decide +kernel
theorem sW_in {q : String × Nat × String × List Int32} (hq : q ∈ xSL) {w : Cond} (hw : w ∈ sW q) : w ∈ flatC narrow_1 := by
  refine List.mem_of_mem_drop (i := 37) ?_
  rw [sW_all]
  exact List.mem_flatMap.mpr ⟨q, hq, hw⟩
def xSP : List Nat := [3188, 3237, 4078, 4087, 4093, 4110, 4131, 4132, 4133, 4134, 4135, 4136, 4141, 4142, 4143, 4148, 4149, 4150, 4171, 4202, 4222, 4238, 5016, 5097, 5168, 5169, 6011, 6037]
set_option maxRecDepth 100000 in
theorem xSP_ok : ((List.range 28).all fun i => match xSL[i]? with
    | some q => decide (xat (xSP.getD i 0) = some (.stringRef q.1 q.2.1 q.2.2.1))
    | none => false) = true := by decide +kernel
theorem xSL_len : xSL.length = 28 := by decide +kernel
theorem xSL_small : ∀ q ∈ xSL, q.2.2.2.length < 2 ^ 31 := by decide +kernel
/-- a String constant, as the premises have it -/
theorem xSof {s : State} {args : Array Value} {A : Nat → Prop} {i : Nat} {q : String × Nat × String × List Int32} (hi : xSL[i]? = some q) (hts : ∀ w ∈ lw_tbl, w.before args s = true) (hN : ∀ w ∈ flatC narrow_1, w.before args s = true) (hA : ∀ a : Nat, a < s.heap.size → ¬ A a) : ∃ a v : Nat, vk_R q.1 q.2.1 q.2.2.1 a s ∧ va_O "java/lang/String" a A s s.heap ∧ va_OF "java/lang/String" "coder" "B" (.int 0) a A s s.heap ∧ va_OF "java/lang/String" "value" "[B" (.ref v) a A s s.heap ∧ va_T .byte v q.2.2.2.length (fun j => .int (q.2.2.2.getD j 0)) A s s.heap := by
  have hq := List.mem_of_getElem? hi
  have hw : ∀ w, w ∈ sW q → w.before args s = true := fun w h => hN w (sW_in hq h)
  have h1 := hw (.exactly (.string q.1 q.2.1) "java/lang/String") (by simp [sW])
  have h2 := hw (.eq (.field (.string q.1 q.2.1) "java/lang/String" "coder" "B") (.int 0)) (by simp [sW])
  have h3 := hw (.arrayOf (.field (.string q.1 q.2.1) "java/lang/String" "value" "[B") .byte) (by simp [sW])
  have h4 := hw (.eq (.length (.field (.string q.1 q.2.1) "java/lang/String" "value" "[B")) (.int (Int32.ofNat q.2.2.2.length))) (by simp [sW])
  have h5 : ∀ j, j < q.2.2.2.length → (Cond.eq (.elem (.field (.string q.1 q.2.1) "java/lang/String" "value" "[B") (.int (Int32.ofNat j))) (.int (q.2.2.2.getD j 0))).before args s = true := fun j hj => hw _ (List.mem_append_right _ (List.mem_map.mpr ⟨j, List.mem_range.mpr hj, rfl⟩))
  obtain ⟨a, c, cA, kA, q1, q2, q3, q4, q5, q6, -⟩ := Cond.exactly_spec (args := args) (first := s) (o := none) (s := s) (idx := []) (t := .string q.1 q.2.1) (cls := "java/lang/String") h1
  obtain ⟨t, ht, hT⟩ := va_Tof (f := fun j => .int (q.2.2.2.getD j 0)) (A := A) (xSL_small q hq) h3 (va_eqt h4) (fun j hj => va_eqt (h5 j hj)) hA
  have hlt : i < 28 := by
    have := (List.getElem?_eq_some_iff.mp hi).1
    rwa [xSL_len] at this
  have hp := List.all_eq_true.mp xSP_ok i (List.mem_range.mpr hlt)
  try dsimp only at hp
  rw [hi] at hp
  have hr := hts _ (xat_in (of_decide_eq_true hp))
  exact ⟨a, t, vk_R.of (A := args) hr q1, ⟨cA, q3, q5, by rw [q6]; exact q2, hA a (Array.getElem?_eq_some_iff.mp q3).1⟩, vk_OFof q1 (va_eqt h2) hA, vk_OFof q1 ht hA, hT⟩
/-! the classes and the array classes -/
theorem xinst_all : ((List.range 13).all fun ci => xLKk.any fun q => q.2.2.1 == ci) = true := by decide +kernel
theorem xinst {ci : Nat} (h : ci < 13) : Cond.instantiable (xOwn ci) (xNf ci) ∈ xTG := by
  have h1 := List.all_eq_true.mp xinst_all ci (List.mem_range.mpr h)
  obtain ⟨q, hq, h2⟩ := List.any_eq_true.mp h1
  have h3 := List.all_eq_true.mp xLKk_ok q hq
  simp only [Bool.and_eq_true, decide_eq_true_eq, beq_iff_eq] at h2 h3
  rw [h2] at h3
  exact xTG_in (xat_in h3.1.2) rfl
theorem xcls {s : State} {args : Array Value} (hts : ∀ w ∈ xTG, w.before args s = true) : ∃ (dC : Nat → ClassId) (dI : Nat → Nat → Nat), ∀ (c : Nat) (q : vw_C), vwCl[c]? = some q → u_Kn s q.1 q.2.1 q.2.2 (dC c) (dI c) := by
  have h0 : ∀ ci : Nat, ∃ x : ClassId × (Nat → Nat), ci < 13 → u_Kn s (xOwn ci) (xT ci) (xNf ci) x.1 x.2 := by
    intro ci
    by_cases h : ci < 13
    · obtain ⟨cC, iS, hk⟩ := u_known (C := xOwn ci) (T := xT ci) (N := xNf ci) (n := xNf ci) hts (xws_lays ci h) (hts _ (xinst h))
      exact ⟨(cC, iS), fun _ => hk⟩
    · exact ⟨(0, fun _ => 0), fun z => absurd z h⟩
  obtain ⟨f, hf⟩ := Classical.axiomOfChoice h0
  refine ⟨fun c => (f c).1, fun c => (f c).2, fun c q hq => ?_⟩
  have hlt : c < 13 := (List.getElem?_eq_some_iff.mp hq).1
  obtain ⟨T, hT1, hT2⟩ := xvw hlt
  cases hT1.symm.trans hq
  have := hf c hlt
  rw [hT2] at this
  exact this
theorem xac {s : State} {args : Array Value} {ty : FieldType} (h : (Cond.arrayClass ty).before args s = true) : ∃ c : ClassId, ArrOfT s c ty ∧ s.vm.findClass ("[" ++ ty.toString) = some c := by
  obtain ⟨c, k, comp, h1, h2, h3⟩ := Cond.arrayClass_spec (args := args) (first := s) (o := none) (s := s) (idx := []) h
  exact ⟨c, fun n z => ⟨fun k h => (by cases h), k, h2, comp, h3⟩, h1⟩
theorem xarr {s : State} {args : Array Value} (hts : ∀ w ∈ xTG, w.before args s = true) (ho : va_AO RX10 s) (ha : va_AOA .int s) : ∃ ka : Nat → ClassId, ∀ (k : Nat) (q : ClassId × FieldType), (xtys ka)[k]? = some q → ArrOfT s q.1 q.2 ∧ va_RA s q.1 q.2 := by
  obtain ⟨a0, e0, f0⟩ := xac (hts _ (xAC (a := .int) (by decide)))
  obtain ⟨a1, e1, f1⟩ := xac (hts _ (xAC (a := .byte) (by decide)))
  obtain ⟨a2, e2, f2⟩ := xac (hts _ (xAC (a := .boolean) (by decide)))
  obtain ⟨a3, e3, f3⟩ := xac (hts _ (xAC (a := .long) (by decide)))
  obtain ⟨comp4, a4, k4, g1, g2, g3, g4, g5⟩ := xAOA_spec ha
  obtain ⟨comp5, a5, k5, j1, j2, j3, j4, j5⟩ := Cond.arrayOver_spec ho
  refine ⟨fun t => if t = 100 then a0 else if t = 101 then a1 else if t = 102 then a2 else if t = 103 then a3 else if t = 104 then a4 else a5, fun k q hq => ?_⟩
  match k, hq with
  | 0, hq => cases hq; exact ⟨e0, f0⟩
  | 1, hq => cases hq; exact ⟨e1, f1⟩
  | 2, hq => cases hq; exact ⟨e2, f2⟩
  | 3, hq => cases hq; exact ⟨e3, f3⟩
  | 4, hq => cases hq; exact ⟨fun n z => ⟨fun k h => (by cases h), k4, g3, comp4, g4⟩, g5⟩
  | 5, hq => cases hq; exact ⟨fun n z => ⟨fun k h => (by cases h), k5, j3, comp5, j4⟩, k5, comp5, j3, j4, j1, j5⟩
  | k + 6, hq => simp [xtys] at hq
/-! THE CLAIM OUT OF ONE WALK OF THE LAW'S BODY (the given skeleton; what is added: no stack traces, the method's name, its empty exception table) -/
def R_law : String := "SaucerFairLaw"
def lw_P (b : Addr) (xs : List Int32) (args : Array Value) (s : State) : Prop := args = #[.ref b] ∧ s.IntsAt b xs ∧ xs.length ≤ 3072 ∧ (Jvm.Cond.and given_1 narrow_1).before args s = true
def lw_Q (_ : Array Value) (s : State) (o : Outcome) (t : State) : Prop := o = .returned (some (.int 1)) ∧ Framed s o t [] 601024 7293034
def lw_Z (below : List Frame) (a : Array Value) (s : State) : State → Prop := fun t => ∃ o, t.status = .running ∧ Ended t below o ∧ lw_Q a s o t
def lw_At (p : Program) (s : State) (m : MethodId) (meth : Method) (c : Code) (b L : Nat) (xs : Nat → Int32) : Prop :=
  p.tables.exec = Jvm.exec ∧ c.code = code ∧ meth.sig.returnType = ret ∧ c.maxLocals = 7 ∧ s.vm.findClass R_law = some m.cls ∧ (∀ w ∈ lw_tbl, w.before #[Value.ref b] s = true) ∧ va_X b L xs s s.heap ∧ b < s.heap.size ∧ meth.locks = false ∧ (Jvm.Cond.and given_1 narrow_1).before #[Value.ref b] s = true ∧ meth.name = "law" ∧ c.exceptionTable.toList = []
/-- nothing that was there before is written -/
theorem xframed {s t : State} {o : Outcome} {L : List Loc} {k n : Nat} (h : FrameEnd s o t L k n) (hL : ∀ q ∈ L, s.heap.size ≤ q.base) : Framed s o t [] k n := by
  obtain ⟨h1, h2, g1, g2, g3, g4, g5, g6⟩ := h
  refine ⟨h1, h2, g1, g2, g3, g4, g5, fun a c hc => ?_⟩
  obtain ⟨c', f1, f2, f3, f4⟩ := g6 a c hc
  refine ⟨c', f1, f2, f3, fun i _ => f4 i (fun hm => ?_)⟩
  have := hL _ hm
  have hlt : a < s.heap.size := (Array.getElem?_eq_some_iff.mp hc).1
  exact absurd hlt (Nat.not_lt.mpr this)
set_option maxHeartbeats 4000000 in
theorem whole_start {p : Program} {e : Env} {s : State} {m : MethodId} {below : List Frame} {meth : Method} {c : Code} (l : Launch) (hst : l.stackTraces = false) {b L : Nat} {xs : Nat → Int32} (hL : L ≤ 3072) (C0 : lw_At p s m meth c b L xs) : W p l e room_1 s m #[Value.ref b] below meth c s.heap [] 0 0 (lw_Z below #[Value.ref b] s) (entryFrame m ([Value.ref b] : List Value).toArray 7) := by
  obtain ⟨hx, hb, hr, hml, hown, hts, hX, hbl, hlocks, hgv, hnm, htb⟩ := id C0
  have hTG : ∀ w ∈ xTG, w.before #[Value.ref b] s = true := fun w hw => hts w (List.mem_filter.mp hw).1
  have hfl := flat_of_before _ hgv
  have hN : ∀ w ∈ flatC narrow_1, w.before #[Value.ref b] s = true := fun w hw => hfl w (by
    show w ∈ flatC given_1 ++ flatC narrow_1
    exact List.mem_append_right _ hw)
  have hAn : ∀ a : Nat, a < s.heap.size → ¬ (fun q : Nat => s.heap.size ≤ q) a := fun a h z => absurd h (Nat.not_lt.mpr z)
  have wo : va_AO RX10 s := va_AO.of (hts _ (xat_in (p := 2010) (by decide +kernel)))
  have wa : va_AOA .int s := hts (Cond.arrayOver (.array .int)) (xat_in (p := 2008) (by decide +kernel))
  obtain ⟨dC, dI, hKc⟩ := xcls hTG
  obtain ⟨ka, hKa⟩ := xarr hTG wo wa
  have hK : va_K (dC, dI) vwCl (xtys ka) s := ⟨hKc, hKa⟩
  have hz1 : vx_Zq Bundle.tN "UNASSIGNED_STACK" Bundle.steD (fun q : Nat => s.heap.size ≤ q) s s.heap := vx_Zqof (args := #[Value.ref b]) (hts (Cond.laysStatic "java/lang/Throwable" "UNASSIGNED_STACK" "[Ljava/lang/StackTraceElement;") (xat_in (p := 3175) (by decide +kernel))) (hts (Cond.initialized "java/lang/Throwable") (xat_in (p := 1014) (by decide +kernel))) (hN (Cond.isRef (.static "java/lang/Throwable" "UNASSIGNED_STACK" "[Ljava/lang/StackTraceElement;")) (List.mem_of_getElem? (i := 2) (by decide +kernel))) hAn
  have hz2 : vx_Zq Bundle.tN "SUPPRESSED_SENTINEL" Bundle.listD (fun q : Nat => s.heap.size ≤ q) s s.heap := vx_Zqof (args := #[Value.ref b]) (hts (Cond.laysStatic "java/lang/Throwable" "SUPPRESSED_SENTINEL" "Ljava/util/List;") (xat_in (p := 3177) (by decide +kernel))) (hts (Cond.initialized "java/lang/Throwable") (xat_in (p := 1014) (by decide +kernel))) (hN (Cond.isRef (.static "java/lang/Throwable" "SUPPRESSED_SENTINEL" "Ljava/util/List;")) (List.mem_of_getElem? (i := 3) (by decide +kernel))) hAn
  have hz3 : va_Z "java/lang/String" "COMPACT_STRINGS" "Z" (.int 1) (fun q : Nat => s.heap.size ≤ q) s s.heap := va_Zof (args := #[Value.ref b]) (hts _ (xat_in (p := 4011) (by decide +kernel))) (hts (Cond.initialized "java/lang/String") (xat_in (p := 1019) (by decide +kernel))) (va_eqi (hN _ (List.mem_of_getElem? (i := 4) (by decide +kernel)))) hAn
  have hz4 : va_Zq "jdk/internal/util/Preconditions" "SIOOBE_FORMATTER" "Ljava/util/function/BiFunction;" (fun q : Nat => s.heap.size ≤ q) s s.heap := va_Zqof (args := #[Value.ref b]) (hts _ (xat_in (p := 4027) (by decide +kernel))) (hts (Cond.initialized "jdk/internal/util/Preconditions") (xat_in (p := 1021) (by decide +kernel))) (hN _ (List.mem_of_getElem? (i := 5) (by decide +kernel))) hAn
  have hnc : va_Nc "java/lang/IllegalArgumentException" "java/util/NoSuchElementException" s := va_Nc.of (hN _ (List.mem_of_getElem? (i := 36) (by decide +kernel)))
  have hbad : ∀ w ∈ xBad, va_Nw w s := by
    intro w hw
    refine va_Nw.of (A := #[Value.ref b]) (xBad_tab w hw) ?_
    simp only [xBad, List.mem_cons, List.not_mem_nil, or_false] at hw
    rcases hw with rfl | rfl | rfl | rfl | rfl
    · exact hts _ (xat_in (p := 3150) (by decide +kernel))
    · exact hts _ (xat_in (p := 4164) (by decide +kernel))
    · exact hts _ (xat_in (p := 3152) (by decide +kernel))
    · exact hts _ (xat_in (p := 3154) (by decide +kernel))
    · exact hts _ (xat_in (p := 3156) (by decide +kernel))
  have hlk : ∀ q ∈ xLKm, (q.2.2.1 = 3 ∨ q.2.2.1 = 4) → va_Nw (xMw1 q.1 q.2.1 q.2.2.1 q.2.2.2.1) s := fun q hq ht => by
    have h9 := hts _ (xMk hq).1
    unfold xMw1 at h9 ⊢
    rw [if_pos ht] at h9 ⊢
    exact va_Nw.of rfl h9
  have hs0 : ∀ i : Nat, ∃ x : Nat × Nat, ∀ q, xSL[i]? = some q → vk_R q.1 q.2.1 q.2.2.1 x.1 s ∧ va_O "java/lang/String" x.1 (fun q : Nat => s.heap.size ≤ q) s s.heap ∧ va_OF "java/lang/String" "coder" "B" (.int 0) x.1 (fun q : Nat => s.heap.size ≤ q) s s.heap ∧ va_OF "java/lang/String" "value" "[B" (.ref x.2) x.1 (fun q : Nat => s.heap.size ≤ q) s s.heap ∧ va_T .byte x.2 q.2.2.2.length (fun j => .int (q.2.2.2.getD j 0)) (fun q : Nat => s.heap.size ≤ q) s s.heap := by
    intro i
    cases hi : xSL[i]? with
    | none => exact ⟨(0, 0), fun q hq => by cases hq⟩
    | some q0 =>
      obtain ⟨a, v, h1⟩ := xSof (A := fun q : Nat => s.heap.size ≤ q) hi hts hN hAn
      exact ⟨(a, v), fun q hq => by cases hq; exact h1⟩
  obtain ⟨sa, hsa⟩ := Classical.axiomOfChoice hs0
  obtain ⟨t4, ht4⟩ : ∃ t4 : Nat, va_Z "jdk/internal/util/Preconditions" "SIOOBE_FORMATTER" "Ljava/util/function/BiFunction;" (.ref t4) (fun q : Nat => s.heap.size ≤ q) s s.heap ∨ va_Z "jdk/internal/util/Preconditions" "SIOOBE_FORMATTER" "Ljava/util/function/BiFunction;" .null (fun q : Nat => s.heap.size ≤ q) s s.heap := by
    rcases hz4 with z | ⟨t, z⟩
    · exact ⟨0, Or.inr z⟩
    · exact ⟨t, Or.inl z⟩
  obtain ⟨al, ha1, ha2, ha3, ha4, ha5⟩ : ∃ al : Nat → Nat, (∀ i, i < 4000 → al i = s.heap.size + i) ∧ al 4998 = t4 ∧ al 4999 = b ∧ (∀ i, i < 1000 → al (5000 + i) = (sa i).1) ∧ ∀ i, i < 1000 → al (6000 + i) = (sa i).2 := by
    refine ⟨fun i => if i < 4000 then s.heap.size + i else if i = 4998 then t4 else if i = 4999 then b else if i < 6000 then (sa (i - 5000)).1 else (sa (i - 6000)).2, fun i hi => if_pos hi, rfl, rfl, fun i hi => ?_, fun i hi => ?_⟩
    · show (if 5000 + i < 4000 then s.heap.size + (5000 + i) else if 5000 + i = 4998 then t4 else if 5000 + i = 4999 then b else if 5000 + i < 6000 then (sa (5000 + i - 5000)).1 else (sa (5000 + i - 6000)).2) = _
      rw [if_neg (by omega), if_neg (by omega), if_neg (by omega), if_pos (by omega), show 5000 + i - 5000 = i by omega]
    · show (if 6000 + i < 4000 then s.heap.size + (6000 + i) else if 6000 + i = 4998 then t4 else if 6000 + i = 4999 then b else if 6000 + i < 6000 then (sa (6000 + i - 5000)).1 else (sa (6000 + i - 6000)).2) = _
      rw [if_neg (by omega), if_neg (by omega), if_neg (by omega), if_neg (by omega), show 6000 + i - 6000 = i by omega]
  have hFx : xFx al (fun q : Nat => s.heap.size ≤ q) s s.heap := by
    refine ⟨hlk, fun i q hi => ?_, hz1, hz2, ⟨hz3, ?_⟩, hnc, hbad, wo, wa⟩
    · have hlt : i < 28 := by
        have := (List.getElem?_eq_some_iff.mp hi).1
        rwa [xSL_len] at this
      have h9 := hsa i q hi
      unfold xS1
      rw [ha4 i (by omega), ha5 i (by omega)]
      exact h9
    · rw [ha2]
      exact ht4
  have hl := xl_entry (av := [.ref 4999]) (al := al) (n := 7) (ls := [some (.ref 4999), none, none, none, none, none, none]) (Nat.le_of_ble_eq_true rfl) rfl
  have k := law_first (n := L) (xs := xs) hL ⟨rfl, trivial⟩ p l e room_1 s m #[Value.ref b] below meth c (dC, dI) ka al (fun q : Nat => s.heap.size ≤ q) s.heap [] 0 0 601024 7293034 _ ⟨by rw [ha3]; exact hX, by rw [ha3]; exact hbl, by rw [ha3]; exact hAn b hbl⟩ ⟨hx, hb, hr, hml, hown, hTG, hlocks, hK, fun _ h => h, hFx, hst, hnm, htb⟩ ⟨by decide, by decide, by decide, by decide⟩ ⟨by omega, by omega⟩ ⟨fun k q h => by simp [xws] at h, ⟨fun i j p q h => by simp [xws] at h, fun k q h => by simp [xws] at h⟩, fun _ i _ h2 => by rw [ha1 i h2]; rfl⟩ va_S.rf hl
  rw [lg_entry_eq]
  have eav : ([.ref 4999] : List Value).map (xcv al) = [.ref b] := by
    show [Value.ref (al 4999)] = _
    rw [ha3]
  rw [eav] at k
  intro T hT X
  obtain ⟨t, a1, o, b1, b2, b3⟩ := k T hT X
  refine ⟨t, a1, o, b1, b2, ?_⟩
  rcases b3 with ⟨b3, Lx, b4, b5⟩ | ⟨q, -, E, ce, L, ⟨⟨k, h, -, hF, -⟩, -⟩, -⟩
  · obtain ⟨⟨v, h, e1, ⟨rfl, -⟩, -⟩, -⟩ := b3
    exact ⟨e1, xframed b4 b5⟩
  · exact hF.elim
