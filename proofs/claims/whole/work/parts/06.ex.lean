/-! the String constants of the classes: class, entry, text, bytes -/
def xSL : List (String × Nat × String × List Int32) := [("SaucerFair", 91, "the tape has not so many bytes", [116, 104, 101, 32, 116, 97, 112, 101, 32, 104, 97, 115, 32, 110, 111, 116, 32, 115, 111, 32, 109, 97, 110, 121, 32, 98, 121, 116, 101, 115]), ("SaucerFair$Reader", 79, "one", [111, 110, 101]), ("SaucerFair$Reader", 88, "needle", [110, 101, 101, 100, 108, 101]), ("SaucerFair$Reader", 93, "says", [115, 97, 121, 115]), ("SaucerFair$Reader", 98, "turns", [116, 117, 114, 110, 115]), ("SaucerFair$Reader", 189, "not", [110, 111, 116]), ("SaucerFair$Reader", 209, "degree", [100, 101, 103, 114, 101, 101]), ("SaucerFair$Reader", 213, "skill", [115, 107, 105, 108, 108]), ("SaucerFair$Reader", 215, "far", [102, 97, 114]), ("SaucerFair$Reader", 217, "reach", [114, 101, 97, 99, 104]), ("SaucerFair$Reader", 219, "rust", [114, 117, 115, 116]), ("SaucerFair$Reader", 221, "hour", [104, 111, 117, 114]), ("SaucerFair$Reader", 223, "points", [112, 111, 105, 110, 116, 115]), ("SaucerFair$Reader", 227, "flat", [102, 108, 97, 116]), ("SaucerFair$Reader", 229, "said", [115, 97, 105, 100]), ("SaucerFair$Reader", 187, "and", [97, 110, 100]), ("SaucerFair$Reader", 179, "or", [111, 114]), ("SaucerFair$Reader", 107, "court", [99, 111, 117, 114, 116]), ("SaucerFair", 395, "no such what", [110, 111, 32, 115, 117, 99, 104, 32, 119, 104, 97, 116]), ("SaucerFair", 387, "no such person", [110, 111, 32, 115, 117, 99, 104, 32, 112, 101, 114, 115, 111, 110]), ("SaucerFair", 389, "no such needle", [110, 111, 32, 115, 117, 99, 104, 32, 110, 101, 101, 100, 108, 101]), ("SaucerFair", 391, "no such saying", [110, 111, 32, 115, 117, 99, 104, 32, 115, 97, 121, 105, 110, 103]), ("SaucerFair", 393, "no such hour", [110, 111, 32, 115, 117, 99, 104, 32, 104, 111, 117, 114]), ("SaucerFair", 397, "a lie of degree 1 to 9 in an hour 0 to 99", [97, 32, 108, 105, 101, 32, 111, 102, 32, 100, 101, 103, 114, 101, 101, 32, 49, 32, 116, 111, 32, 57, 32, 105, 110, 32, 97, 110, 32, 104, 111, 117, 114, 32, 48, 32, 116, 111, 32, 57, 57]), ("SaucerFair", 399, "bits of what is not there", [98, 105, 116, 115, 32, 111, 102, 32, 119, 104, 97, 116, 32, 105, 115, 32, 110, 111, 116, 32, 116, 104, 101, 114, 101]), ("SaucerFair", 283, "no such side", [110, 111, 32, 115, 117, 99, 104, 32, 115, 105, 100, 101]), ("SaucerFair", 322, "two of the people, and a loss of 0 to 99", [116, 119, 111, 32, 111, 102, 32, 116, 104, 101, 32, 112, 101, 111, 112, 108, 101, 44, 32, 97, 110, 100, 32, 97, 32, 108, 111, 115, 115, 32, 111, 102, 32, 48, 32, 116, 111, 32, 57, 57]), ("SaucerFair", 330, "0 to 99 hours", [48, 32, 116, 111, 32, 57, 57, 32, 104, 111, 117, 114, 115])]
/-- the exception tables, by method -/
def xHHL : List (Nat × List (Nat × Nat × Nat × Nat)) := [(302, [(0, 9, 12, 13)]), (303, [(0, 9, 12, 18)]), (304, [(0, 10, 13, 18)]), (305, [(0, 10, 13, 18)]), (306, [(0, 10, 13, 18)]), (307, [(0, 10, 13, 18)]), (308, [(0, 10, 13, 18)]), (309, [(0, 10, 13, 18)]), (310, [(0, 9, 12, 18)]), (311, [(0, 12, 15, 18)]), (312, [(0, 10, 13, 18)]), (313, [(0, 12, 15, 18)]), (314, [(0, 12, 15, 18), (0, 12, 19, 13)]), (315, [(0, 10, 13, 13)]), (316, [(0, 12, 15, 18), (0, 12, 19, 13)]), (317, [(0, 12, 15, 18), (0, 12, 19, 13)]), (318, [(0, 12, 15, 18)]), (319, [(0, 9, 12, 18)]), (320, [(0, 10, 13, 18)]), (321, [(0, 12, 15, 18), (0, 12, 19, 13)]), (322, [(0, 16, 19, 18), (0, 16, 23, 13)]), (323, [(0, 12, 15, 18), (0, 12, 19, 13)]), (324, [(0, 10, 13, 18)]), (325, [(0, 10, 13, 18)]), (326, [(0, 9, 12, 18)]), (327, [(0, 9, 12, 18)]), (328, [(0, 10, 13, 13)]), (329, [(0, 14, 17, 18), (0, 14, 21, 13)]), (330, [(0, 10, 13, 18)]), (331, [(0, 9, 12, 18)]), (332, [(0, 9, 12, 18)]), (333, [(0, 9, 12, 18)])]
def xS1 (al : Nat → Nat) (A : Nat → Prop) (U : State) (H : Heap) (i : Nat) (q : String × Nat × String × List Int32) : Prop :=
  vk_R q.1 q.2.1 q.2.2.1 (al (5000 + i)) U ∧ va_O "java/lang/String" (al (5000 + i)) A U H ∧ va_OF "java/lang/String" "coder" "B" (.int 0) (al (5000 + i)) A U H ∧ va_OF "java/lang/String" "value" "[B" (.ref (al (6000 + i))) (al (5000 + i)) A U H ∧ va_T .byte (al (6000 + i)) q.2.2.2.length (fun j => .int (q.2.2.2.getD j 0)) A U H
def xIS (X : String) : MethodName := ⟨X, "<init>", "(Ljava/lang/String;)V"⟩
/-- words on the exceptions that the tables decide but that aren't good ones -/
def xBad : List Cond := [.castable "java/lang/IllegalArgumentException" "java/lang/IllegalArgumentException", .castable "java/util/NoSuchElementException" "java/util/NoSuchElementException", .declares (xIS "java/lang/RuntimeException"), .declares (xIS "java/lang/Exception"), .declares (xIS "java/lang/Throwable")]
theorem xBad_warm {s U : State} {w : Cond} (hw : w ∈ xBad) (hW : s.WarmedH U.vm) (h : va_Nw w s) : va_Nw w U := by
  simp only [xBad, List.mem_cons, List.not_mem_nil, or_false] at hw
  rcases hw with rfl | rfl | rfl | rfl | rfl
  · exact va_tabs rfl (rfl : (s.setVm U.vm).vm = U.vm) (by rw [Cond.castable_setVm hW.alike]; exact h)
  · exact va_tabs rfl (rfl : (s.setVm U.vm).vm = U.vm) (by rw [Cond.castable_setVm hW.alike]; exact h)
  · exact va_Nw.warmD hW h
  · exact va_Nw.warmD hW h
  · exact va_Nw.warmD hW h
/-- arrays of rows: what the tables say of their class -/
theorem xAOA_spec {ty : FieldType} {u : State} (h : va_AOA ty u) : ∃ comp c k, u.vm.findClass (FieldType.array ty).toString = some comp ∧ (u.vm.classes.findIdx? fun x => match x.kind with | .array component _ => component == comp | _ => false) = some c ∧ u.vm.classes[c]? = some k ∧ k.kind = .array comp (.array ty) ∧ u.vm.findClass ("[" ++ (FieldType.array ty).toString) = some c := by
  unfold va_AOA Cond.before at h
  simp only [Cond.holds, Cond.value, beq_iff_eq] at h
  cases hc : u.vm.findClass (FieldType.array ty).toString with
  | none => simp [hc] at h
  | some comp =>
    simp only [hc, Option.bind_some, Option.bind_eq_some_iff, Option.map_eq_some_iff] at h
    obtain ⟨c, hi, k, hk, hb⟩ := h
    obtain ⟨hlt, hp, -⟩ := Array.findIdx?_eq_some_iff_getElem.mp hi
    have hkk : u.vm.classes[c] = k := (Array.getElem?_eq_some_iff.mp hk).2
    rw [hkk] at hp
    cases hkind : k.kind with
    | array component ty2 =>
      rw [hkind] at hb hp
      simp at hb hp
      exact ⟨comp, c, k, rfl, hi, hk, by rw [hkind, hp, hb.1], hb.2⟩
    | _ => rw [hkind] at hb; simp at hb
theorem xAOA_moved {ty : FieldType} {u U : State} (hvm : u.vm.Alike U.vm) (h : va_AOA ty u) : va_AOA ty U := by
  obtain ⟨comp, c, k, h1, h2, h3, h4, h5⟩ := xAOA_spec h
  obtain ⟨k', hk', he⟩ := hvm.2.2 _ _ h3
  have hi : (U.vm.classes.findIdx? fun (x : Class) => match x.kind with | .array component _ => component == comp | _ => false) = some c := by
    refine (va_idx_bare U.vm comp).symm.trans ?_
    first | rw [hvm.bare_eq] | rw [← hvm.bare_eq]
    exact (va_idx_bare u.vm comp).trans h2
  have hkind : k'.kind = .array comp (.array ty) := by rw [he]; exact h4
  have f1 : U.vm.findClass (FieldType.array ty).toString = some comp := by rw [hvm.findClass]; exact h1
  have f2 : U.vm.findClass ("[" ++ (FieldType.array ty).toString) = some c := by rw [hvm.findClass]; exact h5
  unfold va_AOA Cond.before Cond.holds
  simp only [Cond.value]
  rw [f1, Option.bind_some]
  refine (congrArg (fun o : Option Nat => (o.bind (fun c => (U.vm.classes[c]?).map fun (k : Class) => match k.kind with | .array _ ty2 => decide (ty2 = FieldType.array ty) && decide (U.vm.findClass ("[" ++ (FieldType.array ty).toString) = some c) | _ => false) == some true)) hi).trans ?_
  simp [hk', hkind, f2]
/-- what never changes: the nest mates' links, the String constants, three statics of the JDK's -/
def xFx (al : Nat → Nat) (A : Nat → Prop) (U : State) (H : Heap) : Prop :=
  (∀ q ∈ xLKm, (q.2.2.1 = 3 ∨ q.2.2.1 = 4) → va_Nw (xMw1 q.1 q.2.1 q.2.2.1 q.2.2.2.1) U) ∧ (∀ (i : Nat) (q : String × Nat × String × List Int32), xSL[i]? = some q → xS1 al A U H i q) ∧
  vx_Zq Bundle.tN "UNASSIGNED_STACK" Bundle.steD A U H ∧ vx_Zq Bundle.tN "SUPPRESSED_SENTINEL" Bundle.listD A U H ∧ (va_Z "java/lang/String" "COMPACT_STRINGS" "Z" (.int 1) A U H ∧ (va_Z "jdk/internal/util/Preconditions" "SIOOBE_FORMATTER" "Ljava/util/function/BiFunction;" (.ref (al 4998)) A U H ∨ va_Z "jdk/internal/util/Preconditions" "SIOOBE_FORMATTER" "Ljava/util/function/BiFunction;" .null A U H)) ∧
  va_Nc "java/lang/IllegalArgumentException" "java/util/NoSuchElementException" U ∧ (∀ w ∈ xBad, va_Nw w U) ∧ va_AO RX10 U ∧ va_AOA .int U
theorem xFx.go {al : Nat → Nat} {A B : Nat → Prop} {s U : State} {H0 H : Heap} (h : xFx al A s H0) (hW : s.WarmedH U.vm) (hk : ∀ a : Nat, a < H0.size → ¬ A a → H[a]? = H0[a]?) (hAB : ∀ q, B q → A q) : xFx al B U H := by
  obtain ⟨h1, h2, h3, h4, h5, h6, h7, h8, h9⟩ := h
  refine ⟨fun q hq ht => ?_, fun i q hi => ?_, ?_, ?_, ?_, va_Nc.moved hW.alike h6, fun w hw => xBad_warm hw hW (h7 w hw), h8.moved hW.alike, xAOA_moved hW.alike h9⟩
  · have h9 := h1 q hq ht
    unfold xMw1 at h9 ⊢
    rw [if_pos ht] at h9 ⊢
    exact va_Nw.warmM hW h9
  · obtain ⟨a1, a2, a3, a4, a5⟩ := h2 i q hi
    exact ⟨vk_R.warm hW a1, (va_O.moved hW.alike (a2.kept hk)).narrow hAB, (va_OF.moved hW.alike (a3.kept hk)).narrow hAB, (va_OF.moved hW.alike (a4.kept hk)).narrow hAB, (va_T.moved hW.alike (a5.kept hk)).narrow hAB⟩
  · exact (vx_Zq.moved hW.alike (h3.kept hk)).narrow hAB
  · exact (vx_Zq.moved hW.alike (h4.kept hk)).narrow hAB
  · exact ⟨(va_Z.moved hW.alike (h5.1.kept hk)).narrow hAB, h5.2.imp (fun z => (va_Z.moved hW.alike (z.kept hk)).narrow hAB) (fun z => (va_Z.moved hW.alike (z.kept hk)).narrow hAB)⟩
def xTG : List Cond := lw_tbl.filter goodWord
def xHh (mid : Nat) : List (Nat × Nat × Nat × Nat) := match xHHL.lookup mid with
  | some x => x
  | none => []
def xcw (M : xM) : Cond := match xHh M.1 with
  | [] => .code (xY M.1) M.2.2.1 M.2.2.2.1 M.2.2.2.2.1
  | x => .codeWith (xY M.1) M.2.2.1 M.2.2.2.1 M.2.2.2.2.1 x
def xwM (M : xM) : List Cond := xcw M :: xTG
/-- the rows of a method -/
def xft : List xRow → Nat → Option (Nat × Instr × List Nat × Int32 × Int64)
  | [], _ => none
  | r :: t, pc => match Nat.beq r.1 pc with
    | true => some r.2
    | false => xft t pc
def xlen (i : Instr) : Nat := match i with
  | .iload _ | .lload _ | .aload _ | .istore _ | .lstore _ | .astore _ | .bipush _ | .ldc _ | .newarray _ => 2
  | .sipush _ | .ldc_w _ | .ldc2_w _ | .iinc _ _ | .getfield _ | .putfield _ | .getstatic _ | .goto _ | .ifCond _ _ | .if_icmp _ _ | .if_acmp _ _ | .ifnull _ | .ifnonnull _ | .invokevirtual _ | .invokestatic _ | .invokespecial _ | .new _ | .anewarray _ => 3
  | .multianewarray _ _ => 4
  | _ => 1
def xtg (pc : Nat) (off : Int) (rs : List Nat) : Bool := match rs with
  | [t] => decide ((pc : Int) + off = (t : Int))
  | _ => false
/-- what a row must say beside its instruction -/
def xres (o : Nat) (r : xRow) : Bool := match r.2.2.1 with
  | .iconst n => decide (Int32.ofInt n = r.2.2.2.2.1)
  | .bipush n => decide ((Int8.ofInt n).toInt32 = r.2.2.2.2.1)
  | .sipush n => decide ((Int16.ofInt n).toInt32 = r.2.2.2.2.1)
  | .iinc _ n => decide (Int32.ofInt n = r.2.2.2.2.1)
  | .lconst n => decide (Int64.ofNat (n : Nat) = r.2.2.2.2.2)
  | .ldc i => (match r.2.2.2.1 with
    | [] => xLKc.any fun q => q.1 == o && q.2.1 == i && decide (q.2.2.1 = r.2.2.2.2.1)
    | [k] => (match xSL[k]? with
      | some q => decide (q.1 = xOwn o) && q.2.1 == i
      | none => false)
    | _ => false)
  | .ldc_w i => (match r.2.2.2.1 with
    | [] => xLKc.any fun q => q.1 == o && q.2.1 == i && decide (q.2.2.1 = r.2.2.2.2.1)
    | [k] => (match xSL[k]? with
      | some q => decide (q.1 = xOwn o) && q.2.1 == i
      | none => false)
    | _ => false)
  | .ldc2_w i => xLKl.any fun q => q.1 == o && q.2.1 == i && decide (q.2.2.1 = r.2.2.2.2.2)
  | .getfield i | .putfield i => (match r.2.2.2.1 with
    | [ci, k] => (xLKf.any fun q => q.1 == o && q.2.1 == i && q.2.2.1 == ci && q.2.2.2.1 == k) && decide (ci < 13) && decide (k < xNf ci)
    | [] => true
    | _ => false)
  | .goto off | .ifCond _ off | .if_icmp _ off | .if_acmp _ off | .ifnull off | .ifnonnull off => xtg r.1 off r.2.2.2.1
  | .invokevirtual i | .invokestatic i | .invokespecial i => (match r.2.2.2.1 with
    | [tag, mid] => if tag < 10 then xLKm.any (fun q => q.1 == o && q.2.1 == i && q.2.2.1 == tag && q.2.2.2.1 == mid) else xLKn.any (fun q => q.1 == o && q.2.1 == i && q.2.2.1 == tag)
    | _ => true)
  | .new i => (match r.2.2.2.1 with
    | [ci] => xLKk.any fun q => q.1 == o && q.2.1 == i && q.2.2.1 == ci
    | _ => true)
  | _ => true
/-- a table switch has its own length -/
def xtab (r : xRow) : Bool := match r.2.2.1 with
  | .tableswitch _ _ _ _ => true
  | .lookupswitch _ _ => true
  | _ => false
def xrok (M : xM) (r : xRow) : Bool := (if xtab r then decide (decode M.2.2.1 r.1 = .ok (r.2.2.1, r.2.1 - r.1)) && decide (r.1 < r.2.1) else decide (decode M.2.2.1 r.1 = .ok (r.2.2.1, xlen r.2.2.1)) && decide (r.2.1 = r.1 + xlen r.2.2.1)) && xres M.2.1 r
def xgd (M : xM) : Prop := M.2.2.2.2.2.all (xrok M) = true ∧ xcw M ∈ lw_tbl ∧ (xY M.1).cls = xOwn M.2.1 ∧ plainName (xY M.1).cls = true ∧ M.2.2.2.1 ≤ 40 ∧ ((xY M.1).cls ≠ "java/lang/invoke/MethodHandle" ∧ (xY M.1).cls ≠ "java/lang/invoke/VarHandle")
theorem xft_row {M : xM} {P : List xRow} {pc : Nat} {x : Nat × Instr × List Nat × Int32 × Int64} (h : P.all (xrok M) = true) (hf : xft P pc = some x) : xrok M (pc, x) = true := by
  induction P with
  | nil => cases hf
  | cons r t ih =>
    rw [List.all_cons, Bool.and_eq_true] at h
    unfold xft at hf
    split at hf
    · rename_i hb
      have e := Nat.eq_of_beq_eq_true hb
      cases hf
      rw [← e]
      exact h.1
    · exact ih h.2 hf
theorem xft_dec {M : xM} {pc nx : Nat} {i : Instr} {rs : List Nat} {li : Int32} {ll : Int64} (h : M.2.2.2.2.2.all (xrok M) = true) (hf : xft M.2.2.2.2.2 pc = some (nx, i, rs, li, ll)) (ht : xtab (pc, nx, i, rs, li, ll) = false) : decode M.2.2.1 pc = .ok (i, xlen i) ∧ nx = pc + xlen i ∧ xres M.2.1 (pc, nx, i, rs, li, ll) = true := by
  have h1 := xft_row h hf
  unfold xrok at h1
  rw [ht] at h1
  simp only [Bool.false_eq_true, if_false, Bool.and_eq_true, decide_eq_true_eq] at h1
  exact ⟨h1.1.1, h1.1.2, h1.2⟩
/-- the addresses that come are known ahead, as long as nothing else is made -/
def xfr (fr : Bool) (al : Nat → Nat) (h : xHp) (H : Heap) : Prop := fr = true → ∀ i, h.1.length ≤ i → i < 4000 → al i = H.size + (i - h.1.length)
/-- the world holds h -/
def xWd (fr : Bool) (D : va_G) (ka : Nat → ClassId) (al : Nat → Nat) (A : Nat → Prop) (h : xHp) (H : Heap) : Prop := va_P D vwCl (xws ka al h) H ∧ va_D A (xws ka al h) ∧ xfr fr al h H
abbrev xPost : Type := Option Value → xHp → Prop
def xQc (fr : Bool) (D : va_G) (ka : Nat → ClassId) (al : Nat → Nat) (A : Nat → Prop) (Q : xPost) : Array Value → State → Outcome → State → Prop := fun _ st oc t =>
  (∃ (v : Option Value) (h : xHp), oc = .returned (v.map (xcv al)) ∧ Q v h ∧ xWd fr D ka al A h t.heap ∧ va_K D vwCl (xtys ka) t) ∧ va_F A st t
def xEx (k : Nat) : String := if k = 1 then "java/util/NoSuchElementException" else "java/lang/IllegalArgumentException"
def xXC (D : va_G) (ka : Nat → ClassId) (al : Nat → Nat) (A : Nat → Prop) (X : Nat → xHp → Prop) : String → State → State → Prop := fun E st t =>
  (∃ (k : Nat) (h : xHp), E = xEx k ∧ X k h ∧ xWd false D ka al A h t.heap ∧ va_K D vwCl (xtys ka) t) ∧ va_F A st t
def xrm (dp kc ks : Nat) : Room := { frames := dp, cells := kc, slots := ks, locals := 64 * dp }
/-- where a method of this system stands -/
def xCx (p : Program) (l : Launch) (s : State) (m : MethodId) (args : Array Value) (meth : Method) (c : Code) (M : xM) (D : va_G) (ka : Nat → ClassId) (al : Nat → Nat) (A : Nat → Prop) : Prop :=
  p.tables.exec = Jvm.exec ∧ c.code = M.2.2.1 ∧ meth.sig.returnType = M.2.2.2.2.1 ∧ c.maxLocals = M.2.2.2.1 ∧ s.vm.findClass (xOwn M.2.1) = some m.cls ∧ (∀ w ∈ xTG, w.before args s = true) ∧ meth.locks = false ∧ va_K D vwCl (xtys ka) s ∧ (∀ q : Nat, s.heap.size ≤ q → A q) ∧ xFx al A s s.heap ∧ l.stackTraces = false ∧ meth.name = (xY M.1).name ∧ c.exceptionTable.toList = tableOf (xHh M.1)
/-- from pc, with these locals, this stack, this world: the method returns with Q or throws with X; it may lay dp frames and make kc cells of ks slots -/
def Ex (M : xM) (fr : Bool) (dp kc ks pc : Nat) (ls : List (Option Value)) (st : List Value) (h : xHp) (Q : xPost) (X : Nat → xHp → Prop) : Prop :=
  xgd M → ∀ (p : Program) (l : Launch) (e : Env) (R : Room) (s : State) (m : MethodId) (args : Array Value) (below : List Frame) (meth : Method) (c : Code) (D : va_G) (ka : Nat → ClassId) (al : Nat → Nat) (A : Nat → Prop) (H : Heap) (locs : List Loc) (cells slots mc ms : Nat) (lsA : Array Slot),
    xCx p l s m args meth c M D ka al A → (dp ≤ R.frames ∧ 64 * dp ≤ R.locals ∧ mc ≤ R.cells ∧ ms ≤ R.slots) → (cells + kc ≤ mc ∧ slots + ks ≤ ms) → xWd fr D ka al A h H → va_S A s.heap H locs → lv_has lsA M.2.2.2.1 (xl al ls) →
    W p l e R s m args below meth c H locs cells slots (vx_MQ below (xQc fr D ka al A Q) (xXC D ka al A X) args s mc ms A) (F0 m pc lsA (st.map (xcv al)))
