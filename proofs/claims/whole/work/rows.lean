section
def va_AOA (ty : FieldType) (U : State) : Prop := (Cond.arrayOver (.array ty)).before #[] U = true
theorem va_AOA.use {ty : FieldType} {A : Array Value} {U : State} (h : va_AOA ty U) : (Cond.arrayOver (.array ty)).before A U = true := h
/-! ===== BEGIN words of one list among another's, by their places ===== -/
theorem goodIn_r {big : List Cond} (ws : List Cond) (ps : List Nat) (hp : ws = ps.filterMap (fun i => big[i]?)) (h : ws.all goodWord = true) : GoodIn big ws := by
  intro w hw
  have h1 := List.all_eq_true.mp h w hw
  rw [hp] at hw
  obtain ⟨i, -, hi⟩ := List.mem_filterMap.mp hw
  have hm : w ∈ big := by first | exact List.mem_of_getElem? hi | exact List.getElem?_mem hi
  exact ⟨hm, good_of_word h1⟩
theorem goodIn_app {big a b : List Cond} (ha : GoodIn big a) (hb : GoodIn big b) : GoodIn big (a ++ b) := fun w h => (List.mem_append.mp h).elim (ha w) (hb w)
theorem goodIn_ca {big a b : List Cond} {c : Cond} (ha : GoodIn big (c :: a)) (hb : GoodIn big b) : GoodIn big (c :: (a ++ b)) := fun w h => (List.mem_cons.mp h).elim (fun e => ha w (List.mem_cons.mpr (Or.inl e))) (fun h => (List.mem_append.mp h).elim (fun h => ha w (List.mem_cons.mpr (Or.inr h))) (hb w))
theorem goodIn_sub {big ws : List Cond} (hm : ∀ w ∈ ws, w ∈ big) (h : ws.all goodWord = true) : GoodIn big ws := fun w hw => ⟨hm w hw, good_of_word (List.all_eq_true.mp h w hw)⟩
/-! ===== END ===== -/

/-! ===== BEGIN new T[n][m]: the outer array a place, the inner ones among the pooled ===== -/
/-- f, but v at every address of l -/
def vr_up {α : Type} (f : Nat → α) (l : List Nat) (v : α) : Nat → α := fun a => if a ∈ l then v else f a
theorem vr_up_in {α : Type} {f : Nat → α} {l : List Nat} {v : α} {a : Nat} (h : a ∈ l) : vr_up f l v a = v := if_pos h
theorem vr_up_ne {α : Type} {f : Nat → α} {l : List Nat} {v : α} {a : Nat} (h : a ∉ l) : vr_up f l v a = f a := if_neg h
theorem vr_rows {L l : List Nat} {f : Nat → va_E} {e : va_E} (h : ∀ a, a ∈ l → a ∉ L) : va_pl L f ++ l.map (fun a => (a, e)) = va_pl (L ++ l) (vr_up f l e) := by
  unfold va_pl
  rw [List.map_append]
  congr 1
  · apply List.map_congr_left
    intro a ha
    rw [vr_up_ne (fun q => h a q ha)]
  · apply List.map_congr_left
    intro a ha
    rw [vr_up_in ha]
theorem vr_lay {X rows : va_W} {x : Nat × va_E} {pl : va_W} {D : va_G} {cl : List vw_C} {H : Heap} (hP : va_P D cl (((X ++ pl) ++ [x]) ++ rows) H) : va_P D cl ((X ++ [x]) ++ (pl ++ rows)) H := by
  rw [List.append_assoc (X ++ pl)] at hP
  have h := va_P.swap hP
  rw [← List.append_assoc X] at h
  have h2 := va_P.swap h
  rw [List.append_assoc (X ++ [x])] at h2
  exact h2
theorem vr_layD {X rows : va_W} {x : Nat × va_E} {pl : va_W} {A : Nat → Prop} (hD : va_D A (((X ++ pl) ++ [x]) ++ rows)) : va_D A ((X ++ [x]) ++ (pl ++ rows)) := by
  rw [List.append_assoc (X ++ pl)] at hD
  have h := va_D.swap hD
  rw [← List.append_assoc X] at h
  have h2 := va_D.swap h
  rw [List.append_assoc (X ++ [x])] at h2
  exact h2
theorem vr_outer (c : ClassId) (N h0 : Nat) : ∀ i : Nat, Jvm.Free.Multi.outerC c N h0 i = arrV c N (fun j => va_rf (if j < i then some (h0 + 1 + j) else none))
  | 0 => by
    show ({ cls := c, slots := Array.replicate N .null, vm := .none } : Cell) = _
    rw [arrV_new]
    refine congrArg (arrV c N) (funext fun j => ?_)
    simp [va_rf]
  | i + 1 => by
    show (Jvm.Free.Multi.outerC c N h0 i).setSlot i (.ref (h0 + 1 + i)) = _
    rw [vr_outer c N h0 i, arrV_store]
    refine congrArg (arrV c N) (funext fun j => ?_)
    by_cases e : j = i
    · subst e
      simp [updV, va_rf]
    · by_cases h : j < i
      · simp [updV, e, h, Nat.lt_succ_of_lt h]
      · simp [updV, e, h, show ¬ j < i + 1 by omega]
section VGM
variable {p : Program} {l : Launch} {e : Env} {R : Room} {s : State} {m : MethodId} {args : Array Value} {below : List Frame} {meth : Method} {c : Code} {H : Heap} {locs : List Loc} {cells slots : Nat} {Q : State → Prop}
variable {cc : ByteArray} {pc : Nat} {ls : Array Slot} {rest : List Value} {D : va_G} {cl : List vw_C} {A : Nat → Prop} {a : Nat} {tys : List (ClassId × FieldType)} {ws : va_W} {H0 : Heap}
theorem va_mna {X : va_W} {L : List Nat} {f : Nat → va_E} {cc : ByteArray} (hexec : p.tables.exec = Jvm.exec) (hb : c.code = cc) {own : String} {index : Nat} {ty : FieldType} {cy : ClassId} (hown : s.vm.findClass own = some m.cls) (hclink : (Cond.classLink own index ("[" ++ (FieldType.array ty).toString)).before args s = true) (hover : va_AOA ty s) (harr : (Cond.arrayClass ty).before args s = true) (hcy : s.vm.findClass (FieldType.array ty).toString = some cy)
    (hK : va_K D cl tys s) (hP : va_P D cl (X ++ va_pl L f) H) (hD : va_D A (X ++ va_pl L f)) (hS : va_S A H0 H locs) (hA : ∀ q, H0.size ≤ q → A q) {n k : Int32} {N' K' : Nat} {z : vp_A} (hn : ¬ n < 0) (hk : ¬ k < 0) (hN : n.toNatClampNeg = N') (hM : k.toNatClampNeg = K')
    (hb1 : N' * 4 ≤ 536870912) (hb2 : K' * componentBytes ty ≤ 536870912) (hb3 : K' ≤ 536870912) (hdf : fits ty (defaultValue ty) = true) (hdd : (defaultValue ty).isDefault = true) (hcells : cells + (1 + N') ≤ R.cells) (hslots : slots + (N' + N' * K') ≤ R.slots) (hz : ∀ c : ClassId, Jvm.Free.Multi.innerC c K' (defaultValue ty) = vp_cell c z) (hdg : decode cc pc = .ok (.multianewarray index 2, 4))
    (kk : ∀ (q : Nat) (r : Nat → Nat) (cA : ClassId) (H1 : Heap), (∀ i j : Nat, i < N' → j < N' → r i = r j → i = j) → (∀ i : Nat, i < N' → r i ∉ L) → va_K D cl (tys ++ [(cA, .array ty)]) s →
      va_P D cl ((X ++ [(q, .inl (cA, N', .inr (.inr (.inr (.inr (fun i => if i < N' then some (r i) else none))))))]) ++ va_pl (L ++ (List.range N').map r) (vr_up f ((List.range N').map r) (.inl (cy, z)))) H1 → va_D A ((X ++ [(q, .inl (cA, N', .inr (.inr (.inr (.inr (fun i => if i < N' then some (r i) else none))))))]) ++ va_pl (L ++ (List.range N').map r) (vr_up f ((List.range N').map r) (.inl (cy, z)))) → va_S A H0 H1 locs →
      W p l e R s m args below meth c H1 locs (cells + 1 + N') (slots + N' + N' * K') Q (F0 m (pc + 4) ls (.ref q :: rest))) : W p l e R s m args below meth c H locs cells slots Q (F0 m pc ls (.int k :: .int n :: rest)) := by
  subst hN
  subst hM
  intro T hT Xs
  obtain ⟨vm₁, cA, comp, -, fA, fC, hO, -, X', step⟩ := Xs.multianewarray2F hexec hown hclink (va_AOA.use hover) harr (g := F0 m pc ls (.int k :: .int n :: rest)) rfl (by rw [hb]; exact hdg) rfl hn hk hb1 hb2 hb3 hdf hdd hcells hslots
  have ec : some cy = some comp := hcy.symm.trans fC
  cases ec
  generalize hF : Jvm.Free.Multi.fill (T.setVm vm₁) cA cy n.toNatClampNeg k.toNatClampNeg (defaultValue ty) n.toNatClampNeg = F at X' step
  have hTh : (T.setVm vm₁).heap = H := hT
  obtain ⟨f1, f2, -, -⟩ := Jvm.Free.Multi.fill_facts (T.setVm vm₁) cA cy n.toNatClampNeg k.toNatClampNeg (defaultValue ty) n.toNatClampNeg
  rw [hF, hTh] at f1 f2
  have hold : ∀ x : Nat, x < H.size → F.heap[x]? = H[x]? := fun x hx => by
    have := Jvm.Free.Multi.fill_old (T.setVm vm₁) cA cy n.toNatClampNeg k.toNatClampNeg (defaultValue ty) (a := x) (by rw [hTh]; exact hx) n.toNatClampNeg
    rw [hF, hTh] at this
    exact this
  have hrow : ∀ j : Nat, j < n.toNatClampNeg → F.heap[H.size + 1 + j]? = some (vp_cell cy z) := fun j hj => by
    have := Jvm.Free.Multi.fill_inner (T.setVm vm₁) cA cy n.toNatClampNeg k.toNatClampNeg (defaultValue ty) n.toNatClampNeg j hj
    rw [hF, hTh, hz] at this
    exact this
  have hout : Jvm.Free.Multi.outerC cA n.toNatClampNeg H.size n.toNatClampNeg = vp_cell cA (n.toNatClampNeg, .inr (.inr (.inr (.inr (fun i => if i < n.toNatClampNeg then some (H.size + 1 + i) else none))))) := by
    rw [vp_cell_q]
    exact vr_outer cA n.toNatClampNeg H.size n.toNatClampNeg
  rw [hout] at f2
  have hlt : ∀ a, a ∈ L → a < H.size := fun a ha => by
    obtain ⟨k9, hk9⟩ := va_pl_get (X := X) (f := f) ha
    exact (hP k9 _ hk9).lt
  have hnl : ∀ i : Nat, i < n.toNatClampNeg → H.size + 1 + i ∉ L := fun i _ h => by
    have := hlt _ h
    omega
  have hnm : ∀ a, a ∈ (List.range n.toNatClampNeg).map (fun i => H.size + 1 + i) → a ∉ L := fun a ha h => by
    obtain ⟨i, -, rfl⟩ := List.mem_map.mp ha
    have := hlt _ h
    omega
  have hP0 : va_P D cl (X ++ va_pl L f) F.heap := hP.kept (fun k9 x hx => hold x.1 ((hP k9 x hx).lt))
  have hP1 : va_P D cl ((X ++ va_pl L f) ++ [(H.size, .inl (cA, n.toNatClampNeg, .inr (.inr (.inr (.inr (fun i => if i < n.toNatClampNeg then some (H.size + 1 + i) else none))))))]) F.heap := hP0.app (fun k9 x hx => by
    have h0 : k9 < 1 := (List.getElem?_eq_some_iff.mp hx).1
    rw [show k9 = 0 by omega] at hx
    cases hx
    exact f2)
  have hP2 : va_P D cl (((X ++ va_pl L f) ++ [(H.size, .inl (cA, n.toNatClampNeg, .inr (.inr (.inr (.inr (fun i => if i < n.toNatClampNeg then some (H.size + 1 + i) else none))))))]) ++ ((List.range n.toNatClampNeg).map (fun i => H.size + 1 + i)).map (fun a => (a, .inl (cy, z)))) F.heap := hP1.app (fun k9 x hx => by
    obtain ⟨a, ha, rfl⟩ := List.mem_map.mp (List.mem_of_getElem? hx)
    obtain ⟨i, hi, rfl⟩ := List.mem_map.mp ha
    exact hrow i (List.mem_range.mp hi))
  have hD2 : va_D A (((X ++ va_pl L f) ++ [(H.size, .inl (cA, n.toNatClampNeg, .inr (.inr (.inr (.inr (fun i => if i < n.toNatClampNeg then some (H.size + 1 + i) else none))))))]) ++ ((List.range n.toNatClampNeg).map (fun i => H.size + 1 + i)).map (fun a => (a, .inl (cy, z)))) := by
    have hD1 := hD.push (e := .inl (cA, n.toNatClampNeg, .inr (.inr (.inr (.inr (fun i => if i < n.toNatClampNeg then some (H.size + 1 + i) else none)))))) hP rfl (hA _ hS.1)
    generalize hW1 : (X ++ va_pl L f) ++ [(H.size, .inl (cA, n.toNatClampNeg, .inr (.inr (.inr (.inr (fun i => if i < n.toNatClampNeg then some (H.size + 1 + i) else none))))))] = W1 at hD1 hP1 ⊢
    have hle : ∀ (k9 : Nat) (x : Nat × va_E), W1[k9]? = some x → x.1 ≤ H.size := fun k9 x hx => by
      rw [← hW1] at hx
      by_cases hl : k9 < (X ++ va_pl L f).length
      · rw [List.getElem?_append_left hl] at hx
        exact Nat.le_of_lt ((hP k9 x hx).lt)
      · rw [List.getElem?_append_right (by omega)] at hx
        have h0 : k9 - (X ++ va_pl L f).length < 1 := (List.getElem?_eq_some_iff.mp hx).1
        rw [show k9 - (X ++ va_pl L f).length = 0 by omega] at hx
        cases hx
        exact Nat.le_refl _
    have hr : ∀ (k9 : Nat) (x : Nat × va_E), (((List.range n.toNatClampNeg).map (fun i => H.size + 1 + i)).map (fun a => ((a, .inl (cy, z)) : Nat × va_E)))[k9]? = some x → x.1 = H.size + 1 + k9 := fun k9 x hx => by
      rw [List.getElem?_map, List.getElem?_map] at hx
      by_cases h9 : k9 < n.toNatClampNeg
      · rw [List.getElem?_range h9] at hx
        cases hx
        rfl
      · have hn0 : (List.range n.toNatClampNeg)[k9]? = none := List.getElem?_eq_none (by rw [List.length_range]; omega)
        rw [hn0] at hx
        cases hx
    refine ⟨fun i j x y hi hj hxy => ?_, fun k9 x hx => ?_⟩
    · by_cases h1 : i < W1.length <;> by_cases h2 : j < W1.length
      · rw [List.getElem?_append_left h1] at hi
        rw [List.getElem?_append_left h2] at hj
        exact hD1.1 i j x y hi hj hxy
      · rw [List.getElem?_append_left h1] at hi
        rw [List.getElem?_append_right (by omega)] at hj
        have := hle _ _ hi
        have := hr _ _ hj
        omega
      · rw [List.getElem?_append_right (by omega)] at hi
        rw [List.getElem?_append_left h2] at hj
        have := hle _ _ hj
        have := hr _ _ hi
        omega
      · rw [List.getElem?_append_right (by omega)] at hi hj
        have := hr _ _ hi
        have := hr _ _ hj
        omega
    · by_cases h1 : k9 < W1.length
      · rw [List.getElem?_append_left h1] at hx
        exact hD1.2 k9 x hx
      · rw [List.getElem?_append_right (by omega)] at hx
        have := hr _ _ hx
        exact hA _ (by have := hS.1; omega)
  have hAr : ArrOfT s cA (.array ty) := fun N9 z9 => by
    obtain ⟨-, k9, hk9, cm9, hkk9⟩ := (hO 0 0 0).1
    exact ⟨(fun q hq => by cases hq), k9, hk9, cm9, hkk9⟩
  have hK2 : va_K D cl (tys ++ [(cA, .array ty)]) s := ⟨hK.1, fun k9 x hx => by
    by_cases hl : k9 < tys.length
    · rw [List.getElem?_append_left hl] at hx
      exact hK.2 k9 x hx
    · rw [List.getElem?_append_right (by omega)] at hx
      have h0 : k9 - tys.length < 1 := (List.getElem?_eq_some_iff.mp hx).1
      rw [show k9 - tys.length = 0 by omega] at hx
      cases hx
      exact ⟨hAr, fA⟩⟩
  obtain ⟨t, a1, b1⟩ := kk H.size (fun i => H.size + 1 + i) cA F.heap (fun i j _ _ h => by have h9 : H.size + 1 + i = H.size + 1 + j := h; omega) hnl hK2 (by rw [← vr_rows hnm]; exact vr_lay hP2) (by rw [← vr_rows hnm]; exact vr_layD hD2) ⟨by rw [f1]; have := hS.1; omega, fun x h1 h2 => (hold x (Nat.lt_of_lt_of_le h1 hS.1)).trans (hS.2.1 x h1 h2), hS.2.2⟩ F rfl X'
  refine ⟨t, step t ?_, b1⟩
  have e : T.heap.size = H.size := by rw [hT]
  rw [e]
  exact a1
end VGM
/-! ===== END ===== -/

/-! ===== BEGIN exceptions that leave a method, and their catching by the caller (launches without stack traces) ===== -/
section VXA
/-! The laws vx_back, vx_callV, vx_callS, vx_callSW, vx_throw0, vx_throwS follow proofs of the library, with one case more: JvmDerived/Free/Laws.lean (Back.of_free), Shelf42/LK1.lean (callV, callS), Shelf/KitTraced.lean (throwNew0V, throwNewS). -/
/-- where a method has thrown q: the class by its name, the cell, what was written, the world -/
def vx_T (XC : String → State → State → Prop) (st : State) (q : Addr) (t : State) (mc ms : Nat) (free : Addr → Prop) : Prop :=
  ∃ (E : String) (ce : Cell) (L : List Loc), XC E st t ∧ t.heap[q]? = some ce ∧ ce.vm = .none ∧ st.vm.findClass E = some ce.cls ∧ st.WarmedH t.vm ∧ st.sameButNew ({ t with vm := st.vm } : State) L mc ms ∧ ∀ z ∈ L, free z.base
def vx_Q (Qc : Array Value → State → Outcome → State → Prop) (XC : String → State → State → Prop) (mc ms : Nat) (free : Addr → Prop) : Array Value → State → Outcome → State → Prop := fun a st o t =>
  (Qc a st o t ∧ ∃ L, FrameEnd st o t L mc ms ∧ ∀ q ∈ L, free q.base) ∨ ∃ q, o = .threw q ∧ vx_T XC st q t mc ms free
/-- a callee that returns or throws -/
def vx_Met (l : Launch) (y : MethodName) (ws : List Cond) (rm : Room) (Pc : Array Value → State → Prop) (Qc : Array Value → State → Outcome → State → Prop) (XC : String → State → State → Prop) (mc ms : Nat) (free : Addr → Prop) : Prop :=
  MetFree l y (headSpec ws rm) Pc (fun _ _ _ _ _ => True) (vx_Q Qc XC mc ms free)
def vx_Post (XC : String → State → State → Prop) (mc ms : Nat) (free : Addr → Prop) : Pt → Array Value → Addr → Pt → Prop := fun A a q B =>
  ∃ (g : JFrame) (mk : MethodId) (t : State) (L : List Loc) (E : String) (ce : Cell), B.U.heap = t.heap ∧ B.U.vm = t.vm ∧ XC E (A.U.calling g mk a) t ∧ t.heap[q]? = some ce ∧ ce.vm = .none ∧ A.U.vm.findClass E = some ce.cls ∧ B.locs = A.locs ++ L ∧ (∀ z ∈ L, free z.base) ∧ B.cells = A.cells + mc ∧ B.slots = A.slots + ms
def vx_Back (l : Launch) (R : Room) (p : Program) (e : Env) (below : List Frame) (s : State) (sargs : Array Value) (y : MethodName) (len W9 : Nat)
    (Pre : Pt → Array Value → Prop) (Post : Pt → Array Value → Option Value → Pt → Prop) (PostX : Pt → Array Value → Addr → Pt → Prop) : Prop :=
  ∀ (m : MethodId) (meth : Method) (c : Code) (A : Pt) (g : JFrame) (ig : Instr) (mk : MethodId) (a : Array Value),
    Stand p l e R s m sargs below meth c A.U A.locs A.cells A.slots → g.method = m → g.locals.size = c.maxLocals → decode c.code g.pc = .ok (ig, len) →
    2 * g.monitorRoom + (g.stack.map fun v => v.category).sum ≤ W9 → A.U.methodNamed? y = some mk → Pre A a →
    (∃ (v : Option Value) (B : Pt), Stand p l e R s m sargs below meth c B.U B.locs B.cells B.slots ∧ Post A a v B ∧
      Steps p.tables e below (doInvoke e (A.U.setTop g) [] mk a).1 (B.U.setTop { g with pc := g.pc + len, stack := v.toList ++ g.stack })) ∨
    (∃ (q : Addr) (B : Pt), Stand p l e R s m sargs below meth c B.U B.locs B.cells B.slots ∧ PostX A a q B ∧
      Steps p.tables e below (doInvoke e (A.U.setTop g) [] mk a).1 ((B.U.setTop g).pushFrame (.throwing q)))
section Payer
variable {l : Launch} {R : Room} {p : Program} {e : Env} {below : List Frame} {s : State} {sargs : Array Value} {y : MethodName} {len W9 : Nat}
theorem vx_back {ws : List Cond} {rm : Room} {Pc : Array Value → State → Prop} {Qc : Array Value → State → Outcome → State → Prop} {XC : String → State → State → Prop} {mc ms : Nat} {free : Addr → Prop} {bytes : ByteArray} {maxL : Nat} {ret : Option FieldType}
    (hM : vx_Met l y ws rm Pc Qc XC mc ms free) (hblind : FrameBlind Pc) (hrc : rm.cells = mc) (hrs : rm.slots = ms)
    (hframes : rm.frames + 1 ≤ R.frames) (hlocals : W9 + (maxL + 11) + rm.locals ≤ R.locals)
    (hws : ∀ w ∈ ws, ∀ a' U, s.WarmedH U.vm → w.before a' U = true) (hcode : Cond.code y bytes maxL ret ∈ ws) (hinit : ∀ a' U, s.WarmedH U.vm → (Cond.initialized y.cls).before a' U = true) :
    vx_Back l R p e below s sargs y len W9 (PreOf R mc ms Pc) (PostOf Qc mc ms free) (vx_Post XC mc ms free) := by
  intro m meth c A g ig mk a X hg hsize hdg hW hn hp
  have h1 : (headSpec ws rm).pre.before a A.U = true := atoms_intro fun w hw => hws w hw _ _ X.warmed
  have h2 : (Cond.code y bytes maxL ret).before a A.U = true := hws _ hcode _ _ X.warmed
  have h3 : (Cond.initialized y.cls).before a A.U = true := hinit _ _ X.warmed
  have h4 : A.cells + (headSpec ws rm).room.cells ≤ R.cells := by rw [show (headSpec ws rm).room.cells = mc from hrc]; exact hp.1
  have h5 : A.slots + (headSpec ws rm).room.slots ≤ R.slots := by rw [show (headSpec ws rm).room.slots = ms from hrs]; exact hp.2.1
  have hPc : Pc a (A.U.calling g mk a) := hblind _ _ _ _ hp.2.2
  obtain ⟨U, Ls, c0, s0⟩ := A
  dsimp only [Pt.U, Pt.locs, Pt.cells, Pt.slots] at h1 h2 h3 h4 h5 X hn hPc ⊢
  obtain ⟨methY, cY, hmY, hcY, -, hlY, -, -, -, -⟩ := Cond.code_spec hn h2
  obtain ⟨kY, hkY, -⟩ := className_of_methodNamed hn
  have hinitY : kY.init = .initialized := Cond.initialized_spec (findClass_of_methodNamed hn) hkY h3
  have h : At U g.method c below := by rw [hg]; exact X.here
  have hlocals9 : W9 + (maxL + 11) + (headSpec ws rm).room.locals ≤ R.locals := hlocals
  have happ : (headSpec ws rm).appliesLoose y e.platform (U.calling g mk a) = true :=
    Spec.appliesLoose_calling (g := g) h hdg hn hkY hinitY
      (X.room_calling (g := g) (R' := (headSpec ws rm).room) hsize hmY hcY hframes (by rw [hlY]; omega) h4 h5) h1
  obtain ⟨mid, hmid⟩ := h.above
  have hfr : (U.setTop g).frames = (.java g :: mid) ++ below := by rw [State.frames_setTop' g h.top, hmid]; rfl
  obtain ⟨o, s₂, hsteps, -, hend, hq⟩ := Steps.callFree hM p X.admits X.cas X.clock (acts := []) hfr happ hPc trivial
  have hq' : vx_Q Qc XC mc ms free a (U.calling g mk a) o s₂ := hq
  rw [State.frames_setTop' g h.top] at hend
  obtain ⟨g₀, hg0⟩ := Option.isSome_iff_exists.mp h.top
  obtain ⟨r, hr⟩ := State.topJava?_eq_some.mp hg0
  have hr' : (({ U with heap := s₂.heap, slotsUsed := s₂.slotsUsed } : State).setVm s₂.vm).frames = .java g₀ :: r := hr
  rcases hq' with ⟨hqc, L, hfe, hL⟩ | ⟨q, rfl, E, ce, L, hx, hce, hcv, hcl, hW₂, hsm, hL⟩
  · obtain ⟨⟨v, rfl⟩, hW₂, e2, q2, q3, q4, q5, q6⟩ := id hfe
    have e3 : s₂ = ({ (U.calling g mk a).setFrames s₂.frames with heap := s₂.heap, slotsUsed := s₂.slotsUsed } : State).setVm s₂.vm := by
      have : s₂ = ({ s₂ with vm := (U.calling g mk a).vm } : State).setVm s₂.vm := rfl
      rw [e2] at this
      exact this
    obtain ⟨c₂, i₂, len₂, hc₂, hd₂, hf₂⟩ := hend
    have hW' : U.WarmedH s₂.vm := hW₂
    have hcc : c₂ = c := by
      have h1 : s₂.code? g.method = U.code? g.method := by
        rw [State.code?_eq, State.code?_eq, hW'.alike.method?]
      exact Option.some.inj (hc₂.symm.trans (h1.trans h.code))
    subst hcc
    have hlen : len₂ = len := by rw [hdg] at hd₂; cases hd₂; rfl
    subst hlen
    have hs₂ : s₂ = (({ U with heap := s₂.heap, slotsUsed := s₂.slotsUsed } : State).setVm s₂.vm).setTop { g with pc := g.pc + len₂, stack := v.toList ++ g.stack } := by
      refine e3.trans ?_
      rw [hf₂, State.calling_eq h.top, State.setFrames_setFrames, State.setTop_of_frames _ hr', hr]
      rfl
    have hsame : U.sameButNew ({ U with heap := s₂.heap, slotsUsed := s₂.slotsUsed } : State) L mc ms := by
      refine ⟨?_, q2, q3, q4, q5, q6⟩
      obtain ⟨t, ht, -⟩ := State.frames_cons hr
      show ({ U with heap := s₂.heap, slotsUsed := s₂.slotsUsed } : State) = { U.setFrames U.frames with heap := s₂.heap, slotsUsed := s₂.slotsUsed }
      rw [State.setFrames_self ht]
    subst hg
    refine Or.inl ⟨v, ⟨(({ U with heap := s₂.heap, slotsUsed := s₂.slotsUsed } : State).setVm s₂.vm), Ls ++ L, c0 + mc, s0 + ms⟩,
      ⟨X.admits, X.cas, X.clock, X.frames, X.room, X.hears, X.method, X.code, (X.here.setHeapUsed s₂.heap s₂.slotsUsed).setVm hW'.alike, X.tail, State.WarmedH.trans X.warmed hW', X.limits, X.bytes, X.same.trans (hsame.setVm s.vm)⟩,
      ⟨g, mk, s₂, L, rfl, rfl, hqc, rfl, hL, rfl, rfl⟩, ?_⟩
    show Steps p.tables e below _ ((({ U with heap := s₂.heap, slotsUsed := s₂.slotsUsed } : State).setVm s₂.vm).setTop { g with pc := g.pc + len₂, stack := v.toList ++ g.stack })
    rw [← hs₂]
    exact hsteps
  · obtain ⟨e2, q2, q3, q4, q5, q6⟩ := id hsm
    have e3 : s₂ = ({ (U.calling g mk a).setFrames s₂.frames with heap := s₂.heap, slotsUsed := s₂.slotsUsed } : State).setVm s₂.vm := by
      have : s₂ = ({ s₂ with vm := (U.calling g mk a).vm } : State).setVm s₂.vm := rfl
      rw [e2] at this
      exact this
    have hf₂ : s₂.frames = .throwing q :: .java g :: U.frames.tail := hend
    have hW' : U.WarmedH s₂.vm := hW₂
    have hs₂ : s₂ = ((({ U with heap := s₂.heap, slotsUsed := s₂.slotsUsed } : State).setVm s₂.vm).setTop g).pushFrame (.throwing q) := by
      refine e3.trans ?_
      rw [hf₂, State.calling_eq h.top, State.setFrames_setFrames, State.pushFrame, State.frames_setTop _ hr', State.setTop_of_frames _ hr', State.setFrames_setFrames, hr]
      rfl
    have hsame : U.sameButNew ({ U with heap := s₂.heap, slotsUsed := s₂.slotsUsed } : State) L mc ms := by
      refine ⟨?_, q2, q3, q4, q5, q6⟩
      obtain ⟨t, ht, -⟩ := State.frames_cons hr
      show ({ U with heap := s₂.heap, slotsUsed := s₂.slotsUsed } : State) = { U.setFrames U.frames with heap := s₂.heap, slotsUsed := s₂.slotsUsed }
      rw [State.setFrames_self ht]
    subst hg
    refine Or.inr ⟨q, ⟨(({ U with heap := s₂.heap, slotsUsed := s₂.slotsUsed } : State).setVm s₂.vm), Ls ++ L, c0 + mc, s0 + ms⟩,
      ⟨X.admits, X.cas, X.clock, X.frames, X.room, X.hears, X.method, X.code, (X.here.setHeapUsed s₂.heap s₂.slotsUsed).setVm hW'.alike, X.tail, State.WarmedH.trans X.warmed hW', X.limits, X.bytes, X.same.trans (hsame.setVm s.vm)⟩,
      ⟨g, mk, s₂, L, E, ce, rfl, rfl, hx, hce, hcv, hcl, rfl, hL, rfl, rfl⟩, ?_⟩
    show Steps p.tables e below _ (((({ U with heap := s₂.heap, slotsUsed := s₂.slotsUsed } : State).setVm s₂.vm).setTop g).pushFrame (.throwing q))
    rw [← hs₂]
    exact hsteps
end Payer
section Calls
variable {p : Program} {l : Launch} {e : Env} {R : Room} {s : State} {m : MethodId} {args : Array Value} {below : List Frame} {meth : Method} {c : Code} {T : State} {locs : List Loc} {cells slots : Nat}
theorem vx_callV (X : Stand p l e R s m args below meth c T locs cells slots) (hexec : p.tables.exec = Jvm.exec) {own C : String} {index : Nat} {y : MethodName} {bytes : ByteArray} {maxL : Nat} {ret : Option FieldType}
    (hown : s.vm.findClass own = some m.cls) (hlink : (Cond.methodLink own index y).before args s = true) (hinst : (Cond.instanceMethod y).before args s = true) (hsel : (Cond.selects C y y).before args s = true)
    (hcode : (Cond.code y bytes maxL ret).before args s = true) (hy : y.cls ≠ "java/lang/invoke/MethodHandle" ∧ y.cls ≠ "java/lang/invoke/VarHandle")
    {W9 : Nat} {Pre : Pt → Array Value → Prop} {Post : Pt → Array Value → Option Value → Pt → Prop} {PostX : Pt → Array Value → Addr → Pt → Prop} (hK : vx_Back l R p e below s args y 3 W9 Pre Post PostX)
    {b : Addr} {cellB : Cell} (hcell : T.heap[b]? = some cellB) (hobj : cellB.vm.isStatics = false) (hcls : s.vm.findClass C = some cellB.cls)
    {g : JFrame} (hg : g.method = m) (hsize : g.locals.size = c.maxLocals) {argsL rest : List Value} (hlen : ∀ sig, parseMethodDescriptor y.desc = some sig → argsL.length = sig.parameters.length)
    (hstack : g.stack = argsL.reverse ++ .ref b :: rest) (hW : 2 * g.monitorRoom + (rest.map fun v => v.category).sum ≤ W9) (hdg : decode c.code g.pc = .ok (.invokevirtual index, 3))
    (hpre : ∀ vm₁, s.WarmedH vm₁ → Pre ⟨T.setVm vm₁, locs, cells, slots⟩ (Value.ref b :: argsL).toArray) :
    (∃ (v : Option Value) (vm₁ : Vm) (B : Pt), s.WarmedH vm₁ ∧ Stand p l e R s m args below meth c B.U B.locs B.cells B.slots ∧ Post ⟨T.setVm vm₁, locs, cells, slots⟩ (Value.ref b :: argsL).toArray v B ∧
      ∀ target, Steps p.tables e below (B.U.setTop { g with pc := g.pc + 3, stack := v.toList ++ rest }) target → Steps p.tables e below (T.setTop g) target) ∨
    (∃ (q : Addr) (vm₁ : Vm) (B : Pt), s.WarmedH vm₁ ∧ Stand p l e R s m args below meth c B.U B.locs B.cells B.slots ∧ PostX ⟨T.setVm vm₁, locs, cells, slots⟩ (Value.ref b :: argsL).toArray q B ∧
      Steps p.tables e below (T.setTop g) ((B.U.setTop { g with stack := rest }).pushFrame (.throwing q))) := by
  obtain ⟨mk, methM, hnamed, hmethM, hstM, habM⟩ := Cond.instanceMethod_spec hinst
  obtain ⟨methM', cM, hmethM', -, -, -, -, -, -, hsigM⟩ := Cond.code_spec hnamed hcode
  cases hmethM.symm.trans hmethM'
  obtain ⟨c2, r2, m2, q1, q2, q3, q4, kP, hkP, hkPi⟩ := Cond.selects_spec hsel
  cases hcls.symm.trans q1
  cases (State.methodFound?_of_named hnamed hy).symm.trans q2
  cases hnamed.symm.trans q3
  have hselP : selectMethod e.platform s.vm cellB.cls mk = .method mk := by rw [Launch.admits_selectMethod X.admits]; exact q4
  obtain ⟨vm₁, X₁, hstep₁⟩ := X.invokevirtual hexec hown hlink hnamed hmethM hstM hkP hkPi hy (a := b) (cell := cellB) hcell
    (fun z h => by rw [h] at hobj; cases hobj) hselP hmethM habM hkP hkPi (g := g) hg (argsL := argsL) (rest := rest) (hlen _ hsigM) hstack hdg
  rcases hK m meth c ⟨T.setVm vm₁, locs, cells, slots⟩ { g with stack := rest } (.invokevirtual index) mk (Value.ref b :: argsL).toArray X₁ hg hsize hdg hW (X₁.named hnamed) (hpre vm₁ X₁.warmed) with ⟨v, B, X', hpost, hsteps⟩ | ⟨q, B, X', hpost, hsteps⟩
  · exact Or.inl ⟨v, vm₁, B, X₁.warmed, X', hpost, fun target h => hstep₁ _ fun acts => by rw [doInvoke_state]; exact hsteps.trans h⟩
  · exact Or.inr ⟨q, vm₁, B, X₁.warmed, X', hpost, hstep₁ _ fun acts => by rw [doInvoke_state]; exact hsteps⟩
theorem vx_callS (X : Stand p l e R s m args below meth c T locs cells slots) (hexec : p.tables.exec = Jvm.exec) {own : String} {index : Nat} {y : MethodName} {bytes : ByteArray} {maxL : Nat} {ret : Option FieldType}
    (hown : s.vm.findClass own = some m.cls) (hlink : (Cond.methodLink own index y).before args s = true) (hstat : (Cond.static y).before args s = true) (hinit : (Cond.initialized y.cls).before args s = true)
    (hcode : (Cond.code y bytes maxL ret).before args s = true) (hy : y.cls ≠ "java/lang/invoke/MethodHandle" ∧ y.cls ≠ "java/lang/invoke/VarHandle")
    {W9 : Nat} {Pre : Pt → Array Value → Prop} {Post : Pt → Array Value → Option Value → Pt → Prop} {PostX : Pt → Array Value → Addr → Pt → Prop} (hK : vx_Back l R p e below s args y 3 W9 Pre Post PostX)
    {g : JFrame} (hg : g.method = m) (hsize : g.locals.size = c.maxLocals) {argsL rest : List Value} (hlen : ∀ sig, parseMethodDescriptor y.desc = some sig → argsL.length = sig.parameters.length)
    (hstack : g.stack = argsL.reverse ++ rest) (hW : 2 * g.monitorRoom + (rest.map fun v => v.category).sum ≤ W9) (hdg : decode c.code g.pc = .ok (.invokestatic index, 3))
    (hpre : ∀ vm₁, s.WarmedH vm₁ → Pre ⟨T.setVm vm₁, locs, cells, slots⟩ argsL.toArray) :
    (∃ (v : Option Value) (vm₁ : Vm) (B : Pt), s.WarmedH vm₁ ∧ Stand p l e R s m args below meth c B.U B.locs B.cells B.slots ∧ Post ⟨T.setVm vm₁, locs, cells, slots⟩ argsL.toArray v B ∧
      ∀ target, Steps p.tables e below (B.U.setTop { g with pc := g.pc + 3, stack := v.toList ++ rest }) target → Steps p.tables e below (T.setTop g) target) ∨
    (∃ (q : Addr) (vm₁ : Vm) (B : Pt), s.WarmedH vm₁ ∧ Stand p l e R s m args below meth c B.U B.locs B.cells B.slots ∧ PostX ⟨T.setVm vm₁, locs, cells, slots⟩ argsL.toArray q B ∧
      Steps p.tables e below (T.setTop g) ((B.U.setTop { g with stack := rest }).pushFrame (.throwing q))) := by
  obtain ⟨mk, hnamed⟩ := Cond.code_named hcode
  obtain ⟨methM, cM, hmethM, -, -, -, -, -, -, hsigM⟩ := Cond.code_spec hnamed hcode
  have hstatic : methM.isStatic = true := Cond.static_spec hnamed hmethM hstat
  obtain ⟨kP, hkP, -⟩ := className_of_methodNamed hnamed
  have hinitP : kP.init = .initialized := Cond.initialized_spec (findClass_of_methodNamed hnamed) hkP hinit
  obtain ⟨vm₁, X₁, hstep₁⟩ := X.invokestatic hexec hown hlink hnamed hmethM hstatic hkP hinitP hy (g := g) hg (argsL := argsL) (rest := rest) (hlen _ hsigM) hstack hdg
  rcases hK m meth c ⟨T.setVm vm₁, locs, cells, slots⟩ { g with stack := rest } (.invokestatic index) mk argsL.toArray X₁ hg hsize hdg hW (X₁.named hnamed) (hpre vm₁ X₁.warmed) with ⟨v, B, X', hpost, hsteps⟩ | ⟨q, B, X', hpost, hsteps⟩
  · exact Or.inl ⟨v, vm₁, B, X₁.warmed, X', hpost, fun target h => hstep₁ _ fun acts => by rw [doInvoke_state]; exact hsteps.trans h⟩
  · exact Or.inr ⟨q, vm₁, B, X₁.warmed, X', hpost, hstep₁ _ fun acts => by rw [doInvoke_state]; exact hsteps⟩
end Calls
theorem vx_cls {s : State} {T : State} {vm₁ : Vm} {E : String} {k : ClassId} (hW : s.WarmedH vm₁) (h : (T.setVm vm₁).vm.findClass E = some k) : s.vm.findClass E = some k := by
  have h1 : vm₁.findClass E = some k := h
  rw [hW.alike.findClass] at h1
  exact h1
/-- the method's frame g, with q thrown over it -/
def vx_W (p : Program) (l : Launch) (e : Env) (R : Room) (s : State) (m : MethodId) (args : Array Value) (below : List Frame) (meth : Method) (c : Code) (H : Heap) (locs : List Loc) (cells slots : Nat) (Q : State → Prop) (g : JFrame) (q : Addr) : Prop :=
  ∀ T : State, T.heap = H → Stand p l e R s m args below meth c T locs cells slots → ∃ t, Steps p.tables e below ((T.setTop g).pushFrame (.throwing q)) t ∧ Q t
def vx_Run (p : Program) (l : Launch) (e : Env) (R : Room) (s : State) (m : MethodId) (args : Array Value) (below : List Frame) (meth : Method) (c : Code) (H : Heap) (locs : List Loc) (cells slots mc ms : Nat) (g : JFrame) (rest : List Value) (Qa : State → Outcome → State → Prop) (XC : String → State → State → Prop) (free : Addr → Prop) : Prop :=
  ∀ T : State, T.heap = H → Stand p l e R s m args below meth c T locs cells slots →
    (∃ (v : Option Value) (st₀ t T' : State) (L : List Loc), st₀.heap = H ∧ Stand p l e R s m args below meth c T' (locs ++ L) (cells + mc) (slots + ms) ∧ (∀ q ∈ L, free q.base) ∧ T'.heap = t.heap ∧ T'.vm = t.vm ∧ Qa st₀ (.returned v) t ∧
      Goes p e below T g T' { g with pc := g.pc + 3, stack := v.toList ++ rest }) ∨
    (∃ (q : Addr) (st₀ t T' : State) (L : List Loc) (E : String) (ce : Cell), st₀.heap = H ∧ Stand p l e R s m args below meth c T' (locs ++ L) (cells + mc) (slots + ms) ∧ (∀ z ∈ L, free z.base) ∧ T'.heap = t.heap ∧ T'.vm = t.vm ∧ XC E st₀ t ∧ t.heap[q]? = some ce ∧ ce.vm = .none ∧ s.vm.findClass E = some ce.cls ∧
      Steps p.tables e below (T.setTop g) ((T'.setTop { g with stack := rest }).pushFrame (.throwing q)))
def vx_X {S : Type} (px : S → Prop) (B : String → S → State → Prop) (A : Nat → Prop) : String → State → State → Prop := fun E st t => ∃ u : S, px u ∧ B E u t ∧ va_F A st t
section Runs
variable {p : Program} {l : Launch} {e : Env} {R : Room} {s : State} {m : MethodId} {args : Array Value} {below : List Frame} {meth : Method} {c : Code} {H : Heap} {locs : List Loc} {cells slots : Nat}
variable {y : MethodName} {bytes cc : ByteArray} {maxL nL mc ms n index : Nat} {ret : Option FieldType} {ws : List Cond} {rm : Room} {Pc : Array Value → State → Prop} {Qc : Array Value → State → Outcome → State → Prop} {XC : String → State → State → Prop} {free : Addr → Prop} {Ts : List Cond} {own C : String} {b : Addr} {As rest : List Value} {g : JFrame}
theorem vx_callBack (cb : CallB R s args own index y bytes maxL ret ws rm mc ms n) (hM : vx_Met l y ws rm Pc Qc XC mc ms free) (hbl : FrameBlind Pc) : vx_Back l R p e below s args y 3 8 (PreOf R mc ms Pc) (PostOf Qc mc ms free) (vx_Post XC mc ms free) := by
  obtain ⟨hrc, hrs, hfr, hlo, hws, hcw, -, hini, -⟩ := cb
  exact vx_back (bytes := bytes) (maxL := maxL) (ret := ret) hM hbl hrc hrs hfr hlo hws hcw (fun a' U hW => word_at hW (Or.inl (by first | rfl | simp [Cond.onTables, Cond.keeps, Cond.steady])) hini)
theorem vx_runV (S : CallFix p m c cc nL s args Ts own) (hM : vx_Met l y ws rm Pc Qc XC mc ms free) (cw : CallW R s args own C index y bytes maxL ret ws rm mc ms n) (hp : PreV s H C b Pc As)
    (hg : g.method = m) (hn : As.length = n) (hsize : g.locals.size = nL) (hstack : g.stack = As.reverse ++ .ref b :: rest) (hW : 2 * g.monitorRoom + (rest.map fun v => v.category).sum ≤ 8) (hdg : decode cc g.pc = .ok (.invokevirtual index, 3)) (hf : cells + mc ≤ R.cells ∧ slots + ms ≤ R.slots) :
    vx_Run p l e R s m args below meth c H locs cells slots mc ms g rest (Qc (Value.ref b :: As).toArray) XC free := by
  have hK : vx_Back l R p e below s args y 3 8 (PreOf R mc ms Pc) (PostOf Qc mc ms free) (vx_Post XC mc ms free) := vx_callBack cw.1 hM hp.1
  obtain ⟨⟨-, -, -, -, -, -, hcode, -, hy, hlen, hl⟩, hin, hse⟩ := cw
  obtain ⟨hx, hb, hml, ho, -⟩ := S
  obtain ⟨-, ⟨cellB, hcB, hoB, hclB⟩, hPc⟩ := hp
  intro T hT X
  rcases vx_callV X hx (C := C) (bytes := bytes) (maxL := maxL) (ret := ret) ho hl hin hse hcode hy hK (by rw [hT]; exact hcB) hoB hclB hg (hsize.trans hml.symm) (argsL := As) (rest := rest) (fun sig h => hn.trans (hlen sig h)) hstack hW (by rw [hb]; exact hdg)
    (fun vm₁ hW₁ => ⟨hf.1, hf.2, hPc (T.setVm vm₁) hT hW₁⟩) with ⟨v, vm₁, ⟨U', l2, c2, s2⟩, hW₁, X', ⟨g', mk, t, L, e1, e2, hq, h1, hL, h2, h3⟩, st⟩ | ⟨q, vm₁, ⟨U', l2, c2, s2⟩, hW₁, X', ⟨g', mk, t, L, E, ce, e1, e2, hq, hce, hcv, hcl, h1, hL, h2, h3⟩, st⟩
  · dsimp only [Pt.U, Pt.locs, Pt.cells, Pt.slots] at X' e1 e2 h1 h2 h3 st
    subst h1; subst h2; subst h3
    exact Or.inl ⟨v, (T.setVm vm₁).calling g' mk (Value.ref b :: As).toArray, t, U', L, hT, X', hL, e1, e2, hq, st⟩
  · dsimp only [Pt.U, Pt.locs, Pt.cells, Pt.slots] at X' e1 e2 h1 h2 h3 st hcl
    subst h1; subst h2; subst h3
    exact Or.inr ⟨q, (T.setVm vm₁).calling g' mk (Value.ref b :: As).toArray, t, U', L, E, ce, hT, X', hL, e1, e2, hq, hce, hcv, vx_cls hW₁ hcl, st⟩
theorem vx_runS (S : CallFix p m c cc nL s args Ts own) (hM : vx_Met l y ws rm Pc Qc XC mc ms free) (cw : CallB R s args own index y bytes maxL ret ws rm mc ms n ∧ (Cond.static y).before args s = true) (hp : PreS s H Pc As)
    (hg : g.method = m) (hn : As.length = n) (hsize : g.locals.size = nL) (hstack : g.stack = As.reverse ++ rest) (hW : 2 * g.monitorRoom + (rest.map fun v => v.category).sum ≤ 8) (hdg : decode cc g.pc = .ok (.invokestatic index, 3)) (hf : cells + mc ≤ R.cells ∧ slots + ms ≤ R.slots) :
    vx_Run p l e R s m args below meth c H locs cells slots mc ms g rest (Qc As.toArray) XC free := by
  have hK : vx_Back l R p e below s args y 3 8 (PreOf R mc ms Pc) (PostOf Qc mc ms free) (vx_Post XC mc ms free) := vx_callBack cw.1 hM hp.1
  obtain ⟨⟨-, -, -, -, -, -, hcode, hini, hy, hlen, hl⟩, hstt⟩ := cw
  obtain ⟨hx, hb, hml, ho, -⟩ := S
  intro T hT X
  rcases vx_callS X hx (bytes := bytes) (maxL := maxL) (ret := ret) ho hl hstt hini hcode hy hK hg (hsize.trans hml.symm) (argsL := As) (rest := rest) (fun sig h => hn.trans (hlen sig h)) hstack hW (by rw [hb]; exact hdg)
    (fun vm₁ hW₁ => ⟨hf.1, hf.2, hp.2 (T.setVm vm₁) hT hW₁⟩) with ⟨v, vm₁, ⟨U', l2, c2, s2⟩, hW₁, X', ⟨g', mk, t, L, e1, e2, hq, h1, hL, h2, h3⟩, st⟩ | ⟨q, vm₁, ⟨U', l2, c2, s2⟩, hW₁, X', ⟨g', mk, t, L, E, ce, e1, e2, hq, hce, hcv, hcl, h1, hL, h2, h3⟩, st⟩
  · dsimp only [Pt.U, Pt.locs, Pt.cells, Pt.slots] at X' e1 e2 h1 h2 h3 st
    subst h1; subst h2; subst h3
    exact Or.inl ⟨v, (T.setVm vm₁).calling g' mk As.toArray, t, U', L, hT, X', hL, e1, e2, hq, st⟩
  · dsimp only [Pt.U, Pt.locs, Pt.cells, Pt.slots] at X' e1 e2 h1 h2 h3 st hcl
    subst h1; subst h2; subst h3
    exact Or.inr ⟨q, (T.setVm vm₁).calling g' mk As.toArray, t, U', L, E, ce, hT, X', hL, e1, e2, hq, hce, hcv, vx_cls hW₁ hcl, st⟩
end Runs
section Rows
variable {p : Program} {l : Launch} {e : Env} {R : Room} {s : State} {m : MethodId} {args : Array Value} {below : List Frame} {meth : Method} {c : Code} {H : Heap} {locs : List Loc} {cells slots : Nat} {Q : State → Prop}
variable {mc ms : Nat} {free : Addr → Prop} {A0 A1 : Nat → Prop} {H0 : Heap} {a : Array Value} {pc : Nat} {ls : Array Slot} {st0 rest : List Value}
theorem vx_keep {st₀ t T' : State} {L : List Loc} (h0 : st₀.heap = H) (e1 : T'.heap = t.heap) (hS : va_S A0 H0 H locs) (hA : ∀ q, q < H.size → A1 q → A0 q) (hf : ∀ q, free q → A0 q) (hL : ∀ q ∈ L, free q.base) (hF : va_F A1 st₀ t) :
    H.size ≤ T'.heap.size ∧ (∀ q : Nat, q < H.size → ¬ A1 q → T'.heap[q]? = H[q]?) ∧ va_S A0 H0 T'.heap (locs ++ L) := by
  obtain ⟨hz, hk⟩ := hF
  rw [h0] at hz hk
  exact ⟨by rw [e1]; exact hz, fun q h1 h2 => by rw [e1]; exact hk q h1 h2,
    ⟨Nat.le_trans hS.1 (by rw [e1]; exact hz), fun q h1 h2 => by rw [e1, hk q (Nat.lt_of_lt_of_le h1 hS.1) (fun z => h2 (hA q (Nat.lt_of_lt_of_le h1 hS.1) z))]; exact hS.2.1 q h1 h2, fun q hq => by
      rcases List.mem_append.mp hq with h | h
      · exact hS.2.2 q h
      · exact hf _ (hL q h)⟩⟩
theorem vx_calli {S SX : Type} {post : Int32 → S → Prop} {px : SX → Prop} {B : S → State → Prop} {BX : String → SX → State → Prop} {AX : Nat → Prop} (hr : vx_Run p l e R s m args below meth c H locs cells slots mc ms (F0 m pc ls st0) rest (va_Qi post B A1 a) (vx_X px BX AX) free) (hS : va_S A0 H0 H locs) (hA : ∀ q, q < H.size → A1 q → A0 q) (hf : ∀ q, free q → A0 q) (hAX : ∀ q, q < H.size → AX q → A0 q)
    (kx : ∀ (E : String) (ce : Cell) (q9 : Addr) (u : SX) (t : State) (H1 : Heap) (locs1 : List Loc), t.heap = H1 → s.vm.Alike t.vm → px u → BX E u t → H.size ≤ H1.size → (∀ q : Nat, q < H.size → ¬ AX q → H1[q]? = H[q]?) → va_S A0 H0 H1 locs1 → H1[q9]? = some ce → ce.vm = .none → s.vm.findClass E = some ce.cls → vx_W p l e R s m args below meth c H1 locs1 (cells + mc) (slots + ms) Q (F0 m pc ls rest) q9)
    (kk : ∀ (r : Int32) (u : S) (t : State) (H1 : Heap) (locs1 : List Loc), t.heap = H1 → s.vm.Alike t.vm → post r u → B u t → H.size ≤ H1.size → (∀ q : Nat, q < H.size → ¬ A1 q → H1[q]? = H[q]?) → va_S A0 H0 H1 locs1 → W p l e R s m args below meth c H1 locs1 (cells + mc) (slots + ms) Q (F0 m (pc + 3) ls (.int r :: rest))) : W p l e R s m args below meth c H locs cells slots Q (F0 m pc ls st0) := by
  intro T hT X
  rcases hr T hT X with ⟨v, st₀, t, T', L, h0, X', hL, e1, e2, ⟨⟨r, u, hv, hp, hb⟩, hF⟩, st⟩ | ⟨q, st₀, t, T', L, E, ce, h0, X', hL, e1, e2, ⟨u, hp, hb, hF⟩, hce, hcv, hcl, st⟩
  · cases hv
    obtain ⟨k1, k2, k3⟩ := vx_keep h0 e1 hS hA hf hL hF
    obtain ⟨t2, a1, b1⟩ := kk r u t T'.heap (locs ++ L) e1.symm (by rw [← e2]; exact X'.warmed.alike) hp hb k1 k2 k3 T' rfl X'
    exact ⟨t2, st t2 a1, b1⟩
  · obtain ⟨k1, k2, k3⟩ := vx_keep h0 e1 hS hAX hf hL hF
    obtain ⟨t2, a1, b1⟩ := kx E ce q u t T'.heap (locs ++ L) e1.symm (by rw [← e2]; exact X'.warmed.alike) hp hb k1 k2 k3 (by rw [e1]; exact hce) hcv hcl T' rfl X'
    exact ⟨t2, st.trans a1, b1⟩
theorem vx_calll {S SX : Type} {post : Int64 → S → Prop} {px : SX → Prop} {B : S → State → Prop} {BX : String → SX → State → Prop} {AX : Nat → Prop} (hr : vx_Run p l e R s m args below meth c H locs cells slots mc ms (F0 m pc ls st0) rest (va_Ql post B A1 a) (vx_X px BX AX) free) (hS : va_S A0 H0 H locs) (hA : ∀ q, q < H.size → A1 q → A0 q) (hf : ∀ q, free q → A0 q) (hAX : ∀ q, q < H.size → AX q → A0 q)
    (kx : ∀ (E : String) (ce : Cell) (q9 : Addr) (u : SX) (t : State) (H1 : Heap) (locs1 : List Loc), t.heap = H1 → s.vm.Alike t.vm → px u → BX E u t → H.size ≤ H1.size → (∀ q : Nat, q < H.size → ¬ AX q → H1[q]? = H[q]?) → va_S A0 H0 H1 locs1 → H1[q9]? = some ce → ce.vm = .none → s.vm.findClass E = some ce.cls → vx_W p l e R s m args below meth c H1 locs1 (cells + mc) (slots + ms) Q (F0 m pc ls rest) q9)
    (kk : ∀ (r : Int64) (u : S) (t : State) (H1 : Heap) (locs1 : List Loc), t.heap = H1 → s.vm.Alike t.vm → post r u → B u t → H.size ≤ H1.size → (∀ q : Nat, q < H.size → ¬ A1 q → H1[q]? = H[q]?) → va_S A0 H0 H1 locs1 → W p l e R s m args below meth c H1 locs1 (cells + mc) (slots + ms) Q (F0 m (pc + 3) ls (.long r :: rest))) : W p l e R s m args below meth c H locs cells slots Q (F0 m pc ls st0) := by
  intro T hT X
  rcases hr T hT X with ⟨v, st₀, t, T', L, h0, X', hL, e1, e2, ⟨⟨r, u, hv, hp, hb⟩, hF⟩, st⟩ | ⟨q, st₀, t, T', L, E, ce, h0, X', hL, e1, e2, ⟨u, hp, hb, hF⟩, hce, hcv, hcl, st⟩
  · cases hv
    obtain ⟨k1, k2, k3⟩ := vx_keep h0 e1 hS hA hf hL hF
    obtain ⟨t2, a1, b1⟩ := kk r u t T'.heap (locs ++ L) e1.symm (by rw [← e2]; exact X'.warmed.alike) hp hb k1 k2 k3 T' rfl X'
    exact ⟨t2, st t2 a1, b1⟩
  · obtain ⟨k1, k2, k3⟩ := vx_keep h0 e1 hS hAX hf hL hF
    obtain ⟨t2, a1, b1⟩ := kx E ce q u t T'.heap (locs ++ L) e1.symm (by rw [← e2]; exact X'.warmed.alike) hp hb k1 k2 k3 (by rw [e1]; exact hce) hcv hcl T' rfl X'
    exact ⟨t2, st.trans a1, b1⟩
theorem vx_callf {S SX : Type} {post : UInt32 → S → Prop} {px : SX → Prop} {B : S → State → Prop} {BX : String → SX → State → Prop} {AX : Nat → Prop} (hr : vx_Run p l e R s m args below meth c H locs cells slots mc ms (F0 m pc ls st0) rest (va_Qf post B A1 a) (vx_X px BX AX) free) (hS : va_S A0 H0 H locs) (hA : ∀ q, q < H.size → A1 q → A0 q) (hf : ∀ q, free q → A0 q) (hAX : ∀ q, q < H.size → AX q → A0 q)
    (kx : ∀ (E : String) (ce : Cell) (q9 : Addr) (u : SX) (t : State) (H1 : Heap) (locs1 : List Loc), t.heap = H1 → s.vm.Alike t.vm → px u → BX E u t → H.size ≤ H1.size → (∀ q : Nat, q < H.size → ¬ AX q → H1[q]? = H[q]?) → va_S A0 H0 H1 locs1 → H1[q9]? = some ce → ce.vm = .none → s.vm.findClass E = some ce.cls → vx_W p l e R s m args below meth c H1 locs1 (cells + mc) (slots + ms) Q (F0 m pc ls rest) q9)
    (kk : ∀ (r : UInt32) (u : S) (t : State) (H1 : Heap) (locs1 : List Loc), t.heap = H1 → s.vm.Alike t.vm → post r u → B u t → H.size ≤ H1.size → (∀ q : Nat, q < H.size → ¬ A1 q → H1[q]? = H[q]?) → va_S A0 H0 H1 locs1 → W p l e R s m args below meth c H1 locs1 (cells + mc) (slots + ms) Q (F0 m (pc + 3) ls (.float r :: rest))) : W p l e R s m args below meth c H locs cells slots Q (F0 m pc ls st0) := by
  intro T hT X
  rcases hr T hT X with ⟨v, st₀, t, T', L, h0, X', hL, e1, e2, ⟨⟨r, u, hv, hp, hb⟩, hF⟩, st⟩ | ⟨q, st₀, t, T', L, E, ce, h0, X', hL, e1, e2, ⟨u, hp, hb, hF⟩, hce, hcv, hcl, st⟩
  · cases hv
    obtain ⟨k1, k2, k3⟩ := vx_keep h0 e1 hS hA hf hL hF
    obtain ⟨t2, a1, b1⟩ := kk r u t T'.heap (locs ++ L) e1.symm (by rw [← e2]; exact X'.warmed.alike) hp hb k1 k2 k3 T' rfl X'
    exact ⟨t2, st t2 a1, b1⟩
  · obtain ⟨k1, k2, k3⟩ := vx_keep h0 e1 hS hAX hf hL hF
    obtain ⟨t2, a1, b1⟩ := kx E ce q u t T'.heap (locs ++ L) e1.symm (by rw [← e2]; exact X'.warmed.alike) hp hb k1 k2 k3 (by rw [e1]; exact hce) hcv hcl T' rfl X'
    exact ⟨t2, st.trans a1, b1⟩
theorem vx_calld {S SX : Type} {post : UInt64 → S → Prop} {px : SX → Prop} {B : S → State → Prop} {BX : String → SX → State → Prop} {AX : Nat → Prop} (hr : vx_Run p l e R s m args below meth c H locs cells slots mc ms (F0 m pc ls st0) rest (va_Qd post B A1 a) (vx_X px BX AX) free) (hS : va_S A0 H0 H locs) (hA : ∀ q, q < H.size → A1 q → A0 q) (hf : ∀ q, free q → A0 q) (hAX : ∀ q, q < H.size → AX q → A0 q)
    (kx : ∀ (E : String) (ce : Cell) (q9 : Addr) (u : SX) (t : State) (H1 : Heap) (locs1 : List Loc), t.heap = H1 → s.vm.Alike t.vm → px u → BX E u t → H.size ≤ H1.size → (∀ q : Nat, q < H.size → ¬ AX q → H1[q]? = H[q]?) → va_S A0 H0 H1 locs1 → H1[q9]? = some ce → ce.vm = .none → s.vm.findClass E = some ce.cls → vx_W p l e R s m args below meth c H1 locs1 (cells + mc) (slots + ms) Q (F0 m pc ls rest) q9)
    (kk : ∀ (r : UInt64) (u : S) (t : State) (H1 : Heap) (locs1 : List Loc), t.heap = H1 → s.vm.Alike t.vm → post r u → B u t → H.size ≤ H1.size → (∀ q : Nat, q < H.size → ¬ A1 q → H1[q]? = H[q]?) → va_S A0 H0 H1 locs1 → W p l e R s m args below meth c H1 locs1 (cells + mc) (slots + ms) Q (F0 m (pc + 3) ls (.double r :: rest))) : W p l e R s m args below meth c H locs cells slots Q (F0 m pc ls st0) := by
  intro T hT X
  rcases hr T hT X with ⟨v, st₀, t, T', L, h0, X', hL, e1, e2, ⟨⟨r, u, hv, hp, hb⟩, hF⟩, st⟩ | ⟨q, st₀, t, T', L, E, ce, h0, X', hL, e1, e2, ⟨u, hp, hb, hF⟩, hce, hcv, hcl, st⟩
  · cases hv
    obtain ⟨k1, k2, k3⟩ := vx_keep h0 e1 hS hA hf hL hF
    obtain ⟨t2, a1, b1⟩ := kk r u t T'.heap (locs ++ L) e1.symm (by rw [← e2]; exact X'.warmed.alike) hp hb k1 k2 k3 T' rfl X'
    exact ⟨t2, st t2 a1, b1⟩
  · obtain ⟨k1, k2, k3⟩ := vx_keep h0 e1 hS hAX hf hL hF
    obtain ⟨t2, a1, b1⟩ := kx E ce q u t T'.heap (locs ++ L) e1.symm (by rw [← e2]; exact X'.warmed.alike) hp hb k1 k2 k3 (by rw [e1]; exact hce) hcv hcl T' rfl X'
    exact ⟨t2, st.trans a1, b1⟩
theorem vx_callv {S SX : Type} {post : S → Prop} {px : SX → Prop} {B : S → State → Prop} {BX : String → SX → State → Prop} {AX : Nat → Prop} (hr : vx_Run p l e R s m args below meth c H locs cells slots mc ms (F0 m pc ls st0) rest (va_Qv post B A1 a) (vx_X px BX AX) free) (hS : va_S A0 H0 H locs) (hA : ∀ q, q < H.size → A1 q → A0 q) (hf : ∀ q, free q → A0 q) (hAX : ∀ q, q < H.size → AX q → A0 q)
    (kx : ∀ (E : String) (ce : Cell) (q9 : Addr) (u : SX) (t : State) (H1 : Heap) (locs1 : List Loc), t.heap = H1 → s.vm.Alike t.vm → px u → BX E u t → H.size ≤ H1.size → (∀ q : Nat, q < H.size → ¬ AX q → H1[q]? = H[q]?) → va_S A0 H0 H1 locs1 → H1[q9]? = some ce → ce.vm = .none → s.vm.findClass E = some ce.cls → vx_W p l e R s m args below meth c H1 locs1 (cells + mc) (slots + ms) Q (F0 m pc ls rest) q9)
    (kk : ∀ (u : S) (t : State) (H1 : Heap) (locs1 : List Loc), t.heap = H1 → s.vm.Alike t.vm → post u → B u t → H.size ≤ H1.size → (∀ q : Nat, q < H.size → ¬ A1 q → H1[q]? = H[q]?) → va_S A0 H0 H1 locs1 → W p l e R s m args below meth c H1 locs1 (cells + mc) (slots + ms) Q (F0 m (pc + 3) ls (rest))) : W p l e R s m args below meth c H locs cells slots Q (F0 m pc ls st0) := by
  intro T hT X
  rcases hr T hT X with ⟨v, st₀, t, T', L, h0, X', hL, e1, e2, ⟨⟨u, hv, hp, hb⟩, hF⟩, st⟩ | ⟨q, st₀, t, T', L, E, ce, h0, X', hL, e1, e2, ⟨u, hp, hb, hF⟩, hce, hcv, hcl, st⟩
  · cases hv
    obtain ⟨k1, k2, k3⟩ := vx_keep h0 e1 hS hA hf hL hF
    obtain ⟨t2, a1, b1⟩ := kk u t T'.heap (locs ++ L) e1.symm (by rw [← e2]; exact X'.warmed.alike) hp hb k1 k2 k3 T' rfl X'
    exact ⟨t2, st t2 a1, b1⟩
  · obtain ⟨k1, k2, k3⟩ := vx_keep h0 e1 hS hAX hf hL hF
    obtain ⟨t2, a1, b1⟩ := kx E ce q u t T'.heap (locs ++ L) e1.symm (by rw [← e2]; exact X'.warmed.alike) hp hb k1 k2 k3 (by rw [e1]; exact hce) hcv hcl T' rfl X'
    exact ⟨t2, st.trans a1, b1⟩
/-- caught by the row x of this method's table; the rows ahead don't take it -/
theorem vx_catch {own name : String} {E : String} {ce : Cell} {q : Addr} (hown : s.vm.findClass own = some m.cls) (pre : List ExceptionTableEntry) (x : ExceptionTableEntry) (suf : List ExceptionTableEntry) (hsplit : c.exceptionTable.toList = pre ++ x :: suf)
    (hpass : ∀ z ∈ pre, covers z pc = false ∨ (z.catchType ≠ 0 ∧ ∃ nm : String, (Cond.classLink own z.catchType nm).before args s = true ∧ va_Nc E nm s)) (hx : covers x pc = true) (h0 : x.catchType ≠ 0)
    (hlink : (Cond.classLink own x.catchType name).before args s = true) (hcast : (Cond.castable E name).before args s = true) (hcell : H[q]? = some ce) (hv : ce.vm = .none) (hcl : s.vm.findClass E = some ce.cls)
    (kk : W p l e R s m args below meth c H locs cells slots Q (F0 m x.handlerPc ls [.ref q])) : vx_W p l e R s m args below meth c H locs cells slots Q (F0 m pc ls rest) q := by
  intro T hT X
  have hpl : e.platform.magicAccessors = ({} : Platform).magicAccessors := by rw [X.admits.platform]
  obtain ⟨c3, c4, hc3, hc4, hasg⟩ := Cond.castable_spec hcast
  cases Option.some.inj (hc3.symm.trans hcl)
  obtain ⟨c5, hc5, hcl5⟩ := Cond.classLink_spec hown hlink e.platform hpl
  cases Option.some.inj (hc4.symm.trans hc5)
  obtain ⟨vm', X', st⟩ := X.thenCaughtThrough q (g := F0 m pc ls rest) rfl (Steps.refl _) (by rw [hT]; exact hcell) (by rw [hv]; rfl) (by obtain ⟨k9, h9, -⟩ := Vm.findClass_spec hcl; exact ⟨k9, h9⟩) pre x suf hsplit
    (fun z hz => by
      rcases hpass z hz with h | ⟨hz0, nm, hl1, hn1⟩
      · exact Or.inl h
      · obtain ⟨c6, hc6, hcl6⟩ := Cond.classLink_spec hown hl1 e.platform hpl
        obtain ⟨a8, b8, h1, h2, h3⟩ := hn1
        cases Option.some.inj (h1.symm.trans hcl)
        cases Option.some.inj (h2.symm.trans hc6)
        exact Or.inr ⟨hz0, _, hcl6, h3⟩) hx (Or.inr ⟨h0, c4, hcl5, hasg⟩)
  obtain ⟨t, a1, b1⟩ := kk (T.setVm vm') hT X'
  exact ⟨t, st.trans a1, b1⟩
end Rows
section Ends
variable {p : Program} {l : Launch} {e : Env} {R : Room} {s : State} {m : MethodId} {args : Array Value} {below : List Frame} {meth : Method} {c : Code} {H : Heap} {locs : List Loc} {cells slots : Nat} {Q : State → Prop}
variable {mc ms : Nat} {free : Addr → Prop} {A0 A1 : Nat → Prop} {H0 : Heap} {a : Array Value} {ls : Array Slot} {st0 rest : List Value}
variable {Qc : Array Value → State → Outcome → State → Prop} {XC : String → State → State → Prop}
/-- what a body that may throw owes at its end -/
def vx_MQ (below : List Frame) (Qc : Array Value → State → Outcome → State → Prop) (XC : String → State → State → Prop) (a : Array Value) (s : State) (mc ms : Nat) (free : Addr → Prop) : State → Prop := fun t =>
  ∃ o, t.status = .running ∧ Ended t below o ∧ vx_Q Qc XC mc ms free a s o t
theorem vx_ret {g : JFrame} {mc ms : Nat} (k : W p l e R s m args below meth c H locs cells slots (MQ below Qc args s mc ms free) g) : W p l e R s m args below meth c H locs cells slots (vx_MQ below Qc XC args s mc ms free) g := by
  intro T hT X
  obtain ⟨t, a1, o, b1, b2, b3, b4⟩ := k T hT X
  exact ⟨t, a1, o, b1, b2, Or.inl ⟨b3, b4⟩⟩
/-- not caught here: it goes on to the caller -/
theorem vx_widen {g : JFrame} {q : Addr} {k n : Nat} (h1 : cells ≤ k) (h2 : slots ≤ n) (kk : vx_W p l e R s m args below meth c H locs k n Q g q) : vx_W p l e R s m args below meth c H locs cells slots Q g q := fun T hT X => kk T hT (stand_widen X h1 h2)
theorem vx_out {pc : Nat} {E : String} {ce : Cell} {q : Addr} {mc ms : Nat} (hout : ∀ x ∈ c.exceptionTable.toList, covers x pc = false) (hlocks : meth.locks = false) (hcell : H[q]? = some ce) (hv : ce.vm = .none) (hcl : s.vm.findClass E = some ce.cls)
    (hx : ∀ t : State, t.heap = H → s.vm.Alike t.vm → XC E s t) (hf : ∀ z ∈ locs, free z.base) (hc : cells ≤ mc) (hs : slots ≤ ms) :
    vx_W p l e R s m args below meth c H locs cells slots (vx_MQ below Qc XC args s mc ms free) (F0 m pc ls rest) q := by
  intro T hT X
  obtain ⟨st1, hrun, hend, hW, hsm⟩ := X.leaveThrown q (g := F0 m pc ls rest) rfl rfl rfl hout hlocks
  have hcell9 : (T.setFrames (.throwing q :: below)).heap[q]? = some ce := by
    show T.heap[q]? = some ce
    rw [hT]; exact hcell
  exact ⟨_, st1, .threw q, hrun, hend, Or.inr ⟨q, rfl, E, ce, locs, hx _ hT hW.alike, hcell9, hv, hcl, hW, hsm.mono hc hs, hf⟩⟩
theorem vx_frame {U : State} {k n : Nat} (h : s.sameButNew ({ U with vm := s.vm } : State) locs k n) : s.heap.size ≤ U.heap.size ∧ ∀ q : Nat, q < s.heap.size → (∀ z ∈ locs, z.base ≠ q) → U.heap[q]? = s.heap[q]? := by
  obtain ⟨-, h2, -, -, -, h6⟩ := h
  refine ⟨h2, fun q hq hz => ?_⟩
  obtain ⟨c9, e1, e2, e3, e4⟩ := h6 q _ (Array.getElem?_eq_getElem hq)
  have hs : c9.slots = (s.heap[q]).slots := Array.ext_getElem? fun i => e4 i fun hm => hz _ hm rfl
  have h9 : c9 = s.heap[q] := by
    rw [hs] at e2
    exact e2
  have e5 : U.heap[q]? = some c9 := e1
  rw [e5, h9, Array.getElem?_eq_getElem hq]
/-- the words of a throw but the four that speak of the heap -/
def vx_no (w : Cond) : Bool := decide (w ≠ .isRef (.static Bundle.tN "UNASSIGNED_STACK" Bundle.steD)) && decide (w ≠ .isRef (.static Bundle.tN "SUPPRESSED_SENTINEL" Bundle.listD)) && decide (w ≠ .laysStatic Bundle.tN "UNASSIGNED_STACK" Bundle.steD) && decide (w ≠ .laysStatic Bundle.tN "SUPPRESSED_SENTINEL" Bundle.listD)
def vx_at0 (own : String) (ic : Nat) (X : String) (names : List String) : List Cond := (Bundle.ownAtoms0 own ic X names).filter vx_no
def vx_atS (own : String) (ic : Nat) (X : String) (names : List String) : List Cond := (Bundle.ownAtoms own ic X names).filter vx_no
/-- a word that the tables alone decide, or a good one -/
def vx_ot (w : Cond) : Bool := w.onTables || goodWord w
theorem vx_ot_at {args a' : Array Value} {s U : State} {w : Cond} (hW : s.WarmedH U.vm) (hvm : s.vm = U.vm) (hg : vx_ot w = true) (h : w.before args s = true) : w.before a' U = true := by
  simp only [vx_ot, Bool.or_eq_true] at hg
  rcases hg with hg | hg
  · exact va_tabs hg hvm h
  · exact word_at hW (good_of_word hg) h
/-- a list's words: the good ones out of the method's own list, the others by premises of their own -/
theorem vx_hat {args : Array Value} {s : State} {L B : List Cond} (h1 : ∀ w ∈ L.filter goodWord, w.before args s = true) (h2 : ∀ w ∈ L.filter (fun w => !goodWord w), w ∈ B) (h3 : ∀ w ∈ B, w.before args s = true) : ∀ w ∈ L, w.before args s = true := by
  intro w hw
  by_cases g : goodWord w = true
  · exact h1 w (List.mem_filter.mpr ⟨hw, g⟩)
  · refine h3 w (h2 w (List.mem_filter.mpr ⟨hw, ?_⟩))
    show (!goodWord w) = true
    cases hgw : goodWord w
    · rfl
    · exact absurd hgw g
theorem vx_c {args : Array Value} {s : State} {w : Cond} {B : List Cond} (h : w.before args s = true) (t : ∀ w ∈ B, w.before args s = true) : ∀ w' ∈ w :: B, w'.before args s = true := fun w' h' => (List.mem_cons.mp h').elim (fun e => by rw [e]; exact h) (t w')
theorem vx_n {args : Array Value} {s : State} : ∀ w ∈ ([] : List Cond), w.before args s = true := fun _ h => nomatch h
theorem vx_own {args : Array Value} {s : State} {L : List Cond} (h1 : ∀ w ∈ L.filter vx_no, w.before args s = true)
    (hU : (Cond.isRef (.static Bundle.tN "UNASSIGNED_STACK" Bundle.steD)).before args s = true) (hN : (Cond.isRef (.static Bundle.tN "SUPPRESSED_SENTINEL" Bundle.listD)).before args s = true)
    (lU : (Cond.laysStatic Bundle.tN "UNASSIGNED_STACK" Bundle.steD).before args s = true) (lN : (Cond.laysStatic Bundle.tN "SUPPRESSED_SENTINEL" Bundle.listD).before args s = true) : ∀ w ∈ L, w.before args s = true := by
  intro w hw
  by_cases e1 : w = .isRef (.static Bundle.tN "UNASSIGNED_STACK" Bundle.steD)
  · rw [e1]; exact hU
  · by_cases e2 : w = .isRef (.static Bundle.tN "SUPPRESSED_SENTINEL" Bundle.listD)
    · rw [e2]; exact hN
    · by_cases e3 : w = .laysStatic Bundle.tN "UNASSIGNED_STACK" Bundle.steD
      · rw [e3]; exact lU
      · by_cases e4 : w = .laysStatic Bundle.tN "SUPPRESSED_SENTINEL" Bundle.listD
        · rw [e4]; exact lN
        · exact h1 w (List.mem_filter.mpr ⟨hw, by unfold vx_no; rw [decide_eq_true e1, decide_eq_true e2, decide_eq_true e3, decide_eq_true e4]; rfl⟩)
/-- where a static field lies, its class's statics cell in H -/
def vx_L (C n d : String) (A : Nat → Prop) (U : State) (H : Heap) : Prop := ∃ (c : ClassId) (k : Class) (i : Nat) (f : Field) (a : Nat) (cell : Cell), U.vm.findClass C = some c ∧ U.fieldFound? C n d = some (c, k, i, f) ∧ f.isStatic = true ∧ k.statics = some a ∧ H[a]? = some cell ∧ cell.vm.isStatics = true ∧ cell.cls = c ∧ f.slot < cell.slots.size ∧ k.staticTypes[f.slot]? = some f.type ∧ ¬ A a
theorem vx_L.moved {C n d : String} {A : Nat → Prop} {u U : State} {H : Heap} (hvm : u.vm.Alike U.vm) (h : vx_L C n d A u H) : vx_L C n d A U H := by
  obtain ⟨c, k, i, f, a, cell, h1, h2, h3, h4, h5, h6, h7, h8, h9, h10⟩ := h
  obtain ⟨k', hi', he⟩ := State.fieldFound?_setVm hvm h2
  exact ⟨c, k', i, f, a, cell, by rw [hvm.findClass]; exact h1, hi', h3, by rw [he]; exact h4, h5, h6, h7, h8, by rw [he]; exact h9, h10⟩
theorem vx_L.kept {C n d : String} {A : Nat → Prop} {U : State} {H H1 : Heap} (h : vx_L C n d A U H) (hq : ∀ a : Nat, a < H.size → ¬ A a → H1[a]? = H[a]?) : vx_L C n d A U H1 := by
  obtain ⟨c, k, i, f, a, cell, h1, h2, h3, h4, h5, h6, h7, h8, h9, h10⟩ := h
  exact ⟨c, k, i, f, a, cell, h1, h2, h3, h4, by rw [hq a (Array.getElem?_eq_some_iff.mp h5).1 h10]; exact h5, h6, h7, h8, h9, h10⟩
theorem vx_L.narrow {C n d : String} {A B : Nat → Prop} {U : State} {H : Heap} (h : vx_L C n d A U H) (hAB : ∀ q, B q → A q) : vx_L C n d B U H := by
  obtain ⟨c, k, i, f, a, cell, h1, h2, h3, h4, h5, h6, h7, h8, h9, h10⟩ := h
  exact ⟨c, k, i, f, a, cell, h1, h2, h3, h4, h5, h6, h7, h8, h9, fun z => h10 (hAB _ z)⟩
theorem vx_L.word {C n d : String} {A : Nat → Prop} {s : State} {args : Array Value} (h : vx_L C n d A s s.heap) : (Cond.laysStatic C n d).before args s = true := by
  obtain ⟨c, k, i, f, a, cell, h1, h2, h3, h4, h5, h6, h7, h8, h9, -⟩ := h
  show (Cond.laysStatic C n d).holds args s none s [] = true
  exact Cond.laysStatic_of h1 h2 h3 h4 h5 h6 h7 h8 h9
/-- .. and what it holds: null or some reference -/
def vx_Zq (C n d : String) (A : Nat → Prop) (U : State) (H : Heap) : Prop := va_Zq C n d A U H ∧ vx_L C n d A U H
theorem vx_Zq.moved {C n d : String} {A : Nat → Prop} {u U : State} {H : Heap} (hvm : u.vm.Alike U.vm) (h : vx_Zq C n d A u H) : vx_Zq C n d A U H := ⟨va_Zq.moved hvm h.1, vx_L.moved hvm h.2⟩
theorem vx_Zq.kept {C n d : String} {A : Nat → Prop} {U : State} {H H1 : Heap} (h : vx_Zq C n d A U H) (hq : ∀ a : Nat, a < H.size → ¬ A a → H1[a]? = H[a]?) : vx_Zq C n d A U H1 := ⟨va_Zq.kept h.1 hq, vx_L.kept h.2 hq⟩
theorem vx_Zq.narrow {C n d : String} {A B : Nat → Prop} {U : State} {H : Heap} (h : vx_Zq C n d A U H) (hAB : ∀ q, B q → A q) : vx_Zq C n d B U H := ⟨va_Zq.narrow h.1 hAB, vx_L.narrow h.2 hAB⟩
theorem vx_Zqof {args : Array Value} {s : State} {C n d : String} {A : Nat → Prop} (hl : (Cond.laysStatic C n d).before args s = true) (hini : (Cond.initialized C).before args s = true) (h : (Cond.isRef (.static C n d)).before args s = true) (hA : ∀ a : Nat, a < s.heap.size → ¬ A a) : vx_Zq C n d A s s.heap := by
  refine ⟨va_Zqof hl hini h hA, ?_⟩
  obtain ⟨c, k, i, f, a, cell, h1, h2, h3, h4, h5, h6, h7, h8, h9⟩ := Cond.laysStatic_spec hl
  exact ⟨c, k, i, f, a, cell, h1, h2, h3, h4, h5, h6, h7, h8, h9, hA a (Array.getElem?_eq_some_iff.mp h5).1⟩
theorem vx_isRef {C n d : String} {v : Value} {A : Nat → Prop} {s : State} {args : Array Value} (h : va_Z C n d v A s s.heap) (hv : v.isRef = true) : (Cond.isRef (.static C n d)).before args s = true := by
  obtain ⟨cf, kf, fi, f, a, cell, h1, h2, h3, h4, h5, h6, h7, -⟩ := h
  have he : (Term.static C n d).eval args s none [] s = some v := by
    simp [Term.eval, State.fieldNamed?, h1, h2, h4, h5, h6, h7]
  simp only [Cond.before, Cond.holds, Cond.value, he]
  cases v <;> simp_all [Value.isRef]
theorem vx_isRefq {C n d : String} {A : Nat → Prop} {s : State} {args : Array Value} (h : va_Zq C n d A s s.heap) : (Cond.isRef (.static C n d)).before args s = true := by
  rcases h with h | ⟨t, h⟩
  · exact vx_isRef h rfl
  · exact vx_isRef h rfl
/-- the same frame, seen from here: as if the method were called anew in this heap -/
theorem vx_rebase {T : State} (X : Stand p l e R s m args below meth c T locs cells slots) {R' : Room} (hf : R'.frames ≤ R.frames) (hl : R'.locals ≤ R.locals) (hc : cells + R'.cells ≤ R.cells) (hs : slots + R'.slots ≤ R.slots) :
    Stand p l e R' ((T.setVm s.vm).setFrames (.invoking m args :: below)) m args below meth c T [] 0 0 := by
  have htop : (T.setVm s.vm).topJava?.isSome := X.here.top
  have hF : ((T.setVm s.vm).setFrames (.invoking m args :: below)).frames = .invoking m args :: below := State.frames_setFrames _ (State.cur_lt_of_top htop)
  obtain ⟨g₀, hg0⟩ := Option.isSome_iff_exists.mp htop
  obtain ⟨r, hr⟩ := State.topJava?_eq_some.mp hg0
  have hl9 : e.platform.stackLimits (T.setVm s.vm).me = e.platform.stackLimits s.me := X.limits
  have hb9 : (T.setVm s.vm).me.stackBytes = s.me.stackBytes := X.bytes
  refine ⟨X.admits, X.cas, X.clock, hF, ?_, X.hears, X.method, X.code, X.here, X.tail, X.warmed, ?_, ?_, ?_⟩
  · have h := X.room
    have hU : ((T.setVm s.vm).setFrames (.invoking m args :: below)).localsInUse = s.localsInUse := by
      rw [State.localsInUse_invoking hF (meth := meth) (c := c) X.method X.code, State.localsInUse_invoking X.frames X.method X.code]
    simp only [State.hasRoom, Bool.and_eq_true, decide_eq_true_eq] at h ⊢
    obtain ⟨⟨⟨⟨h1, h2, h3, h4, h5, h6⟩, h7⟩, h8⟩, h9⟩ := h
    rw [X.frames, List.length_cons] at h2 h3
    have q1 := X.heapSize
    have q2 := X.used
    simp only [hF, hU, List.length_cons, State.stackLimits_setFrames, State.stackBytes_setFrames, hl9, hb9]
    refine ⟨⟨⟨⟨by omega, by omega, by omega, by omega, by omega, h6⟩, ?_⟩, ?_⟩, X.book⟩
    · show T.heap.size + R'.cells ≤ e.platform.maxCells
      omega
    · show T.slotsUsed + R'.slots ≤ e.platform.maxSlots
      omega
  · rw [State.stackLimits_setFrames]; rfl
  · rw [State.stackBytes_setFrames]; rfl
  · refine ⟨?_, Nat.le_refl _, Nat.le_refl _, ?_, ?_, fun a c9 h9 => ⟨c9, h9, rfl, rfl, fun _ _ => rfl⟩⟩
    · obtain ⟨t, ht, -⟩ := State.frames_cons hr
      show T.setVm s.vm = { ((T.setVm s.vm).setFrames (.invoking m args :: below)).setFrames (T.setVm s.vm).frames with heap := T.heap, slotsUsed := T.slotsUsed }
      rw [State.setFrames_setFrames, State.setFrames_self ht]
      rfl
    · show T.slotsUsed = T.slotsUsed + ((T.heap.toList.drop T.heap.size).map (·.slots.size)).sum
      rw [List.drop_eq_nil_of_le (Nat.le_of_eq Array.length_toList)]
      rfl
    · show ((T.heap.toList.drop T.heap.size).map (·.slots.size)).sum ≤ 0
      rw [List.drop_eq_nil_of_le (Nat.le_of_eq Array.length_toList)]
      exact Nat.le_refl _
/-- 'throw new E()': new; dup; invokespecial; athrow -/
theorem vx_throw0 {cc : ByteArray} {pc : Nat} (hexec : p.tables.exec = Jvm.exec) (hb : c.code = cc) (hl : l.stackTraces = false) {own cls : String} {names : List String} {ik ic mc ms : Nat} {A : Nat → Prop}
    (hown : s.vm.findClass own = some m.cls) (hcls : Bundle.fit cls = true) (hnames : ∀ n ∈ names, Bundle.fit n = true)
    (hk : (Cond.classLink own ik cls).before args s = true) (hini : (Cond.initialized cls).before args s = true) (hat : ∀ w ∈ vx_at0 own ic cls names, w.before args s = true)
    (hgood : ∀ w ∈ Cond.classLink own ik cls :: Cond.initialized cls :: vx_at0 own ic cls names, vx_ot w = true)
    (hU : vx_Zq Bundle.tN "UNASSIGNED_STACK" Bundle.steD A s s.heap) (hN : vx_Zq Bundle.tN "SUPPRESSED_SENTINEL" Bundle.listD A s s.heap) (hS : va_S A s.heap H locs) (hsize : ls.size = c.maxLocals)
    (d0 : decode cc pc = .ok (.new ik, 3)) (d3 : decode cc (pc + 3) = .ok (.dup, 1)) (d4 : decode cc (pc + 4) = .ok (.invokespecial ic, 3)) (d7 : decode cc (pc + 7) = .ok (.athrow, 1))
    (hout : ∀ x ∈ c.exceptionTable.toList, covers x (pc + 7) = false)
    (hRframes : names.length + 3 < R.frames) (hRlocals : (rest.map fun v => v.category).sum + (13 * (names.length + 1) + 42) ≤ R.locals) (hRcells : cells + 1 ≤ R.cells) (hRslots : slots + 6 ≤ R.slots) (hlocks : meth.locks = false)
    (hx : ∀ t : State, s.vm.Alike t.vm → H.size ≤ t.heap.size → (∀ q : Nat, q < H.size → t.heap[q]? = H[q]?) → XC cls s t)
    (hf : ∀ z ∈ locs, free z.base) (hc : cells + 1 ≤ mc) (hs : slots + 6 ≤ ms) :
    W p l e R s m args below meth c H locs cells slots (vx_MQ below Qc XC args s mc ms free) (F0 m pc ls rest) := by
  intro T hT X
  have htr : e.platform.stackTraces = false := (show e.platform.stackTraces = l.stackTraces by rw [X.admits.platform]).trans hl
  have Y := vx_rebase X (R' := { frames := R.frames, locals := R.locals, cells := 1, slots := 6 }) (Nat.le_refl _) (Nat.le_refl _) hRcells hRslots
  obtain ⟨s', hA⟩ : ∃ z, z = (T.setVm s.vm).setFrames (.invoking m args :: below) := ⟨_, rfl⟩
  rw [← hA] at Y
  have hvm : s'.vm = s.vm := by rw [hA]; rfl
  have hhp : s'.heap = H := by rw [hA]; exact hT
  have hW0 : s.WarmedH s'.vm := by rw [hvm]; exact State.WarmedH.refl s
  have hat' : ∀ w ∈ vx_at0 own ic cls names, w.before args s' = true := fun w hw => vx_ot_at hW0 hvm.symm (hgood w (List.mem_cons_of_mem _ (List.mem_cons_of_mem _ hw))) (hat w hw)
  have hk' : (Cond.classLink own ik cls).before args s' = true := vx_ot_at hW0 hvm.symm (hgood _ List.mem_cons_self) hk
  have hini' : (Cond.initialized cls).before args s' = true := vx_ot_at hW0 hvm.symm (hgood _ (List.mem_cons_of_mem _ List.mem_cons_self)) hini
  have hU' : vx_Zq Bundle.tN "UNASSIGNED_STACK" Bundle.steD A s' s'.heap := by rw [hhp]; exact vx_Zq.moved hW0.alike (hU.kept hS.2.1)
  have hN' : vx_Zq Bundle.tN "SUPPRESSED_SENTINEL" Bundle.listD A s' s'.heap := by rw [hhp]; exact vx_Zq.moved hW0.alike (hN.kept hS.2.1)
  have h : ∀ w ∈ Bundle.ownAtoms0 own ic cls names, w.before args s' = true := vx_own hat' (vx_isRefq hU'.1) (vx_isRefq hN'.1) hU'.2.word hN'.2.word
  have hown' : s'.vm.findClass own = some m.cls := by rw [hvm]; exact hown
  have hins : (Cond.instantiable cls 6).before args s' = true := h _ (by simp [Bundle.ownAtoms0])
  obtain ⟨vm₁, cX, kX, hfX, hkX, -, -, X₁, st1⟩ := Y.newCold hexec (own := own) (C := cls) (index := ik) (n := 6) hown' hk' hins hini'
    (g := F0 m pc ls rest) rfl (by rw [hb]; exact d0) (Nat.le_refl _) (Nat.le_refl _)
  generalize hT1 : (T.setVm vm₁).pushCell { cls := cX, slots := kX.instanceTypes.map defaultValue, vm := .none } = T1 at X₁ st1
  have hcat : (Value.ref T.heap.size).category = 1 := rfl
  have hcellA : T1.heap[T.heap.size]? = some (freshCell cX kX) := by rw [← hT1]; exact State.heap_pushCell_size _ _
  have d3' : decode c.code (pc + 3) = .ok (.dup, 1) := by rw [hb]; exact d3
  obtain ⟨U, hsteps, hrun, hend, hW, hsame, ce, hce, hO⟩ := X₁.ctorThrow0 hexec htr (own := own) (cls := cls) (names := names) (ic := ic) hown' hcls hnames h (fun x hx => nomatch hx) hfX hkX hcellA (by rw [hhp, hT]; exact Nat.le_refl _)
    (g := { method := m, pc := pc + 4, locals := ls, stack := .ref T.heap.size :: .ref T.heap.size :: rest, locked := none }) rfl hsize rfl rfl (rest := rest) rfl
    (by rw [hb]; exact d4) (by rw [hb]; exact d7) hout hRframes (by simp only [List.map_cons, List.sum_cons, hcat]; omega) hlocks
  obtain ⟨f1, f2⟩ := vx_frame hsame
  rw [hhp] at f1 f2
  have hWs : s.WarmedH U.vm := State.WarmedH.trans hW0 hW
  have hcl : s.vm.findClass cls = some ce.cls := by
    have h9 := hO.cls
    rw [hvm] at h9
    exact h9
  have hall : s.sameButNew ({ U with vm := s.vm } : State) locs mc ms := by
    subst hA
    obtain ⟨e1, e2⟩ := hsame
    rw [State.setFrames_setFrames] at e1
    have h2 : (T.setVm s.vm).sameButNew ({ U with vm := s.vm } : State) [] (0 + 1) (0 + 6) := ⟨e1, e2⟩
    have h3 := X.same.trans h2
    rw [List.append_nil] at h3
    exact h3.mono hc hs
  refine ⟨U, ?_, .threw T.heap.size, hrun, hend, Or.inr ⟨T.heap.size, rfl, cls, ce, locs, hx U hWs.alike f1 (fun q hq => f2 q hq (fun z hz => nomatch hz)), hce, hO.vm, hcl, hWs, hall, hf⟩⟩
  refine st1 _ ?_
  show Steps p.tables e below (T1.setTop { method := m, pc := pc + 3, locals := ls, stack := .ref T.heap.size :: rest, locked := none }) _
  jvm_step X₁.here [X₁.here.top, hexec, d3', Value.category]
  exact hsteps
/-- 'throw new E("text")': new; dup; ldc; invokespecial; athrow -/
theorem vx_throwS {cc : ByteArray} {pc : Nat} (hexec : p.tables.exec = Jvm.exec) (hb : c.code = cc) (hl : l.stackTraces = false) {own cls text : String} {names : List String} {ik is ic mc ms sa : Nat} {A : Nat → Prop}
    (hown : s.vm.findClass own = some m.cls) (hcls : Bundle.fit cls = true) (hnames : ∀ n ∈ names, Bundle.fit n = true)
    (hk : (Cond.classLink own ik cls).before args s = true) (hini : (Cond.initialized cls).before args s = true) (hstr : vk_R own is text sa s) (hat : ∀ w ∈ vx_atS own ic cls names, w.before args s = true)
    (hgood : ∀ w ∈ Cond.classLink own ik cls :: Cond.initialized cls :: vx_atS own ic cls names, vx_ot w = true)
    (hU : vx_Zq Bundle.tN "UNASSIGNED_STACK" Bundle.steD A s s.heap) (hN : vx_Zq Bundle.tN "SUPPRESSED_SENTINEL" Bundle.listD A s s.heap) (hS : va_S A s.heap H locs) (hsize : ls.size = c.maxLocals)
    (d0 : decode cc pc = .ok (.new ik, 3)) (d3 : decode cc (pc + 3) = .ok (.dup, 1)) (d4 : decode cc (pc + 4) = .ok (.ldc is, 2)) (d6 : decode cc (pc + 6) = .ok (.invokespecial ic, 3)) (d9 : decode cc (pc + 9) = .ok (.athrow, 1))
    (hout : ∀ x ∈ c.exceptionTable.toList, covers x (pc + 9) = false)
    (hRframes : names.length + 3 < R.frames) (hRlocals : (rest.map fun v => v.category).sum + (13 * (names.length + 1) + 43) ≤ R.locals) (hRcells : cells + 1 ≤ R.cells) (hRslots : slots + 6 ≤ R.slots) (hlocks : meth.locks = false)
    (hx : ∀ t : State, s.vm.Alike t.vm → H.size ≤ t.heap.size → (∀ q : Nat, q < H.size → t.heap[q]? = H[q]?) → XC cls s t)
    (hf : ∀ z ∈ locs, free z.base) (hc : cells + 1 ≤ mc) (hs : slots + 6 ≤ ms) :
    W p l e R s m args below meth c H locs cells slots (vx_MQ below Qc XC args s mc ms free) (F0 m pc ls rest) := by
  intro T hT X
  have htr : e.platform.stackTraces = false := (show e.platform.stackTraces = l.stackTraces by rw [X.admits.platform]).trans hl
  have Y := vx_rebase X (R' := { frames := R.frames, locals := R.locals, cells := 1, slots := 6 }) (Nat.le_refl _) (Nat.le_refl _) hRcells hRslots
  obtain ⟨s', hA⟩ : ∃ z, z = (T.setVm s.vm).setFrames (.invoking m args :: below) := ⟨_, rfl⟩
  rw [← hA] at Y
  have hvm : s'.vm = s.vm := by rw [hA]; rfl
  have hhp : s'.heap = H := by rw [hA]; exact hT
  have hW0 : s.WarmedH s'.vm := by rw [hvm]; exact State.WarmedH.refl s
  have hat' : ∀ w ∈ vx_atS own ic cls names, w.before args s' = true := fun w hw => vx_ot_at hW0 hvm.symm (hgood w (List.mem_cons_of_mem _ (List.mem_cons_of_mem _ hw))) (hat w hw)
  have hk' : (Cond.classLink own ik cls).before args s' = true := vx_ot_at hW0 hvm.symm (hgood _ List.mem_cons_self) hk
  have hini' : (Cond.initialized cls).before args s' = true := vx_ot_at hW0 hvm.symm (hgood _ (List.mem_cons_of_mem _ List.mem_cons_self)) hini
  have hU' : vx_Zq Bundle.tN "UNASSIGNED_STACK" Bundle.steD A s' s'.heap := by rw [hhp]; exact vx_Zq.moved hW0.alike (hU.kept hS.2.1)
  have hN' : vx_Zq Bundle.tN "SUPPRESSED_SENTINEL" Bundle.listD A s' s'.heap := by rw [hhp]; exact vx_Zq.moved hW0.alike (hN.kept hS.2.1)
  have h : ∀ w ∈ Bundle.ownAtoms own ic cls names, w.before args s' = true := vx_own hat' (vx_isRefq hU'.1) (vx_isRefq hN'.1) hU'.2.word hN'.2.word
  have hown' : s'.vm.findClass own = some m.cls := by rw [hvm]; exact hown
  have hins : (Cond.instantiable cls 6).before args s' = true := h _ (by simp [Bundle.ownAtoms])
  obtain ⟨vm₁, cX, kX, hfX, hkX, -, -, X₁, st1⟩ := Y.newCold hexec (own := own) (C := cls) (index := ik) (n := 6) hown' hk' hins hini'
    (g := F0 m pc ls rest) rfl (by rw [hb]; exact d0) (Nat.le_refl _) (Nat.le_refl _)
  generalize hT1 : (T.setVm vm₁).pushCell { cls := cX, slots := kX.instanceTypes.map defaultValue, vm := .none } = T1 at X₁ st1
  have hcat : (Value.ref T.heap.size).category = 1 := rfl
  have hcellA : T1.heap[T.heap.size]? = some (freshCell cX kX) := by rw [← hT1]; exact State.heap_pushCell_size _ _
  have d3' : decode c.code (pc + 3) = .ok (.dup, 1) := by rw [hb]; exact d3
  have d4' : decode c.code (pc + 4) = .ok (.ldc is, 2) := by rw [hb]; exact d4
  have hstr' : vk_R own is text sa s' := vk_R.warm hW0 hstr
  obtain ⟨U, hsteps, hrun, hend, hW, hsame, ce, hce, hO⟩ := X₁.ctorThrowS hexec htr (own := own) (cls := cls) (names := names) (ic := ic) hown' hcls hnames h (fun x hx => nomatch hx) hfX hkX hcellA (by rw [hhp, hT]; exact Nat.le_refl _) (msg := .ref sa) rfl
    (g := { method := m, pc := pc + 6, locals := ls, stack := .ref sa :: .ref T.heap.size :: .ref T.heap.size :: rest, locked := none }) rfl hsize rfl rfl (rest := rest) rfl
    (by rw [hb]; exact d6) (by rw [hb]; exact d9) hout hRframes (by simp only [List.map_cons, List.sum_cons, hcat]; omega) hlocks
  obtain ⟨f1, f2⟩ := vx_frame hsame
  rw [hhp] at f1 f2
  have hWs : s.WarmedH U.vm := State.WarmedH.trans hW0 hW
  have hcl : s.vm.findClass cls = some ce.cls := by
    have h9 := hO.cls
    rw [hvm] at h9
    exact h9
  have hall : s.sameButNew ({ U with vm := s.vm } : State) locs mc ms := by
    subst hA
    obtain ⟨e1, e2⟩ := hsame
    rw [State.setFrames_setFrames] at e1
    have h2 : (T.setVm s.vm).sameButNew ({ U with vm := s.vm } : State) [] (0 + 1) (0 + 6) := ⟨e1, e2⟩
    have h3 := X.same.trans h2
    rw [List.append_nil] at h3
    exact h3.mono hc hs
  refine ⟨U, ?_, .threw T.heap.size, hrun, hend, Or.inr ⟨T.heap.size, rfl, cls, ce, locs, hx U hWs.alike f1 (fun q hq => f2 q hq (fun z hz => nomatch hz)), hce, hO.vm, hcl, hWs, hall, hf⟩⟩
  refine st1 _ ?_
  show Steps p.tables e below (T1.setTop { method := m, pc := pc + 3, locals := ls, stack := .ref T.heap.size :: rest, locked := none }) _
  jvm_step X₁.here [X₁.here.top, hexec, d3', Value.category]
  exact X₁.ldcString hexec (own := own) (text := text) (index := is) (a := sa) hown' hstr'.1 hstr'.2
    (g := { method := m, pc := pc + 4, locals := ls, stack := .ref T.heap.size :: .ref T.heap.size :: rest, locked := none }) rfl d4' _ hsteps
/-- 'throw new E("text")', the text by a wide index -/
theorem vx_throwSW {cc : ByteArray} {pc : Nat} (hexec : p.tables.exec = Jvm.exec) (hb : c.code = cc) (hl : l.stackTraces = false) {own cls text : String} {names : List String} {ik is ic mc ms sa : Nat} {A : Nat → Prop}
    (hown : s.vm.findClass own = some m.cls) (hcls : Bundle.fit cls = true) (hnames : ∀ n ∈ names, Bundle.fit n = true)
    (hk : (Cond.classLink own ik cls).before args s = true) (hini : (Cond.initialized cls).before args s = true) (hstr : vk_R own is text sa s) (hat : ∀ w ∈ vx_atS own ic cls names, w.before args s = true)
    (hgood : ∀ w ∈ Cond.classLink own ik cls :: Cond.initialized cls :: vx_atS own ic cls names, vx_ot w = true)
    (hU : vx_Zq Bundle.tN "UNASSIGNED_STACK" Bundle.steD A s s.heap) (hN : vx_Zq Bundle.tN "SUPPRESSED_SENTINEL" Bundle.listD A s s.heap) (hS : va_S A s.heap H locs) (hsize : ls.size = c.maxLocals)
    (d0 : decode cc pc = .ok (.new ik, 3)) (d3 : decode cc (pc + 3) = .ok (.dup, 1)) (d4 : decode cc (pc + 4) = .ok (.ldc_w is, 3)) (d7 : decode cc (pc + 7) = .ok (.invokespecial ic, 3)) (d10 : decode cc (pc + 10) = .ok (.athrow, 1))
    (hout : ∀ x ∈ c.exceptionTable.toList, covers x (pc + 10) = false)
    (hRframes : names.length + 3 < R.frames) (hRlocals : (rest.map fun v => v.category).sum + (13 * (names.length + 1) + 43) ≤ R.locals) (hRcells : cells + 1 ≤ R.cells) (hRslots : slots + 6 ≤ R.slots) (hlocks : meth.locks = false)
    (hx : ∀ t : State, s.vm.Alike t.vm → H.size ≤ t.heap.size → (∀ q : Nat, q < H.size → t.heap[q]? = H[q]?) → XC cls s t)
    (hf : ∀ z ∈ locs, free z.base) (hc : cells + 1 ≤ mc) (hs : slots + 6 ≤ ms) :
    W p l e R s m args below meth c H locs cells slots (vx_MQ below Qc XC args s mc ms free) (F0 m pc ls rest) := by
  intro T hT X
  have htr : e.platform.stackTraces = false := (show e.platform.stackTraces = l.stackTraces by rw [X.admits.platform]).trans hl
  have Y := vx_rebase X (R' := { frames := R.frames, locals := R.locals, cells := 1, slots := 6 }) (Nat.le_refl _) (Nat.le_refl _) hRcells hRslots
  obtain ⟨s', hA⟩ : ∃ z, z = (T.setVm s.vm).setFrames (.invoking m args :: below) := ⟨_, rfl⟩
  rw [← hA] at Y
  have hvm : s'.vm = s.vm := by rw [hA]; rfl
  have hhp : s'.heap = H := by rw [hA]; exact hT
  have hW0 : s.WarmedH s'.vm := by rw [hvm]; exact State.WarmedH.refl s
  have hat' : ∀ w ∈ vx_atS own ic cls names, w.before args s' = true := fun w hw => vx_ot_at hW0 hvm.symm (hgood w (List.mem_cons_of_mem _ (List.mem_cons_of_mem _ hw))) (hat w hw)
  have hk' : (Cond.classLink own ik cls).before args s' = true := vx_ot_at hW0 hvm.symm (hgood _ List.mem_cons_self) hk
  have hini' : (Cond.initialized cls).before args s' = true := vx_ot_at hW0 hvm.symm (hgood _ (List.mem_cons_of_mem _ List.mem_cons_self)) hini
  have hU' : vx_Zq Bundle.tN "UNASSIGNED_STACK" Bundle.steD A s' s'.heap := by rw [hhp]; exact vx_Zq.moved hW0.alike (hU.kept hS.2.1)
  have hN' : vx_Zq Bundle.tN "SUPPRESSED_SENTINEL" Bundle.listD A s' s'.heap := by rw [hhp]; exact vx_Zq.moved hW0.alike (hN.kept hS.2.1)
  have h : ∀ w ∈ Bundle.ownAtoms own ic cls names, w.before args s' = true := vx_own hat' (vx_isRefq hU'.1) (vx_isRefq hN'.1) hU'.2.word hN'.2.word
  have hown' : s'.vm.findClass own = some m.cls := by rw [hvm]; exact hown
  have hins : (Cond.instantiable cls 6).before args s' = true := h _ (by simp [Bundle.ownAtoms])
  obtain ⟨vm₁, cX, kX, hfX, hkX, -, -, X₁, st1⟩ := Y.newCold hexec (own := own) (C := cls) (index := ik) (n := 6) hown' hk' hins hini'
    (g := F0 m pc ls rest) rfl (by rw [hb]; exact d0) (Nat.le_refl _) (Nat.le_refl _)
  generalize hT1 : (T.setVm vm₁).pushCell { cls := cX, slots := kX.instanceTypes.map defaultValue, vm := .none } = T1 at X₁ st1
  have hcat : (Value.ref T.heap.size).category = 1 := rfl
  have hcellA : T1.heap[T.heap.size]? = some (freshCell cX kX) := by rw [← hT1]; exact State.heap_pushCell_size _ _
  have d3' : decode c.code (pc + 3) = .ok (.dup, 1) := by rw [hb]; exact d3
  have d4' : decode c.code (pc + 4) = .ok (.ldc_w is, 3) := by rw [hb]; exact d4
  have hstr' : vk_R own is text sa s' := vk_R.warm hW0 hstr
  obtain ⟨U, hsteps, hrun, hend, hW, hsame, ce, hce, hO⟩ := X₁.ctorThrowS hexec htr (own := own) (cls := cls) (names := names) (ic := ic) hown' hcls hnames h (fun x hx => nomatch hx) hfX hkX hcellA (by rw [hhp, hT]; exact Nat.le_refl _) (msg := .ref sa) rfl
    (g := { method := m, pc := pc + 7, locals := ls, stack := .ref sa :: .ref T.heap.size :: .ref T.heap.size :: rest, locked := none }) rfl hsize rfl rfl (rest := rest) rfl
    (by rw [hb]; exact d7) (by rw [hb]; exact d10) hout hRframes (by simp only [List.map_cons, List.sum_cons, hcat]; omega) hlocks
  obtain ⟨f1, f2⟩ := vx_frame hsame
  rw [hhp] at f1 f2
  have hWs : s.WarmedH U.vm := State.WarmedH.trans hW0 hW
  have hcl : s.vm.findClass cls = some ce.cls := by
    have h9 := hO.cls
    rw [hvm] at h9
    exact h9
  have hall : s.sameButNew ({ U with vm := s.vm } : State) locs mc ms := by
    subst hA
    obtain ⟨e1, e2⟩ := hsame
    rw [State.setFrames_setFrames] at e1
    have h2 : (T.setVm s.vm).sameButNew ({ U with vm := s.vm } : State) [] (0 + 1) (0 + 6) := ⟨e1, e2⟩
    have h3 := X.same.trans h2
    rw [List.append_nil] at h3
    exact h3.mono hc hs
  refine ⟨U, ?_, .threw T.heap.size, hrun, hend, Or.inr ⟨T.heap.size, rfl, cls, ce, locs, hx U hWs.alike f1 (fun q hq => f2 q hq (fun z hz => nomatch hz)), hce, hO.vm, hcl, hWs, hall, hf⟩⟩
  refine st1 _ ?_
  show Steps p.tables e below (T1.setTop { method := m, pc := pc + 3, locals := ls, stack := .ref T.heap.size :: rest, locked := none }) _
  jvm_step X₁.here [X₁.here.top, hexec, d3', Value.category]
  exact X₁.ldcStringW hexec (own := own) (text := text) (index := is) (a := sa) hown' hstr'.1 hstr'.2
    (g := { method := m, pc := pc + 4, locals := ls, stack := .ref T.heap.size :: .ref T.heap.size :: rest, locked := none }) rfl d4' _ hsteps
end Ends
section Bodies
variable {l : Launch}
theorem vx_ofW {y : MethodName} {ws ws' : List Cond} {rm : Room} {Pc : Array Value → State → Prop} {Qc : Array Value → State → Outcome → State → Prop} {XC : String → State → State → Prop} {mc ms : Nat} {free : Addr → Prop} {cc : ByteArray} {maxL : Nat} {ret : Option FieldType}
    (hy : plainName y.cls = true) (hw : ws = Cond.code y cc maxL ret :: ws')
    (body : ∀ p e s m args below meth c s₁, BodyLoose p l y (headSpec ws rm) cc maxL ret e s m args below meth c s₁ → c.maxLocals = maxL → (∀ x ∈ c.exceptionTable.toList, False) → Pc args s →
      W p l e (headSpec ws rm).room s m args below meth c s.heap [] 0 0 (vx_MQ below Qc XC args s mc ms free) (entryFrame m args maxL)) : vx_Met l y ws rm Pc Qc XC mc ms free := by
  refine MetFree.of_bodyS (code := cc) (maxLocals := maxL) (ret := ret) hy ?_ ?_
  · intro args s m h hn
    obtain ⟨meth, c, h1, h2, h3, h4, h5, h6, -, -⟩ := Cond.code_spec hn (atoms_spec (ws := ws) h _ (by rw [hw]; exact List.mem_cons_self))
    exact ⟨meth, c, h1, h2, h3, h4, h5, h6⟩
  · intro p e s m args below meth c s₁ B hml hP _
    have hh0 : s₁.heap = s.heap := by rw [B.state]; rfl
    have ht : ∀ x ∈ c.exceptionTable.toList, False := by
      obtain ⟨meth9, c9, h1, h2, -, -, -, -, h7, -⟩ := Cond.code_spec B.named (atoms_spec (ws := ws) B.pre _ (by rw [hw]; exact List.mem_cons_self))
      cases Option.some.inj (h1.symm.trans B.method)
      cases Option.some.inj (h2.symm.trans (Stand.of_body B).code)
      intro x hx
      rw [Array.isEmpty_iff.mp h7] at hx
      cases hx
    obtain ⟨t, a1, o, b1, b2, b3⟩ := body p e s m args below meth c s₁ B hml ht hP s₁ hh0 (Stand.of_body B)
    exact ⟨t, o, a1, b1, b2, b3⟩
/-- the table of a body with handlers -/
theorem vx_table {p : Program} {x y : MethodName} {S : Spec} {cc bytes : ByteArray} {maxL maxL' : Nat} {ret ret' : Option FieldType} {e : Env} {s s₁ : State} {m : MethodId} {args : Array Value} {below : List Frame} {meth : Method} {c : Code} {hh : List (Nat × Nat × Nat × Nat)}
    (B : BodyLoose p l y S cc maxL ret e s m args below meth c s₁) (h : (Cond.codeWith y bytes maxL' ret' hh).before args s = true) : c.exceptionTable.toList = tableOf hh := by
  obtain ⟨m9, meth9, c9, hn9, h1, h2, -, -, h6, -⟩ := Cond.codeWith_spec h
  cases Option.some.inj (hn9.symm.trans B.named)
  cases Option.some.inj (h1.symm.trans B.method)
  cases Option.some.inj (h2.symm.trans (Stand.of_body B).code)
  rw [← h6, table_eq]
end Bodies
end VXA
/-! ===== END ===== -/
/-! ===== BEGIN a static call of a method with an exception table ===== -/
section VXS
variable {p : Program} {l : Launch} {e : Env} {R : Room} {s : State} {m : MethodId} {args : Array Value} {below : List Frame} {meth : Method} {c : Code} {T : State} {H : Heap} {locs : List Loc} {cells slots : Nat}
abbrev vx_CSW (R : Room) (s : State) (args : Array Value) (own : String) (index : Nat) (y : MethodName) (bytes : ByteArray) (maxL : Nat) (ret : Option FieldType) (hh : List (Nat × Nat × Nat × Nat)) (ws : List Cond) (rm : Room) (mc ms n : Nat) : Prop :=
  (rm.cells = mc ∧ rm.slots = ms ∧ rm.frames + 1 ≤ R.frames ∧ 8 + (maxL + 11) + rm.locals ≤ R.locals ∧ (∀ w ∈ ws, ∀ (a' : Array Value) (U : State), s.WarmedH U.vm → w.before a' U = true) ∧ Cond.codeWith y bytes maxL ret hh ∈ ws) ∧
  (Cond.codeWith y bytes maxL ret hh).before args s = true ∧ (Cond.initialized y.cls).before args s = true ∧ (y.cls ≠ "java/lang/invoke/MethodHandle" ∧ y.cls ≠ "java/lang/invoke/VarHandle") ∧
  (∀ sig, parseMethodDescriptor y.desc = some sig → n = sig.parameters.length) ∧ (Cond.methodLink own index y).before args s = true ∧ (Cond.static y).before args s = true
theorem vx_cwSW {own : String} {index maxL mc ms : Nat} {y : MethodName} {bytes : ByteArray} {ret : Option FieldType} {hh : List (Nat × Nat × Nat × Nat)} {Ts ws ws' : List Cond} {rm : Room} (n : Nat) (ht : ∀ w ∈ Ts, w.before args s = true) (hT : GoodIn Ts (va_wsS own index y ws)) (hw : ws = Cond.codeWith y bytes maxL ret hh :: ws') (hrc : rm.cells = mc) (hrs : rm.slots = ms)
    (hd : y.cls ≠ "java/lang/invoke/MethodHandle" ∧ y.cls ≠ "java/lang/invoke/VarHandle" ∧ (parseMethodDescriptor y.desc).map (fun d => d.parameters.length) = some n) (hR : rm.frames + 1 ≤ R.frames ∧ 8 + (maxL + 11) + rm.locals ≤ R.locals) :
    vx_CSW R s args own index y bytes maxL ret hh ws rm mc ms n := by
  have ok : ∀ w ∈ va_wsS own index y ws, w.before args s = true := fun w h => ht w (hT w h).1
  have hG : GoodIn Ts ws := fun w h => hT w (by unfold va_wsS; exact List.mem_append_right _ h)
  have hc : Cond.codeWith y bytes maxL ret hh ∈ ws := by rw [hw]; exact List.mem_cons_self
  refine ⟨⟨hrc, hrs, hR.1, hR.2, pay_in ht hG, hc⟩, ht _ (hG _ hc).1, ok _ (by simp [va_wsS]), ⟨hd.1, hd.2.1⟩, fun sig h => ?_, ok _ (by simp [va_wsS]), ok _ (by simp [va_wsS])⟩
  have h2 := hd.2.2
  rw [h] at h2
  exact (Option.some.inj h2).symm
theorem vx_callSW (X : Stand p l e R s m args below meth c T locs cells slots) (hexec : p.tables.exec = Jvm.exec) {own : String} {index : Nat} {y : MethodName} {bytes : ByteArray} {maxL : Nat} {ret : Option FieldType} {hh : List (Nat × Nat × Nat × Nat)}
    (hown : s.vm.findClass own = some m.cls) (hlink : (Cond.methodLink own index y).before args s = true) (hstat : (Cond.static y).before args s = true) (hinit : (Cond.initialized y.cls).before args s = true)
    (hcode : (Cond.codeWith y bytes maxL ret hh).before args s = true) (hy : y.cls ≠ "java/lang/invoke/MethodHandle" ∧ y.cls ≠ "java/lang/invoke/VarHandle")
    {W9 : Nat} {Pre : Pt → Array Value → Prop} {Post : Pt → Array Value → Option Value → Pt → Prop} (hK : Back l R p e below s args y 3 W9 Pre Post)
    {g : JFrame} (hg : g.method = m) (hsize : g.locals.size = c.maxLocals) {argsL rest : List Value} (hlen : ∀ sig, parseMethodDescriptor y.desc = some sig → argsL.length = sig.parameters.length)
    (hstack : g.stack = argsL.reverse ++ rest) (hW : 2 * g.monitorRoom + (rest.map fun v => v.category).sum ≤ W9) (hdg : decode c.code g.pc = .ok (.invokestatic index, 3))
    (hpre : ∀ vm₁, s.WarmedH vm₁ → Pre ⟨T.setVm vm₁, locs, cells, slots⟩ argsL.toArray) :
    ∃ (v : Option Value) (vm₁ : Vm) (B : Pt), s.WarmedH vm₁ ∧ Stand p l e R s m args below meth c B.U B.locs B.cells B.slots ∧ Post ⟨T.setVm vm₁, locs, cells, slots⟩ argsL.toArray v B ∧
      ∀ target, Steps p.tables e below (B.U.setTop { g with pc := g.pc + 3, stack := v.toList ++ rest }) target → Steps p.tables e below (T.setTop g) target := by
  obtain ⟨mk, methM, cM, hnamed, hmethM, -, -, -, -, -, -, hsigM⟩ := Cond.codeWith_spec hcode
  have hstatic : methM.isStatic = true := Cond.static_spec hnamed hmethM hstat
  obtain ⟨kP, hkP, -⟩ := className_of_methodNamed hnamed
  have hinitP : kP.init = .initialized := Cond.initialized_spec (findClass_of_methodNamed hnamed) hkP hinit
  obtain ⟨vm₁, X₁, hstep₁⟩ := X.invokestatic hexec hown hlink hnamed hmethM hstatic hkP hinitP hy (g := g) hg (argsL := argsL) (rest := rest) (hlen _ hsigM) hstack hdg
  obtain ⟨v, B, X', hpost, hsteps⟩ := hK m meth c ⟨T.setVm vm₁, locs, cells, slots⟩ { g with stack := rest } (.invokestatic index) mk argsL.toArray X₁ hg hsize hdg hW (X₁.named hnamed) (hpre vm₁ X₁.warmed)
  exact ⟨v, vm₁, B, X₁.warmed, X', hpost, fun target h => hstep₁ _ fun acts => by rw [doInvoke_state]; exact hsteps.trans h⟩
theorem vx_runSW {y : MethodName} {bytes cc : ByteArray} {maxL nL mc ms n index : Nat} {ret : Option FieldType} {hh : List (Nat × Nat × Nat × Nat)} {ws : List Cond} {rm : Room} {Pc : Array Value → State → Prop} {Qc : Array Value → State → Outcome → State → Prop} {free : Addr → Prop} {Ts : List Cond} {own : String} {As rest : List Value} {g : JFrame}
    (S : CallFix p m c cc nL s args Ts own) (hM : Met l y ws rm Pc Qc mc ms free) (cw : vx_CSW R s args own index y bytes maxL ret hh ws rm mc ms n) (hp : PreS s H Pc As)
    (hg : g.method = m) (hn : As.length = n) (hsize : g.locals.size = nL) (hstack : g.stack = As.reverse ++ rest) (hW : 2 * g.monitorRoom + (rest.map fun v => v.category).sum ≤ 8) (hdg : decode cc g.pc = .ok (.invokestatic index, 3)) (hf : cells + mc ≤ R.cells ∧ slots + ms ≤ R.slots) :
    va_Run p l e R s m args below meth c H locs cells slots mc ms g rest (Qc As.toArray) (free) := by
  obtain ⟨⟨hrc, hrs, hfr, hlo, hws, hcw⟩, hcode, hini, hy, hlen, hl, hstt⟩ := cw
  have hK : Back l R p e below s args y 3 8 (PreOf R mc ms Pc) (PostOf Qc mc ms free) := va_backW (hh := hh) (bytes := bytes) (maxL := maxL) (ret := ret) hM hp.1 hrc hrs hfr hlo hws hcw (fun a' U hW => word_at hW (Or.inl (by first | rfl | simp [Cond.onTables, Cond.keeps, Cond.steady])) hini)
  obtain ⟨hx, hb, hml, ho, -⟩ := S
  intro T hT X
  obtain ⟨v, vm₁, ⟨U', l2, c2, s2⟩, hW₁, X', ⟨g', mk, t, L, e1, e2, hq, h1, hL, h2, h3⟩, st⟩ := vx_callSW X hx (hh := hh) (bytes := bytes) (maxL := maxL) (ret := ret) ho hl hstt hini hcode hy hK hg (hsize.trans hml.symm) (argsL := As) (rest := rest) (fun sig h => hn.trans (hlen sig h)) hstack hW (by rw [hb]; exact hdg)
    (fun vm₁ hW₁ => ⟨hf.1, hf.2, hp.2 (T.setVm vm₁) hT hW₁⟩)
  dsimp only [Pt.U, Pt.locs, Pt.cells, Pt.slots] at X' e1 e2 h1 h2 h3 st
  subst h1; subst h2; subst h3
  exact ⟨v, (T.setVm vm₁).calling g' mk As.toArray, t, U', L, hT, X', hL, e1, e2, hq, st⟩
/-- not caught here, past rows that name other classes: it goes on to the caller -/
theorem vx_outP {p : Program} {l : Launch} {e : Env} {R : Room} {s : State} {m : MethodId} {args : Array Value} {below : List Frame} {meth : Method} {c : Code} {H : Heap} {locs : List Loc} {cells slots : Nat} {free : Addr → Prop} {ls : Array Slot} {rest : List Value} {Qc : Array Value → State → Outcome → State → Prop} {XC : String → State → State → Prop}
    {pc : Nat} {own E : String} {ce : Cell} {q : Addr} {mc ms : Nat} (hown : s.vm.findClass own = some m.cls) (hlocks : meth.locks = false)
    (hpass : ∀ z ∈ c.exceptionTable.toList, covers z pc = false ∨ (z.catchType ≠ 0 ∧ ∃ nm : String, (Cond.classLink own z.catchType nm).before args s = true ∧ va_Nc E nm s)) (hcell : H[q]? = some ce) (hv : ce.vm = .none) (hcl : s.vm.findClass E = some ce.cls)
    (hx : ∀ t : State, t.heap = H → s.vm.Alike t.vm → XC E s t) (hf : ∀ z ∈ locs, free z.base) (hc : cells ≤ mc) (hs : slots ≤ ms) :
    vx_W p l e R s m args below meth c H locs cells slots (vx_MQ below Qc XC args s mc ms free) (F0 m pc ls rest) q := by
  intro T hT X
  have hpl : e.platform.magicAccessors = ({} : Platform).magicAccessors := by rw [X.admits.platform]
  obtain ⟨vm', hW', X', st⟩ := X.outThrough hlocks q (g := F0 m pc ls rest) rfl rfl rfl (cell := ce) (by rw [hT]; exact hcell) (by rw [hv]; rfl)
    (by obtain ⟨k9, h9, -⟩ := Vm.findClass_spec hcl; exact ⟨k9, h9⟩) (fun z hz => by
      rcases hpass z hz with h | ⟨hz0, nm, hl1, hn1⟩
      · exact Or.inl h
      · obtain ⟨c6, hc6, hcl6⟩ := Cond.classLink_spec hown hl1 e.platform hpl
        obtain ⟨a8, b8, h1, h2, h3⟩ := hn1
        cases Option.some.inj (h1.symm.trans hcl)
        cases Option.some.inj (h2.symm.trans hc6)
        exact Or.inr ⟨hz0, _, hcl6, h3⟩)
  obtain ⟨g₀, hfr⟩ := X'.frames_eq
  have hcell9 : ((T.setVm vm').setFrames (.throwing q :: below)).heap[q]? = some ce := by
    show T.heap[q]? = some ce
    rw [hT]; exact hcell
  have hend : Ended ((T.setVm vm').setFrames (.throwing q :: below)) below (.threw q) := State.frames_setFrames _ (State.cur_lt_of_frames hfr)
  refine ⟨(T.setVm vm').setFrames (.throwing q :: below), ?_, .threw q, X'.here.running, hend, Or.inr ⟨q, rfl, E, ce, locs, hx _ hT (X'.ends _).1.alike, hcell9, hv, hcl, (X'.ends _).1, (X'.ends _).2.mono hc hs, hf⟩⟩
  rw [X.pushThrowing_eq]
  exact st
/-- a thing of a world lies in the heap -/
theorem vx_lt {D : va_G} {cl : List vw_C} {ws : va_W} {H1 : Heap} (h : va_P D cl ws H1) {k : Nat} {q : Nat × va_E} (hk : ws[k]? = some q) : q.1 < H1.size := (h k q hk).lt
end VXS
/-! ===== END ===== -/
/-! ===== BEGIN methods with a table of their own: called by a name, returning or throwing ===== -/
section VXH
/-! vx_backW, vx_callVX, vx_callSX, vx_callVW, vx_runVW, vx_runVX, vx_runSX, vx_ofWH follow the same proofs as their sisters above (Free/Laws.lean, Shelf42/LK1.lean); vx_outP calls Shelf42/NT130.lean (outThrough). -/
section
variable {l : Launch} {R : Room} {p : Program} {e : Env} {below : List Frame} {s : State} {sargs : Array Value} {y : MethodName} {len W9 : Nat}
theorem vx_backW {ws : List Cond} {rm : Room} {Pc : Array Value → State → Prop} {Qc : Array Value → State → Outcome → State → Prop} {XC : String → State → State → Prop} {mc ms : Nat} {free : Addr → Prop} {bytes : ByteArray} {maxL : Nat} {ret : Option FieldType} {hh : List (Nat × Nat × Nat × Nat)}
    (hM : vx_Met l y ws rm Pc Qc XC mc ms free) (hblind : FrameBlind Pc) (hrc : rm.cells = mc) (hrs : rm.slots = ms)
    (hframes : rm.frames + 1 ≤ R.frames) (hlocals : W9 + (maxL + 11) + rm.locals ≤ R.locals)
    (hws : ∀ w ∈ ws, ∀ a' U, s.WarmedH U.vm → w.before a' U = true) (hcode : Cond.codeWith y bytes maxL ret hh ∈ ws) (hinit : ∀ a' U, s.WarmedH U.vm → (Cond.initialized y.cls).before a' U = true) :
    vx_Back l R p e below s sargs y len W9 (PreOf R mc ms Pc) (PostOf Qc mc ms free) (vx_Post XC mc ms free) := by
  intro m meth c A g ig mk a X hg hsize hdg hW hn hp
  have h1 : (headSpec ws rm).pre.before a A.U = true := atoms_intro fun w hw => hws w hw _ _ X.warmed
  have h2 : (Cond.codeWith y bytes maxL ret hh).before a A.U = true := hws _ hcode _ _ X.warmed
  have h3 : (Cond.initialized y.cls).before a A.U = true := hinit _ _ X.warmed
  have h4 : A.cells + (headSpec ws rm).room.cells ≤ R.cells := by rw [show (headSpec ws rm).room.cells = mc from hrc]; exact hp.1
  have h5 : A.slots + (headSpec ws rm).room.slots ≤ R.slots := by rw [show (headSpec ws rm).room.slots = ms from hrs]; exact hp.2.1
  have hPc : Pc a (A.U.calling g mk a) := hblind _ _ _ _ hp.2.2
  obtain ⟨U, Ls, c0, s0⟩ := A
  dsimp only [Pt.U, Pt.locs, Pt.cells, Pt.slots] at h1 h2 h3 h4 h5 X hn hPc ⊢
  obtain ⟨m9, methY, cY, hn9, hmY, hcY, -, hlY, -⟩ := Cond.codeWith_spec h2
  cases Option.some.inj (hn9.symm.trans hn)
  obtain ⟨kY, hkY, -⟩ := className_of_methodNamed hn
  have hinitY : kY.init = .initialized := Cond.initialized_spec (findClass_of_methodNamed hn) hkY h3
  have h : At U g.method c below := by rw [hg]; exact X.here
  have hlocals9 : W9 + (maxL + 11) + (headSpec ws rm).room.locals ≤ R.locals := hlocals
  have happ : (headSpec ws rm).appliesLoose y e.platform (U.calling g mk a) = true :=
    Spec.appliesLoose_calling (g := g) h hdg hn hkY hinitY
      (X.room_calling (g := g) (R' := (headSpec ws rm).room) hsize hmY hcY hframes (by rw [hlY]; omega) h4 h5) h1
  obtain ⟨mid, hmid⟩ := h.above
  have hfr : (U.setTop g).frames = (.java g :: mid) ++ below := by rw [State.frames_setTop' g h.top, hmid]; rfl
  obtain ⟨o, s₂, hsteps, -, hend, hq⟩ := Steps.callFree hM p X.admits X.cas X.clock (acts := []) hfr happ hPc trivial
  have hq' : vx_Q Qc XC mc ms free a (U.calling g mk a) o s₂ := hq
  rw [State.frames_setTop' g h.top] at hend
  obtain ⟨g₀, hg0⟩ := Option.isSome_iff_exists.mp h.top
  obtain ⟨r, hr⟩ := State.topJava?_eq_some.mp hg0
  have hr' : (({ U with heap := s₂.heap, slotsUsed := s₂.slotsUsed } : State).setVm s₂.vm).frames = .java g₀ :: r := hr
  rcases hq' with ⟨hqc, L, hfe, hL⟩ | ⟨q, rfl, E, ce, L, hx, hce, hcv, hcl, hW₂, hsm, hL⟩
  · obtain ⟨⟨v, rfl⟩, hW₂, e2, q2, q3, q4, q5, q6⟩ := id hfe
    have e3 : s₂ = ({ (U.calling g mk a).setFrames s₂.frames with heap := s₂.heap, slotsUsed := s₂.slotsUsed } : State).setVm s₂.vm := by
      have : s₂ = ({ s₂ with vm := (U.calling g mk a).vm } : State).setVm s₂.vm := rfl
      rw [e2] at this
      exact this
    obtain ⟨c₂, i₂, len₂, hc₂, hd₂, hf₂⟩ := hend
    have hW' : U.WarmedH s₂.vm := hW₂
    have hcc : c₂ = c := by
      have h1 : s₂.code? g.method = U.code? g.method := by
        rw [State.code?_eq, State.code?_eq, hW'.alike.method?]
      exact Option.some.inj (hc₂.symm.trans (h1.trans h.code))
    subst hcc
    have hlen : len₂ = len := by rw [hdg] at hd₂; cases hd₂; rfl
    subst hlen
    have hs₂ : s₂ = (({ U with heap := s₂.heap, slotsUsed := s₂.slotsUsed } : State).setVm s₂.vm).setTop { g with pc := g.pc + len₂, stack := v.toList ++ g.stack } := by
      refine e3.trans ?_
      rw [hf₂, State.calling_eq h.top, State.setFrames_setFrames, State.setTop_of_frames _ hr', hr]
      rfl
    have hsame : U.sameButNew ({ U with heap := s₂.heap, slotsUsed := s₂.slotsUsed } : State) L mc ms := by
      refine ⟨?_, q2, q3, q4, q5, q6⟩
      obtain ⟨t, ht, -⟩ := State.frames_cons hr
      show ({ U with heap := s₂.heap, slotsUsed := s₂.slotsUsed } : State) = { U.setFrames U.frames with heap := s₂.heap, slotsUsed := s₂.slotsUsed }
      rw [State.setFrames_self ht]
    subst hg
    refine Or.inl ⟨v, ⟨(({ U with heap := s₂.heap, slotsUsed := s₂.slotsUsed } : State).setVm s₂.vm), Ls ++ L, c0 + mc, s0 + ms⟩,
      ⟨X.admits, X.cas, X.clock, X.frames, X.room, X.hears, X.method, X.code, (X.here.setHeapUsed s₂.heap s₂.slotsUsed).setVm hW'.alike, X.tail, State.WarmedH.trans X.warmed hW', X.limits, X.bytes, X.same.trans (hsame.setVm s.vm)⟩,
      ⟨g, mk, s₂, L, rfl, rfl, hqc, rfl, hL, rfl, rfl⟩, ?_⟩
    show Steps p.tables e below _ ((({ U with heap := s₂.heap, slotsUsed := s₂.slotsUsed } : State).setVm s₂.vm).setTop { g with pc := g.pc + len₂, stack := v.toList ++ g.stack })
    rw [← hs₂]
    exact hsteps
  · obtain ⟨e2, q2, q3, q4, q5, q6⟩ := id hsm
    have e3 : s₂ = ({ (U.calling g mk a).setFrames s₂.frames with heap := s₂.heap, slotsUsed := s₂.slotsUsed } : State).setVm s₂.vm := by
      have : s₂ = ({ s₂ with vm := (U.calling g mk a).vm } : State).setVm s₂.vm := rfl
      rw [e2] at this
      exact this
    have hf₂ : s₂.frames = .throwing q :: .java g :: U.frames.tail := hend
    have hW' : U.WarmedH s₂.vm := hW₂
    have hs₂ : s₂ = ((({ U with heap := s₂.heap, slotsUsed := s₂.slotsUsed } : State).setVm s₂.vm).setTop g).pushFrame (.throwing q) := by
      refine e3.trans ?_
      rw [hf₂, State.calling_eq h.top, State.setFrames_setFrames, State.pushFrame, State.frames_setTop _ hr', State.setTop_of_frames _ hr', State.setFrames_setFrames, hr]
      rfl
    have hsame : U.sameButNew ({ U with heap := s₂.heap, slotsUsed := s₂.slotsUsed } : State) L mc ms := by
      refine ⟨?_, q2, q3, q4, q5, q6⟩
      obtain ⟨t, ht, -⟩ := State.frames_cons hr
      show ({ U with heap := s₂.heap, slotsUsed := s₂.slotsUsed } : State) = { U.setFrames U.frames with heap := s₂.heap, slotsUsed := s₂.slotsUsed }
      rw [State.setFrames_self ht]
    subst hg
    refine Or.inr ⟨q, ⟨(({ U with heap := s₂.heap, slotsUsed := s₂.slotsUsed } : State).setVm s₂.vm), Ls ++ L, c0 + mc, s0 + ms⟩,
      ⟨X.admits, X.cas, X.clock, X.frames, X.room, X.hears, X.method, X.code, (X.here.setHeapUsed s₂.heap s₂.slotsUsed).setVm hW'.alike, X.tail, State.WarmedH.trans X.warmed hW', X.limits, X.bytes, X.same.trans (hsame.setVm s.vm)⟩,
      ⟨g, mk, s₂, L, E, ce, rfl, rfl, hx, hce, hcv, hcl, rfl, hL, rfl, rfl⟩, ?_⟩
    show Steps p.tables e below _ (((({ U with heap := s₂.heap, slotsUsed := s₂.slotsUsed } : State).setVm s₂.vm).setTop g).pushFrame (.throwing q))
    rw [← hs₂]
    exact hsteps
end
variable {p : Program} {l : Launch} {e : Env} {R : Room} {s : State} {m : MethodId} {args : Array Value} {below : List Frame} {meth : Method} {c : Code} {T : State} {H : Heap} {locs : List Loc} {cells slots : Nat}
theorem vx_callVX (X : Stand p l e R s m args below meth c T locs cells slots) (hexec : p.tables.exec = Jvm.exec) {own C : String} {index : Nat} {y : MethodName} {bytes : ByteArray} {maxL : Nat} {ret : Option FieldType} {hh : List (Nat × Nat × Nat × Nat)}
    (hown : s.vm.findClass own = some m.cls) (hlink : (Cond.methodLink own index y).before args s = true) (hinst : (Cond.instanceMethod y).before args s = true) (hsel : (Cond.selects C y y).before args s = true)
    (hcode : (Cond.codeWith y bytes maxL ret hh).before args s = true) (hy : y.cls ≠ "java/lang/invoke/MethodHandle" ∧ y.cls ≠ "java/lang/invoke/VarHandle")
    {W9 : Nat} {Pre : Pt → Array Value → Prop} {Post : Pt → Array Value → Option Value → Pt → Prop} {PostX : Pt → Array Value → Addr → Pt → Prop} (hK : vx_Back l R p e below s args y 3 W9 Pre Post PostX)
    {b : Addr} {cellB : Cell} (hcell : T.heap[b]? = some cellB) (hobj : cellB.vm.isStatics = false) (hcls : s.vm.findClass C = some cellB.cls)
    {g : JFrame} (hg : g.method = m) (hsize : g.locals.size = c.maxLocals) {argsL rest : List Value} (hlen : ∀ sig, parseMethodDescriptor y.desc = some sig → argsL.length = sig.parameters.length)
    (hstack : g.stack = argsL.reverse ++ .ref b :: rest) (hW : 2 * g.monitorRoom + (rest.map fun v => v.category).sum ≤ W9) (hdg : decode c.code g.pc = .ok (.invokevirtual index, 3))
    (hpre : ∀ vm₁, s.WarmedH vm₁ → Pre ⟨T.setVm vm₁, locs, cells, slots⟩ (Value.ref b :: argsL).toArray) :
    (∃ (v : Option Value) (vm₁ : Vm) (B : Pt), s.WarmedH vm₁ ∧ Stand p l e R s m args below meth c B.U B.locs B.cells B.slots ∧ Post ⟨T.setVm vm₁, locs, cells, slots⟩ (Value.ref b :: argsL).toArray v B ∧
      ∀ target, Steps p.tables e below (B.U.setTop { g with pc := g.pc + 3, stack := v.toList ++ rest }) target → Steps p.tables e below (T.setTop g) target) ∨
    (∃ (q : Addr) (vm₁ : Vm) (B : Pt), s.WarmedH vm₁ ∧ Stand p l e R s m args below meth c B.U B.locs B.cells B.slots ∧ PostX ⟨T.setVm vm₁, locs, cells, slots⟩ (Value.ref b :: argsL).toArray q B ∧
      Steps p.tables e below (T.setTop g) ((B.U.setTop { g with stack := rest }).pushFrame (.throwing q))) := by
  obtain ⟨mk, methM, hnamed, hmethM, hstM, habM⟩ := Cond.instanceMethod_spec hinst
  obtain ⟨m8, methM', cM, hn8, hmethM', -, -, -, -, -, -, hsigM⟩ := Cond.codeWith_spec hcode
  cases Option.some.inj (hn8.symm.trans hnamed)
  cases hmethM.symm.trans hmethM'
  obtain ⟨c2, r2, m2, q1, q2, q3, q4, kP, hkP, hkPi⟩ := Cond.selects_spec hsel
  cases hcls.symm.trans q1
  cases (State.methodFound?_of_named hnamed hy).symm.trans q2
  cases hnamed.symm.trans q3
  have hselP : selectMethod e.platform s.vm cellB.cls mk = .method mk := by rw [Launch.admits_selectMethod X.admits]; exact q4
  obtain ⟨vm₁, X₁, hstep₁⟩ := X.invokevirtual hexec hown hlink hnamed hmethM hstM hkP hkPi hy (a := b) (cell := cellB) hcell
    (fun z h => by rw [h] at hobj; cases hobj) hselP hmethM habM hkP hkPi (g := g) hg (argsL := argsL) (rest := rest) (hlen _ hsigM) hstack hdg
  rcases hK m meth c ⟨T.setVm vm₁, locs, cells, slots⟩ { g with stack := rest } (.invokevirtual index) mk (Value.ref b :: argsL).toArray X₁ hg hsize hdg hW (X₁.named hnamed) (hpre vm₁ X₁.warmed) with ⟨v, B, X', hpost, hsteps⟩ | ⟨q, B, X', hpost, hsteps⟩
  · exact Or.inl ⟨v, vm₁, B, X₁.warmed, X', hpost, fun target h => hstep₁ _ fun acts => by rw [doInvoke_state]; exact hsteps.trans h⟩
  · exact Or.inr ⟨q, vm₁, B, X₁.warmed, X', hpost, hstep₁ _ fun acts => by rw [doInvoke_state]; exact hsteps⟩
theorem vx_callSX (X : Stand p l e R s m args below meth c T locs cells slots) (hexec : p.tables.exec = Jvm.exec) {own : String} {index : Nat} {y : MethodName} {bytes : ByteArray} {maxL : Nat} {ret : Option FieldType} {hh : List (Nat × Nat × Nat × Nat)}
    (hown : s.vm.findClass own = some m.cls) (hlink : (Cond.methodLink own index y).before args s = true) (hstat : (Cond.static y).before args s = true) (hinit : (Cond.initialized y.cls).before args s = true)
    (hcode : (Cond.codeWith y bytes maxL ret hh).before args s = true) (hy : y.cls ≠ "java/lang/invoke/MethodHandle" ∧ y.cls ≠ "java/lang/invoke/VarHandle")
    {W9 : Nat} {Pre : Pt → Array Value → Prop} {Post : Pt → Array Value → Option Value → Pt → Prop} {PostX : Pt → Array Value → Addr → Pt → Prop} (hK : vx_Back l R p e below s args y 3 W9 Pre Post PostX)
    {g : JFrame} (hg : g.method = m) (hsize : g.locals.size = c.maxLocals) {argsL rest : List Value} (hlen : ∀ sig, parseMethodDescriptor y.desc = some sig → argsL.length = sig.parameters.length)
    (hstack : g.stack = argsL.reverse ++ rest) (hW : 2 * g.monitorRoom + (rest.map fun v => v.category).sum ≤ W9) (hdg : decode c.code g.pc = .ok (.invokestatic index, 3))
    (hpre : ∀ vm₁, s.WarmedH vm₁ → Pre ⟨T.setVm vm₁, locs, cells, slots⟩ argsL.toArray) :
    (∃ (v : Option Value) (vm₁ : Vm) (B : Pt), s.WarmedH vm₁ ∧ Stand p l e R s m args below meth c B.U B.locs B.cells B.slots ∧ Post ⟨T.setVm vm₁, locs, cells, slots⟩ argsL.toArray v B ∧
      ∀ target, Steps p.tables e below (B.U.setTop { g with pc := g.pc + 3, stack := v.toList ++ rest }) target → Steps p.tables e below (T.setTop g) target) ∨
    (∃ (q : Addr) (vm₁ : Vm) (B : Pt), s.WarmedH vm₁ ∧ Stand p l e R s m args below meth c B.U B.locs B.cells B.slots ∧ PostX ⟨T.setVm vm₁, locs, cells, slots⟩ argsL.toArray q B ∧
      Steps p.tables e below (T.setTop g) ((B.U.setTop { g with stack := rest }).pushFrame (.throwing q))) := by
  obtain ⟨mk, methM, cM, hnamed, hmethM, -, -, -, -, -, -, hsigM⟩ := Cond.codeWith_spec hcode
  have hstatic : methM.isStatic = true := Cond.static_spec hnamed hmethM hstat
  obtain ⟨kP, hkP, -⟩ := className_of_methodNamed hnamed
  have hinitP : kP.init = .initialized := Cond.initialized_spec (findClass_of_methodNamed hnamed) hkP hinit
  obtain ⟨vm₁, X₁, hstep₁⟩ := X.invokestatic hexec hown hlink hnamed hmethM hstatic hkP hinitP hy (g := g) hg (argsL := argsL) (rest := rest) (hlen _ hsigM) hstack hdg
  rcases hK m meth c ⟨T.setVm vm₁, locs, cells, slots⟩ { g with stack := rest } (.invokestatic index) mk argsL.toArray X₁ hg hsize hdg hW (X₁.named hnamed) (hpre vm₁ X₁.warmed) with ⟨v, B, X', hpost, hsteps⟩ | ⟨q, B, X', hpost, hsteps⟩
  · exact Or.inl ⟨v, vm₁, B, X₁.warmed, X', hpost, fun target h => hstep₁ _ fun acts => by rw [doInvoke_state]; exact hsteps.trans h⟩
  · exact Or.inr ⟨q, vm₁, B, X₁.warmed, X', hpost, hstep₁ _ fun acts => by rw [doInvoke_state]; exact hsteps⟩
theorem vx_callVW (X : Stand p l e R s m args below meth c T locs cells slots) (hexec : p.tables.exec = Jvm.exec) {own C : String} {index : Nat} {y : MethodName} {bytes : ByteArray} {maxL : Nat} {ret : Option FieldType} {hh : List (Nat × Nat × Nat × Nat)}
    (hown : s.vm.findClass own = some m.cls) (hlink : (Cond.methodLink own index y).before args s = true) (hinst : (Cond.instanceMethod y).before args s = true) (hsel : (Cond.selects C y y).before args s = true)
    (hcode : (Cond.codeWith y bytes maxL ret hh).before args s = true) (hy : y.cls ≠ "java/lang/invoke/MethodHandle" ∧ y.cls ≠ "java/lang/invoke/VarHandle")
    {W9 : Nat} {Pre : Pt → Array Value → Prop} {Post : Pt → Array Value → Option Value → Pt → Prop} (hK : Back l R p e below s args y 3 W9 Pre Post)
    {b : Addr} {cellB : Cell} (hcell : T.heap[b]? = some cellB) (hobj : cellB.vm.isStatics = false) (hcls : s.vm.findClass C = some cellB.cls)
    {g : JFrame} (hg : g.method = m) (hsize : g.locals.size = c.maxLocals) {argsL rest : List Value} (hlen : ∀ sig, parseMethodDescriptor y.desc = some sig → argsL.length = sig.parameters.length)
    (hstack : g.stack = argsL.reverse ++ .ref b :: rest) (hW : 2 * g.monitorRoom + (rest.map fun v => v.category).sum ≤ W9) (hdg : decode c.code g.pc = .ok (.invokevirtual index, 3))
    (hpre : ∀ vm₁, s.WarmedH vm₁ → Pre ⟨T.setVm vm₁, locs, cells, slots⟩ (Value.ref b :: argsL).toArray) :
    ∃ (v : Option Value) (vm₁ : Vm) (B : Pt), s.WarmedH vm₁ ∧ Stand p l e R s m args below meth c B.U B.locs B.cells B.slots ∧ Post ⟨T.setVm vm₁, locs, cells, slots⟩ (Value.ref b :: argsL).toArray v B ∧
      ∀ target, Steps p.tables e below (B.U.setTop { g with pc := g.pc + 3, stack := v.toList ++ rest }) target → Steps p.tables e below (T.setTop g) target := by
  obtain ⟨mk, methM, hnamed, hmethM, hstM, habM⟩ := Cond.instanceMethod_spec hinst
  obtain ⟨m8, methM', cM, hn8, hmethM', -, -, -, -, -, -, hsigM⟩ := Cond.codeWith_spec hcode
  cases Option.some.inj (hn8.symm.trans hnamed)
  cases hmethM.symm.trans hmethM'
  obtain ⟨c2, r2, m2, q1, q2, q3, q4, kP, hkP, hkPi⟩ := Cond.selects_spec hsel
  cases hcls.symm.trans q1
  cases (State.methodFound?_of_named hnamed hy).symm.trans q2
  cases hnamed.symm.trans q3
  have hselP : selectMethod e.platform s.vm cellB.cls mk = .method mk := by rw [Launch.admits_selectMethod X.admits]; exact q4
  obtain ⟨vm₁, X₁, hstep₁⟩ := X.invokevirtual hexec hown hlink hnamed hmethM hstM hkP hkPi hy (a := b) (cell := cellB) hcell
    (fun z h => by rw [h] at hobj; cases hobj) hselP hmethM habM hkP hkPi (g := g) hg (argsL := argsL) (rest := rest) (hlen _ hsigM) hstack hdg
  obtain ⟨v, B, X', hpost, hsteps⟩ := hK m meth c ⟨T.setVm vm₁, locs, cells, slots⟩ { g with stack := rest } (.invokevirtual index) mk (Value.ref b :: argsL).toArray X₁ hg hsize hdg hW (X₁.named hnamed) (hpre vm₁ X₁.warmed)
  exact ⟨v, vm₁, B, X₁.warmed, X', hpost, fun target h => hstep₁ _ fun acts => by rw [doInvoke_state]; exact hsteps.trans h⟩
abbrev vx_CVW (R : Room) (s : State) (args : Array Value) (own C : String) (index : Nat) (y : MethodName) (bytes : ByteArray) (maxL : Nat) (ret : Option FieldType) (hh : List (Nat × Nat × Nat × Nat)) (ws : List Cond) (rm : Room) (mc ms n : Nat) : Prop :=
  (rm.cells = mc ∧ rm.slots = ms ∧ rm.frames + 1 ≤ R.frames ∧ 8 + (maxL + 11) + rm.locals ≤ R.locals ∧ (∀ w ∈ ws, ∀ (a' : Array Value) (U : State), s.WarmedH U.vm → w.before a' U = true) ∧ Cond.codeWith y bytes maxL ret hh ∈ ws) ∧
  (Cond.codeWith y bytes maxL ret hh).before args s = true ∧ (Cond.initialized y.cls).before args s = true ∧ (y.cls ≠ "java/lang/invoke/MethodHandle" ∧ y.cls ≠ "java/lang/invoke/VarHandle") ∧
  (∀ sig, parseMethodDescriptor y.desc = some sig → n = sig.parameters.length) ∧ (Cond.methodLink own index y).before args s = true ∧ (Cond.instanceMethod y).before args s = true ∧ (Cond.selects C y y).before args s = true
theorem vx_cwVW {own C : String} {index maxL mc ms : Nat} {y : MethodName} {bytes : ByteArray} {ret : Option FieldType} {hh : List (Nat × Nat × Nat × Nat)} {Ts ws ws' : List Cond} {rm : Room} (n : Nat) (ht : ∀ w ∈ Ts, w.before args s = true) (hT : GoodIn Ts (wsV own index C y ws)) (hw : ws = Cond.codeWith y bytes maxL ret hh :: ws') (hrc : rm.cells = mc) (hrs : rm.slots = ms)
    (hd : y.cls = C ∧ y.cls ≠ "java/lang/invoke/MethodHandle" ∧ y.cls ≠ "java/lang/invoke/VarHandle" ∧ (parseMethodDescriptor y.desc).map (fun d => d.parameters.length) = some n) (hR : rm.frames + 1 ≤ R.frames ∧ 8 + (maxL + 11) + rm.locals ≤ R.locals) :
    vx_CVW R s args own C index y bytes maxL ret hh ws rm mc ms n := by
  obtain ⟨hC, hd⟩ := hd
  subst hC
  have ok : ∀ w ∈ wsV own index y.cls y ws, w.before args s = true := fun w h => ht w (hT w h).1
  have hG : GoodIn Ts ws := fun w h => hT w (by unfold wsV; exact List.mem_append_right _ h)
  have hc : Cond.codeWith y bytes maxL ret hh ∈ ws := by rw [hw]; exact List.mem_cons_self
  refine ⟨⟨hrc, hrs, hR.1, hR.2, pay_in ht hG, hc⟩, ht _ (hG _ hc).1, ok _ (by simp [wsV]), ⟨hd.1, hd.2.1⟩, fun sig h => ?_, ok _ (by simp [wsV]), ok _ (by simp [wsV]), ok _ (by simp [wsV])⟩
  have h2 := hd.2.2
  rw [h] at h2
  exact (Option.some.inj h2).symm
theorem vx_runVW {y : MethodName} {bytes cc : ByteArray} {maxL nL mc ms n index : Nat} {ret : Option FieldType} {hh : List (Nat × Nat × Nat × Nat)} {ws : List Cond} {rm : Room} {Pc : Array Value → State → Prop} {Qc : Array Value → State → Outcome → State → Prop} {free : Addr → Prop} {Ts : List Cond} {own C : String} {b : Addr} {As rest : List Value} {g : JFrame}
    (S : CallFix p m c cc nL s args Ts own) (hM : Met l y ws rm Pc Qc mc ms free) (cw : vx_CVW R s args own C index y bytes maxL ret hh ws rm mc ms n) (hp : PreV s H C b Pc As)
    (hg : g.method = m) (hn : As.length = n) (hsize : g.locals.size = nL) (hstack : g.stack = As.reverse ++ .ref b :: rest) (hW : 2 * g.monitorRoom + (rest.map fun v => v.category).sum ≤ 8) (hdg : decode cc g.pc = .ok (.invokevirtual index, 3)) (hf : cells + mc ≤ R.cells ∧ slots + ms ≤ R.slots) :
    va_Run p l e R s m args below meth c H locs cells slots mc ms g rest (Qc (Value.ref b :: As).toArray) free := by
  obtain ⟨⟨hrc, hrs, hfr, hlo, hws, hcw⟩, hcode, hini, hy, hlen, hl, hin, hse⟩ := cw
  have hK : Back l R p e below s args y 3 8 (PreOf R mc ms Pc) (PostOf Qc mc ms free) := va_backW (hh := hh) (bytes := bytes) (maxL := maxL) (ret := ret) hM hp.1 hrc hrs hfr hlo hws hcw (fun a' U hW => word_at hW (Or.inl (by first | rfl | simp [Cond.onTables, Cond.keeps, Cond.steady])) hini)
  obtain ⟨hx, hb, hml, ho, -⟩ := S
  obtain ⟨-, ⟨cellB, hcB, hoB, hclB⟩, hPc⟩ := hp
  intro T hT X
  obtain ⟨v, vm₁, ⟨U', l2, c2, s2⟩, hW₁, X', ⟨g', mk, t, L, e1, e2, hq, h1, hL, h2, h3⟩, st⟩ := vx_callVW X hx (C := C) (hh := hh) (bytes := bytes) (maxL := maxL) (ret := ret) ho hl hin hse hcode hy hK (by rw [hT]; exact hcB) hoB hclB hg (hsize.trans hml.symm) (argsL := As) (rest := rest) (fun sig h => hn.trans (hlen sig h)) hstack hW (by rw [hb]; exact hdg)
    (fun vm₁ hW₁ => ⟨hf.1, hf.2, hPc (T.setVm vm₁) hT hW₁⟩)
  dsimp only [Pt.U, Pt.locs, Pt.cells, Pt.slots] at X' e1 e2 h1 h2 h3 st
  subst h1; subst h2; subst h3
  exact ⟨v, (T.setVm vm₁).calling g' mk (Value.ref b :: As).toArray, t, U', L, hT, X', hL, e1, e2, hq, st⟩
section
variable {y : MethodName} {bytes cc : ByteArray} {maxL nL mc ms n index : Nat} {ret : Option FieldType} {ws : List Cond} {rm : Room} {Pc : Array Value → State → Prop} {Qc : Array Value → State → Outcome → State → Prop} {XC : String → State → State → Prop} {free : Addr → Prop} {Ts : List Cond} {own C : String} {b : Addr} {As rest : List Value} {g : JFrame}
theorem vx_runVX {hh : List (Nat × Nat × Nat × Nat)} (S : CallFix p m c cc nL s args Ts own) (hM : vx_Met l y ws rm Pc Qc XC mc ms free) (cw : vx_CVW R s args own C index y bytes maxL ret hh ws rm mc ms n) (hp : PreV s H C b Pc As)
    (hg : g.method = m) (hn : As.length = n) (hsize : g.locals.size = nL) (hstack : g.stack = As.reverse ++ .ref b :: rest) (hW : 2 * g.monitorRoom + (rest.map fun v => v.category).sum ≤ 8) (hdg : decode cc g.pc = .ok (.invokevirtual index, 3)) (hf : cells + mc ≤ R.cells ∧ slots + ms ≤ R.slots) :
    vx_Run p l e R s m args below meth c H locs cells slots mc ms g rest (Qc (Value.ref b :: As).toArray) XC free := by
  obtain ⟨⟨hrc, hrs, hfr, hlo, hws, hcw⟩, hcode, hini, hy, hlen, hl, hin, hse⟩ := cw
  have hK : vx_Back l R p e below s args y 3 8 (PreOf R mc ms Pc) (PostOf Qc mc ms free) (vx_Post XC mc ms free) := vx_backW (hh := hh) (bytes := bytes) (maxL := maxL) (ret := ret) hM hp.1 hrc hrs hfr hlo hws hcw (fun a' U hW => word_at hW (Or.inl (by first | rfl | simp [Cond.onTables, Cond.keeps, Cond.steady])) hini)
  obtain ⟨hx, hb, hml, ho, -⟩ := S
  obtain ⟨-, ⟨cellB, hcB, hoB, hclB⟩, hPc⟩ := hp
  intro T hT X
  rcases vx_callVX X hx (C := C) (hh := hh) (bytes := bytes) (maxL := maxL) (ret := ret) ho hl hin hse hcode hy hK (by rw [hT]; exact hcB) hoB hclB hg (hsize.trans hml.symm) (argsL := As) (rest := rest) (fun sig h => hn.trans (hlen sig h)) hstack hW (by rw [hb]; exact hdg)
    (fun vm₁ hW₁ => ⟨hf.1, hf.2, hPc (T.setVm vm₁) hT hW₁⟩) with ⟨v, vm₁, ⟨U', l2, c2, s2⟩, hW₁, X', ⟨g', mk, t, L, e1, e2, hq, h1, hL, h2, h3⟩, st⟩ | ⟨q, vm₁, ⟨U', l2, c2, s2⟩, hW₁, X', ⟨g', mk, t, L, E, ce, e1, e2, hq, hce, hcv, hcl, h1, hL, h2, h3⟩, st⟩
  · dsimp only [Pt.U, Pt.locs, Pt.cells, Pt.slots] at X' e1 e2 h1 h2 h3 st
    subst h1; subst h2; subst h3
    exact Or.inl ⟨v, (T.setVm vm₁).calling g' mk (Value.ref b :: As).toArray, t, U', L, hT, X', hL, e1, e2, hq, st⟩
  · dsimp only [Pt.U, Pt.locs, Pt.cells, Pt.slots] at X' e1 e2 h1 h2 h3 st hcl
    subst h1; subst h2; subst h3
    exact Or.inr ⟨q, (T.setVm vm₁).calling g' mk (Value.ref b :: As).toArray, t, U', L, E, ce, hT, X', hL, e1, e2, hq, hce, hcv, vx_cls hW₁ hcl, st⟩
theorem vx_runSX {hh : List (Nat × Nat × Nat × Nat)} (S : CallFix p m c cc nL s args Ts own) (hM : vx_Met l y ws rm Pc Qc XC mc ms free) (cw : vx_CSW R s args own index y bytes maxL ret hh ws rm mc ms n) (hp : PreS s H Pc As)
    (hg : g.method = m) (hn : As.length = n) (hsize : g.locals.size = nL) (hstack : g.stack = As.reverse ++ rest) (hW : 2 * g.monitorRoom + (rest.map fun v => v.category).sum ≤ 8) (hdg : decode cc g.pc = .ok (.invokestatic index, 3)) (hf : cells + mc ≤ R.cells ∧ slots + ms ≤ R.slots) :
    vx_Run p l e R s m args below meth c H locs cells slots mc ms g rest (Qc As.toArray) XC free := by
  obtain ⟨⟨hrc, hrs, hfr, hlo, hws, hcw⟩, hcode, hini, hy, hlen, hl, hstt⟩ := cw
  have hK : vx_Back l R p e below s args y 3 8 (PreOf R mc ms Pc) (PostOf Qc mc ms free) (vx_Post XC mc ms free) := vx_backW (hh := hh) (bytes := bytes) (maxL := maxL) (ret := ret) hM hp.1 hrc hrs hfr hlo hws hcw (fun a' U hW => word_at hW (Or.inl (by first | rfl | simp [Cond.onTables, Cond.keeps, Cond.steady])) hini)
  obtain ⟨hx, hb, hml, ho, -⟩ := S
  intro T hT X
  rcases vx_callSX X hx (hh := hh) (bytes := bytes) (maxL := maxL) (ret := ret) ho hl hstt hini hcode hy hK hg (hsize.trans hml.symm) (argsL := As) (rest := rest) (fun sig h => hn.trans (hlen sig h)) hstack hW (by rw [hb]; exact hdg)
    (fun vm₁ hW₁ => ⟨hf.1, hf.2, hp.2 (T.setVm vm₁) hT hW₁⟩) with ⟨v, vm₁, ⟨U', l2, c2, s2⟩, hW₁, X', ⟨g', mk, t, L, e1, e2, hq, h1, hL, h2, h3⟩, st⟩ | ⟨q, vm₁, ⟨U', l2, c2, s2⟩, hW₁, X', ⟨g', mk, t, L, E, ce, e1, e2, hq, hce, hcv, hcl, h1, hL, h2, h3⟩, st⟩
  · dsimp only [Pt.U, Pt.locs, Pt.cells, Pt.slots] at X' e1 e2 h1 h2 h3 st
    subst h1; subst h2; subst h3
    exact Or.inl ⟨v, (T.setVm vm₁).calling g' mk As.toArray, t, U', L, hT, X', hL, e1, e2, hq, st⟩
  · dsimp only [Pt.U, Pt.locs, Pt.cells, Pt.slots] at X' e1 e2 h1 h2 h3 st hcl
    subst h1; subst h2; subst h3
    exact Or.inr ⟨q, (T.setVm vm₁).calling g' mk As.toArray, t, U', L, E, ce, hT, X', hL, e1, e2, hq, hce, hcv, vx_cls hW₁ hcl, st⟩
end
end VXH
theorem vx_ofWH {l : Launch} {y : MethodName} {ws ws' : List Cond} {rm : Room} {Pc : Array Value → State → Prop} {Qc : Array Value → State → Outcome → State → Prop} {XC : String → State → State → Prop} {mc ms : Nat} {free : Addr → Prop} {cc : ByteArray} {maxL : Nat} {ret : Option FieldType} {hh : List (Nat × Nat × Nat × Nat)}
    (hy : plainName y.cls = true) (hw : ws = Cond.codeWith y cc maxL ret hh :: ws')
    (body : ∀ p e s m args below meth c s₁, BodyLoose p l y (headSpec ws rm) cc maxL ret e s m args below meth c s₁ → c.maxLocals = maxL → Pc args s →
      W p l e (headSpec ws rm).room s m args below meth c s.heap [] 0 0 (vx_MQ below Qc XC args s mc ms free) (entryFrame m args maxL)) : vx_Met l y ws rm Pc Qc XC mc ms free := by
  refine MetFree.of_bodyS (code := cc) (maxLocals := maxL) (ret := ret) hy ?_ ?_
  · intro args s m h hn
    obtain ⟨m9, meth, c, hn9, h1, h2, h3, h4, -, h5, h6, -⟩ := Cond.codeWith_spec (atoms_spec (ws := ws) h _ (by rw [hw]; exact List.mem_cons_self))
    cases hn.symm.trans hn9
    exact ⟨meth, c, h1, h2, h3, h4, h5, h6⟩
  · intro p e s m args below meth c s₁ B hml hP _
    have hh0 : s₁.heap = s.heap := by rw [B.state]; rfl
    obtain ⟨t, a1, o, b1, b2, b3⟩ := body p e s m args below meth c s₁ B hml hP s₁ hh0 (Stand.of_body B)
    exact ⟨t, o, a1, b1, b2, b3⟩
/-! ===== END ===== -/
end
section
-- ===== PART A: goes FIRST, ahead of the names: the tables' words, and 'selects' of the private methods out of them =====
/-- a private method of a class that the tables say can be made, by its rows of tables_1 -/
def lw_okq (q : MethodName × Nat) : Prop := (q.1.cls ≠ "java/lang/invoke/MethodHandle" ∧ q.1.cls ≠ "java/lang/invoke/VarHandle") ∧ Cond.instantiable q.1.cls q.2 ∈ tables_1 ∧ Cond.privateMethod q.1 ∈ tables_1 ∧ Cond.instanceMethod q.1 ∈ tables_1
theorem lw_p0 : lw_okq (⟨"SaucerFair$Acts", "forgetEldest", "()V"⟩, 5) := ⟨⟨by decide +kernel, by decide +kernel⟩, List.mem_of_getElem? (i := 321) (by decide +kernel), List.mem_of_getElem? (i := 458) (by decide +kernel), List.mem_of_getElem? (i := 459) (by decide +kernel)⟩
theorem lw_p1 : lw_okq (⟨"SaucerFair$Watch", "wayX", "(II)I"⟩, 10) := ⟨⟨by decide +kernel, by decide +kernel⟩, List.mem_of_getElem? (i := 240) (by decide +kernel), List.mem_of_getElem? (i := 476) (by decide +kernel), List.mem_of_getElem? (i := 477) (by decide +kernel)⟩
theorem lw_p2 : lw_okq (⟨"SaucerFair$Watch", "wayY", "(II)I"⟩, 10) := ⟨⟨by decide +kernel, by decide +kernel⟩, List.mem_of_getElem? (i := 240) (by decide +kernel), List.mem_of_getElem? (i := 480) (by decide +kernel), List.mem_of_getElem? (i := 481) (by decide +kernel)⟩
theorem lw_p3 : lw_okq (⟨"SaucerFair$Watch", "farBetween", "(II)I"⟩, 10) := ⟨⟨by decide +kernel, by decide +kernel⟩, List.mem_of_getElem? (i := 240) (by decide +kernel), List.mem_of_getElem? (i := 489) (by decide +kernel), List.mem_of_getElem? (i := 490) (by decide +kernel)⟩
theorem lw_p4 : lw_okq (⟨"SaucerFair$Watch", "turns", "(IIIIII)Z"⟩, 10) := ⟨⟨by decide +kernel, by decide +kernel⟩, List.mem_of_getElem? (i := 240) (by decide +kernel), List.mem_of_getElem? (i := 502) (by decide +kernel), List.mem_of_getElem? (i := 503) (by decide +kernel)⟩
theorem lw_p5 : lw_okq (⟨"SaucerFair$Watch", "addUp", "(LSaucerFair$Way;II)V"⟩, 10) := ⟨⟨by decide +kernel, by decide +kernel⟩, List.mem_of_getElem? (i := 240) (by decide +kernel), List.mem_of_getElem? (i := 520) (by decide +kernel), List.mem_of_getElem? (i := 521) (by decide +kernel)⟩
theorem lw_p6 : lw_okq (⟨"SaucerFair$Watch", "addPerson", "(LSaucerFair$Way;II)V"⟩, 10) := ⟨⟨by decide +kernel, by decide +kernel⟩, List.mem_of_getElem? (i := 240) (by decide +kernel), List.mem_of_getElem? (i := 528) (by decide +kernel), List.mem_of_getElem? (i := 529) (by decide +kernel)⟩
theorem lw_p7 : lw_okq (⟨"java/lang/Throwable", "fillInStackTrace", "(I)Ljava/lang/Throwable;"⟩, 6) := ⟨⟨by decide +kernel, by decide +kernel⟩, List.mem_of_getElem? (i := 666) (by decide +kernel), List.mem_of_getElem? (i := 664) (by decide +kernel), List.mem_of_getElem? (i := 665) (by decide +kernel)⟩
theorem lw_p8 : lw_okq (⟨"SaucerFair$Reader", "advance", "()V"⟩, 10) := ⟨⟨by decide +kernel, by decide +kernel⟩, List.mem_of_getElem? (i := 36) (by decide +kernel), List.mem_of_getElem? (i := 707) (by decide +kernel), List.mem_of_getElem? (i := 708) (by decide +kernel)⟩
theorem lw_p9 : lw_okq (⟨"SaucerFair$Reader", "readLine", "()Z"⟩, 10) := ⟨⟨by decide +kernel, by decide +kernel⟩, List.mem_of_getElem? (i := 36) (by decide +kernel), List.mem_of_getElem? (i := 714) (by decide +kernel), List.mem_of_getElem? (i := 715) (by decide +kernel)⟩
theorem lw_p10 : lw_okq (⟨"SaucerFair$Reader", "isWord", "(Ljava/lang/String;)Z"⟩, 10) := ⟨⟨by decide +kernel, by decide +kernel⟩, List.mem_of_getElem? (i := 36) (by decide +kernel), List.mem_of_getElem? (i := 719) (by decide +kernel), List.mem_of_getElem? (i := 720) (by decide +kernel)⟩
theorem lw_p11 : lw_okq (⟨"SaucerFair$Reader", "readPerson", "()Z"⟩, 10) := ⟨⟨by decide +kernel, by decide +kernel⟩, List.mem_of_getElem? (i := 36) (by decide +kernel), List.mem_of_getElem? (i := 771) (by decide +kernel), List.mem_of_getElem? (i := 772) (by decide +kernel)⟩
theorem lw_p12 : lw_okq (⟨"SaucerFair$Reader", "refuse", "(I)Z"⟩, 10) := ⟨⟨by decide +kernel, by decide +kernel⟩, List.mem_of_getElem? (i := 36) (by decide +kernel), List.mem_of_getElem? (i := 775) (by decide +kernel), List.mem_of_getElem? (i := 776) (by decide +kernel)⟩
theorem lw_p13 : lw_okq (⟨"SaucerFair$Reader", "isNumber", "(II)Z"⟩, 10) := ⟨⟨by decide +kernel, by decide +kernel⟩, List.mem_of_getElem? (i := 36) (by decide +kernel), List.mem_of_getElem? (i := 779) (by decide +kernel), List.mem_of_getElem? (i := 780) (by decide +kernel)⟩
theorem lw_p14 : lw_okq (⟨"SaucerFair$Reader", "taken", "()I"⟩, 10) := ⟨⟨by decide +kernel, by decide +kernel⟩, List.mem_of_getElem? (i := 36) (by decide +kernel), List.mem_of_getElem? (i := 783) (by decide +kernel), List.mem_of_getElem? (i := 784) (by decide +kernel)⟩
theorem lw_p15 : lw_okq (⟨"SaucerFair$Reader", "isFreePlace", "([I[III)Z"⟩, 10) := ⟨⟨by decide +kernel, by decide +kernel⟩, List.mem_of_getElem? (i := 36) (by decide +kernel), List.mem_of_getElem? (i := 787) (by decide +kernel), List.mem_of_getElem? (i := 788) (by decide +kernel)⟩
def lw_privs_1 : List (MethodName × Nat) := [(⟨"SaucerFair$Acts", "forgetEldest", "()V"⟩, 5), (⟨"SaucerFair$Watch", "wayX", "(II)I"⟩, 10), (⟨"SaucerFair$Watch", "wayY", "(II)I"⟩, 10), (⟨"SaucerFair$Watch", "farBetween", "(II)I"⟩, 10), (⟨"SaucerFair$Watch", "turns", "(IIIIII)Z"⟩, 10), (⟨"SaucerFair$Watch", "addUp", "(LSaucerFair$Way;II)V"⟩, 10), (⟨"SaucerFair$Watch", "addPerson", "(LSaucerFair$Way;II)V"⟩, 10), (⟨"java/lang/Throwable", "fillInStackTrace", "(I)Ljava/lang/Throwable;"⟩, 6), (⟨"SaucerFair$Reader", "advance", "()V"⟩, 10), (⟨"SaucerFair$Reader", "readLine", "()Z"⟩, 10), (⟨"SaucerFair$Reader", "isWord", "(Ljava/lang/String;)Z"⟩, 10), (⟨"SaucerFair$Reader", "readPerson", "()Z"⟩, 10), (⟨"SaucerFair$Reader", "refuse", "(I)Z"⟩, 10), (⟨"SaucerFair$Reader", "isNumber", "(II)Z"⟩, 10), (⟨"SaucerFair$Reader", "taken", "()I"⟩, 10), (⟨"SaucerFair$Reader", "isFreePlace", "([I[III)Z"⟩, 10)]
theorem lw_r1 : ∀ q ∈ lw_privs_1, lw_okq q := List.forall_mem_cons.mpr ⟨lw_p0, List.forall_mem_cons.mpr ⟨lw_p1, List.forall_mem_cons.mpr ⟨lw_p2, List.forall_mem_cons.mpr ⟨lw_p3, List.forall_mem_cons.mpr ⟨lw_p4, List.forall_mem_cons.mpr ⟨lw_p5, List.forall_mem_cons.mpr ⟨lw_p6, List.forall_mem_cons.mpr ⟨lw_p7, List.forall_mem_cons.mpr ⟨lw_p8, List.forall_mem_cons.mpr ⟨lw_p9, List.forall_mem_cons.mpr ⟨lw_p10, List.forall_mem_cons.mpr ⟨lw_p11, List.forall_mem_cons.mpr ⟨lw_p12, List.forall_mem_cons.mpr ⟨lw_p13, List.forall_mem_cons.mpr ⟨lw_p14, List.forall_mem_cons.mpr ⟨lw_p15, fun _ h => absurd h List.not_mem_nil⟩⟩⟩⟩⟩⟩⟩⟩⟩⟩⟩⟩⟩⟩⟩⟩
theorem lw_p16 : lw_okq (⟨"SaucerFair$Reader", "readSign", "(I)Z"⟩, 10) := ⟨⟨by decide +kernel, by decide +kernel⟩, List.mem_of_getElem? (i := 36) (by decide +kernel), List.mem_of_getElem? (i := 795) (by decide +kernel), List.mem_of_getElem? (i := 796) (by decide +kernel)⟩
theorem lw_p17 : lw_okq (⟨"SaucerFair$Reader", "readNeedle", "()Z"⟩, 10) := ⟨⟨by decide +kernel, by decide +kernel⟩, List.mem_of_getElem? (i := 36) (by decide +kernel), List.mem_of_getElem? (i := 800) (by decide +kernel), List.mem_of_getElem? (i := 801) (by decide +kernel)⟩
theorem lw_p18 : lw_okq (⟨"SaucerFair$Reader", "readSaying", "()Z"⟩, 10) := ⟨⟨by decide +kernel, by decide +kernel⟩, List.mem_of_getElem? (i := 36) (by decide +kernel), List.mem_of_getElem? (i := 809) (by decide +kernel), List.mem_of_getElem? (i := 810) (by decide +kernel)⟩
theorem lw_p19 : lw_okq (⟨"SaucerFair$Reader", "readRule", "(LSaucerFair$Rule;)Z"⟩, 10) := ⟨⟨by decide +kernel, by decide +kernel⟩, List.mem_of_getElem? (i := 36) (by decide +kernel), List.mem_of_getElem? (i := 815) (by decide +kernel), List.mem_of_getElem? (i := 816) (by decide +kernel)⟩
theorem lw_p20 : lw_okq (⟨"SaucerFair$Reader", "readExpr", "(LSaucerFair$Rule;I)Z"⟩, 10) := ⟨⟨by decide +kernel, by decide +kernel⟩, List.mem_of_getElem? (i := 36) (by decide +kernel), List.mem_of_getElem? (i := 819) (by decide +kernel), List.mem_of_getElem? (i := 820) (by decide +kernel)⟩
theorem lw_p21 : lw_okq (⟨"SaucerFair$Reader", "readAnd", "(LSaucerFair$Rule;I)Z"⟩, 10) := ⟨⟨by decide +kernel, by decide +kernel⟩, List.mem_of_getElem? (i := 36) (by decide +kernel), List.mem_of_getElem? (i := 823) (by decide +kernel), List.mem_of_getElem? (i := 824) (by decide +kernel)⟩
theorem lw_p22 : lw_okq (⟨"SaucerFair$Reader", "readNot", "(LSaucerFair$Rule;I)Z"⟩, 10) := ⟨⟨by decide +kernel, by decide +kernel⟩, List.mem_of_getElem? (i := 36) (by decide +kernel), List.mem_of_getElem? (i := 827) (by decide +kernel), List.mem_of_getElem? (i := 828) (by decide +kernel)⟩
theorem lw_p23 : lw_okq (⟨"SaucerFair$Reader", "readTest", "(LSaucerFair$Rule;I)Z"⟩, 10) := ⟨⟨by decide +kernel, by decide +kernel⟩, List.mem_of_getElem? (i := 36) (by decide +kernel), List.mem_of_getElem? (i := 832) (by decide +kernel), List.mem_of_getElem? (i := 833) (by decide +kernel)⟩
theorem lw_p24 : lw_okq (⟨"SaucerFair$Reader", "readSum", "(LSaucerFair$Rule;I)Z"⟩, 10) := ⟨⟨by decide +kernel, by decide +kernel⟩, List.mem_of_getElem? (i := 36) (by decide +kernel), List.mem_of_getElem? (i := 836) (by decide +kernel), List.mem_of_getElem? (i := 837) (by decide +kernel)⟩
theorem lw_p25 : lw_okq (⟨"SaucerFair$Reader", "readProduct", "(LSaucerFair$Rule;I)Z"⟩, 10) := ⟨⟨by decide +kernel, by decide +kernel⟩, List.mem_of_getElem? (i := 36) (by decide +kernel), List.mem_of_getElem? (i := 840) (by decide +kernel), List.mem_of_getElem? (i := 841) (by decide +kernel)⟩
theorem lw_p26 : lw_okq (⟨"SaucerFair$Reader", "readPart", "(LSaucerFair$Rule;I)Z"⟩, 10) := ⟨⟨by decide +kernel, by decide +kernel⟩, List.mem_of_getElem? (i := 36) (by decide +kernel), List.mem_of_getElem? (i := 844) (by decide +kernel), List.mem_of_getElem? (i := 845) (by decide +kernel)⟩
theorem lw_p27 : lw_okq (⟨"SaucerFair$Reader", "turnsValue", "()I"⟩, 10) := ⟨⟨by decide +kernel, by decide +kernel⟩, List.mem_of_getElem? (i := 36) (by decide +kernel), List.mem_of_getElem? (i := 848) (by decide +kernel), List.mem_of_getElem? (i := 849) (by decide +kernel)⟩
theorem lw_p28 : lw_okq (⟨"SaucerFair$Reader", "courtValue", "()I"⟩, 10) := ⟨⟨by decide +kernel, by decide +kernel⟩, List.mem_of_getElem? (i := 36) (by decide +kernel), List.mem_of_getElem? (i := 858) (by decide +kernel), List.mem_of_getElem? (i := 859) (by decide +kernel)⟩
theorem lw_p29 : lw_okq (⟨"SaucerFair", "needPerson", "(I)V"⟩, 18) := ⟨⟨by decide +kernel, by decide +kernel⟩, List.mem_of_getElem? (i := 28) (by decide +kernel), List.mem_of_getElem? (i := 919) (by decide +kernel), List.mem_of_getElem? (i := 920) (by decide +kernel)⟩
theorem lw_p30 : lw_okq (⟨"SaucerFair", "needNeedle", "(I)V"⟩, 18) := ⟨⟨by decide +kernel, by decide +kernel⟩, List.mem_of_getElem? (i := 28) (by decide +kernel), List.mem_of_getElem? (i := 939) (by decide +kernel), List.mem_of_getElem? (i := 940) (by decide +kernel)⟩
theorem lw_p31 : lw_okq (⟨"SaucerFair", "needSaying", "(I)V"⟩, 18) := ⟨⟨by decide +kernel, by decide +kernel⟩, List.mem_of_getElem? (i := 28) (by decide +kernel), List.mem_of_getElem? (i := 955) (by decide +kernel), List.mem_of_getElem? (i := 956) (by decide +kernel)⟩
def lw_privs_2 : List (MethodName × Nat) := [(⟨"SaucerFair$Reader", "readSign", "(I)Z"⟩, 10), (⟨"SaucerFair$Reader", "readNeedle", "()Z"⟩, 10), (⟨"SaucerFair$Reader", "readSaying", "()Z"⟩, 10), (⟨"SaucerFair$Reader", "readRule", "(LSaucerFair$Rule;)Z"⟩, 10), (⟨"SaucerFair$Reader", "readExpr", "(LSaucerFair$Rule;I)Z"⟩, 10), (⟨"SaucerFair$Reader", "readAnd", "(LSaucerFair$Rule;I)Z"⟩, 10), (⟨"SaucerFair$Reader", "readNot", "(LSaucerFair$Rule;I)Z"⟩, 10), (⟨"SaucerFair$Reader", "readTest", "(LSaucerFair$Rule;I)Z"⟩, 10), (⟨"SaucerFair$Reader", "readSum", "(LSaucerFair$Rule;I)Z"⟩, 10), (⟨"SaucerFair$Reader", "readProduct", "(LSaucerFair$Rule;I)Z"⟩, 10), (⟨"SaucerFair$Reader", "readPart", "(LSaucerFair$Rule;I)Z"⟩, 10), (⟨"SaucerFair$Reader", "turnsValue", "()I"⟩, 10), (⟨"SaucerFair$Reader", "courtValue", "()I"⟩, 10), (⟨"SaucerFair", "needPerson", "(I)V"⟩, 18), (⟨"SaucerFair", "needNeedle", "(I)V"⟩, 18), (⟨"SaucerFair", "needSaying", "(I)V"⟩, 18)]
theorem lw_r2 : ∀ q ∈ lw_privs_2, lw_okq q := List.forall_mem_cons.mpr ⟨lw_p16, List.forall_mem_cons.mpr ⟨lw_p17, List.forall_mem_cons.mpr ⟨lw_p18, List.forall_mem_cons.mpr ⟨lw_p19, List.forall_mem_cons.mpr ⟨lw_p20, List.forall_mem_cons.mpr ⟨lw_p21, List.forall_mem_cons.mpr ⟨lw_p22, List.forall_mem_cons.mpr ⟨lw_p23, List.forall_mem_cons.mpr ⟨lw_p24, List.forall_mem_cons.mpr ⟨lw_p25, List.forall_mem_cons.mpr ⟨lw_p26, List.forall_mem_cons.mpr ⟨lw_p27, List.forall_mem_cons.mpr ⟨lw_p28, List.forall_mem_cons.mpr ⟨lw_p29, List.forall_mem_cons.mpr ⟨lw_p30, List.forall_mem_cons.mpr ⟨lw_p31, fun _ h => absurd h List.not_mem_nil⟩⟩⟩⟩⟩⟩⟩⟩⟩⟩⟩⟩⟩⟩⟩⟩
theorem lw_p32 : lw_okq (⟨"SaucerFair", "accusedIn", "(I)I"⟩, 18) := ⟨⟨by decide +kernel, by decide +kernel⟩, List.mem_of_getElem? (i := 28) (by decide +kernel), List.mem_of_getElem? (i := 1003) (by decide +kernel), List.mem_of_getElem? (i := 1004) (by decide +kernel)⟩
theorem lw_p33 : lw_okq (⟨"SaucerFair$Court", "weigh", "(LSaucerFair$Watch;III)I"⟩, 3) := ⟨⟨by decide +kernel, by decide +kernel⟩, List.mem_of_getElem? (i := 305) (by decide +kernel), List.mem_of_getElem? (i := 1016) (by decide +kernel), List.mem_of_getElem? (i := 1017) (by decide +kernel)⟩
theorem lw_p34 : lw_okq (⟨"SaucerFair", "accusedAlone", "(III)I"⟩, 18) := ⟨⟨by decide +kernel, by decide +kernel⟩, List.mem_of_getElem? (i := 28) (by decide +kernel), List.mem_of_getElem? (i := 1059) (by decide +kernel), List.mem_of_getElem? (i := 1060) (by decide +kernel)⟩
theorem lw_p35 : lw_okq (⟨"SaucerFair$Watch", "unlike", "(II)I"⟩, 10) := ⟨⟨by decide +kernel, by decide +kernel⟩, List.mem_of_getElem? (i := 240) (by decide +kernel), List.mem_of_getElem? (i := 1095) (by decide +kernel), List.mem_of_getElem? (i := 1096) (by decide +kernel)⟩
theorem lw_p36 : lw_okq (⟨"SaucerFair$Watch", "shownAlone", "(II)I"⟩, 10) := ⟨⟨by decide +kernel, by decide +kernel⟩, List.mem_of_getElem? (i := 240) (by decide +kernel), List.mem_of_getElem? (i := 1099) (by decide +kernel), List.mem_of_getElem? (i := 1100) (by decide +kernel)⟩
theorem lw_p37 : lw_okq (⟨"SaucerFair", "isSuspect", "(II)Z"⟩, 18) := ⟨⟨by decide +kernel, by decide +kernel⟩, List.mem_of_getElem? (i := 28) (by decide +kernel), List.mem_of_getElem? (i := 1165) (by decide +kernel), List.mem_of_getElem? (i := 1166) (by decide +kernel)⟩
theorem lw_p38 : lw_okq (⟨"SaucerFair", "seenHolds", "(IIII)Z"⟩, 18) := ⟨⟨by decide +kernel, by decide +kernel⟩, List.mem_of_getElem? (i := 28) (by decide +kernel), List.mem_of_getElem? (i := 1170) (by decide +kernel), List.mem_of_getElem? (i := 1171) (by decide +kernel)⟩
theorem lw_p39 : lw_okq (⟨"SaucerFair", "hearersFrom", "(II)I"⟩, 18) := ⟨⟨by decide +kernel, by decide +kernel⟩, List.mem_of_getElem? (i := 28) (by decide +kernel), List.mem_of_getElem? (i := 1189) (by decide +kernel), List.mem_of_getElem? (i := 1190) (by decide +kernel)⟩
theorem lw_p40 : lw_okq (⟨"SaucerFair", "unlikeThings", "(III)I"⟩, 18) := ⟨⟨by decide +kernel, by decide +kernel⟩, List.mem_of_getElem? (i := 28) (by decide +kernel), List.mem_of_getElem? (i := 1201) (by decide +kernel), List.mem_of_getElem? (i := 1202) (by decide +kernel)⟩
theorem lw_p41 : lw_okq (⟨"SaucerFair", "judgeCouples", "(III)V"⟩, 18) := ⟨⟨by decide +kernel, by decide +kernel⟩, List.mem_of_getElem? (i := 28) (by decide +kernel), List.mem_of_getElem? (i := 1213) (by decide +kernel), List.mem_of_getElem? (i := 1214) (by decide +kernel)⟩
theorem lw_p42 : lw_okq (⟨"SaucerFair", "rests", "(IIII)Z"⟩, 18) := ⟨⟨by decide +kernel, by decide +kernel⟩, List.mem_of_getElem? (i := 28) (by decide +kernel), List.mem_of_getElem? (i := 1223) (by decide +kernel), List.mem_of_getElem? (i := 1224) (by decide +kernel)⟩
theorem lw_p43 : lw_okq (⟨"SaucerFair", "gain", "(IIII)I"⟩, 18) := ⟨⟨by decide +kernel, by decide +kernel⟩, List.mem_of_getElem? (i := 28) (by decide +kernel), List.mem_of_getElem? (i := 1227) (by decide +kernel), List.mem_of_getElem? (i := 1228) (by decide +kernel)⟩
theorem lw_p44 : lw_okq (⟨"SaucerFairModel", "lays", "(I)V"⟩, 65) := ⟨⟨by decide +kernel, by decide +kernel⟩, List.mem_of_getElem? (i := 1331) (by decide +kernel), List.mem_of_getElem? (i := 1542) (by decide +kernel), List.mem_of_getElem? (i := 1543) (by decide +kernel)⟩
theorem lw_p45 : lw_okq (⟨"SaucerFairModel", "right", "(ZI)Z"⟩, 65) := ⟨⟨by decide +kernel, by decide +kernel⟩, List.mem_of_getElem? (i := 1331) (by decide +kernel), List.mem_of_getElem? (i := 1550) (by decide +kernel), List.mem_of_getElem? (i := 1551) (by decide +kernel)⟩
theorem lw_p46 : lw_okq (⟨"SaucerFairModel", "goes", "()V"⟩, 65) := ⟨⟨by decide +kernel, by decide +kernel⟩, List.mem_of_getElem? (i := 1331) (by decide +kernel), List.mem_of_getElem? (i := 1554) (by decide +kernel), List.mem_of_getElem? (i := 1555) (by decide +kernel)⟩
theorem lw_p47 : lw_okq (⟨"SaucerFairModel", "byteAt", "(I)I"⟩, 65) := ⟨⟨by decide +kernel, by decide +kernel⟩, List.mem_of_getElem? (i := 1331) (by decide +kernel), List.mem_of_getElem? (i := 1558) (by decide +kernel), List.mem_of_getElem? (i := 1559) (by decide +kernel)⟩
def lw_privs_3 : List (MethodName × Nat) := [(⟨"SaucerFair", "accusedIn", "(I)I"⟩, 18), (⟨"SaucerFair$Court", "weigh", "(LSaucerFair$Watch;III)I"⟩, 3), (⟨"SaucerFair", "accusedAlone", "(III)I"⟩, 18), (⟨"SaucerFair$Watch", "unlike", "(II)I"⟩, 10), (⟨"SaucerFair$Watch", "shownAlone", "(II)I"⟩, 10), (⟨"SaucerFair", "isSuspect", "(II)Z"⟩, 18), (⟨"SaucerFair", "seenHolds", "(IIII)Z"⟩, 18), (⟨"SaucerFair", "hearersFrom", "(II)I"⟩, 18), (⟨"SaucerFair", "unlikeThings", "(III)I"⟩, 18), (⟨"SaucerFair", "judgeCouples", "(III)V"⟩, 18), (⟨"SaucerFair", "rests", "(IIII)Z"⟩, 18), (⟨"SaucerFair", "gain", "(IIII)I"⟩, 18), (⟨"SaucerFairModel", "lays", "(I)V"⟩, 65), (⟨"SaucerFairModel", "right", "(ZI)Z"⟩, 65), (⟨"SaucerFairModel", "goes", "()V"⟩, 65), (⟨"SaucerFairModel", "byteAt", "(I)I"⟩, 65)]
theorem lw_r3 : ∀ q ∈ lw_privs_3, lw_okq q := List.forall_mem_cons.mpr ⟨lw_p32, List.forall_mem_cons.mpr ⟨lw_p33, List.forall_mem_cons.mpr ⟨lw_p34, List.forall_mem_cons.mpr ⟨lw_p35, List.forall_mem_cons.mpr ⟨lw_p36, List.forall_mem_cons.mpr ⟨lw_p37, List.forall_mem_cons.mpr ⟨lw_p38, List.forall_mem_cons.mpr ⟨lw_p39, List.forall_mem_cons.mpr ⟨lw_p40, List.forall_mem_cons.mpr ⟨lw_p41, List.forall_mem_cons.mpr ⟨lw_p42, List.forall_mem_cons.mpr ⟨lw_p43, List.forall_mem_cons.mpr ⟨lw_p44, List.forall_mem_cons.mpr ⟨lw_p45, List.forall_mem_cons.mpr ⟨lw_p46, List.forall_mem_cons.mpr ⟨lw_p47, fun _ h => absurd h List.not_mem_nil⟩⟩⟩⟩⟩⟩⟩⟩⟩⟩⟩⟩⟩⟩⟩⟩
theorem lw_p48 : lw_okq (⟨"SaucerFairModel", "isGood", "()Z"⟩, 65) := ⟨⟨by decide +kernel, by decide +kernel⟩, List.mem_of_getElem? (i := 1331) (by decide +kernel), List.mem_of_getElem? (i := 1568) (by decide +kernel), List.mem_of_getElem? (i := 1569) (by decide +kernel)⟩
theorem lw_p49 : lw_okq (⟨"SaucerFairModel", "line", "()V"⟩, 65) := ⟨⟨by decide +kernel, by decide +kernel⟩, List.mem_of_getElem? (i := 1331) (by decide +kernel), List.mem_of_getElem? (i := 1572) (by decide +kernel), List.mem_of_getElem? (i := 1573) (by decide +kernel)⟩
theorem lw_p50 : lw_okq (⟨"SaucerFairModel", "knownWord", "()I"⟩, 65) := ⟨⟨by decide +kernel, by decide +kernel⟩, List.mem_of_getElem? (i := 1331) (by decide +kernel), List.mem_of_getElem? (i := 1576) (by decide +kernel), List.mem_of_getElem? (i := 1577) (by decide +kernel)⟩
theorem lw_p51 : lw_okq (⟨"SaucerFairModel", "readsOne", "()V"⟩, 65) := ⟨⟨by decide +kernel, by decide +kernel⟩, List.mem_of_getElem? (i := 1331) (by decide +kernel), List.mem_of_getElem? (i := 1587) (by decide +kernel), List.mem_of_getElem? (i := 1588) (by decide +kernel)⟩
theorem lw_p52 : lw_okq (⟨"SaucerFairModel", "wrong", "(I)V"⟩, 65) := ⟨⟨by decide +kernel, by decide +kernel⟩, List.mem_of_getElem? (i := 1331) (by decide +kernel), List.mem_of_getElem? (i := 1591) (by decide +kernel), List.mem_of_getElem? (i := 1592) (by decide +kernel)⟩
theorem lw_p53 : lw_okq (⟨"SaucerFairModel", "number", "(II)I"⟩, 65) := ⟨⟨by decide +kernel, by decide +kernel⟩, List.mem_of_getElem? (i := 1331) (by decide +kernel), List.mem_of_getElem? (i := 1595) (by decide +kernel), List.mem_of_getElem? (i := 1596) (by decide +kernel)⟩
theorem lw_p54 : lw_okq (⟨"SaucerFairModel", "numberHere", "(II)Z"⟩, 65) := ⟨⟨by decide +kernel, by decide +kernel⟩, List.mem_of_getElem? (i := 1331) (by decide +kernel), List.mem_of_getElem? (i := 1599) (by decide +kernel), List.mem_of_getElem? (i := 1600) (by decide +kernel)⟩
theorem lw_p55 : lw_okq (⟨"SaucerFairModel", "readsNeedle", "()V"⟩, 65) := ⟨⟨by decide +kernel, by decide +kernel⟩, List.mem_of_getElem? (i := 1331) (by decide +kernel), List.mem_of_getElem? (i := 1603) (by decide +kernel), List.mem_of_getElem? (i := 1604) (by decide +kernel)⟩
theorem lw_p56 : lw_okq (⟨"SaucerFairModel", "readsSaying", "()V"⟩, 65) := ⟨⟨by decide +kernel, by decide +kernel⟩, List.mem_of_getElem? (i := 1331) (by decide +kernel), List.mem_of_getElem? (i := 1607) (by decide +kernel), List.mem_of_getElem? (i := 1608) (by decide +kernel)⟩
theorem lw_p57 : lw_okq (⟨"SaucerFairModel", "expression", "(II)V"⟩, 65) := ⟨⟨by decide +kernel, by decide +kernel⟩, List.mem_of_getElem? (i := 1331) (by decide +kernel), List.mem_of_getElem? (i := 1611) (by decide +kernel), List.mem_of_getElem? (i := 1612) (by decide +kernel)⟩
theorem lw_p58 : lw_okq (⟨"SaucerFairModel", "deeper", "()V"⟩, 65) := ⟨⟨by decide +kernel, by decide +kernel⟩, List.mem_of_getElem? (i := 1331) (by decide +kernel), List.mem_of_getElem? (i := 1615) (by decide +kernel), List.mem_of_getElem? (i := 1616) (by decide +kernel)⟩
theorem lw_p59 : lw_okq (⟨"SaucerFairModel", "isSign", "(I)Z"⟩, 65) := ⟨⟨by decide +kernel, by decide +kernel⟩, List.mem_of_getElem? (i := 1331) (by decide +kernel), List.mem_of_getElem? (i := 1619) (by decide +kernel), List.mem_of_getElem? (i := 1620) (by decide +kernel)⟩
theorem lw_p60 : lw_okq (⟨"SaucerFairModel", "operand", "(Z)V"⟩, 65) := ⟨⟨by decide +kernel, by decide +kernel⟩, List.mem_of_getElem? (i := 1331) (by decide +kernel), List.mem_of_getElem? (i := 1623) (by decide +kernel), List.mem_of_getElem? (i := 1624) (by decide +kernel)⟩
theorem lw_p61 : lw_okq (⟨"SaucerFairModel", "waitsFor", "(I)V"⟩, 65) := ⟨⟨by decide +kernel, by decide +kernel⟩, List.mem_of_getElem? (i := 1331) (by decide +kernel), List.mem_of_getElem? (i := 1627) (by decide +kernel), List.mem_of_getElem? (i := 1628) (by decide +kernel)⟩
theorem lw_p62 : lw_okq (⟨"SaucerFairModel", "part", "()V"⟩, 65) := ⟨⟨by decide +kernel, by decide +kernel⟩, List.mem_of_getElem? (i := 1331) (by decide +kernel), List.mem_of_getElem? (i := 1631) (by decide +kernel), List.mem_of_getElem? (i := 1632) (by decide +kernel)⟩
theorem lw_p63 : lw_okq (⟨"SaucerFairModel", "puts", "(I)V"⟩, 65) := ⟨⟨by decide +kernel, by decide +kernel⟩, List.mem_of_getElem? (i := 1331) (by decide +kernel), List.mem_of_getElem? (i := 1635) (by decide +kernel), List.mem_of_getElem? (i := 1636) (by decide +kernel)⟩
def lw_privs_4 : List (MethodName × Nat) := [(⟨"SaucerFairModel", "isGood", "()Z"⟩, 65), (⟨"SaucerFairModel", "line", "()V"⟩, 65), (⟨"SaucerFairModel", "knownWord", "()I"⟩, 65), (⟨"SaucerFairModel", "readsOne", "()V"⟩, 65), (⟨"SaucerFairModel", "wrong", "(I)V"⟩, 65), (⟨"SaucerFairModel", "number", "(II)I"⟩, 65), (⟨"SaucerFairModel", "numberHere", "(II)Z"⟩, 65), (⟨"SaucerFairModel", "readsNeedle", "()V"⟩, 65), (⟨"SaucerFairModel", "readsSaying", "()V"⟩, 65), (⟨"SaucerFairModel", "expression", "(II)V"⟩, 65), (⟨"SaucerFairModel", "deeper", "()V"⟩, 65), (⟨"SaucerFairModel", "isSign", "(I)Z"⟩, 65), (⟨"SaucerFairModel", "operand", "(Z)V"⟩, 65), (⟨"SaucerFairModel", "waitsFor", "(I)V"⟩, 65), (⟨"SaucerFairModel", "part", "()V"⟩, 65), (⟨"SaucerFairModel", "puts", "(I)V"⟩, 65)]
theorem lw_r4 : ∀ q ∈ lw_privs_4, lw_okq q := List.forall_mem_cons.mpr ⟨lw_p48, List.forall_mem_cons.mpr ⟨lw_p49, List.forall_mem_cons.mpr ⟨lw_p50, List.forall_mem_cons.mpr ⟨lw_p51, List.forall_mem_cons.mpr ⟨lw_p52, List.forall_mem_cons.mpr ⟨lw_p53, List.forall_mem_cons.mpr ⟨lw_p54, List.forall_mem_cons.mpr ⟨lw_p55, List.forall_mem_cons.mpr ⟨lw_p56, List.forall_mem_cons.mpr ⟨lw_p57, List.forall_mem_cons.mpr ⟨lw_p58, List.forall_mem_cons.mpr ⟨lw_p59, List.forall_mem_cons.mpr ⟨lw_p60, List.forall_mem_cons.mpr ⟨lw_p61, List.forall_mem_cons.mpr ⟨lw_p62, List.forall_mem_cons.mpr ⟨lw_p63, fun _ h => absurd h List.not_mem_nil⟩⟩⟩⟩⟩⟩⟩⟩⟩⟩⟩⟩⟩⟩⟩⟩
theorem lw_p64 : lw_okq (⟨"SaucerFairModel", "drops", "(I)V"⟩, 65) := ⟨⟨by decide +kernel, by decide +kernel⟩, List.mem_of_getElem? (i := 1331) (by decide +kernel), List.mem_of_getElem? (i := 1639) (by decide +kernel), List.mem_of_getElem? (i := 1640) (by decide +kernel)⟩
theorem lw_p65 : lw_okq (⟨"SaucerFairModel", "isOpened", "()Z"⟩, 65) := ⟨⟨by decide +kernel, by decide +kernel⟩, List.mem_of_getElem? (i := 1331) (by decide +kernel), List.mem_of_getElem? (i := 1649) (by decide +kernel), List.mem_of_getElem? (i := 1650) (by decide +kernel)⟩
theorem lw_p66 : lw_okq (⟨"SaucerFairModel", "closes", "()V"⟩, 65) := ⟨⟨by decide +kernel, by decide +kernel⟩, List.mem_of_getElem? (i := 1331) (by decide +kernel), List.mem_of_getElem? (i := 1653) (by decide +kernel), List.mem_of_getElem? (i := 1654) (by decide +kernel)⟩
theorem lw_p67 : lw_okq (⟨"SaucerFairModel", "need", "(Z)V"⟩, 65) := ⟨⟨by decide +kernel, by decide +kernel⟩, List.mem_of_getElem? (i := 1331) (by decide +kernel), List.mem_of_getElem? (i := 1657) (by decide +kernel), List.mem_of_getElem? (i := 1658) (by decide +kernel)⟩
theorem lw_p68 : lw_okq (⟨"SaucerFairModel", "copies", "([I[I)V"⟩, 65) := ⟨⟨by decide +kernel, by decide +kernel⟩, List.mem_of_getElem? (i := 1331) (by decide +kernel), List.mem_of_getElem? (i := 1661) (by decide +kernel), List.mem_of_getElem? (i := 1662) (by decide +kernel)⟩
theorem lw_p69 : lw_okq (⟨"SaucerFairModel", "lies", "()I"⟩, 65) := ⟨⟨by decide +kernel, by decide +kernel⟩, List.mem_of_getElem? (i := 1331) (by decide +kernel), List.mem_of_getElem? (i := 1680) (by decide +kernel), List.mem_of_getElem? (i := 1681) (by decide +kernel)⟩
theorem lw_p70 : lw_okq (⟨"SaucerFairModel", "lastHour", "()I"⟩, 65) := ⟨⟨by decide +kernel, by decide +kernel⟩, List.mem_of_getElem? (i := 1331) (by decide +kernel), List.mem_of_getElem? (i := 1684) (by decide +kernel), List.mem_of_getElem? (i := 1685) (by decide +kernel)⟩
theorem lw_p71 : lw_okq (⟨"SaucerFairModel", "mostLies", "()I"⟩, 65) := ⟨⟨by decide +kernel, by decide +kernel⟩, List.mem_of_getElem? (i := 1331) (by decide +kernel), List.mem_of_getElem? (i := 1688) (by decide +kernel), List.mem_of_getElem? (i := 1689) (by decide +kernel)⟩
theorem lw_p72 : lw_okq (⟨"SaucerFairModel", "isPerson", "(I)Z"⟩, 65) := ⟨⟨by decide +kernel, by decide +kernel⟩, List.mem_of_getElem? (i := 1331) (by decide +kernel), List.mem_of_getElem? (i := 1696) (by decide +kernel), List.mem_of_getElem? (i := 1697) (by decide +kernel)⟩
theorem lw_p73 : lw_okq (⟨"SaucerFairModel", "isWhat", "(II)Z"⟩, 65) := ⟨⟨by decide +kernel, by decide +kernel⟩, List.mem_of_getElem? (i := 1331) (by decide +kernel), List.mem_of_getElem? (i := 1700) (by decide +kernel), List.mem_of_getElem? (i := 1701) (by decide +kernel)⟩
theorem lw_p74 : lw_okq (⟨"SaucerFairModel", "lays0", "(Z)V"⟩, 65) := ⟨⟨by decide +kernel, by decide +kernel⟩, List.mem_of_getElem? (i := 1331) (by decide +kernel), List.mem_of_getElem? (i := 1704) (by decide +kernel), List.mem_of_getElem? (i := 1705) (by decide +kernel)⟩
theorem lw_p75 : lw_okq (⟨"SaucerFairModel", "adds", "(III)V"⟩, 65) := ⟨⟨by decide +kernel, by decide +kernel⟩, List.mem_of_getElem? (i := 1331) (by decide +kernel), List.mem_of_getElem? (i := 1708) (by decide +kernel), List.mem_of_getElem? (i := 1709) (by decide +kernel)⟩
theorem lw_p76 : lw_okq (⟨"SaucerFairModel", "farOf", "(II)I"⟩, 65) := ⟨⟨by decide +kernel, by decide +kernel⟩, List.mem_of_getElem? (i := 1331) (by decide +kernel), List.mem_of_getElem? (i := 1712) (by decide +kernel), List.mem_of_getElem? (i := 1713) (by decide +kernel)⟩
theorem lw_p77 : lw_okq (⟨"SaucerFairModel", "isNeedle", "(I)Z"⟩, 65) := ⟨⟨by decide +kernel, by decide +kernel⟩, List.mem_of_getElem? (i := 1331) (by decide +kernel), List.mem_of_getElem? (i := 1723) (by decide +kernel), List.mem_of_getElem? (i := 1724) (by decide +kernel)⟩
theorem lw_p78 : lw_okq (⟨"SaucerFairModel", "hears", "(II)Z"⟩, 65) := ⟨⟨by decide +kernel, by decide +kernel⟩, List.mem_of_getElem? (i := 1331) (by decide +kernel), List.mem_of_getElem? (i := 1727) (by decide +kernel), List.mem_of_getElem? (i := 1728) (by decide +kernel)⟩
theorem lw_p79 : lw_okq (⟨"SaucerFairModel", "reckons", "(I)I"⟩, 65) := ⟨⟨by decide +kernel, by decide +kernel⟩, List.mem_of_getElem? (i := 1331) (by decide +kernel), List.mem_of_getElem? (i := 1731) (by decide +kernel), List.mem_of_getElem? (i := 1732) (by decide +kernel)⟩
def lw_privs_5 : List (MethodName × Nat) := [(⟨"SaucerFairModel", "drops", "(I)V"⟩, 65), (⟨"SaucerFairModel", "isOpened", "()Z"⟩, 65), (⟨"SaucerFairModel", "closes", "()V"⟩, 65), (⟨"SaucerFairModel", "need", "(Z)V"⟩, 65), (⟨"SaucerFairModel", "copies", "([I[I)V"⟩, 65), (⟨"SaucerFairModel", "lies", "()I"⟩, 65), (⟨"SaucerFairModel", "lastHour", "()I"⟩, 65), (⟨"SaucerFairModel", "mostLies", "()I"⟩, 65), (⟨"SaucerFairModel", "isPerson", "(I)Z"⟩, 65), (⟨"SaucerFairModel", "isWhat", "(II)Z"⟩, 65), (⟨"SaucerFairModel", "lays0", "(Z)V"⟩, 65), (⟨"SaucerFairModel", "adds", "(III)V"⟩, 65), (⟨"SaucerFairModel", "farOf", "(II)I"⟩, 65), (⟨"SaucerFairModel", "isNeedle", "(I)Z"⟩, 65), (⟨"SaucerFairModel", "hears", "(II)Z"⟩, 65), (⟨"SaucerFairModel", "reckons", "(I)I"⟩, 65)]
theorem lw_r5 : ∀ q ∈ lw_privs_5, lw_okq q := List.forall_mem_cons.mpr ⟨lw_p64, List.forall_mem_cons.mpr ⟨lw_p65, List.forall_mem_cons.mpr ⟨lw_p66, List.forall_mem_cons.mpr ⟨lw_p67, List.forall_mem_cons.mpr ⟨lw_p68, List.forall_mem_cons.mpr ⟨lw_p69, List.forall_mem_cons.mpr ⟨lw_p70, List.forall_mem_cons.mpr ⟨lw_p71, List.forall_mem_cons.mpr ⟨lw_p72, List.forall_mem_cons.mpr ⟨lw_p73, List.forall_mem_cons.mpr ⟨lw_p74, List.forall_mem_cons.mpr ⟨lw_p75, List.forall_mem_cons.mpr ⟨lw_p76, List.forall_mem_cons.mpr ⟨lw_p77, List.forall_mem_cons.mpr ⟨lw_p78, List.forall_mem_cons.mpr ⟨lw_p79, fun _ h => absurd h List.not_mem_nil⟩⟩⟩⟩⟩⟩⟩⟩⟩⟩⟩⟩⟩⟩⟩⟩
theorem lw_p80 : lw_okq (⟨"SaucerFairModel", "quivers", "(I)I"⟩, 65) := ⟨⟨by decide +kernel, by decide +kernel⟩, List.mem_of_getElem? (i := 1331) (by decide +kernel), List.mem_of_getElem? (i := 1738) (by decide +kernel), List.mem_of_getElem? (i := 1739) (by decide +kernel)⟩
theorem lw_p81 : lw_okq (⟨"SaucerFairModel", "showsIn", "(II)I"⟩, 65) := ⟨⟨by decide +kernel, by decide +kernel⟩, List.mem_of_getElem? (i := 1331) (by decide +kernel), List.mem_of_getElem? (i := 1742) (by decide +kernel), List.mem_of_getElem? (i := 1743) (by decide +kernel)⟩
theorem lw_p82 : lw_okq (⟨"SaucerFairModel", "lastOf", "(II)I"⟩, 65) := ⟨⟨by decide +kernel, by decide +kernel⟩, List.mem_of_getElem? (i := 1331) (by decide +kernel), List.mem_of_getElem? (i := 1746) (by decide +kernel), List.mem_of_getElem? (i := 1747) (by decide +kernel)⟩
theorem lw_p83 : lw_okq (⟨"SaucerFairModel", "worthOf", "(I)I"⟩, 65) := ⟨⟨by decide +kernel, by decide +kernel⟩, List.mem_of_getElem? (i := 1331) (by decide +kernel), List.mem_of_getElem? (i := 1754) (by decide +kernel), List.mem_of_getElem? (i := 1755) (by decide +kernel)⟩
theorem lw_p84 : lw_okq (⟨"SaucerFairModel", "isPointed", "(III)Z"⟩, 65) := ⟨⟨by decide +kernel, by decide +kernel⟩, List.mem_of_getElem? (i := 1331) (by decide +kernel), List.mem_of_getElem? (i := 1758) (by decide +kernel), List.mem_of_getElem? (i := 1759) (by decide +kernel)⟩
theorem lw_p85 : lw_okq (⟨"SaucerFairModel", "isAt", "(II)Z"⟩, 65) := ⟨⟨by decide +kernel, by decide +kernel⟩, List.mem_of_getElem? (i := 1331) (by decide +kernel), List.mem_of_getElem? (i := 1762) (by decide +kernel), List.mem_of_getElem? (i := 1763) (by decide +kernel)⟩
theorem lw_p86 : lw_okq (⟨"SaucerFairModel", "isSaying", "(I)Z"⟩, 65) := ⟨⟨by decide +kernel, by decide +kernel⟩, List.mem_of_getElem? (i := 1331) (by decide +kernel), List.mem_of_getElem? (i := 1770) (by decide +kernel), List.mem_of_getElem? (i := 1771) (by decide +kernel)⟩
theorem lw_p87 : lw_okq (⟨"SaucerFairModel", "heardBy", "(I)I"⟩, 65) := ⟨⟨by decide +kernel, by decide +kernel⟩, List.mem_of_getElem? (i := 1331) (by decide +kernel), List.mem_of_getElem? (i := 1774) (by decide +kernel), List.mem_of_getElem? (i := 1775) (by decide +kernel)⟩
theorem lw_p88 : lw_okq (⟨"SaucerFairModel", "isHour", "(I)Z"⟩, 65) := ⟨⟨by decide +kernel, by decide +kernel⟩, List.mem_of_getElem? (i := 1331) (by decide +kernel), List.mem_of_getElem? (i := 1782) (by decide +kernel), List.mem_of_getElem? (i := 1783) (by decide +kernel)⟩
theorem lw_p89 : lw_okq (⟨"SaucerFairModel", "accusedIn", "(I)I"⟩, 65) := ⟨⟨by decide +kernel, by decide +kernel⟩, List.mem_of_getElem? (i := 1331) (by decide +kernel), List.mem_of_getElem? (i := 1802) (by decide +kernel), List.mem_of_getElem? (i := 1803) (by decide +kernel)⟩
theorem lw_p90 : lw_okq (⟨"SaucerFairModel", "laysShown", "(I)V"⟩, 65) := ⟨⟨by decide +kernel, by decide +kernel⟩, List.mem_of_getElem? (i := 1331) (by decide +kernel), List.mem_of_getElem? (i := 1806) (by decide +kernel), List.mem_of_getElem? (i := 1807) (by decide +kernel)⟩
theorem lw_p91 : lw_okq (⟨"SaucerFairModel", "accusedBy", "(II)I"⟩, 65) := ⟨⟨by decide +kernel, by decide +kernel⟩, List.mem_of_getElem? (i := 1331) (by decide +kernel), List.mem_of_getElem? (i := 1810) (by decide +kernel), List.mem_of_getElem? (i := 1811) (by decide +kernel)⟩
theorem lw_p92 : lw_okq (⟨"SaucerFairModel", "courts", "(III)I"⟩, 65) := ⟨⟨by decide +kernel, by decide +kernel⟩, List.mem_of_getElem? (i := 1331) (by decide +kernel), List.mem_of_getElem? (i := 1814) (by decide +kernel), List.mem_of_getElem? (i := 1815) (by decide +kernel)⟩
theorem lw_p93 : lw_okq (⟨"SaucerFairModel", "saidBy", "(II)I"⟩, 65) := ⟨⟨by decide +kernel, by decide +kernel⟩, List.mem_of_getElem? (i := 1331) (by decide +kernel), List.mem_of_getElem? (i := 1818) (by decide +kernel), List.mem_of_getElem? (i := 1819) (by decide +kernel)⟩
theorem lw_p94 : lw_okq (⟨"SaucerFairModel", "refuses", "(I)I"⟩, 65) := ⟨⟨by decide +kernel, by decide +kernel⟩, List.mem_of_getElem? (i := 1331) (by decide +kernel), List.mem_of_getElem? (i := 1826) (by decide +kernel), List.mem_of_getElem? (i := 1827) (by decide +kernel)⟩
theorem lw_p95 : lw_okq (⟨"SaucerFairModel", "keeps", "()V"⟩, 65) := ⟨⟨by decide +kernel, by decide +kernel⟩, List.mem_of_getElem? (i := 1331) (by decide +kernel), List.mem_of_getElem? (i := 1830) (by decide +kernel), List.mem_of_getElem? (i := 1831) (by decide +kernel)⟩
def lw_privs_6 : List (MethodName × Nat) := [(⟨"SaucerFairModel", "quivers", "(I)I"⟩, 65), (⟨"SaucerFairModel", "showsIn", "(II)I"⟩, 65), (⟨"SaucerFairModel", "lastOf", "(II)I"⟩, 65), (⟨"SaucerFairModel", "worthOf", "(I)I"⟩, 65), (⟨"SaucerFairModel", "isPointed", "(III)Z"⟩, 65), (⟨"SaucerFairModel", "isAt", "(II)Z"⟩, 65), (⟨"SaucerFairModel", "isSaying", "(I)Z"⟩, 65), (⟨"SaucerFairModel", "heardBy", "(I)I"⟩, 65), (⟨"SaucerFairModel", "isHour", "(I)Z"⟩, 65), (⟨"SaucerFairModel", "accusedIn", "(I)I"⟩, 65), (⟨"SaucerFairModel", "laysShown", "(I)V"⟩, 65), (⟨"SaucerFairModel", "accusedBy", "(II)I"⟩, 65), (⟨"SaucerFairModel", "courts", "(III)I"⟩, 65), (⟨"SaucerFairModel", "saidBy", "(II)I"⟩, 65), (⟨"SaucerFairModel", "refuses", "(I)I"⟩, 65), (⟨"SaucerFairModel", "keeps", "()V"⟩, 65)]
theorem lw_r6 : ∀ q ∈ lw_privs_6, lw_okq q := List.forall_mem_cons.mpr ⟨lw_p80, List.forall_mem_cons.mpr ⟨lw_p81, List.forall_mem_cons.mpr ⟨lw_p82, List.forall_mem_cons.mpr ⟨lw_p83, List.forall_mem_cons.mpr ⟨lw_p84, List.forall_mem_cons.mpr ⟨lw_p85, List.forall_mem_cons.mpr ⟨lw_p86, List.forall_mem_cons.mpr ⟨lw_p87, List.forall_mem_cons.mpr ⟨lw_p88, List.forall_mem_cons.mpr ⟨lw_p89, List.forall_mem_cons.mpr ⟨lw_p90, List.forall_mem_cons.mpr ⟨lw_p91, List.forall_mem_cons.mpr ⟨lw_p92, List.forall_mem_cons.mpr ⟨lw_p93, List.forall_mem_cons.mpr ⟨lw_p94, List.forall_mem_cons.mpr ⟨lw_p95, fun _ h => absurd h List.not_mem_nil⟩⟩⟩⟩⟩⟩⟩⟩⟩⟩⟩⟩⟩⟩⟩⟩
theorem lw_p96 : lw_okq (⟨"SaucerFairModel", "pointedBy", "(II)I"⟩, 65) := ⟨⟨by decide +kernel, by decide +kernel⟩, List.mem_of_getElem? (i := 1331) (by decide +kernel), List.mem_of_getElem? (i := 1850) (by decide +kernel), List.mem_of_getElem? (i := 1851) (by decide +kernel)⟩
theorem lw_p97 : lw_okq (⟨"SaucerFairModel", "isLie", "(II)Z"⟩, 65) := ⟨⟨by decide +kernel, by decide +kernel⟩, List.mem_of_getElem? (i := 1331) (by decide +kernel), List.mem_of_getElem? (i := 1858) (by decide +kernel), List.mem_of_getElem? (i := 1859) (by decide +kernel)⟩
theorem lw_p98 : lw_okq (⟨"SaucerFairModel", "laysLie", "(III)V"⟩, 65) := ⟨⟨by decide +kernel, by decide +kernel⟩, List.mem_of_getElem? (i := 1331) (by decide +kernel), List.mem_of_getElem? (i := 1862) (by decide +kernel), List.mem_of_getElem? (i := 1863) (by decide +kernel)⟩
theorem lw_p99 : lw_okq (⟨"SaucerFairModel", "areApart", "(I)Z"⟩, 65) := ⟨⟨by decide +kernel, by decide +kernel⟩, List.mem_of_getElem? (i := 1331) (by decide +kernel), List.mem_of_getElem? (i := 1873) (by decide +kernel), List.mem_of_getElem? (i := 1874) (by decide +kernel)⟩
theorem lw_p100 : lw_okq (⟨"SaucerFairModel", "areShowing", "(III)Z"⟩, 65) := ⟨⟨by decide +kernel, by decide +kernel⟩, List.mem_of_getElem? (i := 1331) (by decide +kernel), List.mem_of_getElem? (i := 1885) (by decide +kernel), List.mem_of_getElem? (i := 1886) (by decide +kernel)⟩
theorem lw_p101 : lw_okq (⟨"SaucerFairModel", "plantedNow", "()I"⟩, 65) := ⟨⟨by decide +kernel, by decide +kernel⟩, List.mem_of_getElem? (i := 1331) (by decide +kernel), List.mem_of_getElem? (i := 1901) (by decide +kernel), List.mem_of_getElem? (i := 1902) (by decide +kernel)⟩
theorem lw_p102 : lw_okq (⟨"SaucerFairModel", "tellsBy", "(II)I"⟩, 65) := ⟨⟨by decide +kernel, by decide +kernel⟩, List.mem_of_getElem? (i := 1331) (by decide +kernel), List.mem_of_getElem? (i := 1917) (by decide +kernel), List.mem_of_getElem? (i := 1918) (by decide +kernel)⟩
theorem lw_p103 : lw_okq (⟨"SaucerFairModel", "accusedIf", "(IIIII)I"⟩, 65) := ⟨⟨by decide +kernel, by decide +kernel⟩, List.mem_of_getElem? (i := 1331) (by decide +kernel), List.mem_of_getElem? (i := 1925) (by decide +kernel), List.mem_of_getElem? (i := 1926) (by decide +kernel)⟩
theorem lw_p104 : lw_okq (⟨"SaucerFairModel", "draw", "(I)I"⟩, 65) := ⟨⟨by decide +kernel, by decide +kernel⟩, List.mem_of_getElem? (i := 1331) (by decide +kernel), List.mem_of_getElem? (i := 1936) (by decide +kernel), List.mem_of_getElem? (i := 1937) (by decide +kernel)⟩
theorem lw_p105 : lw_okq (⟨"SaucerFairModel", "hasLied", "(II)Z"⟩, 65) := ⟨⟨by decide +kernel, by decide +kernel⟩, List.mem_of_getElem? (i := 1331) (by decide +kernel), List.mem_of_getElem? (i := 1961) (by decide +kernel), List.mem_of_getElem? (i := 1962) (by decide +kernel)⟩
def lw_privs_7 : List (MethodName × Nat) := [(⟨"SaucerFairModel", "pointedBy", "(II)I"⟩, 65), (⟨"SaucerFairModel", "isLie", "(II)Z"⟩, 65), (⟨"SaucerFairModel", "laysLie", "(III)V"⟩, 65), (⟨"SaucerFairModel", "areApart", "(I)Z"⟩, 65), (⟨"SaucerFairModel", "areShowing", "(III)Z"⟩, 65), (⟨"SaucerFairModel", "plantedNow", "()I"⟩, 65), (⟨"SaucerFairModel", "tellsBy", "(II)I"⟩, 65), (⟨"SaucerFairModel", "accusedIf", "(IIIII)I"⟩, 65), (⟨"SaucerFairModel", "draw", "(I)I"⟩, 65), (⟨"SaucerFairModel", "hasLied", "(II)Z"⟩, 65)]
theorem lw_r7 : ∀ q ∈ lw_privs_7, lw_okq q := List.forall_mem_cons.mpr ⟨lw_p96, List.forall_mem_cons.mpr ⟨lw_p97, List.forall_mem_cons.mpr ⟨lw_p98, List.forall_mem_cons.mpr ⟨lw_p99, List.forall_mem_cons.mpr ⟨lw_p100, List.forall_mem_cons.mpr ⟨lw_p101, List.forall_mem_cons.mpr ⟨lw_p102, List.forall_mem_cons.mpr ⟨lw_p103, List.forall_mem_cons.mpr ⟨lw_p104, List.forall_mem_cons.mpr ⟨lw_p105, fun _ h => absurd h List.not_mem_nil⟩⟩⟩⟩⟩⟩⟩⟩⟩⟩
def lw_privs : List (MethodName × Nat) := lw_privs_1 ++ (lw_privs_2 ++ (lw_privs_3 ++ (lw_privs_4 ++ (lw_privs_5 ++ (lw_privs_6 ++ (lw_privs_7))))))
def lw_tbl : List Cond := k2_sels lw_privs ++ tables_1
theorem lw_privs_ok : ∀ q ∈ lw_privs, lw_okq q := by
  show ∀ q ∈ lw_privs_1 ++ (lw_privs_2 ++ (lw_privs_3 ++ (lw_privs_4 ++ (lw_privs_5 ++ (lw_privs_6 ++ (lw_privs_7)))))), lw_okq q
  exact List.forall_mem_append.mpr ⟨lw_r1, List.forall_mem_append.mpr ⟨lw_r2, List.forall_mem_append.mpr ⟨lw_r3, List.forall_mem_append.mpr ⟨lw_r4, List.forall_mem_append.mpr ⟨lw_r5, List.forall_mem_append.mpr ⟨lw_r6, lw_r7⟩⟩⟩⟩⟩⟩
end
section
def RX0 : String := "SaucerFair$Acts"
def TX0 : u_T := fun k => match k with
  | 0 => ("SaucerFair$Acts", "count", "I", false)
  | 1 => ("SaucerFair$Acts", "kind", "[I", true)
  | 2 => ("SaucerFair$Acts", "a", "[I", true)
  | 3 => ("SaucerFair$Acts", "b", "[I", true)
  | _ => ("SaucerFair$Acts", "c", "[I", true)
def tyX0 : Nat → FieldType := fun k => match k with
  | 0 => .int
  | 1 => .array .int
  | 2 => .array .int
  | 3 => .array .int
  | _ => .array .int
theorem nmX0 : ∀ a, a < 5 → ∀ b, b < 5 → a ≠ b → (TX0 a).2.1 ≠ (TX0 b).2.1 := by decide +kernel
theorem tyX0_ok : ∀ k, k < 5 → parseFieldDescriptor (TX0 k).2.2.1 = some (tyX0 k) := by decide +kernel
abbrev cX0_init : ByteArray := prog_2_method_1_code
def yX0_init : MethodName := ⟨RX0, "<init>", "()V"⟩
abbrev cX0_keep : ByteArray := prog_2_method_2_code
def yX0_keep : MethodName := ⟨RX0, "keep", "(IIII)V"⟩
abbrev cX0_forgetEldest : ByteArray := prog_2_method_3_code
def yX0_forgetEldest : MethodName := ⟨RX0, "forgetEldest", "()V"⟩
abbrev cX0_revertLast : ByteArray := prog_2_method_4_code
def yX0_revertLast : MethodName := ⟨RX0, "revertLast", "(LSaucerFair$Fair;)V"⟩
abbrev cX0_copyFrom : ByteArray := prog_2_method_5_code
def yX0_copyFrom : MethodName := ⟨RX0, "copyFrom", "(LSaucerFair$Acts;)V"⟩
def RX1 : String := "SaucerFair$Court"
def TX1 : u_T := fun k => match k with
  | 0 => ("SaucerFair$Court", "shown", "[I", true)
  | 1 => ("SaucerFair$Court", "said", "[I", true)
  | _ => ("SaucerFair$Court", "values", "[I", true)
def tyX1 : Nat → FieldType := fun k => match k with
  | 0 => .array .int
  | 1 => .array .int
  | _ => .array .int
theorem nmX1 : ∀ a, a < 3 → ∀ b, b < 3 → a ≠ b → (TX1 a).2.1 ≠ (TX1 b).2.1 := by decide +kernel
theorem tyX1_ok : ∀ k, k < 3 → parseFieldDescriptor (TX1 k).2.2.1 = some (tyX1 k) := by decide +kernel
abbrev cX1_init : ByteArray := prog_3_method_1_code
def yX1_init : MethodName := ⟨RX1, "<init>", "()V"⟩
abbrev cX1_silence : ByteArray := prog_3_method_2_code
def yX1_silence : MethodName := ⟨RX1, "silence", "()V"⟩
abbrev cX1_hearOne : ByteArray := prog_3_method_3_code
def yX1_hearOne : MethodName := ⟨RX1, "hearOne", "(LSaucerFair$Watch;III)V"⟩
abbrev cX1_hearAll : ByteArray := prog_3_method_4_code
def yX1_hearAll : MethodName := ⟨RX1, "hearAll", "(LSaucerFair$Watch;I)V"⟩
abbrev cX1_hearBesides : ByteArray := prog_3_method_5_code
def yX1_hearBesides : MethodName := ⟨RX1, "hearBesides", "(LSaucerFair$Watch;II)V"⟩
abbrev cX1_accuse : ByteArray := prog_3_method_6_code
def yX1_accuse : MethodName := ⟨RX1, "accuse", "(LSaucerFair$Watch;II)I"⟩
abbrev cX1_weigh : ByteArray := prog_3_method_7_code
def yX1_weigh : MethodName := ⟨RX1, "weigh", "(LSaucerFair$Watch;III)I"⟩
def RX2 : String := "SaucerFair$Fair"
def TX2 : u_T := fun k => match k with
  | 0 => ("SaucerFair$Fair", "people", "LSaucerFair$People;", true)
  | 1 => ("SaucerFair$Fair", "needles", "LSaucerFair$Needles;", true)
  | 2 => ("SaucerFair$Fair", "sayings", "LSaucerFair$Sayings;", true)
  | 3 => ("SaucerFair$Fair", "turns", "LSaucerFair$Rule;", true)
  | _ => ("SaucerFair$Fair", "court", "LSaucerFair$Rule;", true)
def tyX2 : Nat → FieldType := fun k => match k with
  | 0 => .object "SaucerFair$People"
  | 1 => .object "SaucerFair$Needles"
  | 2 => .object "SaucerFair$Sayings"
  | 3 => .object "SaucerFair$Rule"
  | _ => .object "SaucerFair$Rule"
theorem nmX2 : ∀ a, a < 5 → ∀ b, b < 5 → a ≠ b → (TX2 a).2.1 ≠ (TX2 b).2.1 := by decide +kernel
theorem tyX2_ok : ∀ k, k < 5 → parseFieldDescriptor (TX2 k).2.2.1 = some (tyX2 k) := by decide +kernel
abbrev cX2_init : ByteArray := prog_4_method_1_code
def yX2_init : MethodName := ⟨RX2, "<init>", "()V"⟩
abbrev cX2_empty : ByteArray := prog_4_method_2_code
def yX2_empty : MethodName := ⟨RX2, "empty", "()V"⟩
def RX3 : String := "SaucerFair$Needles"
def TX3 : u_T := fun k => match k with
  | 0 => ("SaucerFair$Needles", "count", "I", false)
  | 1 => ("SaucerFair$Needles", "x", "[I", true)
  | 2 => ("SaucerFair$Needles", "y", "[I", true)
  | 3 => ("SaucerFair$Needles", "reach", "[I", true)
  | _ => ("SaucerFair$Needles", "rust", "[I", true)
def tyX3 : Nat → FieldType := fun k => match k with
  | 0 => .int
  | 1 => .array .int
  | 2 => .array .int
  | 3 => .array .int
  | _ => .array .int
theorem nmX3 : ∀ a, a < 5 → ∀ b, b < 5 → a ≠ b → (TX3 a).2.1 ≠ (TX3 b).2.1 := by decide +kernel
theorem tyX3_ok : ∀ k, k < 5 → parseFieldDescriptor (TX3 k).2.2.1 = some (tyX3 k) := by decide +kernel
abbrev cX3_init : ByteArray := prog_5_method_1_code
def yX3_init : MethodName := ⟨RX3, "<init>", "()V"⟩
abbrev cX3_add : ByteArray := prog_5_method_2_code
def yX3_add : MethodName := ⟨RX3, "add", "(IIII)V"⟩
abbrev cX3_setRust : ByteArray := prog_5_method_3_code
def yX3_setRust : MethodName := ⟨RX3, "setRust", "(II)V"⟩
abbrev cX3_setPlace : ByteArray := prog_5_method_4_code
def yX3_setPlace : MethodName := ⟨RX3, "setPlace", "(III)V"⟩
abbrev cX3_copyFrom : ByteArray := prog_5_method_5_code
def yX3_copyFrom : MethodName := ⟨RX3, "copyFrom", "(LSaucerFair$Needles;)V"⟩
def RX4 : String := "SaucerFair$People"
def TX4 : u_T := fun k => match k with
  | 0 => ("SaucerFair$People", "count", "I", false)
  | 1 => ("SaucerFair$People", "x", "[I", true)
  | 2 => ("SaucerFair$People", "y", "[I", true)
  | _ => ("SaucerFair$People", "skill", "[I", true)
def tyX4 : Nat → FieldType := fun k => match k with
  | 0 => .int
  | 1 => .array .int
  | 2 => .array .int
  | _ => .array .int
theorem nmX4 : ∀ a, a < 4 → ∀ b, b < 4 → a ≠ b → (TX4 a).2.1 ≠ (TX4 b).2.1 := by decide +kernel
theorem tyX4_ok : ∀ k, k < 4 → parseFieldDescriptor (TX4 k).2.2.1 = some (tyX4 k) := by decide +kernel
abbrev cX4_init : ByteArray := prog_6_method_1_code
def yX4_init : MethodName := ⟨RX4, "<init>", "()V"⟩
abbrev cX4_add : ByteArray := prog_6_method_2_code
def yX4_add : MethodName := ⟨RX4, "add", "(III)V"⟩
def RX5 : String := "SaucerFair$Reader"
def TX5 : u_T := fun k => match k with
  | 0 => ("SaucerFair$Reader", "tape", "[B", true)
  | 1 => ("SaucerFair$Reader", "length", "I", false)
  | 2 => ("SaucerFair$Reader", "draft", "LSaucerFair$Fair;", false)
  | 3 => ("SaucerFair$Reader", "fault", "I", false)
  | 4 => ("SaucerFair$Reader", "faultPlace", "I", false)
  | 5 => ("SaucerFair$Reader", "end", "I", false)
  | 6 => ("SaucerFair$Reader", "next", "I", false)
  | 7 => ("SaucerFair$Reader", "start", "I", false)
  | 8 => ("SaucerFair$Reader", "kind", "I", false)
  | _ => ("SaucerFair$Reader", "number", "I", false)
def tyX5 : Nat → FieldType := fun k => match k with
  | 0 => .array .byte
  | 1 => .int
  | 2 => .object "SaucerFair$Fair"
  | 3 => .int
  | 4 => .int
  | 5 => .int
  | 6 => .int
  | 7 => .int
  | 8 => .int
  | _ => .int
theorem nmX5 : ∀ a, a < 10 → ∀ b, b < 10 → a ≠ b → (TX5 a).2.1 ≠ (TX5 b).2.1 := by decide +kernel
theorem tyX5_ok : ∀ k, k < 10 → parseFieldDescriptor (TX5 k).2.2.1 = some (tyX5 k) := by decide +kernel
abbrev cX5_init : ByteArray := prog_7_method_1_code
def yX5_init : MethodName := ⟨RX5, "<init>", "()V"⟩
abbrev cX5_put : ByteArray := prog_7_method_2_code
def yX5_put : MethodName := ⟨RX5, "put", "(I)V"⟩
abbrev cX5_read : ByteArray := prog_7_method_3_code
def yX5_read : MethodName := ⟨RX5, "read", "(I)I"⟩
abbrev cX5_refuse : ByteArray := prog_7_method_4_code
def yX5_refuse : MethodName := ⟨RX5, "refuse", "(I)Z"⟩
abbrev cX5_advance : ByteArray := prog_7_method_5_code
def yX5_advance : MethodName := ⟨RX5, "advance", "()V"⟩
abbrev cX5_kindOf : ByteArray := prog_7_method_6_code
def yX5_kindOf : MethodName := ⟨RX5, "kindOf", "(I)I"⟩
abbrev cX5_isWord : ByteArray := prog_7_method_7_code
def yX5_isWord : MethodName := ⟨RX5, "isWord", "(Ljava/lang/String;)Z"⟩
abbrev cX5_readLine : ByteArray := prog_7_method_8_code
def yX5_readLine : MethodName := ⟨RX5, "readLine", "()Z"⟩
abbrev cX5_readPerson : ByteArray := prog_7_method_9_code
def yX5_readPerson : MethodName := ⟨RX5, "readPerson", "()Z"⟩
abbrev cX5_readNeedle : ByteArray := prog_7_method_10_code
def yX5_readNeedle : MethodName := ⟨RX5, "readNeedle", "()Z"⟩
abbrev cX5_readSaying : ByteArray := prog_7_method_11_code
def yX5_readSaying : MethodName := ⟨RX5, "readSaying", "()Z"⟩
abbrev cX5_readRule : ByteArray := prog_7_method_12_code
def yX5_readRule : MethodName := ⟨RX5, "readRule", "(LSaucerFair$Rule;)Z"⟩
abbrev cX5_isNumber : ByteArray := prog_7_method_13_code
def yX5_isNumber : MethodName := ⟨RX5, "isNumber", "(II)Z"⟩
abbrev cX5_isFreePlace : ByteArray := prog_7_method_14_code
def yX5_isFreePlace : MethodName := ⟨RX5, "isFreePlace", "([I[III)Z"⟩
abbrev cX5_taken : ByteArray := prog_7_method_15_code
def yX5_taken : MethodName := ⟨RX5, "taken", "()I"⟩
abbrev cX5_readSign : ByteArray := prog_7_method_16_code
def yX5_readSign : MethodName := ⟨RX5, "readSign", "(I)Z"⟩
abbrev cX5_readExpr : ByteArray := prog_7_method_17_code
def yX5_readExpr : MethodName := ⟨RX5, "readExpr", "(LSaucerFair$Rule;I)Z"⟩
abbrev cX5_readAnd : ByteArray := prog_7_method_18_code
def yX5_readAnd : MethodName := ⟨RX5, "readAnd", "(LSaucerFair$Rule;I)Z"⟩
abbrev cX5_readNot : ByteArray := prog_7_method_19_code
def yX5_readNot : MethodName := ⟨RX5, "readNot", "(LSaucerFair$Rule;I)Z"⟩
abbrev cX5_readTest : ByteArray := prog_7_method_20_code
def yX5_readTest : MethodName := ⟨RX5, "readTest", "(LSaucerFair$Rule;I)Z"⟩
abbrev cX5_readSum : ByteArray := prog_7_method_21_code
def yX5_readSum : MethodName := ⟨RX5, "readSum", "(LSaucerFair$Rule;I)Z"⟩
abbrev cX5_readProduct : ByteArray := prog_7_method_22_code
def yX5_readProduct : MethodName := ⟨RX5, "readProduct", "(LSaucerFair$Rule;I)Z"⟩
abbrev cX5_readPart : ByteArray := prog_7_method_23_code
def yX5_readPart : MethodName := ⟨RX5, "readPart", "(LSaucerFair$Rule;I)Z"⟩
abbrev cX5_turnsValue : ByteArray := prog_7_method_24_code
def yX5_turnsValue : MethodName := ⟨RX5, "turnsValue", "()I"⟩
abbrev cX5_courtValue : ByteArray := prog_7_method_25_code
def yX5_courtValue : MethodName := ⟨RX5, "courtValue", "()I"⟩
def RX6 : String := "SaucerFair$Rule"
def TX6 : u_T := fun k => match k with
  | 0 => ("SaucerFair$Rule", "length", "I", false)
  | 1 => ("SaucerFair$Rule", "steps", "[I", true)
  | _ => ("SaucerFair$Rule", "stack", "[I", true)
def tyX6 : Nat → FieldType := fun k => match k with
  | 0 => .int
  | 1 => .array .int
  | _ => .array .int
theorem nmX6 : ∀ a, a < 3 → ∀ b, b < 3 → a ≠ b → (TX6 a).2.1 ≠ (TX6 b).2.1 := by decide +kernel
theorem tyX6_ok : ∀ k, k < 3 → parseFieldDescriptor (TX6 k).2.2.1 = some (tyX6 k) := by decide +kernel
abbrev cX6_init : ByteArray := prog_8_method_1_code
def yX6_init : MethodName := ⟨RX6, "<init>", "()V"⟩
abbrev cX6_add : ByteArray := prog_8_method_2_code
def yX6_add : MethodName := ⟨RX6, "add", "(I)V"⟩
abbrev cX6_run : ByteArray := prog_8_method_3_code
def yX6_run : MethodName := ⟨RX6, "run", "([I)I"⟩
abbrev cX6_valueAt : ByteArray := prog_8_method_4_code
def yX6_valueAt : MethodName := ⟨RX6, "valueAt", "([II)I"⟩
abbrev cX6_join : ByteArray := prog_8_method_5_code
def yX6_join : MethodName := ⟨RX6, "join", "(III)I"⟩
def RX7 : String := "SaucerFair$Sayings"
def TX7 : u_T := fun k => match k with
  | 0 => ("SaucerFair$Sayings", "count", "I", false)
  | 1 => ("SaucerFair$Sayings", "hour", "[I", true)
  | 2 => ("SaucerFair$Sayings", "who", "[I", true)
  | _ => ("SaucerFair$Sayings", "degree", "[I", true)
def tyX7 : Nat → FieldType := fun k => match k with
  | 0 => .int
  | 1 => .array .int
  | 2 => .array .int
  | _ => .array .int
theorem nmX7 : ∀ a, a < 4 → ∀ b, b < 4 → a ≠ b → (TX7 a).2.1 ≠ (TX7 b).2.1 := by decide +kernel
theorem tyX7_ok : ∀ k, k < 4 → parseFieldDescriptor (TX7 k).2.2.1 = some (tyX7 k) := by decide +kernel
abbrev cX7_init : ByteArray := prog_9_method_1_code
def yX7_init : MethodName := ⟨RX7, "<init>", "()V"⟩
abbrev cX7_add : ByteArray := prog_9_method_2_code
def yX7_add : MethodName := ⟨RX7, "add", "(III)V"⟩
abbrev cX7_dropLast : ByteArray := prog_9_method_3_code
def yX7_dropLast : MethodName := ⟨RX7, "dropLast", "()V"⟩
abbrev cX7_copyFrom : ByteArray := prog_9_method_4_code
def yX7_copyFrom : MethodName := ⟨RX7, "copyFrom", "(LSaucerFair$Sayings;)V"⟩
abbrev cX7_lies : ByteArray := prog_9_method_5_code
def yX7_lies : MethodName := ⟨RX7, "lies", "()I"⟩
abbrev cX7_latest : ByteArray := prog_9_method_6_code
def yX7_latest : MethodName := ⟨RX7, "latest", "()I"⟩
abbrev cX7_mostLies : ByteArray := prog_9_method_7_code
def yX7_mostLies : MethodName := ⟨RX7, "mostLies", "()I"⟩
abbrev cX7_saidBy : ByteArray := prog_9_method_8_code
def yX7_saidBy : MethodName := ⟨RX7, "saidBy", "(I)I"⟩
def RX8 : String := "SaucerFair$Seen"
def TX8 : u_T := fun k => match k with
  | 0 => ("SaucerFair$Seen", "count", "I", false)
  | 1 => ("SaucerFair$Seen", "needle", "[I", true)
  | 2 => ("SaucerFair$Seen", "hour", "[I", true)
  | _ => ("SaucerFair$Seen", "shown", "[I", true)
def tyX8 : Nat → FieldType := fun k => match k with
  | 0 => .int
  | 1 => .array .int
  | 2 => .array .int
  | _ => .array .int
theorem nmX8 : ∀ a, a < 4 → ∀ b, b < 4 → a ≠ b → (TX8 a).2.1 ≠ (TX8 b).2.1 := by decide +kernel
theorem tyX8_ok : ∀ k, k < 4 → parseFieldDescriptor (TX8 k).2.2.1 = some (tyX8 k) := by decide +kernel
abbrev cX8_init : ByteArray := prog_10_method_1_code
def yX8_init : MethodName := ⟨RX8, "<init>", "()V"⟩
abbrev cX8_add : ByteArray := prog_10_method_2_code
def yX8_add : MethodName := ⟨RX8, "add", "(III)V"⟩
abbrev cX8_copyFrom : ByteArray := prog_10_method_3_code
def yX8_copyFrom : MethodName := ⟨RX8, "copyFrom", "(LSaucerFair$Seen;)V"⟩
def RX9 : String := "SaucerFair$Watch"
def TX9 : u_T := fun k => match k with
  | 0 => ("SaucerFair$Watch", "fair", "LSaucerFair$Fair;", false)
  | 1 => ("SaucerFair$Watch", "heard", "[I", true)
  | 2 => ("SaucerFair$Watch", "rows", "[[I", true)
  | 3 => ("SaucerFair$Watch", "lasts", "[[I", true)
  | 4 => ("SaucerFair$Watch", "sides", "[[I", true)
  | 5 => ("SaucerFair$Watch", "saidIn", "[I", true)
  | 6 => ("SaucerFair$Watch", "lieHearers", "[I", true)
  | 7 => ("SaucerFair$Watch", "sums", "[LSaucerFair$Way;", true)
  | 8 => ("SaucerFair$Watch", "sum", "LSaucerFair$Way;", true)
  | _ => ("SaucerFair$Watch", "values", "[I", true)
def tyX9 : Nat → FieldType := fun k => match k with
  | 0 => .object "SaucerFair$Fair"
  | 1 => .array .int
  | 2 => .array (.array .int)
  | 3 => .array (.array .int)
  | 4 => .array (.array .int)
  | 5 => .array .int
  | 6 => .array .int
  | 7 => .array (.object "SaucerFair$Way")
  | 8 => .object "SaucerFair$Way"
  | _ => .array .int
theorem nmX9 : ∀ a, a < 10 → ∀ b, b < 10 → a ≠ b → (TX9 a).2.1 ≠ (TX9 b).2.1 := by decide +kernel
theorem tyX9_ok : ∀ k, k < 10 → parseFieldDescriptor (TX9 k).2.2.1 = some (tyX9 k) := by decide +kernel
abbrev cX9_init : ByteArray := prog_11_method_1_code
def yX9_init : MethodName := ⟨RX9, "<init>", "()V"⟩
abbrev cX9_refresh : ByteArray := prog_11_method_2_code
def yX9_refresh : MethodName := ⟨RX9, "refresh", "()V"⟩
abbrev cX9_fillRow : ByteArray := prog_11_method_3_code
def yX9_fillRow : MethodName := ⟨RX9, "fillRow", "(II[I[I)V"⟩
abbrev cX9_addUp : ByteArray := prog_11_method_4_code
def yX9_addUp : MethodName := ⟨RX9, "addUp", "(LSaucerFair$Way;II)V"⟩
abbrev cX9_wayX : ByteArray := prog_11_method_5_code
def yX9_wayX : MethodName := ⟨RX9, "wayX", "(II)I"⟩
abbrev cX9_wayY : ByteArray := prog_11_method_6_code
def yX9_wayY : MethodName := ⟨RX9, "wayY", "(II)I"⟩
abbrev cX9_addPerson : ByteArray := prog_11_method_7_code
def yX9_addPerson : MethodName := ⟨RX9, "addPerson", "(LSaucerFair$Way;II)V"⟩
abbrev cX9_farBetween : ByteArray := prog_11_method_8_code
def yX9_farBetween : MethodName := ⟨RX9, "farBetween", "(II)I"⟩
abbrev cX9_turns : ByteArray := prog_11_method_9_code
def yX9_turns : MethodName := ⟨RX9, "turns", "(IIIIII)Z"⟩
abbrev cX9_hearsLie : ByteArray := prog_11_method_10_code
def yX9_hearsLie : MethodName := ⟨RX9, "hearsLie", "(IIII)Z"⟩
abbrev cX9_heardWithRust : ByteArray := prog_11_method_11_code
def yX9_heardWithRust : MethodName := ⟨RX9, "heardWithRust", "(II)I"⟩
abbrev cX9_farsHeard : ByteArray := prog_11_method_12_code
def yX9_farsHeard : MethodName := ⟨RX9, "farsHeard", "(IIIII)J"⟩
abbrev cX9_hearersOf : ByteArray := prog_11_method_13_code
def yX9_hearersOf : MethodName := ⟨RX9, "hearersOf", "(I)I"⟩
abbrev cX9_hearersOfLie : ByteArray := prog_11_method_14_code
def yX9_hearersOfLie : MethodName := ⟨RX9, "hearersOfLie", "(III)I"⟩
abbrev cX9_inReach : ByteArray := prog_11_method_15_code
def yX9_inReach : MethodName := ⟨RX9, "inReach", "(I)I"⟩
abbrev cX9_pointsAt : ByteArray := prog_11_method_16_code
def yX9_pointsAt : MethodName := ⟨RX9, "pointsAt", "(III)Z"⟩
abbrev cX9_pointersAt : ByteArray := prog_11_method_17_code
def yX9_pointersAt : MethodName := ⟨RX9, "pointersAt", "(II)I"⟩
abbrev cX9_pointedBy : ByteArray := prog_11_method_18_code
def yX9_pointedBy : MethodName := ⟨RX9, "pointedBy", "(II)I"⟩
abbrev cX9_clashesIn : ByteArray := prog_11_method_19_code
def yX9_clashesIn : MethodName := ⟨RX9, "clashesIn", "(I)Z"⟩
abbrev cX9_quivers : ByteArray := prog_11_method_20_code
def yX9_quivers : MethodName := ⟨RX9, "quivers", "(I)I"⟩
abbrev cX9_turnedIn : ByteArray := prog_11_method_21_code
def yX9_turnedIn : MethodName := ⟨RX9, "turnedIn", "(I)I"⟩
abbrev cX9_worth : ByteArray := prog_11_method_22_code
def yX9_worth : MethodName := ⟨RX9, "worth", "(I)I"⟩
abbrev cX9_liarsIn : ByteArray := prog_11_method_23_code
def yX9_liarsIn : MethodName := ⟨RX9, "liarsIn", "(I)I"⟩
abbrev cX9_noteLies : ByteArray := prog_11_method_24_code
def yX9_noteLies : MethodName := ⟨RX9, "noteLies", "(II)V"⟩
abbrev cX9_noteSums : ByteArray := prog_11_method_25_code
def yX9_noteSums : MethodName := ⟨RX9, "noteSums", "(I)V"⟩
abbrev cX9_tellsApart : ByteArray := prog_11_method_26_code
def yX9_tellsApart : MethodName := ⟨RX9, "tellsApart", "(I)Z"⟩
abbrev cX9_unlike : ByteArray := prog_11_method_27_code
def yX9_unlike : MethodName := ⟨RX9, "unlike", "(II)I"⟩
abbrev cX9_shownAlone : ByteArray := prog_11_method_28_code
def yX9_shownAlone : MethodName := ⟨RX9, "shownAlone", "(II)I"⟩
abbrev cX9_hearAll : ByteArray := prog_11_method_29_code
def yX9_hearAll : MethodName := ⟨RX9, "hearAll", "(I)Z"⟩
abbrev cX9_allShow : ByteArray := prog_11_method_30_code
def yX9_allShow : MethodName := ⟨RX9, "allShow", "(IIII)Z"⟩
abbrev cX9_shownBesidesLies : ByteArray := prog_11_method_31_code
def yX9_shownBesidesLies : MethodName := ⟨RX9, "shownBesidesLies", "(III)I"⟩
abbrev cX9_shownBesides : ByteArray := prog_11_method_32_code
def yX9_shownBesides : MethodName := ⟨RX9, "shownBesides", "(IIIII)I"⟩
def RX10 : String := "SaucerFair$Way"
def TX10 : u_T := fun k => match k with
  | 0 => ("SaucerFair$Way", "x", "I", false)
  | 1 => ("SaucerFair$Way", "y", "I", false)
  | _ => ("SaucerFair$Way", "moved", "Z", false)
def tyX10 : Nat → FieldType := fun k => match k with
  | 0 => .int
  | 1 => .int
  | _ => .boolean
theorem nmX10 : ∀ a, a < 3 → ∀ b, b < 3 → a ≠ b → (TX10 a).2.1 ≠ (TX10 b).2.1 := by decide +kernel
theorem tyX10_ok : ∀ k, k < 3 → parseFieldDescriptor (TX10 k).2.2.1 = some (tyX10 k) := by decide +kernel
abbrev cX10_init : ByteArray := prog_12_method_1_code
def yX10_init : MethodName := ⟨RX10, "<init>", "()V"⟩
abbrev cX10_clear : ByteArray := prog_12_method_2_code
def yX10_clear : MethodName := ⟨RX10, "clear", "()V"⟩
abbrev cX10_copyFrom : ByteArray := prog_12_method_3_code
def yX10_copyFrom : MethodName := ⟨RX10, "copyFrom", "(LSaucerFair$Way;)V"⟩
abbrev cX10_add : ByteArray := prog_12_method_4_code
def yX10_add : MethodName := ⟨RX10, "add", "(II)V"⟩
abbrev cX10_sign : ByteArray := prog_12_method_5_code
def yX10_sign : MethodName := ⟨RX10, "sign", "()I"⟩
def RX11 : String := "SaucerFair"
def TX11 : u_T := fun k => match k with
  | 0 => ("SaucerFair", "reader", "LSaucerFair$Reader;", true)
  | 1 => ("SaucerFair", "watch", "LSaucerFair$Watch;", true)
  | 2 => ("SaucerFair", "court", "LSaucerFair$Court;", true)
  | 3 => ("SaucerFair", "acts", "LSaucerFair$Acts;", true)
  | 4 => ("SaucerFair", "seen", "LSaucerFair$Seen;", true)
  | 5 => ("SaucerFair", "keptSayings", "LSaucerFair$Sayings;", true)
  | 6 => ("SaucerFair", "keptNeedles", "LSaucerFair$Needles;", true)
  | 7 => ("SaucerFair", "keptActs", "LSaucerFair$Acts;", true)
  | 8 => ("SaucerFair", "keptSeen", "LSaucerFair$Seen;", true)
  | 9 => ("SaucerFair", "spareRow", "[I", true)
  | 10 => ("SaucerFair", "spareLasts", "[I", true)
  | 11 => ("SaucerFair", "couples", "[I", true)
  | 12 => ("SaucerFair", "fars", "[J", true)
  | 13 => ("SaucerFair", "imageKept", "Z", false)
  | 14 => ("SaucerFair", "faultPlace", "I", false)
  | 15 => ("SaucerFair", "faultyTexts", "I", false)
  | 16 => ("SaucerFair", "refusedActs", "I", false)
  | _ => ("SaucerFair", "refusedSeen", "I", false)
def tyX11 : Nat → FieldType := fun k => match k with
  | 0 => .object "SaucerFair$Reader"
  | 1 => .object "SaucerFair$Watch"
  | 2 => .object "SaucerFair$Court"
  | 3 => .object "SaucerFair$Acts"
  | 4 => .object "SaucerFair$Seen"
  | 5 => .object "SaucerFair$Sayings"
  | 6 => .object "SaucerFair$Needles"
  | 7 => .object "SaucerFair$Acts"
  | 8 => .object "SaucerFair$Seen"
  | 9 => .array .int
  | 10 => .array .int
  | 11 => .array .int
  | 12 => .array .long
  | 13 => .boolean
  | 14 => .int
  | 15 => .int
  | 16 => .int
  | _ => .int
theorem nmX11 : ∀ a, a < 18 → ∀ b, b < 18 → a ≠ b → (TX11 a).2.1 ≠ (TX11 b).2.1 := by decide +kernel
theorem tyX11_ok : ∀ k, k < 18 → parseFieldDescriptor (TX11 k).2.2.1 = some (tyX11 k) := by decide +kernel
abbrev cX11_init : ByteArray := prog_1_method_1_code
def yX11_init : MethodName := ⟨RX11, "<init>", "()V"⟩
abbrev cX11_feed : ByteArray := prog_1_method_2_code
def yX11_feed : MethodName := ⟨RX11, "feed", "(IIIII)I"⟩
abbrev cX11_fair : ByteArray := prog_1_method_3_code
def yX11_fair : MethodName := ⟨RX11, "fair", "(I)I"⟩
abbrev cX11_fault : ByteArray := prog_1_method_4_code
def yX11_fault : MethodName := ⟨RX11, "fault", "()I"⟩
abbrev cX11_count : ByteArray := prog_1_method_5_code
def yX11_count : MethodName := ⟨RX11, "count", "(I)I"⟩
abbrev cX11_one : ByteArray := prog_1_method_6_code
def yX11_one : MethodName := ⟨RX11, "one", "(II)I"⟩
abbrev cX11_needle : ByteArray := prog_1_method_7_code
def yX11_needle : MethodName := ⟨RX11, "needle", "(II)I"⟩
abbrev cX11_saying : ByteArray := prog_1_method_8_code
def yX11_saying : MethodName := ⟨RX11, "saying", "(II)I"⟩
abbrev cX11_shows : ByteArray := prog_1_method_9_code
def yX11_shows : MethodName := ⟨RX11, "shows", "(II)I"⟩
abbrev cX11_last : ByteArray := prog_1_method_10_code
def yX11_last : MethodName := ⟨RX11, "last", "(II)I"⟩
abbrev cX11_points : ByteArray := prog_1_method_11_code
def yX11_points : MethodName := ⟨RX11, "points", "(II)I"⟩
abbrev cX11_side : ByteArray := prog_1_method_12_code
def yX11_side : MethodName := ⟨RX11, "side", "(II)I"⟩
abbrev cX11_accused : ByteArray := prog_1_method_13_code
def yX11_accused : MethodName := ⟨RX11, "accused", "(I)I"⟩
abbrev cX11_tell : ByteArray := prog_1_method_14_code
def yX11_tell : MethodName := ⟨RX11, "tell", "(III)I"⟩
abbrev cX11_back : ByteArray := prog_1_method_15_code
def yX11_back : MethodName := ⟨RX11, "back", "()I"⟩
abbrev cX11_rust : ByteArray := prog_1_method_16_code
def yX11_rust : MethodName := ⟨RX11, "rust", "(II)I"⟩
abbrev cX11_carry : ByteArray := prog_1_method_17_code
def yX11_carry : MethodName := ⟨RX11, "carry", "(III)I"⟩
abbrev cX11_undo : ByteArray := prog_1_method_18_code
def yX11_undo : MethodName := ⟨RX11, "undo", "()I"⟩
abbrev cX11_clash : ByteArray := prog_1_method_19_code
def yX11_clash : MethodName := ⟨RX11, "clash", "()I"⟩
abbrev cX11_just : ByteArray := prog_1_method_20_code
def yX11_just : MethodName := ⟨RX11, "just", "(III)I"⟩
abbrev cX11_apart : ByteArray := prog_1_method_21_code
def yX11_apart : MethodName := ⟨RX11, "apart", "(II)I"⟩
abbrev cX11_alibi : ByteArray := prog_1_method_22_code
def yX11_alibi : MethodName := ⟨RX11, "alibi", "(III)I"⟩
abbrev cX11_plan : ByteArray := prog_1_method_23_code
def yX11_plan : MethodName := ⟨RX11, "plan", "(III)I"⟩
abbrev cX11_see : ByteArray := prog_1_method_24_code
def yX11_see : MethodName := ⟨RX11, "see", "(III)I"⟩
abbrev cX11_forget : ByteArray := prog_1_method_25_code
def yX11_forget : MethodName := ⟨RX11, "forget", "()V"⟩
abbrev cX11_planted : ByteArray := prog_1_method_26_code
def yX11_planted : MethodName := ⟨RX11, "planted", "()I"⟩
abbrev cX11_suspects : ByteArray := prog_1_method_27_code
def yX11_suspects : MethodName := ⟨RX11, "suspects", "(I)I"⟩
abbrev cX11_spots : ByteArray := prog_1_method_28_code
def yX11_spots : MethodName := ⟨RX11, "spots", "(II)I"⟩
abbrev cX11_saucer : ByteArray := prog_1_method_29_code
def yX11_saucer : MethodName := ⟨RX11, "saucer", "(III)I"⟩
abbrev cX11_game : ByteArray := prog_1_method_30_code
def yX11_game : MethodName := ⟨RX11, "game", "(IIIII)I"⟩
abbrev cX11_years : ByteArray := prog_1_method_31_code
def yX11_years : MethodName := ⟨RX11, "years", "(III)I"⟩
abbrev cX11_shown : ByteArray := prog_1_method_32_code
def yX11_shown : MethodName := ⟨RX11, "shown", "(II)I"⟩
abbrev cX11_named : ByteArray := prog_1_method_33_code
def yX11_named : MethodName := ⟨RX11, "named", "(II)I"⟩
abbrev cX11_butFor : ByteArray := prog_1_method_34_code
def yX11_butFor : MethodName := ⟨RX11, "butFor", "(I)I"⟩
abbrev cX11_rusted : ByteArray := prog_1_method_35_code
def yX11_rusted : MethodName := ⟨RX11, "rusted", "(I)I"⟩
abbrev cX11_ears : ByteArray := prog_1_method_36_code
def yX11_ears : MethodName := ⟨RX11, "ears", "(II)I"⟩
abbrev cX11_hideouts : ByteArray := prog_1_method_37_code
def yX11_hideouts : MethodName := ⟨RX11, "hideouts", "(IIII)I"⟩
abbrev cX11_pardon : ByteArray := prog_1_method_38_code
def yX11_pardon : MethodName := ⟨RX11, "pardon", "(II)I"⟩
abbrev cX11_falsely : ByteArray := prog_1_method_39_code
def yX11_falsely : MethodName := ⟨RX11, "falsely", "(I)I"⟩
abbrev cX11_truest : ByteArray := prog_1_method_40_code
def yX11_truest : MethodName := ⟨RX11, "truest", "()I"⟩
abbrev cX11_first : ByteArray := prog_1_method_41_code
def yX11_first : MethodName := ⟨RX11, "first", "(I)I"⟩
abbrev cX11_busiest : ByteArray := prog_1_method_42_code
def yX11_busiest : MethodName := ⟨RX11, "busiest", "(I)I"⟩
abbrev cX11_image : ByteArray := prog_1_method_43_code
def yX11_image : MethodName := ⟨RX11, "image", "()V"⟩
abbrev cX11_restore : ByteArray := prog_1_method_44_code
def yX11_restore : MethodName := ⟨RX11, "restore", "()Z"⟩
abbrev cX11_needPerson : ByteArray := prog_1_method_45_code
def yX11_needPerson : MethodName := ⟨RX11, "needPerson", "(I)V"⟩
abbrev cX11_needNeedle : ByteArray := prog_1_method_46_code
def yX11_needNeedle : MethodName := ⟨RX11, "needNeedle", "(I)V"⟩
abbrev cX11_needSaying : ByteArray := prog_1_method_47_code
def yX11_needSaying : MethodName := ⟨RX11, "needSaying", "(I)V"⟩
abbrev cX11_needHour : ByteArray := prog_1_method_48_code
def yX11_needHour : MethodName := ⟨RX11, "needHour", "(I)V"⟩
abbrev cX11_needWhat : ByteArray := prog_1_method_49_code
def yX11_needWhat : MethodName := ⟨RX11, "needWhat", "(II)V"⟩
abbrev cX11_needLie : ByteArray := prog_1_method_50_code
def yX11_needLie : MethodName := ⟨RX11, "needLie", "(II)V"⟩
abbrev cX11_needBits : ByteArray := prog_1_method_51_code
def yX11_needBits : MethodName := ⟨RX11, "needBits", "(II)V"⟩
abbrev cX11_isHour : ByteArray := prog_1_method_52_code
def yX11_isHour : MethodName := ⟨RX11, "isHour", "(I)Z"⟩
abbrev cX11_placeNumber : ByteArray := prog_1_method_53_code
def yX11_placeNumber : MethodName := ⟨RX11, "placeNumber", "(II)I"⟩
abbrev cX11_farOf : ByteArray := prog_1_method_54_code
def yX11_farOf : MethodName := ⟨RX11, "farOf", "(II)I"⟩
abbrev cX11_sideOf : ByteArray := prog_1_method_55_code
def yX11_sideOf : MethodName := ⟨RX11, "sideOf", "(JJ)I"⟩
abbrev cX11_nextChoice : ByteArray := prog_1_method_56_code
def yX11_nextChoice : MethodName := ⟨RX11, "nextChoice", "(II)I"⟩
abbrev cX11_nextSeed : ByteArray := prog_1_method_57_code
def yX11_nextSeed : MethodName := ⟨RX11, "nextSeed", "(I)I"⟩
abbrev cX11_draw : ByteArray := prog_1_method_58_code
def yX11_draw : MethodName := ⟨RX11, "draw", "(II)I"⟩
abbrev cX11_accusedIn : ByteArray := prog_1_method_59_code
def yX11_accusedIn : MethodName := ⟨RX11, "accusedIn", "(I)I"⟩
abbrev cX11_accusedAlone : ByteArray := prog_1_method_60_code
def yX11_accusedAlone : MethodName := ⟨RX11, "accusedAlone", "(III)I"⟩
abbrev cX11_isSuspect : ByteArray := prog_1_method_61_code
def yX11_isSuspect : MethodName := ⟨RX11, "isSuspect", "(II)Z"⟩
abbrev cX11_seenHolds : ByteArray := prog_1_method_62_code
def yX11_seenHolds : MethodName := ⟨RX11, "seenHolds", "(IIII)Z"⟩
abbrev cX11_hearersFrom : ByteArray := prog_1_method_63_code
def yX11_hearersFrom : MethodName := ⟨RX11, "hearersFrom", "(II)I"⟩
abbrev cX11_unlikeThings : ByteArray := prog_1_method_64_code
def yX11_unlikeThings : MethodName := ⟨RX11, "unlikeThings", "(III)I"⟩
abbrev cX11_judgeCouples : ByteArray := prog_1_method_65_code
def yX11_judgeCouples : MethodName := ⟨RX11, "judgeCouples", "(III)V"⟩
abbrev cX11_rests : ByteArray := prog_1_method_66_code
def yX11_rests : MethodName := ⟨RX11, "rests", "(IIII)Z"⟩
abbrev cX11_gain : ByteArray := prog_1_method_67_code
def yX11_gain : MethodName := ⟨RX11, "gain", "(IIII)I"⟩
def RX12 : String := "SaucerFairModel"
def TX12 : u_T := fun k => match k with
  | 0 => ("SaucerFairModel", "thrown", "I", false)
  | 1 => ("SaucerFairModel", "people", "I", false)
  | 2 => ("SaucerFairModel", "needles", "I", false)
  | 3 => ("SaucerFairModel", "turnsAt", "I", false)
  | 4 => ("SaucerFairModel", "courtAt", "I", false)
  | 5 => ("SaucerFairModel", "px", "[I", true)
  | 6 => ("SaucerFairModel", "py", "[I", true)
  | 7 => ("SaucerFairModel", "skill", "[I", true)
  | 8 => ("SaucerFairModel", "reach", "[I", true)
  | 9 => ("SaucerFairModel", "code", "[I", true)
  | 10 => ("SaucerFairModel", "tape", "[I", true)
  | 11 => ("SaucerFairModel", "taped", "I", false)
  | 12 => ("SaucerFairModel", "faultKind", "I", false)
  | 13 => ("SaucerFairModel", "faultPlace", "I", false)
  | 14 => ("SaucerFairModel", "refused", "[I", true)
  | 15 => ("SaucerFairModel", "long1", "I", false)
  | 16 => ("SaucerFairModel", "next", "I", false)
  | 17 => ("SaucerFairModel", "sort", "I", false)
  | 18 => ("SaucerFairModel", "place", "I", false)
  | 19 => ("SaucerFairModel", "long0", "I", false)
  | 20 => ("SaucerFairModel", "value", "I", false)
  | 21 => ("SaucerFairModel", "sign", "I", false)
  | 22 => ("SaucerFairModel", "word", "J", false)
  | 23 => ("SaucerFairModel", "newPeople", "I", false)
  | 24 => ("SaucerFairModel", "newNeedles", "I", false)
  | 25 => ("SaucerFairModel", "newSayings", "I", false)
  | 26 => ("SaucerFairModel", "newTurnsAt", "I", false)
  | 27 => ("SaucerFairModel", "newCourtAt", "I", false)
  | 28 => ("SaucerFairModel", "top", "I", false)
  | 29 => ("SaucerFairModel", "firstValue", "I", false)
  | 30 => ("SaucerFairModel", "lastValue", "I", false)
  | 31 => ("SaucerFairModel", "waiting", "I", false)
  | 32 => ("SaucerFairModel", "depth", "I", false)
  | 33 => ("SaucerFairModel", "newX", "[I", true)
  | 34 => ("SaucerFairModel", "newY", "[I", true)
  | 35 => ("SaucerFairModel", "newSkill", "[I", true)
  | 36 => ("SaucerFairModel", "newReach", "[I", true)
  | 37 => ("SaucerFairModel", "newRow", "[I", true)
  | 38 => ("SaucerFairModel", "readCode", "[I", true)
  | 39 => ("SaucerFairModel", "waits", "[I", true)
  | 40 => ("SaucerFairModel", "tested", "[Z", true)
  | 41 => ("SaucerFairModel", "now", "[I", true)
  | 42 => ("SaucerFairModel", "ahead", "[I", true)
  | 43 => ("SaucerFairModel", "acts", "I", false)
  | 44 => ("SaucerFairModel", "told", "[I", true)
  | 45 => ("SaucerFairModel", "pile", "[I", true)
  | 46 => ("SaucerFairModel", "listed", "I", false)
  | 47 => ("SaucerFairModel", "hourOf", "[I", true)
  | 48 => ("SaucerFairModel", "whoOf", "[I", true)
  | 49 => ("SaucerFairModel", "degreeOf", "[I", true)
  | 50 => ("SaucerFairModel", "nx", "[I", true)
  | 51 => ("SaucerFairModel", "ny", "[I", true)
  | 52 => ("SaucerFairModel", "rustOf", "[I", true)
  | 53 => ("SaucerFairModel", "shown", "[I", true)
  | 54 => ("SaucerFairModel", "at", "[I", true)
  | 55 => ("SaucerFairModel", "byLie", "[I", true)
  | 56 => ("SaucerFairModel", "seenMany", "I", false)
  | 57 => ("SaucerFairModel", "seen", "[I", true)
  | 58 => ("SaucerFairModel", "its", "I", false)
  | 59 => ("SaucerFairModel", "hasImage", "Z", false)
  | 60 => ("SaucerFairModel", "imageActs", "I", false)
  | 61 => ("SaucerFairModel", "imageSeen", "I", false)
  | 62 => ("SaucerFairModel", "imageNow", "[I", true)
  | 63 => ("SaucerFairModel", "imageAhead", "[I", true)
  | _ => ("SaucerFairModel", "imageSees", "[I", true)
def tyX12 : Nat → FieldType := fun k => match k with
  | 0 => .int
  | 1 => .int
  | 2 => .int
  | 3 => .int
  | 4 => .int
  | 5 => .array .int
  | 6 => .array .int
  | 7 => .array .int
  | 8 => .array .int
  | 9 => .array .int
  | 10 => .array .int
  | 11 => .int
  | 12 => .int
  | 13 => .int
  | 14 => .array .int
  | 15 => .int
  | 16 => .int
  | 17 => .int
  | 18 => .int
  | 19 => .int
  | 20 => .int
  | 21 => .int
  | 22 => .long
  | 23 => .int
  | 24 => .int
  | 25 => .int
  | 26 => .int
  | 27 => .int
  | 28 => .int
  | 29 => .int
  | 30 => .int
  | 31 => .int
  | 32 => .int
  | 33 => .array .int
  | 34 => .array .int
  | 35 => .array .int
  | 36 => .array .int
  | 37 => .array .int
  | 38 => .array .int
  | 39 => .array .int
  | 40 => .array .boolean
  | 41 => .array .int
  | 42 => .array .int
  | 43 => .int
  | 44 => .array .int
  | 45 => .array .int
  | 46 => .int
  | 47 => .array .int
  | 48 => .array .int
  | 49 => .array .int
  | 50 => .array .int
  | 51 => .array .int
  | 52 => .array .int
  | 53 => .array .int
  | 54 => .array .int
  | 55 => .array .int
  | 56 => .int
  | 57 => .array .int
  | 58 => .int
  | 59 => .boolean
  | 60 => .int
  | 61 => .int
  | 62 => .array .int
  | 63 => .array .int
  | _ => .array .int
theorem nmX12 : ∀ a, a < 65 → ∀ b, b < 65 → a ≠ b → (TX12 a).2.1 ≠ (TX12 b).2.1 := by decide +kernel
theorem tyX12_ok : ∀ k, k < 65 → parseFieldDescriptor (TX12 k).2.2.1 = some (tyX12 k) := by decide +kernel
abbrev cX12_init : ByteArray := prog_14_method_1_code
def yX12_init : MethodName := ⟨RX12, "<init>", "()V"⟩
abbrev cX12_thrown : ByteArray := prog_14_method_2_code
def yX12_thrown : MethodName := ⟨RX12, "thrown", "()I"⟩
abbrev cX12_right : ByteArray := prog_14_method_3_code
def yX12_right : MethodName := ⟨RX12, "right", "(ZI)Z"⟩
abbrev cX12_within : ByteArray := prog_14_method_4_code
def yX12_within : MethodName := ⟨RX12, "within", "(III)Z"⟩
abbrev cX12_off : ByteArray := prog_14_method_5_code
def yX12_off : MethodName := ⟨RX12, "off", "(II)I"⟩
abbrev cX12_copies : ByteArray := prog_14_method_6_code
def yX12_copies : MethodName := ⟨RX12, "copies", "([I[I)V"⟩
abbrev cX12_bits : ByteArray := prog_14_method_7_code
def yX12_bits : MethodName := ⟨RX12, "bits", "(I)I"⟩
abbrev cX12_feed : ByteArray := prog_14_method_8_code
def yX12_feed : MethodName := ⟨RX12, "feed", "(IIIII)I"⟩
abbrev cX12_lays : ByteArray := prog_14_method_9_code
def yX12_lays : MethodName := ⟨RX12, "lays", "(I)V"⟩
abbrev cX12_byteAt : ByteArray := prog_14_method_10_code
def yX12_byteAt : MethodName := ⟨RX12, "byteAt", "(I)I"⟩
abbrev cX12_isLetter : ByteArray := prog_14_method_11_code
def yX12_isLetter : MethodName := ⟨RX12, "isLetter", "(I)Z"⟩
abbrev cX12_isDigit : ByteArray := prog_14_method_12_code
def yX12_isDigit : MethodName := ⟨RX12, "isDigit", "(I)Z"⟩
abbrev cX12_goes : ByteArray := prog_14_method_13_code
def yX12_goes : MethodName := ⟨RX12, "goes", "()V"⟩
abbrev cX12_spelled : ByteArray := prog_14_method_14_code
def yX12_spelled : MethodName := ⟨RX12, "spelled", "(IIIIII)J"⟩
abbrev cX12_letters : ByteArray := prog_14_method_15_code
def yX12_letters : MethodName := ⟨RX12, "letters", "(I)J"⟩
abbrev cX12_knownWord : ByteArray := prog_14_method_16_code
def yX12_knownWord : MethodName := ⟨RX12, "knownWord", "()I"⟩
abbrev cX12_wrong : ByteArray := prog_14_method_17_code
def yX12_wrong : MethodName := ⟨RX12, "wrong", "(I)V"⟩
abbrev cX12_isGood : ByteArray := prog_14_method_18_code
def yX12_isGood : MethodName := ⟨RX12, "isGood", "()Z"⟩
abbrev cX12_isSign : ByteArray := prog_14_method_19_code
def yX12_isSign : MethodName := ⟨RX12, "isSign", "(I)Z"⟩
abbrev cX12_need : ByteArray := prog_14_method_20_code
def yX12_need : MethodName := ⟨RX12, "need", "(Z)V"⟩
abbrev cX12_numberHere : ByteArray := prog_14_method_21_code
def yX12_numberHere : MethodName := ⟨RX12, "numberHere", "(II)Z"⟩
abbrev cX12_number : ByteArray := prog_14_method_22_code
def yX12_number : MethodName := ⟨RX12, "number", "(II)I"⟩
abbrev cX12_puts : ByteArray := prog_14_method_23_code
def yX12_puts : MethodName := ⟨RX12, "puts", "(I)V"⟩
abbrev cX12_isOpen : ByteArray := prog_14_method_24_code
def yX12_isOpen : MethodName := ⟨RX12, "isOpen", "(I)Z"⟩
abbrev cX12_strength : ByteArray := prog_14_method_25_code
def yX12_strength : MethodName := ⟨RX12, "strength", "(I)I"⟩
abbrev cX12_drops : ByteArray := prog_14_method_26_code
def yX12_drops : MethodName := ⟨RX12, "drops", "(I)V"⟩
abbrev cX12_waitsFor : ByteArray := prog_14_method_27_code
def yX12_waitsFor : MethodName := ⟨RX12, "waitsFor", "(I)V"⟩
abbrev cX12_part : ByteArray := prog_14_method_28_code
def yX12_part : MethodName := ⟨RX12, "part", "()V"⟩
abbrev cX12_deeper : ByteArray := prog_14_method_29_code
def yX12_deeper : MethodName := ⟨RX12, "deeper", "()V"⟩
abbrev cX12_operand : ByteArray := prog_14_method_30_code
def yX12_operand : MethodName := ⟨RX12, "operand", "(Z)V"⟩
abbrev cX12_isOpened : ByteArray := prog_14_method_31_code
def yX12_isOpened : MethodName := ⟨RX12, "isOpened", "()Z"⟩
abbrev cX12_closes : ByteArray := prog_14_method_32_code
def yX12_closes : MethodName := ⟨RX12, "closes", "()V"⟩
abbrev cX12_expression : ByteArray := prog_14_method_33_code
def yX12_expression : MethodName := ⟨RX12, "expression", "(II)V"⟩
abbrev cX12_readsOne : ByteArray := prog_14_method_34_code
def yX12_readsOne : MethodName := ⟨RX12, "readsOne", "()V"⟩
abbrev cX12_readsNeedle : ByteArray := prog_14_method_35_code
def yX12_readsNeedle : MethodName := ⟨RX12, "readsNeedle", "()V"⟩
abbrev cX12_readsSaying : ByteArray := prog_14_method_36_code
def yX12_readsSaying : MethodName := ⟨RX12, "readsSaying", "()V"⟩
abbrev cX12_line : ByteArray := prog_14_method_37_code
def yX12_line : MethodName := ⟨RX12, "line", "()V"⟩
abbrev cX12_fair : ByteArray := prog_14_method_38_code
def yX12_fair : MethodName := ⟨RX12, "fair", "(I)I"⟩
abbrev cX12_fault : ByteArray := prog_14_method_39_code
def yX12_fault : MethodName := ⟨RX12, "fault", "()I"⟩
abbrev cX12_keeps : ByteArray := prog_14_method_40_code
def yX12_keeps : MethodName := ⟨RX12, "keeps", "()V"⟩
abbrev cX12_refuses : ByteArray := prog_14_method_41_code
def yX12_refuses : MethodName := ⟨RX12, "refuses", "(I)I"⟩
abbrev cX12_undo : ByteArray := prog_14_method_42_code
def yX12_undo : MethodName := ⟨RX12, "undo", "()I"⟩
abbrev cX12_works : ByteArray := prog_14_method_43_code
def yX12_works : MethodName := ⟨RX12, "works", "(III)I"⟩
abbrev cX12_reckons : ByteArray := prog_14_method_44_code
def yX12_reckons : MethodName := ⟨RX12, "reckons", "(I)I"⟩
abbrev cX12_adds : ByteArray := prog_14_method_45_code
def yX12_adds : MethodName := ⟨RX12, "adds", "(III)V"⟩
abbrev cX12_lays0 : ByteArray := prog_14_method_46_code
def yX12_lays0 : MethodName := ⟨RX12, "lays0", "(Z)V"⟩
abbrev cX12_farOf : ByteArray := prog_14_method_47_code
def yX12_farOf : MethodName := ⟨RX12, "farOf", "(II)I"⟩
abbrev cX12_hears : ByteArray := prog_14_method_48_code
def yX12_hears : MethodName := ⟨RX12, "hears", "(II)Z"⟩
abbrev cX12_lastOf : ByteArray := prog_14_method_49_code
def yX12_lastOf : MethodName := ⟨RX12, "lastOf", "(II)I"⟩
abbrev cX12_sideOf : ByteArray := prog_14_method_50_code
def yX12_sideOf : MethodName := ⟨RX12, "sideOf", "(JJ)I"⟩
abbrev cX12_showsIn : ByteArray := prog_14_method_51_code
def yX12_showsIn : MethodName := ⟨RX12, "showsIn", "(II)I"⟩
abbrev cX12_isAt : ByteArray := prog_14_method_52_code
def yX12_isAt : MethodName := ⟨RX12, "isAt", "(II)Z"⟩
abbrev cX12_isPointed : ByteArray := prog_14_method_53_code
def yX12_isPointed : MethodName := ⟨RX12, "isPointed", "(III)Z"⟩
abbrev cX12_laysShown : ByteArray := prog_14_method_54_code
def yX12_laysShown : MethodName := ⟨RX12, "laysShown", "(I)V"⟩
abbrev cX12_saidBy : ByteArray := prog_14_method_55_code
def yX12_saidBy : MethodName := ⟨RX12, "saidBy", "(II)I"⟩
abbrev cX12_courts : ByteArray := prog_14_method_56_code
def yX12_courts : MethodName := ⟨RX12, "courts", "(III)I"⟩
abbrev cX12_accusedBy : ByteArray := prog_14_method_57_code
def yX12_accusedBy : MethodName := ⟨RX12, "accusedBy", "(II)I"⟩
abbrev cX12_accusedIn : ByteArray := prog_14_method_58_code
def yX12_accusedIn : MethodName := ⟨RX12, "accusedIn", "(I)I"⟩
abbrev cX12_lies : ByteArray := prog_14_method_59_code
def yX12_lies : MethodName := ⟨RX12, "lies", "()I"⟩
abbrev cX12_lastHour : ByteArray := prog_14_method_60_code
def yX12_lastHour : MethodName := ⟨RX12, "lastHour", "()I"⟩
abbrev cX12_mostLies : ByteArray := prog_14_method_61_code
def yX12_mostLies : MethodName := ⟨RX12, "mostLies", "()I"⟩
abbrev cX12_count : ByteArray := prog_14_method_62_code
def yX12_count : MethodName := ⟨RX12, "count", "(I)I"⟩
abbrev cX12_isPerson : ByteArray := prog_14_method_63_code
def yX12_isPerson : MethodName := ⟨RX12, "isPerson", "(I)Z"⟩
abbrev cX12_isNeedle : ByteArray := prog_14_method_64_code
def yX12_isNeedle : MethodName := ⟨RX12, "isNeedle", "(I)Z"⟩
abbrev cX12_isHour : ByteArray := prog_14_method_65_code
def yX12_isHour : MethodName := ⟨RX12, "isHour", "(I)Z"⟩
abbrev cX12_isWhat : ByteArray := prog_14_method_66_code
def yX12_isWhat : MethodName := ⟨RX12, "isWhat", "(II)Z"⟩
abbrev cX12_one : ByteArray := prog_14_method_67_code
def yX12_one : MethodName := ⟨RX12, "one", "(II)I"⟩
abbrev cX12_quivers : ByteArray := prog_14_method_68_code
def yX12_quivers : MethodName := ⟨RX12, "quivers", "(I)I"⟩
abbrev cX12_worthOf : ByteArray := prog_14_method_69_code
def yX12_worthOf : MethodName := ⟨RX12, "worthOf", "(I)I"⟩
abbrev cX12_needle : ByteArray := prog_14_method_70_code
def yX12_needle : MethodName := ⟨RX12, "needle", "(II)I"⟩
abbrev cX12_isSaying : ByteArray := prog_14_method_71_code
def yX12_isSaying : MethodName := ⟨RX12, "isSaying", "(I)Z"⟩
abbrev cX12_heardBy : ByteArray := prog_14_method_72_code
def yX12_heardBy : MethodName := ⟨RX12, "heardBy", "(I)I"⟩
abbrev cX12_saying : ByteArray := prog_14_method_73_code
def yX12_saying : MethodName := ⟨RX12, "saying", "(II)I"⟩
abbrev cX12_shows : ByteArray := prog_14_method_74_code
def yX12_shows : MethodName := ⟨RX12, "shows", "(II)I"⟩
abbrev cX12_last : ByteArray := prog_14_method_75_code
def yX12_last : MethodName := ⟨RX12, "last", "(II)I"⟩
abbrev cX12_points : ByteArray := prog_14_method_76_code
def yX12_points : MethodName := ⟨RX12, "points", "(II)I"⟩
abbrev cX12_side : ByteArray := prog_14_method_77_code
def yX12_side : MethodName := ⟨RX12, "side", "(II)I"⟩
abbrev cX12_accused : ByteArray := prog_14_method_78_code
def yX12_accused : MethodName := ⟨RX12, "accused", "(I)I"⟩
abbrev cX12_tell : ByteArray := prog_14_method_79_code
def yX12_tell : MethodName := ⟨RX12, "tell", "(III)I"⟩
abbrev cX12_back : ByteArray := prog_14_method_80_code
def yX12_back : MethodName := ⟨RX12, "back", "()I"⟩
abbrev cX12_rust : ByteArray := prog_14_method_81_code
def yX12_rust : MethodName := ⟨RX12, "rust", "(II)I"⟩
abbrev cX12_carry : ByteArray := prog_14_method_82_code
def yX12_carry : MethodName := ⟨RX12, "carry", "(III)I"⟩
abbrev cX12_pointedBy : ByteArray := prog_14_method_83_code
def yX12_pointedBy : MethodName := ⟨RX12, "pointedBy", "(II)I"⟩
abbrev cX12_clash : ByteArray := prog_14_method_84_code
def yX12_clash : MethodName := ⟨RX12, "clash", "()I"⟩
abbrev cX12_isLie : ByteArray := prog_14_method_85_code
def yX12_isLie : MethodName := ⟨RX12, "isLie", "(II)Z"⟩
abbrev cX12_laysLie : ByteArray := prog_14_method_86_code
def yX12_laysLie : MethodName := ⟨RX12, "laysLie", "(III)V"⟩
abbrev cX12_just : ByteArray := prog_14_method_87_code
def yX12_just : MethodName := ⟨RX12, "just", "(III)I"⟩
abbrev cX12_areApart : ByteArray := prog_14_method_88_code
def yX12_areApart : MethodName := ⟨RX12, "areApart", "(I)Z"⟩
abbrev cX12_apart : ByteArray := prog_14_method_89_code
def yX12_apart : MethodName := ⟨RX12, "apart", "(II)I"⟩
abbrev cX12_alibi : ByteArray := prog_14_method_90_code
def yX12_alibi : MethodName := ⟨RX12, "alibi", "(III)I"⟩
abbrev cX12_areShowing : ByteArray := prog_14_method_91_code
def yX12_areShowing : MethodName := ⟨RX12, "areShowing", "(III)Z"⟩
abbrev cX12_plan : ByteArray := prog_14_method_92_code
def yX12_plan : MethodName := ⟨RX12, "plan", "(III)I"⟩
abbrev cX12_see : ByteArray := prog_14_method_93_code
def yX12_see : MethodName := ⟨RX12, "see", "(III)I"⟩
abbrev cX12_forget : ByteArray := prog_14_method_94_code
def yX12_forget : MethodName := ⟨RX12, "forget", "()V"⟩
abbrev cX12_plantedNow : ByteArray := prog_14_method_95_code
def yX12_plantedNow : MethodName := ⟨RX12, "plantedNow", "()I"⟩
abbrev cX12_planted : ByteArray := prog_14_method_96_code
def yX12_planted : MethodName := ⟨RX12, "planted", "()I"⟩
abbrev cX12_suspects : ByteArray := prog_14_method_97_code
def yX12_suspects : MethodName := ⟨RX12, "suspects", "(I)I"⟩
abbrev cX12_spots : ByteArray := prog_14_method_98_code
def yX12_spots : MethodName := ⟨RX12, "spots", "(II)I"⟩
abbrev cX12_tellsBy : ByteArray := prog_14_method_99_code
def yX12_tellsBy : MethodName := ⟨RX12, "tellsBy", "(II)I"⟩
abbrev cX12_saucer : ByteArray := prog_14_method_100_code
def yX12_saucer : MethodName := ⟨RX12, "saucer", "(III)I"⟩
abbrev cX12_gains : ByteArray := prog_14_method_101_code
def yX12_gains : MethodName := ⟨RX12, "gains", "(IIII)I"⟩
abbrev cX12_accusedIf : ByteArray := prog_14_method_102_code
def yX12_accusedIf : MethodName := ⟨RX12, "accusedIf", "(IIIII)I"⟩
abbrev cX12_game : ByteArray := prog_14_method_103_code
def yX12_game : MethodName := ⟨RX12, "game", "(IIIII)I"⟩
abbrev cX12_draw : ByteArray := prog_14_method_104_code
def yX12_draw : MethodName := ⟨RX12, "draw", "(I)I"⟩
abbrev cX12_years : ByteArray := prog_14_method_105_code
def yX12_years : MethodName := ⟨RX12, "years", "(III)I"⟩
abbrev cX12_shown : ByteArray := prog_14_method_106_code
def yX12_shown : MethodName := ⟨RX12, "shown", "(II)I"⟩
abbrev cX12_named : ByteArray := prog_14_method_107_code
def yX12_named : MethodName := ⟨RX12, "named", "(II)I"⟩
abbrev cX12_butFor : ByteArray := prog_14_method_108_code
def yX12_butFor : MethodName := ⟨RX12, "butFor", "(I)I"⟩
abbrev cX12_rusted : ByteArray := prog_14_method_109_code
def yX12_rusted : MethodName := ⟨RX12, "rusted", "(I)I"⟩
abbrev cX12_hasLied : ByteArray := prog_14_method_110_code
def yX12_hasLied : MethodName := ⟨RX12, "hasLied", "(II)Z"⟩
abbrev cX12_falsely : ByteArray := prog_14_method_111_code
def yX12_falsely : MethodName := ⟨RX12, "falsely", "(I)I"⟩
abbrev cX12_truest : ByteArray := prog_14_method_112_code
def yX12_truest : MethodName := ⟨RX12, "truest", "()I"⟩
abbrev cX12_first : ByteArray := prog_14_method_113_code
def yX12_first : MethodName := ⟨RX12, "first", "(I)I"⟩
abbrev cX12_busiest : ByteArray := prog_14_method_114_code
def yX12_busiest : MethodName := ⟨RX12, "busiest", "(I)I"⟩
abbrev cX12_ears : ByteArray := prog_14_method_115_code
def yX12_ears : MethodName := ⟨RX12, "ears", "(II)I"⟩
abbrev cX12_hideouts : ByteArray := prog_14_method_116_code
def yX12_hideouts : MethodName := ⟨RX12, "hideouts", "(IIII)I"⟩
abbrev cX12_pardon : ByteArray := prog_14_method_117_code
def yX12_pardon : MethodName := ⟨RX12, "pardon", "(II)I"⟩
abbrev cX12_image : ByteArray := prog_14_method_118_code
def yX12_image : MethodName := ⟨RX12, "image", "()V"⟩
abbrev cX12_restore : ByteArray := prog_14_method_119_code
def yX12_restore : MethodName := ⟨RX12, "restore", "()Z"⟩
def RJx145de : String := "java/io/Serializable"
def TJx145de : u_T := fun k => match k with
  | _ => ("", "", "", false)
def tyJx145de : Nat → FieldType := fun k => match k with
  | _ => .int
def RJx9f9b0 : String := "java/lang/CharSequence"
def TJx9f9b0 : u_T := fun k => match k with
  | _ => ("", "", "", false)
def tyJx9f9b0 : Nat → FieldType := fun k => match k with
  | _ => .int
def RJxb160c : String := "java/lang/Comparable"
def TJxb160c : u_T := fun k => match k with
  | _ => ("", "", "", false)
def tyJxb160c : Nat → FieldType := fun k => match k with
  | _ => .int
def RJ6 : String := "java/lang/Integer"
def TJ6 : u_T := fun k => match k with
  | _ => ("", "", "", false)
def tyJ6 : Nat → FieldType := fun k => match k with
  | _ => .int
abbrev cJ6_bitCount_0f7a4 : ByteArray := prog_20_method_49_code
def yJ6_bitCount_0f7a4 : MethodName := ⟨RJ6, "bitCount", "(I)I"⟩
def RJ9 : String := "java/lang/Math"
def TJ9 : u_T := fun k => match k with
  | _ => ("", "", "", false)
def tyJ9 : Nat → FieldType := fun k => match k with
  | _ => .int
abbrev cJ9_abs_0f7a4 : ByteArray := prog_21_method_59_code
def yJ9_abs_0f7a4 : MethodName := ⟨RJ9, "abs", "(I)I"⟩
abbrev cJ9_abs_067f4 : ByteArray := prog_21_method_61_code
def yJ9_abs_067f4 : MethodName := ⟨RJ9, "abs", "(J)J"⟩
abbrev cJ9_max_7cf53 : ByteArray := prog_21_method_65_code
def yJ9_max_7cf53 : MethodName := ⟨RJ9, "max", "(II)I"⟩
abbrev cJ9_min_7cf53 : ByteArray := prog_21_method_69_code
def yJ9_min_7cf53 : MethodName := ⟨RJ9, "min", "(II)I"⟩
def RJ0 : String := "java/lang/String"
def TJ0 : u_T := fun k => match k with
  | _ => ("", "", "", false)
def tyJ0 : Nat → FieldType := fun k => match k with
  | _ => .int
abbrev cJ0_length_8abf5 : ByteArray := prog_23_method_54_code
def yJ0_length_8abf5 : MethodName := ⟨RJ0, "length", "()I"⟩
abbrev cJ0_charAt_5068e : ByteArray := prog_23_method_56_code
def yJ0_charAt_5068e : MethodName := ⟨RJ0, "charAt", "(I)C"⟩
abbrev cJ0_coder_7d493 : ByteArray := prog_23_method_152_code
def yJ0_coder_7d493 : MethodName := ⟨RJ0, "coder", "()B"⟩
abbrev cJ0_isLatin1_aae02 : ByteArray := prog_23_method_154_code
def yJ0_isLatin1_aae02 : MethodName := ⟨RJ0, "isLatin1", "()Z"⟩
abbrev cJ0_checkIndex_df160 : ByteArray := prog_23_method_155_code
def yJ0_checkIndex_df160 : MethodName := ⟨RJ0, "checkIndex", "(II)V"⟩
def RJ1 : String := "java/lang/StringLatin1"
def TJ1 : u_T := fun k => match k with
  | _ => ("", "", "", false)
def tyJ1 : Nat → FieldType := fun k => match k with
  | _ => .int
abbrev cJ1_charAt_3b067 : ByteArray := prog_24_method_2_code
def yJ1_charAt_3b067 : MethodName := ⟨RJ1, "charAt", "([BI)C"⟩
def RJ2 : String := "java/lang/StringUTF16"
def TJ2 : u_T := fun k => match k with
  | _ => ("", "", "", false)
def tyJ2 : Nat → FieldType := fun k => match k with
  | _ => .int
abbrev cJ2_getChar_3b067 : ByteArray := prog_25_method_5_code
def yJ2_getChar_3b067 : MethodName := ⟨RJ2, "getChar", "([BI)C"⟩
abbrev cJ2_length_9d52b : ByteArray := prog_25_method_6_code
def yJ2_length_9d52b : MethodName := ⟨RJ2, "length", "([B)I"⟩
abbrev cJ2_charAt_3b067 : ByteArray := prog_25_method_83_code
def yJ2_charAt_3b067 : MethodName := ⟨RJ2, "charAt", "([BI)C"⟩
abbrev cJ2_checkIndex_2214a : ByteArray := prog_25_method_91_code
def yJ2_checkIndex_2214a : MethodName := ⟨RJ2, "checkIndex", "(I[B)V"⟩
def RJ10 : String := "java/lang/System"
def TJ10 : u_T := fun k => match k with
  | _ => ("", "", "", false)
def tyJ10 : Nat → FieldType := fun k => match k with
  | _ => .int
def RJxfd54e : String := "java/lang/constant/Constable"
def TJxfd54e : u_T := fun k => match k with
  | _ => ("", "", "", false)
def tyJxfd54e : Nat → FieldType := fun k => match k with
  | _ => .int
def RJx3cf43 : String := "java/lang/constant/ConstantDesc"
def TJx3cf43 : u_T := fun k => match k with
  | _ => ("", "", "", false)
def tyJx3cf43 : Nat → FieldType := fun k => match k with
  | _ => .int
def RJ7 : String := "java/util/Arrays"
def TJ7 : u_T := fun k => match k with
  | _ => ("", "", "", false)
def tyJ7 : Nat → FieldType := fun k => match k with
  | _ => .int
abbrev cJ7_fill_53178 : ByteArray := prog_30_method_103_code
def yJ7_fill_53178 : MethodName := ⟨RJ7, "fill", "([II)V"⟩
def RJ3 : String := "jdk/internal/util/Preconditions"
def TJ3 : u_T := fun k => match k with
  | _ => ("", "", "", false)
def tyJ3 : Nat → FieldType := fun k => match k with
  | _ => .int
abbrev cJ3_checkIndex_8e157 : ByteArray := prog_32_method_11_code
def yJ3_checkIndex_8e157 : MethodName := ⟨RJ3, "checkIndex", "(IILjava/util/function/BiFunction;)I"⟩
def RL : String := "SaucerFairLaw"
abbrev cL_fair : ByteArray := method_3_code
def yL_fair : MethodName := ⟨RL, "fair", "(LSaucerFair;I[J)I"⟩
abbrev cL_count : ByteArray := method_4_code
def yL_count : MethodName := ⟨RL, "count", "(LSaucerFair;I[J)I"⟩
abbrev cL_one : ByteArray := method_5_code
def yL_one : MethodName := ⟨RL, "one", "(LSaucerFair;II[J)I"⟩
abbrev cL_needle : ByteArray := method_6_code
def yL_needle : MethodName := ⟨RL, "needle", "(LSaucerFair;II[J)I"⟩
abbrev cL_saying : ByteArray := method_7_code
def yL_saying : MethodName := ⟨RL, "saying", "(LSaucerFair;II[J)I"⟩
abbrev cL_shows : ByteArray := method_8_code
def yL_shows : MethodName := ⟨RL, "shows", "(LSaucerFair;II[J)I"⟩
abbrev cL_last : ByteArray := method_9_code
def yL_last : MethodName := ⟨RL, "last", "(LSaucerFair;II[J)I"⟩
abbrev cL_points : ByteArray := method_10_code
def yL_points : MethodName := ⟨RL, "points", "(LSaucerFair;II[J)I"⟩
abbrev cL_accused : ByteArray := method_11_code
def yL_accused : MethodName := ⟨RL, "accused", "(LSaucerFair;I[J)I"⟩
abbrev cL_tell : ByteArray := method_12_code
def yL_tell : MethodName := ⟨RL, "tell", "(LSaucerFair;III[J)I"⟩
abbrev cL_rust : ByteArray := method_13_code
def yL_rust : MethodName := ⟨RL, "rust", "(LSaucerFair;II[J)I"⟩
abbrev cL_carry : ByteArray := method_14_code
def yL_carry : MethodName := ⟨RL, "carry", "(LSaucerFair;III[J)I"⟩
abbrev cL_just : ByteArray := method_15_code
def yL_just : MethodName := ⟨RL, "just", "(LSaucerFair;III[J)I"⟩
abbrev cL_apart : ByteArray := method_16_code
def yL_apart : MethodName := ⟨RL, "apart", "(LSaucerFair;II[J)I"⟩
abbrev cL_alibi : ByteArray := method_17_code
def yL_alibi : MethodName := ⟨RL, "alibi", "(LSaucerFair;III[J)I"⟩
abbrev cL_plan : ByteArray := method_18_code
def yL_plan : MethodName := ⟨RL, "plan", "(LSaucerFair;III[J)I"⟩
abbrev cL_see : ByteArray := method_19_code
def yL_see : MethodName := ⟨RL, "see", "(LSaucerFair;III[J)I"⟩
abbrev cL_suspects : ByteArray := method_20_code
def yL_suspects : MethodName := ⟨RL, "suspects", "(LSaucerFair;I[J)I"⟩
abbrev cL_spots : ByteArray := method_21_code
def yL_spots : MethodName := ⟨RL, "spots", "(LSaucerFair;II[J)I"⟩
abbrev cL_saucer : ByteArray := method_22_code
def yL_saucer : MethodName := ⟨RL, "saucer", "(LSaucerFair;III[J)I"⟩
abbrev cL_game : ByteArray := method_23_code
def yL_game : MethodName := ⟨RL, "game", "(LSaucerFair;IIIII[J)I"⟩
abbrev cL_years : ByteArray := method_24_code
def yL_years : MethodName := ⟨RL, "years", "(LSaucerFair;III[J)I"⟩
abbrev cL_shown : ByteArray := method_25_code
def yL_shown : MethodName := ⟨RL, "shown", "(LSaucerFair;II[J)I"⟩
abbrev cL_named : ByteArray := method_26_code
def yL_named : MethodName := ⟨RL, "named", "(LSaucerFair;II[J)I"⟩
abbrev cL_butFor : ByteArray := method_27_code
def yL_butFor : MethodName := ⟨RL, "butFor", "(LSaucerFair;I[J)I"⟩
abbrev cL_rusted : ByteArray := method_28_code
def yL_rusted : MethodName := ⟨RL, "rusted", "(LSaucerFair;I[J)I"⟩
abbrev cL_ears : ByteArray := method_29_code
def yL_ears : MethodName := ⟨RL, "ears", "(LSaucerFair;II[J)I"⟩
abbrev cL_hideouts : ByteArray := method_30_code
def yL_hideouts : MethodName := ⟨RL, "hideouts", "(LSaucerFair;IIII[J)I"⟩
abbrev cL_pardon : ByteArray := method_31_code
def yL_pardon : MethodName := ⟨RL, "pardon", "(LSaucerFair;II[J)I"⟩
abbrev cL_falsely : ByteArray := method_32_code
def yL_falsely : MethodName := ⟨RL, "falsely", "(LSaucerFair;I[J)I"⟩
abbrev cL_first : ByteArray := method_33_code
def yL_first : MethodName := ⟨RL, "first", "(LSaucerFair;I[J)I"⟩
abbrev cL_busiest : ByteArray := method_34_code
def yL_busiest : MethodName := ⟨RL, "busiest", "(LSaucerFair;I[J)I"⟩
abbrev cL_law : ByteArray := code
def yL_law : MethodName := ⟨RL, "law", "([I)Z"⟩
abbrev vwCl : List vw_C := [(RX0, TX0, 5), (RX1, TX1, 3), (RX2, TX2, 5), (RX3, TX3, 5), (RX4, TX4, 4), (RX5, TX5, 10), (RX6, TX6, 3), (RX7, TX7, 4), (RX8, TX8, 4), (RX9, TX9, 10), (RX10, TX10, 3), (RX11, TX11, 18), (RX12, TX12, 65)]
end
section
/-! which method has which number; which links the classes have, with the places of their words in lw_tbl (laid by wip/whole/gen/mk04.py) -/
def xtb (k : Nat) : List Cond := match k with
  | 0 => k2_sels lw_privs
  | 1 => tables_1_1
  | 2 => tables_1_2
  | 3 => tables_1_3
  | 4 => tables_1_4
  | 5 => tables_1_5
  | 6 => tables_1_6
  | 7 => tables_1_7
  | 8 => tables_1_8
  | 9 => tables_1_9
  | _ => []
def xat (p : Nat) : Option Cond := (xtb (p / 1000))[p % 1000]?
theorem xtb_in (k : Nat) (w : Cond) (h : w ∈ xtb k) : w ∈ lw_tbl := by
  unfold lw_tbl
  unfold xtb at h
  split at h
  · exact List.mem_append_left _ h
  · refine List.mem_append_right _ ?_
    unfold tables_1
    simp only [List.mem_append]
    simp only [h, true_or, or_true]
  · refine List.mem_append_right _ ?_
    unfold tables_1
    simp only [List.mem_append]
    simp only [h, true_or, or_true]
  · refine List.mem_append_right _ ?_
    unfold tables_1
    simp only [List.mem_append]
    simp only [h, true_or, or_true]
  · refine List.mem_append_right _ ?_
    unfold tables_1
    simp only [List.mem_append]
    simp only [h, true_or, or_true]
  · refine List.mem_append_right _ ?_
    unfold tables_1
    simp only [List.mem_append]
    simp only [h, true_or, or_true]
  · refine List.mem_append_right _ ?_
    unfold tables_1
    simp only [List.mem_append]
    simp only [h, true_or, or_true]
  · refine List.mem_append_right _ ?_
    unfold tables_1
    simp only [List.mem_append]
    simp only [h, true_or, or_true]
  · refine List.mem_append_right _ ?_
    unfold tables_1
    simp only [List.mem_append]
    simp only [h, true_or, or_true]
  · refine List.mem_append_right _ ?_
    unfold tables_1
    simp only [List.mem_append]
    simp only [h, true_or, or_true]
  · cases h
theorem xat_in {p : Nat} {w : Cond} (h : xat p = some w) : w ∈ lw_tbl := xtb_in _ _ (List.mem_of_getElem? h)
def xOwnL : List String := [RX0, RX1, RX2, RX3, RX4, RX5, RX6, RX7, RX8, RX9, RX10, RX11, RX12, RL, RJ6, RJ7, RJ0, RJ1, RJ3]
def xOwn (o : Nat) : String := xOwnL.getD o ""
def xYL0 : List MethodName := [yX0_init, yX0_keep, yX0_forgetEldest, yX0_revertLast, yX0_copyFrom, yX1_init, yX1_silence, yX1_hearOne, yX1_hearAll, yX1_hearBesides, yX1_accuse, yX1_weigh, yX2_init, yX2_empty, yX3_init, yX3_add, yX3_setRust, yX3_setPlace, yX3_copyFrom, yX4_init, yX4_add, yX5_init, yX5_put, yX5_read, yX5_refuse, yX5_advance, yX5_kindOf, yX5_isWord, yX5_readLine, yX5_readPerson, yX5_readNeedle, yX5_readSaying, yX5_readRule, yX5_isNumber, yX5_isFreePlace, yX5_taken, yX5_readSign, yX5_readExpr, yX5_readAnd, yX5_readNot, yX5_readTest, yX5_readSum, yX5_readProduct, yX5_readPart, yX5_turnsValue, yX5_courtValue, yX6_init, yX6_add, yX6_run, yX6_valueAt, yX6_join, yX7_init, yX7_add, yX7_dropLast, yX7_copyFrom, yX7_lies, yX7_latest, yX7_mostLies, yX7_saidBy, yX8_init]
def xYL1 : List MethodName := [yX8_add, yX8_copyFrom, yX9_init, yX9_refresh, yX9_fillRow, yX9_addUp, yX9_wayX, yX9_wayY, yX9_addPerson, yX9_farBetween, yX9_turns, yX9_hearsLie, yX9_heardWithRust, yX9_farsHeard, yX9_hearersOf, yX9_hearersOfLie, yX9_inReach, yX9_pointsAt, yX9_pointersAt, yX9_pointedBy, yX9_clashesIn, yX9_quivers, yX9_turnedIn, yX9_worth, yX9_liarsIn, yX9_noteLies, yX9_noteSums, yX9_tellsApart, yX9_unlike, yX9_shownAlone, yX9_hearAll, yX9_allShow, yX9_shownBesidesLies, yX9_shownBesides, yX10_init, yX10_clear, yX10_copyFrom, yX10_add, yX10_sign, yX11_init, yX11_feed, yX11_fair, yX11_fault, yX11_count, yX11_one, yX11_needle, yX11_saying, yX11_shows, yX11_last, yX11_points, yX11_side, yX11_accused, yX11_tell, yX11_back, yX11_rust, yX11_carry, yX11_undo, yX11_clash, yX11_just, yX11_apart]
def xYL2 : List MethodName := [yX11_alibi, yX11_plan, yX11_see, yX11_forget, yX11_planted, yX11_suspects, yX11_spots, yX11_saucer, yX11_game, yX11_years, yX11_shown, yX11_named, yX11_butFor, yX11_rusted, yX11_ears, yX11_hideouts, yX11_pardon, yX11_falsely, yX11_truest, yX11_first, yX11_busiest, yX11_image, yX11_restore, yX11_needPerson, yX11_needNeedle, yX11_needSaying, yX11_needHour, yX11_needWhat, yX11_needLie, yX11_needBits, yX11_isHour, yX11_placeNumber, yX11_farOf, yX11_sideOf, yX11_nextChoice, yX11_nextSeed, yX11_draw, yX11_accusedIn, yX11_accusedAlone, yX11_isSuspect, yX11_seenHolds, yX11_hearersFrom, yX11_unlikeThings, yX11_judgeCouples, yX11_rests, yX11_gain, yX12_init, yX12_thrown, yX12_right, yX12_within, yX12_off, yX12_copies, yX12_bits, yX12_feed, yX12_lays, yX12_byteAt, yX12_isLetter, yX12_isDigit, yX12_goes, yX12_spelled]
def xYL3 : List MethodName := [yX12_letters, yX12_knownWord, yX12_wrong, yX12_isGood, yX12_isSign, yX12_need, yX12_numberHere, yX12_number, yX12_puts, yX12_isOpen, yX12_strength, yX12_drops, yX12_waitsFor, yX12_part, yX12_deeper, yX12_operand, yX12_isOpened, yX12_closes, yX12_expression, yX12_readsOne, yX12_readsNeedle, yX12_readsSaying, yX12_line, yX12_fair, yX12_fault, yX12_keeps, yX12_refuses, yX12_undo, yX12_works, yX12_reckons, yX12_adds, yX12_lays0, yX12_farOf, yX12_hears, yX12_lastOf, yX12_sideOf, yX12_showsIn, yX12_isAt, yX12_isPointed, yX12_laysShown, yX12_saidBy, yX12_courts, yX12_accusedBy, yX12_accusedIn, yX12_lies, yX12_lastHour, yX12_mostLies, yX12_count, yX12_isPerson, yX12_isNeedle, yX12_isHour, yX12_isWhat, yX12_one, yX12_quivers, yX12_worthOf, yX12_needle, yX12_isSaying, yX12_heardBy, yX12_saying, yX12_shows]
def xYL4 : List MethodName := [yX12_last, yX12_points, yX12_side, yX12_accused, yX12_tell, yX12_back, yX12_rust, yX12_carry, yX12_pointedBy, yX12_clash, yX12_isLie, yX12_laysLie, yX12_just, yX12_areApart, yX12_apart, yX12_alibi, yX12_areShowing, yX12_plan, yX12_see, yX12_forget, yX12_plantedNow, yX12_planted, yX12_suspects, yX12_spots, yX12_tellsBy, yX12_saucer, yX12_gains, yX12_accusedIf, yX12_game, yX12_draw, yX12_years, yX12_shown, yX12_named, yX12_butFor, yX12_rusted, yX12_hasLied, yX12_falsely, yX12_truest, yX12_first, yX12_busiest, yX12_ears, yX12_hideouts, yX12_pardon, yX12_image, yX12_restore, yJ6_bitCount_0f7a4, yJ9_abs_0f7a4, yJ9_abs_067f4, yJ9_max_7cf53, yJ9_min_7cf53, yJ0_length_8abf5, yJ0_charAt_5068e, yJ0_coder_7d493, yJ0_isLatin1_aae02, yJ0_checkIndex_df160, yJ1_charAt_3b067, yJ2_getChar_3b067, yJ2_length_9d52b, yJ2_charAt_3b067, yJ2_checkIndex_2214a]
def xYL5 : List MethodName := [yJ7_fill_53178, yJ3_checkIndex_8e157, yL_fair, yL_count, yL_one, yL_needle, yL_saying, yL_shows, yL_last, yL_points, yL_accused, yL_tell, yL_rust, yL_carry, yL_just, yL_apart, yL_alibi, yL_plan, yL_see, yL_suspects, yL_spots, yL_saucer, yL_game, yL_years, yL_shown, yL_named, yL_butFor, yL_rusted, yL_ears, yL_hideouts, yL_pardon, yL_falsely, yL_first, yL_busiest, yL_law]
def xYL : List MethodName := xYL0 ++ (xYL1 ++ (xYL2 ++ (xYL3 ++ (xYL4 ++ (xYL5)))))
def xY (i : Nat) : MethodName := match i / 60 with
  | 0 => xYL0.getD (i % 60) yX0_init
  | 1 => xYL1.getD (i % 60) yX0_init
  | 2 => xYL2.getD (i % 60) yX0_init
  | 3 => xYL3.getD (i % 60) yX0_init
  | 4 => xYL4.getD (i % 60) yX0_init
  | 5 => xYL5.getD (i % 60) yX0_init
  | _ => yX0_init
def xLKf : List (Nat × Nat × Nat × Nat × Nat) := [(0, 9, 0, 1, 2088), (0, 15, 0, 2, 2089), (0, 18, 0, 3, 2090), (0, 21, 0, 4, 2091), (0, 24, 0, 0, 2086), (0, 37, 2, 2, 1185), (0, 52, 2, 1, 1179), (1, 9, 1, 0, 2070), (1, 15, 1, 1, 2071), (1, 18, 1, 2, 2072), (1, 27, 9, 0, 2027), (1, 33, 2, 1, 1178), (1, 39, 3, 0, 1091), (1, 49, 9, 4, 2037), (1, 53, 2, 2, 1184), (1, 57, 7, 0, 1128), (1, 60, 7, 1, 1133), (1, 63, 7, 2, 1137), (1, 66, 9, 2, 2032), (1, 77, 2, 0, 1174), (1, 81, 4, 0, 1057), (1, 88, 2, 4, 1192), (1, 92, 6, 0, 1159), (1, 97, 4, 3, 1069), (2, 10, 2, 0, 1171), (2, 19, 2, 1, 1176), (2, 26, 2, 2, 1182), (2, 33, 2, 3, 1188), (2, 37, 2, 4, 1191), (2, 40, 4, 0, 1054), (2, 44, 3, 0, 1089), (2, 45, 7, 0, 1127), (2, 46, 6, 0, 1158), (3, 9, 3, 1, 1094), (3, 15, 3, 2, 1098), (3, 18, 3, 3, 1102), (3, 21, 3, 4, 1105), (3, 24, 3, 0, 1088), (4, 9, 4, 1, 1059), (4, 15, 4, 2, 1063), (4, 18, 4, 3, 1067), (4, 21, 4, 0, 1053), (5, 9, 5, 0, 1205), (5, 18, 5, 2, 1208), (5, 22, 5, 1, 1207), (5, 35, 5, 5, 1213), (5, 38, 5, 6, 1214), (5, 41, 5, 3, 1210), (5, 44, 5, 4, 1211), (5, 53, 5, 8, 1216), (5, 60, 5, 7, 1215), (5, 67, 5, 9, 1217), (5, 100, 2, 3, 1189), (5, 109, 2, 4, 1193), (5, 115, 2, 0, 1175), (5, 119, 4, 0, 1058), (5, 131, 4, 1, 1062), (5, 135, 4, 2, 1066), (5, 149, 2, 1, 1181), (5, 153, 3, 0, 1093), (5, 156, 3, 1, 1097), (5, 157, 3, 2, 1101), (5, 161, 2, 2, 1187), (5, 165, 7, 0, 1130), (5, 169, 6, 0, 1161), (6, 9, 6, 1, 1162), (6, 15, 6, 2, 1163), (6, 18, 6, 0, 1157), (7, 9, 7, 1, 1131), (7, 15, 7, 2, 1135), (7, 18, 7, 3, 1139), (7, 21, 7, 0, 1125), (8, 9, 8, 1, 2111), (8, 15, 8, 2, 2113), (8, 18, 8, 3, 2115), (8, 21, 8, 0, 2109), (9, 12, 9, 0, 2026), (9, 18, 9, 1, 2029), (9, 24, 9, 2, 2031), (9, 27, 9, 3, 2034), (9, 30, 9, 4, 2036), (9, 33, 9, 5, 2038), (9, 36, 9, 6, 2039), (9, 41, 9, 7, 2040), (9, 46, 9, 8, 2041), (9, 50, 9, 9, 2042), (9, 53, 2, 2, 1183), (9, 63, 7, 0, 1126), (9, 69, 7, 1, 1132), (9, 72, 2, 1, 1177), (9, 76, 3, 0, 1090), (9, 79, 2, 0, 1172), (9, 83, 4, 0, 1055), (9, 97, 3, 4, 1106), (9, 118, 7, 2, 1136), (9, 124, 4, 1, 1060), (9, 127, 3, 1, 1095), (9, 128, 4, 2, 1064), (9, 131, 3, 2, 1099), (9, 139, 2, 3, 1190), (9, 143, 6, 0, 1160), (9, 152, 4, 3, 1070), (9, 158, 3, 3, 1104), (9, 164, 7, 3, 1141), (10, 9, 10, 0, 2016), (10, 15, 10, 1, 2017), (10, 18, 10, 2, 2018), (11, 10, 11, 0, 2130), (11, 19, 11, 1, 2131), (11, 26, 11, 2, 2132), (11, 33, 11, 3, 2133), (11, 40, 11, 4, 2134), (11, 47, 11, 5, 2135), (11, 54, 11, 6, 2136), (11, 58, 11, 7, 2137), (11, 61, 11, 8, 2138), (11, 64, 11, 9, 2139), (11, 68, 11, 10, 2140), (11, 71, 11, 11, 2141), (11, 74, 11, 12, 2142), (11, 78, 11, 14, 2144), (11, 82, 5, 1, 1206), (11, 100, 5, 4, 1212), (11, 101, 11, 15, 2145), (11, 104, 9, 0, 2028), (11, 108, 5, 2, 1209), (11, 111, 0, 0, 2087), (11, 114, 8, 0, 2110), (11, 115, 11, 13, 2143), (11, 126, 2, 0, 1173), (11, 132, 4, 0, 1056), (11, 135, 2, 1, 1180), (11, 138, 3, 0, 1092), (11, 139, 2, 2, 1186), (11, 142, 7, 0, 1129), (11, 147, 11, 16, 2146), (11, 150, 11, 17, 2147), (11, 162, 4, 1, 1061), (11, 165, 4, 2, 1065), (11, 168, 4, 3, 1068), (11, 180, 3, 1, 1096), (11, 181, 3, 2, 1100), (11, 182, 3, 3, 1103), (11, 185, 3, 4, 1107), (11, 188, 9, 1, 2030), (11, 200, 7, 1, 1134), (11, 203, 7, 2, 1138), (11, 206, 7, 3, 1140), (11, 215, 9, 2, 2033), (11, 219, 9, 3, 2035), (11, 298, 8, 1, 2112), (11, 301, 8, 2, 2114), (11, 302, 8, 3, 2116), (12, 9, 12, 3, 6139), (12, 13, 12, 4, 6140), (12, 16, 12, 5, 6141), (12, 20, 12, 6, 6142), (12, 23, 12, 7, 6143), (12, 26, 12, 8, 6144), (12, 29, 12, 9, 6145), (12, 32, 12, 10, 6146), (12, 35, 12, 13, 6149), (12, 38, 12, 14, 6150), (12, 41, 12, 33, 6169), (12, 44, 12, 34, 6170), (12, 47, 12, 35, 6171), (12, 50, 12, 36, 6172), (12, 53, 12, 37, 6173), (12, 56, 12, 38, 6174), (12, 59, 12, 39, 6175), (12, 62, 12, 40, 6176), (12, 66, 12, 41, 6177), (12, 69, 12, 42, 6178), (12, 72, 12, 44, 6180), (12, 75, 12, 45, 6181), (12, 78, 12, 47, 6183), (12, 81, 12, 48, 6184), (12, 84, 12, 49, 6185), (12, 87, 12, 50, 6186), (12, 90, 12, 51, 6187), (12, 93, 12, 52, 6188), (12, 96, 12, 53, 6189), (12, 99, 12, 54, 6190), (12, 102, 12, 55, 6191), (12, 105, 12, 57, 6193), (12, 108, 12, 62, 6198), (12, 111, 12, 63, 6199), (12, 114, 12, 64, 6200), (12, 117, 12, 0, 6136), (12, 120, 12, 11, 6147), (12, 127, 12, 15, 6151), (12, 130, 12, 16, 6152), (12, 137, 12, 18, 6154), (12, 140, 12, 22, 6158), (12, 144, 12, 20, 6156), (12, 147, 12, 21, 6157), (12, 150, 12, 17, 6153), (12, 160, 12, 19, 6155), (12, 173, 12, 12, 6148), (12, 190, 12, 28, 6164), (12, 193, 12, 31, 6167), (12, 209, 12, 29, 6165), (12, 212, 12, 30, 6166), (12, 215, 12, 32, 6168), (12, 243, 12, 23, 6159), (12, 250, 12, 24, 6160), (12, 253, 12, 25, 6161), (12, 265, 12, 26, 6162), (12, 272, 12, 27, 6163), (12, 285, 12, 1, 6137), (12, 288, 12, 2, 6138), (12, 295, 12, 43, 6179), (12, 298, 12, 56, 6192), (12, 301, 12, 59, 6195), (12, 309, 12, 46, 6182), (12, 439, 12, 58, 6194), (12, 449, 12, 60, 6196), (12, 452, 12, 61, 6197)]
def xT (ci k : Nat) : String × String × String × Bool := match vwCl[ci]? with | some q => q.2.1 k | none => ("", "", "", false)
def xFw (o i ci k : Nat) : Cond := .fieldLink (xOwn o) i (xT ci k).1 (xT ci k).2.1 (xT ci k).2.2.1
theorem xLKf_ok : (xLKf.all fun q => decide (xat q.2.2.2.2 = some (xFw q.1 q.2.1 q.2.2.1 q.2.2.2.1))) = true := by decide +kernel
def xLKm0 : List (Nat × Nat × Nat × Nat × Nat × Nat × Nat × Nat) := [(0, 28, 0, 2, 2217, 2219, 0, 1011), (0, 43, 0, 53, 3068, 2225, 2226, 1006), (0, 48, 0, 52, 3069, 3070, 3071, 1006), (0, 56, 0, 16, 3073, 3074, 3075, 1005), (0, 62, 0, 17, 3077, 3078, 3079, 1005), (1, 21, 1, 300, 5050, 2233, 0, 1023), (1, 45, 0, 71, 5110, 5111, 5112, 1008), (1, 69, 0, 8, 6020, 5047, 5048, 1010), (1, 73, 0, 92, 6021, 5179, 5180, 1008), (1, 84, 0, 11, 5055, 5057, 33, 1010), (1, 100, 0, 48, 5059, 3026, 3027, 1007), (2, 9, 4, 19, 1049, 1050, 0, 1004), (2, 18, 4, 14, 1084, 1085, 0, 1005), (2, 25, 4, 51, 1121, 1122, 0, 1006), (2, 32, 4, 46, 1153, 1154, 0, 1007), (5, 17, 4, 12, 1043, 1044, 0, 1003), (5, 26, 1, 289, 3218, 3219, 0, 1018), (5, 32, 1, 288, 3221, 3019, 0, 1018), (5, 47, 0, 13, 3222, 3223, 3224, 1003), (5, 50, 0, 25, 3226, 3228, 8, 1002), (5, 56, 0, 28, 3233, 3235, 9, 1002), (5, 63, 1, 26, 3230, 3231, 0, 1002), (5, 70, 0, 290, 4002, 4003, 4004, 1019), (5, 75, 0, 291, 4012, 4013, 4014, 1019), (5, 81, 0, 27, 3238, 4000, 10, 1002), (5, 85, 0, 29, 4050, 4052, 11, 1002), (5, 90, 0, 30, 4079, 4081, 17, 1002), (5, 95, 0, 31, 4088, 4090, 18, 1002), (5, 103, 0, 32, 4094, 4096, 19, 1002), (5, 111, 0, 24, 4054, 4056, 12, 1002), (5, 124, 0, 33, 4058, 4060, 13, 1002), (5, 128, 0, 35, 4062, 4064, 14, 1002), (5, 138, 0, 34, 4066, 4068, 15, 1002), (5, 142, 0, 20, 4070, 4071, 4072, 1004), (5, 146, 0, 36, 4074, 4076, 16, 1002), (5, 158, 0, 15, 4083, 4084, 4085, 1005), (5, 168, 0, 52, 4092, 3070, 3071, 1006), (5, 172, 0, 37, 4098, 4100, 20, 1002), (5, 176, 0, 38, 4102, 4104, 21, 1002), (5, 181, 0, 47, 4144, 4145, 4146, 1007), (5, 184, 0, 39, 4106, 4108, 22, 1002), (5, 191, 0, 40, 4111, 4113, 23, 1002), (5, 194, 0, 41, 4115, 4117, 24, 1002), (5, 197, 0, 42, 4119, 4121, 25, 1002), (5, 200, 0, 43, 4123, 4125, 26, 1002)]
def xLKm1 : List (Nat × Nat × Nat × Nat × Nat × Nat × Nat × Nat) := [(5, 203, 0, 44, 4127, 4129, 27, 1002), (5, 206, 0, 45, 4137, 4139, 28, 1002), (6, 22, 1, 49, 3029, 3030, 0, 1007), (6, 26, 1, 50, 3032, 3033, 0, 1007), (7, 31, 1, 288, 4186, 3019, 0, 1018), (9, 11, 4, 12, 2006, 1044, 0, 1003), (9, 45, 4, 94, 2012, 2013, 0, 1009), (9, 57, 1, 300, 2232, 2233, 0, 1023), (9, 86, 0, 66, 2235, 2237, 1, 1008), (9, 90, 0, 67, 2239, 3001, 2, 1008), (9, 93, 3, 153, 3003, 2203, 0, 1001), (9, 100, 0, 72, 3004, 3005, 3006, 1008), (9, 103, 0, 64, 3035, 3036, 3037, 1008), (9, 107, 0, 65, 3039, 3041, 5, 1008), (9, 111, 0, 98, 3055, 3056, 3057, 1009), (9, 115, 0, 95, 3043, 3044, 3045, 1009), (9, 121, 0, 68, 3047, 3049, 6, 1008), (9, 132, 0, 97, 3051, 3052, 3053, 1009), (9, 136, 3, 152, 3012, 3013, 0, 1001), (9, 148, 0, 48, 3025, 3026, 3027, 1007), (9, 155, 0, 69, 3008, 3010, 3, 1008), (9, 161, 0, 70, 3021, 3023, 4, 1008), (9, 167, 0, 71, 5129, 5111, 5112, 1008), (9, 171, 0, 77, 3093, 3094, 3095, 1008), (9, 175, 0, 79, 3089, 3090, 3091, 1008), (9, 178, 0, 75, 5125, 5126, 5127, 1008), (9, 182, 0, 88, 5134, 5136, 35, 1008), (9, 185, 0, 89, 5138, 5140, 36, 1008), (9, 188, 0, 92, 5178, 5179, 5180, 1008), (9, 191, 0, 96, 5182, 5183, 5184, 1009), (10, 22, 3, 153, 3059, 2203, 0, 1001), (11, 9, 4, 21, 1037, 1038, 0, 1002), (11, 18, 2, 62, 2001, 2002, 0, 1008), (11, 25, 4, 5, 2066, 2067, 0, 1010), (11, 32, 4, 0, 2082, 2083, 0, 1011), (11, 39, 4, 59, 2105, 2106, 0, 1012), (11, 46, 4, 51, 2127, 1122, 0, 1006), (11, 53, 4, 14, 2129, 1085, 0, 1005), (11, 85, 0, 22, 2190, 2191, 2192, 1002), (11, 96, 0, 23, 3214, 3215, 3216, 1002), (11, 119, 0, 63, 2228, 2229, 2230, 1008), (11, 122, 1, 147, 4159, 4160, 0, 1001), (11, 143, 0, 55, 4178, 4179, 4180, 1006), (11, 153, 0, 56, 4182, 4183, 4184, 1006), (11, 156, 0, 57, 4187, 4188, 4189, 1006)]
def xLKm2 : List (Nat × Nat × Nat × Nat × Nat × Nat × Nat × Nat) := [(11, 159, 0, 143, 4198, 4200, 29, 1001), (11, 171, 0, 58, 4203, 4204, 4205, 1006), (11, 174, 0, 76, 4207, 4208, 4209, 1008), (11, 177, 0, 144, 4218, 4220, 30, 1001), (11, 191, 0, 81, 4223, 4224, 4225, 1008), (11, 194, 0, 83, 3109, 3110, 3111, 1008), (11, 197, 0, 145, 4234, 4236, 31, 1001), (11, 209, 0, 74, 4239, 5000, 5001, 1008), (11, 212, 1, 146, 5010, 5011, 0, 1001), (11, 222, 0, 78, 5031, 5032, 5033, 1008), (11, 226, 1, 153, 2202, 2203, 0, 1001), (11, 230, 0, 157, 5042, 5044, 32, 1001), (11, 233, 1, 150, 5013, 5014, 0, 1001), (11, 237, 0, 52, 5067, 3070, 3071, 1006), (11, 241, 0, 1, 2213, 2214, 2215, 1011), (11, 245, 0, 53, 2224, 2225, 2226, 1006), (11, 248, 0, 16, 5075, 3074, 3075, 1005), (11, 251, 0, 17, 5083, 3078, 3079, 1005), (11, 254, 1, 151, 5084, 5085, 0, 1001), (11, 257, 0, 3, 3064, 3065, 3066, 1011), (11, 261, 0, 80, 3085, 3086, 3087, 1008), (11, 264, 1, 148, 5094, 5095, 0, 1001), (11, 267, 0, 158, 5098, 5100, 34, 1001), (11, 271, 0, 85, 5121, 5122, 5123, 1008), (11, 274, 0, 87, 5130, 5131, 5132, 1008), (11, 277, 1, 154, 5142, 5143, 0, 1001), (11, 280, 1, 149, 5165, 5166, 0, 1001), (11, 285, 0, 86, 5170, 5171, 5172, 1008), (11, 288, 1, 285, 5145, 5146, 0, 1026), (11, 293, 0, 91, 5174, 5175, 5176, 1008), (11, 297, 0, 60, 5193, 5194, 5195, 1012), (11, 305, 0, 159, 5204, 5206, 37, 1001), (11, 309, 0, 73, 5224, 5225, 5226, 1008), (11, 313, 0, 161, 5228, 5230, 39, 1001), (11, 316, 0, 160, 5209, 5211, 38, 1001), (11, 319, 0, 162, 6000, 6002, 40, 1001), (11, 324, 0, 163, 6012, 6014, 41, 1001), (11, 327, 0, 164, 6022, 6024, 42, 1001), (11, 332, 0, 6, 5102, 5103, 5104, 1010), (11, 335, 1, 155, 6038, 6039, 0, 1001), (11, 338, 1, 156, 6042, 6043, 0, 1001), (11, 341, 0, 7, 5106, 5107, 5108, 1010), (11, 345, 0, 10, 5051, 5052, 5053, 1010), (11, 352, 0, 64, 6066, 3036, 3037, 1008), (11, 356, 0, 72, 6074, 3005, 3006, 1008)]
def xLKm3 : List (Nat × Nat × Nat × Nat × Nat × Nat × Nat × Nat) := [(11, 359, 0, 90, 6082, 6083, 6084, 1008), (11, 362, 0, 8, 5046, 5047, 5048, 1010), (11, 365, 0, 84, 6107, 6108, 6109, 1008), (11, 368, 0, 79, 6111, 3090, 3091, 1008), (11, 371, 0, 82, 6126, 6127, 6128, 1008), (11, 374, 0, 54, 3117, 3118, 3119, 1006), (11, 378, 0, 18, 3122, 3123, 3124, 1005), (11, 381, 0, 4, 3127, 3128, 3129, 1011), (11, 384, 0, 61, 3131, 3132, 3133, 1012), (11, 401, 1, 286, 3015, 3016, 0, 1018), (11, 406, 1, 288, 3018, 3019, 0, 1018), (11, 409, 1, 287, 2205, 2206, 0, 1018), (11, 415, 0, 75, 5208, 5126, 5127, 1008), (11, 418, 0, 93, 5213, 5214, 5215, 1008), (11, 422, 1, 152, 5232, 3013, 0, 1001), (11, 425, 0, 9, 6016, 6017, 6018, 1010), (11, 429, 0, 165, 6026, 6028, 43, 1001), (12, 123, 0, 174, 7101, 7103, 44, 1013), (12, 133, 0, 175, 7117, 7119, 47, 1013), (12, 153, 1, 176, 7121, 7122, 0, 1013), (12, 157, 1, 177, 7124, 7125, 0, 1013), (12, 165, 1, 179, 7142, 7143, 0, 1013), (12, 169, 1, 180, 7139, 7140, 0, 1013), (12, 176, 0, 183, 7127, 7129, 48, 1013), (12, 180, 0, 178, 7113, 7115, 46, 1013), (12, 183, 0, 182, 7150, 7152, 52, 1013), (12, 186, 0, 186, 7158, 7160, 54, 1013), (12, 196, 1, 189, 7202, 7203, 0, 1013), (12, 199, 1, 190, 7205, 7206, 0, 1013), (12, 202, 0, 188, 7194, 7196, 63, 1013), (12, 205, 0, 181, 7135, 7137, 50, 1013), (12, 218, 0, 184, 7178, 7180, 59, 1013), (12, 221, 0, 192, 7186, 7188, 61, 1013), (12, 224, 0, 194, 7174, 7176, 58, 1013), (12, 227, 0, 193, 7190, 7192, 62, 1013), (12, 230, 0, 191, 7198, 7200, 64, 1013), (12, 233, 0, 195, 7182, 7184, 60, 1013), (12, 237, 0, 196, 7208, 7210, 65, 1013), (12, 240, 0, 197, 7212, 7214, 66, 1013), (12, 246, 0, 187, 7154, 7156, 53, 1013), (12, 256, 0, 199, 7146, 7148, 51, 1013), (12, 259, 0, 200, 7162, 7164, 55, 1013), (12, 262, 0, 201, 7166, 7168, 56, 1013), (12, 268, 0, 198, 7170, 7172, 57, 1013), (12, 275, 0, 185, 7216, 7218, 67, 1013)]
def xLKm4 : List (Nat × Nat × Nat × Nat × Nat × Nat × Nat × Nat) := [(12, 278, 0, 168, 7109, 7111, 45, 1013), (12, 282, 0, 202, 7131, 7133, 49, 1013), (12, 291, 0, 171, 7220, 7222, 68, 1013), (12, 305, 1, 208, 8054, 8055, 0, 1013), (12, 312, 0, 210, 8027, 8029, 75, 1013), (12, 316, 1, 170, 8035, 8036, 0, 1013), (12, 319, 0, 212, 8031, 8033, 76, 1013), (12, 322, 0, 209, 8050, 8052, 79, 1013), (12, 325, 0, 213, 8046, 8048, 78, 1013), (12, 330, 0, 214, 8065, 8067, 82, 1013), (12, 333, 1, 215, 8069, 8070, 0, 1013), (12, 337, 0, 217, 8081, 8083, 85, 1013), (12, 340, 0, 216, 8061, 8063, 81, 1013), (12, 343, 0, 218, 8077, 8079, 84, 1013), (12, 347, 0, 220, 8137, 8139, 93, 1013), (12, 350, 0, 221, 8133, 8135, 92, 1013), (12, 353, 0, 219, 8125, 8127, 90, 1013), (12, 356, 0, 222, 8129, 8131, 91, 1013), (12, 359, 1, 169, 7236, 7237, 0, 1013), (12, 362, 0, 224, 7239, 8001, 69, 1013), (12, 365, 0, 225, 8003, 8005, 70, 1013), (12, 368, 0, 226, 8007, 8009, 71, 1013), (12, 371, 0, 228, 8015, 8017, 72, 1013), (12, 374, 0, 231, 8019, 8021, 73, 1013), (12, 377, 0, 211, 8023, 8025, 74, 1013), (12, 380, 0, 229, 8042, 8044, 77, 1013), (12, 383, 0, 233, 8057, 8059, 80, 1013), (12, 386, 0, 234, 8073, 8075, 83, 1013), (12, 389, 0, 236, 8089, 8091, 86, 1013), (12, 392, 0, 237, 8093, 8095, 87, 1013), (12, 395, 0, 230, 8101, 8103, 88, 1013), (12, 398, 0, 223, 8121, 8123, 89, 1013), (12, 401, 0, 206, 8145, 8147, 94, 1013), (12, 404, 0, 205, 8149, 8151, 95, 1013), (12, 407, 0, 248, 8169, 8171, 96, 1013), (12, 410, 0, 250, 8177, 8179, 97, 1013), (12, 413, 0, 251, 8181, 8183, 98, 1013), (12, 416, 1, 172, 8189, 8190, 0, 1013), (12, 419, 0, 253, 8192, 8194, 99, 1013), (12, 422, 0, 256, 8204, 8206, 100, 1013), (12, 425, 0, 260, 8220, 8222, 101, 1013), (12, 428, 0, 264, 8236, 8238, 102, 1013), (12, 431, 0, 267, 9004, 9006, 103, 1013), (12, 435, 1, 266, 9008, 9009, 0, 1013), (12, 443, 0, 269, 9015, 9017, 104, 1013)]
def xLKm5 : List (Nat × Nat × Nat × Nat × Nat × Nat × Nat × Nat) := [(12, 446, 0, 275, 9040, 9042, 105, 1013), (13, 7, 0, 101, 3144, 3145, 3146, 1001), (13, 15, 0, 103, 4155, 4156, 4157, 1001), (13, 20, 0, 104, 4194, 4195, 4196, 1001), (13, 24, 0, 105, 4214, 4215, 4216, 1001), (13, 27, 0, 106, 4230, 4231, 4232, 1001), (13, 30, 0, 107, 5006, 5007, 5008, 1001), (13, 33, 0, 108, 5020, 5021, 5022, 1001), (13, 36, 0, 109, 5027, 5028, 5029, 1001), (13, 39, 0, 111, 5038, 5039, 5040, 1001), (13, 42, 0, 112, 5063, 5064, 5065, 1001), (13, 46, 0, 114, 5071, 5072, 5073, 1001), (13, 49, 0, 115, 5079, 5080, 5081, 1001), (13, 52, 0, 118, 5090, 5091, 5092, 1001), (13, 55, 0, 119, 5117, 5118, 5119, 1001), (13, 58, 0, 120, 5154, 5155, 5156, 1001), (13, 61, 0, 121, 5161, 5162, 5163, 1001), (13, 64, 0, 122, 5189, 5190, 5191, 1001), (13, 67, 0, 125, 5200, 5201, 5202, 1001), (13, 70, 0, 126, 5220, 5221, 5222, 1001), (13, 73, 0, 127, 5236, 5237, 5238, 1001), (13, 76, 0, 128, 6007, 6008, 6009, 1001), (13, 80, 0, 129, 6033, 6034, 6035, 1001), (13, 83, 0, 130, 6048, 6049, 6050, 1001), (13, 86, 0, 131, 6055, 6056, 6057, 1001), (13, 89, 0, 132, 6062, 6063, 6064, 1001), (13, 92, 0, 133, 6070, 6071, 6072, 1001), (13, 95, 0, 134, 6078, 6079, 6080, 1001), (13, 98, 0, 135, 6089, 6090, 6091, 1001), (13, 102, 0, 136, 6096, 6097, 6098, 1001), (13, 105, 0, 137, 6103, 6104, 6105, 1001), (13, 108, 0, 139, 6115, 6116, 6117, 1001), (13, 111, 0, 140, 6122, 6123, 6124, 1001), (13, 114, 2, 99, 1029, 1030, 0, 1001), (13, 117, 2, 166, 6132, 6133, 0, 1013), (13, 118, 0, 100, 2186, 2187, 2188, 1001), (13, 121, 0, 173, 7097, 7098, 7099, 1013), (13, 122, 1, 302, 3140, 3141, 0, 1000), (13, 127, 0, 203, 7105, 7106, 7107, 1013), (13, 128, 0, 167, 7093, 7094, 7095, 1013), (13, 132, 0, 102, 2194, 2195, 2196, 1001), (13, 135, 0, 204, 7224, 7225, 7226, 1013), (13, 136, 1, 303, 4151, 4152, 0, 1000), (13, 138, 0, 227, 7232, 7233, 7234, 1013), (13, 139, 1, 304, 4191, 4192, 0, 1000)]
def xLKm6 : List (Nat × Nat × Nat × Nat × Nat × Nat × Nat × Nat) := [(13, 142, 0, 232, 8011, 8012, 8013, 1013), (13, 143, 1, 305, 4211, 4212, 0, 1000), (13, 145, 0, 235, 8038, 8039, 8040, 1013), (13, 146, 1, 306, 4227, 4228, 0, 1000), (13, 148, 0, 238, 8085, 8086, 8087, 1013), (13, 149, 1, 307, 5003, 5004, 0, 1000), (13, 151, 0, 239, 8097, 8098, 8099, 1013), (13, 152, 1, 308, 5017, 5018, 0, 1000), (13, 154, 0, 240, 8105, 8106, 8107, 1013), (13, 155, 1, 309, 5024, 5025, 0, 1000), (13, 157, 0, 241, 8109, 8110, 8111, 1013), (13, 158, 0, 110, 2198, 2199, 2200, 1001), (13, 161, 0, 242, 8113, 8114, 8115, 1013), (13, 162, 1, 310, 5035, 5036, 0, 1000), (13, 164, 0, 243, 8117, 8118, 8119, 1013), (13, 165, 1, 311, 5060, 5061, 0, 1000), (13, 168, 0, 244, 8141, 8142, 8143, 1013), (13, 169, 0, 113, 2209, 2210, 2211, 1001), (13, 172, 0, 245, 8153, 8154, 8155, 1013), (13, 173, 1, 312, 5068, 5069, 0, 1000), (13, 175, 0, 246, 8157, 8158, 8159, 1013), (13, 176, 1, 313, 5076, 5077, 0, 1000), (13, 178, 0, 247, 8161, 8162, 8163, 1013), (13, 179, 0, 116, 3060, 3061, 3062, 1001), (13, 182, 0, 207, 7228, 7229, 7230, 1013), (13, 183, 0, 117, 3081, 3082, 3083, 1001), (13, 186, 0, 249, 8165, 8166, 8167, 1013), (13, 187, 1, 314, 5087, 5088, 0, 1000), (13, 189, 0, 252, 8173, 8174, 8175, 1013), (13, 190, 1, 315, 5114, 5115, 0, 1000), (13, 192, 0, 254, 8185, 8186, 8187, 1013), (13, 193, 1, 316, 5151, 5152, 0, 1000), (13, 195, 0, 255, 8196, 8197, 8198, 1013), (13, 196, 1, 317, 5158, 5159, 0, 1000), (13, 198, 0, 257, 8200, 8201, 8202, 1013), (13, 199, 1, 318, 5186, 5187, 0, 1000), (13, 201, 0, 258, 8208, 8209, 8210, 1013), (13, 202, 0, 123, 3097, 3098, 3099, 1001), (13, 205, 0, 259, 8212, 8213, 8214, 1013), (13, 206, 0, 124, 3101, 3102, 3103, 1001), (13, 209, 0, 261, 8216, 8217, 8218, 1013), (13, 210, 1, 319, 5197, 5198, 0, 1000), (13, 212, 0, 262, 8224, 8225, 8226, 1013), (13, 213, 1, 320, 5217, 5218, 0, 1000), (13, 215, 0, 263, 8228, 8229, 8230, 1013)]
def xLKm7 : List (Nat × Nat × Nat × Nat × Nat × Nat × Nat × Nat) := [(13, 216, 1, 321, 5233, 5234, 0, 1000), (13, 218, 0, 265, 8232, 8233, 8234, 1013), (13, 219, 1, 322, 6004, 6005, 0, 1000), (13, 222, 0, 268, 9000, 9001, 9002, 1013), (13, 223, 1, 323, 6030, 6031, 0, 1000), (13, 225, 0, 270, 9011, 9012, 9013, 1013), (13, 226, 1, 324, 6045, 6046, 0, 1000), (13, 228, 0, 271, 9020, 9021, 9022, 1013), (13, 229, 1, 325, 6052, 6053, 0, 1000), (13, 231, 0, 272, 9024, 9025, 9026, 1013), (13, 232, 1, 326, 6059, 6060, 0, 1000), (13, 234, 0, 273, 9028, 9029, 9030, 1013), (13, 235, 1, 327, 6067, 6068, 0, 1000), (13, 237, 0, 274, 9032, 9033, 9034, 1013), (13, 238, 1, 328, 6075, 6076, 0, 1000), (13, 240, 0, 280, 9056, 9057, 9058, 1013), (13, 241, 1, 329, 6086, 6087, 0, 1000), (13, 244, 0, 281, 9060, 9061, 9062, 1013), (13, 245, 1, 330, 6093, 6094, 0, 1000), (13, 247, 0, 282, 9064, 9065, 9066, 1013), (13, 248, 1, 331, 6100, 6101, 0, 1000), (13, 250, 0, 276, 9036, 9037, 9038, 1013), (13, 251, 0, 138, 3105, 3106, 3107, 1001), (13, 254, 0, 277, 9044, 9045, 9046, 1013), (13, 255, 1, 332, 6112, 6113, 0, 1000), (13, 257, 0, 278, 9048, 9049, 9050, 1013), (13, 258, 1, 333, 6119, 6120, 0, 1000), (13, 260, 0, 279, 9052, 9053, 9054, 1013), (13, 261, 0, 141, 3113, 3114, 3115, 1001), (13, 264, 0, 283, 9068, 9069, 9070, 1013), (13, 265, 0, 142, 3136, 3137, 3138, 1001), (13, 269, 0, 284, 9072, 9073, 9074, 1013), (16, 335, 0, 292, 4006, 4007, 4008, 1019), (16, 492, 0, 293, 4016, 4017, 4018, 1019), (16, 495, 1, 295, 4020, 4021, 0, 1020), (16, 498, 1, 298, 4031, 4032, 0, 1022), (16, 1059, 1, 301, 4028, 4029, 0, 1021), (17, 9, 1, 294, 4023, 4024, 0, 1019)]
def xLKm : List (Nat × Nat × Nat × Nat × Nat × Nat × Nat × Nat) := xLKm0 ++ (xLKm1 ++ (xLKm2 ++ (xLKm3 ++ (xLKm4 ++ (xLKm5 ++ (xLKm6 ++ (xLKm7)))))))
/-- the words of a link to a method: 0 a virtual call, 1 a static one, 2 a constructor, 3 and 4 the same between nest mates -/
def xMw1 (o i tag mid : Nat) : Cond := if tag = 3 ∨ tag = 4 then .methodLinkNest (xOwn o) i (xY mid) RX11 else .methodLink (xOwn o) i (xY mid)
def xMw2 (tag mid : Nat) : Cond := if tag = 1 ∨ tag = 3 then .static (xY mid) else .instanceMethod (xY mid)
def xMw3 (mid : Nat) : Cond := .selects (xY mid).cls (xY mid) (xY mid)
def xMw4 (mid : Nat) : Cond := .initialized (xY mid).cls
def xMok (q : Nat × Nat × Nat × Nat × Nat × Nat × Nat × Nat) : Bool := decide (xat q.2.2.2.2.1 = some (xMw1 q.1 q.2.1 q.2.2.1 q.2.2.2.1)) && decide (xat q.2.2.2.2.2.1 = some (xMw2 q.2.2.1 q.2.2.2.1)) && (if q.2.2.1 = 0 then decide (xat q.2.2.2.2.2.2.1 = some (xMw3 q.2.2.2.1)) else true) && decide (xat q.2.2.2.2.2.2.2 = some (xMw4 q.2.2.2.1))
theorem xLKm0_ok : (xLKm0.all xMok) = true := by decide +kernel
theorem xLKm1_ok : (xLKm1.all xMok) = true := by decide +kernel
theorem xLKm2_ok : (xLKm2.all xMok) = true := by decide +kernel
theorem xLKm3_ok : (xLKm3.all xMok) = true := by decide +kernel
theorem xLKm4_ok : (xLKm4.all xMok) = true := by decide +kernel
theorem xLKm5_ok : (xLKm5.all xMok) = true := by decide +kernel
theorem xLKm6_ok : (xLKm6.all xMok) = true := by decide +kernel
theorem xLKm7_ok : (xLKm7.all xMok) = true := by decide +kernel
theorem xLKm_ok : (xLKm.all xMok) = true := by
  simp only [xLKm, List.all_append, xLKm0_ok, xLKm1_ok, xLKm2_ok, xLKm3_ok, xLKm4_ok, xLKm5_ok, xLKm6_ok, xLKm7_ok, Bool.and_self]
def xLKc : List (Nat × Nat × Int32 × Nat) := [(14, 265, 1431655765, 5148), (14, 266, 858993459, 5149), (14, 267, 252645135, 5150), (11, 414, 1103515245, 6041), (12, 442, 1103515245, 9019)]
theorem xLKc_ok : (xLKc.all fun q => decide (xat q.2.2.2 = some (.constant (xOwn q.1) q.2.1 q.2.2.1))) = true := by decide +kernel
def xLKl : List (Nat × Nat × Int64 × Nat) := [(11, 412, 2, 2208), (12, 163, 96, 7145), (12, 328, 2, 8072)]
theorem xLKl_ok : (xLKl.all fun q => decide (xat q.2.2.2 = some (.constantLong (xOwn q.1) q.2.1 q.2.2.1))) = true := by decide +kernel
def xNn (t : Nat) : MethodName := if t = 10 then Lib.Math.max.name else if t = 11 then Lib.Math.min.name else if t = 12 then Lib.Math.abs.name else if t = 13 then Lib.MathLoose.abs_long.x else if t = 14 then arraycopyName else if t = 15 then Lib.objectInit else if t = 16 then yJ0_length_8abf5 else yJ0_charAt_5068e
def xLKn : List (Nat × Nat × Nat × Nat) := [(0, 3, 15, 2085), (0, 31, 14, 2221), (1, 3, 15, 2069), (2, 1, 15, 1046), (3, 3, 15, 1087), (3, 28, 14, 3126), (4, 3, 15, 1052), (5, 3, 15, 1040), (5, 26, 11, 3218), (5, 32, 10, 3221), (5, 70, 16, 4002), (5, 75, 17, 4012), (6, 3, 15, 1156), (7, 3, 15, 1124), (7, 25, 14, 3121), (7, 31, 10, 4186), (8, 3, 15, 2108), (8, 25, 14, 3135), (9, 3, 15, 2004), (10, 3, 15, 2015), (11, 1, 15, 1032), (11, 401, 12, 3015), (11, 406, 10, 3018), (11, 409, 13, 2205), (12, 1, 15, 6135)]
theorem xLKn_ok : (xLKn.all fun q => decide (xat q.2.2.2 = some (.methodLink (xOwn q.1) q.2.1 (xNn q.2.2.1)))) = true := by decide +kernel
def xLKk : List (Nat × Nat × Nat × Nat × Nat × Nat) := [(13, 8, 11, 1027, 1028, 1001), (11, 7, 5, 1035, 1036, 1002), (5, 15, 2, 1041, 1042, 1003), (2, 7, 4, 1047, 1048, 1004), (2, 16, 3, 1082, 1083, 1005), (2, 23, 7, 1119, 1120, 1006), (2, 30, 6, 1151, 1152, 1007), (11, 16, 9, 1239, 2000, 1008), (9, 9, 2, 2005, 1042, 1003), (9, 39, 10, 2009, 2011, 1009), (11, 23, 1, 2064, 2065, 1010), (11, 30, 0, 2080, 2081, 1011), (11, 37, 8, 2103, 2104, 1012), (11, 44, 7, 2126, 1120, 1006), (11, 51, 3, 2128, 1083, 1005), (13, 115, 12, 6130, 6131, 1013)]
def xNf (ci : Nat) : Nat := match vwCl[ci]? with | some q => q.2.2 | none => 0
theorem xLKk_ok : (xLKk.all fun q => decide (xat q.2.2.2.1 = some (.classLink (xOwn q.1) q.2.1 (xOwn q.2.2.1))) && decide (xat q.2.2.2.2.1 = some (.instantiable (xOwn q.2.2.1) (xNf q.2.2.1))) && decide (xat q.2.2.2.2.2 = some (.initialized (xOwn q.2.2.1)))) = true := by decide +kernel
def xLy : List (List Nat) := [[2092, 2094, 2096, 2098, 2100], [2073, 2075, 2077], [1194, 1196, 1198, 1200, 1202], [1108, 1110, 1112, 1114, 1116], [1071, 1073, 1075, 1077], [1218, 1220, 1222, 1224, 1226, 1228, 1230, 1232, 1234, 1236], [1164, 1166, 1168], [1142, 1144, 1146, 1148], [2117, 2119, 2121, 2123], [2043, 2045, 2047, 2049, 2051, 2053, 2055, 2057, 2059, 2061], [2019, 2021, 2023], [2148, 2150, 2152, 2154, 2156, 2158, 2160, 2162, 2164, 2166, 2168, 2170, 2172, 2174, 2176, 2178, 2180, 2182], [6201, 6203, 6205, 6207, 6209, 6211, 6213, 6215, 6217, 6219, 6221, 6223, 6225, 6227, 6229, 6231, 6233, 6235, 6237, 6239, 7001, 7003, 7005, 7007, 7009, 7011, 7013, 7015, 7017, 7019, 7021, 7023, 7025, 7027, 7029, 7031, 7033, 7035, 7037, 7039, 7041, 7043, 7045, 7047, 7049, 7051, 7053, 7055, 7057, 7059, 7061, 7063, 7065, 7067, 7069, 7071, 7073, 7075, 7077, 7079, 7081, 7083, 7085, 7087, 7089]]
def xLyok (ci : Nat) : Bool := match xLy[ci]? with | some ps => decide (ps.length = xNf ci) && ((List.range (xNf ci)).all fun k => decide (xat (ps.getD k 0) = some (u_lay (xOwn ci) (xT ci) k))) | none => false
theorem xLy0 : xLyok 0 = true := by decide +kernel
theorem xLy1 : xLyok 1 = true := by decide +kernel
theorem xLy2 : xLyok 2 = true := by decide +kernel
theorem xLy3 : xLyok 3 = true := by decide +kernel
theorem xLy4 : xLyok 4 = true := by decide +kernel
theorem xLy5 : xLyok 5 = true := by decide +kernel
theorem xLy6 : xLyok 6 = true := by decide +kernel
theorem xLy7 : xLyok 7 = true := by decide +kernel
theorem xLy8 : xLyok 8 = true := by decide +kernel
theorem xLy9 : xLyok 9 = true := by decide +kernel
theorem xLy10 : xLyok 10 = true := by decide +kernel
theorem xLy11 : xLyok 11 = true := by decide +kernel
theorem xLy12 : xLyok 12 = true := by decide +kernel
theorem xLy_in (ci : Nat) (h : ci < 13) : xLyok ci = true := by
  rcases (by omega : ci = 0 ∨ ci = 1 ∨ ci = 2 ∨ ci = 3 ∨ ci = 4 ∨ ci = 5 ∨ ci = 6 ∨ ci = 7 ∨ ci = 8 ∨ ci = 9 ∨ ci = 10 ∨ ci = 11 ∨ ci = 12) with rfl | rfl | rfl | rfl | rfl | rfl | rfl | rfl | rfl | rfl | rfl | rfl | rfl
  · exact xLy0
  · exact xLy1
  · exact xLy2
  · exact xLy3
  · exact xLy4
  · exact xLy5
  · exact xLy6
  · exact xLy7
  · exact xLy8
  · exact xLy9
  · exact xLy10
  · exact xLy11
  · exact xLy12
end
section
/-! THE ABSTRACT MACHINE. A world is: shapes (a number below 100: an object of that class in vwCl, with so many fields; 100 int[], 101 byte[], 102 boolean[], 103 long[], 104 int[][], 105 Way[], with their lengths), the whole numbers d c k (cell, field or place), the longs, the references (cells by number). 'al' says at which address a cell lies. -/
abbrev xHp : Type := List (Nat × Nat) × (Nat → Nat → Int32) × (Nat → Nat → Int64) × (Nat → Nat → Option Nat)
abbrev xRow : Type := Nat × Nat × Instr × List Nat × Int32 × Int64
/-- a method: its number, its class's number, code, locals, type, rows (pc, the next pc, instruction, resolved numbers, an int, a long) -/
abbrev xM : Type := Nat × Nat × ByteArray × Nat × Option FieldType × List xRow
def xcv (al : Nat → Nat) (v : Value) : Value := match v with
  | .ref i => .ref (al i)
  | w => w
theorem xcv_cat (al : Nat → Nat) (v : Value) : (xcv al v).category = v.category := by cases v <;> rfl
def xtyF : List (Nat → FieldType) := [tyX0, tyX1, tyX2, tyX3, tyX4, tyX5, tyX6, tyX7, tyX8, tyX9, tyX10, tyX11, tyX12]
def xty (ci k : Nat) : FieldType := match xtyF[ci]? with
  | some f => f k
  | none => .int
def xkd (ty : FieldType) : Nat := match ty with
  | .int => 0
  | .boolean => 3
  | .long => 2
  | _ => 1
def xfv (al : Nat → Nat) (h : xHp) (c ci k : Nat) : Value := match xkd (xty ci k) with
  | 1 => va_rf ((h.2.2.2 c k).map al)
  | 2 => .long (h.2.2.1 c k)
  | _ => .int (h.2.1 c k)
def xcell (ka : Nat → ClassId) (al : Nat → Nat) (h : xHp) (c t n : Nat) : va_E :=
  if t < 100 then .inr (t, (List.range n).map (xfv al h c t))
  else if t < 103 then .inl (ka t, n, .inl (h.2.1 c))
  else if t = 103 then .inl (ka t, n, .inr (.inl (h.2.2.1 c)))
  else .inl (ka t, n, .inr (.inr (.inr (.inr (fun j => (h.2.2.2 c j).map al)))))
def xws (ka : Nat → ClassId) (al : Nat → Nat) (h : xHp) : va_W := h.1.mapIdx fun c tn => (al c, xcell ka al h c tn.1 tn.2)
def xtys (ka : Nat → ClassId) : List (ClassId × FieldType) := [(ka 100, .int), (ka 101, .byte), (ka 102, .boolean), (ka 103, .long), (ka 104, .array .int), (ka 105, .object RX10)]
theorem xws_get {ka : Nat → ClassId} {al : Nat → Nat} {h : xHp} {c t n : Nat} (hc : h.1[c]? = some (t, n)) : (xws ka al h)[c]? = some (al c, xcell ka al h c t n) := by
  unfold xws
  rw [List.getElem?_mapIdx, hc]
  rfl
theorem xws_get' {ka : Nat → ClassId} {al : Nat → Nat} {h : xHp} {c : Nat} {q : Nat × va_E} (hq : (xws ka al h)[c]? = some q) : ∃ t n, h.1[c]? = some (t, n) ∧ q = (al c, xcell ka al h c t n) := by
  unfold xws at hq
  rw [List.getElem?_mapIdx] at hq
  cases hc : h.1[c]? with
  | none => rw [hc] at hq; cases hq
  | some tn => rw [hc] at hq; exact ⟨tn.1, tn.2, rfl, (Option.some.inj hq).symm⟩
/-- two worlds that differ in one cell -/
theorem xws_set {ka : Nat → ClassId} {al : Nat → Nat} {h h' : xHp} {c t n : Nat} (hs : h'.1 = h.1) (hc : h.1[c]? = some (t, n)) (he : ∀ c', c' ≠ c → ∀ t n, xcell ka al h' c' t n = xcell ka al h c' t n) : xws ka al h' = (xws ka al h).set c (al c, xcell ka al h' c t n) := by
  apply List.ext_getElem?
  intro i
  by_cases hi : i = c
  · subst hi
    rw [List.getElem?_set_self (by unfold xws; rw [List.length_mapIdx]; exact (List.getElem?_eq_some_iff.mp hc).1), xws_get (by rw [hs]; exact hc)]
  · rw [List.getElem?_set_ne (Ne.symm hi)]
    unfold xws
    rw [List.getElem?_mapIdx, List.getElem?_mapIdx, hs]
    cases h.1[i]? with
    | none => rfl
    | some tn => simp only [Option.map_some, he i hi]
def up2 {α : Type} (d : Nat → Nat → α) (c k : Nat) (v : α) : Nat → Nat → α := fun c' k' => if c' = c then (if k' = k then v else d c' k') else d c' k'
def xpI (h : xHp) (c k : Nat) (v : Int32) : xHp := (h.1, up2 h.2.1 c k v, h.2.2.1, h.2.2.2)
def xpL (h : xHp) (c k : Nat) (v : Int64) : xHp := (h.1, h.2.1, up2 h.2.2.1 c k v, h.2.2.2)
def xpR (h : xHp) (c k : Nat) (v : Option Nat) : xHp := (h.1, h.2.1, h.2.2.1, up2 h.2.2.2 c k v)
theorem up2_ne {α : Type} {d : Nat → Nat → α} {c k c' : Nat} {v : α} (h : c' ≠ c) : up2 d c k v c' = d c' := by
  funext j
  simp [up2, h]
theorem up2_k {α : Type} {d : Nat → Nat → α} {c k k' : Nat} {v : α} (h : k' ≠ k) : up2 d c k v c k' = d c k' := by simp [up2, h]
theorem up2_eq {α : Type} {d : Nat → Nat → α} {c k : Nat} {v : α} : up2 d c k v c k = v := by simp [up2]
theorem xcell_cong {ka : Nat → ClassId} {al : Nat → Nat} {h h' : xHp} {c' t n : Nat} (h1 : h'.2.1 c' = h.2.1 c') (h2 : h'.2.2.1 c' = h.2.2.1 c') (h3 : h'.2.2.2 c' = h.2.2.2 c') : xcell ka al h' c' t n = xcell ka al h c' t n := by
  have e : xfv al h' c' t = xfv al h c' t := by
    funext k
    unfold xfv
    rw [h1, h2, h3]
  unfold xcell
  rw [e, h1, h2, h3]
theorem xcell_I {ka : Nat → ClassId} {al : Nat → Nat} {h : xHp} {c k : Nat} {v : Int32} {c' t n : Nat} (hc : c' ≠ c) : xcell ka al (xpI h c k v) c' t n = xcell ka al h c' t n := xcell_cong (up2_ne hc) rfl rfl
theorem xcell_L {ka : Nat → ClassId} {al : Nat → Nat} {h : xHp} {c k : Nat} {v : Int64} {c' t n : Nat} (hc : c' ≠ c) : xcell ka al (xpL h c k v) c' t n = xcell ka al h c' t n := xcell_cong rfl (up2_ne hc) rfl
theorem xcell_R {ka : Nat → ClassId} {al : Nat → Nat} {h : xHp} {c k : Nat} {v : Option Nat} {c' t n : Nat} (hc : c' ≠ c) : xcell ka al (xpR h c k v) c' t n = xcell ka al h c' t n := xcell_cong rfl rfl (up2_ne hc)
/-- the locals: what is known of them -/
def xl (al : Nat → Nat) (ls : List (Option Value)) : List (Nat × Value) := ls.zipIdx.filterMap fun q => q.1.map fun v => (q.2, xcv al v)
theorem xl_mem {al : Nat → Nat} {ls : List (Option Value)} {i : Nat} {w : Value} : (i, w) ∈ xl al ls ↔ ∃ v, ls[i]? = some (some v) ∧ w = xcv al v := by
  unfold xl
  rw [List.mem_filterMap]
  constructor
  · rintro ⟨⟨o, j⟩, h1, h2⟩
    have h3 := List.mem_zipIdx_iff_getElem?.mp h1
    cases o with
    | none => cases h2
    | some v =>
      simp only [Option.map_some, Option.some.injEq, Prod.mk.injEq] at h2
      obtain ⟨rfl, rfl⟩ := h2
      exact ⟨v, h3, rfl⟩
  · rintro ⟨v, h1, rfl⟩
    exact ⟨(some v, i), List.mem_zipIdx_iff_getElem?.mpr h1, rfl⟩
theorem xl_at {al : Nat → Nat} {ls : List (Option Value)} {lsA : Array Slot} {nL i : Nat} {v : Value} (h : lv_has lsA nL (xl al ls)) (hi : ls[i]? = some (some v)) : lsA[i]? = some (.val (xcv al v)) := h.2.2 (i, xcv al v) (xl_mem.mpr ⟨v, hi, rfl⟩)
theorem xl_sub {lsA : Array Slot} {nL : Nat} {l l' : List (Nat × Value)} (h : lv_has lsA nL l) (hs : ∀ q ∈ l', q ∈ l) : lv_has lsA nL l' := ⟨h.1, h.2.1, fun q hq => h.2.2 q (hs q hq)⟩
def xcat2 (o : Option Value) : Bool := match o with
  | some (.long _) => true
  | some (.double _) => true
  | _ => false
def xdrop (o : Option Value) : Option Value := match o with
  | some (.long _) => none
  | some (.double _) => none
  | w => w
/-- a value of one slot is stored -/
def xst1 : List (Option Value) → Nat → Value → List (Option Value)
  | [], _, _ => []
  | _ :: r, 0, v => some v :: r
  | a :: r, 1, v => xdrop a :: xst1 r 0 v
  | a :: r, i + 2, v => a :: xst1 r (i + 1) v
/-- a value of two slots is stored -/
def xst2 : List (Option Value) → Nat → Value → List (Option Value)
  | [], _, _ => []
  | _ :: r, 0, v => some v :: (match r with
    | [] => []
    | _ :: r' => none :: r')
  | a :: r, 1, v => xdrop a :: xst2 r 0 v
  | a :: r, i + 2, v => a :: xst2 r (i + 1) v
theorem xst1_get : ∀ (ls : List (Option Value)) (i : Nat) (v w : Value) (j : Nat), (xst1 ls i v)[j]? = some (some w) → (j = i ∧ w = v) ∨ (j ≠ i ∧ ¬ (j + 1 = i ∧ w.category = 2) ∧ ls[j]? = some (some w))
  | [], i, v, w, j, h => by simp [xst1] at h
  | a :: r, 0, v, w, j, h => by
    cases j with
    | zero => simp [xst1] at h; exact Or.inl ⟨rfl, h.symm⟩
    | succ j => simp [xst1] at h; exact Or.inr ⟨by omega, by omega, by simpa using h⟩
  | a :: r, 1, v, w, j, h => by
    cases j with
    | zero =>
      simp only [xst1, List.getElem?_cons_zero, Option.some.injEq] at h
      refine Or.inr ⟨by omega, ?_, ?_⟩
      · rintro ⟨-, hc⟩
        cases a with
        | none => simp [xdrop] at h
        | some a => cases a <;> simp [xdrop] at h <;> subst h <;> simp [Value.category] at hc
      · cases a with
        | none => simp [xdrop] at h
        | some a => cases a <;> simp [xdrop] at h <;> subst h <;> rfl
    | succ j =>
      simp only [xst1, List.getElem?_cons_succ] at h
      rcases xst1_get r 0 v w j h with ⟨h1, h2⟩ | ⟨h1, h2, h3⟩
      · exact Or.inl ⟨by omega, h2⟩
      · exact Or.inr ⟨by omega, by omega, by simpa using h3⟩
  | a :: r, i + 2, v, w, j, h => by
    cases j with
    | zero => simp [xst1] at h; exact Or.inr ⟨by omega, by omega, by simp [h]⟩
    | succ j =>
      simp only [xst1, List.getElem?_cons_succ] at h
      rcases xst1_get r (i + 1) v w j h with ⟨h1, h2⟩ | ⟨h1, h2, h3⟩
      · exact Or.inl ⟨by omega, h2⟩
      · exact Or.inr ⟨by omega, fun q => h2 ⟨by omega, q.2⟩, by simpa using h3⟩
theorem xst2_get : ∀ (ls : List (Option Value)) (i : Nat) (v w : Value) (j : Nat), (xst2 ls i v)[j]? = some (some w) → (j = i ∧ w = v) ∨ (j ≠ i ∧ j ≠ i + 1 ∧ ¬ (j + 1 = i ∧ w.category = 2) ∧ ls[j]? = some (some w))
  | [], i, v, w, j, h => by simp [xst2] at h
  | a :: r, 0, v, w, j, h => by
    match j, r, h with
    | 0, r, h => simp [xst2] at h; exact Or.inl ⟨rfl, h.symm⟩
    | 1, [], h => simp [xst2] at h
    | 1, b :: r, h => simp [xst2] at h
    | j + 2, [], h => simp [xst2] at h
    | j + 2, b :: r, h => simp [xst2] at h; exact Or.inr ⟨by omega, by omega, by omega, by simpa using h⟩
  | a :: r, 1, v, w, j, h => by
    cases j with
    | zero =>
      simp only [xst2, List.getElem?_cons_zero, Option.some.injEq] at h
      refine Or.inr ⟨by omega, by omega, ?_, ?_⟩
      · rintro ⟨-, hc⟩
        cases a with
        | none => simp [xdrop] at h
        | some a => cases a <;> simp [xdrop] at h <;> subst h <;> simp [Value.category] at hc
      · cases a with
        | none => simp [xdrop] at h
        | some a => cases a <;> simp [xdrop] at h <;> subst h <;> rfl
    | succ j =>
      simp only [xst2, List.getElem?_cons_succ] at h
      rcases xst2_get r 0 v w j h with ⟨h1, h2⟩ | ⟨h1, h2, h3, h4⟩
      · exact Or.inl ⟨by omega, h2⟩
      · exact Or.inr ⟨by omega, by omega, by omega, by simpa using h4⟩
  | a :: r, i + 2, v, w, j, h => by
    cases j with
    | zero => simp [xst2] at h; exact Or.inr ⟨by omega, by omega, by omega, by simp [h]⟩
    | succ j =>
      simp only [xst2, List.getElem?_cons_succ] at h
      rcases xst2_get r (i + 1) v w j h with ⟨h1, h2⟩ | ⟨h1, h2, h3, h4⟩
      · exact Or.inl ⟨by omega, h2⟩
      · exact Or.inr ⟨by omega, by omega, fun q => h3 ⟨by omega, q.2⟩, by simpa using h4⟩
theorem xl_st1 {al : Nat → Nat} {ls : List (Option Value)} {i : Nat} {v : Value} : ∀ q ∈ xl al (xst1 ls i v), q ∈ (i, xcv al v) :: (xl al ls).filter (fun q => !(q.1 == i) && !(q.1 + 1 == i && q.2.category == 2)) := by
  rintro ⟨j, w⟩ hq
  obtain ⟨w0, h1, rfl⟩ := xl_mem.mp hq
  rcases xst1_get ls i v w0 j h1 with ⟨rfl, rfl⟩ | ⟨h2, h3, h4⟩
  · exact List.mem_cons_self
  · refine List.mem_cons_of_mem _ (List.mem_filter.mpr ⟨xl_mem.mpr ⟨w0, h4, rfl⟩, ?_⟩)
    simp only [Bool.and_eq_true, Bool.not_eq_true', beq_eq_false_iff_ne, ne_eq, xcv_cat]
    refine ⟨h2, ?_⟩
    by_cases h5 : j + 1 = i
    · have h6 : ¬ w0.category = 2 := fun z => h3 ⟨h5, z⟩
      simp [h6]
    · simp [h5]
theorem xl_st2 {al : Nat → Nat} {ls : List (Option Value)} {i : Nat} {v : Value} : ∀ q ∈ xl al (xst2 ls i v), q ∈ (i, xcv al v) :: (xl al ls).filter (fun q => !(q.1 == i) && (!(q.1 == i + 1) && !(q.1 + 1 == i && q.2.category == 2))) := by
  rintro ⟨j, w⟩ hq
  obtain ⟨w0, h1, rfl⟩ := xl_mem.mp hq
  rcases xst2_get ls i v w0 j h1 with ⟨rfl, rfl⟩ | ⟨h2, h2', h3, h4⟩
  · exact List.mem_cons_self
  · refine List.mem_cons_of_mem _ (List.mem_filter.mpr ⟨xl_mem.mpr ⟨w0, h4, rfl⟩, ?_⟩)
    simp only [Bool.and_eq_true, Bool.not_eq_true', beq_eq_false_iff_ne, ne_eq, xcv_cat]
    refine ⟨h2, h2', ?_⟩
    by_cases h5 : j + 1 = i
    · have h6 : ¬ w0.category = 2 := fun z => h3 ⟨h5, z⟩
      simp [h6]
    · simp [h5]
end
section
/-! the String constants of the classes: class, entry, text, bytes -/
def xSL : List (String × Nat × String × List Int32) := [("SaucerFair", 91, "the tape has not so many bytes", [116, 104, 101, 32, 116, 97, 112, 101, 32, 104, 97, 115, 32, 110, 111, 116, 32, 115, 111, 32, 109, 97, 110, 121, 32, 98, 121, 116, 101, 115]), ("SaucerFair$Reader", 79, "one", [111, 110, 101]), ("SaucerFair$Reader", 88, "needle", [110, 101, 101, 100, 108, 101]), ("SaucerFair$Reader", 93, "says", [115, 97, 121, 115]), ("SaucerFair$Reader", 98, "turns", [116, 117, 114, 110, 115]), ("SaucerFair$Reader", 189, "not", [110, 111, 116]), ("SaucerFair$Reader", 209, "degree", [100, 101, 103, 114, 101, 101]), ("SaucerFair$Reader", 213, "skill", [115, 107, 105, 108, 108]), ("SaucerFair$Reader", 215, "far", [102, 97, 114]), ("SaucerFair$Reader", 217, "reach", [114, 101, 97, 99, 104]), ("SaucerFair$Reader", 219, "rust", [114, 117, 115, 116]), ("SaucerFair$Reader", 221, "hour", [104, 111, 117, 114]), ("SaucerFair$Reader", 223, "points", [112, 111, 105, 110, 116, 115]), ("SaucerFair$Reader", 227, "flat", [102, 108, 97, 116]), ("SaucerFair$Reader", 229, "said", [115, 97, 105, 100]), ("SaucerFair$Reader", 187, "and", [97, 110, 100]), ("SaucerFair$Reader", 179, "or", [111, 114]), ("SaucerFair$Reader", 107, "court", [99, 111, 117, 114, 116]), ("SaucerFair", 395, "no such what", [110, 111, 32, 115, 117, 99, 104, 32, 119, 104, 97, 116]), ("SaucerFair", 387, "no such person", [110, 111, 32, 115, 117, 99, 104, 32, 112, 101, 114, 115, 111, 110]), ("SaucerFair", 389, "no such needle", [110, 111, 32, 115, 117, 99, 104, 32, 110, 101, 101, 100, 108, 101]), ("SaucerFair", 391, "no such saying", [110, 111, 32, 115, 117, 99, 104, 32, 115, 97, 121, 105, 110, 103]), ("SaucerFair", 393, "no such hour", [110, 111, 32, 115, 117, 99, 104, 32, 104, 111, 117, 114]), ("SaucerFair", 397, "a lie of degree 1 to 9 in an hour 0 to 99", [97, 32, 108, 105, 101, 32, 111, 102, 32, 100, 101, 103, 114, 101, 101, 32, 49, 32, 116, 111, 32, 57, 32, 105, 110, 32, 97, 110, 32, 104, 111, 117, 114, 32, 48, 32, 116, 111, 32, 57, 57]), ("SaucerFair", 399, "bits of what is not there", [98, 105, 116, 115, 32, 111, 102, 32, 119, 104, 97, 116, 32, 105, 115, 32, 110, 111, 116, 32, 116, 104, 101, 114, 101]), ("SaucerFair", 283, "no such side", [110, 111, 32, 115, 117, 99, 104, 32, 115, 105, 100, 101]), ("SaucerFair", 322, "two of the people, and a loss of 0 to 99", [116, 119, 111, 32, 111, 102, 32, 116, 104, 101, 32, 112, 101, 111, 112, 108, 101, 44, 32, 97, 110, 100, 32, 97, 32, 108, 111, 115, 115, 32, 111, 102, 32, 48, 32, 116, 111, 32, 57, 57]), ("SaucerFair", 330, "0 to 99 hours", [48, 32, 116, 111, 32, 57, 57, 32, 104, 111, 117, 114, 115])]
/-- the exception tables, by method -/
def xHHL : List (Nat × List (Nat × Nat × Nat × Nat)) := [(302, [(0, 9, 12, 13)]), (303, [(0, 9, 12, 18)]), (304, [(0, 10, 13, 18)]), (305, [(0, 10, 13, 18)]), (306, [(0, 10, 13, 18)]), (307, [(0, 10, 13, 18)]), (308, [(0, 10, 13, 18)]), (309, [(0, 10, 13, 18)]), (310, [(0, 9, 12, 18)]), (311, [(0, 12, 15, 18)]), (312, [(0, 10, 13, 18)]), (313, [(0, 12, 15, 18)]), (314, [(0, 12, 15, 18), (0, 12, 19, 13)]), (315, [(0, 10, 13, 13)]), (316, [(0, 12, 15, 18), (0, 12, 19, 13)]), (317, [(0, 12, 15, 18), (0, 12, 19, 13)]), (318, [(0, 12, 15, 18)]), (319, [(0, 9, 12, 18)]), (320, [(0, 10, 13, 18)]), (321, [(0, 12, 15, 18), (0, 12, 19, 13)]), (322, [(0, 16, 19, 18), (0, 16, 23, 13)]), (323, [(0, 12, 15, 18), (0, 12, 19, 13)]), (324, [(0, 10, 13, 18)]), (325, [(0, 10, 13, 18)]), (326, [(0, 9, 12, 18)]), (327, [(0, 9, 12, 18)]), (328, [(0, 10, 13, 13)]), (329, [(0, 14, 17, 18), (0, 14, 21, 13)]), (330, [(0, 10, 13, 18)]), (331, [(0, 9, 12, 18)]), (332, [(0, 9, 12, 18)]), (333, [(0, 9, 12, 18)])]
def xS1 (al : Nat → Nat) (A : Nat → Prop) (U : State) (H : Heap) (i : Nat) (q : String × Nat × String × List Int32) : Prop :=
  vk_R q.1 q.2.1 q.2.2.1 (al (5000 + i)) U ∧ va_O "java/lang/String" (al (5000 + i)) A U H ∧ va_OF "java/lang/String" "coder" "B" (.int 0) (al (5000 + i)) A U H ∧ va_OF "java/lang/String" "value" "[B" (.ref (al (6000 + i))) (al (5000 + i)) A U H ∧ va_T .byte (al (6000 + i)) q.2.2.2.length (fun j => .int (q.2.2.2.getD j 0)) A U H
def xIS (X : String) : MethodName := ⟨X, "<init>", "(Ljava/lang/String;)V"⟩
/-- words on the exceptions that the tables decide but that aren't good ones -/
def xBad : List Cond := [.castable "java/lang/IllegalArgumentException" "java/lang/IllegalArgumentException", .castable "java/util/NoSuchElementException" "java/util/NoSuchElementException", .declares (xIS "java/lang/RuntimeException"), .declares (xIS "java/lang/Exception"), .declares (xIS "java/lang/Throwable")]
theorem xBad_warm {s U : State} {w : Cond} (hw : w ∈ xBad) (hW : s.WarmedH U.vm) (h : va_Nw w s) : va_Nw w U := by
  simp only [xBad, List.mem_cons, List.not_mem_nil, or_false] at hw
  rcases hw with rfl | rfl | rfl | rfl | rfl
  · exact va_tabs rfl (rfl : (s.setVm U.vm).vm = U.vm) (by rw [Cond.castable_setVm hW.alike]; exact h)
  · exact va_tabs rfl (rfl : (s.setVm U.vm).vm = U.vm) (by rw [Cond.castable_setVm hW.alike]; exact h)
  · exact va_Nw.warmD hW h
  · exact va_Nw.warmD hW h
  · exact va_Nw.warmD hW h
/-- what never changes: the nest mates' links, the String constants, three statics of the JDK's -/
def xFx (al : Nat → Nat) (A : Nat → Prop) (U : State) (H : Heap) : Prop :=
  (∀ q ∈ xLKm, (q.2.2.1 = 3 ∨ q.2.2.1 = 4) → va_Nw (xMw1 q.1 q.2.1 q.2.2.1 q.2.2.2.1) U) ∧ (∀ (i : Nat) (q : String × Nat × String × List Int32), xSL[i]? = some q → xS1 al A U H i q) ∧
  vx_Zq Bundle.tN "UNASSIGNED_STACK" Bundle.steD A U H ∧ vx_Zq Bundle.tN "SUPPRESSED_SENTINEL" Bundle.listD A U H ∧ (va_Z "java/lang/String" "COMPACT_STRINGS" "Z" (.int 1) A U H ∧ va_Z "jdk/internal/util/Preconditions" "SIOOBE_FORMATTER" "Ljava/util/function/BiFunction;" (.ref (al 4998)) A U H) ∧
  va_Nc "java/lang/IllegalArgumentException" "java/util/NoSuchElementException" U ∧ ∀ w ∈ xBad, va_Nw w U
theorem xFx.go {al : Nat → Nat} {A B : Nat → Prop} {s U : State} {H0 H : Heap} (h : xFx al A s H0) (hW : s.WarmedH U.vm) (hk : ∀ a : Nat, a < H0.size → ¬ A a → H[a]? = H0[a]?) (hAB : ∀ q, B q → A q) : xFx al B U H := by
  obtain ⟨h1, h2, h3, h4, h5, h6, h7⟩ := h
  refine ⟨fun q hq ht => ?_, fun i q hi => ?_, ?_, ?_, ?_, va_Nc.moved hW.alike h6, fun w hw => xBad_warm hw hW (h7 w hw)⟩
  · have h9 := h1 q hq ht
    unfold xMw1 at h9 ⊢
    rw [if_pos ht] at h9 ⊢
    exact va_Nw.warmM hW h9
  · obtain ⟨a1, a2, a3, a4, a5⟩ := h2 i q hi
    exact ⟨vk_R.warm hW a1, (va_O.moved hW.alike (a2.kept hk)).narrow hAB, (va_OF.moved hW.alike (a3.kept hk)).narrow hAB, (va_OF.moved hW.alike (a4.kept hk)).narrow hAB, (va_T.moved hW.alike (a5.kept hk)).narrow hAB⟩
  · exact (vx_Zq.moved hW.alike (h3.kept hk)).narrow hAB
  · exact (vx_Zq.moved hW.alike (h4.kept hk)).narrow hAB
  · exact ⟨(va_Z.moved hW.alike (h5.1.kept hk)).narrow hAB, (va_Z.moved hW.alike (h5.2.kept hk)).narrow hAB⟩
def xTG : List Cond := lw_tbl.filter goodWord
def xHh (mid : Nat) : List (Nat × Nat × Nat × Nat) := match xHHL.lookup mid with
  | some x => x
  | none => []
def xcw (M : xM) : Cond := match xHh M.1 with
  | [] => .code (xY M.1) M.2.2.1 M.2.2.2.1 M.2.2.2.2.1
  | x => .codeWith (xY M.1) M.2.2.1 M.2.2.2.1 M.2.2.2.2.1 x
def xwM (M : xM) : List Cond := xcw M :: xTG
/-- the rows of a method -/
def xft : List xRow → Nat → Option (Nat × Instr × List Nat × Int32 × Int64)
  | [], _ => none
  | r :: t, pc => match Nat.beq r.1 pc with
    | true => some r.2
    | false => xft t pc
def xlen (i : Instr) : Nat := match i with
  | .iload _ | .lload _ | .aload _ | .istore _ | .lstore _ | .astore _ | .bipush _ | .ldc _ | .newarray _ => 2
  | .sipush _ | .ldc_w _ | .ldc2_w _ | .iinc _ _ | .getfield _ | .putfield _ | .getstatic _ | .goto _ | .ifCond _ _ | .if_icmp _ _ | .if_acmp _ _ | .ifnull _ | .ifnonnull _ | .invokevirtual _ | .invokestatic _ | .invokespecial _ | .new _ | .anewarray _ => 3
  | .multianewarray _ _ => 4
  | _ => 1
def xtg (pc : Nat) (off : Int) (rs : List Nat) : Bool := match rs with
  | [t] => decide ((pc : Int) + off = (t : Int))
  | _ => false
/-- what a row must say beside its instruction -/
def xres (o : Nat) (r : xRow) : Bool := match r.2.2.1 with
  | .iconst n => decide (Int32.ofInt n = r.2.2.2.2.1)
  | .bipush n => decide ((Int8.ofInt n).toInt32 = r.2.2.2.2.1)
  | .sipush n => decide ((Int16.ofInt n).toInt32 = r.2.2.2.2.1)
  | .iinc _ n => decide (Int32.ofInt n = r.2.2.2.2.1)
  | .lconst n => decide (Int64.ofNat (n : Nat) = r.2.2.2.2.2)
  | .ldc i => (match r.2.2.2.1 with
    | [] => xLKc.any fun q => q.1 == o && q.2.1 == i && decide (q.2.2.1 = r.2.2.2.2.1)
    | [k] => (match xSL[k]? with
      | some q => decide (q.1 = xOwn o) && q.2.1 == i
      | none => false)
    | _ => false)
  | .ldc_w i => (match r.2.2.2.1 with
    | [] => xLKc.any fun q => q.1 == o && q.2.1 == i && decide (q.2.2.1 = r.2.2.2.2.1)
    | [k] => (match xSL[k]? with
      | some q => decide (q.1 = xOwn o) && q.2.1 == i
      | none => false)
    | _ => false)
  | .ldc2_w i => xLKl.any fun q => q.1 == o && q.2.1 == i && decide (q.2.2.1 = r.2.2.2.2.2)
  | .getfield i | .putfield i => (match r.2.2.2.1 with
    | [ci, k] => (xLKf.any fun q => q.1 == o && q.2.1 == i && q.2.2.1 == ci && q.2.2.2.1 == k) && decide (ci < 13) && decide (k < xNf ci)
    | [] => true
    | _ => false)
  | .goto off | .ifCond _ off | .if_icmp _ off | .if_acmp _ off | .ifnull off | .ifnonnull off => xtg r.1 off r.2.2.2.1
  | .invokevirtual i | .invokestatic i | .invokespecial i => (match r.2.2.2.1 with
    | [tag, mid] => if tag < 10 then xLKm.any (fun q => q.1 == o && q.2.1 == i && q.2.2.1 == tag && q.2.2.2.1 == mid) else xLKn.any (fun q => q.1 == o && q.2.1 == i && q.2.2.1 == tag)
    | _ => true)
  | .new i => (match r.2.2.2.1 with
    | [ci] => xLKk.any fun q => q.1 == o && q.2.1 == i && q.2.2.1 == ci
    | _ => true)
  | _ => true
/-- a table switch has its own length -/
def xtab (r : xRow) : Bool := match r.2.2.1 with
  | .tableswitch _ _ _ _ => true
  | .lookupswitch _ _ => true
  | _ => false
def xrok (M : xM) (r : xRow) : Bool := (if xtab r then decide (decode M.2.2.1 r.1 = .ok (r.2.2.1, r.2.1 - r.1)) && decide (r.1 < r.2.1) else decide (decode M.2.2.1 r.1 = .ok (r.2.2.1, xlen r.2.2.1)) && decide (r.2.1 = r.1 + xlen r.2.2.1)) && xres M.2.1 r
def xgd (M : xM) : Prop := M.2.2.2.2.2.all (xrok M) = true ∧ xcw M ∈ lw_tbl ∧ (xY M.1).cls = xOwn M.2.1 ∧ plainName (xY M.1).cls = true ∧ M.2.2.2.1 ≤ 40 ∧ ((xY M.1).cls ≠ "java/lang/invoke/MethodHandle" ∧ (xY M.1).cls ≠ "java/lang/invoke/VarHandle")
theorem xft_row {M : xM} {P : List xRow} {pc : Nat} {x : Nat × Instr × List Nat × Int32 × Int64} (h : P.all (xrok M) = true) (hf : xft P pc = some x) : xrok M (pc, x) = true := by
  induction P with
  | nil => cases hf
  | cons r t ih =>
    rw [List.all_cons, Bool.and_eq_true] at h
    unfold xft at hf
    split at hf
    · rename_i hb
      have e := Nat.eq_of_beq_eq_true hb
      cases hf
      rw [← e]
      exact h.1
    · exact ih h.2 hf
theorem xft_dec {M : xM} {pc nx : Nat} {i : Instr} {rs : List Nat} {li : Int32} {ll : Int64} (h : M.2.2.2.2.2.all (xrok M) = true) (hf : xft M.2.2.2.2.2 pc = some (nx, i, rs, li, ll)) (ht : xtab (pc, nx, i, rs, li, ll) = false) : decode M.2.2.1 pc = .ok (i, xlen i) ∧ nx = pc + xlen i ∧ xres M.2.1 (pc, nx, i, rs, li, ll) = true := by
  have h1 := xft_row h hf
  unfold xrok at h1
  rw [ht] at h1
  simp only [Bool.false_eq_true, if_false, Bool.and_eq_true, decide_eq_true_eq] at h1
  exact ⟨h1.1.1, h1.1.2, h1.2⟩
/-- the addresses that come are known ahead, as long as nothing else is made -/
def xfr (fr : Bool) (al : Nat → Nat) (h : xHp) (H : Heap) : Prop := fr = true → ∀ i, h.1.length ≤ i → i < 4000 → al i = H.size + (i - h.1.length)
/-- the world holds h -/
def xWd (fr : Bool) (D : va_G) (ka : Nat → ClassId) (al : Nat → Nat) (A : Nat → Prop) (h : xHp) (H : Heap) : Prop := va_P D vwCl (xws ka al h) H ∧ va_D A (xws ka al h) ∧ xfr fr al h H
abbrev xPost : Type := Option Value → xHp → Prop
def xQc (fr : Bool) (D : va_G) (ka : Nat → ClassId) (al : Nat → Nat) (A : Nat → Prop) (Q : xPost) : Array Value → State → Outcome → State → Prop := fun _ st oc t =>
  (∃ (v : Option Value) (h : xHp), oc = .returned (v.map (xcv al)) ∧ Q v h ∧ xWd fr D ka al A h t.heap ∧ va_K D vwCl (xtys ka) t) ∧ va_F A st t
def xEx (k : Nat) : String := if k = 1 then "java/util/NoSuchElementException" else "java/lang/IllegalArgumentException"
def xXC (D : va_G) (ka : Nat → ClassId) (al : Nat → Nat) (A : Nat → Prop) (X : Nat → xHp → Prop) : String → State → State → Prop := fun E st t =>
  (∃ (k : Nat) (h : xHp), E = xEx k ∧ X k h ∧ xWd false D ka al A h t.heap ∧ va_K D vwCl (xtys ka) t) ∧ va_F A st t
def xrm (dp kc ks : Nat) : Room := { frames := dp, cells := kc, slots := ks, locals := 64 * dp }
/-- where a method of this system stands -/
def xCx (p : Program) (l : Launch) (s : State) (m : MethodId) (args : Array Value) (meth : Method) (c : Code) (M : xM) (D : va_G) (ka : Nat → ClassId) (al : Nat → Nat) (A : Nat → Prop) : Prop :=
  p.tables.exec = Jvm.exec ∧ c.code = M.2.2.1 ∧ meth.sig.returnType = M.2.2.2.2.1 ∧ c.maxLocals = M.2.2.2.1 ∧ s.vm.findClass (xOwn M.2.1) = some m.cls ∧ (∀ w ∈ xTG, w.before args s = true) ∧ meth.locks = false ∧ va_K D vwCl (xtys ka) s ∧ (∀ q : Nat, s.heap.size ≤ q → A q) ∧ xFx al A s s.heap ∧ l.stackTraces = false ∧ meth.name = (xY M.1).name ∧ c.exceptionTable.toList = tableOf (xHh M.1)
/-- from pc, with these locals, this stack, this world: the method returns with Q or throws with X; it may lay dp frames and make kc cells of ks slots -/
def Ex (M : xM) (fr : Bool) (dp kc ks pc : Nat) (ls : List (Option Value)) (st : List Value) (h : xHp) (Q : xPost) (X : Nat → xHp → Prop) : Prop :=
  xgd M → ∀ (p : Program) (l : Launch) (e : Env) (R : Room) (s : State) (m : MethodId) (args : Array Value) (below : List Frame) (meth : Method) (c : Code) (D : va_G) (ka : Nat → ClassId) (al : Nat → Nat) (A : Nat → Prop) (H : Heap) (locs : List Loc) (cells slots mc ms : Nat) (lsA : Array Slot),
    xCx p l s m args meth c M D ka al A → (dp ≤ R.frames ∧ 64 * dp ≤ R.locals ∧ mc ≤ R.cells ∧ ms ≤ R.slots) → (cells + kc ≤ mc ∧ slots + ks ≤ ms) → xWd fr D ka al A h H → va_S A s.heap H locs → lv_has lsA M.2.2.2.1 (xl al ls) →
    W p l e R s m args below meth c H locs cells slots (vx_MQ below (xQc fr D ka al A Q) (xXC D ka al A X) args s mc ms A) (F0 m pc lsA (st.map (xcv al)))
end
section
set_option maxRecDepth 100000 in
def pX0_init : List xRow := [(0, 1, .aload_n 0, [], 0, 0),
  (1, 4, .invokespecial 3, [15, 0], 0, 0),
  (4, 5, .aload_n 0, [], 0, 0),
  (5, 7, .bipush 40, [], 40, 0),
  (7, 9, .newarray .int, [], 0, 0),
  (9, 12, .putfield 9, [0, 1], 0, 0),
  (12, 13, .aload_n 0, [], 0, 0),
  (13, 15, .bipush 40, [], 40, 0),
  (15, 17, .newarray .int, [], 0, 0),
  (17, 20, .putfield 15, [0, 2], 0, 0),
  (20, 21, .aload_n 0, [], 0, 0),
  (21, 23, .bipush 40, [], 40, 0),
  (23, 25, .newarray .int, [], 0, 0),
  (25, 28, .putfield 18, [0, 3], 0, 0),
  (28, 29, .aload_n 0, [], 0, 0),
  (29, 31, .bipush 40, [], 40, 0),
  (31, 33, .newarray .int, [], 0, 0),
  (33, 36, .putfield 21, [0, 4], 0, 0),
  (36, 37, .return_, [], 0, 0)]
def mX0_init : xM := (0, 0, cX0_init, 1, none, pX0_init)
set_option maxRecDepth 100000 in
theorem gX0_init : xgd mX0_init := ⟨by decide +kernel, xat_in (p := 2084) rfl, by decide +kernel, by decide +kernel, by decide, by decide +kernel, by decide +kernel⟩
set_option maxRecDepth 100000 in
def pX0_keep : List xRow := [(0, 1, .aload_n 0, [], 0, 0),
  (1, 4, .getfield 24, [0, 0], 0, 0),
  (4, 6, .bipush 40, [], 40, 0),
  (6, 9, .if_icmp .lt 7, [13], 0, 0),
  (9, 10, .aload_n 0, [], 0, 0),
  (10, 13, .invokevirtual 28, [0, 2], 0, 0),
  (13, 14, .aload_n 0, [], 0, 0),
  (14, 17, .getfield 9, [0, 1], 0, 0),
  (17, 18, .aload_n 0, [], 0, 0),
  (18, 21, .getfield 24, [0, 0], 0, 0),
  (21, 22, .iload_n 1, [], 0, 0),
  (22, 23, .iastore, [], 0, 0),
  (23, 24, .aload_n 0, [], 0, 0),
  (24, 27, .getfield 15, [0, 2], 0, 0),
  (27, 28, .aload_n 0, [], 0, 0),
  (28, 31, .getfield 24, [0, 0], 0, 0),
  (31, 32, .iload_n 2, [], 0, 0),
  (32, 33, .iastore, [], 0, 0),
  (33, 34, .aload_n 0, [], 0, 0),
  (34, 37, .getfield 18, [0, 3], 0, 0),
  (37, 38, .aload_n 0, [], 0, 0),
  (38, 41, .getfield 24, [0, 0], 0, 0),
  (41, 42, .iload_n 3, [], 0, 0),
  (42, 43, .iastore, [], 0, 0),
  (43, 44, .aload_n 0, [], 0, 0),
  (44, 47, .getfield 21, [0, 4], 0, 0),
  (47, 48, .aload_n 0, [], 0, 0),
  (48, 51, .getfield 24, [0, 0], 0, 0),
  (51, 53, .iload 4, [], 0, 0),
  (53, 54, .iastore, [], 0, 0),
  (54, 55, .aload_n 0, [], 0, 0),
  (55, 56, .dup, [], 0, 0),
  (56, 59, .getfield 24, [0, 0], 0, 0),
  (59, 60, .iconst 1, [], 1, 0),
  (60, 61, .iadd, [], 0, 0),
  (61, 64, .putfield 24, [0, 0], 0, 0),
  (64, 65, .return_, [], 0, 0)]
def mX0_keep : xM := (1, 0, cX0_keep, 5, none, pX0_keep)
set_option maxRecDepth 100000 in
theorem gX0_keep : xgd mX0_keep := ⟨by decide +kernel, xat_in (p := 2216) rfl, by decide +kernel, by decide +kernel, by decide, by decide +kernel, by decide +kernel⟩
set_option maxRecDepth 100000 in
def pX0_forgetEldest : List xRow := [(0, 1, .aload_n 0, [], 0, 0),
  (1, 4, .getfield 9, [0, 1], 0, 0),
  (4, 5, .iconst 1, [], 1, 0),
  (5, 6, .aload_n 0, [], 0, 0),
  (6, 9, .getfield 9, [0, 1], 0, 0),
  (9, 10, .iconst 0, [], 0, 0),
  (10, 12, .bipush 39, [], 39, 0),
  (12, 15, .invokestatic 31, [14, 0], 0, 0),
  (15, 16, .aload_n 0, [], 0, 0),
  (16, 19, .getfield 15, [0, 2], 0, 0),
  (19, 20, .iconst 1, [], 1, 0),
  (20, 21, .aload_n 0, [], 0, 0),
  (21, 24, .getfield 15, [0, 2], 0, 0),
  (24, 25, .iconst 0, [], 0, 0),
  (25, 27, .bipush 39, [], 39, 0),
  (27, 30, .invokestatic 31, [14, 0], 0, 0),
  (30, 31, .aload_n 0, [], 0, 0),
  (31, 34, .getfield 18, [0, 3], 0, 0),
  (34, 35, .iconst 1, [], 1, 0),
  (35, 36, .aload_n 0, [], 0, 0),
  (36, 39, .getfield 18, [0, 3], 0, 0),
  (39, 40, .iconst 0, [], 0, 0),
  (40, 42, .bipush 39, [], 39, 0),
  (42, 45, .invokestatic 31, [14, 0], 0, 0),
  (45, 46, .aload_n 0, [], 0, 0),
  (46, 49, .getfield 21, [0, 4], 0, 0),
  (49, 50, .iconst 1, [], 1, 0),
  (50, 51, .aload_n 0, [], 0, 0),
  (51, 54, .getfield 21, [0, 4], 0, 0),
  (54, 55, .iconst 0, [], 0, 0),
  (55, 57, .bipush 39, [], 39, 0),
  (57, 60, .invokestatic 31, [14, 0], 0, 0),
  (60, 61, .aload_n 0, [], 0, 0),
  (61, 63, .bipush 39, [], 39, 0),
  (63, 66, .putfield 24, [0, 0], 0, 0),
  (66, 67, .return_, [], 0, 0)]
def mX0_forgetEldest : xM := (2, 0, cX0_forgetEldest, 1, none, pX0_forgetEldest)
set_option maxRecDepth 100000 in
theorem gX0_forgetEldest : xgd mX0_forgetEldest := ⟨by decide +kernel, xat_in (p := 2220) rfl, by decide +kernel, by decide +kernel, by decide, by decide +kernel, by decide +kernel⟩
set_option maxRecDepth 100000 in
def pX0_revertLast : List xRow := [(0, 1, .aload_n 0, [], 0, 0),
  (1, 4, .getfield 24, [0, 0], 0, 0),
  (4, 7, .ifCond .gt 4, [8], 0, 0),
  (7, 8, .return_, [], 0, 0),
  (8, 9, .aload_n 0, [], 0, 0),
  (9, 10, .dup, [], 0, 0),
  (10, 13, .getfield 24, [0, 0], 0, 0),
  (13, 14, .iconst 1, [], 1, 0),
  (14, 15, .isub, [], 0, 0),
  (15, 18, .putfield 24, [0, 0], 0, 0),
  (18, 19, .aload_n 0, [], 0, 0),
  (19, 22, .getfield 15, [0, 2], 0, 0),
  (22, 23, .aload_n 0, [], 0, 0),
  (23, 26, .getfield 24, [0, 0], 0, 0),
  (26, 27, .iaload, [], 0, 0),
  (27, 28, .istore_n 2, [], 0, 0),
  (28, 29, .aload_n 0, [], 0, 0),
  (29, 32, .getfield 18, [0, 3], 0, 0),
  (32, 33, .aload_n 0, [], 0, 0),
  (33, 36, .getfield 24, [0, 0], 0, 0),
  (36, 37, .iaload, [], 0, 0),
  (37, 38, .istore_n 3, [], 0, 0),
  (38, 39, .aload_n 0, [], 0, 0),
  (39, 42, .getfield 21, [0, 4], 0, 0),
  (42, 43, .aload_n 0, [], 0, 0),
  (43, 46, .getfield 24, [0, 0], 0, 0),
  (46, 47, .iaload, [], 0, 0),
  (47, 49, .istore 4, [], 0, 0),
  (49, 50, .aload_n 0, [], 0, 0),
  (50, 53, .getfield 9, [0, 1], 0, 0),
  (53, 54, .aload_n 0, [], 0, 0),
  (54, 57, .getfield 24, [0, 0], 0, 0),
  (57, 58, .iaload, [], 0, 0),
  (58, 84, .tableswitch 62 0 2 #[26, 36, 50], [], 0, 0),
  (84, 85, .aload_n 1, [], 0, 0),
  (85, 88, .getfield 37, [2, 2], 0, 0),
  (88, 91, .invokevirtual 43, [0, 53], 0, 0),
  (91, 94, .goto 40, [131], 0, 0),
  (94, 95, .aload_n 1, [], 0, 0),
  (95, 98, .getfield 37, [2, 2], 0, 0),
  (98, 99, .iload_n 2, [], 0, 0),
  (99, 100, .iload_n 3, [], 0, 0),
  (100, 102, .iload 4, [], 0, 0),
  (102, 105, .invokevirtual 48, [0, 52], 0, 0),
  (105, 108, .goto 26, [131], 0, 0),
  (108, 109, .aload_n 1, [], 0, 0),
  (109, 112, .getfield 52, [2, 1], 0, 0),
  (112, 113, .iload_n 2, [], 0, 0),
  (113, 114, .iload_n 3, [], 0, 0),
  (114, 117, .invokevirtual 56, [0, 16], 0, 0),
  (117, 120, .goto 14, [131], 0, 0),
  (120, 121, .aload_n 1, [], 0, 0),
  (121, 124, .getfield 52, [2, 1], 0, 0),
  (124, 125, .iload_n 2, [], 0, 0),
  (125, 126, .iload_n 3, [], 0, 0),
  (126, 128, .iload 4, [], 0, 0),
  (128, 131, .invokevirtual 62, [0, 17], 0, 0),
  (131, 132, .return_, [], 0, 0)]
def mX0_revertLast : xM := (3, 0, cX0_revertLast, 5, none, pX0_revertLast)
set_option maxRecDepth 100000 in
theorem gX0_revertLast : xgd mX0_revertLast := ⟨by decide +kernel, xat_in (p := 3067) rfl, by decide +kernel, by decide +kernel, by decide, by decide +kernel, by decide +kernel⟩
set_option maxRecDepth 100000 in
def pX0_copyFrom : List xRow := [(0, 1, .aload_n 0, [], 0, 0),
  (1, 2, .aload_n 1, [], 0, 0),
  (2, 5, .getfield 24, [0, 0], 0, 0),
  (5, 8, .putfield 24, [0, 0], 0, 0),
  (8, 9, .aload_n 1, [], 0, 0),
  (9, 12, .getfield 9, [0, 1], 0, 0),
  (12, 13, .iconst 0, [], 0, 0),
  (13, 14, .aload_n 0, [], 0, 0),
  (14, 17, .getfield 9, [0, 1], 0, 0),
  (17, 18, .iconst 0, [], 0, 0),
  (18, 20, .bipush 40, [], 40, 0),
  (20, 23, .invokestatic 31, [14, 0], 0, 0),
  (23, 24, .aload_n 1, [], 0, 0),
  (24, 27, .getfield 15, [0, 2], 0, 0),
  (27, 28, .iconst 0, [], 0, 0),
  (28, 29, .aload_n 0, [], 0, 0),
  (29, 32, .getfield 15, [0, 2], 0, 0),
  (32, 33, .iconst 0, [], 0, 0),
  (33, 35, .bipush 40, [], 40, 0),
  (35, 38, .invokestatic 31, [14, 0], 0, 0),
  (38, 39, .aload_n 1, [], 0, 0),
  (39, 42, .getfield 18, [0, 3], 0, 0),
  (42, 43, .iconst 0, [], 0, 0),
  (43, 44, .aload_n 0, [], 0, 0),
  (44, 47, .getfield 18, [0, 3], 0, 0),
  (47, 48, .iconst 0, [], 0, 0),
  (48, 50, .bipush 40, [], 40, 0),
  (50, 53, .invokestatic 31, [14, 0], 0, 0),
  (53, 54, .aload_n 1, [], 0, 0),
  (54, 57, .getfield 21, [0, 4], 0, 0),
  (57, 58, .iconst 0, [], 0, 0),
  (58, 59, .aload_n 0, [], 0, 0),
  (59, 62, .getfield 21, [0, 4], 0, 0),
  (62, 63, .iconst 0, [], 0, 0),
  (63, 65, .bipush 40, [], 40, 0),
  (65, 68, .invokestatic 31, [14, 0], 0, 0),
  (68, 69, .return_, [], 0, 0)]
def mX0_copyFrom : xM := (4, 0, cX0_copyFrom, 2, none, pX0_copyFrom)
set_option maxRecDepth 100000 in
theorem gX0_copyFrom : xgd mX0_copyFrom := ⟨by decide +kernel, xat_in (p := 3130) rfl, by decide +kernel, by decide +kernel, by decide, by decide +kernel, by decide +kernel⟩
set_option maxRecDepth 100000 in
def pX1_init : List xRow := [(0, 1, .aload_n 0, [], 0, 0),
  (1, 4, .invokespecial 3, [15, 0], 0, 0),
  (4, 5, .aload_n 0, [], 0, 0),
  (5, 7, .bipush 6, [], 6, 0),
  (7, 9, .newarray .int, [], 0, 0),
  (9, 12, .putfield 9, [1, 0], 0, 0),
  (12, 13, .aload_n 0, [], 0, 0),
  (13, 15, .bipush 10, [], 10, 0),
  (15, 17, .newarray .int, [], 0, 0),
  (17, 20, .putfield 15, [1, 1], 0, 0),
  (20, 21, .aload_n 0, [], 0, 0),
  (21, 22, .iconst 5, [], 5, 0),
  (22, 24, .newarray .int, [], 0, 0),
  (24, 27, .putfield 18, [1, 2], 0, 0),
  (27, 28, .return_, [], 0, 0)]
def mX1_init : xM := (5, 1, cX1_init, 1, none, pX1_init)
set_option maxRecDepth 100000 in
theorem gX1_init : xgd mX1_init := ⟨by decide +kernel, xat_in (p := 2068) rfl, by decide +kernel, by decide +kernel, by decide, by decide +kernel, by decide +kernel⟩
set_option maxRecDepth 100000 in
def pX1_silence : List xRow := [(0, 1, .aload_n 0, [], 0, 0),
  (1, 4, .getfield 9, [1, 0], 0, 0),
  (4, 5, .iconst (-1), [], -1, 0),
  (5, 8, .invokestatic 21, [1, 300], 0, 0),
  (8, 9, .aload_n 0, [], 0, 0),
  (9, 12, .getfield 15, [1, 1], 0, 0),
  (12, 13, .iconst 0, [], 0, 0),
  (13, 16, .invokestatic 21, [1, 300], 0, 0),
  (16, 17, .return_, [], 0, 0)]
def mX1_silence : xM := (6, 1, cX1_silence, 1, none, pX1_silence)
set_option maxRecDepth 100000 in
theorem gX1_silence : xgd mX1_silence := ⟨by decide +kernel, xat_in (p := 5105) rfl, by decide +kernel, by decide +kernel, by decide, by decide +kernel, by decide +kernel⟩
set_option maxRecDepth 100000 in
def pX1_hearOne : List xRow := [(0, 1, .iload_n 2, [], 0, 0),
  (1, 4, .ifCond .lt 9, [10], 0, 0),
  (4, 5, .iload_n 2, [], 0, 0),
  (5, 7, .bipush 10, [], 10, 0),
  (7, 10, .if_icmp .lt 4, [11], 0, 0),
  (10, 11, .return_, [], 0, 0),
  (11, 12, .aload_n 0, [], 0, 0),
  (12, 15, .getfield 15, [1, 1], 0, 0),
  (15, 16, .iload_n 2, [], 0, 0),
  (16, 17, .dup2, [], 0, 0),
  (17, 18, .iaload, [], 0, 0),
  (18, 19, .iconst 1, [], 1, 0),
  (19, 20, .iadd, [], 0, 0),
  (20, 21, .iastore, [], 0, 0),
  (21, 22, .iconst 0, [], 0, 0),
  (22, 24, .istore 5, [], 0, 0),
  (24, 26, .iload 5, [], 0, 0),
  (26, 27, .aload_n 1, [], 0, 0),
  (27, 30, .getfield 27, [9, 0], 0, 0),
  (30, 33, .getfield 33, [2, 1], 0, 0),
  (33, 36, .getfield 39, [3, 0], 0, 0),
  (36, 39, .if_icmp .ge 38, [74], 0, 0),
  (39, 40, .aload_n 1, [], 0, 0),
  (40, 42, .iload 5, [], 0, 0),
  (42, 43, .iload_n 2, [], 0, 0),
  (43, 44, .iload_n 3, [], 0, 0),
  (44, 46, .iload 4, [], 0, 0),
  (46, 49, .invokevirtual 45, [0, 71], 0, 0),
  (49, 52, .ifCond .eq 19, [68], 0, 0),
  (52, 53, .aload_n 0, [], 0, 0),
  (53, 56, .getfield 9, [1, 0], 0, 0),
  (56, 58, .iload 5, [], 0, 0),
  (58, 59, .aload_n 1, [], 0, 0),
  (59, 62, .getfield 49, [9, 4], 0, 0),
  (62, 64, .iload 5, [], 0, 0),
  (64, 65, .aaload, [], 0, 0),
  (65, 66, .iload_n 2, [], 0, 0),
  (66, 67, .iaload, [], 0, 0),
  (67, 68, .iastore, [], 0, 0),
  (68, 71, .iinc 5 1, [], 1, 0),
  (71, 74, .goto (-47), [24], 0, 0),
  (74, 75, .return_, [], 0, 0)]
def mX1_hearOne : xM := (7, 1, cX1_hearOne, 6, none, pX1_hearOne)
set_option maxRecDepth 100000 in
theorem gX1_hearOne : xgd mX1_hearOne := ⟨by decide +kernel, xat_in (p := 5109) rfl, by decide +kernel, by decide +kernel, by decide, by decide +kernel, by decide +kernel⟩
set_option maxRecDepth 100000 in
def pX1_hearAll : List xRow := [(0, 1, .aload_n 1, [], 0, 0),
  (1, 4, .getfield 27, [9, 0], 0, 0),
  (4, 7, .getfield 53, [2, 2], 0, 0),
  (7, 8, .astore_n 3, [], 0, 0),
  (8, 9, .aload_n 0, [], 0, 0),
  (9, 12, .getfield 15, [1, 1], 0, 0),
  (12, 13, .iconst 0, [], 0, 0),
  (13, 16, .invokestatic 21, [1, 300], 0, 0),
  (16, 17, .iconst 0, [], 0, 0),
  (17, 19, .istore 4, [], 0, 0),
  (19, 21, .iload 4, [], 0, 0),
  (21, 22, .aload_n 3, [], 0, 0),
  (22, 25, .getfield 57, [7, 0], 0, 0),
  (25, 28, .if_icmp .ge 36, [61], 0, 0),
  (28, 29, .aload_n 3, [], 0, 0),
  (29, 32, .getfield 60, [7, 1], 0, 0),
  (32, 34, .iload 4, [], 0, 0),
  (34, 35, .iaload, [], 0, 0),
  (35, 36, .iload_n 2, [], 0, 0),
  (36, 39, .if_icmp .gt 19, [55], 0, 0),
  (39, 40, .aload_n 0, [], 0, 0),
  (40, 43, .getfield 15, [1, 1], 0, 0),
  (43, 44, .aload_n 3, [], 0, 0),
  (44, 47, .getfield 63, [7, 2], 0, 0),
  (47, 49, .iload 4, [], 0, 0),
  (49, 50, .iaload, [], 0, 0),
  (50, 51, .dup2, [], 0, 0),
  (51, 52, .iaload, [], 0, 0),
  (52, 53, .iconst 1, [], 1, 0),
  (53, 54, .iadd, [], 0, 0),
  (54, 55, .iastore, [], 0, 0),
  (55, 58, .iinc 4 1, [], 1, 0),
  (58, 61, .goto (-39), [19], 0, 0),
  (61, 62, .iconst 0, [], 0, 0),
  (62, 64, .istore 4, [], 0, 0),
  (64, 66, .iload 4, [], 0, 0),
  (66, 67, .aload_n 1, [], 0, 0),
  (67, 70, .getfield 27, [9, 0], 0, 0),
  (70, 73, .getfield 33, [2, 1], 0, 0),
  (73, 76, .getfield 39, [3, 0], 0, 0),
  (76, 79, .if_icmp .ge 25, [101], 0, 0),
  (79, 80, .aload_n 0, [], 0, 0),
  (80, 83, .getfield 9, [1, 0], 0, 0),
  (83, 85, .iload 4, [], 0, 0),
  (85, 86, .aload_n 1, [], 0, 0),
  (86, 89, .getfield 66, [9, 2], 0, 0),
  (89, 91, .iload 4, [], 0, 0),
  (91, 92, .aaload, [], 0, 0),
  (92, 93, .iload_n 2, [], 0, 0),
  (93, 94, .iaload, [], 0, 0),
  (94, 95, .iastore, [], 0, 0),
  (95, 98, .iinc 4 1, [], 1, 0),
  (98, 101, .goto (-34), [64], 0, 0),
  (101, 102, .return_, [], 0, 0)]
def mX1_hearAll : xM := (8, 1, cX1_hearAll, 5, none, pX1_hearAll)
set_option maxRecDepth 100000 in
theorem gX1_hearAll : xgd mX1_hearAll := ⟨by decide +kernel, xat_in (p := 5049) rfl, by decide +kernel, by decide +kernel, by decide, by decide +kernel, by decide +kernel⟩
set_option maxRecDepth 100000 in
def pX1_hearBesides : List xRow := [(0, 1, .aload_n 0, [], 0, 0),
  (1, 2, .aload_n 1, [], 0, 0),
  (2, 3, .iload_n 2, [], 0, 0),
  (3, 6, .invokevirtual 69, [0, 8], 0, 0),
  (6, 7, .iconst 0, [], 0, 0),
  (7, 9, .istore 4, [], 0, 0),
  (9, 11, .iload 4, [], 0, 0),
  (11, 13, .bipush 10, [], 10, 0),
  (13, 16, .if_icmp .ge 25, [38], 0, 0),
  (16, 17, .aload_n 0, [], 0, 0),
  (17, 20, .getfield 15, [1, 1], 0, 0),
  (20, 22, .iload 4, [], 0, 0),
  (22, 23, .dup2, [], 0, 0),
  (23, 24, .iaload, [], 0, 0),
  (24, 25, .iload_n 3, [], 0, 0),
  (25, 27, .iload 4, [], 0, 0),
  (27, 28, .ishr, [], 0, 0),
  (28, 29, .iconst 1, [], 1, 0),
  (29, 30, .iand, [], 0, 0),
  (30, 31, .iadd, [], 0, 0),
  (31, 32, .iastore, [], 0, 0),
  (32, 35, .iinc 4 1, [], 1, 0),
  (35, 38, .goto (-26), [9], 0, 0),
  (38, 39, .iconst 0, [], 0, 0),
  (39, 41, .istore 4, [], 0, 0),
  (41, 43, .iload 4, [], 0, 0),
  (43, 44, .aload_n 1, [], 0, 0),
  (44, 47, .getfield 27, [9, 0], 0, 0),
  (47, 50, .getfield 33, [2, 1], 0, 0),
  (50, 53, .getfield 39, [3, 0], 0, 0),
  (53, 56, .if_icmp .ge 24, [77], 0, 0),
  (56, 57, .aload_n 0, [], 0, 0),
  (57, 60, .getfield 9, [1, 0], 0, 0),
  (60, 62, .iload 4, [], 0, 0),
  (62, 63, .aload_n 1, [], 0, 0),
  (63, 65, .iload 4, [], 0, 0),
  (65, 66, .iload_n 2, [], 0, 0),
  (66, 67, .iload_n 3, [], 0, 0),
  (67, 70, .invokevirtual 73, [0, 92], 0, 0),
  (70, 71, .iastore, [], 0, 0),
  (71, 74, .iinc 4 1, [], 1, 0),
  (74, 77, .goto (-33), [41], 0, 0),
  (77, 78, .return_, [], 0, 0)]
def mX1_hearBesides : xM := (9, 1, cX1_hearBesides, 5, none, pX1_hearBesides)
set_option maxRecDepth 100000 in
theorem gX1_hearBesides : xgd mX1_hearBesides := ⟨by decide +kernel, xat_in (p := 6019) rfl, by decide +kernel, by decide +kernel, by decide, by decide +kernel, by decide +kernel⟩
set_option maxRecDepth 100000 in
def pX1_accuse : List xRow := [(0, 1, .iconst (-1), [], -1, 0),
  (1, 3, .istore 4, [], 0, 0),
  (3, 4, .iconst 0, [], 0, 0),
  (4, 6, .istore 5, [], 0, 0),
  (6, 7, .iconst 0, [], 0, 0),
  (7, 9, .istore 6, [], 0, 0),
  (9, 11, .iload 6, [], 0, 0),
  (11, 12, .aload_n 1, [], 0, 0),
  (12, 15, .getfield 27, [9, 0], 0, 0),
  (15, 18, .getfield 77, [2, 0], 0, 0),
  (18, 21, .getfield 81, [4, 0], 0, 0),
  (21, 24, .if_icmp .ge 35, [56], 0, 0),
  (24, 25, .aload_n 0, [], 0, 0),
  (25, 26, .aload_n 1, [], 0, 0),
  (26, 28, .iload 6, [], 0, 0),
  (28, 29, .iload_n 2, [], 0, 0),
  (29, 30, .iload_n 3, [], 0, 0),
  (30, 33, .invokevirtual 84, [0, 11], 0, 0),
  (33, 35, .istore 7, [], 0, 0),
  (35, 37, .iload 7, [], 0, 0),
  (37, 39, .iload 5, [], 0, 0),
  (39, 42, .if_icmp .le 11, [50], 0, 0),
  (42, 44, .iload 6, [], 0, 0),
  (44, 46, .istore 4, [], 0, 0),
  (46, 48, .iload 7, [], 0, 0),
  (48, 50, .istore 5, [], 0, 0),
  (50, 53, .iinc 6 1, [], 1, 0),
  (53, 56, .goto (-44), [9], 0, 0),
  (56, 58, .iload 4, [], 0, 0),
  (58, 59, .ireturn, [], 0, 0)]
def mX1_accuse : xM := (10, 1, cX1_accuse, 8, (some .int), pX1_accuse)
set_option maxRecDepth 100000 in
theorem gX1_accuse : xgd mX1_accuse := ⟨by decide +kernel, xat_in (p := 5054) rfl, by decide +kernel, by decide +kernel, by decide, by decide +kernel, by decide +kernel⟩
set_option maxRecDepth 100000 in
def pX1_weigh : List xRow := [(0, 1, .iconst 0, [], 0, 0),
  (1, 3, .istore 5, [], 0, 0),
  (3, 4, .iconst 0, [], 0, 0),
  (4, 6, .istore 6, [], 0, 0),
  (6, 7, .iconst 0, [], 0, 0),
  (7, 9, .istore 7, [], 0, 0),
  (9, 11, .iload 7, [], 0, 0),
  (11, 12, .aload_n 1, [], 0, 0),
  (12, 15, .getfield 27, [9, 0], 0, 0),
  (15, 18, .getfield 33, [2, 1], 0, 0),
  (18, 21, .getfield 39, [3, 0], 0, 0),
  (21, 24, .if_icmp .ge 59, [80], 0, 0),
  (24, 26, .iload 4, [], 0, 0),
  (26, 28, .iload 7, [], 0, 0),
  (28, 29, .ishr, [], 0, 0),
  (29, 30, .iconst 1, [], 1, 0),
  (30, 31, .iand, [], 0, 0),
  (31, 34, .ifCond .eq 43, [74], 0, 0),
  (34, 35, .aload_n 0, [], 0, 0),
  (35, 38, .getfield 9, [1, 0], 0, 0),
  (38, 40, .iload 7, [], 0, 0),
  (40, 41, .iaload, [], 0, 0),
  (41, 42, .aload_n 1, [], 0, 0),
  (42, 45, .getfield 49, [9, 4], 0, 0),
  (45, 47, .iload 7, [], 0, 0),
  (47, 48, .aaload, [], 0, 0),
  (48, 49, .iload_n 2, [], 0, 0),
  (49, 50, .iaload, [], 0, 0),
  (50, 53, .if_icmp .ne 24, [74], 0, 0),
  (53, 54, .aload_n 0, [], 0, 0),
  (54, 57, .getfield 9, [1, 0], 0, 0),
  (57, 59, .iload 7, [], 0, 0),
  (59, 60, .iaload, [], 0, 0),
  (60, 62, .bipush 8, [], 8, 0),
  (62, 65, .if_icmp .ne 9, [71], 0, 0),
  (65, 68, .iinc 6 1, [], 1, 0),
  (68, 71, .goto 6, [74], 0, 0),
  (71, 74, .iinc 5 1, [], 1, 0),
  (74, 77, .iinc 7 1, [], 1, 0),
  (77, 80, .goto (-68), [9], 0, 0),
  (80, 81, .aload_n 1, [], 0, 0),
  (81, 84, .getfield 27, [9, 0], 0, 0),
  (84, 87, .getfield 88, [2, 4], 0, 0),
  (87, 90, .getfield 92, [6, 0], 0, 0),
  (90, 93, .ifCond .ne 6, [96], 0, 0),
  (93, 95, .iload 5, [], 0, 0),
  (95, 96, .ireturn, [], 0, 0),
  (96, 97, .aload_n 0, [], 0, 0),
  (97, 100, .getfield 18, [1, 2], 0, 0),
  (100, 101, .iconst 0, [], 0, 0),
  (101, 103, .iload 5, [], 0, 0),
  (103, 104, .iastore, [], 0, 0),
  (104, 105, .aload_n 0, [], 0, 0),
  (105, 108, .getfield 18, [1, 2], 0, 0),
  (108, 109, .iconst 1, [], 1, 0),
  (109, 111, .iload 6, [], 0, 0),
  (111, 112, .iastore, [], 0, 0),
  (112, 113, .aload_n 0, [], 0, 0),
  (113, 116, .getfield 18, [1, 2], 0, 0),
  (116, 117, .iconst 2, [], 2, 0),
  (117, 118, .aload_n 1, [], 0, 0),
  (118, 121, .getfield 27, [9, 0], 0, 0),
  (121, 124, .getfield 77, [2, 0], 0, 0),
  (124, 127, .getfield 97, [4, 3], 0, 0),
  (127, 128, .iload_n 2, [], 0, 0),
  (128, 129, .iaload, [], 0, 0),
  (129, 130, .iastore, [], 0, 0),
  (130, 131, .aload_n 0, [], 0, 0),
  (131, 134, .getfield 18, [1, 2], 0, 0),
  (134, 135, .iconst 3, [], 3, 0),
  (135, 136, .aload_n 0, [], 0, 0),
  (136, 139, .getfield 15, [1, 1], 0, 0),
  (139, 140, .iload_n 2, [], 0, 0),
  (140, 141, .iaload, [], 0, 0),
  (141, 142, .iastore, [], 0, 0),
  (142, 143, .aload_n 0, [], 0, 0),
  (143, 146, .getfield 18, [1, 2], 0, 0),
  (146, 147, .iconst 4, [], 4, 0),
  (147, 148, .iload_n 3, [], 0, 0),
  (148, 149, .iastore, [], 0, 0),
  (149, 150, .aload_n 1, [], 0, 0),
  (150, 153, .getfield 27, [9, 0], 0, 0),
  (153, 156, .getfield 88, [2, 4], 0, 0),
  (156, 157, .aload_n 0, [], 0, 0),
  (157, 160, .getfield 18, [1, 2], 0, 0),
  (160, 163, .invokevirtual 100, [0, 48], 0, 0),
  (163, 164, .ireturn, [], 0, 0)]
def mX1_weigh : xM := (11, 1, cX1_weigh, 8, (some .int), pX1_weigh)
set_option maxRecDepth 100000 in
theorem gX1_weigh : xgd mX1_weigh := ⟨by decide +kernel, xat_in (p := 5058) rfl, by decide +kernel, by decide +kernel, by decide, by decide +kernel, by decide +kernel⟩
set_option maxRecDepth 100000 in
def pX2_init : List xRow := [(0, 1, .aload_n 0, [], 0, 0),
  (1, 4, .invokespecial 1, [15, 0], 0, 0),
  (4, 5, .aload_n 0, [], 0, 0),
  (5, 8, .new 7, [4], 0, 0),
  (8, 9, .dup, [], 0, 0),
  (9, 12, .invokespecial 9, [4, 19], 0, 0),
  (12, 15, .putfield 10, [2, 0], 0, 0),
  (15, 16, .aload_n 0, [], 0, 0),
  (16, 19, .new 16, [3], 0, 0),
  (19, 20, .dup, [], 0, 0),
  (20, 23, .invokespecial 18, [4, 14], 0, 0),
  (23, 26, .putfield 19, [2, 1], 0, 0),
  (26, 27, .aload_n 0, [], 0, 0),
  (27, 30, .new 23, [7], 0, 0),
  (30, 31, .dup, [], 0, 0),
  (31, 34, .invokespecial 25, [4, 51], 0, 0),
  (34, 37, .putfield 26, [2, 2], 0, 0),
  (37, 38, .aload_n 0, [], 0, 0),
  (38, 41, .new 30, [6], 0, 0),
  (41, 42, .dup, [], 0, 0),
  (42, 45, .invokespecial 32, [4, 46], 0, 0),
  (45, 48, .putfield 33, [2, 3], 0, 0),
  (48, 49, .aload_n 0, [], 0, 0),
  (49, 52, .new 30, [6], 0, 0),
  (52, 53, .dup, [], 0, 0),
  (53, 56, .invokespecial 32, [4, 46], 0, 0),
  (56, 59, .putfield 37, [2, 4], 0, 0),
  (59, 60, .return_, [], 0, 0)]
def mX2_init : xM := (12, 2, cX2_init, 1, none, pX2_init)
set_option maxRecDepth 100000 in
theorem gX2_init : xgd mX2_init := ⟨by decide +kernel, xat_in (p := 1045) rfl, by decide +kernel, by decide +kernel, by decide, by decide +kernel, by decide +kernel⟩
set_option maxRecDepth 100000 in
def pX2_empty : List xRow := [(0, 1, .aload_n 0, [], 0, 0),
  (1, 4, .getfield 10, [2, 0], 0, 0),
  (4, 5, .iconst 0, [], 0, 0),
  (5, 8, .putfield 40, [4, 0], 0, 0),
  (8, 9, .aload_n 0, [], 0, 0),
  (9, 12, .getfield 19, [2, 1], 0, 0),
  (12, 13, .iconst 0, [], 0, 0),
  (13, 16, .putfield 44, [3, 0], 0, 0),
  (16, 17, .aload_n 0, [], 0, 0),
  (17, 20, .getfield 26, [2, 2], 0, 0),
  (20, 21, .iconst 0, [], 0, 0),
  (21, 24, .putfield 45, [7, 0], 0, 0),
  (24, 25, .aload_n 0, [], 0, 0),
  (25, 28, .getfield 33, [2, 3], 0, 0),
  (28, 29, .iconst 0, [], 0, 0),
  (29, 32, .putfield 46, [6, 0], 0, 0),
  (32, 33, .aload_n 0, [], 0, 0),
  (33, 36, .getfield 37, [2, 4], 0, 0),
  (36, 37, .iconst 0, [], 0, 0),
  (37, 40, .putfield 46, [6, 0], 0, 0),
  (40, 41, .return_, [], 0, 0)]
def mX2_empty : xM := (13, 2, cX2_empty, 1, none, pX2_empty)
set_option maxRecDepth 100000 in
theorem gX2_empty : xgd mX2_empty := ⟨by decide +kernel, xat_in (p := 3225) rfl, by decide +kernel, by decide +kernel, by decide, by decide +kernel, by decide +kernel⟩
set_option maxRecDepth 100000 in
def pX3_init : List xRow := [(0, 1, .aload_n 0, [], 0, 0),
  (1, 4, .invokespecial 3, [15, 0], 0, 0),
  (4, 5, .aload_n 0, [], 0, 0),
  (5, 7, .bipush 6, [], 6, 0),
  (7, 9, .newarray .int, [], 0, 0),
  (9, 12, .putfield 9, [3, 1], 0, 0),
  (12, 13, .aload_n 0, [], 0, 0),
  (13, 15, .bipush 6, [], 6, 0),
  (15, 17, .newarray .int, [], 0, 0),
  (17, 20, .putfield 15, [3, 2], 0, 0),
  (20, 21, .aload_n 0, [], 0, 0),
  (21, 23, .bipush 6, [], 6, 0),
  (23, 25, .newarray .int, [], 0, 0),
  (25, 28, .putfield 18, [3, 3], 0, 0),
  (28, 29, .aload_n 0, [], 0, 0),
  (29, 31, .bipush 6, [], 6, 0),
  (31, 33, .newarray .int, [], 0, 0),
  (33, 36, .putfield 21, [3, 4], 0, 0),
  (36, 37, .return_, [], 0, 0)]
def mX3_init : xM := (14, 3, cX3_init, 1, none, pX3_init)
set_option maxRecDepth 100000 in
theorem gX3_init : xgd mX3_init := ⟨by decide +kernel, xat_in (p := 1086) rfl, by decide +kernel, by decide +kernel, by decide, by decide +kernel, by decide +kernel⟩
set_option maxRecDepth 100000 in
def pX3_add : List xRow := [(0, 1, .aload_n 0, [], 0, 0),
  (1, 4, .getfield 24, [3, 0], 0, 0),
  (4, 6, .bipush 6, [], 6, 0),
  (6, 9, .if_icmp .ge 54, [60], 0, 0),
  (9, 10, .aload_n 0, [], 0, 0),
  (10, 13, .getfield 9, [3, 1], 0, 0),
  (13, 14, .aload_n 0, [], 0, 0),
  (14, 17, .getfield 24, [3, 0], 0, 0),
  (17, 18, .iload_n 1, [], 0, 0),
  (18, 19, .iastore, [], 0, 0),
  (19, 20, .aload_n 0, [], 0, 0),
  (20, 23, .getfield 15, [3, 2], 0, 0),
  (23, 24, .aload_n 0, [], 0, 0),
  (24, 27, .getfield 24, [3, 0], 0, 0),
  (27, 28, .iload_n 2, [], 0, 0),
  (28, 29, .iastore, [], 0, 0),
  (29, 30, .aload_n 0, [], 0, 0),
  (30, 33, .getfield 18, [3, 3], 0, 0),
  (33, 34, .aload_n 0, [], 0, 0),
  (34, 37, .getfield 24, [3, 0], 0, 0),
  (37, 38, .iload_n 3, [], 0, 0),
  (38, 39, .iastore, [], 0, 0),
  (39, 40, .aload_n 0, [], 0, 0),
  (40, 43, .getfield 21, [3, 4], 0, 0),
  (43, 44, .aload_n 0, [], 0, 0),
  (44, 47, .getfield 24, [3, 0], 0, 0),
  (47, 49, .iload 4, [], 0, 0),
  (49, 50, .iastore, [], 0, 0),
  (50, 51, .aload_n 0, [], 0, 0),
  (51, 52, .dup, [], 0, 0),
  (52, 55, .getfield 24, [3, 0], 0, 0),
  (55, 56, .iconst 1, [], 1, 0),
  (56, 57, .iadd, [], 0, 0),
  (57, 60, .putfield 24, [3, 0], 0, 0),
  (60, 61, .return_, [], 0, 0)]
def mX3_add : xM := (15, 3, cX3_add, 5, none, pX3_add)
set_option maxRecDepth 100000 in
theorem gX3_add : xgd mX3_add := ⟨by decide +kernel, xat_in (p := 4086) rfl, by decide +kernel, by decide +kernel, by decide, by decide +kernel, by decide +kernel⟩
set_option maxRecDepth 100000 in
def pX3_setRust : List xRow := [(0, 1, .iload_n 1, [], 0, 0),
  (1, 4, .ifCond .lt 18, [19], 0, 0),
  (4, 5, .iload_n 1, [], 0, 0),
  (5, 6, .aload_n 0, [], 0, 0),
  (6, 9, .getfield 24, [3, 0], 0, 0),
  (9, 12, .if_icmp .ge 10, [19], 0, 0),
  (12, 13, .aload_n 0, [], 0, 0),
  (13, 16, .getfield 21, [3, 4], 0, 0),
  (16, 17, .iload_n 1, [], 0, 0),
  (17, 18, .iload_n 2, [], 0, 0),
  (18, 19, .iastore, [], 0, 0),
  (19, 20, .return_, [], 0, 0)]
def mX3_setRust : xM := (16, 3, cX3_setRust, 3, none, pX3_setRust)
set_option maxRecDepth 100000 in
theorem gX3_setRust : xgd mX3_setRust := ⟨by decide +kernel, xat_in (p := 3076) rfl, by decide +kernel, by decide +kernel, by decide, by decide +kernel, by decide +kernel⟩
set_option maxRecDepth 100000 in
def pX3_setPlace : List xRow := [(0, 1, .iload_n 1, [], 0, 0),
  (1, 4, .ifCond .lt 25, [26], 0, 0),
  (4, 5, .iload_n 1, [], 0, 0),
  (5, 6, .aload_n 0, [], 0, 0),
  (6, 9, .getfield 24, [3, 0], 0, 0),
  (9, 12, .if_icmp .ge 17, [26], 0, 0),
  (12, 13, .aload_n 0, [], 0, 0),
  (13, 16, .getfield 9, [3, 1], 0, 0),
  (16, 17, .iload_n 1, [], 0, 0),
  (17, 18, .iload_n 2, [], 0, 0),
  (18, 19, .iastore, [], 0, 0),
  (19, 20, .aload_n 0, [], 0, 0),
  (20, 23, .getfield 15, [3, 2], 0, 0),
  (23, 24, .iload_n 1, [], 0, 0),
  (24, 25, .iload_n 3, [], 0, 0),
  (25, 26, .iastore, [], 0, 0),
  (26, 27, .return_, [], 0, 0)]
def mX3_setPlace : xM := (17, 3, cX3_setPlace, 4, none, pX3_setPlace)
set_option maxRecDepth 100000 in
theorem gX3_setPlace : xgd mX3_setPlace := ⟨by decide +kernel, xat_in (p := 3080) rfl, by decide +kernel, by decide +kernel, by decide, by decide +kernel, by decide +kernel⟩
set_option maxRecDepth 100000 in
def pX3_copyFrom : List xRow := [(0, 1, .aload_n 0, [], 0, 0),
  (1, 2, .aload_n 1, [], 0, 0),
  (2, 5, .getfield 24, [3, 0], 0, 0),
  (5, 8, .putfield 24, [3, 0], 0, 0),
  (8, 9, .aload_n 1, [], 0, 0),
  (9, 12, .getfield 9, [3, 1], 0, 0),
  (12, 13, .iconst 0, [], 0, 0),
  (13, 14, .aload_n 0, [], 0, 0),
  (14, 17, .getfield 9, [3, 1], 0, 0),
  (17, 18, .iconst 0, [], 0, 0),
  (18, 20, .bipush 6, [], 6, 0),
  (20, 23, .invokestatic 28, [14, 0], 0, 0),
  (23, 24, .aload_n 1, [], 0, 0),
  (24, 27, .getfield 15, [3, 2], 0, 0),
  (27, 28, .iconst 0, [], 0, 0),
  (28, 29, .aload_n 0, [], 0, 0),
  (29, 32, .getfield 15, [3, 2], 0, 0),
  (32, 33, .iconst 0, [], 0, 0),
  (33, 35, .bipush 6, [], 6, 0),
  (35, 38, .invokestatic 28, [14, 0], 0, 0),
  (38, 39, .aload_n 1, [], 0, 0),
  (39, 42, .getfield 18, [3, 3], 0, 0),
  (42, 43, .iconst 0, [], 0, 0),
  (43, 44, .aload_n 0, [], 0, 0),
  (44, 47, .getfield 18, [3, 3], 0, 0),
  (47, 48, .iconst 0, [], 0, 0),
  (48, 50, .bipush 6, [], 6, 0),
  (50, 53, .invokestatic 28, [14, 0], 0, 0),
  (53, 54, .aload_n 1, [], 0, 0),
  (54, 57, .getfield 21, [3, 4], 0, 0),
  (57, 58, .iconst 0, [], 0, 0),
  (58, 59, .aload_n 0, [], 0, 0),
  (59, 62, .getfield 21, [3, 4], 0, 0),
  (62, 63, .iconst 0, [], 0, 0),
  (63, 65, .bipush 6, [], 6, 0),
  (65, 68, .invokestatic 28, [14, 0], 0, 0),
  (68, 69, .return_, [], 0, 0)]
def mX3_copyFrom : xM := (18, 3, cX3_copyFrom, 2, none, pX3_copyFrom)
set_option maxRecDepth 100000 in
theorem gX3_copyFrom : xgd mX3_copyFrom := ⟨by decide +kernel, xat_in (p := 3125) rfl, by decide +kernel, by decide +kernel, by decide, by decide +kernel, by decide +kernel⟩
set_option maxRecDepth 100000 in
def pX4_init : List xRow := [(0, 1, .aload_n 0, [], 0, 0),
  (1, 4, .invokespecial 3, [15, 0], 0, 0),
  (4, 5, .aload_n 0, [], 0, 0),
  (5, 7, .bipush 10, [], 10, 0),
  (7, 9, .newarray .int, [], 0, 0),
  (9, 12, .putfield 9, [4, 1], 0, 0),
  (12, 13, .aload_n 0, [], 0, 0),
  (13, 15, .bipush 10, [], 10, 0),
  (15, 17, .newarray .int, [], 0, 0),
  (17, 20, .putfield 15, [4, 2], 0, 0),
  (20, 21, .aload_n 0, [], 0, 0),
  (21, 23, .bipush 10, [], 10, 0),
  (23, 25, .newarray .int, [], 0, 0),
  (25, 28, .putfield 18, [4, 3], 0, 0),
  (28, 29, .return_, [], 0, 0)]
def mX4_init : xM := (19, 4, cX4_init, 1, none, pX4_init)
set_option maxRecDepth 100000 in
theorem gX4_init : xgd mX4_init := ⟨by decide +kernel, xat_in (p := 1051) rfl, by decide +kernel, by decide +kernel, by decide, by decide +kernel, by decide +kernel⟩
set_option maxRecDepth 100000 in
def pX4_add : List xRow := [(0, 1, .aload_n 0, [], 0, 0),
  (1, 4, .getfield 21, [4, 0], 0, 0),
  (4, 6, .bipush 10, [], 10, 0),
  (6, 9, .if_icmp .ge 43, [49], 0, 0),
  (9, 10, .aload_n 0, [], 0, 0),
  (10, 13, .getfield 9, [4, 1], 0, 0),
  (13, 14, .aload_n 0, [], 0, 0),
  (14, 17, .getfield 21, [4, 0], 0, 0),
  (17, 18, .iload_n 1, [], 0, 0),
  (18, 19, .iastore, [], 0, 0),
  (19, 20, .aload_n 0, [], 0, 0),
  (20, 23, .getfield 15, [4, 2], 0, 0),
  (23, 24, .aload_n 0, [], 0, 0),
  (24, 27, .getfield 21, [4, 0], 0, 0),
  (27, 28, .iload_n 2, [], 0, 0),
  (28, 29, .iastore, [], 0, 0),
  (29, 30, .aload_n 0, [], 0, 0),
  (30, 33, .getfield 18, [4, 3], 0, 0),
  (33, 34, .aload_n 0, [], 0, 0),
  (34, 37, .getfield 21, [4, 0], 0, 0),
  (37, 38, .iload_n 3, [], 0, 0),
  (38, 39, .iastore, [], 0, 0),
  (39, 40, .aload_n 0, [], 0, 0),
  (40, 41, .dup, [], 0, 0),
  (41, 44, .getfield 21, [4, 0], 0, 0),
  (44, 45, .iconst 1, [], 1, 0),
  (45, 46, .iadd, [], 0, 0),
  (46, 49, .putfield 21, [4, 0], 0, 0),
  (49, 50, .return_, [], 0, 0)]
def mX4_add : xM := (20, 4, cX4_add, 4, none, pX4_add)
set_option maxRecDepth 100000 in
theorem gX4_add : xgd mX4_add := ⟨by decide +kernel, xat_in (p := 4073) rfl, by decide +kernel, by decide +kernel, by decide, by decide +kernel, by decide +kernel⟩
set_option maxRecDepth 100000 in
def pX5_init : List xRow := [(0, 1, .aload_n 0, [], 0, 0),
  (1, 4, .invokespecial 3, [15, 0], 0, 0),
  (4, 5, .aload_n 0, [], 0, 0),
  (5, 8, .sipush 700, [], 700, 0),
  (8, 10, .newarray .byte, [], 0, 0),
  (10, 13, .putfield 9, [5, 0], 0, 0),
  (13, 14, .aload_n 0, [], 0, 0),
  (14, 17, .new 15, [2], 0, 0),
  (17, 18, .dup, [], 0, 0),
  (18, 21, .invokespecial 17, [4, 12], 0, 0),
  (21, 24, .putfield 18, [5, 2], 0, 0),
  (24, 25, .return_, [], 0, 0)]
def mX5_init : xM := (21, 5, cX5_init, 1, none, pX5_init)
set_option maxRecDepth 100000 in
theorem gX5_init : xgd mX5_init := ⟨by decide +kernel, xat_in (p := 1039) rfl, by decide +kernel, by decide +kernel, by decide, by decide +kernel, by decide +kernel⟩
set_option maxRecDepth 100000 in
def pX5_put : List xRow := [(0, 2, .bipush 24, [], 24, 0),
  (2, 3, .istore_n 2, [], 0, 0),
  (3, 4, .iload_n 2, [], 0, 0),
  (4, 7, .ifCond .lt 42, [46], 0, 0),
  (7, 8, .aload_n 0, [], 0, 0),
  (8, 11, .getfield 22, [5, 1], 0, 0),
  (11, 14, .sipush 700, [], 700, 0),
  (14, 17, .if_icmp .ge 32, [46], 0, 0),
  (17, 18, .aload_n 0, [], 0, 0),
  (18, 21, .getfield 9, [5, 0], 0, 0),
  (21, 22, .aload_n 0, [], 0, 0),
  (22, 25, .getfield 22, [5, 1], 0, 0),
  (25, 26, .iload_n 1, [], 0, 0),
  (26, 27, .iload_n 2, [], 0, 0),
  (27, 28, .ishr, [], 0, 0),
  (28, 29, .i2b, [], 0, 0),
  (29, 30, .bastore, [], 0, 0),
  (30, 31, .aload_n 0, [], 0, 0),
  (31, 32, .dup, [], 0, 0),
  (32, 35, .getfield 22, [5, 1], 0, 0),
  (35, 36, .iconst 1, [], 1, 0),
  (36, 37, .iadd, [], 0, 0),
  (37, 40, .putfield 22, [5, 1], 0, 0),
  (40, 43, .iinc 2 (-8), [], -8, 0),
  (43, 46, .goto (-40), [3], 0, 0),
  (46, 47, .return_, [], 0, 0)]
def mX5_put : xM := (22, 5, cX5_put, 3, none, pX5_put)
set_option maxRecDepth 100000 in
theorem gX5_put : xgd mX5_put := ⟨by decide +kernel, xat_in (p := 2193) rfl, by decide +kernel, by decide +kernel, by decide, by decide +kernel, by decide +kernel⟩
set_option maxRecDepth 100000 in
def pX5_read : List xRow := [(0, 1, .aload_n 0, [], 0, 0),
  (1, 2, .iconst 0, [], 0, 0),
  (2, 3, .iload_n 1, [], 0, 0),
  (3, 4, .aload_n 0, [], 0, 0),
  (4, 7, .getfield 22, [5, 1], 0, 0),
  (7, 10, .invokestatic 26, [11, 0], 0, 0),
  (10, 13, .invokestatic 32, [10, 0], 0, 0),
  (13, 16, .putfield 35, [5, 5], 0, 0),
  (16, 17, .aload_n 0, [], 0, 0),
  (17, 18, .iconst 0, [], 0, 0),
  (18, 21, .putfield 22, [5, 1], 0, 0),
  (21, 22, .aload_n 0, [], 0, 0),
  (22, 23, .iconst 0, [], 0, 0),
  (23, 26, .putfield 38, [5, 6], 0, 0),
  (26, 27, .aload_n 0, [], 0, 0),
  (27, 28, .iconst 0, [], 0, 0),
  (28, 31, .putfield 41, [5, 3], 0, 0),
  (31, 32, .aload_n 0, [], 0, 0),
  (32, 33, .iconst (-1), [], -1, 0),
  (33, 36, .putfield 44, [5, 4], 0, 0),
  (36, 37, .aload_n 0, [], 0, 0),
  (37, 40, .getfield 18, [5, 2], 0, 0),
  (40, 43, .invokevirtual 47, [0, 13], 0, 0),
  (43, 44, .aload_n 0, [], 0, 0),
  (44, 47, .invokevirtual 50, [0, 25], 0, 0),
  (47, 48, .iconst 1, [], 1, 0),
  (48, 49, .istore_n 2, [], 0, 0),
  (49, 50, .iconst 0, [], 0, 0),
  (50, 51, .istore_n 3, [], 0, 0),
  (51, 52, .iload_n 3, [], 0, 0),
  (52, 55, .sipush 700, [], 700, 0),
  (55, 58, .if_icmp .ge 25, [80], 0, 0),
  (58, 59, .iload_n 2, [], 0, 0),
  (59, 62, .ifCond .eq 21, [80], 0, 0),
  (62, 63, .aload_n 0, [], 0, 0),
  (63, 66, .getfield 53, [5, 8], 0, 0),
  (66, 69, .ifCond .eq 14, [80], 0, 0),
  (69, 70, .aload_n 0, [], 0, 0),
  (70, 73, .invokevirtual 56, [0, 28], 0, 0),
  (73, 74, .istore_n 2, [], 0, 0),
  (74, 77, .iinc 3 1, [], 1, 0),
  (77, 80, .goto (-26), [51], 0, 0),
  (80, 81, .aload_n 0, [], 0, 0),
  (81, 84, .getfield 41, [5, 3], 0, 0),
  (84, 85, .ireturn, [], 0, 0)]
def mX5_read : xM := (23, 5, cX5_read, 4, (some .int), pX5_read)
set_option maxRecDepth 100000 in
theorem gX5_read : xgd mX5_read := ⟨by decide +kernel, xat_in (p := 3217) rfl, by decide +kernel, by decide +kernel, by decide, by decide +kernel, by decide +kernel⟩
set_option maxRecDepth 100000 in
def pX5_refuse : List xRow := [(0, 1, .aload_n 0, [], 0, 0),
  (1, 2, .iload_n 1, [], 0, 0),
  (2, 5, .putfield 41, [5, 3], 0, 0),
  (5, 6, .aload_n 0, [], 0, 0),
  (6, 7, .aload_n 0, [], 0, 0),
  (7, 10, .getfield 60, [5, 7], 0, 0),
  (10, 13, .putfield 44, [5, 4], 0, 0),
  (13, 14, .iconst 0, [], 0, 0),
  (14, 15, .ireturn, [], 0, 0)]
def mX5_refuse : xM := (24, 5, cX5_refuse, 2, (some .boolean), pX5_refuse)
set_option maxRecDepth 100000 in
theorem gX5_refuse : xgd mX5_refuse := ⟨by decide +kernel, xat_in (p := 4057) rfl, by decide +kernel, by decide +kernel, by decide, by decide +kernel, by decide +kernel⟩
set_option maxRecDepth 100000 in
def pX5_advance : List xRow := [(0, 1, .aload_n 0, [], 0, 0),
  (1, 4, .getfield 38, [5, 6], 0, 0),
  (4, 5, .aload_n 0, [], 0, 0),
  (5, 8, .getfield 35, [5, 5], 0, 0),
  (8, 11, .if_icmp .ge 32, [40], 0, 0),
  (11, 12, .aload_n 0, [], 0, 0),
  (12, 15, .getfield 9, [5, 0], 0, 0),
  (15, 16, .aload_n 0, [], 0, 0),
  (16, 19, .getfield 38, [5, 6], 0, 0),
  (19, 20, .baload, [], 0, 0),
  (20, 23, .invokestatic 63, [1, 26], 0, 0),
  (23, 24, .iconst 3, [], 3, 0),
  (24, 27, .if_icmp .ne 16, [40], 0, 0),
  (27, 28, .aload_n 0, [], 0, 0),
  (28, 29, .dup, [], 0, 0),
  (29, 32, .getfield 38, [5, 6], 0, 0),
  (32, 33, .iconst 1, [], 1, 0),
  (33, 34, .iadd, [], 0, 0),
  (34, 37, .putfield 38, [5, 6], 0, 0),
  (37, 40, .goto (-37), [0], 0, 0),
  (40, 41, .aload_n 0, [], 0, 0),
  (41, 42, .aload_n 0, [], 0, 0),
  (42, 45, .getfield 38, [5, 6], 0, 0),
  (45, 48, .putfield 60, [5, 7], 0, 0),
  (48, 49, .aload_n 0, [], 0, 0),
  (49, 50, .aload_n 0, [], 0, 0),
  (50, 53, .getfield 38, [5, 6], 0, 0),
  (53, 54, .aload_n 0, [], 0, 0),
  (54, 57, .getfield 35, [5, 5], 0, 0),
  (57, 60, .if_icmp .ge 18, [75], 0, 0),
  (60, 61, .aload_n 0, [], 0, 0),
  (61, 64, .getfield 9, [5, 0], 0, 0),
  (64, 65, .aload_n 0, [], 0, 0),
  (65, 68, .getfield 38, [5, 6], 0, 0),
  (68, 69, .baload, [], 0, 0),
  (69, 72, .invokestatic 63, [1, 26], 0, 0),
  (72, 75, .goto 4, [76], 0, 0),
  (75, 76, .iconst 0, [], 0, 0),
  (76, 79, .putfield 53, [5, 8], 0, 0),
  (79, 80, .aload_n 0, [], 0, 0),
  (80, 81, .iconst 0, [], 0, 0),
  (81, 84, .putfield 67, [5, 9], 0, 0),
  (84, 85, .aload_n 0, [], 0, 0),
  (85, 88, .getfield 53, [5, 8], 0, 0),
  (88, 89, .iconst 1, [], 1, 0),
  (89, 92, .if_icmp .eq 11, [100], 0, 0),
  (92, 93, .aload_n 0, [], 0, 0),
  (93, 96, .getfield 53, [5, 8], 0, 0),
  (96, 97, .iconst 2, [], 2, 0),
  (97, 100, .if_icmp .ne 91, [188], 0, 0),
  (100, 101, .aload_n 0, [], 0, 0),
  (101, 104, .getfield 38, [5, 6], 0, 0),
  (104, 105, .aload_n 0, [], 0, 0),
  (105, 108, .getfield 35, [5, 5], 0, 0),
  (108, 111, .if_icmp .ge 97, [205], 0, 0),
  (111, 112, .aload_n 0, [], 0, 0),
  (112, 115, .getfield 9, [5, 0], 0, 0),
  (115, 116, .aload_n 0, [], 0, 0),
  (116, 119, .getfield 38, [5, 6], 0, 0),
  (119, 120, .baload, [], 0, 0),
  (120, 123, .invokestatic 63, [1, 26], 0, 0),
  (123, 124, .aload_n 0, [], 0, 0),
  (124, 127, .getfield 53, [5, 8], 0, 0),
  (127, 130, .if_icmp .ne 78, [205], 0, 0),
  (130, 131, .aload_n 0, [], 0, 0),
  (131, 134, .getfield 53, [5, 8], 0, 0),
  (134, 135, .iconst 2, [], 2, 0),
  (135, 138, .if_icmp .ne 40, [175], 0, 0),
  (138, 139, .aload_n 0, [], 0, 0),
  (139, 142, .getfield 38, [5, 6], 0, 0),
  (142, 143, .aload_n 0, [], 0, 0),
  (143, 146, .getfield 60, [5, 7], 0, 0),
  (146, 147, .isub, [], 0, 0),
  (147, 148, .iconst 4, [], 4, 0),
  (148, 151, .if_icmp .ge 27, [175], 0, 0),
  (151, 152, .aload_n 0, [], 0, 0),
  (152, 153, .aload_n 0, [], 0, 0),
  (153, 156, .getfield 67, [5, 9], 0, 0),
  (156, 158, .bipush 10, [], 10, 0),
  (158, 159, .imul, [], 0, 0),
  (159, 160, .aload_n 0, [], 0, 0),
  (160, 163, .getfield 9, [5, 0], 0, 0),
  (163, 164, .aload_n 0, [], 0, 0),
  (164, 167, .getfield 38, [5, 6], 0, 0),
  (167, 168, .baload, [], 0, 0),
  (168, 169, .iadd, [], 0, 0),
  (169, 171, .bipush 48, [], 48, 0),
  (171, 172, .isub, [], 0, 0),
  (172, 175, .putfield 67, [5, 9], 0, 0),
  (175, 176, .aload_n 0, [], 0, 0),
  (176, 177, .dup, [], 0, 0),
  (177, 180, .getfield 38, [5, 6], 0, 0),
  (180, 181, .iconst 1, [], 1, 0),
  (181, 182, .iadd, [], 0, 0),
  (182, 185, .putfield 38, [5, 6], 0, 0),
  (185, 188, .goto (-85), [100], 0, 0),
  (188, 189, .aload_n 0, [], 0, 0),
  (189, 192, .getfield 53, [5, 8], 0, 0),
  (192, 195, .ifCond .eq 13, [205], 0, 0),
  (195, 196, .aload_n 0, [], 0, 0),
  (196, 197, .dup, [], 0, 0),
  (197, 200, .getfield 38, [5, 6], 0, 0),
  (200, 201, .iconst 1, [], 1, 0),
  (201, 202, .iadd, [], 0, 0),
  (202, 205, .putfield 38, [5, 6], 0, 0),
  (205, 206, .return_, [], 0, 0)]
def mX5_advance : xM := (25, 5, cX5_advance, 1, none, pX5_advance)
set_option maxRecDepth 100000 in
theorem gX5_advance : xgd mX5_advance := ⟨by decide +kernel, xat_in (p := 3229) rfl, by decide +kernel, by decide +kernel, by decide, by decide +kernel, by decide +kernel⟩
set_option maxRecDepth 100000 in
def pX5_kindOf : List xRow := [(0, 1, .iload_n 0, [], 0, 0),
  (1, 3, .bipush 32, [], 32, 0),
  (3, 6, .if_icmp .eq 9, [12], 0, 0),
  (6, 7, .iload_n 0, [], 0, 0),
  (7, 9, .bipush 10, [], 10, 0),
  (9, 12, .if_icmp .ne 5, [14], 0, 0),
  (12, 13, .iconst 3, [], 3, 0),
  (13, 14, .ireturn, [], 0, 0),
  (14, 15, .iload_n 0, [], 0, 0),
  (15, 17, .bipush 97, [], 97, 0),
  (17, 20, .if_icmp .lt 11, [28], 0, 0),
  (20, 21, .iload_n 0, [], 0, 0),
  (21, 23, .bipush 122, [], 122, 0),
  (23, 26, .if_icmp .gt 5, [28], 0, 0),
  (26, 27, .iconst 1, [], 1, 0),
  (27, 28, .ireturn, [], 0, 0),
  (28, 29, .iload_n 0, [], 0, 0),
  (29, 31, .bipush 48, [], 48, 0),
  (31, 34, .if_icmp .lt 11, [42], 0, 0),
  (34, 35, .iload_n 0, [], 0, 0),
  (35, 37, .bipush 57, [], 57, 0),
  (37, 40, .if_icmp .gt 5, [42], 0, 0),
  (40, 41, .iconst 2, [], 2, 0),
  (41, 42, .ireturn, [], 0, 0),
  (42, 43, .iload_n 0, [], 0, 0),
  (43, 45, .bipush 40, [], 40, 0),
  (45, 48, .if_icmp .lt 9, [54], 0, 0),
  (48, 49, .iload_n 0, [], 0, 0),
  (49, 51, .bipush 43, [], 43, 0),
  (51, 54, .if_icmp .le 27, [78], 0, 0),
  (54, 55, .iload_n 0, [], 0, 0),
  (55, 57, .bipush 45, [], 45, 0),
  (57, 60, .if_icmp .eq 21, [78], 0, 0),
  (60, 61, .iload_n 0, [], 0, 0),
  (61, 63, .bipush 47, [], 47, 0),
  (63, 66, .if_icmp .eq 15, [78], 0, 0),
  (66, 67, .iload_n 0, [], 0, 0),
  (67, 69, .bipush 59, [], 59, 0),
  (69, 72, .if_icmp .lt 13, [82], 0, 0),
  (72, 73, .iload_n 0, [], 0, 0),
  (73, 75, .bipush 61, [], 61, 0),
  (75, 78, .if_icmp .gt 7, [82], 0, 0),
  (78, 79, .iconst 1, [], 1, 0),
  (79, 82, .goto 4, [83], 0, 0),
  (82, 83, .iconst 0, [], 0, 0),
  (83, 84, .istore_n 1, [], 0, 0),
  (84, 85, .iload_n 1, [], 0, 0),
  (85, 88, .ifCond .eq 7, [92], 0, 0),
  (88, 89, .iload_n 0, [], 0, 0),
  (89, 92, .goto 4, [93], 0, 0),
  (92, 93, .iconst 4, [], 4, 0),
  (93, 94, .ireturn, [], 0, 0)]
def mX5_kindOf : xM := (26, 5, cX5_kindOf, 2, (some .int), pX5_kindOf)
set_option maxRecDepth 100000 in
theorem gX5_kindOf : xgd mX5_kindOf := ⟨by decide +kernel, xat_in (p := 3232) rfl, by decide +kernel, by decide +kernel, by decide, by decide +kernel, by decide +kernel⟩
set_option maxRecDepth 100000 in
def pX5_isWord : List xRow := [(0, 1, .aload_n 0, [], 0, 0),
  (1, 4, .getfield 53, [5, 8], 0, 0),
  (4, 5, .iconst 1, [], 1, 0),
  (5, 8, .if_icmp .ne 19, [24], 0, 0),
  (8, 9, .aload_n 0, [], 0, 0),
  (9, 12, .getfield 38, [5, 6], 0, 0),
  (12, 13, .aload_n 0, [], 0, 0),
  (13, 16, .getfield 60, [5, 7], 0, 0),
  (16, 17, .isub, [], 0, 0),
  (17, 18, .aload_n 1, [], 0, 0),
  (18, 21, .invokevirtual 70, [16, 0], 0, 0),
  (21, 24, .if_icmp .eq 5, [26], 0, 0),
  (24, 25, .iconst 0, [], 0, 0),
  (25, 26, .ireturn, [], 0, 0),
  (26, 27, .iconst 0, [], 0, 0),
  (27, 28, .istore_n 2, [], 0, 0),
  (28, 29, .iload_n 2, [], 0, 0),
  (29, 30, .aload_n 1, [], 0, 0),
  (30, 33, .invokevirtual 70, [16, 0], 0, 0),
  (33, 36, .if_icmp .ge 30, [63], 0, 0),
  (36, 37, .aload_n 0, [], 0, 0),
  (37, 40, .getfield 9, [5, 0], 0, 0),
  (40, 41, .aload_n 0, [], 0, 0),
  (41, 44, .getfield 60, [5, 7], 0, 0),
  (44, 45, .iload_n 2, [], 0, 0),
  (45, 46, .iadd, [], 0, 0),
  (46, 47, .baload, [], 0, 0),
  (47, 48, .aload_n 1, [], 0, 0),
  (48, 49, .iload_n 2, [], 0, 0),
  (49, 52, .invokevirtual 75, [17, 0], 0, 0),
  (52, 55, .if_icmp .eq 5, [57], 0, 0),
  (55, 56, .iconst 0, [], 0, 0),
  (56, 57, .ireturn, [], 0, 0),
  (57, 60, .iinc 2 1, [], 1, 0),
  (60, 63, .goto (-32), [28], 0, 0),
  (63, 64, .iconst 1, [], 1, 0),
  (64, 65, .ireturn, [], 0, 0)]
def mX5_isWord : xM := (27, 5, cX5_isWord, 3, (some .boolean), pX5_isWord)
set_option maxRecDepth 100000 in
theorem gX5_isWord : xgd mX5_isWord := ⟨by decide +kernel, xat_in (p := 4001) rfl, by decide +kernel, by decide +kernel, by decide, by decide +kernel, by decide +kernel⟩
set_option maxRecDepth 100000 in
def pX5_readLine : List xRow := [(0, 1, .aload_n 0, [], 0, 0),
  (1, 3, .ldc 79, [1], 0, 0),
  (3, 6, .invokevirtual 81, [0, 27], 0, 0),
  (6, 9, .ifCond .eq 8, [14], 0, 0),
  (9, 10, .aload_n 0, [], 0, 0),
  (10, 13, .invokevirtual 85, [0, 29], 0, 0),
  (13, 14, .ireturn, [], 0, 0),
  (14, 15, .aload_n 0, [], 0, 0),
  (15, 17, .ldc 88, [2], 0, 0),
  (17, 20, .invokevirtual 81, [0, 27], 0, 0),
  (20, 23, .ifCond .eq 8, [28], 0, 0),
  (23, 24, .aload_n 0, [], 0, 0),
  (24, 27, .invokevirtual 90, [0, 30], 0, 0),
  (27, 28, .ireturn, [], 0, 0),
  (28, 29, .aload_n 0, [], 0, 0),
  (29, 31, .ldc 93, [3], 0, 0),
  (31, 34, .invokevirtual 81, [0, 27], 0, 0),
  (34, 37, .ifCond .eq 8, [42], 0, 0),
  (37, 38, .aload_n 0, [], 0, 0),
  (38, 41, .invokevirtual 95, [0, 31], 0, 0),
  (41, 42, .ireturn, [], 0, 0),
  (42, 43, .aload_n 0, [], 0, 0),
  (43, 45, .ldc 98, [4], 0, 0),
  (45, 48, .invokevirtual 81, [0, 27], 0, 0),
  (48, 51, .ifCond .eq 15, [63], 0, 0),
  (51, 52, .aload_n 0, [], 0, 0),
  (52, 53, .aload_n 0, [], 0, 0),
  (53, 56, .getfield 18, [5, 2], 0, 0),
  (56, 59, .getfield 100, [2, 3], 0, 0),
  (59, 62, .invokevirtual 103, [0, 32], 0, 0),
  (62, 63, .ireturn, [], 0, 0),
  (63, 64, .aload_n 0, [], 0, 0),
  (64, 66, .ldc 107, [17], 0, 0),
  (66, 69, .invokevirtual 81, [0, 27], 0, 0),
  (69, 72, .ifCond .eq 15, [84], 0, 0),
  (72, 73, .aload_n 0, [], 0, 0),
  (73, 74, .aload_n 0, [], 0, 0),
  (74, 77, .getfield 18, [5, 2], 0, 0),
  (77, 80, .getfield 109, [2, 4], 0, 0),
  (80, 83, .invokevirtual 103, [0, 32], 0, 0),
  (83, 84, .ireturn, [], 0, 0),
  (84, 85, .aload_n 0, [], 0, 0),
  (85, 86, .iconst 1, [], 1, 0),
  (86, 89, .invokevirtual 111, [0, 24], 0, 0),
  (89, 90, .ireturn, [], 0, 0)]
def mX5_readLine : xM := (28, 5, cX5_readLine, 1, (some .boolean), pX5_readLine)
set_option maxRecDepth 100000 in
theorem gX5_readLine : xgd mX5_readLine := ⟨by decide +kernel, xat_in (p := 3236) rfl, by decide +kernel, by decide +kernel, by decide, by decide +kernel, by decide +kernel⟩
set_option maxRecDepth 100000 in
def pX5_readPerson : List xRow := [(0, 1, .aload_n 0, [], 0, 0),
  (1, 4, .getfield 18, [5, 2], 0, 0),
  (4, 7, .getfield 115, [2, 0], 0, 0),
  (7, 8, .astore_n 1, [], 0, 0),
  (8, 9, .aload_n 1, [], 0, 0),
  (9, 12, .getfield 119, [4, 0], 0, 0),
  (12, 14, .bipush 10, [], 10, 0),
  (14, 17, .if_icmp .lt 9, [23], 0, 0),
  (17, 18, .aload_n 0, [], 0, 0),
  (18, 19, .iconst 2, [], 2, 0),
  (19, 22, .invokevirtual 111, [0, 24], 0, 0),
  (22, 23, .ireturn, [], 0, 0),
  (23, 24, .aload_n 0, [], 0, 0),
  (24, 27, .invokevirtual 50, [0, 25], 0, 0),
  (27, 28, .aload_n 0, [], 0, 0),
  (28, 29, .iconst 0, [], 0, 0),
  (29, 31, .bipush 40, [], 40, 0),
  (31, 34, .invokevirtual 124, [0, 33], 0, 0),
  (34, 37, .ifCond .ne 5, [39], 0, 0),
  (37, 38, .iconst 0, [], 0, 0),
  (38, 39, .ireturn, [], 0, 0),
  (39, 40, .aload_n 0, [], 0, 0),
  (40, 43, .invokevirtual 128, [0, 35], 0, 0),
  (43, 44, .istore_n 2, [], 0, 0),
  (44, 45, .aload_n 0, [], 0, 0),
  (45, 46, .aload_n 1, [], 0, 0),
  (46, 49, .getfield 131, [4, 1], 0, 0),
  (49, 50, .aload_n 1, [], 0, 0),
  (50, 53, .getfield 135, [4, 2], 0, 0),
  (53, 54, .aload_n 1, [], 0, 0),
  (54, 57, .getfield 119, [4, 0], 0, 0),
  (57, 58, .iload_n 2, [], 0, 0),
  (58, 61, .invokevirtual 138, [0, 34], 0, 0),
  (61, 64, .ifCond .ne 5, [66], 0, 0),
  (64, 65, .iconst 0, [], 0, 0),
  (65, 66, .ireturn, [], 0, 0),
  (66, 67, .aload_n 0, [], 0, 0),
  (67, 70, .invokevirtual 128, [0, 35], 0, 0),
  (70, 71, .istore_n 3, [], 0, 0),
  (71, 72, .aload_n 0, [], 0, 0),
  (72, 73, .iconst 0, [], 0, 0),
  (73, 75, .bipush 9, [], 9, 0),
  (75, 78, .invokevirtual 124, [0, 33], 0, 0),
  (78, 81, .ifCond .ne 5, [83], 0, 0),
  (81, 82, .iconst 0, [], 0, 0),
  (82, 83, .ireturn, [], 0, 0),
  (83, 84, .aload_n 1, [], 0, 0),
  (84, 85, .iload_n 2, [], 0, 0),
  (85, 86, .iload_n 3, [], 0, 0),
  (86, 87, .aload_n 0, [], 0, 0),
  (87, 90, .invokevirtual 128, [0, 35], 0, 0),
  (90, 93, .invokevirtual 142, [0, 20], 0, 0),
  (93, 94, .aload_n 0, [], 0, 0),
  (94, 96, .bipush 59, [], 59, 0),
  (96, 99, .invokevirtual 146, [0, 36], 0, 0),
  (99, 100, .ireturn, [], 0, 0)]
def mX5_readPerson : xM := (29, 5, cX5_readPerson, 4, (some .boolean), pX5_readPerson)
set_option maxRecDepth 100000 in
theorem gX5_readPerson : xgd mX5_readPerson := ⟨by decide +kernel, xat_in (p := 4053) rfl, by decide +kernel, by decide +kernel, by decide, by decide +kernel, by decide +kernel⟩
set_option maxRecDepth 100000 in
def pX5_readNeedle : List xRow := [(0, 1, .aload_n 0, [], 0, 0),
  (1, 4, .getfield 18, [5, 2], 0, 0),
  (4, 7, .getfield 149, [2, 1], 0, 0),
  (7, 8, .astore_n 1, [], 0, 0),
  (8, 9, .aload_n 1, [], 0, 0),
  (9, 12, .getfield 153, [3, 0], 0, 0),
  (12, 14, .bipush 6, [], 6, 0),
  (14, 17, .if_icmp .lt 9, [23], 0, 0),
  (17, 18, .aload_n 0, [], 0, 0),
  (18, 19, .iconst 2, [], 2, 0),
  (19, 22, .invokevirtual 111, [0, 24], 0, 0),
  (22, 23, .ireturn, [], 0, 0),
  (23, 24, .aload_n 0, [], 0, 0),
  (24, 27, .invokevirtual 50, [0, 25], 0, 0),
  (27, 28, .aload_n 0, [], 0, 0),
  (28, 29, .iconst 0, [], 0, 0),
  (29, 31, .bipush 40, [], 40, 0),
  (31, 34, .invokevirtual 124, [0, 33], 0, 0),
  (34, 37, .ifCond .ne 5, [39], 0, 0),
  (37, 38, .iconst 0, [], 0, 0),
  (38, 39, .ireturn, [], 0, 0),
  (39, 40, .aload_n 0, [], 0, 0),
  (40, 43, .invokevirtual 128, [0, 35], 0, 0),
  (43, 44, .istore_n 2, [], 0, 0),
  (44, 45, .aload_n 0, [], 0, 0),
  (45, 46, .aload_n 1, [], 0, 0),
  (46, 49, .getfield 156, [3, 1], 0, 0),
  (49, 50, .aload_n 1, [], 0, 0),
  (50, 53, .getfield 157, [3, 2], 0, 0),
  (53, 54, .aload_n 1, [], 0, 0),
  (54, 57, .getfield 153, [3, 0], 0, 0),
  (57, 58, .iload_n 2, [], 0, 0),
  (58, 61, .invokevirtual 138, [0, 34], 0, 0),
  (61, 64, .ifCond .ne 5, [66], 0, 0),
  (64, 65, .iconst 0, [], 0, 0),
  (65, 66, .ireturn, [], 0, 0),
  (66, 67, .aload_n 0, [], 0, 0),
  (67, 70, .invokevirtual 128, [0, 35], 0, 0),
  (70, 71, .istore_n 3, [], 0, 0),
  (71, 72, .aload_n 0, [], 0, 0),
  (72, 73, .iconst 1, [], 1, 0),
  (73, 75, .bipush 60, [], 60, 0),
  (75, 78, .invokevirtual 124, [0, 33], 0, 0),
  (78, 81, .ifCond .ne 5, [83], 0, 0),
  (81, 82, .iconst 0, [], 0, 0),
  (82, 83, .ireturn, [], 0, 0),
  (83, 84, .aload_n 0, [], 0, 0),
  (84, 87, .invokevirtual 128, [0, 35], 0, 0),
  (87, 89, .istore 4, [], 0, 0),
  (89, 90, .aload_n 0, [], 0, 0),
  (90, 91, .iconst 0, [], 0, 0),
  (91, 93, .bipush 9, [], 9, 0),
  (93, 96, .invokevirtual 124, [0, 33], 0, 0),
  (96, 99, .ifCond .ne 5, [101], 0, 0),
  (99, 100, .iconst 0, [], 0, 0),
  (100, 101, .ireturn, [], 0, 0),
  (101, 102, .aload_n 1, [], 0, 0),
  (102, 103, .iload_n 2, [], 0, 0),
  (103, 104, .iload_n 3, [], 0, 0),
  (104, 106, .iload 4, [], 0, 0),
  (106, 107, .aload_n 0, [], 0, 0),
  (107, 110, .invokevirtual 128, [0, 35], 0, 0),
  (110, 113, .invokevirtual 158, [0, 15], 0, 0),
  (113, 114, .aload_n 0, [], 0, 0),
  (114, 116, .bipush 59, [], 59, 0),
  (116, 119, .invokevirtual 146, [0, 36], 0, 0),
  (119, 120, .ireturn, [], 0, 0)]
def mX5_readNeedle : xM := (30, 5, cX5_readNeedle, 5, (some .boolean), pX5_readNeedle)
set_option maxRecDepth 100000 in
theorem gX5_readNeedle : xgd mX5_readNeedle := ⟨by decide +kernel, xat_in (p := 4082) rfl, by decide +kernel, by decide +kernel, by decide, by decide +kernel, by decide +kernel⟩
set_option maxRecDepth 100000 in
def pX5_readSaying : List xRow := [(0, 1, .aload_n 0, [], 0, 0),
  (1, 4, .getfield 18, [5, 2], 0, 0),
  (4, 7, .getfield 161, [2, 2], 0, 0),
  (7, 8, .astore_n 1, [], 0, 0),
  (8, 9, .aload_n 1, [], 0, 0),
  (9, 12, .getfield 165, [7, 0], 0, 0),
  (12, 14, .bipush 16, [], 16, 0),
  (14, 17, .if_icmp .lt 9, [23], 0, 0),
  (17, 18, .aload_n 0, [], 0, 0),
  (18, 19, .iconst 2, [], 2, 0),
  (19, 22, .invokevirtual 111, [0, 24], 0, 0),
  (22, 23, .ireturn, [], 0, 0),
  (23, 24, .aload_n 0, [], 0, 0),
  (24, 27, .invokevirtual 50, [0, 25], 0, 0),
  (27, 28, .aload_n 0, [], 0, 0),
  (28, 29, .iconst 0, [], 0, 0),
  (29, 31, .bipush 99, [], 99, 0),
  (31, 34, .invokevirtual 124, [0, 33], 0, 0),
  (34, 37, .ifCond .ne 5, [39], 0, 0),
  (37, 38, .iconst 0, [], 0, 0),
  (38, 39, .ireturn, [], 0, 0),
  (39, 40, .aload_n 0, [], 0, 0),
  (40, 43, .invokevirtual 128, [0, 35], 0, 0),
  (43, 44, .istore_n 2, [], 0, 0),
  (44, 45, .aload_n 0, [], 0, 0),
  (45, 46, .iconst 0, [], 0, 0),
  (46, 49, .sipush 9999, [], 9999, 0),
  (49, 52, .invokevirtual 124, [0, 33], 0, 0),
  (52, 55, .ifCond .ne 5, [57], 0, 0),
  (55, 56, .iconst 0, [], 0, 0),
  (56, 57, .ireturn, [], 0, 0),
  (57, 58, .aload_n 0, [], 0, 0),
  (58, 61, .getfield 67, [5, 9], 0, 0),
  (61, 62, .aload_n 0, [], 0, 0),
  (62, 65, .getfield 18, [5, 2], 0, 0),
  (65, 68, .getfield 115, [2, 0], 0, 0),
  (68, 71, .getfield 119, [4, 0], 0, 0),
  (71, 74, .if_icmp .lt 9, [80], 0, 0),
  (74, 75, .aload_n 0, [], 0, 0),
  (75, 76, .iconst 3, [], 3, 0),
  (76, 79, .invokevirtual 111, [0, 24], 0, 0),
  (79, 80, .ireturn, [], 0, 0),
  (80, 81, .aload_n 0, [], 0, 0),
  (81, 84, .invokevirtual 128, [0, 35], 0, 0),
  (84, 85, .istore_n 3, [], 0, 0),
  (85, 86, .aload_n 0, [], 0, 0),
  (86, 87, .iconst 0, [], 0, 0),
  (87, 89, .bipush 9, [], 9, 0),
  (89, 92, .invokevirtual 124, [0, 33], 0, 0),
  (92, 95, .ifCond .ne 5, [97], 0, 0),
  (95, 96, .iconst 0, [], 0, 0),
  (96, 97, .ireturn, [], 0, 0),
  (97, 98, .aload_n 1, [], 0, 0),
  (98, 99, .iload_n 2, [], 0, 0),
  (99, 100, .iload_n 3, [], 0, 0),
  (100, 101, .aload_n 0, [], 0, 0),
  (101, 104, .invokevirtual 128, [0, 35], 0, 0),
  (104, 107, .invokevirtual 168, [0, 52], 0, 0),
  (107, 108, .aload_n 0, [], 0, 0),
  (108, 110, .bipush 59, [], 59, 0),
  (110, 113, .invokevirtual 146, [0, 36], 0, 0),
  (113, 114, .ireturn, [], 0, 0)]
def mX5_readSaying : xM := (31, 5, cX5_readSaying, 4, (some .boolean), pX5_readSaying)
set_option maxRecDepth 100000 in
theorem gX5_readSaying : xgd mX5_readSaying := ⟨by decide +kernel, xat_in (p := 4091) rfl, by decide +kernel, by decide +kernel, by decide, by decide +kernel, by decide +kernel⟩
set_option maxRecDepth 100000 in
def pX5_readRule : List xRow := [(0, 1, .aload_n 1, [], 0, 0),
  (1, 4, .getfield 169, [6, 0], 0, 0),
  (4, 7, .ifCond .le 9, [13], 0, 0),
  (7, 8, .aload_n 0, [], 0, 0),
  (8, 9, .iconst 5, [], 5, 0),
  (9, 12, .invokevirtual 111, [0, 24], 0, 0),
  (12, 13, .ireturn, [], 0, 0),
  (13, 14, .aload_n 0, [], 0, 0),
  (14, 17, .invokevirtual 50, [0, 25], 0, 0),
  (17, 18, .aload_n 0, [], 0, 0),
  (18, 19, .aload_n 1, [], 0, 0),
  (19, 20, .iconst 0, [], 0, 0),
  (20, 23, .invokevirtual 172, [0, 37], 0, 0),
  (23, 26, .ifCond .eq 16, [39], 0, 0),
  (26, 27, .aload_n 0, [], 0, 0),
  (27, 29, .bipush 59, [], 59, 0),
  (29, 32, .invokevirtual 146, [0, 36], 0, 0),
  (32, 35, .ifCond .eq 7, [39], 0, 0),
  (35, 36, .iconst 1, [], 1, 0),
  (36, 39, .goto 4, [40], 0, 0),
  (39, 40, .iconst 0, [], 0, 0),
  (40, 41, .ireturn, [], 0, 0)]
def mX5_readRule : xM := (32, 5, cX5_readRule, 2, (some .boolean), pX5_readRule)
set_option maxRecDepth 100000 in
theorem gX5_readRule : xgd mX5_readRule := ⟨by decide +kernel, xat_in (p := 4097) rfl, by decide +kernel, by decide +kernel, by decide, by decide +kernel, by decide +kernel⟩
set_option maxRecDepth 100000 in
def pX5_isNumber : List xRow := [(0, 1, .aload_n 0, [], 0, 0),
  (1, 4, .getfield 53, [5, 8], 0, 0),
  (4, 5, .iconst 2, [], 2, 0),
  (5, 8, .if_icmp .eq 9, [14], 0, 0),
  (8, 9, .aload_n 0, [], 0, 0),
  (9, 10, .iconst 1, [], 1, 0),
  (10, 13, .invokevirtual 111, [0, 24], 0, 0),
  (13, 14, .ireturn, [], 0, 0),
  (14, 15, .aload_n 0, [], 0, 0),
  (15, 18, .getfield 38, [5, 6], 0, 0),
  (18, 19, .aload_n 0, [], 0, 0),
  (19, 22, .getfield 60, [5, 7], 0, 0),
  (22, 23, .isub, [], 0, 0),
  (23, 24, .iconst 4, [], 4, 0),
  (24, 27, .if_icmp .gt 19, [43], 0, 0),
  (27, 28, .aload_n 0, [], 0, 0),
  (28, 31, .getfield 67, [5, 9], 0, 0),
  (31, 32, .iload_n 1, [], 0, 0),
  (32, 35, .if_icmp .lt 11, [43], 0, 0),
  (35, 36, .aload_n 0, [], 0, 0),
  (36, 39, .getfield 67, [5, 9], 0, 0),
  (39, 40, .iload_n 2, [], 0, 0),
  (40, 43, .if_icmp .le 9, [49], 0, 0),
  (43, 44, .aload_n 0, [], 0, 0),
  (44, 45, .iconst 2, [], 2, 0),
  (45, 48, .invokevirtual 111, [0, 24], 0, 0),
  (48, 49, .ireturn, [], 0, 0),
  (49, 50, .iconst 1, [], 1, 0),
  (50, 51, .ireturn, [], 0, 0)]
def mX5_isNumber : xM := (33, 5, cX5_isNumber, 3, (some .boolean), pX5_isNumber)
set_option maxRecDepth 100000 in
theorem gX5_isNumber : xgd mX5_isNumber := ⟨by decide +kernel, xat_in (p := 4061) rfl, by decide +kernel, by decide +kernel, by decide, by decide +kernel, by decide +kernel⟩
set_option maxRecDepth 100000 in
def pX5_isFreePlace : List xRow := [(0, 1, .aload_n 0, [], 0, 0),
  (1, 2, .iconst 0, [], 0, 0),
  (2, 4, .bipush 40, [], 40, 0),
  (4, 7, .invokevirtual 124, [0, 33], 0, 0),
  (7, 10, .ifCond .ne 5, [12], 0, 0),
  (10, 11, .iconst 0, [], 0, 0),
  (11, 12, .ireturn, [], 0, 0),
  (12, 13, .iconst 0, [], 0, 0),
  (13, 15, .istore 5, [], 0, 0),
  (15, 17, .iload 5, [], 0, 0),
  (17, 18, .iload_n 3, [], 0, 0),
  (18, 21, .if_icmp .ge 49, [67], 0, 0),
  (21, 23, .iload 5, [], 0, 0),
  (23, 24, .aload_n 1, [], 0, 0),
  (24, 25, .arraylength, [], 0, 0),
  (25, 28, .if_icmp .ge 42, [67], 0, 0),
  (28, 30, .iload 5, [], 0, 0),
  (30, 31, .aload_n 2, [], 0, 0),
  (31, 32, .arraylength, [], 0, 0),
  (32, 35, .if_icmp .ge 35, [67], 0, 0),
  (35, 36, .aload_n 1, [], 0, 0),
  (36, 38, .iload 5, [], 0, 0),
  (38, 39, .iaload, [], 0, 0),
  (39, 41, .iload 4, [], 0, 0),
  (41, 44, .if_icmp .ne 20, [61], 0, 0),
  (44, 45, .aload_n 2, [], 0, 0),
  (45, 47, .iload 5, [], 0, 0),
  (47, 48, .iaload, [], 0, 0),
  (48, 49, .aload_n 0, [], 0, 0),
  (49, 52, .getfield 67, [5, 9], 0, 0),
  (52, 55, .if_icmp .ne 9, [61], 0, 0),
  (55, 56, .aload_n 0, [], 0, 0),
  (56, 57, .iconst 4, [], 4, 0),
  (57, 60, .invokevirtual 111, [0, 24], 0, 0),
  (60, 61, .ireturn, [], 0, 0),
  (61, 64, .iinc 5 1, [], 1, 0),
  (64, 67, .goto (-49), [15], 0, 0),
  (67, 68, .iconst 1, [], 1, 0),
  (68, 69, .ireturn, [], 0, 0)]
def mX5_isFreePlace : xM := (34, 5, cX5_isFreePlace, 6, (some .boolean), pX5_isFreePlace)
set_option maxRecDepth 100000 in
theorem gX5_isFreePlace : xgd mX5_isFreePlace := ⟨by decide +kernel, xat_in (p := 4069) rfl, by decide +kernel, by decide +kernel, by decide, by decide +kernel, by decide +kernel⟩
set_option maxRecDepth 100000 in
def pX5_taken : List xRow := [(0, 1, .aload_n 0, [], 0, 0),
  (1, 4, .getfield 67, [5, 9], 0, 0),
  (4, 5, .istore_n 1, [], 0, 0),
  (5, 6, .aload_n 0, [], 0, 0),
  (6, 9, .invokevirtual 50, [0, 25], 0, 0),
  (9, 10, .iload_n 1, [], 0, 0),
  (10, 11, .ireturn, [], 0, 0)]
def mX5_taken : xM := (35, 5, cX5_taken, 2, (some .int), pX5_taken)
set_option maxRecDepth 100000 in
theorem gX5_taken : xgd mX5_taken := ⟨by decide +kernel, xat_in (p := 4065) rfl, by decide +kernel, by decide +kernel, by decide, by decide +kernel, by decide +kernel⟩
set_option maxRecDepth 100000 in
def pX5_readSign : List xRow := [(0, 1, .aload_n 0, [], 0, 0),
  (1, 4, .getfield 53, [5, 8], 0, 0),
  (4, 5, .iload_n 1, [], 0, 0),
  (5, 8, .if_icmp .eq 9, [14], 0, 0),
  (8, 9, .aload_n 0, [], 0, 0),
  (9, 10, .iconst 1, [], 1, 0),
  (10, 13, .invokevirtual 111, [0, 24], 0, 0),
  (13, 14, .ireturn, [], 0, 0),
  (14, 15, .aload_n 0, [], 0, 0),
  (15, 18, .invokevirtual 50, [0, 25], 0, 0),
  (18, 19, .iconst 1, [], 1, 0),
  (19, 20, .ireturn, [], 0, 0)]
def mX5_readSign : xM := (36, 5, cX5_readSign, 2, (some .boolean), pX5_readSign)
set_option maxRecDepth 100000 in
theorem gX5_readSign : xgd mX5_readSign := ⟨by decide +kernel, xat_in (p := 4077) rfl, by decide +kernel, by decide +kernel, by decide, by decide +kernel, by decide +kernel⟩
set_option maxRecDepth 100000 in
def pX5_readExpr : List xRow := [(0, 1, .iload_n 2, [], 0, 0),
  (1, 3, .bipush 6, [], 6, 0),
  (3, 6, .if_icmp .lt 38, [41], 0, 0),
  (6, 7, .aload_n 0, [], 0, 0),
  (7, 8, .aload_n 0, [], 0, 0),
  (8, 11, .getfield 53, [5, 8], 0, 0),
  (11, 12, .iconst 2, [], 2, 0),
  (12, 15, .if_icmp .eq 20, [32], 0, 0),
  (15, 16, .aload_n 0, [], 0, 0),
  (16, 19, .getfield 53, [5, 8], 0, 0),
  (19, 20, .iconst 1, [], 1, 0),
  (20, 23, .if_icmp .eq 12, [32], 0, 0),
  (23, 24, .aload_n 0, [], 0, 0),
  (24, 27, .getfield 53, [5, 8], 0, 0),
  (27, 29, .bipush 40, [], 40, 0),
  (29, 32, .if_icmp .ne 7, [36], 0, 0),
  (32, 33, .iconst 2, [], 2, 0),
  (33, 36, .goto 4, [37], 0, 0),
  (36, 37, .iconst 1, [], 1, 0),
  (37, 40, .invokevirtual 111, [0, 24], 0, 0),
  (40, 41, .ireturn, [], 0, 0),
  (41, 42, .aload_n 0, [], 0, 0),
  (42, 43, .aload_n 1, [], 0, 0),
  (43, 44, .iload_n 2, [], 0, 0),
  (44, 47, .invokevirtual 176, [0, 38], 0, 0),
  (47, 48, .istore_n 3, [], 0, 0),
  (48, 49, .iconst 0, [], 0, 0),
  (49, 51, .istore 4, [], 0, 0),
  (51, 53, .iload 4, [], 0, 0),
  (53, 56, .sipush 700, [], 700, 0),
  (56, 59, .if_icmp .ge 39, [95], 0, 0),
  (59, 60, .iload_n 3, [], 0, 0),
  (60, 63, .ifCond .eq 35, [95], 0, 0),
  (63, 64, .aload_n 0, [], 0, 0),
  (64, 66, .ldc 179, [16], 0, 0),
  (66, 69, .invokevirtual 81, [0, 27], 0, 0),
  (69, 72, .ifCond .eq 26, [95], 0, 0),
  (72, 73, .aload_n 0, [], 0, 0),
  (73, 76, .invokevirtual 50, [0, 25], 0, 0),
  (76, 77, .aload_n 0, [], 0, 0),
  (77, 78, .aload_n 1, [], 0, 0),
  (78, 79, .iload_n 2, [], 0, 0),
  (79, 82, .invokevirtual 176, [0, 38], 0, 0),
  (82, 83, .istore_n 3, [], 0, 0),
  (83, 84, .aload_n 1, [], 0, 0),
  (84, 86, .bipush (-11), [], -11, 0),
  (86, 89, .invokevirtual 181, [0, 47], 0, 0),
  (89, 92, .iinc 4 1, [], 1, 0),
  (92, 95, .goto (-41), [51], 0, 0),
  (95, 96, .iload_n 3, [], 0, 0),
  (96, 97, .ireturn, [], 0, 0)]
def mX5_readExpr : xM := (37, 5, cX5_readExpr, 5, (some .boolean), pX5_readExpr)
set_option maxRecDepth 100000 in
theorem gX5_readExpr : xgd mX5_readExpr := ⟨by decide +kernel, xat_in (p := 4101) rfl, by decide +kernel, by decide +kernel, by decide, by decide +kernel, by decide +kernel⟩
set_option maxRecDepth 100000 in
def pX5_readAnd : List xRow := [(0, 1, .aload_n 0, [], 0, 0),
  (1, 2, .aload_n 1, [], 0, 0),
  (2, 3, .iload_n 2, [], 0, 0),
  (3, 6, .invokevirtual 184, [0, 39], 0, 0),
  (6, 7, .istore_n 3, [], 0, 0),
  (7, 8, .iconst 0, [], 0, 0),
  (8, 10, .istore 4, [], 0, 0),
  (10, 12, .iload 4, [], 0, 0),
  (12, 15, .sipush 700, [], 700, 0),
  (15, 18, .if_icmp .ge 39, [54], 0, 0),
  (18, 19, .iload_n 3, [], 0, 0),
  (19, 22, .ifCond .eq 35, [54], 0, 0),
  (22, 23, .aload_n 0, [], 0, 0),
  (23, 25, .ldc 187, [15], 0, 0),
  (25, 28, .invokevirtual 81, [0, 27], 0, 0),
  (28, 31, .ifCond .eq 26, [54], 0, 0),
  (31, 32, .aload_n 0, [], 0, 0),
  (32, 35, .invokevirtual 50, [0, 25], 0, 0),
  (35, 36, .aload_n 0, [], 0, 0),
  (36, 37, .aload_n 1, [], 0, 0),
  (37, 38, .iload_n 2, [], 0, 0),
  (38, 41, .invokevirtual 184, [0, 39], 0, 0),
  (41, 42, .istore_n 3, [], 0, 0),
  (42, 43, .aload_n 1, [], 0, 0),
  (43, 45, .bipush (-12), [], -12, 0),
  (45, 48, .invokevirtual 181, [0, 47], 0, 0),
  (48, 51, .iinc 4 1, [], 1, 0),
  (51, 54, .goto (-41), [10], 0, 0),
  (54, 55, .iload_n 3, [], 0, 0),
  (55, 56, .ireturn, [], 0, 0)]
def mX5_readAnd : xM := (38, 5, cX5_readAnd, 5, (some .boolean), pX5_readAnd)
set_option maxRecDepth 100000 in
theorem gX5_readAnd : xgd mX5_readAnd := ⟨by decide +kernel, xat_in (p := 4105) rfl, by decide +kernel, by decide +kernel, by decide, by decide +kernel, by decide +kernel⟩
set_option maxRecDepth 100000 in
def pX5_readNot : List xRow := [(0, 1, .iconst 0, [], 0, 0),
  (1, 2, .istore_n 3, [], 0, 0),
  (2, 3, .iconst 0, [], 0, 0),
  (3, 5, .istore 4, [], 0, 0),
  (5, 7, .iload 4, [], 0, 0),
  (7, 10, .sipush 700, [], 700, 0),
  (10, 13, .if_icmp .ge 37, [47], 0, 0),
  (13, 14, .aload_n 0, [], 0, 0),
  (14, 16, .ldc 189, [5], 0, 0),
  (16, 19, .invokevirtual 81, [0, 27], 0, 0),
  (19, 22, .ifCond .eq 28, [47], 0, 0),
  (22, 23, .iload_n 3, [], 0, 0),
  (23, 25, .bipush 6, [], 6, 0),
  (25, 28, .if_icmp .lt 9, [34], 0, 0),
  (28, 29, .aload_n 0, [], 0, 0),
  (29, 30, .iconst 2, [], 2, 0),
  (30, 33, .invokevirtual 111, [0, 24], 0, 0),
  (33, 34, .ireturn, [], 0, 0),
  (34, 37, .iinc 3 1, [], 1, 0),
  (37, 38, .aload_n 0, [], 0, 0),
  (38, 41, .invokevirtual 50, [0, 25], 0, 0),
  (41, 44, .iinc 4 1, [], 1, 0),
  (44, 47, .goto (-39), [5], 0, 0),
  (47, 48, .aload_n 0, [], 0, 0),
  (48, 49, .aload_n 1, [], 0, 0),
  (49, 50, .iload_n 2, [], 0, 0),
  (50, 53, .invokevirtual 191, [0, 40], 0, 0),
  (53, 55, .istore 4, [], 0, 0),
  (55, 56, .iconst 0, [], 0, 0),
  (56, 58, .istore 5, [], 0, 0),
  (58, 60, .iload 5, [], 0, 0),
  (60, 61, .iload_n 3, [], 0, 0),
  (61, 64, .if_icmp .ge 15, [76], 0, 0),
  (64, 65, .aload_n 1, [], 0, 0),
  (65, 67, .bipush (-19), [], -19, 0),
  (67, 70, .invokevirtual 181, [0, 47], 0, 0),
  (70, 73, .iinc 5 1, [], 1, 0),
  (73, 76, .goto (-15), [58], 0, 0),
  (76, 78, .iload 4, [], 0, 0),
  (78, 79, .ireturn, [], 0, 0)]
def mX5_readNot : xM := (39, 5, cX5_readNot, 6, (some .boolean), pX5_readNot)
set_option maxRecDepth 100000 in
theorem gX5_readNot : xgd mX5_readNot := ⟨by decide +kernel, xat_in (p := 4109) rfl, by decide +kernel, by decide +kernel, by decide, by decide +kernel, by decide +kernel⟩
set_option maxRecDepth 100000 in
def pX5_readTest : List xRow := [(0, 1, .aload_n 0, [], 0, 0),
  (1, 2, .aload_n 1, [], 0, 0),
  (2, 3, .iload_n 2, [], 0, 0),
  (3, 6, .invokevirtual 194, [0, 41], 0, 0),
  (6, 9, .ifCond .ne 5, [11], 0, 0),
  (9, 10, .iconst 0, [], 0, 0),
  (10, 11, .ireturn, [], 0, 0),
  (11, 12, .aload_n 0, [], 0, 0),
  (12, 15, .getfield 53, [5, 8], 0, 0),
  (15, 17, .bipush 60, [], 60, 0),
  (17, 20, .if_icmp .eq 14, [31], 0, 0),
  (20, 21, .aload_n 0, [], 0, 0),
  (21, 24, .getfield 53, [5, 8], 0, 0),
  (24, 26, .bipush 61, [], 61, 0),
  (26, 29, .if_icmp .eq 5, [31], 0, 0),
  (29, 30, .iconst 1, [], 1, 0),
  (30, 31, .ireturn, [], 0, 0),
  (31, 32, .aload_n 0, [], 0, 0),
  (32, 35, .getfield 53, [5, 8], 0, 0),
  (35, 37, .bipush 60, [], 60, 0),
  (37, 40, .if_icmp .ne 8, [45], 0, 0),
  (40, 42, .bipush (-13), [], -13, 0),
  (42, 45, .goto 5, [47], 0, 0),
  (45, 47, .bipush (-14), [], -14, 0),
  (47, 48, .istore_n 3, [], 0, 0),
  (48, 49, .aload_n 0, [], 0, 0),
  (49, 52, .invokevirtual 50, [0, 25], 0, 0),
  (52, 53, .aload_n 0, [], 0, 0),
  (53, 54, .aload_n 1, [], 0, 0),
  (54, 55, .iload_n 2, [], 0, 0),
  (55, 58, .invokevirtual 194, [0, 41], 0, 0),
  (58, 60, .istore 4, [], 0, 0),
  (60, 61, .aload_n 1, [], 0, 0),
  (61, 62, .iload_n 3, [], 0, 0),
  (62, 65, .invokevirtual 181, [0, 47], 0, 0),
  (65, 67, .iload 4, [], 0, 0),
  (67, 68, .ireturn, [], 0, 0)]
def mX5_readTest : xM := (40, 5, cX5_readTest, 5, (some .boolean), pX5_readTest)
set_option maxRecDepth 100000 in
theorem gX5_readTest : xgd mX5_readTest := ⟨by decide +kernel, xat_in (p := 4114) rfl, by decide +kernel, by decide +kernel, by decide, by decide +kernel, by decide +kernel⟩
set_option maxRecDepth 100000 in
def pX5_readSum : List xRow := [(0, 1, .aload_n 0, [], 0, 0),
  (1, 2, .aload_n 1, [], 0, 0),
  (2, 3, .iload_n 2, [], 0, 0),
  (3, 6, .invokevirtual 197, [0, 42], 0, 0),
  (6, 7, .istore_n 3, [], 0, 0),
  (7, 8, .iconst 0, [], 0, 0),
  (8, 10, .istore 4, [], 0, 0),
  (10, 12, .iload 4, [], 0, 0),
  (12, 15, .sipush 700, [], 700, 0),
  (15, 18, .if_icmp .ge 66, [81], 0, 0),
  (18, 19, .iload_n 3, [], 0, 0),
  (19, 22, .ifCond .eq 62, [81], 0, 0),
  (22, 23, .aload_n 0, [], 0, 0),
  (23, 26, .getfield 53, [5, 8], 0, 0),
  (26, 28, .bipush 43, [], 43, 0),
  (28, 31, .if_icmp .eq 12, [40], 0, 0),
  (31, 32, .aload_n 0, [], 0, 0),
  (32, 35, .getfield 53, [5, 8], 0, 0),
  (35, 37, .bipush 45, [], 45, 0),
  (37, 40, .if_icmp .ne 44, [81], 0, 0),
  (40, 41, .aload_n 0, [], 0, 0),
  (41, 44, .getfield 53, [5, 8], 0, 0),
  (44, 46, .bipush 43, [], 43, 0),
  (46, 49, .if_icmp .ne 8, [54], 0, 0),
  (49, 51, .bipush (-15), [], -15, 0),
  (51, 54, .goto 5, [56], 0, 0),
  (54, 56, .bipush (-16), [], -16, 0),
  (56, 58, .istore 5, [], 0, 0),
  (58, 59, .aload_n 0, [], 0, 0),
  (59, 62, .invokevirtual 50, [0, 25], 0, 0),
  (62, 63, .aload_n 0, [], 0, 0),
  (63, 64, .aload_n 1, [], 0, 0),
  (64, 65, .iload_n 2, [], 0, 0),
  (65, 68, .invokevirtual 197, [0, 42], 0, 0),
  (68, 69, .istore_n 3, [], 0, 0),
  (69, 70, .aload_n 1, [], 0, 0),
  (70, 72, .iload 5, [], 0, 0),
  (72, 75, .invokevirtual 181, [0, 47], 0, 0),
  (75, 78, .iinc 4 1, [], 1, 0),
  (78, 81, .goto (-68), [10], 0, 0),
  (81, 82, .iload_n 3, [], 0, 0),
  (82, 83, .ireturn, [], 0, 0)]
def mX5_readSum : xM := (41, 5, cX5_readSum, 6, (some .boolean), pX5_readSum)
set_option maxRecDepth 100000 in
theorem gX5_readSum : xgd mX5_readSum := ⟨by decide +kernel, xat_in (p := 4118) rfl, by decide +kernel, by decide +kernel, by decide, by decide +kernel, by decide +kernel⟩
set_option maxRecDepth 100000 in
def pX5_readProduct : List xRow := [(0, 1, .aload_n 0, [], 0, 0),
  (1, 2, .aload_n 1, [], 0, 0),
  (2, 3, .iload_n 2, [], 0, 0),
  (3, 6, .invokevirtual 200, [0, 43], 0, 0),
  (6, 7, .istore_n 3, [], 0, 0),
  (7, 8, .iconst 0, [], 0, 0),
  (8, 10, .istore 4, [], 0, 0),
  (10, 12, .iload 4, [], 0, 0),
  (12, 15, .sipush 700, [], 700, 0),
  (15, 18, .if_icmp .ge 66, [81], 0, 0),
  (18, 19, .iload_n 3, [], 0, 0),
  (19, 22, .ifCond .eq 62, [81], 0, 0),
  (22, 23, .aload_n 0, [], 0, 0),
  (23, 26, .getfield 53, [5, 8], 0, 0),
  (26, 28, .bipush 42, [], 42, 0),
  (28, 31, .if_icmp .eq 12, [40], 0, 0),
  (31, 32, .aload_n 0, [], 0, 0),
  (32, 35, .getfield 53, [5, 8], 0, 0),
  (35, 37, .bipush 47, [], 47, 0),
  (37, 40, .if_icmp .ne 44, [81], 0, 0),
  (40, 41, .aload_n 0, [], 0, 0),
  (41, 44, .getfield 53, [5, 8], 0, 0),
  (44, 46, .bipush 42, [], 42, 0),
  (46, 49, .if_icmp .ne 8, [54], 0, 0),
  (49, 51, .bipush (-17), [], -17, 0),
  (51, 54, .goto 5, [56], 0, 0),
  (54, 56, .bipush (-18), [], -18, 0),
  (56, 58, .istore 5, [], 0, 0),
  (58, 59, .aload_n 0, [], 0, 0),
  (59, 62, .invokevirtual 50, [0, 25], 0, 0),
  (62, 63, .aload_n 0, [], 0, 0),
  (63, 64, .aload_n 1, [], 0, 0),
  (64, 65, .iload_n 2, [], 0, 0),
  (65, 68, .invokevirtual 200, [0, 43], 0, 0),
  (68, 69, .istore_n 3, [], 0, 0),
  (69, 70, .aload_n 1, [], 0, 0),
  (70, 72, .iload 5, [], 0, 0),
  (72, 75, .invokevirtual 181, [0, 47], 0, 0),
  (75, 78, .iinc 4 1, [], 1, 0),
  (78, 81, .goto (-68), [10], 0, 0),
  (81, 82, .iload_n 3, [], 0, 0),
  (82, 83, .ireturn, [], 0, 0)]
def mX5_readProduct : xM := (42, 5, cX5_readProduct, 6, (some .boolean), pX5_readProduct)
set_option maxRecDepth 100000 in
theorem gX5_readProduct : xgd mX5_readProduct := ⟨by decide +kernel, xat_in (p := 4122) rfl, by decide +kernel, by decide +kernel, by decide, by decide +kernel, by decide +kernel⟩
set_option maxRecDepth 100000 in
def pX5_readPart : List xRow := [(0, 1, .aload_n 0, [], 0, 0),
  (1, 4, .getfield 53, [5, 8], 0, 0),
  (4, 6, .bipush 40, [], 40, 0),
  (6, 9, .if_icmp .ne 33, [39], 0, 0),
  (9, 10, .aload_n 0, [], 0, 0),
  (10, 13, .invokevirtual 50, [0, 25], 0, 0),
  (13, 14, .aload_n 0, [], 0, 0),
  (14, 15, .aload_n 1, [], 0, 0),
  (15, 16, .iload_n 2, [], 0, 0),
  (16, 17, .iconst 1, [], 1, 0),
  (17, 18, .iadd, [], 0, 0),
  (18, 21, .invokevirtual 172, [0, 37], 0, 0),
  (21, 24, .ifCond .eq 16, [37], 0, 0),
  (24, 25, .aload_n 0, [], 0, 0),
  (25, 27, .bipush 41, [], 41, 0),
  (27, 30, .invokevirtual 146, [0, 36], 0, 0),
  (30, 33, .ifCond .eq 7, [37], 0, 0),
  (33, 34, .iconst 1, [], 1, 0),
  (34, 37, .goto 4, [38], 0, 0),
  (37, 38, .iconst 0, [], 0, 0),
  (38, 39, .ireturn, [], 0, 0),
  (39, 40, .aload_n 0, [], 0, 0),
  (40, 43, .getfield 53, [5, 8], 0, 0),
  (43, 44, .iconst 1, [], 1, 0),
  (44, 47, .if_icmp .ne 50, [94], 0, 0),
  (47, 48, .aload_n 1, [], 0, 0),
  (48, 49, .aload_n 0, [], 0, 0),
  (49, 52, .getfield 18, [5, 2], 0, 0),
  (52, 55, .getfield 100, [2, 3], 0, 0),
  (55, 58, .if_acmp .ne 10, [65], 0, 0),
  (58, 59, .aload_n 0, [], 0, 0),
  (59, 62, .invokevirtual 203, [0, 44], 0, 0),
  (62, 65, .goto 7, [69], 0, 0),
  (65, 66, .aload_n 0, [], 0, 0),
  (66, 69, .invokevirtual 206, [0, 45], 0, 0),
  (69, 70, .istore_n 3, [], 0, 0),
  (70, 71, .iload_n 3, [], 0, 0),
  (71, 72, .iconst (-1), [], -1, 0),
  (72, 75, .if_icmp .ne 9, [81], 0, 0),
  (75, 76, .aload_n 0, [], 0, 0),
  (76, 77, .iconst 3, [], 3, 0),
  (77, 80, .invokevirtual 111, [0, 24], 0, 0),
  (80, 81, .ireturn, [], 0, 0),
  (81, 82, .aload_n 1, [], 0, 0),
  (82, 83, .iconst (-1), [], -1, 0),
  (83, 84, .iload_n 3, [], 0, 0),
  (84, 85, .isub, [], 0, 0),
  (85, 88, .invokevirtual 181, [0, 47], 0, 0),
  (88, 89, .aload_n 0, [], 0, 0),
  (89, 92, .invokevirtual 50, [0, 25], 0, 0),
  (92, 93, .iconst 1, [], 1, 0),
  (93, 94, .ireturn, [], 0, 0),
  (94, 95, .aload_n 0, [], 0, 0),
  (95, 96, .iconst 0, [], 0, 0),
  (96, 99, .sipush 9999, [], 9999, 0),
  (99, 102, .invokevirtual 124, [0, 33], 0, 0),
  (102, 105, .ifCond .ne 5, [107], 0, 0),
  (105, 106, .iconst 0, [], 0, 0),
  (106, 107, .ireturn, [], 0, 0),
  (107, 108, .aload_n 1, [], 0, 0),
  (108, 109, .aload_n 0, [], 0, 0),
  (109, 112, .invokevirtual 128, [0, 35], 0, 0),
  (112, 115, .invokevirtual 181, [0, 47], 0, 0),
  (115, 116, .iconst 1, [], 1, 0),
  (116, 117, .ireturn, [], 0, 0)]
def mX5_readPart : xM := (43, 5, cX5_readPart, 4, (some .boolean), pX5_readPart)
set_option maxRecDepth 100000 in
theorem gX5_readPart : xgd mX5_readPart := ⟨by decide +kernel, xat_in (p := 4126) rfl, by decide +kernel, by decide +kernel, by decide, by decide +kernel, by decide +kernel⟩
set_option maxRecDepth 100000 in
def pX5_turnsValue : List xRow := [(0, 1, .aload_n 0, [], 0, 0),
  (1, 3, .ldc 209, [6], 0, 0),
  (3, 6, .invokevirtual 81, [0, 27], 0, 0),
  (6, 9, .ifCond .eq 7, [13], 0, 0),
  (9, 10, .iconst 0, [], 0, 0),
  (10, 13, .goto 69, [79], 0, 0),
  (13, 14, .aload_n 0, [], 0, 0),
  (14, 16, .ldc 213, [7], 0, 0),
  (16, 19, .invokevirtual 81, [0, 27], 0, 0),
  (19, 22, .ifCond .eq 7, [26], 0, 0),
  (22, 23, .iconst 1, [], 1, 0),
  (23, 26, .goto 56, [79], 0, 0),
  (26, 27, .aload_n 0, [], 0, 0),
  (27, 29, .ldc 215, [8], 0, 0),
  (29, 32, .invokevirtual 81, [0, 27], 0, 0),
  (32, 35, .ifCond .eq 7, [39], 0, 0),
  (35, 36, .iconst 2, [], 2, 0),
  (36, 39, .goto 43, [79], 0, 0),
  (39, 40, .aload_n 0, [], 0, 0),
  (40, 42, .ldc 217, [9], 0, 0),
  (42, 45, .invokevirtual 81, [0, 27], 0, 0),
  (45, 48, .ifCond .eq 7, [52], 0, 0),
  (48, 49, .iconst 3, [], 3, 0),
  (49, 52, .goto 30, [79], 0, 0),
  (52, 53, .aload_n 0, [], 0, 0),
  (53, 55, .ldc 219, [10], 0, 0),
  (55, 58, .invokevirtual 81, [0, 27], 0, 0),
  (58, 61, .ifCond .eq 7, [65], 0, 0),
  (61, 62, .iconst 4, [], 4, 0),
  (62, 65, .goto 17, [79], 0, 0),
  (65, 66, .aload_n 0, [], 0, 0),
  (66, 68, .ldc 221, [11], 0, 0),
  (68, 71, .invokevirtual 81, [0, 27], 0, 0),
  (71, 74, .ifCond .eq 7, [78], 0, 0),
  (74, 75, .iconst 5, [], 5, 0),
  (75, 78, .goto 4, [79], 0, 0),
  (78, 79, .iconst (-1), [], -1, 0),
  (79, 80, .ireturn, [], 0, 0)]
def mX5_turnsValue : xM := (44, 5, cX5_turnsValue, 1, (some .int), pX5_turnsValue)
set_option maxRecDepth 100000 in
theorem gX5_turnsValue : xgd mX5_turnsValue := ⟨by decide +kernel, xat_in (p := 4130) rfl, by decide +kernel, by decide +kernel, by decide, by decide +kernel, by decide +kernel⟩
set_option maxRecDepth 100000 in
def pX5_courtValue : List xRow := [(0, 1, .aload_n 0, [], 0, 0),
  (1, 3, .ldc 223, [12], 0, 0),
  (3, 6, .invokevirtual 81, [0, 27], 0, 0),
  (6, 9, .ifCond .eq 7, [13], 0, 0),
  (9, 10, .iconst 0, [], 0, 0),
  (10, 13, .goto 56, [66], 0, 0),
  (13, 14, .aload_n 0, [], 0, 0),
  (14, 16, .ldc 227, [13], 0, 0),
  (16, 19, .invokevirtual 81, [0, 27], 0, 0),
  (19, 22, .ifCond .eq 7, [26], 0, 0),
  (22, 23, .iconst 1, [], 1, 0),
  (23, 26, .goto 43, [66], 0, 0),
  (26, 27, .aload_n 0, [], 0, 0),
  (27, 29, .ldc 213, [7], 0, 0),
  (29, 32, .invokevirtual 81, [0, 27], 0, 0),
  (32, 35, .ifCond .eq 7, [39], 0, 0),
  (35, 36, .iconst 2, [], 2, 0),
  (36, 39, .goto 30, [66], 0, 0),
  (39, 40, .aload_n 0, [], 0, 0),
  (40, 42, .ldc 229, [14], 0, 0),
  (42, 45, .invokevirtual 81, [0, 27], 0, 0),
  (45, 48, .ifCond .eq 7, [52], 0, 0),
  (48, 49, .iconst 3, [], 3, 0),
  (49, 52, .goto 17, [66], 0, 0),
  (52, 53, .aload_n 0, [], 0, 0),
  (53, 55, .ldc 221, [11], 0, 0),
  (55, 58, .invokevirtual 81, [0, 27], 0, 0),
  (58, 61, .ifCond .eq 7, [65], 0, 0),
  (61, 62, .iconst 4, [], 4, 0),
  (62, 65, .goto 4, [66], 0, 0),
  (65, 66, .iconst (-1), [], -1, 0),
  (66, 67, .ireturn, [], 0, 0)]
def mX5_courtValue : xM := (45, 5, cX5_courtValue, 1, (some .int), pX5_courtValue)
set_option maxRecDepth 100000 in
theorem gX5_courtValue : xgd mX5_courtValue := ⟨by decide +kernel, xat_in (p := 4140) rfl, by decide +kernel, by decide +kernel, by decide, by decide +kernel, by decide +kernel⟩
set_option maxRecDepth 100000 in
def pX6_init : List xRow := [(0, 1, .aload_n 0, [], 0, 0),
  (1, 4, .invokespecial 3, [15, 0], 0, 0),
  (4, 5, .aload_n 0, [], 0, 0),
  (5, 8, .sipush 700, [], 700, 0),
  (8, 10, .newarray .int, [], 0, 0),
  (10, 13, .putfield 9, [6, 1], 0, 0),
  (13, 14, .aload_n 0, [], 0, 0),
  (14, 16, .bipush 40, [], 40, 0),
  (16, 18, .newarray .int, [], 0, 0),
  (18, 21, .putfield 15, [6, 2], 0, 0),
  (21, 22, .return_, [], 0, 0)]
def mX6_init : xM := (46, 6, cX6_init, 1, none, pX6_init)
set_option maxRecDepth 100000 in
theorem gX6_init : xgd mX6_init := ⟨by decide +kernel, xat_in (p := 1155) rfl, by decide +kernel, by decide +kernel, by decide, by decide +kernel, by decide +kernel⟩
set_option maxRecDepth 100000 in
def pX6_add : List xRow := [(0, 1, .aload_n 0, [], 0, 0),
  (1, 4, .getfield 18, [6, 0], 0, 0),
  (4, 7, .sipush 700, [], 700, 0),
  (7, 10, .if_icmp .ge 23, [30], 0, 0),
  (10, 11, .aload_n 0, [], 0, 0),
  (11, 14, .getfield 9, [6, 1], 0, 0),
  (14, 15, .aload_n 0, [], 0, 0),
  (15, 18, .getfield 18, [6, 0], 0, 0),
  (18, 19, .iload_n 1, [], 0, 0),
  (19, 20, .iastore, [], 0, 0),
  (20, 21, .aload_n 0, [], 0, 0),
  (21, 22, .dup, [], 0, 0),
  (22, 25, .getfield 18, [6, 0], 0, 0),
  (25, 26, .iconst 1, [], 1, 0),
  (26, 27, .iadd, [], 0, 0),
  (27, 30, .putfield 18, [6, 0], 0, 0),
  (30, 31, .return_, [], 0, 0)]
def mX6_add : xM := (47, 6, cX6_add, 2, none, pX6_add)
set_option maxRecDepth 100000 in
theorem gX6_add : xgd mX6_add := ⟨by decide +kernel, xat_in (p := 4147) rfl, by decide +kernel, by decide +kernel, by decide, by decide +kernel, by decide +kernel⟩
set_option maxRecDepth 100000 in
def pX6_run : List xRow := [(0, 1, .iconst 0, [], 0, 0),
  (1, 2, .istore_n 2, [], 0, 0),
  (2, 3, .iconst 0, [], 0, 0),
  (3, 4, .istore_n 3, [], 0, 0),
  (4, 5, .iload_n 3, [], 0, 0),
  (5, 6, .aload_n 0, [], 0, 0),
  (6, 9, .getfield 18, [6, 0], 0, 0),
  (9, 12, .if_icmp .ge 133, [142], 0, 0),
  (12, 13, .aload_n 0, [], 0, 0),
  (13, 16, .getfield 9, [6, 1], 0, 0),
  (16, 17, .iload_n 3, [], 0, 0),
  (17, 18, .iaload, [], 0, 0),
  (18, 20, .istore 4, [], 0, 0),
  (20, 22, .iload 4, [], 0, 0),
  (22, 24, .bipush (-11), [], -11, 0),
  (24, 27, .if_icmp .le 39, [63], 0, 0),
  (27, 28, .iload_n 2, [], 0, 0),
  (28, 30, .bipush 40, [], 40, 0),
  (30, 33, .if_icmp .ge 33, [63], 0, 0),
  (33, 34, .aload_n 0, [], 0, 0),
  (34, 37, .getfield 15, [6, 2], 0, 0),
  (37, 38, .iload_n 2, [], 0, 0),
  (38, 40, .iload 4, [], 0, 0),
  (40, 43, .ifCond .lt 8, [48], 0, 0),
  (43, 45, .iload 4, [], 0, 0),
  (45, 48, .goto 11, [56], 0, 0),
  (48, 49, .aload_n 1, [], 0, 0),
  (49, 50, .iconst (-1), [], -1, 0),
  (50, 52, .iload 4, [], 0, 0),
  (52, 53, .isub, [], 0, 0),
  (53, 56, .invokestatic 22, [1, 49], 0, 0),
  (56, 57, .iastore, [], 0, 0),
  (57, 60, .iinc 2 1, [], 1, 0),
  (60, 63, .goto 76, [136], 0, 0),
  (63, 65, .iload 4, [], 0, 0),
  (65, 67, .bipush (-19), [], -19, 0),
  (67, 70, .if_icmp .ne 34, [101], 0, 0),
  (70, 71, .iload_n 2, [], 0, 0),
  (71, 74, .ifCond .le 30, [101], 0, 0),
  (74, 75, .aload_n 0, [], 0, 0),
  (75, 78, .getfield 15, [6, 2], 0, 0),
  (78, 79, .iload_n 2, [], 0, 0),
  (79, 80, .iconst 1, [], 1, 0),
  (80, 81, .isub, [], 0, 0),
  (81, 82, .aload_n 0, [], 0, 0),
  (82, 85, .getfield 15, [6, 2], 0, 0),
  (85, 86, .iload_n 2, [], 0, 0),
  (86, 87, .iconst 1, [], 1, 0),
  (87, 88, .isub, [], 0, 0),
  (88, 89, .iaload, [], 0, 0),
  (89, 92, .ifCond .ne 7, [96], 0, 0),
  (92, 93, .iconst 1, [], 1, 0),
  (93, 96, .goto 4, [97], 0, 0),
  (96, 97, .iconst 0, [], 0, 0),
  (97, 98, .iastore, [], 0, 0),
  (98, 101, .goto 38, [136], 0, 0),
  (101, 102, .iload_n 2, [], 0, 0),
  (102, 103, .iconst 1, [], 1, 0),
  (103, 106, .if_icmp .le 33, [136], 0, 0),
  (106, 109, .iinc 2 (-1), [], -1, 0),
  (109, 110, .aload_n 0, [], 0, 0),
  (110, 113, .getfield 15, [6, 2], 0, 0),
  (113, 114, .iload_n 2, [], 0, 0),
  (114, 115, .iconst 1, [], 1, 0),
  (115, 116, .isub, [], 0, 0),
  (116, 118, .iload 4, [], 0, 0),
  (118, 119, .aload_n 0, [], 0, 0),
  (119, 122, .getfield 15, [6, 2], 0, 0),
  (122, 123, .iload_n 2, [], 0, 0),
  (123, 124, .iconst 1, [], 1, 0),
  (124, 125, .isub, [], 0, 0),
  (125, 126, .iaload, [], 0, 0),
  (126, 127, .aload_n 0, [], 0, 0),
  (127, 130, .getfield 15, [6, 2], 0, 0),
  (130, 131, .iload_n 2, [], 0, 0),
  (131, 132, .iaload, [], 0, 0),
  (132, 135, .invokestatic 26, [1, 50], 0, 0),
  (135, 136, .iastore, [], 0, 0),
  (136, 139, .iinc 3 1, [], 1, 0),
  (139, 142, .goto (-135), [4], 0, 0),
  (142, 143, .iload_n 2, [], 0, 0),
  (143, 146, .ifCond .le 12, [155], 0, 0),
  (146, 147, .aload_n 0, [], 0, 0),
  (147, 150, .getfield 15, [6, 2], 0, 0),
  (150, 151, .iconst 0, [], 0, 0),
  (151, 152, .iaload, [], 0, 0),
  (152, 155, .goto 4, [156], 0, 0),
  (155, 156, .iconst 0, [], 0, 0),
  (156, 157, .ireturn, [], 0, 0)]
def mX6_run : xM := (48, 6, cX6_run, 5, (some .int), pX6_run)
set_option maxRecDepth 100000 in
theorem gX6_run : xgd mX6_run := ⟨by decide +kernel, xat_in (p := 3028) rfl, by decide +kernel, by decide +kernel, by decide, by decide +kernel, by decide +kernel⟩
set_option maxRecDepth 100000 in
def pX6_valueAt : List xRow := [(0, 1, .iload_n 1, [], 0, 0),
  (1, 4, .ifCond .lt 15, [16], 0, 0),
  (4, 5, .iload_n 1, [], 0, 0),
  (5, 6, .aload_n 0, [], 0, 0),
  (6, 7, .arraylength, [], 0, 0),
  (7, 10, .if_icmp .ge 9, [16], 0, 0),
  (10, 11, .aload_n 0, [], 0, 0),
  (11, 12, .iload_n 1, [], 0, 0),
  (12, 13, .iaload, [], 0, 0),
  (13, 16, .goto 4, [17], 0, 0),
  (16, 17, .iconst 0, [], 0, 0),
  (17, 18, .ireturn, [], 0, 0)]
def mX6_valueAt : xM := (49, 6, cX6_valueAt, 2, (some .int), pX6_valueAt)
set_option maxRecDepth 100000 in
theorem gX6_valueAt : xgd mX6_valueAt := ⟨by decide +kernel, xat_in (p := 3031) rfl, by decide +kernel, by decide +kernel, by decide, by decide +kernel, by decide +kernel⟩
set_option maxRecDepth 100000 in
def pX6_join : List xRow := [(0, 1, .iload_n 0, [], 0, 0),
  (1, 44, .tableswitch 105 (-17) (-11) #[101, 97, 93, 82, 71, 57, 43], [], 0, 0),
  (44, 45, .iload_n 1, [], 0, 0),
  (45, 48, .ifCond .ne 7, [52], 0, 0),
  (48, 49, .iload_n 2, [], 0, 0),
  (49, 52, .ifCond .eq 7, [56], 0, 0),
  (52, 53, .iconst 1, [], 1, 0),
  (53, 56, .goto 4, [57], 0, 0),
  (56, 57, .iconst 0, [], 0, 0),
  (57, 58, .ireturn, [], 0, 0),
  (58, 59, .iload_n 1, [], 0, 0),
  (59, 62, .ifCond .eq 11, [70], 0, 0),
  (62, 63, .iload_n 2, [], 0, 0),
  (63, 66, .ifCond .eq 7, [70], 0, 0),
  (66, 67, .iconst 1, [], 1, 0),
  (67, 70, .goto 4, [71], 0, 0),
  (70, 71, .iconst 0, [], 0, 0),
  (71, 72, .ireturn, [], 0, 0),
  (72, 73, .iload_n 1, [], 0, 0),
  (73, 74, .iload_n 2, [], 0, 0),
  (74, 77, .if_icmp .ge 7, [81], 0, 0),
  (77, 78, .iconst 1, [], 1, 0),
  (78, 81, .goto 4, [82], 0, 0),
  (81, 82, .iconst 0, [], 0, 0),
  (82, 83, .ireturn, [], 0, 0),
  (83, 84, .iload_n 1, [], 0, 0),
  (84, 85, .iload_n 2, [], 0, 0),
  (85, 88, .if_icmp .ne 7, [92], 0, 0),
  (88, 89, .iconst 1, [], 1, 0),
  (89, 92, .goto 4, [93], 0, 0),
  (92, 93, .iconst 0, [], 0, 0),
  (93, 94, .ireturn, [], 0, 0),
  (94, 95, .iload_n 1, [], 0, 0),
  (95, 96, .iload_n 2, [], 0, 0),
  (96, 97, .iadd, [], 0, 0),
  (97, 98, .ireturn, [], 0, 0),
  (98, 99, .iload_n 1, [], 0, 0),
  (99, 100, .iload_n 2, [], 0, 0),
  (100, 101, .isub, [], 0, 0),
  (101, 102, .ireturn, [], 0, 0),
  (102, 103, .iload_n 1, [], 0, 0),
  (103, 104, .iload_n 2, [], 0, 0),
  (104, 105, .imul, [], 0, 0),
  (105, 106, .ireturn, [], 0, 0),
  (106, 107, .iload_n 2, [], 0, 0),
  (107, 110, .ifCond .ne 7, [114], 0, 0),
  (110, 111, .iconst 0, [], 0, 0),
  (111, 114, .goto 6, [117], 0, 0),
  (114, 115, .iload_n 1, [], 0, 0),
  (115, 116, .iload_n 2, [], 0, 0),
  (116, 117, .idiv, [], 0, 0),
  (117, 118, .ireturn, [], 0, 0)]
def mX6_join : xM := (50, 6, cX6_join, 3, (some .int), pX6_join)
set_option maxRecDepth 100000 in
theorem gX6_join : xgd mX6_join := ⟨by decide +kernel, xat_in (p := 3034) rfl, by decide +kernel, by decide +kernel, by decide, by decide +kernel, by decide +kernel⟩
set_option maxRecDepth 100000 in
def pX7_init : List xRow := [(0, 1, .aload_n 0, [], 0, 0),
  (1, 4, .invokespecial 3, [15, 0], 0, 0),
  (4, 5, .aload_n 0, [], 0, 0),
  (5, 7, .bipush 16, [], 16, 0),
  (7, 9, .newarray .int, [], 0, 0),
  (9, 12, .putfield 9, [7, 1], 0, 0),
  (12, 13, .aload_n 0, [], 0, 0),
  (13, 15, .bipush 16, [], 16, 0),
  (15, 17, .newarray .int, [], 0, 0),
  (17, 20, .putfield 15, [7, 2], 0, 0),
  (20, 21, .aload_n 0, [], 0, 0),
  (21, 23, .bipush 16, [], 16, 0),
  (23, 25, .newarray .int, [], 0, 0),
  (25, 28, .putfield 18, [7, 3], 0, 0),
  (28, 29, .return_, [], 0, 0)]
def mX7_init : xM := (51, 7, cX7_init, 1, none, pX7_init)
set_option maxRecDepth 100000 in
theorem gX7_init : xgd mX7_init := ⟨by decide +kernel, xat_in (p := 1123) rfl, by decide +kernel, by decide +kernel, by decide, by decide +kernel, by decide +kernel⟩
set_option maxRecDepth 100000 in
def pX7_add : List xRow := [(0, 1, .aload_n 0, [], 0, 0),
  (1, 4, .getfield 21, [7, 0], 0, 0),
  (4, 6, .bipush 16, [], 16, 0),
  (6, 9, .if_icmp .ge 43, [49], 0, 0),
  (9, 10, .aload_n 0, [], 0, 0),
  (10, 13, .getfield 9, [7, 1], 0, 0),
  (13, 14, .aload_n 0, [], 0, 0),
  (14, 17, .getfield 21, [7, 0], 0, 0),
  (17, 18, .iload_n 1, [], 0, 0),
  (18, 19, .iastore, [], 0, 0),
  (19, 20, .aload_n 0, [], 0, 0),
  (20, 23, .getfield 15, [7, 2], 0, 0),
  (23, 24, .aload_n 0, [], 0, 0),
  (24, 27, .getfield 21, [7, 0], 0, 0),
  (27, 28, .iload_n 2, [], 0, 0),
  (28, 29, .iastore, [], 0, 0),
  (29, 30, .aload_n 0, [], 0, 0),
  (30, 33, .getfield 18, [7, 3], 0, 0),
  (33, 34, .aload_n 0, [], 0, 0),
  (34, 37, .getfield 21, [7, 0], 0, 0),
  (37, 38, .iload_n 3, [], 0, 0),
  (38, 39, .iastore, [], 0, 0),
  (39, 40, .aload_n 0, [], 0, 0),
  (40, 41, .dup, [], 0, 0),
  (41, 44, .getfield 21, [7, 0], 0, 0),
  (44, 45, .iconst 1, [], 1, 0),
  (45, 46, .iadd, [], 0, 0),
  (46, 49, .putfield 21, [7, 0], 0, 0),
  (49, 50, .return_, [], 0, 0)]
def mX7_add : xM := (52, 7, cX7_add, 4, none, pX7_add)
set_option maxRecDepth 100000 in
theorem gX7_add : xgd mX7_add := ⟨by decide +kernel, xat_in (p := 3072) rfl, by decide +kernel, by decide +kernel, by decide, by decide +kernel, by decide +kernel⟩
set_option maxRecDepth 100000 in
def pX7_dropLast : List xRow := [(0, 1, .aload_n 0, [], 0, 0),
  (1, 4, .getfield 21, [7, 0], 0, 0),
  (4, 7, .ifCond .le 13, [17], 0, 0),
  (7, 8, .aload_n 0, [], 0, 0),
  (8, 9, .dup, [], 0, 0),
  (9, 12, .getfield 21, [7, 0], 0, 0),
  (12, 13, .iconst 1, [], 1, 0),
  (13, 14, .isub, [], 0, 0),
  (14, 17, .putfield 21, [7, 0], 0, 0),
  (17, 18, .return_, [], 0, 0)]
def mX7_dropLast : xM := (53, 7, cX7_dropLast, 1, none, pX7_dropLast)
set_option maxRecDepth 100000 in
theorem gX7_dropLast : xgd mX7_dropLast := ⟨by decide +kernel, xat_in (p := 2227) rfl, by decide +kernel, by decide +kernel, by decide, by decide +kernel, by decide +kernel⟩
set_option maxRecDepth 100000 in
def pX7_copyFrom : List xRow := [(0, 1, .aload_n 0, [], 0, 0),
  (1, 2, .aload_n 1, [], 0, 0),
  (2, 5, .getfield 21, [7, 0], 0, 0),
  (5, 8, .putfield 21, [7, 0], 0, 0),
  (8, 9, .aload_n 1, [], 0, 0),
  (9, 12, .getfield 9, [7, 1], 0, 0),
  (12, 13, .iconst 0, [], 0, 0),
  (13, 14, .aload_n 0, [], 0, 0),
  (14, 17, .getfield 9, [7, 1], 0, 0),
  (17, 18, .iconst 0, [], 0, 0),
  (18, 20, .bipush 16, [], 16, 0),
  (20, 23, .invokestatic 25, [14, 0], 0, 0),
  (23, 24, .aload_n 1, [], 0, 0),
  (24, 27, .getfield 15, [7, 2], 0, 0),
  (27, 28, .iconst 0, [], 0, 0),
  (28, 29, .aload_n 0, [], 0, 0),
  (29, 32, .getfield 15, [7, 2], 0, 0),
  (32, 33, .iconst 0, [], 0, 0),
  (33, 35, .bipush 16, [], 16, 0),
  (35, 38, .invokestatic 25, [14, 0], 0, 0),
  (38, 39, .aload_n 1, [], 0, 0),
  (39, 42, .getfield 18, [7, 3], 0, 0),
  (42, 43, .iconst 0, [], 0, 0),
  (43, 44, .aload_n 0, [], 0, 0),
  (44, 47, .getfield 18, [7, 3], 0, 0),
  (47, 48, .iconst 0, [], 0, 0),
  (48, 50, .bipush 16, [], 16, 0),
  (50, 53, .invokestatic 25, [14, 0], 0, 0),
  (53, 54, .return_, [], 0, 0)]
def mX7_copyFrom : xM := (54, 7, cX7_copyFrom, 2, none, pX7_copyFrom)
set_option maxRecDepth 100000 in
theorem gX7_copyFrom : xgd mX7_copyFrom := ⟨by decide +kernel, xat_in (p := 3120) rfl, by decide +kernel, by decide +kernel, by decide, by decide +kernel, by decide +kernel⟩
set_option maxRecDepth 100000 in
def pX7_lies : List xRow := [(0, 1, .iconst 0, [], 0, 0),
  (1, 2, .istore_n 1, [], 0, 0),
  (2, 3, .iconst 0, [], 0, 0),
  (3, 4, .istore_n 2, [], 0, 0),
  (4, 5, .iload_n 2, [], 0, 0),
  (5, 6, .aload_n 0, [], 0, 0),
  (6, 9, .getfield 21, [7, 0], 0, 0),
  (9, 12, .if_icmp .ge 21, [30], 0, 0),
  (12, 13, .aload_n 0, [], 0, 0),
  (13, 16, .getfield 18, [7, 3], 0, 0),
  (16, 17, .iload_n 2, [], 0, 0),
  (17, 18, .iaload, [], 0, 0),
  (18, 21, .ifCond .le 6, [24], 0, 0),
  (21, 24, .iinc 1 1, [], 1, 0),
  (24, 27, .iinc 2 1, [], 1, 0),
  (27, 30, .goto (-23), [4], 0, 0),
  (30, 31, .iload_n 1, [], 0, 0),
  (31, 32, .ireturn, [], 0, 0)]
def mX7_lies : xM := (55, 7, cX7_lies, 3, (some .int), pX7_lies)
set_option maxRecDepth 100000 in
theorem gX7_lies : xgd mX7_lies := ⟨by decide +kernel, xat_in (p := 4181) rfl, by decide +kernel, by decide +kernel, by decide, by decide +kernel, by decide +kernel⟩
set_option maxRecDepth 100000 in
def pX7_latest : List xRow := [(0, 1, .iconst (-1), [], -1, 0),
  (1, 2, .istore_n 1, [], 0, 0),
  (2, 3, .iconst 0, [], 0, 0),
  (3, 4, .istore_n 2, [], 0, 0),
  (4, 5, .iload_n 2, [], 0, 0),
  (5, 6, .aload_n 0, [], 0, 0),
  (6, 9, .getfield 21, [7, 0], 0, 0),
  (9, 12, .if_icmp .ge 20, [29], 0, 0),
  (12, 13, .iload_n 1, [], 0, 0),
  (13, 14, .aload_n 0, [], 0, 0),
  (14, 17, .getfield 9, [7, 1], 0, 0),
  (17, 18, .iload_n 2, [], 0, 0),
  (18, 19, .iaload, [], 0, 0),
  (19, 22, .invokestatic 31, [10, 0], 0, 0),
  (22, 23, .istore_n 1, [], 0, 0),
  (23, 26, .iinc 2 1, [], 1, 0),
  (26, 29, .goto (-22), [4], 0, 0),
  (29, 30, .iload_n 1, [], 0, 0),
  (30, 31, .ireturn, [], 0, 0)]
def mX7_latest : xM := (56, 7, cX7_latest, 3, (some .int), pX7_latest)
set_option maxRecDepth 100000 in
theorem gX7_latest : xgd mX7_latest := ⟨by decide +kernel, xat_in (p := 4185) rfl, by decide +kernel, by decide +kernel, by decide, by decide +kernel, by decide +kernel⟩
set_option maxRecDepth 100000 in
def pX7_mostLies : List xRow := [(0, 1, .iconst 0, [], 0, 0),
  (1, 2, .istore_n 1, [], 0, 0),
  (2, 3, .iconst 0, [], 0, 0),
  (3, 4, .istore_n 2, [], 0, 0),
  (4, 5, .iload_n 2, [], 0, 0),
  (5, 6, .aload_n 0, [], 0, 0),
  (6, 9, .getfield 21, [7, 0], 0, 0),
  (9, 12, .if_icmp .ge 64, [73], 0, 0),
  (12, 13, .iconst 0, [], 0, 0),
  (13, 14, .istore_n 3, [], 0, 0),
  (14, 15, .iconst 0, [], 0, 0),
  (15, 17, .istore 4, [], 0, 0),
  (17, 19, .iload 4, [], 0, 0),
  (19, 20, .aload_n 0, [], 0, 0),
  (20, 23, .getfield 21, [7, 0], 0, 0),
  (23, 26, .if_icmp .ge 38, [61], 0, 0),
  (26, 27, .aload_n 0, [], 0, 0),
  (27, 30, .getfield 9, [7, 1], 0, 0),
  (30, 32, .iload 4, [], 0, 0),
  (32, 33, .iaload, [], 0, 0),
  (33, 34, .aload_n 0, [], 0, 0),
  (34, 37, .getfield 9, [7, 1], 0, 0),
  (37, 38, .iload_n 2, [], 0, 0),
  (38, 39, .iaload, [], 0, 0),
  (39, 42, .if_icmp .ne 16, [55], 0, 0),
  (42, 43, .aload_n 0, [], 0, 0),
  (43, 46, .getfield 18, [7, 3], 0, 0),
  (46, 48, .iload 4, [], 0, 0),
  (48, 49, .iaload, [], 0, 0),
  (49, 52, .ifCond .le 6, [55], 0, 0),
  (52, 55, .iinc 3 1, [], 1, 0),
  (55, 58, .iinc 4 1, [], 1, 0),
  (58, 61, .goto (-41), [17], 0, 0),
  (61, 62, .iload_n 1, [], 0, 0),
  (62, 63, .iload_n 3, [], 0, 0),
  (63, 66, .invokestatic 31, [10, 0], 0, 0),
  (66, 67, .istore_n 1, [], 0, 0),
  (67, 70, .iinc 2 1, [], 1, 0),
  (70, 73, .goto (-66), [4], 0, 0),
  (73, 74, .iload_n 1, [], 0, 0),
  (74, 75, .ireturn, [], 0, 0)]
def mX7_mostLies : xM := (57, 7, cX7_mostLies, 5, (some .int), pX7_mostLies)
set_option maxRecDepth 100000 in
theorem gX7_mostLies : xgd mX7_mostLies := ⟨by decide +kernel, xat_in (p := 4190) rfl, by decide +kernel, by decide +kernel, by decide, by decide +kernel, by decide +kernel⟩
set_option maxRecDepth 100000 in
def pX7_saidBy : List xRow := [(0, 1, .iconst 0, [], 0, 0),
  (1, 2, .istore_n 2, [], 0, 0),
  (2, 3, .iconst 0, [], 0, 0),
  (3, 4, .istore_n 3, [], 0, 0),
  (4, 5, .iload_n 3, [], 0, 0),
  (5, 6, .aload_n 0, [], 0, 0),
  (6, 9, .getfield 21, [7, 0], 0, 0),
  (9, 12, .if_icmp .ge 25, [34], 0, 0),
  (12, 13, .aload_n 0, [], 0, 0),
  (13, 16, .getfield 15, [7, 2], 0, 0),
  (16, 17, .iload_n 3, [], 0, 0),
  (17, 18, .iaload, [], 0, 0),
  (18, 19, .iload_n 1, [], 0, 0),
  (19, 22, .if_icmp .ne 9, [28], 0, 0),
  (22, 23, .iload_n 2, [], 0, 0),
  (23, 24, .iconst 1, [], 1, 0),
  (24, 25, .iload_n 3, [], 0, 0),
  (25, 26, .ishl, [], 0, 0),
  (26, 27, .ior, [], 0, 0),
  (27, 28, .istore_n 2, [], 0, 0),
  (28, 31, .iinc 3 1, [], 1, 0),
  (31, 34, .goto (-27), [4], 0, 0),
  (34, 35, .iload_n 2, [], 0, 0),
  (35, 36, .ireturn, [], 0, 0)]
def mX7_saidBy : xM := (58, 7, cX7_saidBy, 4, (some .int), pX7_saidBy)
set_option maxRecDepth 100000 in
theorem gX7_saidBy : xgd mX7_saidBy := ⟨by decide +kernel, xat_in (p := 4206) rfl, by decide +kernel, by decide +kernel, by decide, by decide +kernel, by decide +kernel⟩
set_option maxRecDepth 100000 in
def pX8_init : List xRow := [(0, 1, .aload_n 0, [], 0, 0),
  (1, 4, .invokespecial 3, [15, 0], 0, 0),
  (4, 5, .aload_n 0, [], 0, 0),
  (5, 7, .bipush 8, [], 8, 0),
  (7, 9, .newarray .int, [], 0, 0),
  (9, 12, .putfield 9, [8, 1], 0, 0),
  (12, 13, .aload_n 0, [], 0, 0),
  (13, 15, .bipush 8, [], 8, 0),
  (15, 17, .newarray .int, [], 0, 0),
  (17, 20, .putfield 15, [8, 2], 0, 0),
  (20, 21, .aload_n 0, [], 0, 0),
  (21, 23, .bipush 8, [], 8, 0),
  (23, 25, .newarray .int, [], 0, 0),
  (25, 28, .putfield 18, [8, 3], 0, 0),
  (28, 29, .return_, [], 0, 0)]
def mX8_init : xM := (59, 8, cX8_init, 1, none, pX8_init)
set_option maxRecDepth 100000 in
theorem gX8_init : xgd mX8_init := ⟨by decide +kernel, xat_in (p := 2107) rfl, by decide +kernel, by decide +kernel, by decide, by decide +kernel, by decide +kernel⟩
set_option maxRecDepth 100000 in
def pX8_add : List xRow := [(0, 1, .aload_n 0, [], 0, 0),
  (1, 4, .getfield 21, [8, 0], 0, 0),
  (4, 6, .bipush 8, [], 8, 0),
  (6, 9, .if_icmp .ge 43, [49], 0, 0),
  (9, 10, .aload_n 0, [], 0, 0),
  (10, 13, .getfield 9, [8, 1], 0, 0),
  (13, 14, .aload_n 0, [], 0, 0),
  (14, 17, .getfield 21, [8, 0], 0, 0),
  (17, 18, .iload_n 1, [], 0, 0),
  (18, 19, .iastore, [], 0, 0),
  (19, 20, .aload_n 0, [], 0, 0),
  (20, 23, .getfield 15, [8, 2], 0, 0),
  (23, 24, .aload_n 0, [], 0, 0),
  (24, 27, .getfield 21, [8, 0], 0, 0),
  (27, 28, .iload_n 2, [], 0, 0),
  (28, 29, .iastore, [], 0, 0),
  (29, 30, .aload_n 0, [], 0, 0),
  (30, 33, .getfield 18, [8, 3], 0, 0),
  (33, 34, .aload_n 0, [], 0, 0),
  (34, 37, .getfield 21, [8, 0], 0, 0),
  (37, 38, .iload_n 3, [], 0, 0),
  (38, 39, .iastore, [], 0, 0),
  (39, 40, .aload_n 0, [], 0, 0),
  (40, 41, .dup, [], 0, 0),
  (41, 44, .getfield 21, [8, 0], 0, 0),
  (44, 45, .iconst 1, [], 1, 0),
  (45, 46, .iadd, [], 0, 0),
  (46, 49, .putfield 21, [8, 0], 0, 0),
  (49, 50, .return_, [], 0, 0)]
def mX8_add : xM := (60, 8, cX8_add, 4, none, pX8_add)
set_option maxRecDepth 100000 in
theorem gX8_add : xgd mX8_add := ⟨by decide +kernel, xat_in (p := 5196) rfl, by decide +kernel, by decide +kernel, by decide, by decide +kernel, by decide +kernel⟩
set_option maxRecDepth 100000 in
def pX8_copyFrom : List xRow := [(0, 1, .aload_n 0, [], 0, 0),
  (1, 2, .aload_n 1, [], 0, 0),
  (2, 5, .getfield 21, [8, 0], 0, 0),
  (5, 8, .putfield 21, [8, 0], 0, 0),
  (8, 9, .aload_n 1, [], 0, 0),
  (9, 12, .getfield 9, [8, 1], 0, 0),
  (12, 13, .iconst 0, [], 0, 0),
  (13, 14, .aload_n 0, [], 0, 0),
  (14, 17, .getfield 9, [8, 1], 0, 0),
  (17, 18, .iconst 0, [], 0, 0),
  (18, 20, .bipush 8, [], 8, 0),
  (20, 23, .invokestatic 25, [14, 0], 0, 0),
  (23, 24, .aload_n 1, [], 0, 0),
  (24, 27, .getfield 15, [8, 2], 0, 0),
  (27, 28, .iconst 0, [], 0, 0),
  (28, 29, .aload_n 0, [], 0, 0),
  (29, 32, .getfield 15, [8, 2], 0, 0),
  (32, 33, .iconst 0, [], 0, 0),
  (33, 35, .bipush 8, [], 8, 0),
  (35, 38, .invokestatic 25, [14, 0], 0, 0),
  (38, 39, .aload_n 1, [], 0, 0),
  (39, 42, .getfield 18, [8, 3], 0, 0),
  (42, 43, .iconst 0, [], 0, 0),
  (43, 44, .aload_n 0, [], 0, 0),
  (44, 47, .getfield 18, [8, 3], 0, 0),
  (47, 48, .iconst 0, [], 0, 0),
  (48, 50, .bipush 8, [], 8, 0),
  (50, 53, .invokestatic 25, [14, 0], 0, 0),
  (53, 54, .return_, [], 0, 0)]
def mX8_copyFrom : xM := (61, 8, cX8_copyFrom, 2, none, pX8_copyFrom)
set_option maxRecDepth 100000 in
theorem gX8_copyFrom : xgd mX8_copyFrom := ⟨by decide +kernel, xat_in (p := 3134) rfl, by decide +kernel, by decide +kernel, by decide, by decide +kernel, by decide +kernel⟩
set_option maxRecDepth 100000 in
def pX9_init : List xRow := [(0, 1, .aload_n 0, [], 0, 0),
  (1, 4, .invokespecial 3, [15, 0], 0, 0),
  (4, 5, .aload_n 0, [], 0, 0),
  (5, 8, .new 9, [2], 0, 0),
  (8, 9, .dup, [], 0, 0),
  (9, 12, .invokespecial 11, [4, 12], 0, 0),
  (12, 15, .putfield 12, [9, 0], 0, 0),
  (15, 16, .aload_n 0, [], 0, 0),
  (16, 18, .bipush 6, [], 6, 0),
  (18, 20, .newarray .int, [], 0, 0),
  (20, 23, .putfield 18, [9, 1], 0, 0),
  (23, 24, .aload_n 0, [], 0, 0),
  (24, 26, .bipush 6, [], 6, 0),
  (26, 28, .bipush 100, [], 100, 0),
  (28, 32, .multianewarray 22 2, [], 0, 0),
  (32, 35, .putfield 24, [9, 2], 0, 0),
  (35, 36, .aload_n 0, [], 0, 0),
  (36, 38, .bipush 6, [], 6, 0),
  (38, 40, .bipush 100, [], 100, 0),
  (40, 44, .multianewarray 22 2, [], 0, 0),
  (44, 47, .putfield 27, [9, 3], 0, 0),
  (47, 48, .aload_n 0, [], 0, 0),
  (48, 50, .bipush 6, [], 6, 0),
  (50, 52, .bipush 10, [], 10, 0),
  (52, 56, .multianewarray 22 2, [], 0, 0),
  (56, 59, .putfield 30, [9, 4], 0, 0),
  (59, 60, .aload_n 0, [], 0, 0),
  (60, 62, .bipush 100, [], 100, 0),
  (62, 64, .newarray .int, [], 0, 0),
  (64, 67, .putfield 33, [9, 5], 0, 0),
  (67, 68, .aload_n 0, [], 0, 0),
  (68, 70, .bipush 10, [], 10, 0),
  (70, 72, .newarray .int, [], 0, 0),
  (72, 75, .putfield 36, [9, 6], 0, 0),
  (75, 76, .aload_n 0, [], 0, 0),
  (76, 78, .bipush 6, [], 6, 0),
  (78, 81, .anewarray 39, [], 0, 0),
  (81, 84, .putfield 41, [9, 7], 0, 0),
  (84, 85, .aload_n 0, [], 0, 0),
  (85, 88, .new 39, [10], 0, 0),
  (88, 89, .dup, [], 0, 0),
  (89, 92, .invokespecial 45, [4, 94], 0, 0),
  (92, 95, .putfield 46, [9, 8], 0, 0),
  (95, 96, .aload_n 0, [], 0, 0),
  (96, 98, .bipush 6, [], 6, 0),
  (98, 100, .newarray .int, [], 0, 0),
  (100, 103, .putfield 50, [9, 9], 0, 0),
  (103, 104, .iconst 0, [], 0, 0),
  (104, 105, .istore_n 1, [], 0, 0),
  (105, 106, .iload_n 1, [], 0, 0),
  (106, 108, .bipush 6, [], 6, 0),
  (108, 111, .if_icmp .ge 22, [130], 0, 0),
  (111, 112, .aload_n 0, [], 0, 0),
  (112, 115, .getfield 41, [9, 7], 0, 0),
  (115, 116, .iload_n 1, [], 0, 0),
  (116, 119, .new 39, [10], 0, 0),
  (119, 120, .dup, [], 0, 0),
  (120, 123, .invokespecial 45, [4, 94], 0, 0),
  (123, 124, .aastore, [], 0, 0),
  (124, 127, .iinc 1 1, [], 1, 0),
  (127, 130, .goto (-22), [105], 0, 0),
  (130, 131, .return_, [], 0, 0)]
def mX9_init : xM := (62, 9, cX9_init, 2, none, pX9_init)
set_option maxRecDepth 100000 in
theorem gX9_init : xgd mX9_init := ⟨by decide +kernel, xat_in (p := 2003) rfl, by decide +kernel, by decide +kernel, by decide, by decide +kernel, by decide +kernel⟩
set_option maxRecDepth 100000 in
def pX9_refresh : List xRow := [(0, 1, .aload_n 0, [], 0, 0),
  (1, 4, .getfield 12, [9, 0], 0, 0),
  (4, 7, .getfield 53, [2, 2], 0, 0),
  (7, 8, .astore_n 1, [], 0, 0),
  (8, 9, .aload_n 0, [], 0, 0),
  (9, 12, .getfield 33, [9, 5], 0, 0),
  (12, 13, .iconst 0, [], 0, 0),
  (13, 16, .invokestatic 57, [1, 300], 0, 0),
  (16, 17, .iconst 0, [], 0, 0),
  (17, 18, .istore_n 2, [], 0, 0),
  (18, 19, .iload_n 2, [], 0, 0),
  (19, 20, .aload_n 1, [], 0, 0),
  (20, 23, .getfield 63, [7, 0], 0, 0),
  (23, 26, .if_icmp .ge 26, [49], 0, 0),
  (26, 27, .aload_n 0, [], 0, 0),
  (27, 30, .getfield 33, [9, 5], 0, 0),
  (30, 31, .aload_n 1, [], 0, 0),
  (31, 34, .getfield 69, [7, 1], 0, 0),
  (34, 35, .iload_n 2, [], 0, 0),
  (35, 36, .iaload, [], 0, 0),
  (36, 37, .dup2, [], 0, 0),
  (37, 38, .iaload, [], 0, 0),
  (38, 39, .iconst 1, [], 1, 0),
  (39, 40, .iload_n 2, [], 0, 0),
  (40, 41, .ishl, [], 0, 0),
  (41, 42, .ior, [], 0, 0),
  (42, 43, .iastore, [], 0, 0),
  (43, 46, .iinc 2 1, [], 1, 0),
  (46, 49, .goto (-28), [18], 0, 0),
  (49, 50, .iconst 0, [], 0, 0),
  (50, 51, .istore_n 2, [], 0, 0),
  (51, 52, .iload_n 2, [], 0, 0),
  (52, 53, .aload_n 0, [], 0, 0),
  (53, 56, .getfield 12, [9, 0], 0, 0),
  (56, 59, .getfield 72, [2, 1], 0, 0),
  (59, 62, .getfield 76, [3, 0], 0, 0),
  (62, 65, .if_icmp .ge 102, [164], 0, 0),
  (65, 66, .iconst 0, [], 0, 0),
  (66, 67, .istore_n 3, [], 0, 0),
  (67, 68, .iload_n 3, [], 0, 0),
  (68, 69, .aload_n 0, [], 0, 0),
  (69, 72, .getfield 12, [9, 0], 0, 0),
  (72, 75, .getfield 79, [2, 0], 0, 0),
  (75, 78, .getfield 83, [4, 0], 0, 0),
  (78, 81, .if_icmp .ge 34, [112], 0, 0),
  (81, 82, .aload_n 0, [], 0, 0),
  (82, 85, .getfield 30, [9, 4], 0, 0),
  (85, 86, .iload_n 2, [], 0, 0),
  (86, 87, .aaload, [], 0, 0),
  (87, 88, .iload_n 3, [], 0, 0),
  (88, 89, .aload_n 0, [], 0, 0),
  (89, 90, .iload_n 2, [], 0, 0),
  (90, 91, .iload_n 3, [], 0, 0),
  (91, 94, .invokevirtual 86, [0, 66], 0, 0),
  (94, 95, .i2l, [], 0, 0),
  (95, 96, .aload_n 0, [], 0, 0),
  (96, 97, .iload_n 2, [], 0, 0),
  (97, 98, .iload_n 3, [], 0, 0),
  (98, 101, .invokevirtual 90, [0, 67], 0, 0),
  (101, 102, .i2l, [], 0, 0),
  (102, 105, .invokestatic 93, [3, 153], 0, 0),
  (105, 106, .iastore, [], 0, 0),
  (106, 109, .iinc 3 1, [], 1, 0),
  (109, 112, .goto (-42), [67], 0, 0),
  (112, 113, .aload_n 0, [], 0, 0),
  (113, 116, .getfield 18, [9, 1], 0, 0),
  (116, 117, .iload_n 2, [], 0, 0),
  (117, 118, .aload_n 0, [], 0, 0),
  (118, 119, .iload_n 2, [], 0, 0),
  (119, 120, .aload_n 0, [], 0, 0),
  (120, 123, .getfield 12, [9, 0], 0, 0),
  (123, 126, .getfield 72, [2, 1], 0, 0),
  (126, 129, .getfield 97, [3, 4], 0, 0),
  (129, 130, .iload_n 2, [], 0, 0),
  (130, 131, .iaload, [], 0, 0),
  (131, 134, .invokevirtual 100, [0, 72], 0, 0),
  (134, 135, .iastore, [], 0, 0),
  (135, 136, .aload_n 0, [], 0, 0),
  (136, 137, .iload_n 2, [], 0, 0),
  (137, 138, .aload_n 0, [], 0, 0),
  (138, 141, .getfield 18, [9, 1], 0, 0),
  (141, 142, .iload_n 2, [], 0, 0),
  (142, 143, .iaload, [], 0, 0),
  (143, 144, .aload_n 0, [], 0, 0),
  (144, 147, .getfield 24, [9, 2], 0, 0),
  (147, 148, .iload_n 2, [], 0, 0),
  (148, 149, .aaload, [], 0, 0),
  (149, 150, .aload_n 0, [], 0, 0),
  (150, 153, .getfield 27, [9, 3], 0, 0),
  (153, 154, .iload_n 2, [], 0, 0),
  (154, 155, .aaload, [], 0, 0),
  (155, 158, .invokevirtual 103, [0, 64], 0, 0),
  (158, 161, .iinc 2 1, [], 1, 0),
  (161, 164, .goto (-110), [51], 0, 0),
  (164, 165, .return_, [], 0, 0)]
def mX9_refresh : xM := (63, 9, cX9_refresh, 4, none, pX9_refresh)
set_option maxRecDepth 100000 in
theorem gX9_refresh : xgd mX9_refresh := ⟨by decide +kernel, xat_in (p := 2231) rfl, by decide +kernel, by decide +kernel, by decide, by decide +kernel, by decide +kernel⟩
set_option maxRecDepth 100000 in
def pX9_fillRow : List xRow := [(0, 1, .iconst (-1), [], -1, 0),
  (1, 3, .istore 5, [], 0, 0),
  (3, 4, .iconst (-1), [], -1, 0),
  (4, 6, .istore 6, [], 0, 0),
  (6, 7, .iconst 0, [], 0, 0),
  (7, 9, .istore 7, [], 0, 0),
  (9, 11, .iload 7, [], 0, 0),
  (11, 13, .bipush 100, [], 100, 0),
  (13, 16, .if_icmp .ge 62, [75], 0, 0),
  (16, 17, .aload_n 0, [], 0, 0),
  (17, 20, .getfield 33, [9, 5], 0, 0),
  (20, 22, .iload 7, [], 0, 0),
  (22, 23, .iaload, [], 0, 0),
  (23, 24, .iload_n 2, [], 0, 0),
  (24, 25, .iand, [], 0, 0),
  (25, 27, .istore 8, [], 0, 0),
  (27, 29, .iload 8, [], 0, 0),
  (29, 32, .ifCond .eq 27, [56], 0, 0),
  (32, 33, .aload_n 0, [], 0, 0),
  (33, 34, .aload_n 0, [], 0, 0),
  (34, 37, .getfield 46, [9, 8], 0, 0),
  (37, 38, .iload_n 1, [], 0, 0),
  (38, 40, .iload 8, [], 0, 0),
  (40, 43, .invokevirtual 107, [0, 65], 0, 0),
  (43, 44, .aload_n 0, [], 0, 0),
  (44, 47, .getfield 46, [9, 8], 0, 0),
  (47, 50, .invokevirtual 111, [0, 98], 0, 0),
  (50, 52, .istore 5, [], 0, 0),
  (52, 54, .iload 7, [], 0, 0),
  (54, 56, .istore 6, [], 0, 0),
  (56, 57, .aload_n 3, [], 0, 0),
  (57, 59, .iload 7, [], 0, 0),
  (59, 61, .iload 5, [], 0, 0),
  (61, 62, .iastore, [], 0, 0),
  (62, 64, .aload 4, [], 0, 0),
  (64, 66, .iload 7, [], 0, 0),
  (66, 68, .iload 6, [], 0, 0),
  (68, 69, .iastore, [], 0, 0),
  (69, 72, .iinc 7 1, [], 1, 0),
  (72, 75, .goto (-63), [9], 0, 0),
  (75, 76, .return_, [], 0, 0)]
def mX9_fillRow : xM := (64, 9, cX9_fillRow, 9, none, pX9_fillRow)
set_option maxRecDepth 100000 in
theorem gX9_fillRow : xgd mX9_fillRow := ⟨by decide +kernel, xat_in (p := 3038) rfl, by decide +kernel, by decide +kernel, by decide, by decide +kernel, by decide +kernel⟩
set_option maxRecDepth 100000 in
def pX9_addUp : List xRow := [(0, 1, .aload_n 1, [], 0, 0),
  (1, 4, .invokevirtual 115, [0, 95], 0, 0),
  (4, 5, .iconst 0, [], 0, 0),
  (5, 7, .istore 4, [], 0, 0),
  (7, 9, .iload 4, [], 0, 0),
  (9, 10, .aload_n 0, [], 0, 0),
  (10, 13, .getfield 12, [9, 0], 0, 0),
  (13, 16, .getfield 53, [2, 2], 0, 0),
  (16, 19, .getfield 63, [7, 0], 0, 0),
  (19, 22, .if_icmp .ge 37, [56], 0, 0),
  (22, 23, .iload_n 3, [], 0, 0),
  (23, 25, .iload 4, [], 0, 0),
  (25, 26, .ishr, [], 0, 0),
  (26, 27, .iconst 1, [], 1, 0),
  (27, 28, .iand, [], 0, 0),
  (28, 31, .ifCond .eq 22, [50], 0, 0),
  (31, 32, .aload_n 0, [], 0, 0),
  (32, 33, .aload_n 1, [], 0, 0),
  (33, 34, .iload_n 2, [], 0, 0),
  (34, 35, .aload_n 0, [], 0, 0),
  (35, 38, .getfield 12, [9, 0], 0, 0),
  (38, 41, .getfield 53, [2, 2], 0, 0),
  (41, 44, .getfield 118, [7, 2], 0, 0),
  (44, 46, .iload 4, [], 0, 0),
  (46, 47, .iaload, [], 0, 0),
  (47, 50, .invokevirtual 121, [0, 68], 0, 0),
  (50, 53, .iinc 4 1, [], 1, 0),
  (53, 56, .goto (-46), [7], 0, 0),
  (56, 57, .return_, [], 0, 0)]
def mX9_addUp : xM := (65, 9, cX9_addUp, 5, none, pX9_addUp)
set_option maxRecDepth 100000 in
theorem gX9_addUp : xgd mX9_addUp := ⟨by decide +kernel, xat_in (p := 3042) rfl, by decide +kernel, by decide +kernel, by decide, by decide +kernel, by decide +kernel⟩
set_option maxRecDepth 100000 in
def pX9_wayX : List xRow := [(0, 1, .aload_n 0, [], 0, 0),
  (1, 4, .getfield 12, [9, 0], 0, 0),
  (4, 7, .getfield 79, [2, 0], 0, 0),
  (7, 10, .getfield 124, [4, 1], 0, 0),
  (10, 11, .iload_n 2, [], 0, 0),
  (11, 12, .iaload, [], 0, 0),
  (12, 13, .aload_n 0, [], 0, 0),
  (13, 16, .getfield 12, [9, 0], 0, 0),
  (16, 19, .getfield 72, [2, 1], 0, 0),
  (19, 22, .getfield 127, [3, 1], 0, 0),
  (22, 23, .iload_n 1, [], 0, 0),
  (23, 24, .iaload, [], 0, 0),
  (24, 25, .isub, [], 0, 0),
  (25, 26, .ireturn, [], 0, 0)]
def mX9_wayX : xM := (66, 9, cX9_wayX, 3, (some .int), pX9_wayX)
set_option maxRecDepth 100000 in
theorem gX9_wayX : xgd mX9_wayX := ⟨by decide +kernel, xat_in (p := 2238) rfl, by decide +kernel, by decide +kernel, by decide, by decide +kernel, by decide +kernel⟩
set_option maxRecDepth 100000 in
def pX9_wayY : List xRow := [(0, 1, .aload_n 0, [], 0, 0),
  (1, 4, .getfield 12, [9, 0], 0, 0),
  (4, 7, .getfield 79, [2, 0], 0, 0),
  (7, 10, .getfield 128, [4, 2], 0, 0),
  (10, 11, .iload_n 2, [], 0, 0),
  (11, 12, .iaload, [], 0, 0),
  (12, 13, .aload_n 0, [], 0, 0),
  (13, 16, .getfield 12, [9, 0], 0, 0),
  (16, 19, .getfield 72, [2, 1], 0, 0),
  (19, 22, .getfield 131, [3, 2], 0, 0),
  (22, 23, .iload_n 1, [], 0, 0),
  (23, 24, .iaload, [], 0, 0),
  (24, 25, .isub, [], 0, 0),
  (25, 26, .ireturn, [], 0, 0)]
def mX9_wayY : xM := (67, 9, cX9_wayY, 3, (some .int), pX9_wayY)
set_option maxRecDepth 100000 in
theorem gX9_wayY : xgd mX9_wayY := ⟨by decide +kernel, xat_in (p := 3002) rfl, by decide +kernel, by decide +kernel, by decide, by decide +kernel, by decide +kernel⟩
set_option maxRecDepth 100000 in
def pX9_addPerson : List xRow := [(0, 1, .aload_n 1, [], 0, 0),
  (1, 2, .aload_n 0, [], 0, 0),
  (2, 3, .iload_n 2, [], 0, 0),
  (3, 4, .iload_n 3, [], 0, 0),
  (4, 7, .invokevirtual 86, [0, 66], 0, 0),
  (7, 8, .aload_n 0, [], 0, 0),
  (8, 9, .iload_n 2, [], 0, 0),
  (9, 10, .iload_n 3, [], 0, 0),
  (10, 13, .invokevirtual 90, [0, 67], 0, 0),
  (13, 16, .invokevirtual 132, [0, 97], 0, 0),
  (16, 17, .return_, [], 0, 0)]
def mX9_addPerson : xM := (68, 9, cX9_addPerson, 4, none, pX9_addPerson)
set_option maxRecDepth 100000 in
theorem gX9_addPerson : xgd mX9_addPerson := ⟨by decide +kernel, xat_in (p := 3050) rfl, by decide +kernel, by decide +kernel, by decide, by decide +kernel, by decide +kernel⟩
set_option maxRecDepth 100000 in
def pX9_farBetween : List xRow := [(0, 1, .aload_n 0, [], 0, 0),
  (1, 2, .iload_n 1, [], 0, 0),
  (2, 3, .iload_n 2, [], 0, 0),
  (3, 6, .invokevirtual 86, [0, 66], 0, 0),
  (6, 7, .aload_n 0, [], 0, 0),
  (7, 8, .iload_n 1, [], 0, 0),
  (8, 9, .iload_n 2, [], 0, 0),
  (9, 12, .invokevirtual 90, [0, 67], 0, 0),
  (12, 15, .invokestatic 136, [3, 152], 0, 0),
  (15, 16, .ireturn, [], 0, 0)]
def mX9_farBetween : xM := (69, 9, cX9_farBetween, 3, (some .int), pX9_farBetween)
set_option maxRecDepth 100000 in
theorem gX9_farBetween : xgd mX9_farBetween := ⟨by decide +kernel, xat_in (p := 3011) rfl, by decide +kernel, by decide +kernel, by decide, by decide +kernel, by decide +kernel⟩
set_option maxRecDepth 100000 in
def pX9_turns : List xRow := [(0, 1, .iload_n 1, [], 0, 0),
  (1, 4, .ifCond .gt 5, [6], 0, 0),
  (4, 5, .iconst 0, [], 0, 0),
  (5, 6, .ireturn, [], 0, 0),
  (6, 7, .aload_n 0, [], 0, 0),
  (7, 10, .getfield 12, [9, 0], 0, 0),
  (10, 13, .getfield 139, [2, 3], 0, 0),
  (13, 16, .getfield 143, [6, 0], 0, 0),
  (16, 19, .ifCond .ne 21, [37], 0, 0),
  (19, 20, .iload_n 3, [], 0, 0),
  (20, 22, .iload 4, [], 0, 0),
  (22, 25, .if_icmp .gt 13, [35], 0, 0),
  (25, 26, .iload_n 1, [], 0, 0),
  (26, 28, .iload 5, [], 0, 0),
  (28, 31, .if_icmp .le 7, [35], 0, 0),
  (31, 32, .iconst 1, [], 1, 0),
  (32, 35, .goto 4, [36], 0, 0),
  (35, 36, .iconst 0, [], 0, 0),
  (36, 37, .ireturn, [], 0, 0),
  (37, 38, .aload_n 0, [], 0, 0),
  (38, 41, .getfield 50, [9, 9], 0, 0),
  (41, 42, .iconst 0, [], 0, 0),
  (42, 43, .iload_n 1, [], 0, 0),
  (43, 44, .iastore, [], 0, 0),
  (44, 45, .aload_n 0, [], 0, 0),
  (45, 48, .getfield 50, [9, 9], 0, 0),
  (48, 49, .iconst 1, [], 1, 0),
  (49, 50, .iload_n 2, [], 0, 0),
  (50, 51, .iastore, [], 0, 0),
  (51, 52, .aload_n 0, [], 0, 0),
  (52, 55, .getfield 50, [9, 9], 0, 0),
  (55, 56, .iconst 2, [], 2, 0),
  (56, 57, .iload_n 3, [], 0, 0),
  (57, 58, .iastore, [], 0, 0),
  (58, 59, .aload_n 0, [], 0, 0),
  (59, 62, .getfield 50, [9, 9], 0, 0),
  (62, 63, .iconst 3, [], 3, 0),
  (63, 65, .iload 4, [], 0, 0),
  (65, 66, .iastore, [], 0, 0),
  (66, 67, .aload_n 0, [], 0, 0),
  (67, 70, .getfield 50, [9, 9], 0, 0),
  (70, 71, .iconst 4, [], 4, 0),
  (71, 73, .iload 5, [], 0, 0),
  (73, 74, .iastore, [], 0, 0),
  (74, 75, .aload_n 0, [], 0, 0),
  (75, 78, .getfield 50, [9, 9], 0, 0),
  (78, 79, .iconst 5, [], 5, 0),
  (79, 81, .iload 6, [], 0, 0),
  (81, 82, .iastore, [], 0, 0),
  (82, 83, .aload_n 0, [], 0, 0),
  (83, 86, .getfield 12, [9, 0], 0, 0),
  (86, 89, .getfield 139, [2, 3], 0, 0),
  (89, 90, .aload_n 0, [], 0, 0),
  (90, 93, .getfield 50, [9, 9], 0, 0),
  (93, 96, .invokevirtual 148, [0, 48], 0, 0),
  (96, 99, .ifCond .le 7, [103], 0, 0),
  (99, 100, .iconst 1, [], 1, 0),
  (100, 103, .goto 4, [104], 0, 0),
  (103, 104, .iconst 0, [], 0, 0),
  (104, 105, .ireturn, [], 0, 0)]
def mX9_turns : xM := (70, 9, cX9_turns, 7, (some .boolean), pX9_turns)
set_option maxRecDepth 100000 in
theorem gX9_turns : xgd mX9_turns := ⟨by decide +kernel, xat_in (p := 3024) rfl, by decide +kernel, by decide +kernel, by decide, by decide +kernel, by decide +kernel⟩
set_option maxRecDepth 100000 in
def pX9_hearsLie : List xRow := [(0, 1, .aload_n 0, [], 0, 0),
  (1, 4, .getfield 12, [9, 0], 0, 0),
  (4, 7, .getfield 72, [2, 1], 0, 0),
  (7, 9, .astore 5, [], 0, 0),
  (9, 10, .aload_n 0, [], 0, 0),
  (10, 13, .getfield 12, [9, 0], 0, 0),
  (13, 16, .getfield 79, [2, 0], 0, 0),
  (16, 19, .getfield 152, [4, 3], 0, 0),
  (19, 20, .iload_n 2, [], 0, 0),
  (20, 21, .iaload, [], 0, 0),
  (21, 23, .istore 6, [], 0, 0),
  (23, 24, .aload_n 0, [], 0, 0),
  (24, 25, .iload_n 1, [], 0, 0),
  (25, 26, .iload_n 2, [], 0, 0),
  (26, 29, .invokevirtual 155, [0, 69], 0, 0),
  (29, 31, .istore 7, [], 0, 0),
  (31, 32, .aload_n 0, [], 0, 0),
  (32, 33, .iload_n 3, [], 0, 0),
  (33, 35, .iload 6, [], 0, 0),
  (35, 37, .iload 7, [], 0, 0),
  (37, 39, .aload 5, [], 0, 0),
  (39, 42, .getfield 158, [3, 3], 0, 0),
  (42, 43, .iload_n 1, [], 0, 0),
  (43, 44, .iaload, [], 0, 0),
  (44, 46, .aload 5, [], 0, 0),
  (46, 49, .getfield 97, [3, 4], 0, 0),
  (49, 50, .iload_n 1, [], 0, 0),
  (50, 51, .iaload, [], 0, 0),
  (51, 53, .iload 4, [], 0, 0),
  (53, 56, .invokevirtual 161, [0, 70], 0, 0),
  (56, 57, .ireturn, [], 0, 0)]
def mX9_hearsLie : xM := (71, 9, cX9_hearsLie, 8, (some .boolean), pX9_hearsLie)
set_option maxRecDepth 100000 in
theorem gX9_hearsLie : xgd mX9_hearsLie := ⟨by decide +kernel, xat_in (p := 5113) rfl, by decide +kernel, by decide +kernel, by decide, by decide +kernel, by decide +kernel⟩
set_option maxRecDepth 100000 in
def pX9_heardWithRust : List xRow := [(0, 1, .aload_n 0, [], 0, 0),
  (1, 4, .getfield 12, [9, 0], 0, 0),
  (4, 7, .getfield 53, [2, 2], 0, 0),
  (7, 8, .astore_n 3, [], 0, 0),
  (8, 9, .iconst 0, [], 0, 0),
  (9, 11, .istore 4, [], 0, 0),
  (11, 12, .iconst 0, [], 0, 0),
  (12, 14, .istore 5, [], 0, 0),
  (14, 16, .iload 5, [], 0, 0),
  (16, 17, .aload_n 3, [], 0, 0),
  (17, 20, .getfield 63, [7, 0], 0, 0),
  (20, 23, .if_icmp .ge 89, [109], 0, 0),
  (23, 24, .aload_n 3, [], 0, 0),
  (24, 27, .getfield 118, [7, 2], 0, 0),
  (27, 29, .iload 5, [], 0, 0),
  (29, 30, .iaload, [], 0, 0),
  (30, 32, .istore 6, [], 0, 0),
  (32, 33, .aload_n 0, [], 0, 0),
  (33, 34, .iload_n 1, [], 0, 0),
  (34, 36, .iload 6, [], 0, 0),
  (36, 39, .invokevirtual 155, [0, 69], 0, 0),
  (39, 41, .istore 7, [], 0, 0),
  (41, 42, .aload_n 0, [], 0, 0),
  (42, 45, .getfield 12, [9, 0], 0, 0),
  (45, 48, .getfield 72, [2, 1], 0, 0),
  (48, 51, .getfield 158, [3, 3], 0, 0),
  (51, 52, .iload_n 1, [], 0, 0),
  (52, 53, .iaload, [], 0, 0),
  (53, 55, .istore 8, [], 0, 0),
  (55, 56, .aload_n 0, [], 0, 0),
  (56, 57, .aload_n 3, [], 0, 0),
  (57, 60, .getfield 164, [7, 3], 0, 0),
  (60, 62, .iload 5, [], 0, 0),
  (62, 63, .iaload, [], 0, 0),
  (63, 64, .aload_n 0, [], 0, 0),
  (64, 67, .getfield 12, [9, 0], 0, 0),
  (67, 70, .getfield 79, [2, 0], 0, 0),
  (70, 73, .getfield 152, [4, 3], 0, 0),
  (73, 75, .iload 6, [], 0, 0),
  (75, 76, .iaload, [], 0, 0),
  (76, 78, .iload 7, [], 0, 0),
  (78, 80, .iload 8, [], 0, 0),
  (80, 81, .iload_n 2, [], 0, 0),
  (81, 82, .aload_n 3, [], 0, 0),
  (82, 85, .getfield 69, [7, 1], 0, 0),
  (85, 87, .iload 5, [], 0, 0),
  (87, 88, .iaload, [], 0, 0),
  (88, 91, .invokevirtual 161, [0, 70], 0, 0),
  (91, 94, .ifCond .eq 12, [103], 0, 0),
  (94, 96, .iload 4, [], 0, 0),
  (96, 97, .iconst 1, [], 1, 0),
  (97, 99, .iload 5, [], 0, 0),
  (99, 100, .ishl, [], 0, 0),
  (100, 101, .ior, [], 0, 0),
  (101, 103, .istore 4, [], 0, 0),
  (103, 106, .iinc 5 1, [], 1, 0),
  (106, 109, .goto (-92), [14], 0, 0),
  (109, 111, .iload 4, [], 0, 0),
  (111, 112, .ireturn, [], 0, 0)]
def mX9_heardWithRust : xM := (72, 9, cX9_heardWithRust, 9, (some .int), pX9_heardWithRust)
set_option maxRecDepth 100000 in
theorem gX9_heardWithRust : xgd mX9_heardWithRust := ⟨by decide +kernel, xat_in (p := 3007) rfl, by decide +kernel, by decide +kernel, by decide, by decide +kernel, by decide +kernel⟩
set_option maxRecDepth 100000 in
def pX9_farsHeard : List xRow := [(0, 1, .lconst 0, [], 0, 0),
  (1, 3, .lstore 6, [], 0, 0),
  (3, 4, .iconst 0, [], 0, 0),
  (4, 6, .istore 8, [], 0, 0),
  (6, 8, .iload 8, [], 0, 0),
  (8, 10, .bipush 41, [], 41, 0),
  (10, 13, .if_icmp .ge 34, [44], 0, 0),
  (13, 14, .aload_n 0, [], 0, 0),
  (14, 15, .iload_n 1, [], 0, 0),
  (15, 16, .iload_n 2, [], 0, 0),
  (16, 18, .iload 8, [], 0, 0),
  (18, 19, .iload_n 3, [], 0, 0),
  (19, 21, .iload 4, [], 0, 0),
  (21, 23, .iload 5, [], 0, 0),
  (23, 26, .invokevirtual 161, [0, 70], 0, 0),
  (26, 29, .ifCond .eq 12, [38], 0, 0),
  (29, 31, .lload 6, [], 0, 0),
  (31, 32, .lconst 1, [], 0, 1),
  (32, 34, .iload 8, [], 0, 0),
  (34, 35, .lshl, [], 0, 0),
  (35, 36, .lor, [], 0, 0),
  (36, 38, .lstore 6, [], 0, 0),
  (38, 41, .iinc 8 1, [], 1, 0),
  (41, 44, .goto (-35), [6], 0, 0),
  (44, 46, .lload 6, [], 0, 0),
  (46, 47, .lreturn, [], 0, 0)]
def mX9_farsHeard : xM := (73, 9, cX9_farsHeard, 9, (some .long), pX9_farsHeard)
set_option maxRecDepth 100000 in
theorem gX9_farsHeard : xgd mX9_farsHeard := ⟨by decide +kernel, xat_in (p := 5227) rfl, by decide +kernel, by decide +kernel, by decide, by decide +kernel, by decide +kernel⟩
set_option maxRecDepth 100000 in
def pX9_hearersOf : List xRow := [(0, 1, .iconst 0, [], 0, 0),
  (1, 2, .istore_n 2, [], 0, 0),
  (2, 3, .iconst 0, [], 0, 0),
  (3, 4, .istore_n 3, [], 0, 0),
  (4, 5, .iload_n 3, [], 0, 0),
  (5, 6, .aload_n 0, [], 0, 0),
  (6, 9, .getfield 12, [9, 0], 0, 0),
  (9, 12, .getfield 72, [2, 1], 0, 0),
  (12, 15, .getfield 76, [3, 0], 0, 0),
  (15, 18, .if_icmp .ge 24, [39], 0, 0),
  (18, 19, .iload_n 2, [], 0, 0),
  (19, 20, .aload_n 0, [], 0, 0),
  (20, 23, .getfield 18, [9, 1], 0, 0),
  (23, 24, .iload_n 3, [], 0, 0),
  (24, 25, .iaload, [], 0, 0),
  (25, 26, .iload_n 1, [], 0, 0),
  (26, 27, .ishr, [], 0, 0),
  (27, 28, .iconst 1, [], 1, 0),
  (28, 29, .iand, [], 0, 0),
  (29, 30, .iload_n 3, [], 0, 0),
  (30, 31, .ishl, [], 0, 0),
  (31, 32, .ior, [], 0, 0),
  (32, 33, .istore_n 2, [], 0, 0),
  (33, 36, .iinc 3 1, [], 1, 0),
  (36, 39, .goto (-32), [4], 0, 0),
  (39, 40, .iload_n 2, [], 0, 0),
  (40, 41, .ireturn, [], 0, 0)]
def mX9_hearersOf : xM := (74, 9, cX9_hearersOf, 4, (some .int), pX9_hearersOf)
set_option maxRecDepth 100000 in
theorem gX9_hearersOf : xgd mX9_hearersOf := ⟨by decide +kernel, xat_in (p := 5002) rfl, by decide +kernel, by decide +kernel, by decide, by decide +kernel, by decide +kernel⟩
set_option maxRecDepth 100000 in
def pX9_hearersOfLie : List xRow := [(0, 1, .iconst 0, [], 0, 0),
  (1, 3, .istore 4, [], 0, 0),
  (3, 4, .iconst 0, [], 0, 0),
  (4, 6, .istore 5, [], 0, 0),
  (6, 8, .iload 5, [], 0, 0),
  (8, 9, .aload_n 0, [], 0, 0),
  (9, 12, .getfield 12, [9, 0], 0, 0),
  (12, 15, .getfield 72, [2, 1], 0, 0),
  (15, 18, .getfield 76, [3, 0], 0, 0),
  (18, 21, .if_icmp .ge 30, [48], 0, 0),
  (21, 22, .aload_n 0, [], 0, 0),
  (22, 24, .iload 5, [], 0, 0),
  (24, 25, .iload_n 1, [], 0, 0),
  (25, 26, .iload_n 2, [], 0, 0),
  (26, 27, .iload_n 3, [], 0, 0),
  (27, 30, .invokevirtual 167, [0, 71], 0, 0),
  (30, 33, .ifCond .eq 12, [42], 0, 0),
  (33, 35, .iload 4, [], 0, 0),
  (35, 36, .iconst 1, [], 1, 0),
  (36, 38, .iload 5, [], 0, 0),
  (38, 39, .ishl, [], 0, 0),
  (39, 40, .ior, [], 0, 0),
  (40, 42, .istore 4, [], 0, 0),
  (42, 45, .iinc 5 1, [], 1, 0),
  (45, 48, .goto (-39), [6], 0, 0),
  (48, 50, .iload 4, [], 0, 0),
  (50, 51, .ireturn, [], 0, 0)]
def mX9_hearersOfLie : xM := (75, 9, cX9_hearersOfLie, 6, (some .int), pX9_hearersOfLie)
set_option maxRecDepth 100000 in
theorem gX9_hearersOfLie : xgd mX9_hearersOfLie := ⟨by decide +kernel, xat_in (p := 5128) rfl, by decide +kernel, by decide +kernel, by decide, by decide +kernel, by decide +kernel⟩
set_option maxRecDepth 100000 in
def pX9_inReach : List xRow := [(0, 1, .iconst 0, [], 0, 0),
  (1, 2, .istore_n 2, [], 0, 0),
  (2, 3, .iconst 0, [], 0, 0),
  (3, 4, .istore_n 3, [], 0, 0),
  (4, 5, .iload_n 3, [], 0, 0),
  (5, 6, .aload_n 0, [], 0, 0),
  (6, 9, .getfield 12, [9, 0], 0, 0),
  (9, 12, .getfield 72, [2, 1], 0, 0),
  (12, 15, .getfield 76, [3, 0], 0, 0),
  (15, 18, .if_icmp .ge 36, [51], 0, 0),
  (18, 19, .aload_n 0, [], 0, 0),
  (19, 20, .iload_n 3, [], 0, 0),
  (20, 21, .iload_n 1, [], 0, 0),
  (21, 24, .invokevirtual 155, [0, 69], 0, 0),
  (24, 25, .aload_n 0, [], 0, 0),
  (25, 28, .getfield 12, [9, 0], 0, 0),
  (28, 31, .getfield 72, [2, 1], 0, 0),
  (31, 34, .getfield 158, [3, 3], 0, 0),
  (34, 35, .iload_n 3, [], 0, 0),
  (35, 36, .iaload, [], 0, 0),
  (36, 39, .if_icmp .gt 9, [45], 0, 0),
  (39, 40, .iload_n 2, [], 0, 0),
  (40, 41, .iconst 1, [], 1, 0),
  (41, 42, .iload_n 3, [], 0, 0),
  (42, 43, .ishl, [], 0, 0),
  (43, 44, .ior, [], 0, 0),
  (44, 45, .istore_n 2, [], 0, 0),
  (45, 48, .iinc 3 1, [], 1, 0),
  (48, 51, .goto (-44), [4], 0, 0),
  (51, 52, .iload_n 2, [], 0, 0),
  (52, 53, .ireturn, [], 0, 0)]
def mX9_inReach : xM := (76, 9, cX9_inReach, 4, (some .int), pX9_inReach)
set_option maxRecDepth 100000 in
theorem gX9_inReach : xgd mX9_inReach := ⟨by decide +kernel, xat_in (p := 4210) rfl, by decide +kernel, by decide +kernel, by decide, by decide +kernel, by decide +kernel⟩
set_option maxRecDepth 100000 in
def pX9_pointsAt : List xRow := [(0, 1, .aload_n 0, [], 0, 0),
  (1, 4, .getfield 24, [9, 2], 0, 0),
  (4, 5, .iload_n 1, [], 0, 0),
  (5, 6, .aaload, [], 0, 0),
  (6, 7, .iload_n 3, [], 0, 0),
  (7, 8, .iaload, [], 0, 0),
  (8, 10, .istore 4, [], 0, 0),
  (10, 12, .iload 4, [], 0, 0),
  (12, 14, .bipush 8, [], 8, 0),
  (14, 17, .if_icmp .eq 20, [34], 0, 0),
  (17, 19, .iload 4, [], 0, 0),
  (19, 20, .aload_n 0, [], 0, 0),
  (20, 23, .getfield 30, [9, 4], 0, 0),
  (23, 24, .iload_n 1, [], 0, 0),
  (24, 25, .aaload, [], 0, 0),
  (25, 26, .iload_n 2, [], 0, 0),
  (26, 27, .iaload, [], 0, 0),
  (27, 30, .if_icmp .ne 7, [34], 0, 0),
  (30, 31, .iconst 1, [], 1, 0),
  (31, 34, .goto 4, [35], 0, 0),
  (34, 35, .iconst 0, [], 0, 0),
  (35, 36, .ireturn, [], 0, 0)]
def mX9_pointsAt : xM := (77, 9, cX9_pointsAt, 5, (some .boolean), pX9_pointsAt)
set_option maxRecDepth 100000 in
theorem gX9_pointsAt : xgd mX9_pointsAt := ⟨by decide +kernel, xat_in (p := 3096) rfl, by decide +kernel, by decide +kernel, by decide, by decide +kernel, by decide +kernel⟩
set_option maxRecDepth 100000 in
def pX9_pointersAt : List xRow := [(0, 1, .iconst 0, [], 0, 0),
  (1, 2, .istore_n 3, [], 0, 0),
  (2, 3, .iconst 0, [], 0, 0),
  (3, 5, .istore 4, [], 0, 0),
  (5, 7, .iload 4, [], 0, 0),
  (7, 8, .aload_n 0, [], 0, 0),
  (8, 11, .getfield 12, [9, 0], 0, 0),
  (11, 14, .getfield 72, [2, 1], 0, 0),
  (14, 17, .getfield 76, [3, 0], 0, 0),
  (17, 20, .if_icmp .ge 27, [44], 0, 0),
  (20, 21, .aload_n 0, [], 0, 0),
  (21, 23, .iload 4, [], 0, 0),
  (23, 24, .iload_n 1, [], 0, 0),
  (24, 25, .iload_n 2, [], 0, 0),
  (25, 28, .invokevirtual 171, [0, 77], 0, 0),
  (28, 31, .ifCond .eq 10, [38], 0, 0),
  (31, 32, .iload_n 3, [], 0, 0),
  (32, 33, .iconst 1, [], 1, 0),
  (33, 35, .iload 4, [], 0, 0),
  (35, 36, .ishl, [], 0, 0),
  (36, 37, .ior, [], 0, 0),
  (37, 38, .istore_n 3, [], 0, 0),
  (38, 41, .iinc 4 1, [], 1, 0),
  (41, 44, .goto (-36), [5], 0, 0),
  (44, 45, .iload_n 3, [], 0, 0),
  (45, 46, .ireturn, [], 0, 0)]
def mX9_pointersAt : xM := (78, 9, cX9_pointersAt, 5, (some .int), pX9_pointersAt)
set_option maxRecDepth 100000 in
theorem gX9_pointersAt : xgd mX9_pointersAt := ⟨by decide +kernel, xat_in (p := 5034) rfl, by decide +kernel, by decide +kernel, by decide, by decide +kernel, by decide +kernel⟩
set_option maxRecDepth 100000 in
def pX9_pointedBy : List xRow := [(0, 1, .iconst 0, [], 0, 0),
  (1, 2, .istore_n 3, [], 0, 0),
  (2, 3, .iconst 0, [], 0, 0),
  (3, 5, .istore 4, [], 0, 0),
  (5, 7, .iload 4, [], 0, 0),
  (7, 8, .aload_n 0, [], 0, 0),
  (8, 11, .getfield 12, [9, 0], 0, 0),
  (11, 14, .getfield 79, [2, 0], 0, 0),
  (14, 17, .getfield 83, [4, 0], 0, 0),
  (17, 20, .if_icmp .ge 27, [44], 0, 0),
  (20, 21, .aload_n 0, [], 0, 0),
  (21, 22, .iload_n 1, [], 0, 0),
  (22, 24, .iload 4, [], 0, 0),
  (24, 25, .iload_n 2, [], 0, 0),
  (25, 28, .invokevirtual 171, [0, 77], 0, 0),
  (28, 31, .ifCond .eq 10, [38], 0, 0),
  (31, 32, .iload_n 3, [], 0, 0),
  (32, 33, .iconst 1, [], 1, 0),
  (33, 35, .iload 4, [], 0, 0),
  (35, 36, .ishl, [], 0, 0),
  (36, 37, .ior, [], 0, 0),
  (37, 38, .istore_n 3, [], 0, 0),
  (38, 41, .iinc 4 1, [], 1, 0),
  (41, 44, .goto (-36), [5], 0, 0),
  (44, 45, .iload_n 3, [], 0, 0),
  (45, 46, .ireturn, [], 0, 0)]
def mX9_pointedBy : xM := (79, 9, cX9_pointedBy, 5, (some .int), pX9_pointedBy)
set_option maxRecDepth 100000 in
theorem gX9_pointedBy : xgd mX9_pointedBy := ⟨by decide +kernel, xat_in (p := 3092) rfl, by decide +kernel, by decide +kernel, by decide, by decide +kernel, by decide +kernel⟩
set_option maxRecDepth 100000 in
def pX9_clashesIn : List xRow := [(0, 1, .iconst 1, [], 1, 0),
  (1, 2, .istore_n 2, [], 0, 0),
  (2, 3, .iload_n 2, [], 0, 0),
  (3, 4, .aload_n 0, [], 0, 0),
  (4, 7, .getfield 12, [9, 0], 0, 0),
  (7, 10, .getfield 72, [2, 1], 0, 0),
  (10, 13, .getfield 76, [3, 0], 0, 0),
  (13, 16, .if_icmp .ge 58, [71], 0, 0),
  (16, 17, .aload_n 0, [], 0, 0),
  (17, 18, .iload_n 2, [], 0, 0),
  (18, 19, .iload_n 1, [], 0, 0),
  (19, 22, .invokevirtual 175, [0, 79], 0, 0),
  (22, 23, .istore_n 3, [], 0, 0),
  (23, 24, .iconst 0, [], 0, 0),
  (24, 26, .istore 4, [], 0, 0),
  (26, 28, .iload 4, [], 0, 0),
  (28, 29, .iload_n 2, [], 0, 0),
  (29, 32, .if_icmp .ge 36, [65], 0, 0),
  (32, 33, .iload_n 3, [], 0, 0),
  (33, 36, .ifCond .eq 32, [65], 0, 0),
  (36, 37, .aload_n 0, [], 0, 0),
  (37, 39, .iload 4, [], 0, 0),
  (39, 40, .iload_n 1, [], 0, 0),
  (40, 43, .invokevirtual 175, [0, 79], 0, 0),
  (43, 45, .istore 5, [], 0, 0),
  (45, 47, .iload 5, [], 0, 0),
  (47, 50, .ifCond .eq 12, [59], 0, 0),
  (50, 52, .iload 5, [], 0, 0),
  (52, 53, .iload_n 3, [], 0, 0),
  (53, 54, .iand, [], 0, 0),
  (54, 57, .ifCond .ne 5, [59], 0, 0),
  (57, 58, .iconst 1, [], 1, 0),
  (58, 59, .ireturn, [], 0, 0),
  (59, 62, .iinc 4 1, [], 1, 0),
  (62, 65, .goto (-36), [26], 0, 0),
  (65, 68, .iinc 2 1, [], 1, 0),
  (68, 71, .goto (-66), [2], 0, 0),
  (71, 72, .iconst 0, [], 0, 0),
  (72, 73, .ireturn, [], 0, 0)]
def mX9_clashesIn : xM := (80, 9, cX9_clashesIn, 6, (some .boolean), pX9_clashesIn)
set_option maxRecDepth 100000 in
theorem gX9_clashesIn : xgd mX9_clashesIn := ⟨by decide +kernel, xat_in (p := 3088) rfl, by decide +kernel, by decide +kernel, by decide, by decide +kernel, by decide +kernel⟩
set_option maxRecDepth 100000 in
def pX9_quivers : List xRow := [(0, 1, .iconst 0, [], 0, 0),
  (1, 2, .istore_n 2, [], 0, 0),
  (2, 3, .iconst 1, [], 1, 0),
  (3, 4, .istore_n 3, [], 0, 0),
  (4, 5, .iload_n 3, [], 0, 0),
  (5, 7, .bipush 100, [], 100, 0),
  (7, 10, .if_icmp .ge 33, [40], 0, 0),
  (10, 11, .aload_n 0, [], 0, 0),
  (11, 14, .getfield 24, [9, 2], 0, 0),
  (14, 15, .iload_n 1, [], 0, 0),
  (15, 16, .aaload, [], 0, 0),
  (16, 17, .iload_n 3, [], 0, 0),
  (17, 18, .iaload, [], 0, 0),
  (18, 19, .aload_n 0, [], 0, 0),
  (19, 22, .getfield 24, [9, 2], 0, 0),
  (22, 23, .iload_n 1, [], 0, 0),
  (23, 24, .aaload, [], 0, 0),
  (24, 25, .iload_n 3, [], 0, 0),
  (25, 26, .iconst 1, [], 1, 0),
  (26, 27, .isub, [], 0, 0),
  (27, 28, .iaload, [], 0, 0),
  (28, 31, .if_icmp .eq 6, [34], 0, 0),
  (31, 34, .iinc 2 1, [], 1, 0),
  (34, 37, .iinc 3 1, [], 1, 0),
  (37, 40, .goto (-33), [4], 0, 0),
  (40, 41, .iload_n 2, [], 0, 0),
  (41, 42, .ireturn, [], 0, 0)]
def mX9_quivers : xM := (81, 9, cX9_quivers, 4, (some .int), pX9_quivers)
set_option maxRecDepth 100000 in
theorem gX9_quivers : xgd mX9_quivers := ⟨by decide +kernel, xat_in (p := 4226) rfl, by decide +kernel, by decide +kernel, by decide, by decide +kernel, by decide +kernel⟩
set_option maxRecDepth 100000 in
def pX9_turnedIn : List xRow := [(0, 1, .iconst 0, [], 0, 0),
  (1, 2, .istore_n 2, [], 0, 0),
  (2, 3, .iconst 0, [], 0, 0),
  (3, 4, .istore_n 3, [], 0, 0),
  (4, 5, .iload_n 3, [], 0, 0),
  (5, 6, .aload_n 0, [], 0, 0),
  (6, 9, .getfield 12, [9, 0], 0, 0),
  (9, 12, .getfield 72, [2, 1], 0, 0),
  (12, 15, .getfield 76, [3, 0], 0, 0),
  (15, 18, .if_icmp .ge 37, [52], 0, 0),
  (18, 19, .iload_n 1, [], 0, 0),
  (19, 22, .ifCond .le 33, [52], 0, 0),
  (22, 23, .aload_n 0, [], 0, 0),
  (23, 26, .getfield 24, [9, 2], 0, 0),
  (26, 27, .iload_n 3, [], 0, 0),
  (27, 28, .aaload, [], 0, 0),
  (28, 29, .iload_n 1, [], 0, 0),
  (29, 30, .iaload, [], 0, 0),
  (30, 31, .aload_n 0, [], 0, 0),
  (31, 34, .getfield 24, [9, 2], 0, 0),
  (34, 35, .iload_n 3, [], 0, 0),
  (35, 36, .aaload, [], 0, 0),
  (36, 37, .iload_n 1, [], 0, 0),
  (37, 38, .iconst 1, [], 1, 0),
  (38, 39, .isub, [], 0, 0),
  (39, 40, .iaload, [], 0, 0),
  (40, 43, .if_icmp .eq 6, [46], 0, 0),
  (43, 46, .iinc 2 1, [], 1, 0),
  (46, 49, .iinc 3 1, [], 1, 0),
  (49, 52, .goto (-45), [4], 0, 0),
  (52, 53, .iload_n 2, [], 0, 0),
  (53, 54, .ireturn, [], 0, 0)]
def mX9_turnedIn : xM := (82, 9, cX9_turnedIn, 4, (some .int), pX9_turnedIn)
set_option maxRecDepth 100000 in
theorem gX9_turnedIn : xgd mX9_turnedIn := ⟨by decide +kernel, xat_in (p := 6129) rfl, by decide +kernel, by decide +kernel, by decide, by decide +kernel, by decide +kernel⟩
set_option maxRecDepth 100000 in
def pX9_worth : List xRow := [(0, 1, .aload_n 0, [], 0, 0),
  (1, 4, .getfield 12, [9, 0], 0, 0),
  (4, 7, .getfield 53, [2, 2], 0, 0),
  (7, 8, .astore_n 2, [], 0, 0),
  (8, 9, .iconst 0, [], 0, 0),
  (9, 10, .istore_n 3, [], 0, 0),
  (10, 11, .iconst 0, [], 0, 0),
  (11, 13, .istore 4, [], 0, 0),
  (13, 15, .iload 4, [], 0, 0),
  (15, 16, .aload_n 2, [], 0, 0),
  (16, 19, .getfield 63, [7, 0], 0, 0),
  (19, 22, .if_icmp .ge 62, [81], 0, 0),
  (22, 23, .aload_n 0, [], 0, 0),
  (23, 26, .getfield 18, [9, 1], 0, 0),
  (26, 27, .iload_n 1, [], 0, 0),
  (27, 28, .iaload, [], 0, 0),
  (28, 30, .iload 4, [], 0, 0),
  (30, 31, .ishr, [], 0, 0),
  (31, 32, .iconst 1, [], 1, 0),
  (32, 33, .iand, [], 0, 0),
  (33, 36, .ifCond .eq 42, [75], 0, 0),
  (36, 37, .iload_n 3, [], 0, 0),
  (37, 38, .aload_n 0, [], 0, 0),
  (38, 41, .getfield 30, [9, 4], 0, 0),
  (41, 42, .iload_n 1, [], 0, 0),
  (42, 43, .aaload, [], 0, 0),
  (43, 44, .aload_n 2, [], 0, 0),
  (44, 47, .getfield 118, [7, 2], 0, 0),
  (47, 49, .iload 4, [], 0, 0),
  (49, 50, .iaload, [], 0, 0),
  (50, 51, .iaload, [], 0, 0),
  (51, 52, .aload_n 0, [], 0, 0),
  (52, 55, .getfield 24, [9, 2], 0, 0),
  (55, 56, .iload_n 1, [], 0, 0),
  (56, 57, .aaload, [], 0, 0),
  (57, 58, .aload_n 2, [], 0, 0),
  (58, 61, .getfield 69, [7, 1], 0, 0),
  (61, 63, .iload 4, [], 0, 0),
  (63, 64, .iaload, [], 0, 0),
  (64, 65, .iaload, [], 0, 0),
  (65, 68, .if_icmp .ne 7, [72], 0, 0),
  (68, 69, .iconst 1, [], 1, 0),
  (69, 72, .goto 4, [73], 0, 0),
  (72, 73, .iconst (-1), [], -1, 0),
  (73, 74, .iadd, [], 0, 0),
  (74, 75, .istore_n 3, [], 0, 0),
  (75, 78, .iinc 4 1, [], 1, 0),
  (78, 81, .goto (-65), [13], 0, 0),
  (81, 82, .iload_n 3, [], 0, 0),
  (82, 83, .ireturn, [], 0, 0)]
def mX9_worth : xM := (83, 9, cX9_worth, 5, (some .int), pX9_worth)
set_option maxRecDepth 100000 in
theorem gX9_worth : xgd mX9_worth := ⟨by decide +kernel, xat_in (p := 3112) rfl, by decide +kernel, by decide +kernel, by decide, by decide +kernel, by decide +kernel⟩
set_option maxRecDepth 100000 in
def pX9_liarsIn : List xRow := [(0, 1, .aload_n 0, [], 0, 0),
  (1, 4, .getfield 12, [9, 0], 0, 0),
  (4, 7, .getfield 53, [2, 2], 0, 0),
  (7, 8, .astore_n 2, [], 0, 0),
  (8, 9, .iconst 0, [], 0, 0),
  (9, 10, .istore_n 3, [], 0, 0),
  (10, 11, .iconst 0, [], 0, 0),
  (11, 13, .istore 4, [], 0, 0),
  (13, 15, .iload 4, [], 0, 0),
  (15, 16, .aload_n 2, [], 0, 0),
  (16, 19, .getfield 63, [7, 0], 0, 0),
  (19, 22, .if_icmp .ge 42, [61], 0, 0),
  (22, 23, .aload_n 2, [], 0, 0),
  (23, 26, .getfield 69, [7, 1], 0, 0),
  (26, 28, .iload 4, [], 0, 0),
  (28, 29, .iaload, [], 0, 0),
  (29, 30, .iload_n 1, [], 0, 0),
  (30, 33, .if_icmp .ne 25, [55], 0, 0),
  (33, 34, .aload_n 2, [], 0, 0),
  (34, 37, .getfield 164, [7, 3], 0, 0),
  (37, 39, .iload 4, [], 0, 0),
  (39, 40, .iaload, [], 0, 0),
  (40, 43, .ifCond .le 15, [55], 0, 0),
  (43, 44, .iload_n 3, [], 0, 0),
  (44, 45, .iconst 1, [], 1, 0),
  (45, 46, .aload_n 2, [], 0, 0),
  (46, 49, .getfield 118, [7, 2], 0, 0),
  (49, 51, .iload 4, [], 0, 0),
  (51, 52, .iaload, [], 0, 0),
  (52, 53, .ishl, [], 0, 0),
  (53, 54, .ior, [], 0, 0),
  (54, 55, .istore_n 3, [], 0, 0),
  (55, 58, .iinc 4 1, [], 1, 0),
  (58, 61, .goto (-45), [13], 0, 0),
  (61, 62, .iload_n 3, [], 0, 0),
  (62, 63, .ireturn, [], 0, 0)]
def mX9_liarsIn : xM := (84, 9, cX9_liarsIn, 5, (some .int), pX9_liarsIn)
set_option maxRecDepth 100000 in
theorem gX9_liarsIn : xgd mX9_liarsIn := ⟨by decide +kernel, xat_in (p := 6110) rfl, by decide +kernel, by decide +kernel, by decide, by decide +kernel, by decide +kernel⟩
set_option maxRecDepth 100000 in
def pX9_noteLies : List xRow := [(0, 1, .iconst 0, [], 0, 0),
  (1, 2, .istore_n 3, [], 0, 0),
  (2, 3, .iload_n 3, [], 0, 0),
  (3, 4, .aload_n 0, [], 0, 0),
  (4, 7, .getfield 12, [9, 0], 0, 0),
  (7, 10, .getfield 79, [2, 0], 0, 0),
  (10, 13, .getfield 83, [4, 0], 0, 0),
  (13, 16, .if_icmp .ge 22, [35], 0, 0),
  (16, 17, .aload_n 0, [], 0, 0),
  (17, 20, .getfield 36, [9, 6], 0, 0),
  (20, 21, .iload_n 3, [], 0, 0),
  (21, 22, .aload_n 0, [], 0, 0),
  (22, 23, .iload_n 3, [], 0, 0),
  (23, 24, .iload_n 1, [], 0, 0),
  (24, 25, .iload_n 2, [], 0, 0),
  (25, 28, .invokevirtual 178, [0, 75], 0, 0),
  (28, 29, .iastore, [], 0, 0),
  (29, 32, .iinc 3 1, [], 1, 0),
  (32, 35, .goto (-30), [2], 0, 0),
  (35, 36, .return_, [], 0, 0)]
def mX9_noteLies : xM := (85, 9, cX9_noteLies, 4, none, pX9_noteLies)
set_option maxRecDepth 100000 in
theorem gX9_noteLies : xgd mX9_noteLies := ⟨by decide +kernel, xat_in (p := 5124) rfl, by decide +kernel, by decide +kernel, by decide, by decide +kernel, by decide +kernel⟩
set_option maxRecDepth 100000 in
def pX9_noteSums : List xRow := [(0, 1, .iconst 0, [], 0, 0),
  (1, 2, .istore_n 2, [], 0, 0),
  (2, 3, .iload_n 2, [], 0, 0),
  (3, 4, .aload_n 0, [], 0, 0),
  (4, 7, .getfield 12, [9, 0], 0, 0),
  (7, 10, .getfield 72, [2, 1], 0, 0),
  (10, 13, .getfield 76, [3, 0], 0, 0),
  (13, 16, .if_icmp .ge 33, [46], 0, 0),
  (16, 17, .aload_n 0, [], 0, 0),
  (17, 18, .aload_n 0, [], 0, 0),
  (18, 21, .getfield 41, [9, 7], 0, 0),
  (21, 22, .iload_n 2, [], 0, 0),
  (22, 23, .aaload, [], 0, 0),
  (23, 24, .iload_n 2, [], 0, 0),
  (24, 25, .aload_n 0, [], 0, 0),
  (25, 28, .getfield 33, [9, 5], 0, 0),
  (28, 29, .iload_n 1, [], 0, 0),
  (29, 30, .iaload, [], 0, 0),
  (30, 31, .aload_n 0, [], 0, 0),
  (31, 34, .getfield 18, [9, 1], 0, 0),
  (34, 35, .iload_n 2, [], 0, 0),
  (35, 36, .iaload, [], 0, 0),
  (36, 37, .iand, [], 0, 0),
  (37, 40, .invokevirtual 107, [0, 65], 0, 0),
  (40, 43, .iinc 2 1, [], 1, 0),
  (43, 46, .goto (-41), [2], 0, 0),
  (46, 47, .return_, [], 0, 0)]
def mX9_noteSums : xM := (86, 9, cX9_noteSums, 3, none, pX9_noteSums)
set_option maxRecDepth 100000 in
theorem gX9_noteSums : xgd mX9_noteSums := ⟨by decide +kernel, xat_in (p := 5173) rfl, by decide +kernel, by decide +kernel, by decide, by decide +kernel, by decide +kernel⟩
set_option maxRecDepth 100000 in
def pX9_tellsApart : List xRow := [(0, 1, .iconst 1, [], 1, 0),
  (1, 2, .istore_n 2, [], 0, 0),
  (2, 3, .iload_n 2, [], 0, 0),
  (3, 4, .aload_n 0, [], 0, 0),
  (4, 7, .getfield 12, [9, 0], 0, 0),
  (7, 10, .getfield 79, [2, 0], 0, 0),
  (10, 13, .getfield 83, [4, 0], 0, 0),
  (13, 16, .if_icmp .ge 35, [48], 0, 0),
  (16, 17, .iconst 0, [], 0, 0),
  (17, 18, .istore_n 3, [], 0, 0),
  (18, 19, .iload_n 3, [], 0, 0),
  (19, 20, .iload_n 2, [], 0, 0),
  (20, 23, .if_icmp .ge 22, [42], 0, 0),
  (23, 24, .aload_n 0, [], 0, 0),
  (24, 25, .iload_n 2, [], 0, 0),
  (25, 26, .iload_n 3, [], 0, 0),
  (26, 29, .invokevirtual 182, [0, 88], 0, 0),
  (29, 30, .iload_n 1, [], 0, 0),
  (30, 31, .iand, [], 0, 0),
  (31, 34, .ifCond .ne 5, [36], 0, 0),
  (34, 35, .iconst 0, [], 0, 0),
  (35, 36, .ireturn, [], 0, 0),
  (36, 39, .iinc 3 1, [], 1, 0),
  (39, 42, .goto (-21), [18], 0, 0),
  (42, 45, .iinc 2 1, [], 1, 0),
  (45, 48, .goto (-43), [2], 0, 0),
  (48, 49, .iconst 1, [], 1, 0),
  (49, 50, .ireturn, [], 0, 0)]
def mX9_tellsApart : xM := (87, 9, cX9_tellsApart, 4, (some .boolean), pX9_tellsApart)
set_option maxRecDepth 100000 in
theorem gX9_tellsApart : xgd mX9_tellsApart := ⟨by decide +kernel, xat_in (p := 5133) rfl, by decide +kernel, by decide +kernel, by decide, by decide +kernel, by decide +kernel⟩
set_option maxRecDepth 100000 in
def pX9_unlike : List xRow := [(0, 1, .iconst 0, [], 0, 0),
  (1, 2, .istore_n 3, [], 0, 0),
  (2, 3, .iconst 0, [], 0, 0),
  (3, 5, .istore 4, [], 0, 0),
  (5, 7, .iload 4, [], 0, 0),
  (7, 8, .aload_n 0, [], 0, 0),
  (8, 11, .getfield 12, [9, 0], 0, 0),
  (11, 14, .getfield 72, [2, 1], 0, 0),
  (14, 17, .getfield 76, [3, 0], 0, 0),
  (17, 20, .if_icmp .ge 33, [50], 0, 0),
  (20, 21, .aload_n 0, [], 0, 0),
  (21, 23, .iload 4, [], 0, 0),
  (23, 24, .iload_n 1, [], 0, 0),
  (24, 27, .invokevirtual 185, [0, 89], 0, 0),
  (27, 28, .aload_n 0, [], 0, 0),
  (28, 30, .iload 4, [], 0, 0),
  (30, 31, .iload_n 2, [], 0, 0),
  (31, 34, .invokevirtual 185, [0, 89], 0, 0),
  (34, 37, .if_icmp .eq 10, [44], 0, 0),
  (37, 38, .iload_n 3, [], 0, 0),
  (38, 39, .iconst 1, [], 1, 0),
  (39, 41, .iload 4, [], 0, 0),
  (41, 42, .ishl, [], 0, 0),
  (42, 43, .ior, [], 0, 0),
  (43, 44, .istore_n 3, [], 0, 0),
  (44, 47, .iinc 4 1, [], 1, 0),
  (47, 50, .goto (-42), [5], 0, 0),
  (50, 51, .iload_n 3, [], 0, 0),
  (51, 52, .ireturn, [], 0, 0)]
def mX9_unlike : xM := (88, 9, cX9_unlike, 5, (some .int), pX9_unlike)
set_option maxRecDepth 100000 in
theorem gX9_unlike : xgd mX9_unlike := ⟨by decide +kernel, xat_in (p := 5137) rfl, by decide +kernel, by decide +kernel, by decide, by decide +kernel, by decide +kernel⟩
set_option maxRecDepth 100000 in
def pX9_shownAlone : List xRow := [(0, 1, .aload_n 0, [], 0, 0),
  (1, 4, .getfield 36, [9, 6], 0, 0),
  (4, 5, .iload_n 2, [], 0, 0),
  (5, 6, .iaload, [], 0, 0),
  (6, 7, .iload_n 1, [], 0, 0),
  (7, 8, .ishr, [], 0, 0),
  (8, 9, .iconst 1, [], 1, 0),
  (9, 10, .iand, [], 0, 0),
  (10, 13, .ifCond .eq 14, [24], 0, 0),
  (13, 14, .aload_n 0, [], 0, 0),
  (14, 17, .getfield 30, [9, 4], 0, 0),
  (17, 18, .iload_n 1, [], 0, 0),
  (18, 19, .aaload, [], 0, 0),
  (19, 20, .iload_n 2, [], 0, 0),
  (20, 21, .iaload, [], 0, 0),
  (21, 24, .goto 4, [25], 0, 0),
  (24, 25, .iconst (-1), [], -1, 0),
  (25, 26, .ireturn, [], 0, 0)]
def mX9_shownAlone : xM := (89, 9, cX9_shownAlone, 3, (some .int), pX9_shownAlone)
set_option maxRecDepth 100000 in
theorem gX9_shownAlone : xgd mX9_shownAlone := ⟨by decide +kernel, xat_in (p := 5141) rfl, by decide +kernel, by decide +kernel, by decide, by decide +kernel, by decide +kernel⟩
set_option maxRecDepth 100000 in
def pX9_hearAll : List xRow := [(0, 1, .iconst 0, [], 0, 0),
  (1, 2, .istore_n 2, [], 0, 0),
  (2, 3, .iload_n 2, [], 0, 0),
  (3, 4, .aload_n 0, [], 0, 0),
  (4, 7, .getfield 12, [9, 0], 0, 0),
  (7, 10, .getfield 79, [2, 0], 0, 0),
  (10, 13, .getfield 83, [4, 0], 0, 0),
  (13, 16, .if_icmp .ge 22, [35], 0, 0),
  (16, 17, .aload_n 0, [], 0, 0),
  (17, 20, .getfield 36, [9, 6], 0, 0),
  (20, 21, .iload_n 2, [], 0, 0),
  (21, 22, .iaload, [], 0, 0),
  (22, 23, .iload_n 1, [], 0, 0),
  (23, 24, .iand, [], 0, 0),
  (24, 27, .ifCond .ne 5, [29], 0, 0),
  (27, 28, .iconst 0, [], 0, 0),
  (28, 29, .ireturn, [], 0, 0),
  (29, 32, .iinc 2 1, [], 1, 0),
  (32, 35, .goto (-30), [2], 0, 0),
  (35, 36, .iconst 1, [], 1, 0),
  (36, 37, .ireturn, [], 0, 0)]
def mX9_hearAll : xM := (90, 9, cX9_hearAll, 3, (some .boolean), pX9_hearAll)
set_option maxRecDepth 100000 in
theorem gX9_hearAll : xgd mX9_hearAll := ⟨by decide +kernel, xat_in (p := 6085) rfl, by decide +kernel, by decide +kernel, by decide, by decide +kernel, by decide +kernel⟩
set_option maxRecDepth 100000 in
def pX9_allShow : List xRow := [(0, 1, .iconst 0, [], 0, 0),
  (1, 3, .istore 5, [], 0, 0),
  (3, 5, .iload 5, [], 0, 0),
  (5, 6, .aload_n 0, [], 0, 0),
  (6, 9, .getfield 12, [9, 0], 0, 0),
  (9, 12, .getfield 72, [2, 1], 0, 0),
  (12, 15, .getfield 76, [3, 0], 0, 0),
  (15, 18, .if_icmp .ge 33, [48], 0, 0),
  (18, 19, .iload_n 1, [], 0, 0),
  (19, 21, .iload 5, [], 0, 0),
  (21, 22, .ishr, [], 0, 0),
  (22, 23, .iconst 1, [], 1, 0),
  (23, 24, .iand, [], 0, 0),
  (24, 27, .ifCond .eq 18, [42], 0, 0),
  (27, 28, .aload_n 0, [], 0, 0),
  (28, 30, .iload 5, [], 0, 0),
  (30, 31, .iload_n 2, [], 0, 0),
  (31, 32, .iload_n 3, [], 0, 0),
  (32, 35, .invokevirtual 188, [0, 92], 0, 0),
  (35, 37, .iload 4, [], 0, 0),
  (37, 40, .if_icmp .eq 5, [42], 0, 0),
  (40, 41, .iconst 0, [], 0, 0),
  (41, 42, .ireturn, [], 0, 0),
  (42, 45, .iinc 5 1, [], 1, 0),
  (45, 48, .goto (-42), [3], 0, 0),
  (48, 49, .iconst 1, [], 1, 0),
  (49, 50, .ireturn, [], 0, 0)]
def mX9_allShow : xM := (91, 9, cX9_allShow, 6, (some .boolean), pX9_allShow)
set_option maxRecDepth 100000 in
theorem gX9_allShow : xgd mX9_allShow := ⟨by decide +kernel, xat_in (p := 5177) rfl, by decide +kernel, by decide +kernel, by decide, by decide +kernel, by decide +kernel⟩
set_option maxRecDepth 100000 in
def pX9_shownBesidesLies : List xRow := [(0, 1, .iconst 0, [], 0, 0),
  (1, 3, .istore 4, [], 0, 0),
  (3, 4, .aload_n 0, [], 0, 0),
  (4, 7, .getfield 46, [9, 8], 0, 0),
  (7, 8, .aload_n 0, [], 0, 0),
  (8, 11, .getfield 41, [9, 7], 0, 0),
  (11, 12, .iload_n 1, [], 0, 0),
  (12, 13, .aaload, [], 0, 0),
  (13, 16, .invokevirtual 191, [0, 96], 0, 0),
  (16, 17, .iconst 0, [], 0, 0),
  (17, 19, .istore 5, [], 0, 0),
  (19, 21, .iload 5, [], 0, 0),
  (21, 22, .aload_n 0, [], 0, 0),
  (22, 25, .getfield 12, [9, 0], 0, 0),
  (25, 28, .getfield 79, [2, 0], 0, 0),
  (28, 31, .getfield 83, [4, 0], 0, 0),
  (31, 34, .if_icmp .ge 46, [77], 0, 0),
  (34, 35, .iload_n 3, [], 0, 0),
  (35, 37, .iload 5, [], 0, 0),
  (37, 38, .ishr, [], 0, 0),
  (38, 39, .iconst 1, [], 1, 0),
  (39, 40, .iand, [], 0, 0),
  (40, 43, .ifCond .eq 31, [71], 0, 0),
  (43, 44, .aload_n 0, [], 0, 0),
  (44, 47, .getfield 36, [9, 6], 0, 0),
  (47, 49, .iload 5, [], 0, 0),
  (49, 50, .iaload, [], 0, 0),
  (50, 51, .iload_n 1, [], 0, 0),
  (51, 52, .ishr, [], 0, 0),
  (52, 53, .iconst 1, [], 1, 0),
  (53, 54, .iand, [], 0, 0),
  (54, 57, .ifCond .eq 17, [71], 0, 0),
  (57, 58, .aload_n 0, [], 0, 0),
  (58, 59, .aload_n 0, [], 0, 0),
  (59, 62, .getfield 46, [9, 8], 0, 0),
  (62, 63, .iload_n 1, [], 0, 0),
  (63, 65, .iload 5, [], 0, 0),
  (65, 68, .invokevirtual 121, [0, 68], 0, 0),
  (68, 69, .iconst 1, [], 1, 0),
  (69, 71, .istore 4, [], 0, 0),
  (71, 74, .iinc 5 1, [], 1, 0),
  (74, 77, .goto (-55), [19], 0, 0),
  (77, 79, .iload 4, [], 0, 0),
  (79, 82, .ifCond .eq 13, [92], 0, 0),
  (82, 83, .aload_n 0, [], 0, 0),
  (83, 86, .getfield 46, [9, 8], 0, 0),
  (86, 89, .invokevirtual 111, [0, 98], 0, 0),
  (89, 92, .goto 11, [100], 0, 0),
  (92, 93, .aload_n 0, [], 0, 0),
  (93, 96, .getfield 24, [9, 2], 0, 0),
  (96, 97, .iload_n 1, [], 0, 0),
  (97, 98, .aaload, [], 0, 0),
  (98, 99, .iload_n 2, [], 0, 0),
  (99, 100, .iaload, [], 0, 0),
  (100, 101, .ireturn, [], 0, 0)]
def mX9_shownBesidesLies : xM := (92, 9, cX9_shownBesidesLies, 6, (some .int), pX9_shownBesidesLies)
set_option maxRecDepth 100000 in
theorem gX9_shownBesidesLies : xgd mX9_shownBesidesLies := ⟨by decide +kernel, xat_in (p := 5181) rfl, by decide +kernel, by decide +kernel, by decide, by decide +kernel, by decide +kernel⟩
set_option maxRecDepth 100000 in
def pX9_shownBesides : List xRow := [(0, 1, .iload_n 2, [], 0, 0),
  (1, 2, .iload_n 3, [], 0, 0),
  (2, 5, .if_icmp .lt 15, [17], 0, 0),
  (5, 6, .aload_n 0, [], 0, 0),
  (6, 9, .getfield 27, [9, 3], 0, 0),
  (9, 10, .iload_n 1, [], 0, 0),
  (10, 11, .aaload, [], 0, 0),
  (11, 12, .iload_n 2, [], 0, 0),
  (12, 13, .iaload, [], 0, 0),
  (13, 14, .iload_n 3, [], 0, 0),
  (14, 17, .if_icmp .le 12, [26], 0, 0),
  (17, 18, .aload_n 0, [], 0, 0),
  (18, 21, .getfield 24, [9, 2], 0, 0),
  (21, 22, .iload_n 1, [], 0, 0),
  (22, 23, .aaload, [], 0, 0),
  (23, 24, .iload_n 2, [], 0, 0),
  (24, 25, .iaload, [], 0, 0),
  (25, 26, .ireturn, [], 0, 0),
  (26, 27, .aload_n 0, [], 0, 0),
  (27, 30, .getfield 46, [9, 8], 0, 0),
  (30, 31, .aload_n 0, [], 0, 0),
  (31, 34, .getfield 41, [9, 7], 0, 0),
  (34, 35, .iload_n 1, [], 0, 0),
  (35, 36, .aaload, [], 0, 0),
  (36, 39, .invokevirtual 191, [0, 96], 0, 0),
  (39, 40, .aload_n 0, [], 0, 0),
  (40, 43, .getfield 46, [9, 8], 0, 0),
  (43, 45, .iload 4, [], 0, 0),
  (45, 46, .aload_n 0, [], 0, 0),
  (46, 49, .getfield 12, [9, 0], 0, 0),
  (49, 52, .getfield 72, [2, 1], 0, 0),
  (52, 55, .getfield 127, [3, 1], 0, 0),
  (55, 56, .iload_n 1, [], 0, 0),
  (56, 57, .iaload, [], 0, 0),
  (57, 58, .isub, [], 0, 0),
  (58, 60, .iload 5, [], 0, 0),
  (60, 61, .aload_n 0, [], 0, 0),
  (61, 64, .getfield 12, [9, 0], 0, 0),
  (64, 67, .getfield 72, [2, 1], 0, 0),
  (67, 70, .getfield 131, [3, 2], 0, 0),
  (70, 71, .iload_n 1, [], 0, 0),
  (71, 72, .iaload, [], 0, 0),
  (72, 73, .isub, [], 0, 0),
  (73, 76, .invokevirtual 132, [0, 97], 0, 0),
  (76, 77, .aload_n 0, [], 0, 0),
  (77, 80, .getfield 46, [9, 8], 0, 0),
  (80, 83, .invokevirtual 111, [0, 98], 0, 0),
  (83, 84, .ireturn, [], 0, 0)]
def mX9_shownBesides : xM := (93, 9, cX9_shownBesides, 6, (some .int), pX9_shownBesides)
set_option maxRecDepth 100000 in
theorem gX9_shownBesides : xgd mX9_shownBesides := ⟨by decide +kernel, xat_in (p := 5216) rfl, by decide +kernel, by decide +kernel, by decide, by decide +kernel, by decide +kernel⟩
set_option maxRecDepth 100000 in
def pX10_init : List xRow := [(0, 1, .aload_n 0, [], 0, 0),
  (1, 4, .invokespecial 3, [15, 0], 0, 0),
  (4, 5, .return_, [], 0, 0)]
def mX10_init : xM := (94, 10, cX10_init, 1, none, pX10_init)
set_option maxRecDepth 100000 in
theorem gX10_init : xgd mX10_init := ⟨by decide +kernel, xat_in (p := 2014) rfl, by decide +kernel, by decide +kernel, by decide, by decide +kernel, by decide +kernel⟩
set_option maxRecDepth 100000 in
def pX10_clear : List xRow := [(0, 1, .aload_n 0, [], 0, 0),
  (1, 2, .iconst 0, [], 0, 0),
  (2, 5, .putfield 9, [10, 0], 0, 0),
  (5, 6, .aload_n 0, [], 0, 0),
  (6, 7, .iconst 0, [], 0, 0),
  (7, 10, .putfield 15, [10, 1], 0, 0),
  (10, 11, .aload_n 0, [], 0, 0),
  (11, 12, .iconst 0, [], 0, 0),
  (12, 15, .putfield 18, [10, 2], 0, 0),
  (15, 16, .return_, [], 0, 0)]
def mX10_clear : xM := (95, 10, cX10_clear, 1, none, pX10_clear)
set_option maxRecDepth 100000 in
theorem gX10_clear : xgd mX10_clear := ⟨by decide +kernel, xat_in (p := 3046) rfl, by decide +kernel, by decide +kernel, by decide, by decide +kernel, by decide +kernel⟩
set_option maxRecDepth 100000 in
def pX10_copyFrom : List xRow := [(0, 1, .aload_n 0, [], 0, 0),
  (1, 2, .aload_n 1, [], 0, 0),
  (2, 5, .getfield 9, [10, 0], 0, 0),
  (5, 8, .putfield 9, [10, 0], 0, 0),
  (8, 9, .aload_n 0, [], 0, 0),
  (9, 10, .aload_n 1, [], 0, 0),
  (10, 13, .getfield 15, [10, 1], 0, 0),
  (13, 16, .putfield 15, [10, 1], 0, 0),
  (16, 17, .aload_n 0, [], 0, 0),
  (17, 18, .aload_n 1, [], 0, 0),
  (18, 21, .getfield 18, [10, 2], 0, 0),
  (21, 24, .putfield 18, [10, 2], 0, 0),
  (24, 25, .return_, [], 0, 0)]
def mX10_copyFrom : xM := (96, 10, cX10_copyFrom, 2, none, pX10_copyFrom)
set_option maxRecDepth 100000 in
theorem gX10_copyFrom : xgd mX10_copyFrom := ⟨by decide +kernel, xat_in (p := 5185) rfl, by decide +kernel, by decide +kernel, by decide, by decide +kernel, by decide +kernel⟩
set_option maxRecDepth 100000 in
def pX10_add : List xRow := [(0, 1, .aload_n 0, [], 0, 0),
  (1, 2, .dup, [], 0, 0),
  (2, 5, .getfield 9, [10, 0], 0, 0),
  (5, 6, .iload_n 1, [], 0, 0),
  (6, 7, .iadd, [], 0, 0),
  (7, 10, .putfield 9, [10, 0], 0, 0),
  (10, 11, .aload_n 0, [], 0, 0),
  (11, 12, .dup, [], 0, 0),
  (12, 15, .getfield 15, [10, 1], 0, 0),
  (15, 16, .iload_n 2, [], 0, 0),
  (16, 17, .iadd, [], 0, 0),
  (17, 20, .putfield 15, [10, 1], 0, 0),
  (20, 21, .aload_n 0, [], 0, 0),
  (21, 22, .aload_n 0, [], 0, 0),
  (22, 25, .getfield 18, [10, 2], 0, 0),
  (25, 28, .ifCond .ne 11, [36], 0, 0),
  (28, 29, .iload_n 1, [], 0, 0),
  (29, 32, .ifCond .ne 7, [36], 0, 0),
  (32, 33, .iload_n 2, [], 0, 0),
  (33, 36, .ifCond .eq 7, [40], 0, 0),
  (36, 37, .iconst 1, [], 1, 0),
  (37, 40, .goto 4, [41], 0, 0),
  (40, 41, .iconst 0, [], 0, 0),
  (41, 44, .putfield 18, [10, 2], 0, 0),
  (44, 45, .return_, [], 0, 0)]
def mX10_add : xM := (97, 10, cX10_add, 3, none, pX10_add)
set_option maxRecDepth 100000 in
theorem gX10_add : xgd mX10_add := ⟨by decide +kernel, xat_in (p := 3054) rfl, by decide +kernel, by decide +kernel, by decide, by decide +kernel, by decide +kernel⟩
set_option maxRecDepth 100000 in
def pX10_sign : List xRow := [(0, 1, .aload_n 0, [], 0, 0),
  (1, 4, .getfield 18, [10, 2], 0, 0),
  (4, 7, .ifCond .ne 6, [10], 0, 0),
  (7, 9, .bipush 8, [], 8, 0),
  (9, 10, .ireturn, [], 0, 0),
  (10, 11, .aload_n 0, [], 0, 0),
  (11, 14, .getfield 9, [10, 0], 0, 0),
  (14, 17, .ifCond .ne 15, [29], 0, 0),
  (17, 18, .aload_n 0, [], 0, 0),
  (18, 21, .getfield 15, [10, 1], 0, 0),
  (21, 24, .ifCond .ne 8, [29], 0, 0),
  (24, 26, .bipush 9, [], 9, 0),
  (26, 29, .goto 16, [42], 0, 0),
  (29, 30, .aload_n 0, [], 0, 0),
  (30, 33, .getfield 9, [10, 0], 0, 0),
  (33, 34, .i2l, [], 0, 0),
  (34, 35, .aload_n 0, [], 0, 0),
  (35, 38, .getfield 15, [10, 1], 0, 0),
  (38, 39, .i2l, [], 0, 0),
  (39, 42, .invokestatic 22, [3, 153], 0, 0),
  (42, 43, .ireturn, [], 0, 0)]
def mX10_sign : xM := (98, 10, cX10_sign, 1, (some .int), pX10_sign)
set_option maxRecDepth 100000 in
theorem gX10_sign : xgd mX10_sign := ⟨by decide +kernel, xat_in (p := 3058) rfl, by decide +kernel, by decide +kernel, by decide, by decide +kernel, by decide +kernel⟩
set_option maxRecDepth 100000 in
def pJ6_bitCount_0f7a4 : List xRow := [(0, 1, .iload_n 0, [], 0, 0),
  (1, 2, .iload_n 0, [], 0, 0),
  (2, 3, .iconst 1, [], 1, 0),
  (3, 4, .iushr, [], 0, 0),
  (4, 7, .ldc_w 265, [], 1431655765, 0),
  (7, 8, .iand, [], 0, 0),
  (8, 9, .isub, [], 0, 0),
  (9, 10, .istore_n 0, [], 0, 0),
  (10, 11, .iload_n 0, [], 0, 0),
  (11, 14, .ldc_w 266, [], 858993459, 0),
  (14, 15, .iand, [], 0, 0),
  (15, 16, .iload_n 0, [], 0, 0),
  (16, 17, .iconst 2, [], 2, 0),
  (17, 18, .iushr, [], 0, 0),
  (18, 21, .ldc_w 266, [], 858993459, 0),
  (21, 22, .iand, [], 0, 0),
  (22, 23, .iadd, [], 0, 0),
  (23, 24, .istore_n 0, [], 0, 0),
  (24, 25, .iload_n 0, [], 0, 0),
  (25, 26, .iload_n 0, [], 0, 0),
  (26, 27, .iconst 4, [], 4, 0),
  (27, 28, .iushr, [], 0, 0),
  (28, 29, .iadd, [], 0, 0),
  (29, 32, .ldc_w 267, [], 252645135, 0),
  (32, 33, .iand, [], 0, 0),
  (33, 34, .istore_n 0, [], 0, 0),
  (34, 35, .iload_n 0, [], 0, 0),
  (35, 36, .iload_n 0, [], 0, 0),
  (36, 38, .bipush 8, [], 8, 0),
  (38, 39, .iushr, [], 0, 0),
  (39, 40, .iadd, [], 0, 0),
  (40, 41, .istore_n 0, [], 0, 0),
  (41, 42, .iload_n 0, [], 0, 0),
  (42, 43, .iload_n 0, [], 0, 0),
  (43, 45, .bipush 16, [], 16, 0),
  (45, 46, .iushr, [], 0, 0),
  (46, 47, .iadd, [], 0, 0),
  (47, 48, .istore_n 0, [], 0, 0),
  (48, 49, .iload_n 0, [], 0, 0),
  (49, 51, .bipush 63, [], 63, 0),
  (51, 52, .iand, [], 0, 0),
  (52, 53, .ireturn, [], 0, 0)]
def mJ6_bitCount_0f7a4 : xM := (285, 14, cJ6_bitCount_0f7a4, 1, (some .int), pJ6_bitCount_0f7a4)
set_option maxRecDepth 100000 in
theorem gJ6_bitCount_0f7a4 : xgd mJ6_bitCount_0f7a4 := ⟨by decide +kernel, xat_in (p := 5147) rfl, by decide +kernel, by decide +kernel, by decide, by decide +kernel, by decide +kernel⟩
set_option maxRecDepth 100000 in
def pJ7_fill_53178 : List xRow := [(0, 1, .iconst 0, [], 0, 0),
  (1, 2, .istore_n 2, [], 0, 0),
  (2, 3, .aload_n 0, [], 0, 0),
  (3, 4, .arraylength, [], 0, 0),
  (4, 5, .istore_n 3, [], 0, 0),
  (5, 6, .iload_n 2, [], 0, 0),
  (6, 7, .iload_n 3, [], 0, 0),
  (7, 10, .if_icmp .ge 13, [20], 0, 0),
  (10, 11, .aload_n 0, [], 0, 0),
  (11, 12, .iload_n 2, [], 0, 0),
  (12, 13, .iload_n 1, [], 0, 0),
  (13, 14, .iastore, [], 0, 0),
  (14, 17, .iinc 2 1, [], 1, 0),
  (17, 20, .goto (-12), [5], 0, 0),
  (20, 21, .return_, [], 0, 0)]
def mJ7_fill_53178 : xM := (300, 15, cJ7_fill_53178, 4, none, pJ7_fill_53178)
set_option maxRecDepth 100000 in
theorem gJ7_fill_53178 : xgd mJ7_fill_53178 := ⟨by decide +kernel, xat_in (p := 2234) rfl, by decide +kernel, by decide +kernel, by decide, by decide +kernel, by decide +kernel⟩
end
section
set_option maxRecDepth 100000 in
def pX11_init : List xRow := [(0, 1, .aload_n 0, [], 0, 0),
  (1, 4, .invokespecial 1, [15, 0], 0, 0),
  (4, 5, .aload_n 0, [], 0, 0),
  (5, 8, .new 7, [5], 0, 0),
  (8, 9, .dup, [], 0, 0),
  (9, 12, .invokespecial 9, [4, 21], 0, 0),
  (12, 15, .putfield 10, [11, 0], 0, 0),
  (15, 16, .aload_n 0, [], 0, 0),
  (16, 19, .new 16, [9], 0, 0),
  (19, 20, .dup, [], 0, 0),
  (20, 23, .invokespecial 18, [2, 62], 0, 0),
  (23, 26, .putfield 19, [11, 1], 0, 0),
  (26, 27, .aload_n 0, [], 0, 0),
  (27, 30, .new 23, [1], 0, 0),
  (30, 31, .dup, [], 0, 0),
  (31, 34, .invokespecial 25, [4, 5], 0, 0),
  (34, 37, .putfield 26, [11, 2], 0, 0),
  (37, 38, .aload_n 0, [], 0, 0),
  (38, 41, .new 30, [0], 0, 0),
  (41, 42, .dup, [], 0, 0),
  (42, 45, .invokespecial 32, [4, 0], 0, 0),
  (45, 48, .putfield 33, [11, 3], 0, 0),
  (48, 49, .aload_n 0, [], 0, 0),
  (49, 52, .new 37, [8], 0, 0),
  (52, 53, .dup, [], 0, 0),
  (53, 56, .invokespecial 39, [4, 59], 0, 0),
  (56, 59, .putfield 40, [11, 4], 0, 0),
  (59, 60, .aload_n 0, [], 0, 0),
  (60, 63, .new 44, [7], 0, 0),
  (63, 64, .dup, [], 0, 0),
  (64, 67, .invokespecial 46, [4, 51], 0, 0),
  (67, 70, .putfield 47, [11, 5], 0, 0),
  (70, 71, .aload_n 0, [], 0, 0),
  (71, 74, .new 51, [3], 0, 0),
  (74, 75, .dup, [], 0, 0),
  (75, 78, .invokespecial 53, [4, 14], 0, 0),
  (78, 81, .putfield 54, [11, 6], 0, 0),
  (81, 82, .aload_n 0, [], 0, 0),
  (82, 85, .new 30, [0], 0, 0),
  (85, 86, .dup, [], 0, 0),
  (86, 89, .invokespecial 32, [4, 0], 0, 0),
  (89, 92, .putfield 58, [11, 7], 0, 0),
  (92, 93, .aload_n 0, [], 0, 0),
  (93, 96, .new 37, [8], 0, 0),
  (96, 97, .dup, [], 0, 0),
  (97, 100, .invokespecial 39, [4, 59], 0, 0),
  (100, 103, .putfield 61, [11, 8], 0, 0),
  (103, 104, .aload_n 0, [], 0, 0),
  (104, 106, .bipush 100, [], 100, 0),
  (106, 108, .newarray .int, [], 0, 0),
  (108, 111, .putfield 64, [11, 9], 0, 0),
  (111, 112, .aload_n 0, [], 0, 0),
  (112, 114, .bipush 100, [], 100, 0),
  (114, 116, .newarray .int, [], 0, 0),
  (116, 119, .putfield 68, [11, 10], 0, 0),
  (119, 120, .aload_n 0, [], 0, 0),
  (120, 121, .iconst 4, [], 4, 0),
  (121, 123, .newarray .int, [], 0, 0),
  (123, 126, .putfield 71, [11, 11], 0, 0),
  (126, 127, .aload_n 0, [], 0, 0),
  (127, 129, .bipush 10, [], 10, 0),
  (129, 131, .newarray .long, [], 0, 0),
  (131, 134, .putfield 74, [11, 12], 0, 0),
  (134, 135, .aload_n 0, [], 0, 0),
  (135, 136, .iconst (-1), [], -1, 0),
  (136, 139, .putfield 78, [11, 14], 0, 0),
  (139, 140, .return_, [], 0, 0)]
def mX11_init : xM := (99, 11, cX11_init, 1, none, pX11_init)
set_option maxRecDepth 100000 in
theorem gX11_init : xgd mX11_init := ⟨by decide +kernel, xat_in (p := 1031) rfl, by decide +kernel, by decide +kernel, by decide, by decide +kernel, by decide +kernel⟩
set_option maxRecDepth 100000 in
def pX11_feed : List xRow := [(0, 1, .aload_n 0, [], 0, 0),
  (1, 4, .getfield 10, [11, 0], 0, 0),
  (4, 7, .getfield 82, [5, 1], 0, 0),
  (7, 9, .bipush 20, [], 20, 0),
  (9, 10, .iadd, [], 0, 0),
  (10, 13, .sipush 700, [], 700, 0),
  (13, 16, .if_icmp .le 5, [18], 0, 0),
  (16, 17, .iconst (-1), [], -1, 0),
  (17, 18, .ireturn, [], 0, 0),
  (18, 19, .aload_n 0, [], 0, 0),
  (19, 22, .getfield 10, [11, 0], 0, 0),
  (22, 23, .iload_n 1, [], 0, 0),
  (23, 26, .invokevirtual 85, [0, 22], 0, 0),
  (26, 27, .aload_n 0, [], 0, 0),
  (27, 30, .getfield 10, [11, 0], 0, 0),
  (30, 31, .iload_n 2, [], 0, 0),
  (31, 34, .invokevirtual 85, [0, 22], 0, 0),
  (34, 35, .aload_n 0, [], 0, 0),
  (35, 38, .getfield 10, [11, 0], 0, 0),
  (38, 39, .iload_n 3, [], 0, 0),
  (39, 42, .invokevirtual 85, [0, 22], 0, 0),
  (42, 43, .aload_n 0, [], 0, 0),
  (43, 46, .getfield 10, [11, 0], 0, 0),
  (46, 48, .iload 4, [], 0, 0),
  (48, 51, .invokevirtual 85, [0, 22], 0, 0),
  (51, 52, .aload_n 0, [], 0, 0),
  (52, 55, .getfield 10, [11, 0], 0, 0),
  (55, 57, .iload 5, [], 0, 0),
  (57, 60, .invokevirtual 85, [0, 22], 0, 0),
  (60, 61, .aload_n 0, [], 0, 0),
  (61, 64, .getfield 10, [11, 0], 0, 0),
  (64, 67, .getfield 82, [5, 1], 0, 0),
  (67, 68, .ireturn, [], 0, 0)]
def mX11_feed : xM := (100, 11, cX11_feed, 6, (some .int), pX11_feed)
set_option maxRecDepth 100000 in
theorem gX11_feed : xgd mX11_feed := ⟨by decide +kernel, xat_in (p := 2189) rfl, by decide +kernel, by decide +kernel, by decide, by decide +kernel, by decide +kernel⟩
set_option maxRecDepth 100000 in
def pX11_fair : List xRow := [(0, 1, .iload_n 1, [], 0, 0),
  (1, 4, .ifCond .lt 14, [15], 0, 0),
  (4, 5, .iload_n 1, [], 0, 0),
  (5, 6, .aload_n 0, [], 0, 0),
  (6, 9, .getfield 10, [11, 0], 0, 0),
  (9, 12, .getfield 82, [5, 1], 0, 0),
  (12, 15, .if_icmp .le 13, [25], 0, 0),
  (15, 18, .new 89, [], 0, 0),
  (18, 19, .dup, [], 0, 0),
  (19, 21, .ldc 91, [0], 0, 0),
  (21, 24, .invokespecial 93, [], 0, 0),
  (24, 25, .athrow, [], 0, 0),
  (25, 26, .aload_n 0, [], 0, 0),
  (26, 29, .getfield 10, [11, 0], 0, 0),
  (29, 30, .iload_n 1, [], 0, 0),
  (30, 33, .invokevirtual 96, [0, 23], 0, 0),
  (33, 34, .istore_n 2, [], 0, 0),
  (34, 35, .aload_n 0, [], 0, 0),
  (35, 36, .iload_n 2, [], 0, 0),
  (36, 39, .ifCond .ne 7, [43], 0, 0),
  (39, 40, .iconst (-1), [], -1, 0),
  (40, 43, .goto 10, [50], 0, 0),
  (43, 44, .aload_n 0, [], 0, 0),
  (44, 47, .getfield 10, [11, 0], 0, 0),
  (47, 50, .getfield 100, [5, 4], 0, 0),
  (50, 53, .putfield 78, [11, 14], 0, 0),
  (53, 54, .iload_n 2, [], 0, 0),
  (54, 57, .ifCond .eq 15, [69], 0, 0),
  (57, 58, .aload_n 0, [], 0, 0),
  (58, 59, .dup, [], 0, 0),
  (59, 62, .getfield 101, [11, 15], 0, 0),
  (62, 63, .iconst 1, [], 1, 0),
  (63, 64, .iadd, [], 0, 0),
  (64, 67, .putfield 101, [11, 15], 0, 0),
  (67, 68, .iload_n 2, [], 0, 0),
  (68, 69, .ireturn, [], 0, 0),
  (69, 70, .aload_n 0, [], 0, 0),
  (70, 73, .getfield 19, [11, 1], 0, 0),
  (73, 76, .getfield 104, [9, 0], 0, 0),
  (76, 77, .astore_n 3, [], 0, 0),
  (77, 78, .aload_n 0, [], 0, 0),
  (78, 81, .getfield 19, [11, 1], 0, 0),
  (81, 82, .aload_n 0, [], 0, 0),
  (82, 85, .getfield 10, [11, 0], 0, 0),
  (85, 88, .getfield 108, [5, 2], 0, 0),
  (88, 91, .putfield 104, [9, 0], 0, 0),
  (91, 92, .aload_n 0, [], 0, 0),
  (92, 95, .getfield 10, [11, 0], 0, 0),
  (95, 96, .aload_n 3, [], 0, 0),
  (96, 99, .putfield 108, [5, 2], 0, 0),
  (99, 100, .aload_n 0, [], 0, 0),
  (100, 103, .getfield 33, [11, 3], 0, 0),
  (103, 104, .iconst 0, [], 0, 0),
  (104, 107, .putfield 111, [0, 0], 0, 0),
  (107, 108, .aload_n 0, [], 0, 0),
  (108, 111, .getfield 40, [11, 4], 0, 0),
  (111, 112, .iconst 0, [], 0, 0),
  (112, 115, .putfield 114, [8, 0], 0, 0),
  (115, 116, .aload_n 0, [], 0, 0),
  (116, 117, .iconst 0, [], 0, 0),
  (117, 120, .putfield 115, [11, 13], 0, 0),
  (120, 121, .aload_n 0, [], 0, 0),
  (121, 124, .getfield 19, [11, 1], 0, 0),
  (124, 127, .invokevirtual 119, [0, 63], 0, 0),
  (127, 128, .iconst 0, [], 0, 0),
  (128, 129, .ireturn, [], 0, 0)]
def mX11_fair : xM := (101, 11, cX11_fair, 4, (some .int), pX11_fair)
set_option maxRecDepth 100000 in
theorem gX11_fair : xgd mX11_fair := ⟨by decide +kernel, xat_in (p := 3147) rfl, by decide +kernel, by decide +kernel, by decide, by decide +kernel, by decide +kernel⟩
set_option maxRecDepth 100000 in
def pX11_fault : List xRow := [(0, 1, .aload_n 0, [], 0, 0),
  (1, 4, .getfield 78, [11, 14], 0, 0),
  (4, 5, .ireturn, [], 0, 0)]
def mX11_fault : xM := (102, 11, cX11_fault, 1, (some .int), pX11_fault)
set_option maxRecDepth 100000 in
theorem gX11_fault : xgd mX11_fault := ⟨by decide +kernel, xat_in (p := 2197) rfl, by decide +kernel, by decide +kernel, by decide, by decide +kernel, by decide +kernel⟩
set_option maxRecDepth 100000 in
def pX11_count : List xRow := [(0, 1, .iload_n 1, [], 0, 0),
  (1, 3, .bipush 11, [], 11, 0),
  (3, 6, .invokestatic 122, [1, 147], 0, 0),
  (6, 7, .aload_n 0, [], 0, 0),
  (7, 10, .getfield 19, [11, 1], 0, 0),
  (10, 13, .getfield 104, [9, 0], 0, 0),
  (13, 14, .astore_n 2, [], 0, 0),
  (14, 15, .iload_n 1, [], 0, 0),
  (15, 72, .tableswitch 136 0 10 #[57, 65, 73, 81, 89, 97, 105, 113, 118, 123, 128], [], 0, 0),
  (72, 73, .aload_n 2, [], 0, 0),
  (73, 76, .getfield 126, [2, 0], 0, 0),
  (76, 79, .getfield 132, [4, 0], 0, 0),
  (79, 80, .ireturn, [], 0, 0),
  (80, 81, .aload_n 2, [], 0, 0),
  (81, 84, .getfield 135, [2, 1], 0, 0),
  (84, 87, .getfield 138, [3, 0], 0, 0),
  (87, 88, .ireturn, [], 0, 0),
  (88, 89, .aload_n 2, [], 0, 0),
  (89, 92, .getfield 139, [2, 2], 0, 0),
  (92, 95, .getfield 142, [7, 0], 0, 0),
  (95, 96, .ireturn, [], 0, 0),
  (96, 97, .aload_n 2, [], 0, 0),
  (97, 100, .getfield 139, [2, 2], 0, 0),
  (100, 103, .invokevirtual 143, [0, 55], 0, 0),
  (103, 104, .ireturn, [], 0, 0),
  (104, 105, .aload_n 0, [], 0, 0),
  (105, 108, .getfield 33, [11, 3], 0, 0),
  (108, 111, .getfield 111, [0, 0], 0, 0),
  (111, 112, .ireturn, [], 0, 0),
  (112, 113, .aload_n 0, [], 0, 0),
  (113, 116, .getfield 40, [11, 4], 0, 0),
  (116, 119, .getfield 114, [8, 0], 0, 0),
  (119, 120, .ireturn, [], 0, 0),
  (120, 121, .aload_n 0, [], 0, 0),
  (121, 124, .getfield 10, [11, 0], 0, 0),
  (124, 127, .getfield 82, [5, 1], 0, 0),
  (127, 128, .ireturn, [], 0, 0),
  (128, 129, .aload_n 0, [], 0, 0),
  (129, 132, .getfield 101, [11, 15], 0, 0),
  (132, 133, .ireturn, [], 0, 0),
  (133, 134, .aload_n 0, [], 0, 0),
  (134, 137, .getfield 147, [11, 16], 0, 0),
  (137, 138, .ireturn, [], 0, 0),
  (138, 139, .aload_n 0, [], 0, 0),
  (139, 142, .getfield 150, [11, 17], 0, 0),
  (142, 143, .ireturn, [], 0, 0),
  (143, 144, .aload_n 2, [], 0, 0),
  (144, 147, .getfield 139, [2, 2], 0, 0),
  (147, 150, .invokevirtual 153, [0, 56], 0, 0),
  (150, 151, .ireturn, [], 0, 0),
  (151, 152, .aload_n 2, [], 0, 0),
  (152, 155, .getfield 139, [2, 2], 0, 0),
  (155, 158, .invokevirtual 156, [0, 57], 0, 0),
  (158, 159, .ireturn, [], 0, 0)]
def mX11_count : xM := (103, 11, cX11_count, 3, (some .int), pX11_count)
set_option maxRecDepth 100000 in
theorem gX11_count : xgd mX11_count := ⟨by decide +kernel, xat_in (p := 4158) rfl, by decide +kernel, by decide +kernel, by decide, by decide +kernel, by decide +kernel⟩
set_option maxRecDepth 100000 in
def pX11_one : List xRow := [(0, 1, .aload_n 0, [], 0, 0),
  (1, 2, .iload_n 1, [], 0, 0),
  (2, 5, .invokevirtual 159, [0, 143], 0, 0),
  (5, 6, .iload_n 2, [], 0, 0),
  (6, 7, .iconst 4, [], 4, 0),
  (7, 10, .invokestatic 122, [1, 147], 0, 0),
  (10, 11, .aload_n 0, [], 0, 0),
  (11, 14, .getfield 19, [11, 1], 0, 0),
  (14, 17, .getfield 104, [9, 0], 0, 0),
  (17, 20, .getfield 126, [2, 0], 0, 0),
  (20, 21, .astore_n 3, [], 0, 0),
  (21, 22, .iload_n 2, [], 0, 0),
  (22, 52, .tableswitch 66 0 3 #[30, 37, 44, 51], [], 0, 0),
  (52, 53, .aload_n 3, [], 0, 0),
  (53, 56, .getfield 162, [4, 1], 0, 0),
  (56, 57, .iload_n 1, [], 0, 0),
  (57, 58, .iaload, [], 0, 0),
  (58, 59, .ireturn, [], 0, 0),
  (59, 60, .aload_n 3, [], 0, 0),
  (60, 63, .getfield 165, [4, 2], 0, 0),
  (63, 64, .iload_n 1, [], 0, 0),
  (64, 65, .iaload, [], 0, 0),
  (65, 66, .ireturn, [], 0, 0),
  (66, 67, .aload_n 3, [], 0, 0),
  (67, 70, .getfield 168, [4, 3], 0, 0),
  (70, 71, .iload_n 1, [], 0, 0),
  (71, 72, .iaload, [], 0, 0),
  (72, 73, .ireturn, [], 0, 0),
  (73, 74, .aload_n 0, [], 0, 0),
  (74, 77, .getfield 19, [11, 1], 0, 0),
  (77, 80, .getfield 104, [9, 0], 0, 0),
  (80, 83, .getfield 139, [2, 2], 0, 0),
  (83, 84, .iload_n 1, [], 0, 0),
  (84, 87, .invokevirtual 171, [0, 58], 0, 0),
  (87, 88, .ireturn, [], 0, 0),
  (88, 89, .aload_n 0, [], 0, 0),
  (89, 92, .getfield 19, [11, 1], 0, 0),
  (92, 93, .iload_n 1, [], 0, 0),
  (93, 96, .invokevirtual 174, [0, 76], 0, 0),
  (96, 97, .ireturn, [], 0, 0)]
def mX11_one : xM := (104, 11, cX11_one, 4, (some .int), pX11_one)
set_option maxRecDepth 100000 in
theorem gX11_one : xgd mX11_one := ⟨by decide +kernel, xat_in (p := 4197) rfl, by decide +kernel, by decide +kernel, by decide, by decide +kernel, by decide +kernel⟩
set_option maxRecDepth 100000 in
def pX11_needle : List xRow := [(0, 1, .aload_n 0, [], 0, 0),
  (1, 2, .iload_n 1, [], 0, 0),
  (2, 5, .invokevirtual 177, [0, 144], 0, 0),
  (5, 6, .iload_n 2, [], 0, 0),
  (6, 8, .bipush 6, [], 6, 0),
  (8, 11, .invokestatic 122, [1, 147], 0, 0),
  (11, 12, .aload_n 0, [], 0, 0),
  (12, 15, .getfield 19, [11, 1], 0, 0),
  (15, 18, .getfield 104, [9, 0], 0, 0),
  (18, 21, .getfield 135, [2, 1], 0, 0),
  (21, 22, .astore_n 3, [], 0, 0),
  (22, 23, .iload_n 2, [], 0, 0),
  (23, 60, .tableswitch 84 0 5 #[37, 44, 51, 58, 65, 75], [], 0, 0),
  (60, 61, .aload_n 3, [], 0, 0),
  (61, 64, .getfield 180, [3, 1], 0, 0),
  (64, 65, .iload_n 1, [], 0, 0),
  (65, 66, .iaload, [], 0, 0),
  (66, 67, .ireturn, [], 0, 0),
  (67, 68, .aload_n 3, [], 0, 0),
  (68, 71, .getfield 181, [3, 2], 0, 0),
  (71, 72, .iload_n 1, [], 0, 0),
  (72, 73, .iaload, [], 0, 0),
  (73, 74, .ireturn, [], 0, 0),
  (74, 75, .aload_n 3, [], 0, 0),
  (75, 78, .getfield 182, [3, 3], 0, 0),
  (78, 79, .iload_n 1, [], 0, 0),
  (79, 80, .iaload, [], 0, 0),
  (80, 81, .ireturn, [], 0, 0),
  (81, 82, .aload_n 3, [], 0, 0),
  (82, 85, .getfield 185, [3, 4], 0, 0),
  (85, 86, .iload_n 1, [], 0, 0),
  (86, 87, .iaload, [], 0, 0),
  (87, 88, .ireturn, [], 0, 0),
  (88, 89, .aload_n 0, [], 0, 0),
  (89, 92, .getfield 19, [11, 1], 0, 0),
  (92, 95, .getfield 188, [9, 1], 0, 0),
  (95, 96, .iload_n 1, [], 0, 0),
  (96, 97, .iaload, [], 0, 0),
  (97, 98, .ireturn, [], 0, 0),
  (98, 99, .aload_n 0, [], 0, 0),
  (99, 102, .getfield 19, [11, 1], 0, 0),
  (102, 103, .iload_n 1, [], 0, 0),
  (103, 106, .invokevirtual 191, [0, 81], 0, 0),
  (106, 107, .ireturn, [], 0, 0),
  (107, 108, .aload_n 0, [], 0, 0),
  (108, 111, .getfield 19, [11, 1], 0, 0),
  (111, 112, .iload_n 1, [], 0, 0),
  (112, 115, .invokevirtual 194, [0, 83], 0, 0),
  (115, 116, .ireturn, [], 0, 0)]
def mX11_needle : xM := (105, 11, cX11_needle, 4, (some .int), pX11_needle)
set_option maxRecDepth 100000 in
theorem gX11_needle : xgd mX11_needle := ⟨by decide +kernel, xat_in (p := 4217) rfl, by decide +kernel, by decide +kernel, by decide, by decide +kernel, by decide +kernel⟩
set_option maxRecDepth 100000 in
def pX11_saying : List xRow := [(0, 1, .aload_n 0, [], 0, 0),
  (1, 2, .iload_n 1, [], 0, 0),
  (2, 5, .invokevirtual 197, [0, 145], 0, 0),
  (5, 6, .iload_n 2, [], 0, 0),
  (6, 7, .iconst 3, [], 3, 0),
  (7, 10, .invokestatic 122, [1, 147], 0, 0),
  (10, 11, .aload_n 0, [], 0, 0),
  (11, 14, .getfield 19, [11, 1], 0, 0),
  (14, 17, .getfield 104, [9, 0], 0, 0),
  (17, 20, .getfield 139, [2, 2], 0, 0),
  (20, 21, .astore_n 3, [], 0, 0),
  (21, 22, .iload_n 2, [], 0, 0),
  (22, 48, .tableswitch 47 0 2 #[26, 33, 40], [], 0, 0),
  (48, 49, .aload_n 3, [], 0, 0),
  (49, 52, .getfield 200, [7, 1], 0, 0),
  (52, 53, .iload_n 1, [], 0, 0),
  (53, 54, .iaload, [], 0, 0),
  (54, 55, .ireturn, [], 0, 0),
  (55, 56, .aload_n 3, [], 0, 0),
  (56, 59, .getfield 203, [7, 2], 0, 0),
  (59, 60, .iload_n 1, [], 0, 0),
  (60, 61, .iaload, [], 0, 0),
  (61, 62, .ireturn, [], 0, 0),
  (62, 63, .aload_n 3, [], 0, 0),
  (63, 66, .getfield 206, [7, 3], 0, 0),
  (66, 67, .iload_n 1, [], 0, 0),
  (67, 68, .iaload, [], 0, 0),
  (68, 69, .ireturn, [], 0, 0),
  (69, 70, .aload_n 0, [], 0, 0),
  (70, 73, .getfield 19, [11, 1], 0, 0),
  (73, 74, .iload_n 1, [], 0, 0),
  (74, 77, .invokevirtual 209, [0, 74], 0, 0),
  (77, 78, .ireturn, [], 0, 0)]
def mX11_saying : xM := (106, 11, cX11_saying, 4, (some .int), pX11_saying)
set_option maxRecDepth 100000 in
theorem gX11_saying : xgd mX11_saying := ⟨by decide +kernel, xat_in (p := 4233) rfl, by decide +kernel, by decide +kernel, by decide, by decide +kernel, by decide +kernel⟩
set_option maxRecDepth 100000 in
def pX11_shows : List xRow := [(0, 1, .aload_n 0, [], 0, 0),
  (1, 2, .iload_n 1, [], 0, 0),
  (2, 5, .invokevirtual 177, [0, 144], 0, 0),
  (5, 6, .iload_n 2, [], 0, 0),
  (6, 9, .invokestatic 212, [1, 146], 0, 0),
  (9, 10, .aload_n 0, [], 0, 0),
  (10, 13, .getfield 19, [11, 1], 0, 0),
  (13, 16, .getfield 215, [9, 2], 0, 0),
  (16, 17, .iload_n 1, [], 0, 0),
  (17, 18, .aaload, [], 0, 0),
  (18, 19, .iload_n 2, [], 0, 0),
  (19, 20, .iaload, [], 0, 0),
  (20, 21, .ireturn, [], 0, 0)]
def mX11_shows : xM := (107, 11, cX11_shows, 3, (some .int), pX11_shows)
set_option maxRecDepth 100000 in
theorem gX11_shows : xgd mX11_shows := ⟨by decide +kernel, xat_in (p := 5009) rfl, by decide +kernel, by decide +kernel, by decide, by decide +kernel, by decide +kernel⟩
set_option maxRecDepth 100000 in
def pX11_last : List xRow := [(0, 1, .aload_n 0, [], 0, 0),
  (1, 2, .iload_n 1, [], 0, 0),
  (2, 5, .invokevirtual 177, [0, 144], 0, 0),
  (5, 6, .iload_n 2, [], 0, 0),
  (6, 9, .invokestatic 212, [1, 146], 0, 0),
  (9, 10, .aload_n 0, [], 0, 0),
  (10, 13, .getfield 19, [11, 1], 0, 0),
  (13, 16, .getfield 219, [9, 3], 0, 0),
  (16, 17, .iload_n 1, [], 0, 0),
  (17, 18, .aaload, [], 0, 0),
  (18, 19, .iload_n 2, [], 0, 0),
  (19, 20, .iaload, [], 0, 0),
  (20, 21, .ireturn, [], 0, 0)]
def mX11_last : xM := (108, 11, cX11_last, 3, (some .int), pX11_last)
set_option maxRecDepth 100000 in
theorem gX11_last : xgd mX11_last := ⟨by decide +kernel, xat_in (p := 5023) rfl, by decide +kernel, by decide +kernel, by decide, by decide +kernel, by decide +kernel⟩
set_option maxRecDepth 100000 in
def pX11_points : List xRow := [(0, 1, .aload_n 0, [], 0, 0),
  (1, 2, .iload_n 1, [], 0, 0),
  (2, 5, .invokevirtual 159, [0, 143], 0, 0),
  (5, 6, .iload_n 2, [], 0, 0),
  (6, 9, .invokestatic 212, [1, 146], 0, 0),
  (9, 10, .aload_n 0, [], 0, 0),
  (10, 13, .getfield 19, [11, 1], 0, 0),
  (13, 14, .iload_n 1, [], 0, 0),
  (14, 15, .iload_n 2, [], 0, 0),
  (15, 18, .invokevirtual 222, [0, 78], 0, 0),
  (18, 19, .ireturn, [], 0, 0)]
def mX11_points : xM := (109, 11, cX11_points, 3, (some .int), pX11_points)
set_option maxRecDepth 100000 in
theorem gX11_points : xgd mX11_points := ⟨by decide +kernel, xat_in (p := 5030) rfl, by decide +kernel, by decide +kernel, by decide, by decide +kernel, by decide +kernel⟩
set_option maxRecDepth 100000 in
def pX11_side : List xRow := [(0, 1, .iload_n 1, [], 0, 0),
  (1, 2, .i2l, [], 0, 0),
  (2, 3, .iload_n 2, [], 0, 0),
  (3, 4, .i2l, [], 0, 0),
  (4, 7, .invokestatic 226, [1, 153], 0, 0),
  (7, 8, .ireturn, [], 0, 0)]
def mX11_side : xM := (110, 11, cX11_side, 3, (some .int), pX11_side)
set_option maxRecDepth 100000 in
theorem gX11_side : xgd mX11_side := ⟨by decide +kernel, xat_in (p := 2201) rfl, by decide +kernel, by decide +kernel, by decide, by decide +kernel, by decide +kernel⟩
set_option maxRecDepth 100000 in
def pX11_accused : List xRow := [(0, 1, .iload_n 1, [], 0, 0),
  (1, 4, .invokestatic 212, [1, 146], 0, 0),
  (4, 5, .aload_n 0, [], 0, 0),
  (5, 6, .iload_n 1, [], 0, 0),
  (6, 9, .invokevirtual 230, [0, 157], 0, 0),
  (9, 10, .ireturn, [], 0, 0)]
def mX11_accused : xM := (111, 11, cX11_accused, 2, (some .int), pX11_accused)
set_option maxRecDepth 100000 in
theorem gX11_accused : xgd mX11_accused := ⟨by decide +kernel, xat_in (p := 5041) rfl, by decide +kernel, by decide +kernel, by decide, by decide +kernel, by decide +kernel⟩
set_option maxRecDepth 100000 in
def pX11_tell : List xRow := [(0, 1, .aload_n 0, [], 0, 0),
  (1, 2, .iload_n 2, [], 0, 0),
  (2, 5, .invokevirtual 159, [0, 143], 0, 0),
  (5, 6, .aload_n 0, [], 0, 0),
  (6, 9, .getfield 19, [11, 1], 0, 0),
  (9, 12, .getfield 104, [9, 0], 0, 0),
  (12, 15, .getfield 139, [2, 2], 0, 0),
  (15, 17, .astore 4, [], 0, 0),
  (17, 19, .aload 4, [], 0, 0),
  (19, 22, .getfield 142, [7, 0], 0, 0),
  (22, 24, .bipush 16, [], 16, 0),
  (24, 27, .if_icmp .ge 20, [44], 0, 0),
  (27, 28, .iload_n 1, [], 0, 0),
  (28, 31, .invokestatic 233, [1, 150], 0, 0),
  (31, 34, .ifCond .eq 13, [44], 0, 0),
  (34, 35, .iload_n 3, [], 0, 0),
  (35, 38, .ifCond .lt 9, [44], 0, 0),
  (38, 39, .iload_n 3, [], 0, 0),
  (39, 41, .bipush 9, [], 9, 0),
  (41, 44, .if_icmp .le 15, [56], 0, 0),
  (44, 45, .aload_n 0, [], 0, 0),
  (45, 46, .dup, [], 0, 0),
  (46, 49, .getfield 147, [11, 16], 0, 0),
  (49, 50, .iconst 1, [], 1, 0),
  (50, 51, .iadd, [], 0, 0),
  (51, 54, .putfield 147, [11, 16], 0, 0),
  (54, 55, .iconst (-1), [], -1, 0),
  (55, 56, .ireturn, [], 0, 0),
  (56, 58, .aload 4, [], 0, 0),
  (58, 59, .iload_n 1, [], 0, 0),
  (59, 60, .iload_n 2, [], 0, 0),
  (60, 61, .iload_n 3, [], 0, 0),
  (61, 64, .invokevirtual 237, [0, 52], 0, 0),
  (64, 65, .aload_n 0, [], 0, 0),
  (65, 68, .getfield 33, [11, 3], 0, 0),
  (68, 69, .iconst 0, [], 0, 0),
  (69, 70, .iconst 0, [], 0, 0),
  (70, 71, .iconst 0, [], 0, 0),
  (71, 72, .iconst 0, [], 0, 0),
  (72, 75, .invokevirtual 241, [0, 1], 0, 0),
  (75, 76, .aload_n 0, [], 0, 0),
  (76, 79, .getfield 19, [11, 1], 0, 0),
  (79, 82, .invokevirtual 119, [0, 63], 0, 0),
  (82, 84, .aload 4, [], 0, 0),
  (84, 87, .getfield 142, [7, 0], 0, 0),
  (87, 88, .iconst 1, [], 1, 0),
  (88, 89, .isub, [], 0, 0),
  (89, 90, .ireturn, [], 0, 0)]
def mX11_tell : xM := (112, 11, cX11_tell, 5, (some .int), pX11_tell)
set_option maxRecDepth 100000 in
theorem gX11_tell : xgd mX11_tell := ⟨by decide +kernel, xat_in (p := 5066) rfl, by decide +kernel, by decide +kernel, by decide, by decide +kernel, by decide +kernel⟩
set_option maxRecDepth 100000 in
def pX11_back : List xRow := [(0, 1, .aload_n 0, [], 0, 0),
  (1, 4, .getfield 19, [11, 1], 0, 0),
  (4, 7, .getfield 104, [9, 0], 0, 0),
  (7, 10, .getfield 139, [2, 2], 0, 0),
  (10, 11, .astore_n 1, [], 0, 0),
  (11, 12, .aload_n 1, [], 0, 0),
  (12, 15, .getfield 142, [7, 0], 0, 0),
  (15, 16, .iconst 1, [], 1, 0),
  (16, 17, .isub, [], 0, 0),
  (17, 18, .istore_n 2, [], 0, 0),
  (18, 19, .iload_n 2, [], 0, 0),
  (19, 22, .ifCond .ge 15, [34], 0, 0),
  (22, 23, .aload_n 0, [], 0, 0),
  (23, 24, .dup, [], 0, 0),
  (24, 27, .getfield 147, [11, 16], 0, 0),
  (27, 28, .iconst 1, [], 1, 0),
  (28, 29, .iadd, [], 0, 0),
  (29, 32, .putfield 147, [11, 16], 0, 0),
  (32, 33, .iconst (-1), [], -1, 0),
  (33, 34, .ireturn, [], 0, 0),
  (34, 35, .aload_n 0, [], 0, 0),
  (35, 38, .getfield 33, [11, 3], 0, 0),
  (38, 39, .iconst 1, [], 1, 0),
  (39, 40, .aload_n 1, [], 0, 0),
  (40, 43, .getfield 200, [7, 1], 0, 0),
  (43, 44, .iload_n 2, [], 0, 0),
  (44, 45, .iaload, [], 0, 0),
  (45, 46, .aload_n 1, [], 0, 0),
  (46, 49, .getfield 203, [7, 2], 0, 0),
  (49, 50, .iload_n 2, [], 0, 0),
  (50, 51, .iaload, [], 0, 0),
  (51, 52, .aload_n 1, [], 0, 0),
  (52, 55, .getfield 206, [7, 3], 0, 0),
  (55, 56, .iload_n 2, [], 0, 0),
  (56, 57, .iaload, [], 0, 0),
  (57, 60, .invokevirtual 241, [0, 1], 0, 0),
  (60, 61, .aload_n 1, [], 0, 0),
  (61, 64, .invokevirtual 245, [0, 53], 0, 0),
  (64, 65, .aload_n 0, [], 0, 0),
  (65, 68, .getfield 19, [11, 1], 0, 0),
  (68, 71, .invokevirtual 119, [0, 63], 0, 0),
  (71, 72, .iload_n 2, [], 0, 0),
  (72, 73, .ireturn, [], 0, 0)]
def mX11_back : xM := (113, 11, cX11_back, 3, (some .int), pX11_back)
set_option maxRecDepth 100000 in
theorem gX11_back : xgd mX11_back := ⟨by decide +kernel, xat_in (p := 2212) rfl, by decide +kernel, by decide +kernel, by decide, by decide +kernel, by decide +kernel⟩
set_option maxRecDepth 100000 in
def pX11_rust : List xRow := [(0, 1, .aload_n 0, [], 0, 0),
  (1, 2, .iload_n 1, [], 0, 0),
  (2, 5, .invokevirtual 177, [0, 144], 0, 0),
  (5, 6, .iload_n 2, [], 0, 0),
  (6, 9, .ifCond .lt 9, [15], 0, 0),
  (9, 10, .iload_n 2, [], 0, 0),
  (10, 12, .bipush 9, [], 9, 0),
  (12, 15, .if_icmp .le 15, [27], 0, 0),
  (15, 16, .aload_n 0, [], 0, 0),
  (16, 17, .dup, [], 0, 0),
  (17, 20, .getfield 147, [11, 16], 0, 0),
  (20, 21, .iconst 1, [], 1, 0),
  (21, 22, .iadd, [], 0, 0),
  (22, 25, .putfield 147, [11, 16], 0, 0),
  (25, 26, .iconst (-1), [], -1, 0),
  (26, 27, .ireturn, [], 0, 0),
  (27, 28, .aload_n 0, [], 0, 0),
  (28, 31, .getfield 19, [11, 1], 0, 0),
  (31, 34, .getfield 104, [9, 0], 0, 0),
  (34, 37, .getfield 135, [2, 1], 0, 0),
  (37, 38, .astore_n 3, [], 0, 0),
  (38, 39, .aload_n 3, [], 0, 0),
  (39, 42, .getfield 185, [3, 4], 0, 0),
  (42, 43, .iload_n 1, [], 0, 0),
  (43, 44, .iaload, [], 0, 0),
  (44, 46, .istore 4, [], 0, 0),
  (46, 47, .aload_n 0, [], 0, 0),
  (47, 50, .getfield 33, [11, 3], 0, 0),
  (50, 51, .iconst 2, [], 2, 0),
  (51, 52, .iload_n 1, [], 0, 0),
  (52, 54, .iload 4, [], 0, 0),
  (54, 55, .iconst 0, [], 0, 0),
  (55, 58, .invokevirtual 241, [0, 1], 0, 0),
  (58, 59, .aload_n 3, [], 0, 0),
  (59, 60, .iload_n 1, [], 0, 0),
  (60, 61, .iload_n 2, [], 0, 0),
  (61, 64, .invokevirtual 248, [0, 16], 0, 0),
  (64, 65, .aload_n 0, [], 0, 0),
  (65, 68, .getfield 19, [11, 1], 0, 0),
  (68, 71, .invokevirtual 119, [0, 63], 0, 0),
  (71, 73, .iload 4, [], 0, 0),
  (73, 74, .ireturn, [], 0, 0)]
def mX11_rust : xM := (114, 11, cX11_rust, 5, (some .int), pX11_rust)
set_option maxRecDepth 100000 in
theorem gX11_rust : xgd mX11_rust := ⟨by decide +kernel, xat_in (p := 5074) rfl, by decide +kernel, by decide +kernel, by decide, by decide +kernel, by decide +kernel⟩
set_option maxRecDepth 100000 in
def pX11_carry : List xRow := [(0, 1, .aload_n 0, [], 0, 0),
  (1, 2, .iload_n 1, [], 0, 0),
  (2, 5, .invokevirtual 177, [0, 144], 0, 0),
  (5, 6, .iload_n 2, [], 0, 0),
  (6, 9, .ifCond .lt 19, [25], 0, 0),
  (9, 10, .iload_n 2, [], 0, 0),
  (10, 12, .bipush 40, [], 40, 0),
  (12, 15, .if_icmp .gt 13, [25], 0, 0),
  (15, 16, .iload_n 3, [], 0, 0),
  (16, 19, .ifCond .lt 9, [25], 0, 0),
  (19, 20, .iload_n 3, [], 0, 0),
  (20, 22, .bipush 40, [], 40, 0),
  (22, 25, .if_icmp .le 15, [37], 0, 0),
  (25, 26, .aload_n 0, [], 0, 0),
  (26, 27, .dup, [], 0, 0),
  (27, 30, .getfield 147, [11, 16], 0, 0),
  (30, 31, .iconst 1, [], 1, 0),
  (31, 32, .iadd, [], 0, 0),
  (32, 35, .putfield 147, [11, 16], 0, 0),
  (35, 36, .iconst (-1), [], -1, 0),
  (36, 37, .ireturn, [], 0, 0),
  (37, 38, .aload_n 0, [], 0, 0),
  (38, 41, .getfield 19, [11, 1], 0, 0),
  (41, 44, .getfield 104, [9, 0], 0, 0),
  (44, 47, .getfield 135, [2, 1], 0, 0),
  (47, 49, .astore 4, [], 0, 0),
  (49, 51, .aload 4, [], 0, 0),
  (51, 54, .getfield 180, [3, 1], 0, 0),
  (54, 55, .iload_n 1, [], 0, 0),
  (55, 56, .iaload, [], 0, 0),
  (56, 58, .istore 5, [], 0, 0),
  (58, 60, .aload 4, [], 0, 0),
  (60, 63, .getfield 181, [3, 2], 0, 0),
  (63, 64, .iload_n 1, [], 0, 0),
  (64, 65, .iaload, [], 0, 0),
  (65, 67, .istore 6, [], 0, 0),
  (67, 68, .aload_n 0, [], 0, 0),
  (68, 71, .getfield 33, [11, 3], 0, 0),
  (71, 72, .iconst 3, [], 3, 0),
  (72, 73, .iload_n 1, [], 0, 0),
  (73, 75, .iload 5, [], 0, 0),
  (75, 77, .iload 6, [], 0, 0),
  (77, 80, .invokevirtual 241, [0, 1], 0, 0),
  (80, 82, .aload 4, [], 0, 0),
  (82, 83, .iload_n 1, [], 0, 0),
  (83, 84, .iload_n 2, [], 0, 0),
  (84, 85, .iload_n 3, [], 0, 0),
  (85, 88, .invokevirtual 251, [0, 17], 0, 0),
  (88, 89, .aload_n 0, [], 0, 0),
  (89, 92, .getfield 19, [11, 1], 0, 0),
  (92, 95, .invokevirtual 119, [0, 63], 0, 0),
  (95, 97, .iload 5, [], 0, 0),
  (97, 99, .iload 6, [], 0, 0),
  (99, 102, .invokestatic 254, [1, 151], 0, 0),
  (102, 103, .ireturn, [], 0, 0)]
def mX11_carry : xM := (115, 11, cX11_carry, 7, (some .int), pX11_carry)
set_option maxRecDepth 100000 in
theorem gX11_carry : xgd mX11_carry := ⟨by decide +kernel, xat_in (p := 5082) rfl, by decide +kernel, by decide +kernel, by decide, by decide +kernel, by decide +kernel⟩
set_option maxRecDepth 100000 in
def pX11_undo : List xRow := [(0, 1, .aload_n 0, [], 0, 0),
  (1, 4, .getfield 33, [11, 3], 0, 0),
  (4, 7, .getfield 111, [0, 0], 0, 0),
  (7, 10, .ifCond .ne 5, [12], 0, 0),
  (10, 11, .iconst (-1), [], -1, 0),
  (11, 12, .ireturn, [], 0, 0),
  (12, 13, .aload_n 0, [], 0, 0),
  (13, 16, .getfield 33, [11, 3], 0, 0),
  (16, 17, .aload_n 0, [], 0, 0),
  (17, 20, .getfield 19, [11, 1], 0, 0),
  (20, 23, .getfield 104, [9, 0], 0, 0),
  (23, 26, .invokevirtual 257, [0, 3], 0, 0),
  (26, 27, .aload_n 0, [], 0, 0),
  (27, 30, .getfield 19, [11, 1], 0, 0),
  (30, 33, .invokevirtual 119, [0, 63], 0, 0),
  (33, 34, .aload_n 0, [], 0, 0),
  (34, 37, .getfield 33, [11, 3], 0, 0),
  (37, 40, .getfield 111, [0, 0], 0, 0),
  (40, 41, .ireturn, [], 0, 0)]
def mX11_undo : xM := (116, 11, cX11_undo, 1, (some .int), pX11_undo)
set_option maxRecDepth 100000 in
theorem gX11_undo : xgd mX11_undo := ⟨by decide +kernel, xat_in (p := 3063) rfl, by decide +kernel, by decide +kernel, by decide, by decide +kernel, by decide +kernel⟩
set_option maxRecDepth 100000 in
def pX11_clash : List xRow := [(0, 1, .iconst 0, [], 0, 0),
  (1, 2, .istore_n 1, [], 0, 0),
  (2, 3, .iload_n 1, [], 0, 0),
  (3, 5, .bipush 100, [], 100, 0),
  (5, 8, .if_icmp .ge 22, [27], 0, 0),
  (8, 9, .aload_n 0, [], 0, 0),
  (9, 12, .getfield 19, [11, 1], 0, 0),
  (12, 13, .iload_n 1, [], 0, 0),
  (13, 16, .invokevirtual 261, [0, 80], 0, 0),
  (16, 19, .ifCond .eq 5, [21], 0, 0),
  (19, 20, .iload_n 1, [], 0, 0),
  (20, 21, .ireturn, [], 0, 0),
  (21, 24, .iinc 1 1, [], 1, 0),
  (24, 27, .goto (-22), [2], 0, 0),
  (27, 28, .iconst (-1), [], -1, 0),
  (28, 29, .ireturn, [], 0, 0)]
def mX11_clash : xM := (117, 11, cX11_clash, 2, (some .int), pX11_clash)
set_option maxRecDepth 100000 in
theorem gX11_clash : xgd mX11_clash := ⟨by decide +kernel, xat_in (p := 3084) rfl, by decide +kernel, by decide +kernel, by decide, by decide +kernel, by decide +kernel⟩
set_option maxRecDepth 100000 in
def pX11_just : List xRow := [(0, 1, .iload_n 3, [], 0, 0),
  (1, 2, .iconst 2, [], 2, 0),
  (2, 5, .invokestatic 122, [1, 147], 0, 0),
  (5, 6, .iload_n 1, [], 0, 0),
  (6, 7, .iload_n 2, [], 0, 0),
  (7, 10, .invokestatic 264, [1, 148], 0, 0),
  (10, 11, .iconst 0, [], 0, 0),
  (11, 13, .istore 4, [], 0, 0),
  (13, 14, .iconst 0, [], 0, 0),
  (14, 16, .istore 5, [], 0, 0),
  (16, 18, .iload 5, [], 0, 0),
  (18, 19, .aload_n 0, [], 0, 0),
  (19, 22, .getfield 19, [11, 1], 0, 0),
  (22, 25, .getfield 104, [9, 0], 0, 0),
  (25, 28, .getfield 126, [2, 0], 0, 0),
  (28, 31, .getfield 132, [4, 0], 0, 0),
  (31, 34, .if_icmp .ge 52, [83], 0, 0),
  (34, 35, .aload_n 0, [], 0, 0),
  (35, 37, .iload 5, [], 0, 0),
  (37, 38, .iload_n 1, [], 0, 0),
  (38, 39, .iload_n 2, [], 0, 0),
  (39, 42, .invokevirtual 267, [0, 158], 0, 0),
  (42, 44, .istore 6, [], 0, 0),
  (44, 46, .iload 6, [], 0, 0),
  (46, 48, .iload 5, [], 0, 0),
  (48, 51, .if_icmp .ne 7, [55], 0, 0),
  (51, 52, .iconst 0, [], 0, 0),
  (52, 55, .goto 14, [66], 0, 0),
  (55, 57, .iload 6, [], 0, 0),
  (57, 58, .iconst (-1), [], -1, 0),
  (58, 61, .if_icmp .ne 7, [65], 0, 0),
  (61, 62, .iconst 2, [], 2, 0),
  (62, 65, .goto 4, [66], 0, 0),
  (65, 66, .iconst 1, [], 1, 0),
  (66, 68, .istore 7, [], 0, 0),
  (68, 70, .iload 7, [], 0, 0),
  (70, 71, .iload_n 3, [], 0, 0),
  (71, 74, .if_icmp .ne 6, [77], 0, 0),
  (74, 77, .iinc 4 1, [], 1, 0),
  (77, 80, .iinc 5 1, [], 1, 0),
  (80, 83, .goto (-64), [16], 0, 0),
  (83, 85, .iload 4, [], 0, 0),
  (85, 86, .ireturn, [], 0, 0)]
def mX11_just : xM := (118, 11, cX11_just, 8, (some .int), pX11_just)
set_option maxRecDepth 100000 in
theorem gX11_just : xgd mX11_just := ⟨by decide +kernel, xat_in (p := 5093) rfl, by decide +kernel, by decide +kernel, by decide, by decide +kernel, by decide +kernel⟩
set_option maxRecDepth 100000 in
def pX11_apart : List xRow := [(0, 1, .iload_n 1, [], 0, 0),
  (1, 2, .iload_n 2, [], 0, 0),
  (2, 5, .invokestatic 264, [1, 148], 0, 0),
  (5, 6, .aload_n 0, [], 0, 0),
  (6, 9, .getfield 19, [11, 1], 0, 0),
  (9, 10, .iload_n 1, [], 0, 0),
  (10, 11, .iload_n 2, [], 0, 0),
  (11, 14, .invokevirtual 271, [0, 85], 0, 0),
  (14, 15, .aload_n 0, [], 0, 0),
  (15, 18, .getfield 19, [11, 1], 0, 0),
  (18, 21, .getfield 104, [9, 0], 0, 0),
  (21, 24, .getfield 135, [2, 1], 0, 0),
  (24, 27, .getfield 138, [3, 0], 0, 0),
  (27, 28, .istore_n 3, [], 0, 0),
  (28, 29, .iconst 0, [], 0, 0),
  (29, 31, .istore 4, [], 0, 0),
  (31, 32, .iconst 0, [], 0, 0),
  (32, 34, .istore 5, [], 0, 0),
  (34, 36, .iload 5, [], 0, 0),
  (36, 37, .iconst 1, [], 1, 0),
  (37, 38, .iload_n 3, [], 0, 0),
  (38, 39, .ishl, [], 0, 0),
  (39, 42, .if_icmp .ge 32, [71], 0, 0),
  (42, 43, .aload_n 0, [], 0, 0),
  (43, 46, .getfield 19, [11, 1], 0, 0),
  (46, 48, .iload 4, [], 0, 0),
  (48, 51, .invokevirtual 274, [0, 87], 0, 0),
  (51, 54, .ifCond .eq 6, [57], 0, 0),
  (54, 56, .iload 4, [], 0, 0),
  (56, 57, .ireturn, [], 0, 0),
  (57, 59, .iload 4, [], 0, 0),
  (59, 60, .iload_n 3, [], 0, 0),
  (60, 63, .invokestatic 277, [1, 154], 0, 0),
  (63, 65, .istore 4, [], 0, 0),
  (65, 68, .iinc 5 1, [], 1, 0),
  (68, 71, .goto (-34), [34], 0, 0),
  (71, 72, .iconst (-1), [], -1, 0),
  (72, 73, .ireturn, [], 0, 0)]
def mX11_apart : xM := (119, 11, cX11_apart, 6, (some .int), pX11_apart)
set_option maxRecDepth 100000 in
theorem gX11_apart : xgd mX11_apart := ⟨by decide +kernel, xat_in (p := 5120) rfl, by decide +kernel, by decide +kernel, by decide, by decide +kernel, by decide +kernel⟩
set_option maxRecDepth 100000 in
def pX11_alibi : List xRow := [(0, 1, .aload_n 0, [], 0, 0),
  (1, 2, .iload_n 1, [], 0, 0),
  (2, 5, .invokevirtual 159, [0, 143], 0, 0),
  (5, 6, .iload_n 2, [], 0, 0),
  (6, 7, .iload_n 3, [], 0, 0),
  (7, 10, .invokestatic 264, [1, 148], 0, 0),
  (10, 11, .iconst 0, [], 0, 0),
  (11, 13, .istore 4, [], 0, 0),
  (13, 14, .iconst 0, [], 0, 0),
  (14, 16, .istore 5, [], 0, 0),
  (16, 18, .iload 5, [], 0, 0),
  (18, 19, .aload_n 0, [], 0, 0),
  (19, 22, .getfield 19, [11, 1], 0, 0),
  (22, 25, .getfield 104, [9, 0], 0, 0),
  (25, 28, .getfield 126, [2, 0], 0, 0),
  (28, 31, .getfield 132, [4, 0], 0, 0),
  (31, 34, .if_icmp .ge 36, [67], 0, 0),
  (34, 36, .iload 5, [], 0, 0),
  (36, 37, .iload_n 1, [], 0, 0),
  (37, 40, .if_icmp .eq 24, [61], 0, 0),
  (40, 41, .aload_n 0, [], 0, 0),
  (41, 43, .iload 5, [], 0, 0),
  (43, 44, .iload_n 2, [], 0, 0),
  (44, 45, .iload_n 3, [], 0, 0),
  (45, 48, .invokevirtual 267, [0, 158], 0, 0),
  (48, 49, .iload_n 1, [], 0, 0),
  (49, 52, .if_icmp .ne 12, [61], 0, 0),
  (52, 54, .iload 4, [], 0, 0),
  (54, 55, .iconst 1, [], 1, 0),
  (55, 57, .iload 5, [], 0, 0),
  (57, 58, .ishl, [], 0, 0),
  (58, 59, .ior, [], 0, 0),
  (59, 61, .istore 4, [], 0, 0),
  (61, 64, .iinc 5 1, [], 1, 0),
  (64, 67, .goto (-48), [16], 0, 0),
  (67, 69, .iload 4, [], 0, 0),
  (69, 70, .ireturn, [], 0, 0)]
def mX11_alibi : xM := (120, 11, cX11_alibi, 6, (some .int), pX11_alibi)
set_option maxRecDepth 100000 in
theorem gX11_alibi : xgd mX11_alibi := ⟨by decide +kernel, xat_in (p := 5157) rfl, by decide +kernel, by decide +kernel, by decide, by decide +kernel, by decide +kernel⟩
set_option maxRecDepth 100000 in
def pX11_plan : List xRow := [(0, 1, .iload_n 2, [], 0, 0),
  (1, 4, .invokestatic 212, [1, 146], 0, 0),
  (4, 5, .iload_n 1, [], 0, 0),
  (5, 6, .aload_n 0, [], 0, 0),
  (6, 9, .getfield 19, [11, 1], 0, 0),
  (9, 12, .getfield 104, [9, 0], 0, 0),
  (12, 15, .getfield 135, [2, 1], 0, 0),
  (15, 18, .getfield 138, [3, 0], 0, 0),
  (18, 21, .invokestatic 280, [1, 149], 0, 0),
  (21, 22, .iload_n 3, [], 0, 0),
  (22, 25, .ifCond .lt 9, [31], 0, 0),
  (25, 26, .iload_n 3, [], 0, 0),
  (26, 28, .bipush 9, [], 9, 0),
  (28, 31, .if_icmp .le 14, [42], 0, 0),
  (31, 34, .new 89, [], 0, 0),
  (34, 35, .dup, [], 0, 0),
  (35, 38, .ldc_w 283, [25], 0, 0),
  (38, 41, .invokespecial 93, [], 0, 0),
  (41, 42, .athrow, [], 0, 0),
  (42, 43, .aload_n 0, [], 0, 0),
  (43, 46, .getfield 19, [11, 1], 0, 0),
  (46, 48, .bipush 9, [], 9, 0),
  (48, 49, .iload_n 2, [], 0, 0),
  (49, 52, .invokevirtual 271, [0, 85], 0, 0),
  (52, 53, .aload_n 0, [], 0, 0),
  (53, 56, .getfield 19, [11, 1], 0, 0),
  (56, 57, .iload_n 2, [], 0, 0),
  (57, 60, .invokevirtual 285, [0, 86], 0, 0),
  (60, 61, .aload_n 0, [], 0, 0),
  (61, 64, .getfield 19, [11, 1], 0, 0),
  (64, 67, .getfield 104, [9, 0], 0, 0),
  (67, 70, .getfield 126, [2, 0], 0, 0),
  (70, 73, .getfield 132, [4, 0], 0, 0),
  (73, 75, .istore 4, [], 0, 0),
  (75, 76, .iconst 0, [], 0, 0),
  (76, 78, .istore 5, [], 0, 0),
  (78, 79, .iconst 0, [], 0, 0),
  (79, 81, .istore 6, [], 0, 0),
  (81, 83, .iload 6, [], 0, 0),
  (83, 84, .iconst 1, [], 1, 0),
  (84, 86, .iload 4, [], 0, 0),
  (86, 87, .ishl, [], 0, 0),
  (87, 90, .if_icmp .ge 45, [132], 0, 0),
  (90, 92, .iload 5, [], 0, 0),
  (92, 95, .invokestatic 288, [1, 285], 0, 0),
  (95, 96, .iconst 3, [], 3, 0),
  (96, 99, .if_icmp .gt 36, [132], 0, 0),
  (99, 100, .aload_n 0, [], 0, 0),
  (100, 103, .getfield 19, [11, 1], 0, 0),
  (103, 104, .iload_n 1, [], 0, 0),
  (104, 105, .iload_n 2, [], 0, 0),
  (105, 107, .iload 5, [], 0, 0),
  (107, 108, .iload_n 3, [], 0, 0),
  (108, 111, .invokevirtual 293, [0, 91], 0, 0),
  (111, 114, .ifCond .eq 6, [117], 0, 0),
  (114, 116, .iload 5, [], 0, 0),
  (116, 117, .ireturn, [], 0, 0),
  (117, 119, .iload 5, [], 0, 0),
  (119, 121, .iload 4, [], 0, 0),
  (121, 124, .invokestatic 277, [1, 154], 0, 0),
  (124, 126, .istore 5, [], 0, 0),
  (126, 129, .iinc 6 1, [], 1, 0),
  (129, 132, .goto (-48), [81], 0, 0),
  (132, 133, .iconst (-1), [], -1, 0),
  (133, 134, .ireturn, [], 0, 0)]
def mX11_plan : xM := (121, 11, cX11_plan, 7, (some .int), pX11_plan)
set_option maxRecDepth 100000 in
theorem gX11_plan : xgd mX11_plan := ⟨by decide +kernel, xat_in (p := 5164) rfl, by decide +kernel, by decide +kernel, by decide, by decide +kernel, by decide +kernel⟩
set_option maxRecDepth 100000 in
def pX11_see : List xRow := [(0, 1, .aload_n 0, [], 0, 0),
  (1, 2, .iload_n 1, [], 0, 0),
  (2, 5, .invokevirtual 177, [0, 144], 0, 0),
  (5, 6, .iload_n 2, [], 0, 0),
  (6, 9, .invokestatic 212, [1, 146], 0, 0),
  (9, 10, .aload_n 0, [], 0, 0),
  (10, 13, .getfield 40, [11, 4], 0, 0),
  (13, 16, .getfield 114, [8, 0], 0, 0),
  (16, 18, .bipush 8, [], 8, 0),
  (18, 21, .if_icmp .ge 14, [32], 0, 0),
  (21, 22, .iload_n 3, [], 0, 0),
  (22, 23, .iconst (-1), [], -1, 0),
  (23, 26, .if_icmp .lt 9, [32], 0, 0),
  (26, 27, .iload_n 3, [], 0, 0),
  (27, 29, .bipush 9, [], 9, 0),
  (29, 32, .if_icmp .le 15, [44], 0, 0),
  (32, 33, .aload_n 0, [], 0, 0),
  (33, 34, .dup, [], 0, 0),
  (34, 37, .getfield 150, [11, 17], 0, 0),
  (37, 38, .iconst 1, [], 1, 0),
  (38, 39, .iadd, [], 0, 0),
  (39, 42, .putfield 150, [11, 17], 0, 0),
  (42, 43, .iconst (-1), [], -1, 0),
  (43, 44, .ireturn, [], 0, 0),
  (44, 45, .aload_n 0, [], 0, 0),
  (45, 48, .getfield 40, [11, 4], 0, 0),
  (48, 49, .iload_n 1, [], 0, 0),
  (49, 50, .iload_n 2, [], 0, 0),
  (50, 51, .iload_n 3, [], 0, 0),
  (51, 54, .invokevirtual 297, [0, 60], 0, 0),
  (54, 55, .aload_n 0, [], 0, 0),
  (55, 58, .getfield 40, [11, 4], 0, 0),
  (58, 61, .getfield 114, [8, 0], 0, 0),
  (61, 62, .ireturn, [], 0, 0)]
def mX11_see : xM := (122, 11, cX11_see, 4, (some .int), pX11_see)
set_option maxRecDepth 100000 in
theorem gX11_see : xgd mX11_see := ⟨by decide +kernel, xat_in (p := 5192) rfl, by decide +kernel, by decide +kernel, by decide, by decide +kernel, by decide +kernel⟩
set_option maxRecDepth 100000 in
def pX11_forget : List xRow := [(0, 1, .aload_n 0, [], 0, 0),
  (1, 4, .getfield 40, [11, 4], 0, 0),
  (4, 5, .iconst 0, [], 0, 0),
  (5, 8, .putfield 114, [8, 0], 0, 0),
  (8, 9, .return_, [], 0, 0)]
def mX11_forget : xM := (123, 11, cX11_forget, 1, none, pX11_forget)
set_option maxRecDepth 100000 in
theorem gX11_forget : xgd mX11_forget := ⟨by decide +kernel, xat_in (p := 3100) rfl, by decide +kernel, by decide +kernel, by decide, by decide +kernel, by decide +kernel⟩
set_option maxRecDepth 100000 in
def pX11_planted : List xRow := [(0, 1, .iconst 0, [], 0, 0),
  (1, 2, .istore_n 1, [], 0, 0),
  (2, 3, .iconst 0, [], 0, 0),
  (3, 4, .istore_n 2, [], 0, 0),
  (4, 5, .iload_n 2, [], 0, 0),
  (5, 6, .aload_n 0, [], 0, 0),
  (6, 9, .getfield 40, [11, 4], 0, 0),
  (9, 12, .getfield 114, [8, 0], 0, 0),
  (12, 15, .if_icmp .ge 56, [68], 0, 0),
  (15, 16, .aload_n 0, [], 0, 0),
  (16, 19, .getfield 40, [11, 4], 0, 0),
  (19, 22, .getfield 298, [8, 1], 0, 0),
  (22, 23, .iload_n 2, [], 0, 0),
  (23, 24, .iaload, [], 0, 0),
  (24, 25, .istore_n 3, [], 0, 0),
  (25, 26, .aload_n 0, [], 0, 0),
  (26, 29, .getfield 19, [11, 1], 0, 0),
  (29, 32, .getfield 215, [9, 2], 0, 0),
  (32, 33, .iload_n 3, [], 0, 0),
  (33, 34, .aaload, [], 0, 0),
  (34, 35, .aload_n 0, [], 0, 0),
  (35, 38, .getfield 40, [11, 4], 0, 0),
  (38, 41, .getfield 301, [8, 2], 0, 0),
  (41, 42, .iload_n 2, [], 0, 0),
  (42, 43, .iaload, [], 0, 0),
  (43, 44, .iaload, [], 0, 0),
  (44, 45, .aload_n 0, [], 0, 0),
  (45, 48, .getfield 40, [11, 4], 0, 0),
  (48, 51, .getfield 302, [8, 3], 0, 0),
  (51, 52, .iload_n 2, [], 0, 0),
  (52, 53, .iaload, [], 0, 0),
  (53, 56, .if_icmp .eq 9, [62], 0, 0),
  (56, 57, .iload_n 1, [], 0, 0),
  (57, 58, .iconst 1, [], 1, 0),
  (58, 59, .iload_n 3, [], 0, 0),
  (59, 60, .ishl, [], 0, 0),
  (60, 61, .ior, [], 0, 0),
  (61, 62, .istore_n 1, [], 0, 0),
  (62, 65, .iinc 2 1, [], 1, 0),
  (65, 68, .goto (-61), [4], 0, 0),
  (68, 69, .iload_n 1, [], 0, 0),
  (69, 70, .ireturn, [], 0, 0)]
def mX11_planted : xM := (124, 11, cX11_planted, 4, (some .int), pX11_planted)
set_option maxRecDepth 100000 in
theorem gX11_planted : xgd mX11_planted := ⟨by decide +kernel, xat_in (p := 3104) rfl, by decide +kernel, by decide +kernel, by decide, by decide +kernel, by decide +kernel⟩
set_option maxRecDepth 100000 in
def pX11_suspects : List xRow := [(0, 1, .iload_n 1, [], 0, 0),
  (1, 4, .invokestatic 212, [1, 146], 0, 0),
  (4, 5, .aload_n 0, [], 0, 0),
  (5, 8, .getfield 19, [11, 1], 0, 0),
  (8, 9, .iload_n 1, [], 0, 0),
  (9, 12, .invokevirtual 285, [0, 86], 0, 0),
  (12, 13, .iconst 0, [], 0, 0),
  (13, 14, .istore_n 2, [], 0, 0),
  (14, 15, .iconst 0, [], 0, 0),
  (15, 16, .istore_n 3, [], 0, 0),
  (16, 17, .iload_n 3, [], 0, 0),
  (17, 18, .aload_n 0, [], 0, 0),
  (18, 21, .getfield 19, [11, 1], 0, 0),
  (21, 24, .getfield 104, [9, 0], 0, 0),
  (24, 27, .getfield 126, [2, 0], 0, 0),
  (27, 30, .getfield 132, [4, 0], 0, 0),
  (30, 33, .if_icmp .ge 24, [54], 0, 0),
  (33, 34, .aload_n 0, [], 0, 0),
  (34, 35, .iload_n 3, [], 0, 0),
  (35, 36, .iload_n 1, [], 0, 0),
  (36, 39, .invokevirtual 305, [0, 159], 0, 0),
  (39, 42, .ifCond .eq 9, [48], 0, 0),
  (42, 43, .iload_n 2, [], 0, 0),
  (43, 44, .iconst 1, [], 1, 0),
  (44, 45, .iload_n 3, [], 0, 0),
  (45, 46, .ishl, [], 0, 0),
  (46, 47, .ior, [], 0, 0),
  (47, 48, .istore_n 2, [], 0, 0),
  (48, 51, .iinc 3 1, [], 1, 0),
  (51, 54, .goto (-35), [16], 0, 0),
  (54, 55, .iload_n 2, [], 0, 0),
  (55, 56, .ireturn, [], 0, 0)]
def mX11_suspects : xM := (125, 11, cX11_suspects, 4, (some .int), pX11_suspects)
set_option maxRecDepth 100000 in
theorem gX11_suspects : xgd mX11_suspects := ⟨by decide +kernel, xat_in (p := 5203) rfl, by decide +kernel, by decide +kernel, by decide, by decide +kernel, by decide +kernel⟩
set_option maxRecDepth 100000 in
def pX11_spots : List xRow := [(0, 1, .iload_n 1, [], 0, 0),
  (1, 4, .invokestatic 212, [1, 146], 0, 0),
  (4, 5, .iload_n 2, [], 0, 0),
  (5, 6, .iconst 1, [], 1, 0),
  (6, 9, .invokestatic 122, [1, 147], 0, 0),
  (9, 10, .aload_n 0, [], 0, 0),
  (10, 13, .getfield 19, [11, 1], 0, 0),
  (13, 16, .getfield 104, [9, 0], 0, 0),
  (16, 19, .getfield 135, [2, 1], 0, 0),
  (19, 20, .astore_n 3, [], 0, 0),
  (20, 21, .iconst 0, [], 0, 0),
  (21, 23, .istore 4, [], 0, 0),
  (23, 25, .iload 4, [], 0, 0),
  (25, 26, .aload_n 3, [], 0, 0),
  (26, 29, .getfield 138, [3, 0], 0, 0),
  (29, 32, .if_icmp .ge 41, [70], 0, 0),
  (32, 33, .aload_n 0, [], 0, 0),
  (33, 36, .getfield 74, [11, 12], 0, 0),
  (36, 38, .iload 4, [], 0, 0),
  (38, 39, .aload_n 0, [], 0, 0),
  (39, 42, .getfield 19, [11, 1], 0, 0),
  (42, 44, .bipush 9, [], 9, 0),
  (44, 45, .iconst 0, [], 0, 0),
  (45, 46, .aload_n 3, [], 0, 0),
  (46, 49, .getfield 182, [3, 3], 0, 0),
  (49, 51, .iload 4, [], 0, 0),
  (51, 52, .iaload, [], 0, 0),
  (52, 53, .aload_n 3, [], 0, 0),
  (53, 56, .getfield 185, [3, 4], 0, 0),
  (56, 58, .iload 4, [], 0, 0),
  (58, 59, .iaload, [], 0, 0),
  (59, 60, .iload_n 1, [], 0, 0),
  (60, 63, .invokevirtual 309, [0, 73], 0, 0),
  (63, 64, .lastore, [], 0, 0),
  (64, 67, .iinc 4 1, [], 1, 0),
  (67, 70, .goto (-44), [23], 0, 0),
  (70, 71, .aload_n 0, [], 0, 0),
  (71, 74, .getfield 19, [11, 1], 0, 0),
  (74, 75, .iload_n 1, [], 0, 0),
  (75, 78, .invokevirtual 285, [0, 86], 0, 0),
  (78, 79, .iconst 0, [], 0, 0),
  (79, 81, .istore 4, [], 0, 0),
  (81, 82, .iconst 0, [], 0, 0),
  (82, 84, .istore 5, [], 0, 0),
  (84, 86, .iload 5, [], 0, 0),
  (86, 88, .bipush 41, [], 41, 0),
  (88, 91, .if_icmp .ge 61, [149], 0, 0),
  (91, 92, .iconst 0, [], 0, 0),
  (92, 94, .istore 6, [], 0, 0),
  (94, 96, .iload 6, [], 0, 0),
  (96, 98, .bipush 41, [], 41, 0),
  (98, 101, .if_icmp .ge 45, [143], 0, 0),
  (101, 102, .aload_n 0, [], 0, 0),
  (102, 103, .iload_n 1, [], 0, 0),
  (103, 105, .iload 6, [], 0, 0),
  (105, 107, .iload 5, [], 0, 0),
  (107, 108, .aload_n 0, [], 0, 0),
  (108, 110, .iload 6, [], 0, 0),
  (110, 112, .iload 5, [], 0, 0),
  (112, 115, .invokevirtual 313, [0, 161], 0, 0),
  (115, 118, .invokevirtual 316, [0, 160], 0, 0),
  (118, 121, .ifCond .eq 19, [137], 0, 0),
  (121, 122, .iload_n 2, [], 0, 0),
  (122, 123, .iconst 1, [], 1, 0),
  (123, 126, .if_icmp .ne 11, [134], 0, 0),
  (126, 128, .iload 6, [], 0, 0),
  (128, 130, .iload 5, [], 0, 0),
  (130, 133, .invokestatic 254, [1, 151], 0, 0),
  (133, 134, .ireturn, [], 0, 0),
  (134, 137, .iinc 4 1, [], 1, 0),
  (137, 140, .iinc 6 1, [], 1, 0),
  (140, 143, .goto (-46), [94], 0, 0),
  (143, 146, .iinc 5 1, [], 1, 0),
  (146, 149, .goto (-62), [84], 0, 0),
  (149, 150, .iload_n 2, [], 0, 0),
  (150, 151, .iconst 1, [], 1, 0),
  (151, 154, .if_icmp .ne 7, [158], 0, 0),
  (154, 155, .iconst (-1), [], -1, 0),
  (155, 158, .goto 5, [160], 0, 0),
  (158, 160, .iload 4, [], 0, 0),
  (160, 161, .ireturn, [], 0, 0)]
def mX11_spots : xM := (126, 11, cX11_spots, 7, (some .int), pX11_spots)
set_option maxRecDepth 100000 in
theorem gX11_spots : xgd mX11_spots := ⟨by decide +kernel, xat_in (p := 5223) rfl, by decide +kernel, by decide +kernel, by decide, by decide +kernel, by decide +kernel⟩
set_option maxRecDepth 100000 in
def pX11_saucer : List xRow := [(0, 1, .iload_n 2, [], 0, 0),
  (1, 4, .invokestatic 212, [1, 146], 0, 0),
  (4, 5, .iload_n 3, [], 0, 0),
  (5, 6, .iconst 1, [], 1, 0),
  (6, 9, .invokestatic 122, [1, 147], 0, 0),
  (9, 10, .iload_n 1, [], 0, 0),
  (10, 11, .aload_n 0, [], 0, 0),
  (11, 14, .getfield 19, [11, 1], 0, 0),
  (14, 17, .getfield 104, [9, 0], 0, 0),
  (17, 20, .getfield 126, [2, 0], 0, 0),
  (20, 23, .getfield 132, [4, 0], 0, 0),
  (23, 26, .invokestatic 280, [1, 149], 0, 0),
  (26, 27, .iconst 0, [], 0, 0),
  (27, 29, .istore 4, [], 0, 0),
  (29, 31, .iload 4, [], 0, 0),
  (31, 32, .aload_n 0, [], 0, 0),
  (32, 35, .getfield 19, [11, 1], 0, 0),
  (35, 38, .getfield 104, [9, 0], 0, 0),
  (38, 41, .getfield 126, [2, 0], 0, 0),
  (41, 44, .getfield 132, [4, 0], 0, 0),
  (44, 47, .if_icmp .ge 45, [89], 0, 0),
  (47, 48, .aload_n 0, [], 0, 0),
  (48, 51, .getfield 74, [11, 12], 0, 0),
  (51, 53, .iload 4, [], 0, 0),
  (53, 54, .aload_n 0, [], 0, 0),
  (54, 57, .getfield 19, [11, 1], 0, 0),
  (57, 59, .bipush 9, [], 9, 0),
  (59, 60, .aload_n 0, [], 0, 0),
  (60, 63, .getfield 19, [11, 1], 0, 0),
  (63, 66, .getfield 104, [9, 0], 0, 0),
  (66, 69, .getfield 126, [2, 0], 0, 0),
  (69, 72, .getfield 168, [4, 3], 0, 0),
  (72, 74, .iload 4, [], 0, 0),
  (74, 75, .iaload, [], 0, 0),
  (75, 77, .bipush 60, [], 60, 0),
  (77, 78, .iconst 0, [], 0, 0),
  (78, 79, .iload_n 2, [], 0, 0),
  (79, 82, .invokevirtual 309, [0, 73], 0, 0),
  (82, 83, .lastore, [], 0, 0),
  (83, 86, .iinc 4 1, [], 1, 0),
  (86, 89, .goto (-57), [29], 0, 0),
  (89, 90, .iconst (-1), [], -1, 0),
  (90, 92, .istore 4, [], 0, 0),
  (92, 93, .iconst 0, [], 0, 0),
  (93, 95, .istore 5, [], 0, 0),
  (95, 96, .iconst 0, [], 0, 0),
  (96, 98, .istore 6, [], 0, 0),
  (98, 100, .iload 6, [], 0, 0),
  (100, 102, .bipush 41, [], 41, 0),
  (102, 105, .if_icmp .ge 56, [158], 0, 0),
  (105, 106, .iconst 0, [], 0, 0),
  (106, 108, .istore 7, [], 0, 0),
  (108, 110, .iload 7, [], 0, 0),
  (110, 112, .bipush 41, [], 41, 0),
  (112, 115, .if_icmp .ge 40, [152], 0, 0),
  (115, 116, .aload_n 0, [], 0, 0),
  (116, 117, .iload_n 1, [], 0, 0),
  (117, 119, .iload 7, [], 0, 0),
  (119, 121, .iload 6, [], 0, 0),
  (121, 124, .invokevirtual 319, [0, 162], 0, 0),
  (124, 126, .istore 8, [], 0, 0),
  (126, 128, .iload 8, [], 0, 0),
  (128, 130, .iload 4, [], 0, 0),
  (130, 133, .if_icmp .le 16, [146], 0, 0),
  (133, 135, .iload 8, [], 0, 0),
  (135, 137, .istore 4, [], 0, 0),
  (137, 139, .iload 7, [], 0, 0),
  (139, 141, .iload 6, [], 0, 0),
  (141, 144, .invokestatic 254, [1, 151], 0, 0),
  (144, 146, .istore 5, [], 0, 0),
  (146, 149, .iinc 7 1, [], 1, 0),
  (149, 152, .goto (-41), [108], 0, 0),
  (152, 155, .iinc 6 1, [], 1, 0),
  (155, 158, .goto (-57), [98], 0, 0),
  (158, 159, .iload_n 3, [], 0, 0),
  (159, 160, .iconst 1, [], 1, 0),
  (160, 163, .if_icmp .ne 8, [168], 0, 0),
  (163, 165, .iload 5, [], 0, 0),
  (165, 168, .goto 5, [170], 0, 0),
  (168, 170, .iload 4, [], 0, 0),
  (170, 171, .ireturn, [], 0, 0)]
def mX11_saucer : xM := (127, 11, cX11_saucer, 9, (some .int), pX11_saucer)
set_option maxRecDepth 100000 in
theorem gX11_saucer : xgd mX11_saucer := ⟨by decide +kernel, xat_in (p := 5239) rfl, by decide +kernel, by decide +kernel, by decide, by decide +kernel, by decide +kernel⟩
set_option maxRecDepth 100000 in
def pX11_game : List xRow := [(0, 1, .aload_n 0, [], 0, 0),
  (1, 2, .iload_n 1, [], 0, 0),
  (2, 5, .invokevirtual 159, [0, 143], 0, 0),
  (5, 6, .aload_n 0, [], 0, 0),
  (6, 7, .iload_n 2, [], 0, 0),
  (7, 10, .invokevirtual 159, [0, 143], 0, 0),
  (10, 11, .iload_n 3, [], 0, 0),
  (11, 14, .invokestatic 212, [1, 146], 0, 0),
  (14, 16, .iload 5, [], 0, 0),
  (16, 17, .iconst 1, [], 1, 0),
  (17, 20, .invokestatic 122, [1, 147], 0, 0),
  (20, 21, .iload_n 1, [], 0, 0),
  (21, 22, .iload_n 2, [], 0, 0),
  (22, 25, .if_icmp .eq 15, [37], 0, 0),
  (25, 27, .iload 4, [], 0, 0),
  (27, 30, .ifCond .lt 10, [37], 0, 0),
  (30, 32, .iload 4, [], 0, 0),
  (32, 34, .bipush 99, [], 99, 0),
  (34, 37, .if_icmp .le 14, [48], 0, 0),
  (37, 40, .new 89, [], 0, 0),
  (40, 41, .dup, [], 0, 0),
  (41, 44, .ldc_w 322, [26], 0, 0),
  (44, 47, .invokespecial 93, [], 0, 0),
  (47, 48, .athrow, [], 0, 0),
  (48, 49, .aload_n 0, [], 0, 0),
  (49, 50, .iload_n 1, [], 0, 0),
  (50, 51, .iload_n 2, [], 0, 0),
  (51, 52, .iload_n 3, [], 0, 0),
  (52, 55, .invokevirtual 324, [0, 163], 0, 0),
  (55, 56, .iconst 0, [], 0, 0),
  (56, 58, .istore 6, [], 0, 0),
  (58, 59, .iconst 0, [], 0, 0),
  (59, 61, .istore 7, [], 0, 0),
  (61, 63, .iload 7, [], 0, 0),
  (63, 64, .iconst 4, [], 4, 0),
  (64, 67, .if_icmp .ge 44, [108], 0, 0),
  (67, 68, .aload_n 0, [], 0, 0),
  (68, 70, .iload 7, [], 0, 0),
  (70, 71, .iload_n 1, [], 0, 0),
  (71, 72, .iload_n 2, [], 0, 0),
  (72, 74, .iload 4, [], 0, 0),
  (74, 77, .invokevirtual 327, [0, 164], 0, 0),
  (77, 80, .ifCond .eq 25, [102], 0, 0),
  (80, 82, .iload 5, [], 0, 0),
  (82, 83, .iconst 1, [], 1, 0),
  (83, 86, .if_icmp .ne 16, [99], 0, 0),
  (86, 88, .bipush 10, [], 10, 0),
  (88, 90, .iload 7, [], 0, 0),
  (90, 91, .iconst 1, [], 1, 0),
  (91, 92, .ishr, [], 0, 0),
  (92, 93, .imul, [], 0, 0),
  (93, 95, .iload 7, [], 0, 0),
  (95, 96, .iconst 1, [], 1, 0),
  (96, 97, .iand, [], 0, 0),
  (97, 98, .iadd, [], 0, 0),
  (98, 99, .ireturn, [], 0, 0),
  (99, 102, .iinc 6 1, [], 1, 0),
  (102, 105, .iinc 7 1, [], 1, 0),
  (105, 108, .goto (-44), [61], 0, 0),
  (108, 110, .iload 5, [], 0, 0),
  (110, 111, .iconst 1, [], 1, 0),
  (111, 114, .if_icmp .ne 7, [118], 0, 0),
  (114, 115, .iconst (-1), [], -1, 0),
  (115, 118, .goto 5, [120], 0, 0),
  (118, 120, .iload 6, [], 0, 0),
  (120, 121, .ireturn, [], 0, 0)]
def mX11_game : xM := (128, 11, cX11_game, 8, (some .int), pX11_game)
set_option maxRecDepth 100000 in
theorem gX11_game : xgd mX11_game := ⟨by decide +kernel, xat_in (p := 6010) rfl, by decide +kernel, by decide +kernel, by decide, by decide +kernel, by decide +kernel⟩
set_option maxRecDepth 100000 in
def pX11_years : List xRow := [(0, 1, .iload_n 3, [], 0, 0),
  (1, 2, .iconst 2, [], 2, 0),
  (2, 5, .invokestatic 122, [1, 147], 0, 0),
  (5, 6, .iload_n 2, [], 0, 0),
  (6, 9, .ifCond .lt 9, [15], 0, 0),
  (9, 10, .iload_n 2, [], 0, 0),
  (10, 12, .bipush 99, [], 99, 0),
  (12, 15, .if_icmp .le 14, [26], 0, 0),
  (15, 18, .new 89, [], 0, 0),
  (18, 19, .dup, [], 0, 0),
  (19, 22, .ldc_w 330, [27], 0, 0),
  (22, 25, .invokespecial 93, [], 0, 0),
  (25, 26, .athrow, [], 0, 0),
  (26, 27, .aload_n 0, [], 0, 0),
  (27, 30, .getfield 19, [11, 1], 0, 0),
  (30, 33, .getfield 104, [9, 0], 0, 0),
  (33, 36, .getfield 126, [2, 0], 0, 0),
  (36, 39, .getfield 132, [4, 0], 0, 0),
  (39, 41, .istore 4, [], 0, 0),
  (41, 43, .iload 4, [], 0, 0),
  (43, 46, .ifCond .ne 5, [48], 0, 0),
  (46, 47, .iconst 0, [], 0, 0),
  (47, 48, .ireturn, [], 0, 0),
  (48, 49, .aload_n 0, [], 0, 0),
  (49, 52, .getfield 26, [11, 2], 0, 0),
  (52, 55, .invokevirtual 332, [0, 6], 0, 0),
  (55, 56, .iload_n 1, [], 0, 0),
  (56, 58, .istore 5, [], 0, 0),
  (58, 59, .iconst 0, [], 0, 0),
  (59, 61, .istore 6, [], 0, 0),
  (61, 62, .iconst 0, [], 0, 0),
  (62, 64, .istore 7, [], 0, 0),
  (64, 66, .iload 7, [], 0, 0),
  (66, 67, .iload_n 2, [], 0, 0),
  (67, 70, .if_icmp .ge 131, [198], 0, 0),
  (70, 72, .iload 5, [], 0, 0),
  (72, 75, .invokestatic 335, [1, 155], 0, 0),
  (75, 77, .istore 5, [], 0, 0),
  (77, 79, .iload 5, [], 0, 0),
  (79, 81, .iload 4, [], 0, 0),
  (81, 84, .invokestatic 338, [1, 156], 0, 0),
  (84, 86, .istore 8, [], 0, 0),
  (86, 88, .iload 5, [], 0, 0),
  (88, 91, .invokestatic 335, [1, 155], 0, 0),
  (91, 93, .istore 5, [], 0, 0),
  (93, 95, .iload 5, [], 0, 0),
  (95, 97, .bipush 10, [], 10, 0),
  (97, 100, .invokestatic 338, [1, 156], 0, 0),
  (100, 102, .istore 9, [], 0, 0),
  (102, 103, .aload_n 0, [], 0, 0),
  (103, 106, .getfield 26, [11, 2], 0, 0),
  (106, 107, .aload_n 0, [], 0, 0),
  (107, 110, .getfield 19, [11, 1], 0, 0),
  (110, 112, .iload 8, [], 0, 0),
  (112, 114, .iload 9, [], 0, 0),
  (114, 116, .iload 7, [], 0, 0),
  (116, 119, .invokevirtual 341, [0, 7], 0, 0),
  (119, 120, .aload_n 0, [], 0, 0),
  (120, 123, .getfield 26, [11, 2], 0, 0),
  (123, 124, .aload_n 0, [], 0, 0),
  (124, 127, .getfield 19, [11, 1], 0, 0),
  (127, 129, .iload 7, [], 0, 0),
  (129, 130, .iconst (-1), [], -1, 0),
  (130, 133, .invokevirtual 345, [0, 10], 0, 0),
  (133, 135, .iload 8, [], 0, 0),
  (135, 138, .if_icmp .ne 7, [142], 0, 0),
  (138, 139, .iconst 1, [], 1, 0),
  (139, 142, .goto 4, [143], 0, 0),
  (142, 143, .iconst 0, [], 0, 0),
  (143, 145, .istore 10, [], 0, 0),
  (145, 147, .iload 9, [], 0, 0),
  (147, 150, .ifCond .le 7, [154], 0, 0),
  (150, 151, .iconst 1, [], 1, 0),
  (151, 154, .goto 4, [155], 0, 0),
  (154, 155, .iconst 0, [], 0, 0),
  (155, 157, .istore 11, [], 0, 0),
  (157, 158, .iload_n 3, [], 0, 0),
  (158, 159, .iconst 1, [], 1, 0),
  (159, 162, .if_icmp .ne 11, [170], 0, 0),
  (162, 164, .iload 11, [], 0, 0),
  (164, 167, .ifCond .eq 28, [192], 0, 0),
  (167, 170, .goto 22, [189], 0, 0),
  (170, 172, .iload 10, [], 0, 0),
  (172, 175, .ifCond .eq 20, [192], 0, 0),
  (175, 177, .iload 11, [], 0, 0),
  (177, 178, .iload_n 3, [], 0, 0),
  (178, 181, .ifCond .ne 7, [185], 0, 0),
  (181, 182, .iconst 1, [], 1, 0),
  (182, 185, .goto 4, [186], 0, 0),
  (185, 186, .iconst 0, [], 0, 0),
  (186, 189, .if_icmp .ne 6, [192], 0, 0),
  (189, 192, .iinc 6 1, [], 1, 0),
  (192, 195, .iinc 7 1, [], 1, 0),
  (195, 198, .goto (-131), [64], 0, 0),
  (198, 200, .iload 6, [], 0, 0),
  (200, 201, .ireturn, [], 0, 0)]
def mX11_years : xM := (129, 11, cX11_years, 12, (some .int), pX11_years)
set_option maxRecDepth 100000 in
theorem gX11_years : xgd mX11_years := ⟨by decide +kernel, xat_in (p := 6036) rfl, by decide +kernel, by decide +kernel, by decide, by decide +kernel, by decide +kernel⟩
set_option maxRecDepth 100000 in
def pX11_shown : List xRow := [(0, 1, .aload_n 0, [], 0, 0),
  (1, 2, .iload_n 1, [], 0, 0),
  (2, 5, .invokevirtual 177, [0, 144], 0, 0),
  (5, 6, .iload_n 2, [], 0, 0),
  (6, 7, .iconst (-1), [], -1, 0),
  (7, 10, .if_icmp .lt 9, [16], 0, 0),
  (10, 11, .iload_n 2, [], 0, 0),
  (11, 13, .bipush 9, [], 9, 0),
  (13, 16, .if_icmp .le 14, [27], 0, 0),
  (16, 19, .new 349, [], 0, 0),
  (19, 20, .dup, [], 0, 0),
  (20, 23, .ldc_w 283, [25], 0, 0),
  (23, 26, .invokespecial 351, [], 0, 0),
  (26, 27, .athrow, [], 0, 0),
  (27, 28, .iconst 0, [], 0, 0),
  (28, 29, .istore_n 3, [], 0, 0),
  (29, 30, .iconst 0, [], 0, 0),
  (30, 32, .istore 4, [], 0, 0),
  (32, 34, .iload 4, [], 0, 0),
  (34, 36, .bipush 100, [], 100, 0),
  (36, 39, .if_icmp .ge 28, [64], 0, 0),
  (39, 40, .aload_n 0, [], 0, 0),
  (40, 43, .getfield 19, [11, 1], 0, 0),
  (43, 46, .getfield 215, [9, 2], 0, 0),
  (46, 47, .iload_n 1, [], 0, 0),
  (47, 48, .aaload, [], 0, 0),
  (48, 50, .iload 4, [], 0, 0),
  (50, 51, .iaload, [], 0, 0),
  (51, 52, .iload_n 2, [], 0, 0),
  (52, 55, .if_icmp .ne 6, [58], 0, 0),
  (55, 58, .iinc 3 1, [], 1, 0),
  (58, 61, .iinc 4 1, [], 1, 0),
  (61, 64, .goto (-29), [32], 0, 0),
  (64, 65, .iload_n 3, [], 0, 0),
  (65, 66, .ireturn, [], 0, 0)]
def mX11_shown : xM := (130, 11, cX11_shown, 5, (some .int), pX11_shown)
set_option maxRecDepth 100000 in
theorem gX11_shown : xgd mX11_shown := ⟨by decide +kernel, xat_in (p := 6051) rfl, by decide +kernel, by decide +kernel, by decide, by decide +kernel, by decide +kernel⟩
set_option maxRecDepth 100000 in
def pX11_named : List xRow := [(0, 1, .aload_n 0, [], 0, 0),
  (1, 2, .iload_n 1, [], 0, 0),
  (2, 5, .invokevirtual 159, [0, 143], 0, 0),
  (5, 6, .iload_n 2, [], 0, 0),
  (6, 7, .iconst 1, [], 1, 0),
  (7, 10, .invokestatic 122, [1, 147], 0, 0),
  (10, 11, .iconst 0, [], 0, 0),
  (11, 12, .istore_n 3, [], 0, 0),
  (12, 13, .iconst 0, [], 0, 0),
  (13, 15, .istore 4, [], 0, 0),
  (15, 17, .iload 4, [], 0, 0),
  (17, 19, .bipush 100, [], 100, 0),
  (19, 22, .if_icmp .ge 45, [64], 0, 0),
  (22, 23, .iload_n 2, [], 0, 0),
  (23, 26, .ifCond .ne 22, [45], 0, 0),
  (26, 27, .iload_n 3, [], 0, 0),
  (27, 28, .aload_n 0, [], 0, 0),
  (28, 31, .getfield 19, [11, 1], 0, 0),
  (31, 32, .iload_n 1, [], 0, 0),
  (32, 34, .iload 4, [], 0, 0),
  (34, 37, .invokevirtual 222, [0, 78], 0, 0),
  (37, 40, .invokestatic 288, [1, 285], 0, 0),
  (40, 41, .iadd, [], 0, 0),
  (41, 42, .istore_n 3, [], 0, 0),
  (42, 45, .goto 16, [58], 0, 0),
  (45, 46, .aload_n 0, [], 0, 0),
  (46, 48, .iload 4, [], 0, 0),
  (48, 51, .invokevirtual 230, [0, 157], 0, 0),
  (51, 52, .iload_n 1, [], 0, 0),
  (52, 55, .if_icmp .ne 6, [58], 0, 0),
  (55, 58, .iinc 3 1, [], 1, 0),
  (58, 61, .iinc 4 1, [], 1, 0),
  (61, 64, .goto (-46), [15], 0, 0),
  (64, 65, .iload_n 3, [], 0, 0),
  (65, 66, .ireturn, [], 0, 0)]
def mX11_named : xM := (131, 11, cX11_named, 5, (some .int), pX11_named)
set_option maxRecDepth 100000 in
theorem gX11_named : xgd mX11_named := ⟨by decide +kernel, xat_in (p := 6058) rfl, by decide +kernel, by decide +kernel, by decide, by decide +kernel, by decide +kernel⟩
set_option maxRecDepth 100000 in
def pX11_butFor : List xRow := [(0, 1, .aload_n 0, [], 0, 0),
  (1, 2, .iload_n 1, [], 0, 0),
  (2, 5, .invokevirtual 197, [0, 145], 0, 0),
  (5, 6, .iconst 0, [], 0, 0),
  (6, 7, .istore_n 2, [], 0, 0),
  (7, 8, .iconst 0, [], 0, 0),
  (8, 9, .istore_n 3, [], 0, 0),
  (9, 10, .iload_n 3, [], 0, 0),
  (10, 11, .aload_n 0, [], 0, 0),
  (11, 14, .getfield 19, [11, 1], 0, 0),
  (14, 17, .getfield 104, [9, 0], 0, 0),
  (17, 20, .getfield 135, [2, 1], 0, 0),
  (20, 23, .getfield 138, [3, 0], 0, 0),
  (23, 26, .if_icmp .ge 81, [104], 0, 0),
  (26, 27, .aload_n 0, [], 0, 0),
  (27, 30, .getfield 19, [11, 1], 0, 0),
  (30, 31, .iload_n 3, [], 0, 0),
  (31, 32, .aload_n 0, [], 0, 0),
  (32, 35, .getfield 19, [11, 1], 0, 0),
  (35, 38, .getfield 188, [9, 1], 0, 0),
  (38, 39, .iload_n 3, [], 0, 0),
  (39, 40, .iaload, [], 0, 0),
  (40, 41, .iconst 1, [], 1, 0),
  (41, 42, .iload_n 1, [], 0, 0),
  (42, 43, .ishl, [], 0, 0),
  (43, 44, .iconst (-1), [], -1, 0),
  (44, 45, .ixor, [], 0, 0),
  (45, 46, .iand, [], 0, 0),
  (46, 47, .aload_n 0, [], 0, 0),
  (47, 50, .getfield 64, [11, 9], 0, 0),
  (50, 51, .aload_n 0, [], 0, 0),
  (51, 54, .getfield 68, [11, 10], 0, 0),
  (54, 57, .invokevirtual 352, [0, 64], 0, 0),
  (57, 58, .iconst 0, [], 0, 0),
  (58, 60, .istore 4, [], 0, 0),
  (60, 62, .iload 4, [], 0, 0),
  (62, 64, .bipush 100, [], 100, 0),
  (64, 67, .if_icmp .ge 34, [98], 0, 0),
  (67, 68, .aload_n 0, [], 0, 0),
  (68, 71, .getfield 64, [11, 9], 0, 0),
  (71, 73, .iload 4, [], 0, 0),
  (73, 74, .iaload, [], 0, 0),
  (74, 75, .aload_n 0, [], 0, 0),
  (75, 78, .getfield 19, [11, 1], 0, 0),
  (78, 81, .getfield 215, [9, 2], 0, 0),
  (81, 82, .iload_n 3, [], 0, 0),
  (82, 83, .aaload, [], 0, 0),
  (83, 85, .iload 4, [], 0, 0),
  (85, 86, .iaload, [], 0, 0),
  (86, 89, .if_icmp .eq 6, [92], 0, 0),
  (89, 92, .iinc 2 1, [], 1, 0),
  (92, 95, .iinc 4 1, [], 1, 0),
  (95, 98, .goto (-35), [60], 0, 0),
  (98, 101, .iinc 3 1, [], 1, 0),
  (101, 104, .goto (-92), [9], 0, 0),
  (104, 105, .iload_n 2, [], 0, 0),
  (105, 106, .ireturn, [], 0, 0)]
def mX11_butFor : xM := (132, 11, cX11_butFor, 5, (some .int), pX11_butFor)
set_option maxRecDepth 100000 in
theorem gX11_butFor : xgd mX11_butFor := ⟨by decide +kernel, xat_in (p := 6065) rfl, by decide +kernel, by decide +kernel, by decide, by decide +kernel, by decide +kernel⟩
set_option maxRecDepth 100000 in
def pX11_rusted : List xRow := [(0, 1, .aload_n 0, [], 0, 0),
  (1, 2, .iload_n 1, [], 0, 0),
  (2, 5, .invokevirtual 177, [0, 144], 0, 0),
  (5, 6, .iconst 0, [], 0, 0),
  (6, 7, .istore_n 2, [], 0, 0),
  (7, 8, .iload_n 2, [], 0, 0),
  (8, 10, .bipush 9, [], 9, 0),
  (10, 13, .if_icmp .gt 23, [33], 0, 0),
  (13, 14, .aload_n 0, [], 0, 0),
  (14, 17, .getfield 19, [11, 1], 0, 0),
  (17, 18, .iload_n 1, [], 0, 0),
  (18, 19, .iload_n 2, [], 0, 0),
  (19, 22, .invokevirtual 356, [0, 72], 0, 0),
  (22, 25, .ifCond .ne 5, [27], 0, 0),
  (25, 26, .iload_n 2, [], 0, 0),
  (26, 27, .ireturn, [], 0, 0),
  (27, 30, .iinc 2 1, [], 1, 0),
  (30, 33, .goto (-23), [7], 0, 0),
  (33, 34, .iconst (-1), [], -1, 0),
  (34, 35, .ireturn, [], 0, 0)]
def mX11_rusted : xM := (133, 11, cX11_rusted, 3, (some .int), pX11_rusted)
set_option maxRecDepth 100000 in
theorem gX11_rusted : xgd mX11_rusted := ⟨by decide +kernel, xat_in (p := 6073) rfl, by decide +kernel, by decide +kernel, by decide, by decide +kernel, by decide +kernel⟩
set_option maxRecDepth 100000 in
def pX11_ears : List xRow := [(0, 1, .iload_n 1, [], 0, 0),
  (1, 2, .iload_n 2, [], 0, 0),
  (2, 5, .invokestatic 264, [1, 148], 0, 0),
  (5, 6, .aload_n 0, [], 0, 0),
  (6, 9, .getfield 19, [11, 1], 0, 0),
  (9, 10, .iload_n 1, [], 0, 0),
  (10, 11, .iload_n 2, [], 0, 0),
  (11, 14, .invokevirtual 271, [0, 85], 0, 0),
  (14, 15, .aload_n 0, [], 0, 0),
  (15, 18, .getfield 19, [11, 1], 0, 0),
  (18, 21, .getfield 104, [9, 0], 0, 0),
  (21, 24, .getfield 135, [2, 1], 0, 0),
  (24, 27, .getfield 138, [3, 0], 0, 0),
  (27, 28, .istore_n 3, [], 0, 0),
  (28, 29, .iconst 0, [], 0, 0),
  (29, 31, .istore 4, [], 0, 0),
  (31, 32, .iconst 0, [], 0, 0),
  (32, 34, .istore 5, [], 0, 0),
  (34, 36, .iload 5, [], 0, 0),
  (36, 37, .iconst 1, [], 1, 0),
  (37, 38, .iload_n 3, [], 0, 0),
  (38, 39, .ishl, [], 0, 0),
  (39, 42, .if_icmp .ge 32, [71], 0, 0),
  (42, 43, .aload_n 0, [], 0, 0),
  (43, 46, .getfield 19, [11, 1], 0, 0),
  (46, 48, .iload 4, [], 0, 0),
  (48, 51, .invokevirtual 359, [0, 90], 0, 0),
  (51, 54, .ifCond .eq 6, [57], 0, 0),
  (54, 56, .iload 4, [], 0, 0),
  (56, 57, .ireturn, [], 0, 0),
  (57, 59, .iload 4, [], 0, 0),
  (59, 60, .iload_n 3, [], 0, 0),
  (60, 63, .invokestatic 277, [1, 154], 0, 0),
  (63, 65, .istore 4, [], 0, 0),
  (65, 68, .iinc 5 1, [], 1, 0),
  (68, 71, .goto (-34), [34], 0, 0),
  (71, 72, .iconst (-1), [], -1, 0),
  (72, 73, .ireturn, [], 0, 0)]
def mX11_ears : xM := (134, 11, cX11_ears, 6, (some .int), pX11_ears)
set_option maxRecDepth 100000 in
theorem gX11_ears : xgd mX11_ears := ⟨by decide +kernel, xat_in (p := 6081) rfl, by decide +kernel, by decide +kernel, by decide, by decide +kernel, by decide +kernel⟩
set_option maxRecDepth 100000 in
def pX11_hideouts : List xRow := [(0, 1, .aload_n 0, [], 0, 0),
  (1, 2, .iload_n 1, [], 0, 0),
  (2, 5, .invokevirtual 159, [0, 143], 0, 0),
  (5, 7, .iload 4, [], 0, 0),
  (7, 8, .iconst 1, [], 1, 0),
  (8, 11, .invokestatic 122, [1, 147], 0, 0),
  (11, 12, .iload_n 2, [], 0, 0),
  (12, 13, .iload_n 3, [], 0, 0),
  (13, 16, .invokestatic 264, [1, 148], 0, 0),
  (16, 17, .aload_n 0, [], 0, 0),
  (17, 20, .getfield 19, [11, 1], 0, 0),
  (20, 23, .getfield 104, [9, 0], 0, 0),
  (23, 26, .getfield 135, [2, 1], 0, 0),
  (26, 28, .astore 5, [], 0, 0),
  (28, 29, .iconst 0, [], 0, 0),
  (29, 31, .istore 6, [], 0, 0),
  (31, 33, .iload 6, [], 0, 0),
  (33, 35, .aload 5, [], 0, 0),
  (35, 38, .getfield 138, [3, 0], 0, 0),
  (38, 41, .if_icmp .ge 60, [98], 0, 0),
  (41, 42, .aload_n 0, [], 0, 0),
  (42, 45, .getfield 19, [11, 1], 0, 0),
  (45, 48, .getfield 104, [9, 0], 0, 0),
  (48, 51, .getfield 126, [2, 0], 0, 0),
  (51, 54, .getfield 168, [4, 3], 0, 0),
  (54, 55, .iload_n 1, [], 0, 0),
  (55, 56, .iaload, [], 0, 0),
  (56, 58, .istore 7, [], 0, 0),
  (58, 59, .aload_n 0, [], 0, 0),
  (59, 62, .getfield 74, [11, 12], 0, 0),
  (62, 64, .iload 6, [], 0, 0),
  (64, 65, .aload_n 0, [], 0, 0),
  (65, 68, .getfield 19, [11, 1], 0, 0),
  (68, 69, .iload_n 2, [], 0, 0),
  (69, 71, .iload 7, [], 0, 0),
  (71, 73, .aload 5, [], 0, 0),
  (73, 76, .getfield 182, [3, 3], 0, 0),
  (76, 78, .iload 6, [], 0, 0),
  (78, 79, .iaload, [], 0, 0),
  (79, 81, .aload 5, [], 0, 0),
  (81, 84, .getfield 185, [3, 4], 0, 0),
  (84, 86, .iload 6, [], 0, 0),
  (86, 87, .iaload, [], 0, 0),
  (87, 88, .iload_n 3, [], 0, 0),
  (88, 91, .invokevirtual 309, [0, 73], 0, 0),
  (91, 92, .lastore, [], 0, 0),
  (92, 95, .iinc 6 1, [], 1, 0),
  (95, 98, .goto (-64), [31], 0, 0),
  (98, 99, .iconst 0, [], 0, 0),
  (99, 101, .istore 6, [], 0, 0),
  (101, 102, .iconst 0, [], 0, 0),
  (102, 104, .istore 7, [], 0, 0),
  (104, 106, .iload 7, [], 0, 0),
  (106, 108, .bipush 41, [], 41, 0),
  (108, 111, .if_icmp .ge 53, [161], 0, 0),
  (111, 112, .iconst 0, [], 0, 0),
  (112, 114, .istore 8, [], 0, 0),
  (114, 116, .iload 8, [], 0, 0),
  (116, 118, .bipush 41, [], 41, 0),
  (118, 121, .if_icmp .ge 37, [155], 0, 0),
  (121, 122, .aload_n 0, [], 0, 0),
  (122, 124, .iload 8, [], 0, 0),
  (124, 126, .iload 7, [], 0, 0),
  (126, 129, .invokevirtual 313, [0, 161], 0, 0),
  (129, 132, .ifCond .ne 20, [149], 0, 0),
  (132, 134, .iload 4, [], 0, 0),
  (134, 135, .iconst 1, [], 1, 0),
  (135, 138, .if_icmp .ne 11, [146], 0, 0),
  (138, 140, .iload 8, [], 0, 0),
  (140, 142, .iload 7, [], 0, 0),
  (142, 145, .invokestatic 254, [1, 151], 0, 0),
  (145, 146, .ireturn, [], 0, 0),
  (146, 149, .iinc 6 1, [], 1, 0),
  (149, 152, .iinc 8 1, [], 1, 0),
  (152, 155, .goto (-38), [114], 0, 0),
  (155, 158, .iinc 7 1, [], 1, 0),
  (158, 161, .goto (-54), [104], 0, 0),
  (161, 163, .iload 4, [], 0, 0),
  (163, 164, .iconst 1, [], 1, 0),
  (164, 167, .if_icmp .ne 7, [171], 0, 0),
  (167, 168, .iconst (-1), [], -1, 0),
  (168, 171, .goto 5, [173], 0, 0),
  (171, 173, .iload 6, [], 0, 0),
  (173, 174, .ireturn, [], 0, 0)]
def mX11_hideouts : xM := (135, 11, cX11_hideouts, 9, (some .int), pX11_hideouts)
set_option maxRecDepth 100000 in
theorem gX11_hideouts : xgd mX11_hideouts := ⟨by decide +kernel, xat_in (p := 6092) rfl, by decide +kernel, by decide +kernel, by decide, by decide +kernel, by decide +kernel⟩
set_option maxRecDepth 100000 in
def pX11_pardon : List xRow := [(0, 1, .aload_n 0, [], 0, 0),
  (1, 2, .iload_n 1, [], 0, 0),
  (2, 5, .invokevirtual 159, [0, 143], 0, 0),
  (5, 6, .iload_n 2, [], 0, 0),
  (6, 9, .invokestatic 212, [1, 146], 0, 0),
  (9, 10, .aload_n 0, [], 0, 0),
  (10, 13, .getfield 26, [11, 2], 0, 0),
  (13, 14, .aload_n 0, [], 0, 0),
  (14, 17, .getfield 19, [11, 1], 0, 0),
  (17, 18, .iload_n 2, [], 0, 0),
  (18, 21, .invokevirtual 362, [0, 8], 0, 0),
  (21, 22, .aload_n 0, [], 0, 0),
  (22, 25, .getfield 19, [11, 1], 0, 0),
  (25, 28, .getfield 104, [9, 0], 0, 0),
  (28, 31, .getfield 135, [2, 1], 0, 0),
  (31, 34, .getfield 138, [3, 0], 0, 0),
  (34, 35, .istore_n 3, [], 0, 0),
  (35, 36, .iconst 0, [], 0, 0),
  (36, 38, .istore 4, [], 0, 0),
  (38, 39, .iconst 0, [], 0, 0),
  (39, 41, .istore 5, [], 0, 0),
  (41, 43, .iload 5, [], 0, 0),
  (43, 44, .iconst 1, [], 1, 0),
  (44, 45, .iload_n 3, [], 0, 0),
  (45, 46, .ishl, [], 0, 0),
  (46, 49, .if_icmp .ge 40, [86], 0, 0),
  (49, 50, .aload_n 0, [], 0, 0),
  (50, 53, .getfield 26, [11, 2], 0, 0),
  (53, 54, .aload_n 0, [], 0, 0),
  (54, 57, .getfield 19, [11, 1], 0, 0),
  (57, 58, .iload_n 2, [], 0, 0),
  (58, 60, .iload 4, [], 0, 0),
  (60, 61, .iconst (-1), [], -1, 0),
  (61, 62, .ixor, [], 0, 0),
  (62, 65, .invokevirtual 345, [0, 10], 0, 0),
  (65, 66, .iload_n 1, [], 0, 0),
  (66, 69, .if_icmp .eq 6, [72], 0, 0),
  (69, 71, .iload 4, [], 0, 0),
  (71, 72, .ireturn, [], 0, 0),
  (72, 74, .iload 4, [], 0, 0),
  (74, 75, .iload_n 3, [], 0, 0),
  (75, 78, .invokestatic 277, [1, 154], 0, 0),
  (78, 80, .istore 4, [], 0, 0),
  (80, 83, .iinc 5 1, [], 1, 0),
  (83, 86, .goto (-42), [41], 0, 0),
  (86, 87, .iconst (-1), [], -1, 0),
  (87, 88, .ireturn, [], 0, 0)]
def mX11_pardon : xM := (136, 11, cX11_pardon, 6, (some .int), pX11_pardon)
set_option maxRecDepth 100000 in
theorem gX11_pardon : xgd mX11_pardon := ⟨by decide +kernel, xat_in (p := 6099) rfl, by decide +kernel, by decide +kernel, by decide, by decide +kernel, by decide +kernel⟩
set_option maxRecDepth 100000 in
def pX11_falsely : List xRow := [(0, 1, .aload_n 0, [], 0, 0),
  (1, 2, .iload_n 1, [], 0, 0),
  (2, 5, .invokevirtual 177, [0, 144], 0, 0),
  (5, 6, .iconst 0, [], 0, 0),
  (6, 7, .istore_n 2, [], 0, 0),
  (7, 8, .iconst 0, [], 0, 0),
  (8, 9, .istore_n 3, [], 0, 0),
  (9, 10, .iconst 0, [], 0, 0),
  (10, 12, .istore 4, [], 0, 0),
  (12, 14, .iload 4, [], 0, 0),
  (14, 16, .bipush 100, [], 100, 0),
  (16, 19, .if_icmp .ge 48, [64], 0, 0),
  (19, 20, .iload_n 2, [], 0, 0),
  (20, 21, .aload_n 0, [], 0, 0),
  (21, 24, .getfield 19, [11, 1], 0, 0),
  (24, 26, .iload 4, [], 0, 0),
  (26, 29, .invokevirtual 365, [0, 84], 0, 0),
  (29, 30, .ior, [], 0, 0),
  (30, 31, .istore_n 2, [], 0, 0),
  (31, 32, .aload_n 0, [], 0, 0),
  (32, 35, .getfield 19, [11, 1], 0, 0),
  (35, 36, .iload_n 1, [], 0, 0),
  (36, 38, .iload 4, [], 0, 0),
  (38, 41, .invokevirtual 368, [0, 79], 0, 0),
  (41, 43, .istore 5, [], 0, 0),
  (43, 45, .iload 5, [], 0, 0),
  (45, 48, .ifCond .eq 13, [58], 0, 0),
  (48, 50, .iload 5, [], 0, 0),
  (50, 51, .iload_n 2, [], 0, 0),
  (51, 52, .iand, [], 0, 0),
  (52, 55, .ifCond .ne 6, [58], 0, 0),
  (55, 58, .iinc 3 1, [], 1, 0),
  (58, 61, .iinc 4 1, [], 1, 0),
  (61, 64, .goto (-49), [12], 0, 0),
  (64, 65, .iload_n 3, [], 0, 0),
  (65, 66, .ireturn, [], 0, 0)]
def mX11_falsely : xM := (137, 11, cX11_falsely, 6, (some .int), pX11_falsely)
set_option maxRecDepth 100000 in
theorem gX11_falsely : xgd mX11_falsely := ⟨by decide +kernel, xat_in (p := 6106) rfl, by decide +kernel, by decide +kernel, by decide, by decide +kernel, by decide +kernel⟩
set_option maxRecDepth 100000 in
def pX11_truest : List xRow := [(0, 1, .iconst (-1), [], -1, 0),
  (1, 2, .istore_n 1, [], 0, 0),
  (2, 3, .iconst 0, [], 0, 0),
  (3, 4, .istore_n 2, [], 0, 0),
  (4, 5, .iconst 0, [], 0, 0),
  (5, 6, .istore_n 3, [], 0, 0),
  (6, 7, .iload_n 3, [], 0, 0),
  (7, 8, .aload_n 0, [], 0, 0),
  (8, 11, .getfield 19, [11, 1], 0, 0),
  (11, 14, .getfield 104, [9, 0], 0, 0),
  (14, 17, .getfield 135, [2, 1], 0, 0),
  (17, 20, .getfield 138, [3, 0], 0, 0),
  (20, 23, .if_icmp .ge 35, [55], 0, 0),
  (23, 24, .aload_n 0, [], 0, 0),
  (24, 27, .getfield 19, [11, 1], 0, 0),
  (27, 28, .iload_n 3, [], 0, 0),
  (28, 31, .invokevirtual 194, [0, 83], 0, 0),
  (31, 33, .istore 4, [], 0, 0),
  (33, 34, .iload_n 1, [], 0, 0),
  (34, 35, .iconst (-1), [], -1, 0),
  (35, 38, .if_icmp .eq 9, [44], 0, 0),
  (38, 40, .iload 4, [], 0, 0),
  (40, 41, .iload_n 2, [], 0, 0),
  (41, 44, .if_icmp .le 8, [49], 0, 0),
  (44, 45, .iload_n 3, [], 0, 0),
  (45, 46, .istore_n 1, [], 0, 0),
  (46, 48, .iload 4, [], 0, 0),
  (48, 49, .istore_n 2, [], 0, 0),
  (49, 52, .iinc 3 1, [], 1, 0),
  (52, 55, .goto (-46), [6], 0, 0),
  (55, 56, .iload_n 1, [], 0, 0),
  (56, 57, .ireturn, [], 0, 0)]
def mX11_truest : xM := (138, 11, cX11_truest, 5, (some .int), pX11_truest)
set_option maxRecDepth 100000 in
theorem gX11_truest : xgd mX11_truest := ⟨by decide +kernel, xat_in (p := 3108) rfl, by decide +kernel, by decide +kernel, by decide, by decide +kernel, by decide +kernel⟩
set_option maxRecDepth 100000 in
def pX11_first : List xRow := [(0, 1, .aload_n 0, [], 0, 0),
  (1, 2, .iload_n 1, [], 0, 0),
  (2, 5, .invokevirtual 159, [0, 143], 0, 0),
  (5, 6, .iconst 0, [], 0, 0),
  (6, 7, .istore_n 2, [], 0, 0),
  (7, 8, .iload_n 2, [], 0, 0),
  (8, 10, .bipush 100, [], 100, 0),
  (10, 13, .if_icmp .ge 20, [30], 0, 0),
  (13, 14, .aload_n 0, [], 0, 0),
  (14, 15, .iload_n 2, [], 0, 0),
  (15, 18, .invokevirtual 230, [0, 157], 0, 0),
  (18, 19, .iload_n 1, [], 0, 0),
  (19, 22, .if_icmp .ne 5, [24], 0, 0),
  (22, 23, .iload_n 2, [], 0, 0),
  (23, 24, .ireturn, [], 0, 0),
  (24, 27, .iinc 2 1, [], 1, 0),
  (27, 30, .goto (-20), [7], 0, 0),
  (30, 31, .iconst (-1), [], -1, 0),
  (31, 32, .ireturn, [], 0, 0)]
def mX11_first : xM := (139, 11, cX11_first, 3, (some .int), pX11_first)
set_option maxRecDepth 100000 in
theorem gX11_first : xgd mX11_first := ⟨by decide +kernel, xat_in (p := 6118) rfl, by decide +kernel, by decide +kernel, by decide, by decide +kernel, by decide +kernel⟩
set_option maxRecDepth 100000 in
def pX11_busiest : List xRow := [(0, 1, .iload_n 1, [], 0, 0),
  (1, 2, .iconst 1, [], 1, 0),
  (2, 5, .invokestatic 122, [1, 147], 0, 0),
  (5, 6, .iconst (-1), [], -1, 0),
  (6, 7, .istore_n 2, [], 0, 0),
  (7, 8, .iconst 0, [], 0, 0),
  (8, 9, .istore_n 3, [], 0, 0),
  (9, 10, .iconst 1, [], 1, 0),
  (10, 12, .istore 4, [], 0, 0),
  (12, 14, .iload 4, [], 0, 0),
  (14, 16, .bipush 100, [], 100, 0),
  (16, 19, .if_icmp .ge 32, [48], 0, 0),
  (19, 20, .aload_n 0, [], 0, 0),
  (20, 23, .getfield 19, [11, 1], 0, 0),
  (23, 25, .iload 4, [], 0, 0),
  (25, 28, .invokevirtual 371, [0, 82], 0, 0),
  (28, 30, .istore 5, [], 0, 0),
  (30, 32, .iload 5, [], 0, 0),
  (32, 33, .iload_n 3, [], 0, 0),
  (33, 36, .if_icmp .le 9, [42], 0, 0),
  (36, 38, .iload 4, [], 0, 0),
  (38, 39, .istore_n 2, [], 0, 0),
  (39, 41, .iload 5, [], 0, 0),
  (41, 42, .istore_n 3, [], 0, 0),
  (42, 45, .iinc 4 1, [], 1, 0),
  (45, 48, .goto (-33), [12], 0, 0),
  (48, 49, .iload_n 1, [], 0, 0),
  (49, 52, .ifCond .ne 7, [56], 0, 0),
  (52, 53, .iload_n 2, [], 0, 0),
  (53, 56, .goto 4, [57], 0, 0),
  (56, 57, .iload_n 3, [], 0, 0),
  (57, 58, .ireturn, [], 0, 0)]
def mX11_busiest : xM := (140, 11, cX11_busiest, 6, (some .int), pX11_busiest)
set_option maxRecDepth 100000 in
theorem gX11_busiest : xgd mX11_busiest := ⟨by decide +kernel, xat_in (p := 6125) rfl, by decide +kernel, by decide +kernel, by decide, by decide +kernel, by decide +kernel⟩
set_option maxRecDepth 100000 in
def pX11_image : List xRow := [(0, 1, .aload_n 0, [], 0, 0),
  (1, 2, .iconst 1, [], 1, 0),
  (2, 5, .putfield 115, [11, 13], 0, 0),
  (5, 6, .aload_n 0, [], 0, 0),
  (6, 9, .getfield 47, [11, 5], 0, 0),
  (9, 10, .aload_n 0, [], 0, 0),
  (10, 13, .getfield 19, [11, 1], 0, 0),
  (13, 16, .getfield 104, [9, 0], 0, 0),
  (16, 19, .getfield 139, [2, 2], 0, 0),
  (19, 22, .invokevirtual 374, [0, 54], 0, 0),
  (22, 23, .aload_n 0, [], 0, 0),
  (23, 26, .getfield 54, [11, 6], 0, 0),
  (26, 27, .aload_n 0, [], 0, 0),
  (27, 30, .getfield 19, [11, 1], 0, 0),
  (30, 33, .getfield 104, [9, 0], 0, 0),
  (33, 36, .getfield 135, [2, 1], 0, 0),
  (36, 39, .invokevirtual 378, [0, 18], 0, 0),
  (39, 40, .aload_n 0, [], 0, 0),
  (40, 43, .getfield 58, [11, 7], 0, 0),
  (43, 44, .aload_n 0, [], 0, 0),
  (44, 47, .getfield 33, [11, 3], 0, 0),
  (47, 50, .invokevirtual 381, [0, 4], 0, 0),
  (50, 51, .aload_n 0, [], 0, 0),
  (51, 54, .getfield 61, [11, 8], 0, 0),
  (54, 55, .aload_n 0, [], 0, 0),
  (55, 58, .getfield 40, [11, 4], 0, 0),
  (58, 61, .invokevirtual 384, [0, 61], 0, 0),
  (61, 62, .return_, [], 0, 0)]
def mX11_image : xM := (141, 11, cX11_image, 1, none, pX11_image)
set_option maxRecDepth 100000 in
theorem gX11_image : xgd mX11_image := ⟨by decide +kernel, xat_in (p := 3116) rfl, by decide +kernel, by decide +kernel, by decide, by decide +kernel, by decide +kernel⟩
set_option maxRecDepth 100000 in
def pX11_restore : List xRow := [(0, 1, .aload_n 0, [], 0, 0),
  (1, 4, .getfield 115, [11, 13], 0, 0),
  (4, 7, .ifCond .ne 5, [9], 0, 0),
  (7, 8, .iconst 0, [], 0, 0),
  (8, 9, .ireturn, [], 0, 0),
  (9, 10, .aload_n 0, [], 0, 0),
  (10, 13, .getfield 19, [11, 1], 0, 0),
  (13, 16, .getfield 104, [9, 0], 0, 0),
  (16, 19, .getfield 139, [2, 2], 0, 0),
  (19, 20, .aload_n 0, [], 0, 0),
  (20, 23, .getfield 47, [11, 5], 0, 0),
  (23, 26, .invokevirtual 374, [0, 54], 0, 0),
  (26, 27, .aload_n 0, [], 0, 0),
  (27, 30, .getfield 19, [11, 1], 0, 0),
  (30, 33, .getfield 104, [9, 0], 0, 0),
  (33, 36, .getfield 135, [2, 1], 0, 0),
  (36, 37, .aload_n 0, [], 0, 0),
  (37, 40, .getfield 54, [11, 6], 0, 0),
  (40, 43, .invokevirtual 378, [0, 18], 0, 0),
  (43, 44, .aload_n 0, [], 0, 0),
  (44, 47, .getfield 33, [11, 3], 0, 0),
  (47, 48, .aload_n 0, [], 0, 0),
  (48, 51, .getfield 58, [11, 7], 0, 0),
  (51, 54, .invokevirtual 381, [0, 4], 0, 0),
  (54, 55, .aload_n 0, [], 0, 0),
  (55, 58, .getfield 40, [11, 4], 0, 0),
  (58, 59, .aload_n 0, [], 0, 0),
  (59, 62, .getfield 61, [11, 8], 0, 0),
  (62, 65, .invokevirtual 384, [0, 61], 0, 0),
  (65, 66, .aload_n 0, [], 0, 0),
  (66, 69, .getfield 19, [11, 1], 0, 0),
  (69, 72, .invokevirtual 119, [0, 63], 0, 0),
  (72, 73, .iconst 1, [], 1, 0),
  (73, 74, .ireturn, [], 0, 0)]
def mX11_restore : xM := (142, 11, cX11_restore, 1, (some .boolean), pX11_restore)
set_option maxRecDepth 100000 in
theorem gX11_restore : xgd mX11_restore := ⟨by decide +kernel, xat_in (p := 3139) rfl, by decide +kernel, by decide +kernel, by decide, by decide +kernel, by decide +kernel⟩
set_option maxRecDepth 100000 in
def pX11_needPerson : List xRow := [(0, 1, .iload_n 1, [], 0, 0),
  (1, 4, .ifCond .lt 20, [21], 0, 0),
  (4, 5, .iload_n 1, [], 0, 0),
  (5, 6, .aload_n 0, [], 0, 0),
  (6, 9, .getfield 19, [11, 1], 0, 0),
  (9, 12, .getfield 104, [9, 0], 0, 0),
  (12, 15, .getfield 126, [2, 0], 0, 0),
  (15, 18, .getfield 132, [4, 0], 0, 0),
  (18, 21, .if_icmp .lt 14, [32], 0, 0),
  (21, 24, .new 349, [], 0, 0),
  (24, 25, .dup, [], 0, 0),
  (25, 28, .ldc_w 387, [19], 0, 0),
  (28, 31, .invokespecial 351, [], 0, 0),
  (31, 32, .athrow, [], 0, 0),
  (32, 33, .return_, [], 0, 0)]
def mX11_needPerson : xM := (143, 11, cX11_needPerson, 2, none, pX11_needPerson)
set_option maxRecDepth 100000 in
theorem gX11_needPerson : xgd mX11_needPerson := ⟨by decide +kernel, xat_in (p := 4201) rfl, by decide +kernel, by decide +kernel, by decide, by decide +kernel, by decide +kernel⟩
set_option maxRecDepth 100000 in
def pX11_needNeedle : List xRow := [(0, 1, .iload_n 1, [], 0, 0),
  (1, 4, .ifCond .lt 20, [21], 0, 0),
  (4, 5, .iload_n 1, [], 0, 0),
  (5, 6, .aload_n 0, [], 0, 0),
  (6, 9, .getfield 19, [11, 1], 0, 0),
  (9, 12, .getfield 104, [9, 0], 0, 0),
  (12, 15, .getfield 135, [2, 1], 0, 0),
  (15, 18, .getfield 138, [3, 0], 0, 0),
  (18, 21, .if_icmp .lt 14, [32], 0, 0),
  (21, 24, .new 349, [], 0, 0),
  (24, 25, .dup, [], 0, 0),
  (25, 28, .ldc_w 389, [20], 0, 0),
  (28, 31, .invokespecial 351, [], 0, 0),
  (31, 32, .athrow, [], 0, 0),
  (32, 33, .return_, [], 0, 0)]
def mX11_needNeedle : xM := (144, 11, cX11_needNeedle, 2, none, pX11_needNeedle)
set_option maxRecDepth 100000 in
theorem gX11_needNeedle : xgd mX11_needNeedle := ⟨by decide +kernel, xat_in (p := 4221) rfl, by decide +kernel, by decide +kernel, by decide, by decide +kernel, by decide +kernel⟩
set_option maxRecDepth 100000 in
def pX11_needSaying : List xRow := [(0, 1, .iload_n 1, [], 0, 0),
  (1, 4, .ifCond .lt 20, [21], 0, 0),
  (4, 5, .iload_n 1, [], 0, 0),
  (5, 6, .aload_n 0, [], 0, 0),
  (6, 9, .getfield 19, [11, 1], 0, 0),
  (9, 12, .getfield 104, [9, 0], 0, 0),
  (12, 15, .getfield 139, [2, 2], 0, 0),
  (15, 18, .getfield 142, [7, 0], 0, 0),
  (18, 21, .if_icmp .lt 14, [32], 0, 0),
  (21, 24, .new 349, [], 0, 0),
  (24, 25, .dup, [], 0, 0),
  (25, 28, .ldc_w 391, [21], 0, 0),
  (28, 31, .invokespecial 351, [], 0, 0),
  (31, 32, .athrow, [], 0, 0),
  (32, 33, .return_, [], 0, 0)]
def mX11_needSaying : xM := (145, 11, cX11_needSaying, 2, none, pX11_needSaying)
set_option maxRecDepth 100000 in
theorem gX11_needSaying : xgd mX11_needSaying := ⟨by decide +kernel, xat_in (p := 4237) rfl, by decide +kernel, by decide +kernel, by decide, by decide +kernel, by decide +kernel⟩
set_option maxRecDepth 100000 in
def pX11_needHour : List xRow := [(0, 1, .iload_n 0, [], 0, 0),
  (1, 4, .invokestatic 233, [1, 150], 0, 0),
  (4, 7, .ifCond .ne 14, [18], 0, 0),
  (7, 10, .new 349, [], 0, 0),
  (10, 11, .dup, [], 0, 0),
  (11, 14, .ldc_w 393, [22], 0, 0),
  (14, 17, .invokespecial 351, [], 0, 0),
  (17, 18, .athrow, [], 0, 0),
  (18, 19, .return_, [], 0, 0)]
def mX11_needHour : xM := (146, 11, cX11_needHour, 1, none, pX11_needHour)
set_option maxRecDepth 100000 in
theorem gX11_needHour : xgd mX11_needHour := ⟨by decide +kernel, xat_in (p := 5012) rfl, by decide +kernel, by decide +kernel, by decide, by decide +kernel, by decide +kernel⟩
set_option maxRecDepth 100000 in
def pX11_needWhat : List xRow := [(0, 1, .iload_n 0, [], 0, 0),
  (1, 4, .ifCond .lt 8, [9], 0, 0),
  (4, 5, .iload_n 0, [], 0, 0),
  (5, 6, .iload_n 1, [], 0, 0),
  (6, 9, .if_icmp .le 14, [20], 0, 0),
  (9, 12, .new 349, [], 0, 0),
  (12, 13, .dup, [], 0, 0),
  (13, 16, .ldc_w 395, [18], 0, 0),
  (16, 19, .invokespecial 351, [], 0, 0),
  (19, 20, .athrow, [], 0, 0),
  (20, 21, .return_, [], 0, 0)]
def mX11_needWhat : xM := (147, 11, cX11_needWhat, 2, none, pX11_needWhat)
set_option maxRecDepth 100000 in
theorem gX11_needWhat : xgd mX11_needWhat := ⟨by decide +kernel, xat_in (p := 4161) rfl, by decide +kernel, by decide +kernel, by decide, by decide +kernel, by decide +kernel⟩
set_option maxRecDepth 100000 in
def pX11_needLie : List xRow := [(0, 1, .iload_n 0, [], 0, 0),
  (1, 2, .iconst 1, [], 1, 0),
  (2, 5, .if_icmp .lt 16, [18], 0, 0),
  (5, 6, .iload_n 0, [], 0, 0),
  (6, 8, .bipush 9, [], 9, 0),
  (8, 11, .if_icmp .gt 10, [18], 0, 0),
  (11, 12, .iload_n 1, [], 0, 0),
  (12, 15, .invokestatic 233, [1, 150], 0, 0),
  (15, 18, .ifCond .ne 14, [29], 0, 0),
  (18, 21, .new 89, [], 0, 0),
  (21, 22, .dup, [], 0, 0),
  (22, 25, .ldc_w 397, [23], 0, 0),
  (25, 28, .invokespecial 93, [], 0, 0),
  (28, 29, .athrow, [], 0, 0),
  (29, 30, .return_, [], 0, 0)]
def mX11_needLie : xM := (148, 11, cX11_needLie, 2, none, pX11_needLie)
set_option maxRecDepth 100000 in
theorem gX11_needLie : xgd mX11_needLie := ⟨by decide +kernel, xat_in (p := 5096) rfl, by decide +kernel, by decide +kernel, by decide, by decide +kernel, by decide +kernel⟩
set_option maxRecDepth 100000 in
def pX11_needBits : List xRow := [(0, 1, .iload_n 0, [], 0, 0),
  (1, 2, .iconst 1, [], 1, 0),
  (2, 3, .iload_n 1, [], 0, 0),
  (3, 4, .ishl, [], 0, 0),
  (4, 5, .iconst 1, [], 1, 0),
  (5, 6, .isub, [], 0, 0),
  (6, 7, .iconst (-1), [], -1, 0),
  (7, 8, .ixor, [], 0, 0),
  (8, 9, .iand, [], 0, 0),
  (9, 12, .ifCond .eq 14, [23], 0, 0),
  (12, 15, .new 89, [], 0, 0),
  (15, 16, .dup, [], 0, 0),
  (16, 19, .ldc_w 399, [24], 0, 0),
  (19, 22, .invokespecial 93, [], 0, 0),
  (22, 23, .athrow, [], 0, 0),
  (23, 24, .return_, [], 0, 0)]
def mX11_needBits : xM := (149, 11, cX11_needBits, 2, none, pX11_needBits)
set_option maxRecDepth 100000 in
theorem gX11_needBits : xgd mX11_needBits := ⟨by decide +kernel, xat_in (p := 5167) rfl, by decide +kernel, by decide +kernel, by decide, by decide +kernel, by decide +kernel⟩
set_option maxRecDepth 100000 in
def pX11_isHour : List xRow := [(0, 1, .iload_n 0, [], 0, 0),
  (1, 4, .ifCond .lt 13, [14], 0, 0),
  (4, 5, .iload_n 0, [], 0, 0),
  (5, 7, .bipush 100, [], 100, 0),
  (7, 10, .if_icmp .ge 7, [14], 0, 0),
  (10, 11, .iconst 1, [], 1, 0),
  (11, 14, .goto 4, [15], 0, 0),
  (14, 15, .iconst 0, [], 0, 0),
  (15, 16, .ireturn, [], 0, 0)]
def mX11_isHour : xM := (150, 11, cX11_isHour, 1, (some .boolean), pX11_isHour)
set_option maxRecDepth 100000 in
theorem gX11_isHour : xgd mX11_isHour := ⟨by decide +kernel, xat_in (p := 5015) rfl, by decide +kernel, by decide +kernel, by decide, by decide +kernel, by decide +kernel⟩
set_option maxRecDepth 100000 in
def pX11_placeNumber : List xRow := [(0, 2, .bipush 100, [], 100, 0),
  (2, 3, .iload_n 1, [], 0, 0),
  (3, 4, .imul, [], 0, 0),
  (4, 5, .iload_n 0, [], 0, 0),
  (5, 6, .iadd, [], 0, 0),
  (6, 7, .ireturn, [], 0, 0)]
def mX11_placeNumber : xM := (151, 11, cX11_placeNumber, 2, (some .int), pX11_placeNumber)
set_option maxRecDepth 100000 in
theorem gX11_placeNumber : xgd mX11_placeNumber := ⟨by decide +kernel, xat_in (p := 5086) rfl, by decide +kernel, by decide +kernel, by decide, by decide +kernel, by decide +kernel⟩
set_option maxRecDepth 100000 in
def pX11_farOf : List xRow := [(0, 1, .iload_n 0, [], 0, 0),
  (1, 4, .invokestatic 401, [12, 0], 0, 0),
  (4, 5, .iload_n 1, [], 0, 0),
  (5, 8, .invokestatic 401, [12, 0], 0, 0),
  (8, 11, .invokestatic 406, [10, 0], 0, 0),
  (11, 12, .ireturn, [], 0, 0)]
def mX11_farOf : xM := (152, 11, cX11_farOf, 2, (some .int), pX11_farOf)
set_option maxRecDepth 100000 in
theorem gX11_farOf : xgd mX11_farOf := ⟨by decide +kernel, xat_in (p := 3014) rfl, by decide +kernel, by decide +kernel, by decide, by decide +kernel, by decide +kernel⟩
set_option maxRecDepth 100000 in
def pX11_sideOf : List xRow := [(0, 1, .lload_n 0, [], 0, 0),
  (1, 4, .invokestatic 409, [13, 0], 0, 0),
  (4, 6, .lstore 4, [], 0, 0),
  (6, 7, .lload_n 2, [], 0, 0),
  (7, 10, .invokestatic 409, [13, 0], 0, 0),
  (10, 12, .lstore 6, [], 0, 0),
  (12, 14, .lload 4, [], 0, 0),
  (14, 15, .lconst 0, [], 0, 0),
  (15, 16, .lcmp, [], 0, 0),
  (16, 19, .ifCond .ne 13, [29], 0, 0),
  (19, 21, .lload 6, [], 0, 0),
  (21, 22, .lconst 0, [], 0, 0),
  (22, 23, .lcmp, [], 0, 0),
  (23, 26, .ifCond .ne 6, [29], 0, 0),
  (26, 28, .bipush 8, [], 8, 0),
  (28, 29, .ireturn, [], 0, 0),
  (29, 31, .lload 4, [], 0, 0),
  (31, 34, .ldc2_w 412, [], 0, 2),
  (34, 36, .lload 6, [], 0, 0),
  (36, 37, .lmul, [], 0, 0),
  (37, 38, .lcmp, [], 0, 0),
  (38, 41, .ifCond .le 16, [54], 0, 0),
  (41, 42, .lload_n 0, [], 0, 0),
  (42, 43, .lconst 0, [], 0, 0),
  (43, 44, .lcmp, [], 0, 0),
  (44, 47, .ifCond .le 7, [51], 0, 0),
  (47, 48, .iconst 2, [], 2, 0),
  (48, 51, .goto 5, [53], 0, 0),
  (51, 53, .bipush 6, [], 6, 0),
  (53, 54, .ireturn, [], 0, 0),
  (54, 56, .lload 6, [], 0, 0),
  (56, 59, .ldc2_w 412, [], 0, 2),
  (59, 61, .lload 4, [], 0, 0),
  (61, 62, .lmul, [], 0, 0),
  (62, 63, .lcmp, [], 0, 0),
  (63, 66, .ifCond .le 15, [78], 0, 0),
  (66, 67, .lload_n 2, [], 0, 0),
  (67, 68, .lconst 0, [], 0, 0),
  (68, 69, .lcmp, [], 0, 0),
  (69, 72, .ifCond .le 7, [76], 0, 0),
  (72, 73, .iconst 4, [], 4, 0),
  (73, 76, .goto 4, [77], 0, 0),
  (76, 77, .iconst 0, [], 0, 0),
  (77, 78, .ireturn, [], 0, 0),
  (78, 79, .lload_n 0, [], 0, 0),
  (79, 80, .lconst 0, [], 0, 0),
  (80, 81, .lcmp, [], 0, 0),
  (81, 84, .ifCond .le 15, [96], 0, 0),
  (84, 85, .lload_n 2, [], 0, 0),
  (85, 86, .lconst 0, [], 0, 0),
  (86, 87, .lcmp, [], 0, 0),
  (87, 90, .ifCond .le 7, [94], 0, 0),
  (90, 91, .iconst 3, [], 3, 0),
  (91, 94, .goto 4, [95], 0, 0),
  (94, 95, .iconst 1, [], 1, 0),
  (95, 96, .ireturn, [], 0, 0),
  (96, 97, .lload_n 2, [], 0, 0),
  (97, 98, .lconst 0, [], 0, 0),
  (98, 99, .lcmp, [], 0, 0),
  (99, 102, .ifCond .le 7, [106], 0, 0),
  (102, 103, .iconst 5, [], 5, 0),
  (103, 106, .goto 5, [108], 0, 0),
  (106, 108, .bipush 7, [], 7, 0),
  (108, 109, .ireturn, [], 0, 0)]
def mX11_sideOf : xM := (153, 11, cX11_sideOf, 8, (some .int), pX11_sideOf)
set_option maxRecDepth 100000 in
theorem gX11_sideOf : xgd mX11_sideOf := ⟨by decide +kernel, xat_in (p := 2204) rfl, by decide +kernel, by decide +kernel, by decide, by decide +kernel, by decide +kernel⟩
set_option maxRecDepth 100000 in
def pX11_nextChoice : List xRow := [(0, 1, .iload_n 0, [], 0, 0),
  (1, 2, .iload_n 0, [], 0, 0),
  (2, 3, .ineg, [], 0, 0),
  (3, 4, .iand, [], 0, 0),
  (4, 5, .istore_n 2, [], 0, 0),
  (5, 6, .iload_n 2, [], 0, 0),
  (6, 9, .ifCond .ne 5, [11], 0, 0),
  (9, 10, .iconst 1, [], 1, 0),
  (10, 11, .ireturn, [], 0, 0),
  (11, 12, .iload_n 0, [], 0, 0),
  (12, 13, .iload_n 2, [], 0, 0),
  (13, 14, .iadd, [], 0, 0),
  (14, 15, .istore_n 3, [], 0, 0),
  (15, 16, .iload_n 3, [], 0, 0),
  (16, 17, .iload_n 3, [], 0, 0),
  (17, 18, .iload_n 0, [], 0, 0),
  (18, 19, .ixor, [], 0, 0),
  (19, 20, .iconst 2, [], 2, 0),
  (20, 21, .iushr, [], 0, 0),
  (21, 22, .iload_n 2, [], 0, 0),
  (22, 23, .idiv, [], 0, 0),
  (23, 24, .ior, [], 0, 0),
  (24, 26, .istore 4, [], 0, 0),
  (26, 28, .iload 4, [], 0, 0),
  (28, 29, .iconst 1, [], 1, 0),
  (29, 30, .iload_n 1, [], 0, 0),
  (30, 31, .ishl, [], 0, 0),
  (31, 34, .if_icmp .ge 8, [39], 0, 0),
  (34, 36, .iload 4, [], 0, 0),
  (36, 39, .goto 13, [49], 0, 0),
  (39, 40, .iconst 1, [], 1, 0),
  (40, 41, .iload_n 0, [], 0, 0),
  (41, 44, .invokestatic 288, [1, 285], 0, 0),
  (44, 45, .iconst 1, [], 1, 0),
  (45, 46, .iadd, [], 0, 0),
  (46, 47, .ishl, [], 0, 0),
  (47, 48, .iconst 1, [], 1, 0),
  (48, 49, .isub, [], 0, 0),
  (49, 50, .ireturn, [], 0, 0)]
def mX11_nextChoice : xM := (154, 11, cX11_nextChoice, 5, (some .int), pX11_nextChoice)
set_option maxRecDepth 100000 in
theorem gX11_nextChoice : xgd mX11_nextChoice := ⟨by decide +kernel, xat_in (p := 5144) rfl, by decide +kernel, by decide +kernel, by decide, by decide +kernel, by decide +kernel⟩
set_option maxRecDepth 100000 in
def pX11_nextSeed : List xRow := [(0, 1, .iload_n 0, [], 0, 0),
  (1, 4, .ldc_w 414, [], 1103515245, 0),
  (4, 5, .imul, [], 0, 0),
  (5, 8, .sipush 12345, [], 12345, 0),
  (8, 9, .iadd, [], 0, 0),
  (9, 10, .ireturn, [], 0, 0)]
def mX11_nextSeed : xM := (155, 11, cX11_nextSeed, 1, (some .int), pX11_nextSeed)
set_option maxRecDepth 100000 in
theorem gX11_nextSeed : xgd mX11_nextSeed := ⟨by decide +kernel, xat_in (p := 6040) rfl, by decide +kernel, by decide +kernel, by decide, by decide +kernel, by decide +kernel⟩
set_option maxRecDepth 100000 in
def pX11_draw : List xRow := [(0, 1, .iload_n 1, [], 0, 0),
  (1, 4, .ifCond .le 16, [17], 0, 0),
  (4, 5, .iload_n 0, [], 0, 0),
  (5, 7, .bipush 16, [], 16, 0),
  (7, 8, .iushr, [], 0, 0),
  (8, 11, .sipush 32767, [], 32767, 0),
  (11, 12, .iand, [], 0, 0),
  (12, 13, .iload_n 1, [], 0, 0),
  (13, 14, .irem, [], 0, 0),
  (14, 17, .goto 4, [18], 0, 0),
  (17, 18, .iconst 0, [], 0, 0),
  (18, 19, .ireturn, [], 0, 0)]
def mX11_draw : xM := (156, 11, cX11_draw, 2, (some .int), pX11_draw)
set_option maxRecDepth 100000 in
theorem gX11_draw : xgd mX11_draw := ⟨by decide +kernel, xat_in (p := 6044) rfl, by decide +kernel, by decide +kernel, by decide, by decide +kernel, by decide +kernel⟩
set_option maxRecDepth 100000 in
def pX11_accusedIn : List xRow := [(0, 1, .aload_n 0, [], 0, 0),
  (1, 4, .getfield 26, [11, 2], 0, 0),
  (4, 5, .aload_n 0, [], 0, 0),
  (5, 8, .getfield 19, [11, 1], 0, 0),
  (8, 9, .iload_n 1, [], 0, 0),
  (9, 12, .invokevirtual 362, [0, 8], 0, 0),
  (12, 13, .aload_n 0, [], 0, 0),
  (13, 16, .getfield 26, [11, 2], 0, 0),
  (16, 17, .aload_n 0, [], 0, 0),
  (17, 20, .getfield 19, [11, 1], 0, 0),
  (20, 21, .iload_n 1, [], 0, 0),
  (21, 22, .iconst (-1), [], -1, 0),
  (22, 25, .invokevirtual 345, [0, 10], 0, 0),
  (25, 26, .ireturn, [], 0, 0)]
def mX11_accusedIn : xM := (157, 11, cX11_accusedIn, 2, (some .int), pX11_accusedIn)
set_option maxRecDepth 100000 in
theorem gX11_accusedIn : xgd mX11_accusedIn := ⟨by decide +kernel, xat_in (p := 5045) rfl, by decide +kernel, by decide +kernel, by decide, by decide +kernel, by decide +kernel⟩
set_option maxRecDepth 100000 in
def pX11_accusedAlone : List xRow := [(0, 1, .aload_n 0, [], 0, 0),
  (1, 4, .getfield 26, [11, 2], 0, 0),
  (4, 7, .invokevirtual 332, [0, 6], 0, 0),
  (7, 8, .aload_n 0, [], 0, 0),
  (8, 11, .getfield 26, [11, 2], 0, 0),
  (11, 12, .aload_n 0, [], 0, 0),
  (12, 15, .getfield 19, [11, 1], 0, 0),
  (15, 16, .iload_n 1, [], 0, 0),
  (16, 17, .iload_n 2, [], 0, 0),
  (17, 18, .iload_n 3, [], 0, 0),
  (18, 21, .invokevirtual 341, [0, 7], 0, 0),
  (21, 22, .aload_n 0, [], 0, 0),
  (22, 25, .getfield 26, [11, 2], 0, 0),
  (25, 26, .aload_n 0, [], 0, 0),
  (26, 29, .getfield 19, [11, 1], 0, 0),
  (29, 30, .iload_n 3, [], 0, 0),
  (30, 31, .iconst (-1), [], -1, 0),
  (31, 34, .invokevirtual 345, [0, 10], 0, 0),
  (34, 35, .ireturn, [], 0, 0)]
def mX11_accusedAlone : xM := (158, 11, cX11_accusedAlone, 4, (some .int), pX11_accusedAlone)
set_option maxRecDepth 100000 in
theorem gX11_accusedAlone : xgd mX11_accusedAlone := ⟨by decide +kernel, xat_in (p := 5101) rfl, by decide +kernel, by decide +kernel, by decide, by decide +kernel, by decide +kernel⟩
set_option maxRecDepth 100000 in
def pX11_isSuspect : List xRow := [(0, 1, .aload_n 0, [], 0, 0),
  (1, 4, .getfield 19, [11, 1], 0, 0),
  (4, 7, .getfield 104, [9, 0], 0, 0),
  (7, 10, .getfield 126, [2, 0], 0, 0),
  (10, 13, .getfield 162, [4, 1], 0, 0),
  (13, 14, .iload_n 1, [], 0, 0),
  (14, 15, .iaload, [], 0, 0),
  (15, 16, .istore_n 3, [], 0, 0),
  (16, 17, .aload_n 0, [], 0, 0),
  (17, 20, .getfield 19, [11, 1], 0, 0),
  (20, 23, .getfield 104, [9, 0], 0, 0),
  (23, 26, .getfield 126, [2, 0], 0, 0),
  (26, 29, .getfield 165, [4, 2], 0, 0),
  (29, 30, .iload_n 1, [], 0, 0),
  (30, 31, .iaload, [], 0, 0),
  (31, 33, .istore 4, [], 0, 0),
  (33, 34, .iconst 1, [], 1, 0),
  (34, 36, .istore 5, [], 0, 0),
  (36, 38, .iload 5, [], 0, 0),
  (38, 40, .bipush 9, [], 9, 0),
  (40, 43, .if_icmp .gt 33, [73], 0, 0),
  (43, 44, .aload_n 0, [], 0, 0),
  (44, 45, .iload_n 2, [], 0, 0),
  (45, 46, .iload_n 3, [], 0, 0),
  (46, 48, .iload 4, [], 0, 0),
  (48, 49, .aload_n 0, [], 0, 0),
  (49, 52, .getfield 19, [11, 1], 0, 0),
  (52, 53, .iload_n 1, [], 0, 0),
  (53, 55, .iload 5, [], 0, 0),
  (55, 56, .iload_n 2, [], 0, 0),
  (56, 59, .invokevirtual 415, [0, 75], 0, 0),
  (59, 62, .invokevirtual 316, [0, 160], 0, 0),
  (62, 65, .ifCond .eq 5, [67], 0, 0),
  (65, 66, .iconst 1, [], 1, 0),
  (66, 67, .ireturn, [], 0, 0),
  (67, 70, .iinc 5 1, [], 1, 0),
  (70, 73, .goto (-34), [36], 0, 0),
  (73, 74, .iconst 0, [], 0, 0),
  (74, 75, .ireturn, [], 0, 0)]
def mX11_isSuspect : xM := (159, 11, cX11_isSuspect, 6, (some .boolean), pX11_isSuspect)
set_option maxRecDepth 100000 in
theorem gX11_isSuspect : xgd mX11_isSuspect := ⟨by decide +kernel, xat_in (p := 5207) rfl, by decide +kernel, by decide +kernel, by decide, by decide +kernel, by decide +kernel⟩
set_option maxRecDepth 100000 in
def pX11_seenHolds : List xRow := [(0, 1, .iconst 0, [], 0, 0),
  (1, 3, .istore 5, [], 0, 0),
  (3, 5, .iload 5, [], 0, 0),
  (5, 6, .aload_n 0, [], 0, 0),
  (6, 9, .getfield 40, [11, 4], 0, 0),
  (9, 12, .getfield 114, [8, 0], 0, 0),
  (12, 15, .if_icmp .ge 108, [120], 0, 0),
  (15, 16, .aload_n 0, [], 0, 0),
  (16, 19, .getfield 40, [11, 4], 0, 0),
  (19, 22, .getfield 298, [8, 1], 0, 0),
  (22, 24, .iload 5, [], 0, 0),
  (24, 25, .iaload, [], 0, 0),
  (25, 27, .istore 6, [], 0, 0),
  (27, 29, .iload 4, [], 0, 0),
  (29, 31, .iload 6, [], 0, 0),
  (31, 32, .ishr, [], 0, 0),
  (32, 33, .iconst 1, [], 1, 0),
  (33, 34, .iand, [], 0, 0),
  (34, 37, .ifCond .eq 7, [41], 0, 0),
  (37, 38, .iconst 1, [], 1, 0),
  (38, 41, .goto 4, [42], 0, 0),
  (41, 42, .iconst 0, [], 0, 0),
  (42, 44, .istore 7, [], 0, 0),
  (44, 46, .iload 7, [], 0, 0),
  (46, 49, .ifCond .eq 28, [74], 0, 0),
  (49, 50, .aload_n 0, [], 0, 0),
  (50, 53, .getfield 19, [11, 1], 0, 0),
  (53, 55, .iload 6, [], 0, 0),
  (55, 56, .aload_n 0, [], 0, 0),
  (56, 59, .getfield 40, [11, 4], 0, 0),
  (59, 62, .getfield 301, [8, 2], 0, 0),
  (62, 64, .iload 5, [], 0, 0),
  (64, 65, .iaload, [], 0, 0),
  (65, 66, .iload_n 1, [], 0, 0),
  (66, 67, .iload_n 2, [], 0, 0),
  (67, 68, .iload_n 3, [], 0, 0),
  (68, 71, .invokevirtual 418, [0, 93], 0, 0),
  (71, 74, .goto 24, [95], 0, 0),
  (74, 75, .aload_n 0, [], 0, 0),
  (75, 78, .getfield 19, [11, 1], 0, 0),
  (78, 81, .getfield 215, [9, 2], 0, 0),
  (81, 83, .iload 6, [], 0, 0),
  (83, 84, .aaload, [], 0, 0),
  (84, 85, .aload_n 0, [], 0, 0),
  (85, 88, .getfield 40, [11, 4], 0, 0),
  (88, 91, .getfield 301, [8, 2], 0, 0),
  (91, 93, .iload 5, [], 0, 0),
  (93, 94, .iaload, [], 0, 0),
  (94, 95, .iaload, [], 0, 0),
  (95, 97, .istore 8, [], 0, 0),
  (97, 99, .iload 8, [], 0, 0),
  (99, 100, .aload_n 0, [], 0, 0),
  (100, 103, .getfield 40, [11, 4], 0, 0),
  (103, 106, .getfield 302, [8, 3], 0, 0),
  (106, 108, .iload 5, [], 0, 0),
  (108, 109, .iaload, [], 0, 0),
  (109, 112, .if_icmp .eq 5, [114], 0, 0),
  (112, 113, .iconst 0, [], 0, 0),
  (113, 114, .ireturn, [], 0, 0),
  (114, 117, .iinc 5 1, [], 1, 0),
  (117, 120, .goto (-114), [3], 0, 0),
  (120, 121, .iconst 1, [], 1, 0),
  (121, 122, .ireturn, [], 0, 0)]
def mX11_seenHolds : xM := (160, 11, cX11_seenHolds, 9, (some .boolean), pX11_seenHolds)
set_option maxRecDepth 100000 in
theorem gX11_seenHolds : xgd mX11_seenHolds := ⟨by decide +kernel, xat_in (p := 5212) rfl, by decide +kernel, by decide +kernel, by decide, by decide +kernel, by decide +kernel⟩
set_option maxRecDepth 100000 in
def pX11_hearersFrom : List xRow := [(0, 1, .aload_n 0, [], 0, 0),
  (1, 4, .getfield 19, [11, 1], 0, 0),
  (4, 7, .getfield 104, [9, 0], 0, 0),
  (7, 10, .getfield 135, [2, 1], 0, 0),
  (10, 11, .astore_n 3, [], 0, 0),
  (11, 12, .iconst 0, [], 0, 0),
  (12, 14, .istore 4, [], 0, 0),
  (14, 15, .iconst 0, [], 0, 0),
  (15, 17, .istore 5, [], 0, 0),
  (17, 19, .iload 5, [], 0, 0),
  (19, 20, .aload_n 3, [], 0, 0),
  (20, 23, .getfield 138, [3, 0], 0, 0),
  (23, 26, .if_icmp .ge 58, [81], 0, 0),
  (26, 27, .iload_n 1, [], 0, 0),
  (27, 28, .aload_n 3, [], 0, 0),
  (28, 31, .getfield 180, [3, 1], 0, 0),
  (31, 33, .iload 5, [], 0, 0),
  (33, 34, .iaload, [], 0, 0),
  (34, 35, .isub, [], 0, 0),
  (35, 36, .iload_n 2, [], 0, 0),
  (36, 37, .aload_n 3, [], 0, 0),
  (37, 40, .getfield 181, [3, 2], 0, 0),
  (40, 42, .iload 5, [], 0, 0),
  (42, 43, .iaload, [], 0, 0),
  (43, 44, .isub, [], 0, 0),
  (44, 47, .invokestatic 422, [1, 152], 0, 0),
  (47, 49, .istore 6, [], 0, 0),
  (49, 50, .aload_n 0, [], 0, 0),
  (50, 53, .getfield 74, [11, 12], 0, 0),
  (53, 55, .iload 5, [], 0, 0),
  (55, 56, .laload, [], 0, 0),
  (56, 58, .iload 6, [], 0, 0),
  (58, 59, .lshr, [], 0, 0),
  (59, 60, .lconst 1, [], 0, 1),
  (60, 61, .land, [], 0, 0),
  (61, 62, .lconst 0, [], 0, 0),
  (62, 63, .lcmp, [], 0, 0),
  (63, 66, .ifCond .eq 12, [75], 0, 0),
  (66, 68, .iload 4, [], 0, 0),
  (68, 69, .iconst 1, [], 1, 0),
  (69, 71, .iload 5, [], 0, 0),
  (71, 72, .ishl, [], 0, 0),
  (72, 73, .ior, [], 0, 0),
  (73, 75, .istore 4, [], 0, 0),
  (75, 78, .iinc 5 1, [], 1, 0),
  (78, 81, .goto (-61), [17], 0, 0),
  (81, 83, .iload 4, [], 0, 0),
  (83, 84, .ireturn, [], 0, 0)]
def mX11_hearersFrom : xM := (161, 11, cX11_hearersFrom, 7, (some .int), pX11_hearersFrom)
set_option maxRecDepth 100000 in
theorem gX11_hearersFrom : xgd mX11_hearersFrom := ⟨by decide +kernel, xat_in (p := 5231) rfl, by decide +kernel, by decide +kernel, by decide, by decide +kernel, by decide +kernel⟩
set_option maxRecDepth 100000 in
def pX11_unlikeThings : List xRow := [(0, 1, .aload_n 0, [], 0, 0),
  (1, 4, .getfield 19, [11, 1], 0, 0),
  (4, 7, .getfield 104, [9, 0], 0, 0),
  (7, 10, .getfield 126, [2, 0], 0, 0),
  (10, 12, .astore 4, [], 0, 0),
  (12, 13, .iconst 0, [], 0, 0),
  (13, 15, .istore 5, [], 0, 0),
  (15, 16, .iconst 0, [], 0, 0),
  (16, 18, .istore 6, [], 0, 0),
  (18, 20, .iload 6, [], 0, 0),
  (20, 22, .aload 4, [], 0, 0),
  (22, 25, .getfield 132, [4, 0], 0, 0),
  (25, 28, .if_icmp .ge 96, [121], 0, 0),
  (28, 29, .iload_n 1, [], 0, 0),
  (29, 31, .iload 6, [], 0, 0),
  (31, 32, .ishr, [], 0, 0),
  (32, 33, .iconst 1, [], 1, 0),
  (33, 34, .iand, [], 0, 0),
  (34, 37, .ifCond .eq 81, [115], 0, 0),
  (37, 39, .aload 4, [], 0, 0),
  (39, 42, .getfield 162, [4, 1], 0, 0),
  (42, 44, .iload 6, [], 0, 0),
  (44, 45, .iaload, [], 0, 0),
  (45, 46, .iload_n 2, [], 0, 0),
  (46, 47, .isub, [], 0, 0),
  (47, 49, .istore 7, [], 0, 0),
  (49, 51, .aload 4, [], 0, 0),
  (51, 54, .getfield 165, [4, 2], 0, 0),
  (54, 56, .iload 6, [], 0, 0),
  (56, 57, .iaload, [], 0, 0),
  (57, 58, .iload_n 3, [], 0, 0),
  (58, 59, .isub, [], 0, 0),
  (59, 61, .istore 8, [], 0, 0),
  (61, 62, .aload_n 0, [], 0, 0),
  (62, 65, .getfield 74, [11, 12], 0, 0),
  (65, 67, .iload 6, [], 0, 0),
  (67, 68, .laload, [], 0, 0),
  (68, 70, .iload 7, [], 0, 0),
  (70, 72, .iload 8, [], 0, 0),
  (72, 75, .invokestatic 422, [1, 152], 0, 0),
  (75, 76, .lshr, [], 0, 0),
  (76, 77, .lconst 1, [], 0, 1),
  (77, 78, .land, [], 0, 0),
  (78, 79, .lconst 0, [], 0, 0),
  (79, 80, .lcmp, [], 0, 0),
  (80, 83, .ifCond .eq 7, [87], 0, 0),
  (83, 84, .iconst 1, [], 1, 0),
  (84, 87, .goto 4, [88], 0, 0),
  (87, 88, .iconst 0, [], 0, 0),
  (88, 90, .istore 9, [], 0, 0),
  (90, 92, .iload 5, [], 0, 0),
  (92, 94, .iload 9, [], 0, 0),
  (94, 97, .ifCond .eq 17, [111], 0, 0),
  (97, 98, .iconst 2, [], 2, 0),
  (98, 100, .iload 7, [], 0, 0),
  (100, 101, .i2l, [], 0, 0),
  (101, 103, .iload 8, [], 0, 0),
  (103, 104, .i2l, [], 0, 0),
  (104, 107, .invokestatic 226, [1, 153], 0, 0),
  (107, 108, .ishl, [], 0, 0),
  (108, 111, .goto 4, [112], 0, 0),
  (111, 112, .iconst 1, [], 1, 0),
  (112, 113, .ior, [], 0, 0),
  (113, 115, .istore 5, [], 0, 0),
  (115, 118, .iinc 6 1, [], 1, 0),
  (118, 121, .goto (-100), [18], 0, 0),
  (121, 123, .iload 5, [], 0, 0),
  (123, 126, .invokestatic 288, [1, 285], 0, 0),
  (126, 127, .ireturn, [], 0, 0)]
def mX11_unlikeThings : xM := (162, 11, cX11_unlikeThings, 10, (some .int), pX11_unlikeThings)
set_option maxRecDepth 100000 in
theorem gX11_unlikeThings : xgd mX11_unlikeThings := ⟨by decide +kernel, xat_in (p := 6003) rfl, by decide +kernel, by decide +kernel, by decide, by decide +kernel, by decide +kernel⟩
set_option maxRecDepth 100000 in
def pX11_judgeCouples : List xRow := [(0, 1, .aload_n 0, [], 0, 0),
  (1, 4, .getfield 19, [11, 1], 0, 0),
  (4, 6, .bipush 9, [], 9, 0),
  (6, 7, .iload_n 3, [], 0, 0),
  (7, 10, .invokevirtual 271, [0, 85], 0, 0),
  (10, 11, .aload_n 0, [], 0, 0),
  (11, 14, .getfield 19, [11, 1], 0, 0),
  (14, 15, .iload_n 3, [], 0, 0),
  (15, 18, .invokevirtual 285, [0, 86], 0, 0),
  (18, 19, .iconst 0, [], 0, 0),
  (19, 21, .istore 4, [], 0, 0),
  (21, 23, .iload 4, [], 0, 0),
  (23, 24, .iconst 4, [], 4, 0),
  (24, 27, .if_icmp .ge 54, [78], 0, 0),
  (27, 28, .aload_n 0, [], 0, 0),
  (28, 31, .getfield 26, [11, 2], 0, 0),
  (31, 32, .aload_n 0, [], 0, 0),
  (32, 35, .getfield 19, [11, 1], 0, 0),
  (35, 36, .iload_n 3, [], 0, 0),
  (36, 38, .iload 4, [], 0, 0),
  (38, 39, .iconst 1, [], 1, 0),
  (39, 40, .ishr, [], 0, 0),
  (40, 41, .iload_n 1, [], 0, 0),
  (41, 42, .ishl, [], 0, 0),
  (42, 44, .iload 4, [], 0, 0),
  (44, 45, .iconst 1, [], 1, 0),
  (45, 46, .iand, [], 0, 0),
  (46, 47, .iload_n 2, [], 0, 0),
  (47, 48, .ishl, [], 0, 0),
  (48, 49, .ior, [], 0, 0),
  (49, 52, .invokevirtual 425, [0, 9], 0, 0),
  (52, 53, .aload_n 0, [], 0, 0),
  (53, 56, .getfield 71, [11, 11], 0, 0),
  (56, 58, .iload 4, [], 0, 0),
  (58, 59, .aload_n 0, [], 0, 0),
  (59, 62, .getfield 26, [11, 2], 0, 0),
  (62, 63, .aload_n 0, [], 0, 0),
  (63, 66, .getfield 19, [11, 1], 0, 0),
  (66, 67, .iload_n 3, [], 0, 0),
  (67, 68, .iconst (-1), [], -1, 0),
  (68, 71, .invokevirtual 345, [0, 10], 0, 0),
  (71, 72, .iastore, [], 0, 0),
  (72, 75, .iinc 4 1, [], 1, 0),
  (75, 78, .goto (-54), [21], 0, 0),
  (78, 79, .return_, [], 0, 0)]
def mX11_judgeCouples : xM := (163, 11, cX11_judgeCouples, 5, none, pX11_judgeCouples)
set_option maxRecDepth 100000 in
theorem gX11_judgeCouples : xgd mX11_judgeCouples := ⟨by decide +kernel, xat_in (p := 6015) rfl, by decide +kernel, by decide +kernel, by decide, by decide +kernel, by decide +kernel⟩
set_option maxRecDepth 100000 in
def pX11_rests : List xRow := [(0, 1, .iload_n 1, [], 0, 0),
  (1, 2, .iconst 1, [], 1, 0),
  (2, 3, .ishr, [], 0, 0),
  (3, 5, .istore 5, [], 0, 0),
  (5, 6, .iload_n 1, [], 0, 0),
  (6, 7, .iconst 1, [], 1, 0),
  (7, 8, .iand, [], 0, 0),
  (8, 10, .istore 6, [], 0, 0),
  (10, 11, .aload_n 0, [], 0, 0),
  (11, 13, .iload 5, [], 0, 0),
  (13, 14, .iload_n 1, [], 0, 0),
  (14, 15, .iload_n 2, [], 0, 0),
  (15, 17, .iload 4, [], 0, 0),
  (17, 20, .invokevirtual 429, [0, 165], 0, 0),
  (20, 21, .aload_n 0, [], 0, 0),
  (21, 22, .iconst 1, [], 1, 0),
  (22, 24, .iload 5, [], 0, 0),
  (24, 25, .isub, [], 0, 0),
  (25, 26, .iload_n 1, [], 0, 0),
  (26, 27, .iconst 2, [], 2, 0),
  (27, 28, .ixor, [], 0, 0),
  (28, 29, .iload_n 2, [], 0, 0),
  (29, 31, .iload 4, [], 0, 0),
  (31, 34, .invokevirtual 429, [0, 165], 0, 0),
  (34, 37, .if_icmp .lt 34, [68], 0, 0),
  (37, 38, .aload_n 0, [], 0, 0),
  (38, 40, .iload 6, [], 0, 0),
  (40, 41, .iload_n 1, [], 0, 0),
  (41, 42, .iload_n 3, [], 0, 0),
  (42, 44, .iload 4, [], 0, 0),
  (44, 47, .invokevirtual 429, [0, 165], 0, 0),
  (47, 48, .aload_n 0, [], 0, 0),
  (48, 49, .iconst 1, [], 1, 0),
  (49, 51, .iload 6, [], 0, 0),
  (51, 52, .isub, [], 0, 0),
  (52, 53, .iload_n 1, [], 0, 0),
  (53, 54, .iconst 1, [], 1, 0),
  (54, 55, .ixor, [], 0, 0),
  (55, 56, .iload_n 3, [], 0, 0),
  (56, 58, .iload 4, [], 0, 0),
  (58, 61, .invokevirtual 429, [0, 165], 0, 0),
  (61, 64, .if_icmp .lt 7, [68], 0, 0),
  (64, 65, .iconst 1, [], 1, 0),
  (65, 68, .goto 4, [69], 0, 0),
  (68, 69, .iconst 0, [], 0, 0),
  (69, 70, .ireturn, [], 0, 0)]
def mX11_rests : xM := (164, 11, cX11_rests, 7, (some .boolean), pX11_rests)
set_option maxRecDepth 100000 in
theorem gX11_rests : xgd mX11_rests := ⟨by decide +kernel, xat_in (p := 6025) rfl, by decide +kernel, by decide +kernel, by decide, by decide +kernel, by decide +kernel⟩
set_option maxRecDepth 100000 in
def pX11_gain : List xRow := [(0, 1, .iconst 5, [], 5, 0),
  (1, 2, .iload_n 1, [], 0, 0),
  (2, 3, .imul, [], 0, 0),
  (3, 4, .aload_n 0, [], 0, 0),
  (4, 7, .getfield 71, [11, 11], 0, 0),
  (7, 8, .iload_n 2, [], 0, 0),
  (8, 9, .iaload, [], 0, 0),
  (9, 10, .iload_n 3, [], 0, 0),
  (10, 13, .if_icmp .ne 8, [18], 0, 0),
  (13, 15, .iload 4, [], 0, 0),
  (15, 18, .goto 4, [19], 0, 0),
  (18, 19, .iconst 0, [], 0, 0),
  (19, 20, .isub, [], 0, 0),
  (20, 21, .ireturn, [], 0, 0)]
def mX11_gain : xM := (165, 11, cX11_gain, 5, (some .int), pX11_gain)
set_option maxRecDepth 100000 in
theorem gX11_gain : xgd mX11_gain := ⟨by decide +kernel, xat_in (p := 6029) rfl, by decide +kernel, by decide +kernel, by decide, by decide +kernel, by decide +kernel⟩
end
section
set_option maxRecDepth 100000 in
def pX12_init : List xRow := [(0, 1, .aload_n 0, [], 0, 0),
  (1, 4, .invokespecial 1, [15, 0], 0, 0),
  (4, 5, .aload_n 0, [], 0, 0),
  (5, 6, .iconst (-1), [], -1, 0),
  (6, 9, .putfield 9, [12, 3], 0, 0),
  (9, 10, .aload_n 0, [], 0, 0),
  (10, 11, .iconst (-1), [], -1, 0),
  (11, 14, .putfield 13, [12, 4], 0, 0),
  (14, 15, .aload_n 0, [], 0, 0),
  (15, 17, .bipush 11, [], 11, 0),
  (17, 19, .newarray .int, [], 0, 0),
  (19, 22, .putfield 16, [12, 5], 0, 0),
  (22, 23, .aload_n 0, [], 0, 0),
  (23, 25, .bipush 11, [], 11, 0),
  (25, 27, .newarray .int, [], 0, 0),
  (27, 30, .putfield 20, [12, 6], 0, 0),
  (30, 31, .aload_n 0, [], 0, 0),
  (31, 33, .bipush 11, [], 11, 0),
  (33, 35, .newarray .int, [], 0, 0),
  (35, 38, .putfield 23, [12, 7], 0, 0),
  (38, 39, .aload_n 0, [], 0, 0),
  (39, 41, .bipush 7, [], 7, 0),
  (41, 43, .newarray .int, [], 0, 0),
  (43, 46, .putfield 26, [12, 8], 0, 0),
  (46, 47, .aload_n 0, [], 0, 0),
  (47, 50, .sipush 1400, [], 1400, 0),
  (50, 52, .newarray .int, [], 0, 0),
  (52, 55, .putfield 29, [12, 9], 0, 0),
  (55, 56, .aload_n 0, [], 0, 0),
  (56, 59, .sipush 700, [], 700, 0),
  (59, 61, .newarray .int, [], 0, 0),
  (61, 64, .putfield 32, [12, 10], 0, 0),
  (64, 65, .aload_n 0, [], 0, 0),
  (65, 66, .iconst (-1), [], -1, 0),
  (66, 69, .putfield 35, [12, 13], 0, 0),
  (69, 70, .aload_n 0, [], 0, 0),
  (70, 71, .iconst 3, [], 3, 0),
  (71, 73, .newarray .int, [], 0, 0),
  (73, 76, .putfield 38, [12, 14], 0, 0),
  (76, 77, .aload_n 0, [], 0, 0),
  (77, 79, .bipush 10, [], 10, 0),
  (79, 81, .newarray .int, [], 0, 0),
  (81, 84, .putfield 41, [12, 33], 0, 0),
  (84, 85, .aload_n 0, [], 0, 0),
  (85, 87, .bipush 10, [], 10, 0),
  (87, 89, .newarray .int, [], 0, 0),
  (89, 92, .putfield 44, [12, 34], 0, 0),
  (92, 93, .aload_n 0, [], 0, 0),
  (93, 95, .bipush 10, [], 10, 0),
  (95, 97, .newarray .int, [], 0, 0),
  (97, 100, .putfield 47, [12, 35], 0, 0),
  (100, 101, .aload_n 0, [], 0, 0),
  (101, 103, .bipush 6, [], 6, 0),
  (103, 105, .newarray .int, [], 0, 0),
  (105, 108, .putfield 50, [12, 36], 0, 0),
  (108, 109, .aload_n 0, [], 0, 0),
  (109, 111, .bipush 67, [], 67, 0),
  (111, 113, .newarray .int, [], 0, 0),
  (113, 116, .putfield 53, [12, 37], 0, 0),
  (116, 117, .aload_n 0, [], 0, 0),
  (117, 120, .sipush 1400, [], 1400, 0),
  (120, 122, .newarray .int, [], 0, 0),
  (122, 125, .putfield 56, [12, 38], 0, 0),
  (125, 126, .aload_n 0, [], 0, 0),
  (126, 129, .sipush 950, [], 950, 0),
  (129, 131, .newarray .int, [], 0, 0),
  (131, 134, .putfield 59, [12, 39], 0, 0),
  (134, 135, .aload_n 0, [], 0, 0),
  (135, 137, .bipush 9, [], 9, 0),
  (137, 139, .newarray .boolean, [], 0, 0),
  (139, 142, .putfield 62, [12, 40], 0, 0),
  (142, 143, .aload_n 0, [], 0, 0),
  (143, 145, .bipush 67, [], 67, 0),
  (145, 147, .newarray .int, [], 0, 0),
  (147, 150, .putfield 66, [12, 41], 0, 0),
  (150, 151, .aload_n 0, [], 0, 0),
  (151, 154, .sipush 2680, [], 2680, 0),
  (154, 156, .newarray .int, [], 0, 0),
  (156, 159, .putfield 69, [12, 42], 0, 0),
  (159, 160, .aload_n 0, [], 0, 0),
  (160, 162, .bipush 9, [], 9, 0),
  (162, 164, .newarray .int, [], 0, 0),
  (164, 167, .putfield 72, [12, 44], 0, 0),
  (167, 168, .aload_n 0, [], 0, 0),
  (168, 171, .sipush 950, [], 950, 0),
  (171, 173, .newarray .int, [], 0, 0),
  (173, 176, .putfield 75, [12, 45], 0, 0),
  (176, 177, .aload_n 0, [], 0, 0),
  (177, 179, .bipush 120, [], 120, 0),
  (179, 181, .newarray .int, [], 0, 0),
  (181, 184, .putfield 78, [12, 47], 0, 0),
  (184, 185, .aload_n 0, [], 0, 0),
  (185, 187, .bipush 120, [], 120, 0),
  (187, 189, .newarray .int, [], 0, 0),
  (189, 192, .putfield 81, [12, 48], 0, 0),
  (192, 193, .aload_n 0, [], 0, 0),
  (193, 195, .bipush 120, [], 120, 0),
  (195, 197, .newarray .int, [], 0, 0),
  (197, 200, .putfield 84, [12, 49], 0, 0),
  (200, 201, .aload_n 0, [], 0, 0),
  (201, 203, .bipush 7, [], 7, 0),
  (203, 205, .newarray .int, [], 0, 0),
  (205, 208, .putfield 87, [12, 50], 0, 0),
  (208, 209, .aload_n 0, [], 0, 0),
  (209, 211, .bipush 7, [], 7, 0),
  (211, 213, .newarray .int, [], 0, 0),
  (213, 216, .putfield 90, [12, 51], 0, 0),
  (216, 217, .aload_n 0, [], 0, 0),
  (217, 219, .bipush 7, [], 7, 0),
  (219, 221, .newarray .int, [], 0, 0),
  (221, 224, .putfield 93, [12, 52], 0, 0),
  (224, 225, .aload_n 0, [], 0, 0),
  (225, 227, .bipush 7, [], 7, 0),
  (227, 229, .newarray .int, [], 0, 0),
  (229, 232, .putfield 96, [12, 53], 0, 0),
  (232, 233, .aload_n 0, [], 0, 0),
  (233, 235, .bipush 6, [], 6, 0),
  (235, 237, .newarray .int, [], 0, 0),
  (237, 240, .putfield 99, [12, 54], 0, 0),
  (240, 241, .aload_n 0, [], 0, 0),
  (241, 243, .bipush 70, [], 70, 0),
  (243, 245, .newarray .int, [], 0, 0),
  (245, 248, .putfield 102, [12, 55], 0, 0),
  (248, 249, .aload_n 0, [], 0, 0),
  (249, 251, .bipush 24, [], 24, 0),
  (251, 253, .newarray .int, [], 0, 0),
  (253, 256, .putfield 105, [12, 57], 0, 0),
  (256, 257, .aload_n 0, [], 0, 0),
  (257, 259, .bipush 67, [], 67, 0),
  (259, 261, .newarray .int, [], 0, 0),
  (261, 264, .putfield 108, [12, 62], 0, 0),
  (264, 265, .aload_n 0, [], 0, 0),
  (265, 268, .sipush 2680, [], 2680, 0),
  (268, 270, .newarray .int, [], 0, 0),
  (270, 273, .putfield 111, [12, 63], 0, 0),
  (273, 274, .aload_n 0, [], 0, 0),
  (274, 276, .bipush 24, [], 24, 0),
  (276, 278, .newarray .int, [], 0, 0),
  (278, 281, .putfield 114, [12, 64], 0, 0),
  (281, 282, .aload_n 0, [], 0, 0),
  (282, 285, .getfield 26, [12, 8], 0, 0),
  (285, 287, .bipush 6, [], 6, 0),
  (287, 289, .bipush 60, [], 60, 0),
  (289, 290, .iastore, [], 0, 0),
  (290, 291, .return_, [], 0, 0)]
def mX12_init : xM := (166, 12, cX12_init, 1, none, pX12_init)
set_option maxRecDepth 100000 in
theorem gX12_init : xgd mX12_init := ⟨by decide +kernel, xat_in (p := 6134) rfl, by decide +kernel, by decide +kernel, by decide, by decide +kernel, by decide +kernel⟩
set_option maxRecDepth 100000 in
def pX12_thrown : List xRow := [(0, 1, .aload_n 0, [], 0, 0),
  (1, 4, .getfield 117, [12, 0], 0, 0),
  (4, 5, .ireturn, [], 0, 0)]
def mX12_thrown : xM := (167, 12, cX12_thrown, 1, (some .int), pX12_thrown)
set_option maxRecDepth 100000 in
theorem gX12_thrown : xgd mX12_thrown := ⟨by decide +kernel, xat_in (p := 7096) rfl, by decide +kernel, by decide +kernel, by decide, by decide +kernel, by decide +kernel⟩
set_option maxRecDepth 100000 in
def pX12_right : List xRow := [(0, 1, .aload_n 0, [], 0, 0),
  (1, 4, .getfield 117, [12, 0], 0, 0),
  (4, 7, .ifCond .ne 12, [16], 0, 0),
  (7, 8, .iload_n 1, [], 0, 0),
  (8, 11, .ifCond .ne 8, [16], 0, 0),
  (11, 12, .aload_n 0, [], 0, 0),
  (12, 13, .iload_n 2, [], 0, 0),
  (13, 16, .putfield 117, [12, 0], 0, 0),
  (16, 17, .aload_n 0, [], 0, 0),
  (17, 20, .getfield 117, [12, 0], 0, 0),
  (20, 23, .ifCond .ne 7, [27], 0, 0),
  (23, 24, .iconst 1, [], 1, 0),
  (24, 27, .goto 4, [28], 0, 0),
  (27, 28, .iconst 0, [], 0, 0),
  (28, 29, .ireturn, [], 0, 0)]
def mX12_right : xM := (168, 12, cX12_right, 3, (some .boolean), pX12_right)
set_option maxRecDepth 100000 in
theorem gX12_right : xgd mX12_right := ⟨by decide +kernel, xat_in (p := 7112) rfl, by decide +kernel, by decide +kernel, by decide, by decide +kernel, by decide +kernel⟩
set_option maxRecDepth 100000 in
def pX12_within : List xRow := [(0, 1, .iload_n 0, [], 0, 0),
  (1, 2, .iload_n 1, [], 0, 0),
  (2, 5, .if_icmp .lt 12, [14], 0, 0),
  (5, 6, .iload_n 0, [], 0, 0),
  (6, 7, .iload_n 2, [], 0, 0),
  (7, 10, .if_icmp .gt 7, [14], 0, 0),
  (10, 11, .iconst 1, [], 1, 0),
  (11, 14, .goto 4, [15], 0, 0),
  (14, 15, .iconst 0, [], 0, 0),
  (15, 16, .ireturn, [], 0, 0)]
def mX12_within : xM := (169, 12, cX12_within, 3, (some .boolean), pX12_within)
set_option maxRecDepth 100000 in
theorem gX12_within : xgd mX12_within := ⟨by decide +kernel, xat_in (p := 7238) rfl, by decide +kernel, by decide +kernel, by decide, by decide +kernel, by decide +kernel⟩
set_option maxRecDepth 100000 in
def pX12_off : List xRow := [(0, 1, .iload_n 0, [], 0, 0),
  (1, 2, .iload_n 1, [], 0, 0),
  (2, 5, .if_icmp .ge 9, [11], 0, 0),
  (5, 6, .iload_n 1, [], 0, 0),
  (6, 7, .iload_n 0, [], 0, 0),
  (7, 8, .isub, [], 0, 0),
  (8, 11, .goto 6, [14], 0, 0),
  (11, 12, .iload_n 0, [], 0, 0),
  (12, 13, .iload_n 1, [], 0, 0),
  (13, 14, .isub, [], 0, 0),
  (14, 15, .ireturn, [], 0, 0)]
def mX12_off : xM := (170, 12, cX12_off, 2, (some .int), pX12_off)
set_option maxRecDepth 100000 in
theorem gX12_off : xgd mX12_off := ⟨by decide +kernel, xat_in (p := 8037) rfl, by decide +kernel, by decide +kernel, by decide, by decide +kernel, by decide +kernel⟩
set_option maxRecDepth 100000 in
def pX12_copies : List xRow := [(0, 1, .iconst 0, [], 0, 0),
  (1, 2, .istore_n 3, [], 0, 0),
  (2, 3, .iload_n 3, [], 0, 0),
  (3, 4, .aload_n 1, [], 0, 0),
  (4, 5, .arraylength, [], 0, 0),
  (5, 8, .if_icmp .ge 15, [20], 0, 0),
  (8, 9, .aload_n 2, [], 0, 0),
  (9, 10, .iload_n 3, [], 0, 0),
  (10, 11, .aload_n 1, [], 0, 0),
  (11, 12, .iload_n 3, [], 0, 0),
  (12, 13, .iaload, [], 0, 0),
  (13, 14, .iastore, [], 0, 0),
  (14, 17, .iinc 3 1, [], 1, 0),
  (17, 20, .goto (-15), [2], 0, 0),
  (20, 21, .return_, [], 0, 0)]
def mX12_copies : xM := (171, 12, cX12_copies, 4, none, pX12_copies)
set_option maxRecDepth 100000 in
theorem gX12_copies : xgd mX12_copies := ⟨by decide +kernel, xat_in (p := 7223) rfl, by decide +kernel, by decide +kernel, by decide, by decide +kernel, by decide +kernel⟩
set_option maxRecDepth 100000 in
def pX12_bits : List xRow := [(0, 1, .iconst 0, [], 0, 0),
  (1, 2, .istore_n 1, [], 0, 0),
  (2, 3, .iconst 0, [], 0, 0),
  (3, 4, .istore_n 2, [], 0, 0),
  (4, 5, .iload_n 2, [], 0, 0),
  (5, 7, .bipush 16, [], 16, 0),
  (7, 10, .if_icmp .ge 17, [24], 0, 0),
  (10, 11, .iload_n 1, [], 0, 0),
  (11, 12, .iload_n 0, [], 0, 0),
  (12, 13, .iload_n 2, [], 0, 0),
  (13, 14, .ishr, [], 0, 0),
  (14, 15, .iconst 1, [], 1, 0),
  (15, 16, .iand, [], 0, 0),
  (16, 17, .iadd, [], 0, 0),
  (17, 18, .istore_n 1, [], 0, 0),
  (18, 21, .iinc 2 1, [], 1, 0),
  (21, 24, .goto (-17), [4], 0, 0),
  (24, 25, .iload_n 1, [], 0, 0),
  (25, 26, .ireturn, [], 0, 0)]
def mX12_bits : xM := (172, 12, cX12_bits, 3, (some .int), pX12_bits)
set_option maxRecDepth 100000 in
theorem gX12_bits : xgd mX12_bits := ⟨by decide +kernel, xat_in (p := 8191) rfl, by decide +kernel, by decide +kernel, by decide, by decide +kernel, by decide +kernel⟩
set_option maxRecDepth 100000 in
def pX12_feed : List xRow := [(0, 1, .aload_n 0, [], 0, 0),
  (1, 2, .iconst 0, [], 0, 0),
  (2, 5, .putfield 117, [12, 0], 0, 0),
  (5, 6, .aload_n 0, [], 0, 0),
  (6, 9, .getfield 120, [12, 11], 0, 0),
  (9, 11, .bipush 20, [], 20, 0),
  (11, 12, .iadd, [], 0, 0),
  (12, 15, .sipush 700, [], 700, 0),
  (15, 18, .if_icmp .le 5, [20], 0, 0),
  (18, 19, .iconst (-1), [], -1, 0),
  (19, 20, .ireturn, [], 0, 0),
  (20, 21, .aload_n 0, [], 0, 0),
  (21, 22, .iload_n 1, [], 0, 0),
  (22, 25, .invokevirtual 123, [0, 174], 0, 0),
  (25, 26, .aload_n 0, [], 0, 0),
  (26, 27, .iload_n 2, [], 0, 0),
  (27, 30, .invokevirtual 123, [0, 174], 0, 0),
  (30, 31, .aload_n 0, [], 0, 0),
  (31, 32, .iload_n 3, [], 0, 0),
  (32, 35, .invokevirtual 123, [0, 174], 0, 0),
  (35, 36, .aload_n 0, [], 0, 0),
  (36, 38, .iload 4, [], 0, 0),
  (38, 41, .invokevirtual 123, [0, 174], 0, 0),
  (41, 42, .aload_n 0, [], 0, 0),
  (42, 44, .iload 5, [], 0, 0),
  (44, 47, .invokevirtual 123, [0, 174], 0, 0),
  (47, 48, .aload_n 0, [], 0, 0),
  (48, 51, .getfield 120, [12, 11], 0, 0),
  (51, 52, .ireturn, [], 0, 0)]
def mX12_feed : xM := (173, 12, cX12_feed, 6, (some .int), pX12_feed)
set_option maxRecDepth 100000 in
theorem gX12_feed : xgd mX12_feed := ⟨by decide +kernel, xat_in (p := 7100) rfl, by decide +kernel, by decide +kernel, by decide, by decide +kernel, by decide +kernel⟩
set_option maxRecDepth 100000 in
def pX12_lays : List xRow := [(0, 2, .bipush 24, [], 24, 0),
  (2, 3, .istore_n 2, [], 0, 0),
  (3, 4, .iload_n 2, [], 0, 0),
  (4, 7, .ifCond .lt 35, [39], 0, 0),
  (7, 8, .aload_n 0, [], 0, 0),
  (8, 11, .getfield 32, [12, 10], 0, 0),
  (11, 12, .aload_n 0, [], 0, 0),
  (12, 15, .getfield 120, [12, 11], 0, 0),
  (15, 16, .iload_n 1, [], 0, 0),
  (16, 17, .iload_n 2, [], 0, 0),
  (17, 18, .ishr, [], 0, 0),
  (18, 21, .sipush 255, [], 255, 0),
  (21, 22, .iand, [], 0, 0),
  (22, 23, .iastore, [], 0, 0),
  (23, 24, .aload_n 0, [], 0, 0),
  (24, 25, .dup, [], 0, 0),
  (25, 28, .getfield 120, [12, 11], 0, 0),
  (28, 29, .iconst 1, [], 1, 0),
  (29, 30, .iadd, [], 0, 0),
  (30, 33, .putfield 120, [12, 11], 0, 0),
  (33, 36, .iinc 2 (-8), [], -8, 0),
  (36, 39, .goto (-33), [3], 0, 0),
  (39, 40, .return_, [], 0, 0)]
def mX12_lays : xM := (174, 12, cX12_lays, 3, none, pX12_lays)
set_option maxRecDepth 100000 in
theorem gX12_lays : xgd mX12_lays := ⟨by decide +kernel, xat_in (p := 7104) rfl, by decide +kernel, by decide +kernel, by decide, by decide +kernel, by decide +kernel⟩
set_option maxRecDepth 100000 in
def pX12_byteAt : List xRow := [(0, 1, .iload_n 1, [], 0, 0),
  (1, 2, .aload_n 0, [], 0, 0),
  (2, 5, .getfield 127, [12, 15], 0, 0),
  (5, 8, .if_icmp .ge 12, [17], 0, 0),
  (8, 9, .aload_n 0, [], 0, 0),
  (9, 12, .getfield 32, [12, 10], 0, 0),
  (12, 13, .iload_n 1, [], 0, 0),
  (13, 14, .iaload, [], 0, 0),
  (14, 17, .goto 4, [18], 0, 0),
  (17, 18, .iconst 0, [], 0, 0),
  (18, 19, .ireturn, [], 0, 0)]
def mX12_byteAt : xM := (175, 12, cX12_byteAt, 2, (some .int), pX12_byteAt)
set_option maxRecDepth 100000 in
theorem gX12_byteAt : xgd mX12_byteAt := ⟨by decide +kernel, xat_in (p := 7120) rfl, by decide +kernel, by decide +kernel, by decide, by decide +kernel, by decide +kernel⟩
set_option maxRecDepth 100000 in
def pX12_isLetter : List xRow := [(0, 1, .iload_n 0, [], 0, 0),
  (1, 3, .bipush 97, [], 97, 0),
  (3, 6, .if_icmp .lt 13, [16], 0, 0),
  (6, 7, .iload_n 0, [], 0, 0),
  (7, 9, .bipush 122, [], 122, 0),
  (9, 12, .if_icmp .gt 7, [16], 0, 0),
  (12, 13, .iconst 1, [], 1, 0),
  (13, 16, .goto 4, [17], 0, 0),
  (16, 17, .iconst 0, [], 0, 0),
  (17, 18, .ireturn, [], 0, 0)]
def mX12_isLetter : xM := (176, 12, cX12_isLetter, 1, (some .boolean), pX12_isLetter)
set_option maxRecDepth 100000 in
theorem gX12_isLetter : xgd mX12_isLetter := ⟨by decide +kernel, xat_in (p := 7123) rfl, by decide +kernel, by decide +kernel, by decide, by decide +kernel, by decide +kernel⟩
set_option maxRecDepth 100000 in
def pX12_isDigit : List xRow := [(0, 1, .iload_n 0, [], 0, 0),
  (1, 3, .bipush 48, [], 48, 0),
  (3, 6, .if_icmp .lt 13, [16], 0, 0),
  (6, 7, .iload_n 0, [], 0, 0),
  (7, 9, .bipush 57, [], 57, 0),
  (9, 12, .if_icmp .gt 7, [16], 0, 0),
  (12, 13, .iconst 1, [], 1, 0),
  (13, 16, .goto 4, [17], 0, 0),
  (16, 17, .iconst 0, [], 0, 0),
  (17, 18, .ireturn, [], 0, 0)]
def mX12_isDigit : xM := (177, 12, cX12_isDigit, 1, (some .boolean), pX12_isDigit)
set_option maxRecDepth 100000 in
theorem gX12_isDigit : xgd mX12_isDigit := ⟨by decide +kernel, xat_in (p := 7126) rfl, by decide +kernel, by decide +kernel, by decide, by decide +kernel, by decide +kernel⟩
set_option maxRecDepth 100000 in
def pX12_goes : List xRow := [(0, 1, .aload_n 0, [], 0, 0),
  (1, 4, .getfield 130, [12, 16], 0, 0),
  (4, 5, .aload_n 0, [], 0, 0),
  (5, 8, .getfield 127, [12, 15], 0, 0),
  (8, 11, .if_icmp .ge 42, [50], 0, 0),
  (11, 12, .aload_n 0, [], 0, 0),
  (12, 13, .aload_n 0, [], 0, 0),
  (13, 16, .getfield 130, [12, 16], 0, 0),
  (16, 19, .invokevirtual 133, [0, 175], 0, 0),
  (19, 21, .bipush 32, [], 32, 0),
  (21, 24, .if_icmp .eq 16, [37], 0, 0),
  (24, 25, .aload_n 0, [], 0, 0),
  (25, 26, .aload_n 0, [], 0, 0),
  (26, 29, .getfield 130, [12, 16], 0, 0),
  (29, 32, .invokevirtual 133, [0, 175], 0, 0),
  (32, 34, .bipush 10, [], 10, 0),
  (34, 37, .if_icmp .ne 16, [50], 0, 0),
  (37, 38, .aload_n 0, [], 0, 0),
  (38, 39, .dup, [], 0, 0),
  (39, 42, .getfield 130, [12, 16], 0, 0),
  (42, 43, .iconst 1, [], 1, 0),
  (43, 44, .iadd, [], 0, 0),
  (44, 47, .putfield 130, [12, 16], 0, 0),
  (47, 50, .goto (-47), [0], 0, 0),
  (50, 51, .aload_n 0, [], 0, 0),
  (51, 52, .aload_n 0, [], 0, 0),
  (52, 55, .getfield 130, [12, 16], 0, 0),
  (55, 58, .putfield 137, [12, 18], 0, 0),
  (58, 59, .aload_n 0, [], 0, 0),
  (59, 60, .lconst 0, [], 0, 0),
  (60, 63, .putfield 140, [12, 22], 0, 0),
  (63, 64, .aload_n 0, [], 0, 0),
  (64, 65, .iconst 0, [], 0, 0),
  (65, 68, .putfield 144, [12, 20], 0, 0),
  (68, 69, .aload_n 0, [], 0, 0),
  (69, 70, .aload_n 0, [], 0, 0),
  (70, 73, .getfield 130, [12, 16], 0, 0),
  (73, 76, .invokevirtual 133, [0, 175], 0, 0),
  (76, 77, .istore_n 1, [], 0, 0),
  (77, 78, .aload_n 0, [], 0, 0),
  (78, 79, .iload_n 1, [], 0, 0),
  (79, 82, .putfield 147, [12, 21], 0, 0),
  (82, 83, .aload_n 0, [], 0, 0),
  (83, 86, .getfield 130, [12, 16], 0, 0),
  (86, 87, .aload_n 0, [], 0, 0),
  (87, 90, .getfield 127, [12, 15], 0, 0),
  (90, 93, .if_icmp .lt 11, [101], 0, 0),
  (93, 94, .aload_n 0, [], 0, 0),
  (94, 95, .iconst 0, [], 0, 0),
  (95, 98, .putfield 150, [12, 17], 0, 0),
  (98, 101, .goto 233, [331], 0, 0),
  (101, 102, .iload_n 1, [], 0, 0),
  (102, 105, .invokestatic 153, [1, 176], 0, 0),
  (105, 108, .ifCond .eq 75, [180], 0, 0),
  (108, 109, .aload_n 0, [], 0, 0),
  (109, 110, .aload_n 0, [], 0, 0),
  (110, 113, .getfield 130, [12, 16], 0, 0),
  (113, 116, .invokevirtual 133, [0, 175], 0, 0),
  (116, 119, .invokestatic 153, [1, 176], 0, 0),
  (119, 122, .ifCond .eq 53, [172], 0, 0),
  (122, 123, .aload_n 0, [], 0, 0),
  (123, 126, .getfield 130, [12, 16], 0, 0),
  (126, 127, .aload_n 0, [], 0, 0),
  (127, 130, .getfield 137, [12, 18], 0, 0),
  (130, 131, .isub, [], 0, 0),
  (131, 133, .bipush 6, [], 6, 0),
  (133, 136, .if_icmp .ge 26, [159], 0, 0),
  (136, 137, .aload_n 0, [], 0, 0),
  (137, 138, .aload_n 0, [], 0, 0),
  (138, 141, .getfield 140, [12, 22], 0, 0),
  (141, 142, .iconst 5, [], 5, 0),
  (142, 143, .lshl, [], 0, 0),
  (143, 144, .aload_n 0, [], 0, 0),
  (144, 145, .aload_n 0, [], 0, 0),
  (145, 148, .getfield 130, [12, 16], 0, 0),
  (148, 151, .invokevirtual 133, [0, 175], 0, 0),
  (151, 153, .bipush 96, [], 96, 0),
  (153, 154, .isub, [], 0, 0),
  (154, 155, .i2l, [], 0, 0),
  (155, 156, .lor, [], 0, 0),
  (156, 159, .putfield 140, [12, 22], 0, 0),
  (159, 160, .aload_n 0, [], 0, 0),
  (160, 161, .dup, [], 0, 0),
  (161, 164, .getfield 130, [12, 16], 0, 0),
  (164, 165, .iconst 1, [], 1, 0),
  (165, 166, .iadd, [], 0, 0),
  (166, 169, .putfield 130, [12, 16], 0, 0),
  (169, 172, .goto (-61), [108], 0, 0),
  (172, 173, .aload_n 0, [], 0, 0),
  (173, 174, .iconst 1, [], 1, 0),
  (174, 177, .putfield 150, [12, 17], 0, 0),
  (177, 180, .goto 154, [331], 0, 0),
  (180, 181, .iload_n 1, [], 0, 0),
  (181, 184, .invokestatic 157, [1, 177], 0, 0),
  (184, 187, .ifCond .eq 74, [258], 0, 0),
  (187, 188, .aload_n 0, [], 0, 0),
  (188, 189, .aload_n 0, [], 0, 0),
  (189, 192, .getfield 130, [12, 16], 0, 0),
  (192, 195, .invokevirtual 133, [0, 175], 0, 0),
  (195, 198, .invokestatic 157, [1, 177], 0, 0),
  (198, 201, .ifCond .eq 52, [250], 0, 0),
  (201, 202, .aload_n 0, [], 0, 0),
  (202, 205, .getfield 130, [12, 16], 0, 0),
  (205, 206, .aload_n 0, [], 0, 0),
  (206, 209, .getfield 137, [12, 18], 0, 0),
  (209, 210, .isub, [], 0, 0),
  (210, 211, .iconst 4, [], 4, 0),
  (211, 214, .if_icmp .ge 26, [237], 0, 0),
  (214, 215, .aload_n 0, [], 0, 0),
  (215, 217, .bipush 10, [], 10, 0),
  (217, 218, .aload_n 0, [], 0, 0),
  (218, 221, .getfield 144, [12, 20], 0, 0),
  (221, 222, .imul, [], 0, 0),
  (222, 223, .aload_n 0, [], 0, 0),
  (223, 224, .aload_n 0, [], 0, 0),
  (224, 227, .getfield 130, [12, 16], 0, 0),
  (227, 230, .invokevirtual 133, [0, 175], 0, 0),
  (230, 231, .iadd, [], 0, 0),
  (231, 233, .bipush 48, [], 48, 0),
  (233, 234, .isub, [], 0, 0),
  (234, 237, .putfield 144, [12, 20], 0, 0),
  (237, 238, .aload_n 0, [], 0, 0),
  (238, 239, .dup, [], 0, 0),
  (239, 242, .getfield 130, [12, 16], 0, 0),
  (242, 243, .iconst 1, [], 1, 0),
  (243, 244, .iadd, [], 0, 0),
  (244, 247, .putfield 130, [12, 16], 0, 0),
  (247, 250, .goto (-60), [187], 0, 0),
  (250, 251, .aload_n 0, [], 0, 0),
  (251, 252, .iconst 2, [], 2, 0),
  (252, 255, .putfield 150, [12, 17], 0, 0),
  (255, 258, .goto 76, [331], 0, 0),
  (258, 259, .aload_n 0, [], 0, 0),
  (259, 260, .dup, [], 0, 0),
  (260, 263, .getfield 130, [12, 16], 0, 0),
  (263, 264, .iconst 1, [], 1, 0),
  (264, 265, .iadd, [], 0, 0),
  (265, 268, .putfield 130, [12, 16], 0, 0),
  (268, 269, .aload_n 0, [], 0, 0),
  (269, 270, .iload_n 1, [], 0, 0),
  (270, 272, .bipush 59, [], 59, 0),
  (272, 275, .if_icmp .eq 51, [323], 0, 0),
  (275, 276, .iload_n 1, [], 0, 0),
  (276, 278, .bipush 40, [], 40, 0),
  (278, 281, .if_icmp .eq 45, [323], 0, 0),
  (281, 282, .iload_n 1, [], 0, 0),
  (282, 284, .bipush 41, [], 41, 0),
  (284, 287, .if_icmp .eq 39, [323], 0, 0),
  (287, 288, .iload_n 1, [], 0, 0),
  (288, 290, .bipush 43, [], 43, 0),
  (290, 293, .if_icmp .eq 33, [323], 0, 0),
  (293, 294, .iload_n 1, [], 0, 0),
  (294, 296, .bipush 45, [], 45, 0),
  (296, 299, .if_icmp .eq 27, [323], 0, 0),
  (299, 300, .iload_n 1, [], 0, 0),
  (300, 302, .bipush 42, [], 42, 0),
  (302, 305, .if_icmp .eq 21, [323], 0, 0),
  (305, 306, .iload_n 1, [], 0, 0),
  (306, 308, .bipush 47, [], 47, 0),
  (308, 311, .if_icmp .eq 15, [323], 0, 0),
  (311, 312, .iload_n 1, [], 0, 0),
  (312, 314, .bipush 60, [], 60, 0),
  (314, 317, .if_icmp .eq 9, [323], 0, 0),
  (317, 318, .iload_n 1, [], 0, 0),
  (318, 320, .bipush 61, [], 61, 0),
  (320, 323, .if_icmp .ne 7, [327], 0, 0),
  (323, 324, .iconst 3, [], 3, 0),
  (324, 327, .goto 4, [328], 0, 0),
  (327, 328, .iconst 4, [], 4, 0),
  (328, 331, .putfield 150, [12, 17], 0, 0),
  (331, 332, .aload_n 0, [], 0, 0),
  (332, 333, .aload_n 0, [], 0, 0),
  (333, 336, .getfield 130, [12, 16], 0, 0),
  (336, 337, .aload_n 0, [], 0, 0),
  (337, 340, .getfield 137, [12, 18], 0, 0),
  (340, 341, .isub, [], 0, 0),
  (341, 344, .putfield 160, [12, 19], 0, 0),
  (344, 345, .return_, [], 0, 0)]
def mX12_goes : xM := (178, 12, cX12_goes, 2, none, pX12_goes)
set_option maxRecDepth 100000 in
theorem gX12_goes : xgd mX12_goes := ⟨by decide +kernel, xat_in (p := 7116) rfl, by decide +kernel, by decide +kernel, by decide, by decide +kernel, by decide +kernel⟩
set_option maxRecDepth 100000 in
def pX12_spelled : List xRow := [(0, 1, .iload_n 0, [], 0, 0),
  (1, 2, .i2l, [], 0, 0),
  (2, 5, .ldc2_w 163, [], 0, 96),
  (5, 6, .lsub, [], 0, 0),
  (6, 7, .iconst 5, [], 5, 0),
  (7, 8, .lshl, [], 0, 0),
  (8, 9, .iload_n 1, [], 0, 0),
  (9, 11, .bipush 96, [], 96, 0),
  (11, 12, .isub, [], 0, 0),
  (12, 13, .i2l, [], 0, 0),
  (13, 14, .lor, [], 0, 0),
  (14, 16, .lstore 6, [], 0, 0),
  (16, 17, .iload_n 2, [], 0, 0),
  (17, 20, .ifCond .eq 15, [32], 0, 0),
  (20, 22, .lload 6, [], 0, 0),
  (22, 23, .iconst 5, [], 5, 0),
  (23, 24, .lshl, [], 0, 0),
  (24, 25, .iload_n 2, [], 0, 0),
  (25, 27, .bipush 96, [], 96, 0),
  (27, 28, .isub, [], 0, 0),
  (28, 29, .i2l, [], 0, 0),
  (29, 30, .lor, [], 0, 0),
  (30, 32, .lstore 6, [], 0, 0),
  (32, 33, .iload_n 3, [], 0, 0),
  (33, 36, .ifCond .eq 15, [48], 0, 0),
  (36, 38, .lload 6, [], 0, 0),
  (38, 39, .iconst 5, [], 5, 0),
  (39, 40, .lshl, [], 0, 0),
  (40, 41, .iload_n 3, [], 0, 0),
  (41, 43, .bipush 96, [], 96, 0),
  (43, 44, .isub, [], 0, 0),
  (44, 45, .i2l, [], 0, 0),
  (45, 46, .lor, [], 0, 0),
  (46, 48, .lstore 6, [], 0, 0),
  (48, 50, .iload 4, [], 0, 0),
  (50, 53, .ifCond .eq 16, [66], 0, 0),
  (53, 55, .lload 6, [], 0, 0),
  (55, 56, .iconst 5, [], 5, 0),
  (56, 57, .lshl, [], 0, 0),
  (57, 59, .iload 4, [], 0, 0),
  (59, 61, .bipush 96, [], 96, 0),
  (61, 62, .isub, [], 0, 0),
  (62, 63, .i2l, [], 0, 0),
  (63, 64, .lor, [], 0, 0),
  (64, 66, .lstore 6, [], 0, 0),
  (66, 68, .iload 5, [], 0, 0),
  (68, 71, .ifCond .eq 16, [84], 0, 0),
  (71, 73, .lload 6, [], 0, 0),
  (73, 74, .iconst 5, [], 5, 0),
  (74, 75, .lshl, [], 0, 0),
  (75, 77, .iload 5, [], 0, 0),
  (77, 79, .bipush 96, [], 96, 0),
  (79, 80, .isub, [], 0, 0),
  (80, 81, .i2l, [], 0, 0),
  (81, 82, .lor, [], 0, 0),
  (82, 84, .lstore 6, [], 0, 0),
  (84, 86, .lload 6, [], 0, 0),
  (86, 87, .lreturn, [], 0, 0)]
def mX12_spelled : xM := (179, 12, cX12_spelled, 8, (some .long), pX12_spelled)
set_option maxRecDepth 100000 in
theorem gX12_spelled : xgd mX12_spelled := ⟨by decide +kernel, xat_in (p := 7144) rfl, by decide +kernel, by decide +kernel, by decide, by decide +kernel, by decide +kernel⟩
set_option maxRecDepth 100000 in
def pX12_letters : List xRow := [(0, 1, .iload_n 0, [], 0, 0),
  (1, 80, .tableswitch 308 0 15 #[79, 95, 108, 123, 137, 152, 166, 182, 196, 210, 223, 239, 253, 268, 283, 296], [], 0, 0),
  (80, 82, .bipush 100, [], 100, 0),
  (82, 84, .bipush 101, [], 101, 0),
  (84, 86, .bipush 103, [], 103, 0),
  (86, 88, .bipush 114, [], 114, 0),
  (88, 90, .bipush 101, [], 101, 0),
  (90, 92, .bipush 101, [], 101, 0),
  (92, 95, .invokestatic 165, [1, 179], 0, 0),
  (95, 96, .lreturn, [], 0, 0),
  (96, 98, .bipush 102, [], 102, 0),
  (98, 100, .bipush 97, [], 97, 0),
  (100, 102, .bipush 114, [], 114, 0),
  (102, 103, .iconst 0, [], 0, 0),
  (103, 104, .iconst 0, [], 0, 0),
  (104, 105, .iconst 0, [], 0, 0),
  (105, 108, .invokestatic 165, [1, 179], 0, 0),
  (108, 109, .lreturn, [], 0, 0),
  (109, 111, .bipush 114, [], 114, 0),
  (111, 113, .bipush 101, [], 101, 0),
  (113, 115, .bipush 97, [], 97, 0),
  (115, 117, .bipush 99, [], 99, 0),
  (117, 119, .bipush 104, [], 104, 0),
  (119, 120, .iconst 0, [], 0, 0),
  (120, 123, .invokestatic 165, [1, 179], 0, 0),
  (123, 124, .lreturn, [], 0, 0),
  (124, 126, .bipush 114, [], 114, 0),
  (126, 128, .bipush 117, [], 117, 0),
  (128, 130, .bipush 115, [], 115, 0),
  (130, 132, .bipush 116, [], 116, 0),
  (132, 133, .iconst 0, [], 0, 0),
  (133, 134, .iconst 0, [], 0, 0),
  (134, 137, .invokestatic 165, [1, 179], 0, 0),
  (137, 138, .lreturn, [], 0, 0),
  (138, 140, .bipush 115, [], 115, 0),
  (140, 142, .bipush 107, [], 107, 0),
  (142, 144, .bipush 105, [], 105, 0),
  (144, 146, .bipush 108, [], 108, 0),
  (146, 148, .bipush 108, [], 108, 0),
  (148, 149, .iconst 0, [], 0, 0),
  (149, 152, .invokestatic 165, [1, 179], 0, 0),
  (152, 153, .lreturn, [], 0, 0),
  (153, 155, .bipush 104, [], 104, 0),
  (155, 157, .bipush 111, [], 111, 0),
  (157, 159, .bipush 117, [], 117, 0),
  (159, 161, .bipush 114, [], 114, 0),
  (161, 162, .iconst 0, [], 0, 0),
  (162, 163, .iconst 0, [], 0, 0),
  (163, 166, .invokestatic 165, [1, 179], 0, 0),
  (166, 167, .lreturn, [], 0, 0),
  (167, 169, .bipush 112, [], 112, 0),
  (169, 171, .bipush 111, [], 111, 0),
  (171, 173, .bipush 105, [], 105, 0),
  (173, 175, .bipush 110, [], 110, 0),
  (175, 177, .bipush 116, [], 116, 0),
  (177, 179, .bipush 115, [], 115, 0),
  (179, 182, .invokestatic 165, [1, 179], 0, 0),
  (182, 183, .lreturn, [], 0, 0),
  (183, 185, .bipush 102, [], 102, 0),
  (185, 187, .bipush 108, [], 108, 0),
  (187, 189, .bipush 97, [], 97, 0),
  (189, 191, .bipush 116, [], 116, 0),
  (191, 192, .iconst 0, [], 0, 0),
  (192, 193, .iconst 0, [], 0, 0),
  (193, 196, .invokestatic 165, [1, 179], 0, 0),
  (196, 197, .lreturn, [], 0, 0),
  (197, 199, .bipush 115, [], 115, 0),
  (199, 201, .bipush 97, [], 97, 0),
  (201, 203, .bipush 105, [], 105, 0),
  (203, 205, .bipush 100, [], 100, 0),
  (205, 206, .iconst 0, [], 0, 0),
  (206, 207, .iconst 0, [], 0, 0),
  (207, 210, .invokestatic 165, [1, 179], 0, 0),
  (210, 211, .lreturn, [], 0, 0),
  (211, 213, .bipush 111, [], 111, 0),
  (213, 215, .bipush 110, [], 110, 0),
  (215, 217, .bipush 101, [], 101, 0),
  (217, 218, .iconst 0, [], 0, 0),
  (218, 219, .iconst 0, [], 0, 0),
  (219, 220, .iconst 0, [], 0, 0),
  (220, 223, .invokestatic 165, [1, 179], 0, 0),
  (223, 224, .lreturn, [], 0, 0),
  (224, 226, .bipush 110, [], 110, 0),
  (226, 228, .bipush 101, [], 101, 0),
  (228, 230, .bipush 101, [], 101, 0),
  (230, 232, .bipush 100, [], 100, 0),
  (232, 234, .bipush 108, [], 108, 0),
  (234, 236, .bipush 101, [], 101, 0),
  (236, 239, .invokestatic 165, [1, 179], 0, 0),
  (239, 240, .lreturn, [], 0, 0),
  (240, 242, .bipush 115, [], 115, 0),
  (242, 244, .bipush 97, [], 97, 0),
  (244, 246, .bipush 121, [], 121, 0),
  (246, 248, .bipush 115, [], 115, 0),
  (248, 249, .iconst 0, [], 0, 0),
  (249, 250, .iconst 0, [], 0, 0),
  (250, 253, .invokestatic 165, [1, 179], 0, 0),
  (253, 254, .lreturn, [], 0, 0),
  (254, 256, .bipush 116, [], 116, 0),
  (256, 258, .bipush 117, [], 117, 0),
  (258, 260, .bipush 114, [], 114, 0),
  (260, 262, .bipush 110, [], 110, 0),
  (262, 264, .bipush 115, [], 115, 0),
  (264, 265, .iconst 0, [], 0, 0),
  (265, 268, .invokestatic 165, [1, 179], 0, 0),
  (268, 269, .lreturn, [], 0, 0),
  (269, 271, .bipush 99, [], 99, 0),
  (271, 273, .bipush 111, [], 111, 0),
  (273, 275, .bipush 117, [], 117, 0),
  (275, 277, .bipush 114, [], 114, 0),
  (277, 279, .bipush 116, [], 116, 0),
  (279, 280, .iconst 0, [], 0, 0),
  (280, 283, .invokestatic 165, [1, 179], 0, 0),
  (283, 284, .lreturn, [], 0, 0),
  (284, 286, .bipush 97, [], 97, 0),
  (286, 288, .bipush 110, [], 110, 0),
  (288, 290, .bipush 100, [], 100, 0),
  (290, 291, .iconst 0, [], 0, 0),
  (291, 292, .iconst 0, [], 0, 0),
  (292, 293, .iconst 0, [], 0, 0),
  (293, 296, .invokestatic 165, [1, 179], 0, 0),
  (296, 297, .lreturn, [], 0, 0),
  (297, 299, .bipush 111, [], 111, 0),
  (299, 301, .bipush 114, [], 114, 0),
  (301, 302, .iconst 0, [], 0, 0),
  (302, 303, .iconst 0, [], 0, 0),
  (303, 304, .iconst 0, [], 0, 0),
  (304, 305, .iconst 0, [], 0, 0),
  (305, 308, .invokestatic 165, [1, 179], 0, 0),
  (308, 309, .lreturn, [], 0, 0),
  (309, 311, .bipush 110, [], 110, 0),
  (311, 313, .bipush 111, [], 111, 0),
  (313, 315, .bipush 116, [], 116, 0),
  (315, 316, .iconst 0, [], 0, 0),
  (316, 317, .iconst 0, [], 0, 0),
  (317, 318, .iconst 0, [], 0, 0),
  (318, 321, .invokestatic 165, [1, 179], 0, 0),
  (321, 322, .lreturn, [], 0, 0)]
def mX12_letters : xM := (180, 12, cX12_letters, 1, (some .long), pX12_letters)
set_option maxRecDepth 100000 in
theorem gX12_letters : xgd mX12_letters := ⟨by decide +kernel, xat_in (p := 7141) rfl, by decide +kernel, by decide +kernel, by decide, by decide +kernel, by decide +kernel⟩
set_option maxRecDepth 100000 in
def pX12_knownWord : List xRow := [(0, 1, .aload_n 0, [], 0, 0),
  (1, 4, .getfield 150, [12, 17], 0, 0),
  (4, 5, .iconst 1, [], 1, 0),
  (5, 8, .if_icmp .ne 12, [17], 0, 0),
  (8, 9, .aload_n 0, [], 0, 0),
  (9, 12, .getfield 160, [12, 19], 0, 0),
  (12, 14, .bipush 6, [], 6, 0),
  (14, 17, .if_icmp .le 5, [19], 0, 0),
  (17, 18, .iconst (-1), [], -1, 0),
  (18, 19, .ireturn, [], 0, 0),
  (19, 20, .iconst 0, [], 0, 0),
  (20, 21, .istore_n 1, [], 0, 0),
  (21, 22, .iload_n 1, [], 0, 0),
  (22, 24, .bipush 17, [], 17, 0),
  (24, 27, .if_icmp .ge 23, [47], 0, 0),
  (27, 28, .iload_n 1, [], 0, 0),
  (28, 31, .invokestatic 169, [1, 180], 0, 0),
  (31, 32, .aload_n 0, [], 0, 0),
  (32, 35, .getfield 140, [12, 22], 0, 0),
  (35, 36, .lcmp, [], 0, 0),
  (36, 39, .ifCond .ne 5, [41], 0, 0),
  (39, 40, .iload_n 1, [], 0, 0),
  (40, 41, .ireturn, [], 0, 0),
  (41, 44, .iinc 1 1, [], 1, 0),
  (44, 47, .goto (-23), [21], 0, 0),
  (47, 48, .iconst (-1), [], -1, 0),
  (48, 49, .ireturn, [], 0, 0)]
def mX12_knownWord : xM := (181, 12, cX12_knownWord, 2, (some .int), pX12_knownWord)
set_option maxRecDepth 100000 in
theorem gX12_knownWord : xgd mX12_knownWord := ⟨by decide +kernel, xat_in (p := 7138) rfl, by decide +kernel, by decide +kernel, by decide, by decide +kernel, by decide +kernel⟩
set_option maxRecDepth 100000 in
def pX12_wrong : List xRow := [(0, 1, .aload_n 0, [], 0, 0),
  (1, 4, .getfield 173, [12, 12], 0, 0),
  (4, 7, .ifCond .eq 4, [8], 0, 0),
  (7, 8, .return_, [], 0, 0),
  (8, 9, .aload_n 0, [], 0, 0),
  (9, 10, .iload_n 1, [], 0, 0),
  (10, 13, .putfield 173, [12, 12], 0, 0),
  (13, 14, .aload_n 0, [], 0, 0),
  (14, 15, .aload_n 0, [], 0, 0),
  (15, 18, .getfield 137, [12, 18], 0, 0),
  (18, 21, .putfield 35, [12, 13], 0, 0),
  (21, 22, .return_, [], 0, 0)]
def mX12_wrong : xM := (182, 12, cX12_wrong, 2, none, pX12_wrong)
set_option maxRecDepth 100000 in
theorem gX12_wrong : xgd mX12_wrong := ⟨by decide +kernel, xat_in (p := 7153) rfl, by decide +kernel, by decide +kernel, by decide, by decide +kernel, by decide +kernel⟩
set_option maxRecDepth 100000 in
def pX12_isGood : List xRow := [(0, 1, .aload_n 0, [], 0, 0),
  (1, 4, .getfield 173, [12, 12], 0, 0),
  (4, 7, .ifCond .ne 7, [11], 0, 0),
  (7, 8, .iconst 1, [], 1, 0),
  (8, 11, .goto 4, [12], 0, 0),
  (11, 12, .iconst 0, [], 0, 0),
  (12, 13, .ireturn, [], 0, 0)]
def mX12_isGood : xM := (183, 12, cX12_isGood, 1, (some .boolean), pX12_isGood)
set_option maxRecDepth 100000 in
theorem gX12_isGood : xgd mX12_isGood := ⟨by decide +kernel, xat_in (p := 7130) rfl, by decide +kernel, by decide +kernel, by decide, by decide +kernel, by decide +kernel⟩
set_option maxRecDepth 100000 in
def pX12_isSign : List xRow := [(0, 1, .aload_n 0, [], 0, 0),
  (1, 4, .getfield 150, [12, 17], 0, 0),
  (4, 5, .iconst 3, [], 3, 0),
  (5, 8, .if_icmp .ne 15, [20], 0, 0),
  (8, 9, .aload_n 0, [], 0, 0),
  (9, 12, .getfield 147, [12, 21], 0, 0),
  (12, 13, .iload_n 1, [], 0, 0),
  (13, 16, .if_icmp .ne 7, [20], 0, 0),
  (16, 17, .iconst 1, [], 1, 0),
  (17, 20, .goto 4, [21], 0, 0),
  (20, 21, .iconst 0, [], 0, 0),
  (21, 22, .ireturn, [], 0, 0)]
def mX12_isSign : xM := (184, 12, cX12_isSign, 2, (some .boolean), pX12_isSign)
set_option maxRecDepth 100000 in
theorem gX12_isSign : xgd mX12_isSign := ⟨by decide +kernel, xat_in (p := 7181) rfl, by decide +kernel, by decide +kernel, by decide, by decide +kernel, by decide +kernel⟩
set_option maxRecDepth 100000 in
def pX12_need : List xRow := [(0, 1, .aload_n 0, [], 0, 0),
  (1, 4, .invokevirtual 176, [0, 183], 0, 0),
  (4, 7, .ifCond .ne 4, [8], 0, 0),
  (7, 8, .return_, [], 0, 0),
  (8, 9, .iload_n 1, [], 0, 0),
  (9, 12, .ifCond .eq 10, [19], 0, 0),
  (12, 13, .aload_n 0, [], 0, 0),
  (13, 16, .invokevirtual 180, [0, 178], 0, 0),
  (16, 19, .goto 8, [24], 0, 0),
  (19, 20, .aload_n 0, [], 0, 0),
  (20, 21, .iconst 1, [], 1, 0),
  (21, 24, .invokevirtual 183, [0, 182], 0, 0),
  (24, 25, .return_, [], 0, 0)]
def mX12_need : xM := (185, 12, cX12_need, 2, none, pX12_need)
set_option maxRecDepth 100000 in
theorem gX12_need : xgd mX12_need := ⟨by decide +kernel, xat_in (p := 7219) rfl, by decide +kernel, by decide +kernel, by decide, by decide +kernel, by decide +kernel⟩
set_option maxRecDepth 100000 in
def pX12_numberHere : List xRow := [(0, 1, .aload_n 0, [], 0, 0),
  (1, 4, .invokevirtual 176, [0, 183], 0, 0),
  (4, 7, .ifCond .ne 5, [9], 0, 0),
  (7, 8, .iconst 0, [], 0, 0),
  (8, 9, .ireturn, [], 0, 0),
  (9, 10, .aload_n 0, [], 0, 0),
  (10, 13, .getfield 150, [12, 17], 0, 0),
  (13, 14, .iconst 2, [], 2, 0),
  (14, 17, .if_icmp .eq 11, [25], 0, 0),
  (17, 18, .aload_n 0, [], 0, 0),
  (18, 19, .iconst 1, [], 1, 0),
  (19, 22, .invokevirtual 183, [0, 182], 0, 0),
  (22, 25, .goto 32, [54], 0, 0),
  (25, 26, .aload_n 0, [], 0, 0),
  (26, 29, .getfield 160, [12, 19], 0, 0),
  (29, 30, .iconst 4, [], 4, 0),
  (30, 33, .if_icmp .gt 19, [49], 0, 0),
  (33, 34, .aload_n 0, [], 0, 0),
  (34, 37, .getfield 144, [12, 20], 0, 0),
  (37, 38, .iload_n 1, [], 0, 0),
  (38, 41, .if_icmp .lt 11, [49], 0, 0),
  (41, 42, .aload_n 0, [], 0, 0),
  (42, 45, .getfield 144, [12, 20], 0, 0),
  (45, 46, .iload_n 2, [], 0, 0),
  (46, 49, .if_icmp .le 8, [54], 0, 0),
  (49, 50, .aload_n 0, [], 0, 0),
  (50, 51, .iconst 2, [], 2, 0),
  (51, 54, .invokevirtual 183, [0, 182], 0, 0),
  (54, 55, .aload_n 0, [], 0, 0),
  (55, 58, .invokevirtual 176, [0, 183], 0, 0),
  (58, 59, .ireturn, [], 0, 0)]
def mX12_numberHere : xM := (186, 12, cX12_numberHere, 3, (some .boolean), pX12_numberHere)
set_option maxRecDepth 100000 in
theorem gX12_numberHere : xgd mX12_numberHere := ⟨by decide +kernel, xat_in (p := 7161) rfl, by decide +kernel, by decide +kernel, by decide, by decide +kernel, by decide +kernel⟩
set_option maxRecDepth 100000 in
def pX12_number : List xRow := [(0, 1, .aload_n 0, [], 0, 0),
  (1, 2, .iload_n 1, [], 0, 0),
  (2, 3, .iload_n 2, [], 0, 0),
  (3, 6, .invokevirtual 186, [0, 186], 0, 0),
  (6, 9, .ifCond .eq 10, [16], 0, 0),
  (9, 10, .aload_n 0, [], 0, 0),
  (10, 13, .getfield 144, [12, 20], 0, 0),
  (13, 16, .goto 4, [17], 0, 0),
  (16, 17, .iconst 0, [], 0, 0),
  (17, 18, .istore_n 3, [], 0, 0),
  (18, 19, .aload_n 0, [], 0, 0),
  (19, 22, .invokevirtual 176, [0, 183], 0, 0),
  (22, 25, .ifCond .eq 7, [29], 0, 0),
  (25, 26, .aload_n 0, [], 0, 0),
  (26, 29, .invokevirtual 180, [0, 178], 0, 0),
  (29, 30, .iload_n 3, [], 0, 0),
  (30, 31, .ireturn, [], 0, 0)]
def mX12_number : xM := (187, 12, cX12_number, 4, (some .int), pX12_number)
set_option maxRecDepth 100000 in
theorem gX12_number : xgd mX12_number := ⟨by decide +kernel, xat_in (p := 7157) rfl, by decide +kernel, by decide +kernel, by decide, by decide +kernel, by decide +kernel⟩
set_option maxRecDepth 100000 in
def pX12_puts : List xRow := [(0, 1, .aload_n 0, [], 0, 0),
  (1, 4, .getfield 56, [12, 38], 0, 0),
  (4, 5, .aload_n 0, [], 0, 0),
  (5, 8, .getfield 190, [12, 28], 0, 0),
  (8, 9, .iload_n 1, [], 0, 0),
  (9, 10, .iastore, [], 0, 0),
  (10, 11, .aload_n 0, [], 0, 0),
  (11, 12, .dup, [], 0, 0),
  (12, 15, .getfield 190, [12, 28], 0, 0),
  (15, 16, .iconst 1, [], 1, 0),
  (16, 17, .iadd, [], 0, 0),
  (17, 20, .putfield 190, [12, 28], 0, 0),
  (20, 21, .return_, [], 0, 0)]
def mX12_puts : xM := (188, 12, cX12_puts, 2, none, pX12_puts)
set_option maxRecDepth 100000 in
theorem gX12_puts : xgd mX12_puts := ⟨by decide +kernel, xat_in (p := 7197) rfl, by decide +kernel, by decide +kernel, by decide, by decide +kernel, by decide +kernel⟩
set_option maxRecDepth 100000 in
def pX12_isOpen : List xRow := [(0, 1, .iload_n 0, [], 0, 0),
  (1, 3, .bipush 14, [], 14, 0),
  (3, 6, .if_icmp .lt 7, [10], 0, 0),
  (6, 7, .iconst 1, [], 1, 0),
  (7, 10, .goto 4, [11], 0, 0),
  (10, 11, .iconst 0, [], 0, 0),
  (11, 12, .ireturn, [], 0, 0)]
def mX12_isOpen : xM := (189, 12, cX12_isOpen, 1, (some .boolean), pX12_isOpen)
set_option maxRecDepth 100000 in
theorem gX12_isOpen : xgd mX12_isOpen := ⟨by decide +kernel, xat_in (p := 7204) rfl, by decide +kernel, by decide +kernel, by decide, by decide +kernel, by decide +kernel⟩
set_option maxRecDepth 100000 in
def pX12_strength : List xRow := [(0, 1, .iload_n 0, [], 0, 0),
  (1, 2, .iconst 5, [], 5, 0),
  (2, 5, .if_icmp .ne 7, [9], 0, 0),
  (5, 6, .iconst 1, [], 1, 0),
  (6, 9, .goto 55, [61], 0, 0),
  (9, 10, .iload_n 0, [], 0, 0),
  (10, 11, .iconst 4, [], 4, 0),
  (11, 14, .if_icmp .ne 7, [18], 0, 0),
  (14, 15, .iconst 2, [], 2, 0),
  (15, 18, .goto 46, [61], 0, 0),
  (18, 19, .iload_n 0, [], 0, 0),
  (19, 20, .iconst 3, [], 3, 0),
  (20, 23, .if_icmp .ne 7, [27], 0, 0),
  (23, 24, .iconst 3, [], 3, 0),
  (24, 27, .goto 37, [61], 0, 0),
  (27, 28, .iload_n 0, [], 0, 0),
  (28, 30, .bipush 6, [], 6, 0),
  (30, 33, .if_icmp .eq 9, [39], 0, 0),
  (33, 34, .iload_n 0, [], 0, 0),
  (34, 36, .bipush 7, [], 7, 0),
  (36, 39, .if_icmp .ne 7, [43], 0, 0),
  (39, 40, .iconst 4, [], 4, 0),
  (40, 43, .goto 21, [61], 0, 0),
  (43, 44, .iload_n 0, [], 0, 0),
  (44, 46, .bipush 8, [], 8, 0),
  (46, 49, .if_icmp .eq 9, [55], 0, 0),
  (49, 50, .iload_n 0, [], 0, 0),
  (50, 52, .bipush 9, [], 9, 0),
  (52, 55, .if_icmp .ne 7, [59], 0, 0),
  (55, 56, .iconst 5, [], 5, 0),
  (56, 59, .goto 5, [61], 0, 0),
  (59, 61, .bipush 6, [], 6, 0),
  (61, 62, .ireturn, [], 0, 0)]
def mX12_strength : xM := (190, 12, cX12_strength, 1, (some .int), pX12_strength)
set_option maxRecDepth 100000 in
theorem gX12_strength : xgd mX12_strength := ⟨by decide +kernel, xat_in (p := 7207) rfl, by decide +kernel, by decide +kernel, by decide, by decide +kernel, by decide +kernel⟩
set_option maxRecDepth 100000 in
def pX12_drops : List xRow := [(0, 1, .aload_n 0, [], 0, 0),
  (1, 4, .getfield 193, [12, 31], 0, 0),
  (4, 7, .ifCond .le 64, [68], 0, 0),
  (7, 8, .aload_n 0, [], 0, 0),
  (8, 11, .getfield 59, [12, 39], 0, 0),
  (11, 12, .aload_n 0, [], 0, 0),
  (12, 15, .getfield 193, [12, 31], 0, 0),
  (15, 16, .iconst 1, [], 1, 0),
  (16, 17, .isub, [], 0, 0),
  (17, 18, .iaload, [], 0, 0),
  (18, 21, .invokestatic 196, [1, 189], 0, 0),
  (21, 24, .ifCond .ne 47, [68], 0, 0),
  (24, 25, .aload_n 0, [], 0, 0),
  (25, 28, .getfield 59, [12, 39], 0, 0),
  (28, 29, .aload_n 0, [], 0, 0),
  (29, 32, .getfield 193, [12, 31], 0, 0),
  (32, 33, .iconst 1, [], 1, 0),
  (33, 34, .isub, [], 0, 0),
  (34, 35, .iaload, [], 0, 0),
  (35, 38, .invokestatic 199, [1, 190], 0, 0),
  (38, 39, .iload_n 1, [], 0, 0),
  (39, 42, .if_icmp .lt 29, [68], 0, 0),
  (42, 43, .aload_n 0, [], 0, 0),
  (43, 44, .dup, [], 0, 0),
  (44, 47, .getfield 193, [12, 31], 0, 0),
  (47, 48, .iconst 1, [], 1, 0),
  (48, 49, .isub, [], 0, 0),
  (49, 52, .putfield 193, [12, 31], 0, 0),
  (52, 53, .aload_n 0, [], 0, 0),
  (53, 54, .aload_n 0, [], 0, 0),
  (54, 57, .getfield 59, [12, 39], 0, 0),
  (57, 58, .aload_n 0, [], 0, 0),
  (58, 61, .getfield 193, [12, 31], 0, 0),
  (61, 62, .iaload, [], 0, 0),
  (62, 65, .invokevirtual 202, [0, 188], 0, 0),
  (65, 68, .goto (-65), [0], 0, 0),
  (68, 69, .return_, [], 0, 0)]
def mX12_drops : xM := (191, 12, cX12_drops, 2, none, pX12_drops)
set_option maxRecDepth 100000 in
theorem gX12_drops : xgd mX12_drops := ⟨by decide +kernel, xat_in (p := 7201) rfl, by decide +kernel, by decide +kernel, by decide, by decide +kernel, by decide +kernel⟩
set_option maxRecDepth 100000 in
def pX12_waitsFor : List xRow := [(0, 1, .aload_n 0, [], 0, 0),
  (1, 4, .getfield 59, [12, 39], 0, 0),
  (4, 5, .aload_n 0, [], 0, 0),
  (5, 8, .getfield 193, [12, 31], 0, 0),
  (8, 9, .iload_n 1, [], 0, 0),
  (9, 10, .iastore, [], 0, 0),
  (10, 11, .aload_n 0, [], 0, 0),
  (11, 12, .dup, [], 0, 0),
  (12, 15, .getfield 193, [12, 31], 0, 0),
  (15, 16, .iconst 1, [], 1, 0),
  (16, 17, .iadd, [], 0, 0),
  (17, 20, .putfield 193, [12, 31], 0, 0),
  (20, 21, .return_, [], 0, 0)]
def mX12_waitsFor : xM := (192, 12, cX12_waitsFor, 2, none, pX12_waitsFor)
set_option maxRecDepth 100000 in
theorem gX12_waitsFor : xgd mX12_waitsFor := ⟨by decide +kernel, xat_in (p := 7189) rfl, by decide +kernel, by decide +kernel, by decide, by decide +kernel, by decide +kernel⟩
set_option maxRecDepth 100000 in
def pX12_part : List xRow := [(0, 1, .aload_n 0, [], 0, 0),
  (1, 4, .invokevirtual 176, [0, 183], 0, 0),
  (4, 7, .ifCond .ne 4, [8], 0, 0),
  (7, 8, .return_, [], 0, 0),
  (8, 9, .aload_n 0, [], 0, 0),
  (9, 12, .getfield 150, [12, 17], 0, 0),
  (12, 13, .iconst 2, [], 2, 0),
  (13, 16, .if_icmp .ne 32, [45], 0, 0),
  (16, 17, .aload_n 0, [], 0, 0),
  (17, 20, .getfield 160, [12, 19], 0, 0),
  (20, 21, .iconst 4, [], 4, 0),
  (21, 24, .if_icmp .le 8, [29], 0, 0),
  (24, 25, .aload_n 0, [], 0, 0),
  (25, 26, .iconst 2, [], 2, 0),
  (26, 29, .invokevirtual 183, [0, 182], 0, 0),
  (29, 30, .aload_n 0, [], 0, 0),
  (30, 31, .iconst 1, [], 1, 0),
  (31, 34, .invokevirtual 202, [0, 188], 0, 0),
  (34, 35, .aload_n 0, [], 0, 0),
  (35, 36, .aload_n 0, [], 0, 0),
  (36, 39, .getfield 144, [12, 20], 0, 0),
  (39, 42, .invokevirtual 202, [0, 188], 0, 0),
  (42, 45, .goto 55, [97], 0, 0),
  (45, 46, .aload_n 0, [], 0, 0),
  (46, 49, .getfield 150, [12, 17], 0, 0),
  (49, 50, .iconst 1, [], 1, 0),
  (50, 53, .if_icmp .ne 42, [92], 0, 0),
  (53, 54, .aload_n 0, [], 0, 0),
  (54, 57, .invokevirtual 205, [0, 181], 0, 0),
  (57, 58, .istore_n 1, [], 0, 0),
  (58, 59, .iload_n 1, [], 0, 0),
  (59, 60, .aload_n 0, [], 0, 0),
  (60, 63, .getfield 209, [12, 29], 0, 0),
  (63, 66, .if_icmp .lt 11, [74], 0, 0),
  (66, 67, .iload_n 1, [], 0, 0),
  (67, 68, .aload_n 0, [], 0, 0),
  (68, 71, .getfield 212, [12, 30], 0, 0),
  (71, 74, .if_icmp .le 8, [79], 0, 0),
  (74, 75, .aload_n 0, [], 0, 0),
  (75, 76, .iconst 3, [], 3, 0),
  (76, 79, .invokevirtual 183, [0, 182], 0, 0),
  (79, 80, .aload_n 0, [], 0, 0),
  (80, 81, .iconst 2, [], 2, 0),
  (81, 84, .invokevirtual 202, [0, 188], 0, 0),
  (84, 85, .aload_n 0, [], 0, 0),
  (85, 86, .iload_n 1, [], 0, 0),
  (86, 89, .invokevirtual 202, [0, 188], 0, 0),
  (89, 92, .goto 8, [97], 0, 0),
  (92, 93, .aload_n 0, [], 0, 0),
  (93, 94, .iconst 1, [], 1, 0),
  (94, 97, .invokevirtual 183, [0, 182], 0, 0),
  (97, 98, .aload_n 0, [], 0, 0),
  (98, 101, .invokevirtual 176, [0, 183], 0, 0),
  (101, 104, .ifCond .eq 7, [108], 0, 0),
  (104, 105, .aload_n 0, [], 0, 0),
  (105, 108, .invokevirtual 180, [0, 178], 0, 0),
  (108, 109, .return_, [], 0, 0)]
def mX12_part : xM := (193, 12, cX12_part, 2, none, pX12_part)
set_option maxRecDepth 100000 in
theorem gX12_part : xgd mX12_part := ⟨by decide +kernel, xat_in (p := 7193) rfl, by decide +kernel, by decide +kernel, by decide, by decide +kernel, by decide +kernel⟩
set_option maxRecDepth 100000 in
def pX12_deeper : List xRow := [(0, 1, .aload_n 0, [], 0, 0),
  (1, 4, .getfield 215, [12, 32], 0, 0),
  (4, 6, .bipush 6, [], 6, 0),
  (6, 9, .if_icmp .ge 24, [30], 0, 0),
  (9, 10, .aload_n 0, [], 0, 0),
  (10, 11, .dup, [], 0, 0),
  (11, 14, .getfield 215, [12, 32], 0, 0),
  (14, 15, .iconst 1, [], 1, 0),
  (15, 16, .iadd, [], 0, 0),
  (16, 19, .putfield 215, [12, 32], 0, 0),
  (19, 20, .aload_n 0, [], 0, 0),
  (20, 23, .getfield 62, [12, 40], 0, 0),
  (23, 24, .aload_n 0, [], 0, 0),
  (24, 27, .getfield 215, [12, 32], 0, 0),
  (27, 28, .iconst 0, [], 0, 0),
  (28, 29, .bastore, [], 0, 0),
  (29, 30, .return_, [], 0, 0),
  (30, 31, .aload_n 0, [], 0, 0),
  (31, 32, .aload_n 0, [], 0, 0),
  (32, 35, .getfield 150, [12, 17], 0, 0),
  (35, 36, .iconst 2, [], 2, 0),
  (36, 39, .if_icmp .eq 20, [56], 0, 0),
  (39, 40, .aload_n 0, [], 0, 0),
  (40, 43, .getfield 150, [12, 17], 0, 0),
  (43, 44, .iconst 1, [], 1, 0),
  (44, 47, .if_icmp .eq 12, [56], 0, 0),
  (47, 48, .aload_n 0, [], 0, 0),
  (48, 50, .bipush 40, [], 40, 0),
  (50, 53, .invokevirtual 218, [0, 184], 0, 0),
  (53, 56, .ifCond .eq 7, [60], 0, 0),
  (56, 57, .iconst 2, [], 2, 0),
  (57, 60, .goto 4, [61], 0, 0),
  (60, 61, .iconst 1, [], 1, 0),
  (61, 64, .invokevirtual 183, [0, 182], 0, 0),
  (64, 65, .return_, [], 0, 0)]
def mX12_deeper : xM := (194, 12, cX12_deeper, 1, none, pX12_deeper)
set_option maxRecDepth 100000 in
theorem gX12_deeper : xgd mX12_deeper := ⟨by decide +kernel, xat_in (p := 7177) rfl, by decide +kernel, by decide +kernel, by decide, by decide +kernel, by decide +kernel⟩
set_option maxRecDepth 100000 in
def pX12_operand : List xRow := [(0, 1, .iload_n 1, [], 0, 0),
  (1, 2, .istore_n 2, [], 0, 0),
  (2, 3, .iconst 1, [], 1, 0),
  (3, 4, .istore_n 3, [], 0, 0),
  (4, 5, .iload_n 3, [], 0, 0),
  (5, 8, .ifCond .eq 115, [120], 0, 0),
  (8, 9, .aload_n 0, [], 0, 0),
  (9, 12, .invokevirtual 176, [0, 183], 0, 0),
  (12, 15, .ifCond .eq 108, [120], 0, 0),
  (15, 16, .iconst 0, [], 0, 0),
  (16, 18, .istore 4, [], 0, 0),
  (18, 19, .aload_n 0, [], 0, 0),
  (19, 22, .invokevirtual 176, [0, 183], 0, 0),
  (22, 25, .ifCond .eq 53, [75], 0, 0),
  (25, 26, .iload_n 2, [], 0, 0),
  (26, 29, .ifCond .eq 49, [75], 0, 0),
  (29, 30, .aload_n 0, [], 0, 0),
  (30, 33, .invokevirtual 205, [0, 181], 0, 0),
  (33, 35, .bipush 16, [], 16, 0),
  (35, 38, .if_icmp .ne 40, [75], 0, 0),
  (38, 40, .iload 4, [], 0, 0),
  (40, 42, .bipush 6, [], 6, 0),
  (42, 45, .if_icmp .ne 8, [50], 0, 0),
  (45, 46, .aload_n 0, [], 0, 0),
  (46, 47, .iconst 2, [], 2, 0),
  (47, 50, .invokevirtual 183, [0, 182], 0, 0),
  (50, 53, .iinc 4 1, [], 1, 0),
  (53, 54, .aload_n 0, [], 0, 0),
  (54, 57, .invokevirtual 176, [0, 183], 0, 0),
  (57, 60, .ifCond .ne 6, [63], 0, 0),
  (60, 63, .goto (-42), [18], 0, 0),
  (63, 64, .aload_n 0, [], 0, 0),
  (64, 65, .iconst 3, [], 3, 0),
  (65, 68, .invokevirtual 221, [0, 192], 0, 0),
  (68, 69, .aload_n 0, [], 0, 0),
  (69, 72, .invokevirtual 180, [0, 178], 0, 0),
  (72, 75, .goto (-54), [18], 0, 0),
  (75, 76, .aload_n 0, [], 0, 0),
  (76, 79, .invokevirtual 176, [0, 183], 0, 0),
  (79, 82, .ifCond .eq 16, [95], 0, 0),
  (82, 83, .aload_n 0, [], 0, 0),
  (83, 85, .bipush 40, [], 40, 0),
  (85, 88, .invokevirtual 218, [0, 184], 0, 0),
  (88, 91, .ifCond .eq 7, [95], 0, 0),
  (91, 92, .iconst 1, [], 1, 0),
  (92, 95, .goto 4, [96], 0, 0),
  (95, 96, .iconst 0, [], 0, 0),
  (96, 97, .istore_n 3, [], 0, 0),
  (97, 98, .iload_n 3, [], 0, 0),
  (98, 101, .ifCond .eq 19, [117], 0, 0),
  (101, 102, .aload_n 0, [], 0, 0),
  (102, 104, .bipush 14, [], 14, 0),
  (104, 107, .invokevirtual 221, [0, 192], 0, 0),
  (107, 108, .aload_n 0, [], 0, 0),
  (108, 111, .invokevirtual 180, [0, 178], 0, 0),
  (111, 112, .aload_n 0, [], 0, 0),
  (112, 115, .invokevirtual 224, [0, 194], 0, 0),
  (115, 116, .iconst 1, [], 1, 0),
  (116, 117, .istore_n 2, [], 0, 0),
  (117, 120, .goto (-113), [4], 0, 0),
  (120, 121, .aload_n 0, [], 0, 0),
  (121, 124, .invokevirtual 227, [0, 193], 0, 0),
  (124, 125, .return_, [], 0, 0)]
def mX12_operand : xM := (195, 12, cX12_operand, 5, none, pX12_operand)
set_option maxRecDepth 100000 in
theorem gX12_operand : xgd mX12_operand := ⟨by decide +kernel, xat_in (p := 7185) rfl, by decide +kernel, by decide +kernel, by decide, by decide +kernel, by decide +kernel⟩
set_option maxRecDepth 100000 in
def pX12_isOpened : List xRow := [(0, 1, .aload_n 0, [], 0, 0),
  (1, 4, .getfield 193, [12, 31], 0, 0),
  (4, 5, .iconst 1, [], 1, 0),
  (5, 6, .isub, [], 0, 0),
  (6, 7, .istore_n 1, [], 0, 0),
  (7, 8, .iload_n 1, [], 0, 0),
  (8, 11, .ifCond .lt 21, [29], 0, 0),
  (11, 12, .aload_n 0, [], 0, 0),
  (12, 15, .getfield 59, [12, 39], 0, 0),
  (15, 16, .iload_n 1, [], 0, 0),
  (16, 17, .iaload, [], 0, 0),
  (17, 20, .invokestatic 196, [1, 189], 0, 0),
  (20, 23, .ifCond .ne 9, [29], 0, 0),
  (23, 26, .iinc 1 (-1), [], -1, 0),
  (26, 29, .goto (-19), [7], 0, 0),
  (29, 30, .iload_n 1, [], 0, 0),
  (30, 33, .ifCond .lt 7, [37], 0, 0),
  (33, 34, .iconst 1, [], 1, 0),
  (34, 37, .goto 4, [38], 0, 0),
  (37, 38, .iconst 0, [], 0, 0),
  (38, 39, .ireturn, [], 0, 0)]
def mX12_isOpened : xM := (196, 12, cX12_isOpened, 2, (some .boolean), pX12_isOpened)
set_option maxRecDepth 100000 in
theorem gX12_isOpened : xgd mX12_isOpened := ⟨by decide +kernel, xat_in (p := 7211) rfl, by decide +kernel, by decide +kernel, by decide, by decide +kernel, by decide +kernel⟩
set_option maxRecDepth 100000 in
def pX12_closes : List xRow := [(0, 1, .aload_n 0, [], 0, 0),
  (1, 2, .iconst 0, [], 0, 0),
  (2, 5, .invokevirtual 230, [0, 191], 0, 0),
  (5, 6, .aload_n 0, [], 0, 0),
  (6, 7, .dup, [], 0, 0),
  (7, 10, .getfield 193, [12, 31], 0, 0),
  (10, 11, .iconst 1, [], 1, 0),
  (11, 12, .isub, [], 0, 0),
  (12, 15, .putfield 193, [12, 31], 0, 0),
  (15, 16, .aload_n 0, [], 0, 0),
  (16, 17, .dup, [], 0, 0),
  (17, 20, .getfield 215, [12, 32], 0, 0),
  (20, 21, .iconst 1, [], 1, 0),
  (21, 22, .isub, [], 0, 0),
  (22, 25, .putfield 215, [12, 32], 0, 0),
  (25, 26, .aload_n 0, [], 0, 0),
  (26, 29, .invokevirtual 180, [0, 178], 0, 0),
  (29, 30, .return_, [], 0, 0)]
def mX12_closes : xM := (197, 12, cX12_closes, 1, none, pX12_closes)
set_option maxRecDepth 100000 in
theorem gX12_closes : xgd mX12_closes := ⟨by decide +kernel, xat_in (p := 7215) rfl, by decide +kernel, by decide +kernel, by decide, by decide +kernel, by decide +kernel⟩
set_option maxRecDepth 100000 in
def pX12_expression : List xRow := [(0, 1, .aload_n 0, [], 0, 0),
  (1, 4, .invokevirtual 176, [0, 183], 0, 0),
  (4, 7, .ifCond .ne 4, [8], 0, 0),
  (7, 8, .return_, [], 0, 0),
  (8, 9, .aload_n 0, [], 0, 0),
  (9, 10, .iload_n 1, [], 0, 0),
  (10, 13, .putfield 209, [12, 29], 0, 0),
  (13, 14, .aload_n 0, [], 0, 0),
  (14, 15, .iload_n 2, [], 0, 0),
  (15, 18, .putfield 212, [12, 30], 0, 0),
  (18, 19, .aload_n 0, [], 0, 0),
  (19, 20, .iconst 0, [], 0, 0),
  (20, 23, .putfield 193, [12, 31], 0, 0),
  (23, 24, .aload_n 0, [], 0, 0),
  (24, 25, .iconst 0, [], 0, 0),
  (25, 28, .putfield 215, [12, 32], 0, 0),
  (28, 29, .aload_n 0, [], 0, 0),
  (29, 32, .invokevirtual 224, [0, 194], 0, 0),
  (32, 33, .aload_n 0, [], 0, 0),
  (33, 34, .iconst 1, [], 1, 0),
  (34, 37, .invokevirtual 233, [0, 195], 0, 0),
  (37, 38, .iconst 1, [], 1, 0),
  (38, 39, .istore_n 3, [], 0, 0),
  (39, 40, .iload_n 3, [], 0, 0),
  (40, 43, .ifCond .eq 300, [340], 0, 0),
  (43, 44, .aload_n 0, [], 0, 0),
  (44, 47, .invokevirtual 176, [0, 183], 0, 0),
  (47, 50, .ifCond .eq 293, [340], 0, 0),
  (50, 51, .aload_n 0, [], 0, 0),
  (51, 54, .invokevirtual 205, [0, 181], 0, 0),
  (54, 56, .istore 4, [], 0, 0),
  (56, 58, .iload 4, [], 0, 0),
  (58, 60, .bipush 14, [], 14, 0),
  (60, 63, .if_icmp .eq 10, [70], 0, 0),
  (63, 65, .iload 4, [], 0, 0),
  (65, 67, .bipush 15, [], 15, 0),
  (67, 70, .if_icmp .ne 57, [124], 0, 0),
  (70, 71, .aload_n 0, [], 0, 0),
  (71, 73, .iload 4, [], 0, 0),
  (73, 75, .bipush 14, [], 14, 0),
  (75, 78, .if_icmp .ne 7, [82], 0, 0),
  (78, 79, .iconst 2, [], 2, 0),
  (79, 82, .goto 4, [83], 0, 0),
  (82, 83, .iconst 1, [], 1, 0),
  (83, 86, .invokevirtual 230, [0, 191], 0, 0),
  (86, 87, .aload_n 0, [], 0, 0),
  (87, 89, .iload 4, [], 0, 0),
  (89, 91, .bipush 14, [], 14, 0),
  (91, 94, .if_icmp .ne 7, [98], 0, 0),
  (94, 95, .iconst 4, [], 4, 0),
  (95, 98, .goto 4, [99], 0, 0),
  (98, 99, .iconst 5, [], 5, 0),
  (99, 102, .invokevirtual 221, [0, 192], 0, 0),
  (102, 103, .aload_n 0, [], 0, 0),
  (103, 106, .getfield 62, [12, 40], 0, 0),
  (106, 107, .aload_n 0, [], 0, 0),
  (107, 110, .getfield 215, [12, 32], 0, 0),
  (110, 111, .iconst 0, [], 0, 0),
  (111, 112, .bastore, [], 0, 0),
  (112, 113, .aload_n 0, [], 0, 0),
  (113, 116, .invokevirtual 180, [0, 178], 0, 0),
  (116, 117, .aload_n 0, [], 0, 0),
  (117, 118, .iconst 1, [], 1, 0),
  (118, 121, .invokevirtual 233, [0, 195], 0, 0),
  (121, 124, .goto 216, [337], 0, 0),
  (124, 125, .aload_n 0, [], 0, 0),
  (125, 127, .bipush 60, [], 60, 0),
  (127, 130, .invokevirtual 218, [0, 184], 0, 0),
  (130, 133, .ifCond .ne 12, [142], 0, 0),
  (133, 134, .aload_n 0, [], 0, 0),
  (134, 136, .bipush 61, [], 61, 0),
  (136, 139, .invokevirtual 218, [0, 184], 0, 0),
  (139, 142, .ifCond .eq 62, [201], 0, 0),
  (142, 143, .aload_n 0, [], 0, 0),
  (143, 146, .getfield 62, [12, 40], 0, 0),
  (146, 147, .aload_n 0, [], 0, 0),
  (147, 150, .getfield 215, [12, 32], 0, 0),
  (150, 151, .baload, [], 0, 0),
  (151, 154, .ifCond .ne 50, [201], 0, 0),
  (154, 155, .aload_n 0, [], 0, 0),
  (155, 156, .iconst 4, [], 4, 0),
  (156, 159, .invokevirtual 230, [0, 191], 0, 0),
  (159, 160, .aload_n 0, [], 0, 0),
  (160, 161, .aload_n 0, [], 0, 0),
  (161, 163, .bipush 60, [], 60, 0),
  (163, 166, .invokevirtual 218, [0, 184], 0, 0),
  (166, 169, .ifCond .eq 8, [174], 0, 0),
  (169, 171, .bipush 6, [], 6, 0),
  (171, 174, .goto 5, [176], 0, 0),
  (174, 176, .bipush 7, [], 7, 0),
  (176, 179, .invokevirtual 221, [0, 192], 0, 0),
  (179, 180, .aload_n 0, [], 0, 0),
  (180, 183, .getfield 62, [12, 40], 0, 0),
  (183, 184, .aload_n 0, [], 0, 0),
  (184, 187, .getfield 215, [12, 32], 0, 0),
  (187, 188, .iconst 1, [], 1, 0),
  (188, 189, .bastore, [], 0, 0),
  (189, 190, .aload_n 0, [], 0, 0),
  (190, 193, .invokevirtual 180, [0, 178], 0, 0),
  (193, 194, .aload_n 0, [], 0, 0),
  (194, 195, .iconst 0, [], 0, 0),
  (195, 198, .invokevirtual 233, [0, 195], 0, 0),
  (198, 201, .goto 139, [337], 0, 0),
  (201, 202, .aload_n 0, [], 0, 0),
  (202, 204, .bipush 43, [], 43, 0),
  (204, 207, .invokevirtual 218, [0, 184], 0, 0),
  (207, 210, .ifCond .ne 12, [219], 0, 0),
  (210, 211, .aload_n 0, [], 0, 0),
  (211, 213, .bipush 45, [], 45, 0),
  (213, 216, .invokevirtual 218, [0, 184], 0, 0),
  (216, 219, .ifCond .eq 40, [256], 0, 0),
  (219, 220, .aload_n 0, [], 0, 0),
  (220, 221, .iconst 5, [], 5, 0),
  (221, 224, .invokevirtual 230, [0, 191], 0, 0),
  (224, 225, .aload_n 0, [], 0, 0),
  (225, 226, .aload_n 0, [], 0, 0),
  (226, 228, .bipush 43, [], 43, 0),
  (228, 231, .invokevirtual 218, [0, 184], 0, 0),
  (231, 234, .ifCond .eq 8, [239], 0, 0),
  (234, 236, .bipush 8, [], 8, 0),
  (236, 239, .goto 5, [241], 0, 0),
  (239, 241, .bipush 9, [], 9, 0),
  (241, 244, .invokevirtual 221, [0, 192], 0, 0),
  (244, 245, .aload_n 0, [], 0, 0),
  (245, 248, .invokevirtual 180, [0, 178], 0, 0),
  (248, 249, .aload_n 0, [], 0, 0),
  (249, 250, .iconst 0, [], 0, 0),
  (250, 253, .invokevirtual 233, [0, 195], 0, 0),
  (253, 256, .goto 84, [337], 0, 0),
  (256, 257, .aload_n 0, [], 0, 0),
  (257, 259, .bipush 42, [], 42, 0),
  (259, 262, .invokevirtual 218, [0, 184], 0, 0),
  (262, 265, .ifCond .ne 12, [274], 0, 0),
  (265, 266, .aload_n 0, [], 0, 0),
  (266, 268, .bipush 47, [], 47, 0),
  (268, 271, .invokevirtual 218, [0, 184], 0, 0),
  (271, 274, .ifCond .eq 41, [312], 0, 0),
  (274, 275, .aload_n 0, [], 0, 0),
  (275, 277, .bipush 6, [], 6, 0),
  (277, 280, .invokevirtual 230, [0, 191], 0, 0),
  (280, 281, .aload_n 0, [], 0, 0),
  (281, 282, .aload_n 0, [], 0, 0),
  (282, 284, .bipush 42, [], 42, 0),
  (284, 287, .invokevirtual 218, [0, 184], 0, 0),
  (287, 290, .ifCond .eq 8, [295], 0, 0),
  (290, 292, .bipush 10, [], 10, 0),
  (292, 295, .goto 5, [297], 0, 0),
  (295, 297, .bipush 11, [], 11, 0),
  (297, 300, .invokevirtual 221, [0, 192], 0, 0),
  (300, 301, .aload_n 0, [], 0, 0),
  (301, 304, .invokevirtual 180, [0, 178], 0, 0),
  (304, 305, .aload_n 0, [], 0, 0),
  (305, 306, .iconst 0, [], 0, 0),
  (306, 309, .invokevirtual 233, [0, 195], 0, 0),
  (309, 312, .goto 28, [337], 0, 0),
  (312, 313, .aload_n 0, [], 0, 0),
  (313, 315, .bipush 41, [], 41, 0),
  (315, 318, .invokevirtual 218, [0, 184], 0, 0),
  (318, 321, .ifCond .eq 17, [335], 0, 0),
  (321, 322, .aload_n 0, [], 0, 0),
  (322, 325, .invokevirtual 237, [0, 196], 0, 0),
  (325, 328, .ifCond .eq 10, [335], 0, 0),
  (328, 329, .aload_n 0, [], 0, 0),
  (329, 332, .invokevirtual 240, [0, 197], 0, 0),
  (332, 335, .goto 5, [337], 0, 0),
  (335, 336, .iconst 0, [], 0, 0),
  (336, 337, .istore_n 3, [], 0, 0),
  (337, 340, .goto (-298), [39], 0, 0),
  (340, 341, .aload_n 0, [], 0, 0),
  (341, 344, .invokevirtual 176, [0, 183], 0, 0),
  (344, 347, .ifCond .eq 16, [360], 0, 0),
  (347, 348, .aload_n 0, [], 0, 0),
  (348, 351, .getfield 215, [12, 32], 0, 0),
  (351, 352, .iconst 1, [], 1, 0),
  (352, 355, .if_icmp .le 8, [360], 0, 0),
  (355, 356, .aload_n 0, [], 0, 0),
  (356, 357, .iconst 1, [], 1, 0),
  (357, 360, .invokevirtual 183, [0, 182], 0, 0),
  (360, 361, .aload_n 0, [], 0, 0),
  (361, 362, .iconst 0, [], 0, 0),
  (362, 365, .invokevirtual 230, [0, 191], 0, 0),
  (365, 366, .aload_n 0, [], 0, 0),
  (366, 367, .iconst 0, [], 0, 0),
  (367, 370, .invokevirtual 202, [0, 188], 0, 0),
  (370, 371, .return_, [], 0, 0)]
def mX12_expression : xM := (198, 12, cX12_expression, 5, none, pX12_expression)
set_option maxRecDepth 100000 in
theorem gX12_expression : xgd mX12_expression := ⟨by decide +kernel, xat_in (p := 7173) rfl, by decide +kernel, by decide +kernel, by decide, by decide +kernel, by decide +kernel⟩
set_option maxRecDepth 100000 in
def pX12_readsOne : List xRow := [(0, 1, .aload_n 0, [], 0, 0),
  (1, 4, .getfield 243, [12, 23], 0, 0),
  (4, 6, .bipush 10, [], 10, 0),
  (6, 9, .if_icmp .ne 8, [14], 0, 0),
  (9, 10, .aload_n 0, [], 0, 0),
  (10, 11, .iconst 2, [], 2, 0),
  (11, 14, .invokevirtual 183, [0, 182], 0, 0),
  (14, 15, .aload_n 0, [], 0, 0),
  (15, 18, .invokevirtual 176, [0, 183], 0, 0),
  (18, 21, .ifCond .ne 4, [22], 0, 0),
  (21, 22, .return_, [], 0, 0),
  (22, 23, .aload_n 0, [], 0, 0),
  (23, 26, .invokevirtual 180, [0, 178], 0, 0),
  (26, 27, .aload_n 0, [], 0, 0),
  (27, 30, .getfield 243, [12, 23], 0, 0),
  (30, 31, .istore_n 1, [], 0, 0),
  (31, 32, .aload_n 0, [], 0, 0),
  (32, 35, .getfield 41, [12, 33], 0, 0),
  (35, 36, .iload_n 1, [], 0, 0),
  (36, 37, .aload_n 0, [], 0, 0),
  (37, 38, .iconst 0, [], 0, 0),
  (38, 40, .bipush 40, [], 40, 0),
  (40, 43, .invokevirtual 246, [0, 187], 0, 0),
  (43, 44, .iastore, [], 0, 0),
  (44, 45, .aload_n 0, [], 0, 0),
  (45, 46, .iconst 0, [], 0, 0),
  (46, 48, .bipush 40, [], 40, 0),
  (48, 51, .invokevirtual 186, [0, 186], 0, 0),
  (51, 54, .ifCond .ne 4, [55], 0, 0),
  (54, 55, .return_, [], 0, 0),
  (55, 56, .iconst 0, [], 0, 0),
  (56, 57, .istore_n 2, [], 0, 0),
  (57, 58, .iload_n 2, [], 0, 0),
  (58, 59, .iload_n 1, [], 0, 0),
  (59, 62, .if_icmp .ge 49, [108], 0, 0),
  (62, 63, .aload_n 0, [], 0, 0),
  (63, 66, .invokevirtual 176, [0, 183], 0, 0),
  (66, 69, .ifCond .eq 42, [108], 0, 0),
  (69, 70, .aload_n 0, [], 0, 0),
  (70, 73, .getfield 41, [12, 33], 0, 0),
  (73, 74, .iload_n 2, [], 0, 0),
  (74, 75, .iaload, [], 0, 0),
  (75, 76, .aload_n 0, [], 0, 0),
  (76, 79, .getfield 41, [12, 33], 0, 0),
  (79, 80, .iload_n 1, [], 0, 0),
  (80, 81, .iaload, [], 0, 0),
  (81, 84, .if_icmp .ne 21, [102], 0, 0),
  (84, 85, .aload_n 0, [], 0, 0),
  (85, 88, .getfield 44, [12, 34], 0, 0),
  (88, 89, .iload_n 2, [], 0, 0),
  (89, 90, .iaload, [], 0, 0),
  (90, 91, .aload_n 0, [], 0, 0),
  (91, 94, .getfield 144, [12, 20], 0, 0),
  (94, 97, .if_icmp .ne 8, [102], 0, 0),
  (97, 98, .aload_n 0, [], 0, 0),
  (98, 99, .iconst 4, [], 4, 0),
  (99, 102, .invokevirtual 183, [0, 182], 0, 0),
  (102, 105, .iinc 2 1, [], 1, 0),
  (105, 108, .goto (-48), [57], 0, 0),
  (108, 109, .aload_n 0, [], 0, 0),
  (109, 112, .invokevirtual 176, [0, 183], 0, 0),
  (112, 115, .ifCond .ne 4, [116], 0, 0),
  (115, 116, .return_, [], 0, 0),
  (116, 117, .aload_n 0, [], 0, 0),
  (117, 120, .getfield 44, [12, 34], 0, 0),
  (120, 121, .iload_n 1, [], 0, 0),
  (121, 122, .aload_n 0, [], 0, 0),
  (122, 125, .getfield 144, [12, 20], 0, 0),
  (125, 126, .iastore, [], 0, 0),
  (126, 127, .aload_n 0, [], 0, 0),
  (127, 130, .invokevirtual 180, [0, 178], 0, 0),
  (130, 131, .aload_n 0, [], 0, 0),
  (131, 134, .getfield 47, [12, 35], 0, 0),
  (134, 135, .iload_n 1, [], 0, 0),
  (135, 136, .aload_n 0, [], 0, 0),
  (136, 137, .iconst 0, [], 0, 0),
  (137, 139, .bipush 9, [], 9, 0),
  (139, 142, .invokevirtual 246, [0, 187], 0, 0),
  (142, 143, .iastore, [], 0, 0),
  (143, 144, .aload_n 0, [], 0, 0),
  (144, 147, .invokevirtual 176, [0, 183], 0, 0),
  (147, 150, .ifCond .eq 13, [160], 0, 0),
  (150, 151, .aload_n 0, [], 0, 0),
  (151, 152, .dup, [], 0, 0),
  (152, 155, .getfield 243, [12, 23], 0, 0),
  (155, 156, .iconst 1, [], 1, 0),
  (156, 157, .iadd, [], 0, 0),
  (157, 160, .putfield 243, [12, 23], 0, 0),
  (160, 161, .return_, [], 0, 0)]
def mX12_readsOne : xM := (199, 12, cX12_readsOne, 3, none, pX12_readsOne)
set_option maxRecDepth 100000 in
theorem gX12_readsOne : xgd mX12_readsOne := ⟨by decide +kernel, xat_in (p := 7149) rfl, by decide +kernel, by decide +kernel, by decide, by decide +kernel, by decide +kernel⟩
set_option maxRecDepth 100000 in
def pX12_readsNeedle : List xRow := [(0, 1, .aload_n 0, [], 0, 0),
  (1, 4, .getfield 250, [12, 24], 0, 0),
  (4, 6, .bipush 6, [], 6, 0),
  (6, 9, .if_icmp .ne 8, [14], 0, 0),
  (9, 10, .aload_n 0, [], 0, 0),
  (10, 11, .iconst 2, [], 2, 0),
  (11, 14, .invokevirtual 183, [0, 182], 0, 0),
  (14, 15, .aload_n 0, [], 0, 0),
  (15, 18, .invokevirtual 176, [0, 183], 0, 0),
  (18, 21, .ifCond .ne 4, [22], 0, 0),
  (21, 22, .return_, [], 0, 0),
  (22, 23, .aload_n 0, [], 0, 0),
  (23, 26, .invokevirtual 180, [0, 178], 0, 0),
  (26, 27, .aload_n 0, [], 0, 0),
  (27, 30, .getfield 250, [12, 24], 0, 0),
  (30, 31, .istore_n 1, [], 0, 0),
  (31, 32, .aload_n 0, [], 0, 0),
  (32, 35, .getfield 53, [12, 37], 0, 0),
  (35, 37, .bipush 49, [], 49, 0),
  (37, 38, .iload_n 1, [], 0, 0),
  (38, 39, .iadd, [], 0, 0),
  (39, 40, .aload_n 0, [], 0, 0),
  (40, 41, .iconst 0, [], 0, 0),
  (41, 43, .bipush 40, [], 40, 0),
  (43, 46, .invokevirtual 246, [0, 187], 0, 0),
  (46, 47, .iastore, [], 0, 0),
  (47, 48, .aload_n 0, [], 0, 0),
  (48, 49, .iconst 0, [], 0, 0),
  (49, 51, .bipush 40, [], 40, 0),
  (51, 54, .invokevirtual 186, [0, 186], 0, 0),
  (54, 57, .ifCond .ne 4, [58], 0, 0),
  (57, 58, .return_, [], 0, 0),
  (58, 59, .iconst 0, [], 0, 0),
  (59, 60, .istore_n 2, [], 0, 0),
  (60, 61, .iload_n 2, [], 0, 0),
  (61, 62, .iload_n 1, [], 0, 0),
  (62, 65, .if_icmp .ge 58, [120], 0, 0),
  (65, 66, .aload_n 0, [], 0, 0),
  (66, 69, .invokevirtual 176, [0, 183], 0, 0),
  (69, 72, .ifCond .eq 51, [120], 0, 0),
  (72, 73, .aload_n 0, [], 0, 0),
  (73, 76, .getfield 53, [12, 37], 0, 0),
  (76, 78, .bipush 49, [], 49, 0),
  (78, 79, .iload_n 2, [], 0, 0),
  (79, 80, .iadd, [], 0, 0),
  (80, 81, .iaload, [], 0, 0),
  (81, 82, .aload_n 0, [], 0, 0),
  (82, 85, .getfield 53, [12, 37], 0, 0),
  (85, 87, .bipush 49, [], 49, 0),
  (87, 88, .iload_n 1, [], 0, 0),
  (88, 89, .iadd, [], 0, 0),
  (89, 90, .iaload, [], 0, 0),
  (90, 93, .if_icmp .ne 24, [114], 0, 0),
  (93, 94, .aload_n 0, [], 0, 0),
  (94, 97, .getfield 53, [12, 37], 0, 0),
  (97, 99, .bipush 55, [], 55, 0),
  (99, 100, .iload_n 2, [], 0, 0),
  (100, 101, .iadd, [], 0, 0),
  (101, 102, .iaload, [], 0, 0),
  (102, 103, .aload_n 0, [], 0, 0),
  (103, 106, .getfield 144, [12, 20], 0, 0),
  (106, 109, .if_icmp .ne 8, [114], 0, 0),
  (109, 110, .aload_n 0, [], 0, 0),
  (110, 111, .iconst 4, [], 4, 0),
  (111, 114, .invokevirtual 183, [0, 182], 0, 0),
  (114, 117, .iinc 2 1, [], 1, 0),
  (117, 120, .goto (-57), [60], 0, 0),
  (120, 121, .aload_n 0, [], 0, 0),
  (121, 124, .invokevirtual 176, [0, 183], 0, 0),
  (124, 127, .ifCond .ne 4, [128], 0, 0),
  (127, 128, .return_, [], 0, 0),
  (128, 129, .aload_n 0, [], 0, 0),
  (129, 132, .getfield 53, [12, 37], 0, 0),
  (132, 134, .bipush 55, [], 55, 0),
  (134, 135, .iload_n 1, [], 0, 0),
  (135, 136, .iadd, [], 0, 0),
  (136, 137, .aload_n 0, [], 0, 0),
  (137, 140, .getfield 144, [12, 20], 0, 0),
  (140, 141, .iastore, [], 0, 0),
  (141, 142, .aload_n 0, [], 0, 0),
  (142, 145, .invokevirtual 180, [0, 178], 0, 0),
  (145, 146, .aload_n 0, [], 0, 0),
  (146, 149, .getfield 50, [12, 36], 0, 0),
  (149, 150, .iload_n 1, [], 0, 0),
  (150, 151, .aload_n 0, [], 0, 0),
  (151, 152, .iconst 1, [], 1, 0),
  (152, 154, .bipush 60, [], 60, 0),
  (154, 157, .invokevirtual 246, [0, 187], 0, 0),
  (157, 158, .iastore, [], 0, 0),
  (158, 159, .aload_n 0, [], 0, 0),
  (159, 162, .getfield 53, [12, 37], 0, 0),
  (162, 164, .bipush 61, [], 61, 0),
  (164, 165, .iload_n 1, [], 0, 0),
  (165, 166, .iadd, [], 0, 0),
  (166, 167, .aload_n 0, [], 0, 0),
  (167, 168, .iconst 0, [], 0, 0),
  (168, 170, .bipush 9, [], 9, 0),
  (170, 173, .invokevirtual 246, [0, 187], 0, 0),
  (173, 174, .iastore, [], 0, 0),
  (174, 175, .aload_n 0, [], 0, 0),
  (175, 178, .invokevirtual 176, [0, 183], 0, 0),
  (178, 181, .ifCond .eq 13, [191], 0, 0),
  (181, 182, .aload_n 0, [], 0, 0),
  (182, 183, .dup, [], 0, 0),
  (183, 186, .getfield 250, [12, 24], 0, 0),
  (186, 187, .iconst 1, [], 1, 0),
  (187, 188, .iadd, [], 0, 0),
  (188, 191, .putfield 250, [12, 24], 0, 0),
  (191, 192, .return_, [], 0, 0)]
def mX12_readsNeedle : xM := (200, 12, cX12_readsNeedle, 3, none, pX12_readsNeedle)
set_option maxRecDepth 100000 in
theorem gX12_readsNeedle : xgd mX12_readsNeedle := ⟨by decide +kernel, xat_in (p := 7165) rfl, by decide +kernel, by decide +kernel, by decide, by decide +kernel, by decide +kernel⟩
set_option maxRecDepth 100000 in
def pX12_readsSaying : List xRow := [(0, 1, .aload_n 0, [], 0, 0),
  (1, 4, .getfield 253, [12, 25], 0, 0),
  (4, 6, .bipush 16, [], 16, 0),
  (6, 9, .if_icmp .ne 8, [14], 0, 0),
  (9, 10, .aload_n 0, [], 0, 0),
  (10, 11, .iconst 2, [], 2, 0),
  (11, 14, .invokevirtual 183, [0, 182], 0, 0),
  (14, 15, .aload_n 0, [], 0, 0),
  (15, 18, .invokevirtual 176, [0, 183], 0, 0),
  (18, 21, .ifCond .ne 4, [22], 0, 0),
  (21, 22, .return_, [], 0, 0),
  (22, 23, .aload_n 0, [], 0, 0),
  (23, 26, .invokevirtual 180, [0, 178], 0, 0),
  (26, 27, .aload_n 0, [], 0, 0),
  (27, 30, .getfield 253, [12, 25], 0, 0),
  (30, 31, .istore_n 1, [], 0, 0),
  (31, 32, .aload_n 0, [], 0, 0),
  (32, 35, .getfield 53, [12, 37], 0, 0),
  (35, 36, .iconst 1, [], 1, 0),
  (36, 37, .iload_n 1, [], 0, 0),
  (37, 38, .iadd, [], 0, 0),
  (38, 39, .aload_n 0, [], 0, 0),
  (39, 40, .iconst 0, [], 0, 0),
  (40, 42, .bipush 99, [], 99, 0),
  (42, 45, .invokevirtual 246, [0, 187], 0, 0),
  (45, 46, .iastore, [], 0, 0),
  (46, 47, .aload_n 0, [], 0, 0),
  (47, 50, .invokevirtual 176, [0, 183], 0, 0),
  (50, 53, .ifCond .eq 35, [85], 0, 0),
  (53, 54, .aload_n 0, [], 0, 0),
  (54, 57, .getfield 150, [12, 17], 0, 0),
  (57, 58, .iconst 2, [], 2, 0),
  (58, 61, .if_icmp .ne 27, [85], 0, 0),
  (61, 62, .aload_n 0, [], 0, 0),
  (62, 65, .getfield 160, [12, 19], 0, 0),
  (65, 66, .iconst 4, [], 4, 0),
  (66, 69, .if_icmp .gt 19, [85], 0, 0),
  (69, 70, .aload_n 0, [], 0, 0),
  (70, 73, .getfield 144, [12, 20], 0, 0),
  (73, 74, .aload_n 0, [], 0, 0),
  (74, 77, .getfield 243, [12, 23], 0, 0),
  (77, 80, .if_icmp .lt 8, [85], 0, 0),
  (80, 81, .aload_n 0, [], 0, 0),
  (81, 82, .iconst 3, [], 3, 0),
  (82, 85, .invokevirtual 183, [0, 182], 0, 0),
  (85, 86, .aload_n 0, [], 0, 0),
  (86, 89, .getfield 53, [12, 37], 0, 0),
  (89, 91, .bipush 17, [], 17, 0),
  (91, 92, .iload_n 1, [], 0, 0),
  (92, 93, .iadd, [], 0, 0),
  (93, 94, .aload_n 0, [], 0, 0),
  (94, 95, .iconst 0, [], 0, 0),
  (95, 98, .sipush 9999, [], 9999, 0),
  (98, 101, .invokevirtual 246, [0, 187], 0, 0),
  (101, 102, .iastore, [], 0, 0),
  (102, 103, .aload_n 0, [], 0, 0),
  (103, 106, .getfield 53, [12, 37], 0, 0),
  (106, 108, .bipush 33, [], 33, 0),
  (108, 109, .iload_n 1, [], 0, 0),
  (109, 110, .iadd, [], 0, 0),
  (110, 111, .aload_n 0, [], 0, 0),
  (111, 112, .iconst 0, [], 0, 0),
  (112, 114, .bipush 9, [], 9, 0),
  (114, 117, .invokevirtual 246, [0, 187], 0, 0),
  (117, 118, .iastore, [], 0, 0),
  (118, 119, .aload_n 0, [], 0, 0),
  (119, 122, .invokevirtual 176, [0, 183], 0, 0),
  (122, 125, .ifCond .eq 13, [135], 0, 0),
  (125, 126, .aload_n 0, [], 0, 0),
  (126, 127, .dup, [], 0, 0),
  (127, 130, .getfield 253, [12, 25], 0, 0),
  (130, 131, .iconst 1, [], 1, 0),
  (131, 132, .iadd, [], 0, 0),
  (132, 135, .putfield 253, [12, 25], 0, 0),
  (135, 136, .return_, [], 0, 0)]
def mX12_readsSaying : xM := (201, 12, cX12_readsSaying, 2, none, pX12_readsSaying)
set_option maxRecDepth 100000 in
theorem gX12_readsSaying : xgd mX12_readsSaying := ⟨by decide +kernel, xat_in (p := 7169) rfl, by decide +kernel, by decide +kernel, by decide, by decide +kernel, by decide +kernel⟩
set_option maxRecDepth 100000 in
def pX12_line : List xRow := [(0, 1, .aload_n 0, [], 0, 0),
  (1, 4, .invokevirtual 205, [0, 181], 0, 0),
  (4, 5, .istore_n 1, [], 0, 0),
  (5, 6, .iload_n 1, [], 0, 0),
  (6, 8, .bipush 9, [], 9, 0),
  (8, 11, .if_icmp .ne 10, [18], 0, 0),
  (11, 12, .aload_n 0, [], 0, 0),
  (12, 15, .invokevirtual 256, [0, 199], 0, 0),
  (15, 18, .goto 131, [146], 0, 0),
  (18, 19, .iload_n 1, [], 0, 0),
  (19, 21, .bipush 10, [], 10, 0),
  (21, 24, .if_icmp .ne 10, [31], 0, 0),
  (24, 25, .aload_n 0, [], 0, 0),
  (25, 28, .invokevirtual 259, [0, 200], 0, 0),
  (28, 31, .goto 118, [146], 0, 0),
  (31, 32, .iload_n 1, [], 0, 0),
  (32, 34, .bipush 11, [], 11, 0),
  (34, 37, .if_icmp .ne 10, [44], 0, 0),
  (37, 38, .aload_n 0, [], 0, 0),
  (38, 41, .invokevirtual 262, [0, 201], 0, 0),
  (41, 44, .goto 105, [146], 0, 0),
  (44, 45, .iload_n 1, [], 0, 0),
  (45, 47, .bipush 12, [], 12, 0),
  (47, 50, .if_icmp .ne 45, [92], 0, 0),
  (50, 51, .aload_n 0, [], 0, 0),
  (51, 54, .getfield 265, [12, 26], 0, 0),
  (54, 55, .iconst (-1), [], -1, 0),
  (55, 58, .if_icmp .eq 8, [63], 0, 0),
  (58, 59, .aload_n 0, [], 0, 0),
  (59, 60, .iconst 5, [], 5, 0),
  (60, 63, .invokevirtual 183, [0, 182], 0, 0),
  (63, 64, .aload_n 0, [], 0, 0),
  (64, 67, .invokevirtual 176, [0, 183], 0, 0),
  (67, 70, .ifCond .ne 4, [71], 0, 0),
  (70, 71, .return_, [], 0, 0),
  (71, 72, .aload_n 0, [], 0, 0),
  (72, 75, .invokevirtual 180, [0, 178], 0, 0),
  (75, 76, .aload_n 0, [], 0, 0),
  (76, 77, .aload_n 0, [], 0, 0),
  (77, 80, .getfield 190, [12, 28], 0, 0),
  (80, 83, .putfield 265, [12, 26], 0, 0),
  (83, 84, .aload_n 0, [], 0, 0),
  (84, 85, .iconst 0, [], 0, 0),
  (85, 86, .iconst 5, [], 5, 0),
  (86, 89, .invokevirtual 268, [0, 198], 0, 0),
  (89, 92, .goto 57, [146], 0, 0),
  (92, 93, .iload_n 1, [], 0, 0),
  (93, 95, .bipush 13, [], 13, 0),
  (95, 98, .if_icmp .ne 46, [141], 0, 0),
  (98, 99, .aload_n 0, [], 0, 0),
  (99, 102, .getfield 272, [12, 27], 0, 0),
  (102, 103, .iconst (-1), [], -1, 0),
  (103, 106, .if_icmp .eq 8, [111], 0, 0),
  (106, 107, .aload_n 0, [], 0, 0),
  (107, 108, .iconst 5, [], 5, 0),
  (108, 111, .invokevirtual 183, [0, 182], 0, 0),
  (111, 112, .aload_n 0, [], 0, 0),
  (112, 115, .invokevirtual 176, [0, 183], 0, 0),
  (115, 118, .ifCond .ne 4, [119], 0, 0),
  (118, 119, .return_, [], 0, 0),
  (119, 120, .aload_n 0, [], 0, 0),
  (120, 123, .invokevirtual 180, [0, 178], 0, 0),
  (123, 124, .aload_n 0, [], 0, 0),
  (124, 125, .aload_n 0, [], 0, 0),
  (125, 128, .getfield 190, [12, 28], 0, 0),
  (128, 131, .putfield 272, [12, 27], 0, 0),
  (131, 132, .aload_n 0, [], 0, 0),
  (132, 133, .iconst 4, [], 4, 0),
  (133, 135, .bipush 8, [], 8, 0),
  (135, 138, .invokevirtual 268, [0, 198], 0, 0),
  (138, 141, .goto 8, [146], 0, 0),
  (141, 142, .aload_n 0, [], 0, 0),
  (142, 143, .iconst 1, [], 1, 0),
  (143, 146, .invokevirtual 183, [0, 182], 0, 0),
  (146, 147, .aload_n 0, [], 0, 0),
  (147, 148, .aload_n 0, [], 0, 0),
  (148, 150, .bipush 59, [], 59, 0),
  (150, 153, .invokevirtual 218, [0, 184], 0, 0),
  (153, 156, .invokevirtual 275, [0, 185], 0, 0),
  (156, 157, .return_, [], 0, 0)]
def mX12_line : xM := (202, 12, cX12_line, 2, none, pX12_line)
set_option maxRecDepth 100000 in
theorem gX12_line : xgd mX12_line := ⟨by decide +kernel, xat_in (p := 7134) rfl, by decide +kernel, by decide +kernel, by decide, by decide +kernel, by decide +kernel⟩
set_option maxRecDepth 100000 in
def pX12_fair : List xRow := [(0, 1, .aload_n 0, [], 0, 0),
  (1, 2, .iconst 0, [], 0, 0),
  (2, 5, .putfield 117, [12, 0], 0, 0),
  (5, 6, .aload_n 0, [], 0, 0),
  (6, 7, .iload_n 1, [], 0, 0),
  (7, 10, .ifCond .lt 15, [22], 0, 0),
  (10, 11, .iload_n 1, [], 0, 0),
  (11, 12, .aload_n 0, [], 0, 0),
  (12, 15, .getfield 120, [12, 11], 0, 0),
  (15, 18, .if_icmp .gt 7, [22], 0, 0),
  (18, 19, .iconst 1, [], 1, 0),
  (19, 22, .goto 4, [23], 0, 0),
  (22, 23, .iconst 0, [], 0, 0),
  (23, 24, .iconst 1, [], 1, 0),
  (24, 27, .invokevirtual 278, [0, 168], 0, 0),
  (27, 30, .ifCond .ne 5, [32], 0, 0),
  (30, 31, .iconst 0, [], 0, 0),
  (31, 32, .ireturn, [], 0, 0),
  (32, 33, .aload_n 0, [], 0, 0),
  (33, 34, .iconst 0, [], 0, 0),
  (34, 37, .putfield 120, [12, 11], 0, 0),
  (37, 38, .aload_n 0, [], 0, 0),
  (38, 39, .iconst (-1), [], -1, 0),
  (39, 42, .putfield 35, [12, 13], 0, 0),
  (42, 43, .aload_n 0, [], 0, 0),
  (43, 44, .iconst 0, [], 0, 0),
  (44, 47, .putfield 173, [12, 12], 0, 0),
  (47, 48, .aload_n 0, [], 0, 0),
  (48, 49, .iload_n 1, [], 0, 0),
  (49, 52, .putfield 127, [12, 15], 0, 0),
  (52, 53, .aload_n 0, [], 0, 0),
  (53, 54, .iconst 0, [], 0, 0),
  (54, 57, .putfield 130, [12, 16], 0, 0),
  (57, 58, .aload_n 0, [], 0, 0),
  (58, 59, .iconst 0, [], 0, 0),
  (59, 62, .putfield 243, [12, 23], 0, 0),
  (62, 63, .aload_n 0, [], 0, 0),
  (63, 64, .iconst 0, [], 0, 0),
  (64, 67, .putfield 250, [12, 24], 0, 0),
  (67, 68, .aload_n 0, [], 0, 0),
  (68, 69, .iconst 0, [], 0, 0),
  (69, 72, .putfield 253, [12, 25], 0, 0),
  (72, 73, .aload_n 0, [], 0, 0),
  (73, 74, .iconst (-1), [], -1, 0),
  (74, 77, .putfield 265, [12, 26], 0, 0),
  (77, 78, .aload_n 0, [], 0, 0),
  (78, 79, .iconst (-1), [], -1, 0),
  (79, 82, .putfield 272, [12, 27], 0, 0),
  (82, 83, .aload_n 0, [], 0, 0),
  (83, 84, .iconst 0, [], 0, 0),
  (84, 87, .putfield 190, [12, 28], 0, 0),
  (87, 88, .aload_n 0, [], 0, 0),
  (88, 91, .invokevirtual 180, [0, 178], 0, 0),
  (91, 92, .aload_n 0, [], 0, 0),
  (92, 95, .invokevirtual 176, [0, 183], 0, 0),
  (95, 98, .ifCond .eq 17, [112], 0, 0),
  (98, 99, .aload_n 0, [], 0, 0),
  (99, 102, .getfield 150, [12, 17], 0, 0),
  (102, 105, .ifCond .eq 10, [112], 0, 0),
  (105, 106, .aload_n 0, [], 0, 0),
  (106, 109, .invokevirtual 282, [0, 202], 0, 0),
  (109, 112, .goto (-18), [91], 0, 0),
  (112, 113, .aload_n 0, [], 0, 0),
  (113, 116, .invokevirtual 176, [0, 183], 0, 0),
  (116, 119, .ifCond .ne 18, [134], 0, 0),
  (119, 120, .aload_n 0, [], 0, 0),
  (120, 123, .getfield 38, [12, 14], 0, 0),
  (123, 124, .iconst 0, [], 0, 0),
  (124, 125, .dup2, [], 0, 0),
  (125, 126, .iaload, [], 0, 0),
  (126, 127, .iconst 1, [], 1, 0),
  (127, 128, .iadd, [], 0, 0),
  (128, 129, .iastore, [], 0, 0),
  (129, 130, .aload_n 0, [], 0, 0),
  (130, 133, .getfield 173, [12, 12], 0, 0),
  (133, 134, .ireturn, [], 0, 0),
  (134, 135, .aload_n 0, [], 0, 0),
  (135, 136, .aload_n 0, [], 0, 0),
  (136, 139, .getfield 243, [12, 23], 0, 0),
  (139, 142, .putfield 285, [12, 1], 0, 0),
  (142, 143, .aload_n 0, [], 0, 0),
  (143, 144, .aload_n 0, [], 0, 0),
  (144, 147, .getfield 250, [12, 24], 0, 0),
  (147, 150, .putfield 288, [12, 2], 0, 0),
  (150, 151, .aload_n 0, [], 0, 0),
  (151, 152, .aload_n 0, [], 0, 0),
  (152, 155, .getfield 265, [12, 26], 0, 0),
  (155, 158, .putfield 9, [12, 3], 0, 0),
  (158, 159, .aload_n 0, [], 0, 0),
  (159, 160, .aload_n 0, [], 0, 0),
  (160, 163, .getfield 272, [12, 27], 0, 0),
  (163, 166, .putfield 13, [12, 4], 0, 0),
  (166, 167, .iconst 0, [], 0, 0),
  (167, 168, .istore_n 2, [], 0, 0),
  (168, 169, .iload_n 2, [], 0, 0),
  (169, 171, .bipush 10, [], 10, 0),
  (171, 174, .if_icmp .ge 45, [216], 0, 0),
  (174, 175, .aload_n 0, [], 0, 0),
  (175, 178, .getfield 16, [12, 5], 0, 0),
  (178, 179, .iload_n 2, [], 0, 0),
  (179, 180, .aload_n 0, [], 0, 0),
  (180, 183, .getfield 41, [12, 33], 0, 0),
  (183, 184, .iload_n 2, [], 0, 0),
  (184, 185, .iaload, [], 0, 0),
  (185, 186, .iastore, [], 0, 0),
  (186, 187, .aload_n 0, [], 0, 0),
  (187, 190, .getfield 20, [12, 6], 0, 0),
  (190, 191, .iload_n 2, [], 0, 0),
  (191, 192, .aload_n 0, [], 0, 0),
  (192, 195, .getfield 44, [12, 34], 0, 0),
  (195, 196, .iload_n 2, [], 0, 0),
  (196, 197, .iaload, [], 0, 0),
  (197, 198, .iastore, [], 0, 0),
  (198, 199, .aload_n 0, [], 0, 0),
  (199, 202, .getfield 23, [12, 7], 0, 0),
  (202, 203, .iload_n 2, [], 0, 0),
  (203, 204, .aload_n 0, [], 0, 0),
  (204, 207, .getfield 47, [12, 35], 0, 0),
  (207, 208, .iload_n 2, [], 0, 0),
  (208, 209, .iaload, [], 0, 0),
  (209, 210, .iastore, [], 0, 0),
  (210, 213, .iinc 2 1, [], 1, 0),
  (213, 216, .goto (-45), [168], 0, 0),
  (216, 217, .iconst 0, [], 0, 0),
  (217, 218, .istore_n 2, [], 0, 0),
  (218, 219, .iload_n 2, [], 0, 0),
  (219, 221, .bipush 6, [], 6, 0),
  (221, 224, .if_icmp .ge 21, [242], 0, 0),
  (224, 225, .aload_n 0, [], 0, 0),
  (225, 228, .getfield 26, [12, 8], 0, 0),
  (228, 229, .iload_n 2, [], 0, 0),
  (229, 230, .aload_n 0, [], 0, 0),
  (230, 233, .getfield 50, [12, 36], 0, 0),
  (233, 234, .iload_n 2, [], 0, 0),
  (234, 235, .iaload, [], 0, 0),
  (235, 236, .iastore, [], 0, 0),
  (236, 239, .iinc 2 1, [], 1, 0),
  (239, 242, .goto (-21), [218], 0, 0),
  (242, 243, .aload_n 0, [], 0, 0),
  (243, 244, .aload_n 0, [], 0, 0),
  (244, 247, .getfield 56, [12, 38], 0, 0),
  (247, 248, .aload_n 0, [], 0, 0),
  (248, 251, .getfield 29, [12, 9], 0, 0),
  (251, 254, .invokevirtual 291, [0, 171], 0, 0),
  (254, 255, .aload_n 0, [], 0, 0),
  (255, 258, .getfield 53, [12, 37], 0, 0),
  (258, 259, .iconst 0, [], 0, 0),
  (259, 260, .aload_n 0, [], 0, 0),
  (260, 263, .getfield 253, [12, 25], 0, 0),
  (263, 264, .iastore, [], 0, 0),
  (264, 265, .aload_n 0, [], 0, 0),
  (265, 266, .aload_n 0, [], 0, 0),
  (266, 269, .getfield 53, [12, 37], 0, 0),
  (269, 270, .aload_n 0, [], 0, 0),
  (270, 273, .getfield 66, [12, 41], 0, 0),
  (273, 276, .invokevirtual 291, [0, 171], 0, 0),
  (276, 277, .aload_n 0, [], 0, 0),
  (277, 278, .iconst 0, [], 0, 0),
  (278, 281, .putfield 295, [12, 43], 0, 0),
  (281, 282, .aload_n 0, [], 0, 0),
  (282, 283, .iconst 0, [], 0, 0),
  (283, 286, .putfield 298, [12, 56], 0, 0),
  (286, 287, .aload_n 0, [], 0, 0),
  (287, 288, .iconst 0, [], 0, 0),
  (288, 291, .putfield 301, [12, 59], 0, 0),
  (291, 292, .iconst 0, [], 0, 0),
  (292, 293, .ireturn, [], 0, 0)]
def mX12_fair : xM := (203, 12, cX12_fair, 3, (some .int), pX12_fair)
set_option maxRecDepth 100000 in
theorem gX12_fair : xgd mX12_fair := ⟨by decide +kernel, xat_in (p := 7108) rfl, by decide +kernel, by decide +kernel, by decide, by decide +kernel, by decide +kernel⟩
set_option maxRecDepth 100000 in
def pX12_fault : List xRow := [(0, 1, .aload_n 0, [], 0, 0),
  (1, 2, .iconst 0, [], 0, 0),
  (2, 5, .putfield 117, [12, 0], 0, 0),
  (5, 6, .aload_n 0, [], 0, 0),
  (6, 9, .getfield 35, [12, 13], 0, 0),
  (9, 10, .ireturn, [], 0, 0)]
def mX12_fault : xM := (204, 12, cX12_fault, 1, (some .int), pX12_fault)
set_option maxRecDepth 100000 in
theorem gX12_fault : xgd mX12_fault := ⟨by decide +kernel, xat_in (p := 7227) rfl, by decide +kernel, by decide +kernel, by decide, by decide +kernel, by decide +kernel⟩
set_option maxRecDepth 100000 in
def pX12_keeps : List xRow := [(0, 1, .aload_n 0, [], 0, 0),
  (1, 4, .getfield 295, [12, 43], 0, 0),
  (4, 6, .bipush 40, [], 40, 0),
  (6, 9, .if_icmp .ne 44, [50], 0, 0),
  (9, 11, .bipush 67, [], 67, 0),
  (11, 12, .istore_n 1, [], 0, 0),
  (12, 13, .iload_n 1, [], 0, 0),
  (13, 16, .sipush 2680, [], 2680, 0),
  (16, 19, .if_icmp .ge 24, [40], 0, 0),
  (19, 20, .aload_n 0, [], 0, 0),
  (20, 23, .getfield 69, [12, 42], 0, 0),
  (23, 24, .iload_n 1, [], 0, 0),
  (24, 26, .bipush 67, [], 67, 0),
  (26, 27, .isub, [], 0, 0),
  (27, 28, .aload_n 0, [], 0, 0),
  (28, 31, .getfield 69, [12, 42], 0, 0),
  (31, 32, .iload_n 1, [], 0, 0),
  (32, 33, .iaload, [], 0, 0),
  (33, 34, .iastore, [], 0, 0),
  (34, 37, .iinc 1 1, [], 1, 0),
  (37, 40, .goto (-25), [12], 0, 0),
  (40, 41, .aload_n 0, [], 0, 0),
  (41, 42, .dup, [], 0, 0),
  (42, 45, .getfield 295, [12, 43], 0, 0),
  (45, 46, .iconst 1, [], 1, 0),
  (46, 47, .isub, [], 0, 0),
  (47, 50, .putfield 295, [12, 43], 0, 0),
  (50, 51, .iconst 0, [], 0, 0),
  (51, 52, .istore_n 1, [], 0, 0),
  (52, 53, .iload_n 1, [], 0, 0),
  (53, 55, .bipush 67, [], 67, 0),
  (55, 58, .if_icmp .ge 29, [84], 0, 0),
  (58, 59, .aload_n 0, [], 0, 0),
  (59, 62, .getfield 69, [12, 42], 0, 0),
  (62, 64, .bipush 67, [], 67, 0),
  (64, 65, .aload_n 0, [], 0, 0),
  (65, 68, .getfield 295, [12, 43], 0, 0),
  (68, 69, .imul, [], 0, 0),
  (69, 70, .iload_n 1, [], 0, 0),
  (70, 71, .iadd, [], 0, 0),
  (71, 72, .aload_n 0, [], 0, 0),
  (72, 75, .getfield 66, [12, 41], 0, 0),
  (75, 76, .iload_n 1, [], 0, 0),
  (76, 77, .iaload, [], 0, 0),
  (77, 78, .iastore, [], 0, 0),
  (78, 81, .iinc 1 1, [], 1, 0),
  (81, 84, .goto (-29), [52], 0, 0),
  (84, 85, .aload_n 0, [], 0, 0),
  (85, 86, .dup, [], 0, 0),
  (86, 89, .getfield 295, [12, 43], 0, 0),
  (89, 90, .iconst 1, [], 1, 0),
  (90, 91, .iadd, [], 0, 0),
  (91, 94, .putfield 295, [12, 43], 0, 0),
  (94, 95, .return_, [], 0, 0)]
def mX12_keeps : xM := (205, 12, cX12_keeps, 2, none, pX12_keeps)
set_option maxRecDepth 100000 in
theorem gX12_keeps : xgd mX12_keeps := ⟨by decide +kernel, xat_in (p := 8152) rfl, by decide +kernel, by decide +kernel, by decide, by decide +kernel, by decide +kernel⟩
set_option maxRecDepth 100000 in
def pX12_refuses : List xRow := [(0, 1, .aload_n 0, [], 0, 0),
  (1, 4, .getfield 38, [12, 14], 0, 0),
  (4, 5, .iload_n 1, [], 0, 0),
  (5, 6, .dup2, [], 0, 0),
  (6, 7, .iaload, [], 0, 0),
  (7, 8, .iconst 1, [], 1, 0),
  (8, 9, .iadd, [], 0, 0),
  (9, 10, .iastore, [], 0, 0),
  (10, 11, .iconst (-1), [], -1, 0),
  (11, 12, .ireturn, [], 0, 0)]
def mX12_refuses : xM := (206, 12, cX12_refuses, 2, (some .int), pX12_refuses)
set_option maxRecDepth 100000 in
theorem gX12_refuses : xgd mX12_refuses := ⟨by decide +kernel, xat_in (p := 8148) rfl, by decide +kernel, by decide +kernel, by decide, by decide +kernel, by decide +kernel⟩
set_option maxRecDepth 100000 in
def pX12_undo : List xRow := [(0, 1, .aload_n 0, [], 0, 0),
  (1, 2, .iconst 0, [], 0, 0),
  (2, 5, .putfield 117, [12, 0], 0, 0),
  (5, 6, .aload_n 0, [], 0, 0),
  (6, 9, .getfield 295, [12, 43], 0, 0),
  (9, 12, .ifCond .ne 5, [14], 0, 0),
  (12, 13, .iconst (-1), [], -1, 0),
  (13, 14, .ireturn, [], 0, 0),
  (14, 15, .aload_n 0, [], 0, 0),
  (15, 16, .dup, [], 0, 0),
  (16, 19, .getfield 295, [12, 43], 0, 0),
  (19, 20, .iconst 1, [], 1, 0),
  (20, 21, .isub, [], 0, 0),
  (21, 24, .putfield 295, [12, 43], 0, 0),
  (24, 25, .iconst 0, [], 0, 0),
  (25, 26, .istore_n 1, [], 0, 0),
  (26, 27, .iload_n 1, [], 0, 0),
  (27, 29, .bipush 67, [], 67, 0),
  (29, 32, .if_icmp .ge 29, [58], 0, 0),
  (32, 33, .aload_n 0, [], 0, 0),
  (33, 36, .getfield 66, [12, 41], 0, 0),
  (36, 37, .iload_n 1, [], 0, 0),
  (37, 38, .aload_n 0, [], 0, 0),
  (38, 41, .getfield 69, [12, 42], 0, 0),
  (41, 43, .bipush 67, [], 67, 0),
  (43, 44, .aload_n 0, [], 0, 0),
  (44, 47, .getfield 295, [12, 43], 0, 0),
  (47, 48, .imul, [], 0, 0),
  (48, 49, .iload_n 1, [], 0, 0),
  (49, 50, .iadd, [], 0, 0),
  (50, 51, .iaload, [], 0, 0),
  (51, 52, .iastore, [], 0, 0),
  (52, 55, .iinc 1 1, [], 1, 0),
  (55, 58, .goto (-29), [26], 0, 0),
  (58, 59, .aload_n 0, [], 0, 0),
  (59, 62, .getfield 295, [12, 43], 0, 0),
  (62, 63, .ireturn, [], 0, 0)]
def mX12_undo : xM := (207, 12, cX12_undo, 2, (some .int), pX12_undo)
set_option maxRecDepth 100000 in
theorem gX12_undo : xgd mX12_undo := ⟨by decide +kernel, xat_in (p := 7231) rfl, by decide +kernel, by decide +kernel, by decide, by decide +kernel, by decide +kernel⟩
set_option maxRecDepth 100000 in
def pX12_works : List xRow := [(0, 1, .iload_n 0, [], 0, 0),
  (1, 44, .tableswitch 105 4 10 #[43, 57, 71, 82, 93, 97, 101], [], 0, 0),
  (44, 45, .iload_n 1, [], 0, 0),
  (45, 48, .ifCond .eq 11, [56], 0, 0),
  (48, 49, .iload_n 2, [], 0, 0),
  (49, 52, .ifCond .eq 7, [56], 0, 0),
  (52, 53, .iconst 1, [], 1, 0),
  (53, 56, .goto 4, [57], 0, 0),
  (56, 57, .iconst 0, [], 0, 0),
  (57, 58, .ireturn, [], 0, 0),
  (58, 59, .iload_n 1, [], 0, 0),
  (59, 62, .ifCond .ne 7, [66], 0, 0),
  (62, 63, .iload_n 2, [], 0, 0),
  (63, 66, .ifCond .eq 7, [70], 0, 0),
  (66, 67, .iconst 1, [], 1, 0),
  (67, 70, .goto 4, [71], 0, 0),
  (70, 71, .iconst 0, [], 0, 0),
  (71, 72, .ireturn, [], 0, 0),
  (72, 73, .iload_n 1, [], 0, 0),
  (73, 74, .iload_n 2, [], 0, 0),
  (74, 77, .if_icmp .ge 7, [81], 0, 0),
  (77, 78, .iconst 1, [], 1, 0),
  (78, 81, .goto 4, [82], 0, 0),
  (81, 82, .iconst 0, [], 0, 0),
  (82, 83, .ireturn, [], 0, 0),
  (83, 84, .iload_n 1, [], 0, 0),
  (84, 85, .iload_n 2, [], 0, 0),
  (85, 88, .if_icmp .ne 7, [92], 0, 0),
  (88, 89, .iconst 1, [], 1, 0),
  (89, 92, .goto 4, [93], 0, 0),
  (92, 93, .iconst 0, [], 0, 0),
  (93, 94, .ireturn, [], 0, 0),
  (94, 95, .iload_n 1, [], 0, 0),
  (95, 96, .iload_n 2, [], 0, 0),
  (96, 97, .iadd, [], 0, 0),
  (97, 98, .ireturn, [], 0, 0),
  (98, 99, .iload_n 1, [], 0, 0),
  (99, 100, .iload_n 2, [], 0, 0),
  (100, 101, .isub, [], 0, 0),
  (101, 102, .ireturn, [], 0, 0),
  (102, 103, .iload_n 1, [], 0, 0),
  (103, 104, .iload_n 2, [], 0, 0),
  (104, 105, .imul, [], 0, 0),
  (105, 106, .ireturn, [], 0, 0),
  (106, 107, .iload_n 2, [], 0, 0),
  (107, 110, .ifCond .ne 7, [114], 0, 0),
  (110, 111, .iconst 0, [], 0, 0),
  (111, 114, .goto 6, [117], 0, 0),
  (114, 115, .iload_n 1, [], 0, 0),
  (115, 116, .iload_n 2, [], 0, 0),
  (116, 117, .idiv, [], 0, 0),
  (117, 118, .ireturn, [], 0, 0)]
def mX12_works : xM := (208, 12, cX12_works, 3, (some .int), pX12_works)
set_option maxRecDepth 100000 in
theorem gX12_works : xgd mX12_works := ⟨by decide +kernel, xat_in (p := 8056) rfl, by decide +kernel, by decide +kernel, by decide, by decide +kernel, by decide +kernel⟩
set_option maxRecDepth 100000 in
def pX12_reckons : List xRow := [(0, 1, .iconst 0, [], 0, 0),
  (1, 2, .istore_n 2, [], 0, 0),
  (2, 3, .iload_n 1, [], 0, 0),
  (3, 4, .istore_n 3, [], 0, 0),
  (4, 5, .aload_n 0, [], 0, 0),
  (5, 8, .getfield 29, [12, 9], 0, 0),
  (8, 9, .iload_n 3, [], 0, 0),
  (9, 10, .iaload, [], 0, 0),
  (10, 13, .ifCond .eq 133, [143], 0, 0),
  (13, 14, .aload_n 0, [], 0, 0),
  (14, 17, .getfield 29, [12, 9], 0, 0),
  (17, 18, .iload_n 3, [], 0, 0),
  (18, 19, .iaload, [], 0, 0),
  (19, 21, .istore 4, [], 0, 0),
  (21, 24, .iinc 3 1, [], 1, 0),
  (24, 26, .iload 4, [], 0, 0),
  (26, 27, .iconst 1, [], 1, 0),
  (27, 30, .if_icmp .eq 9, [36], 0, 0),
  (30, 32, .iload 4, [], 0, 0),
  (32, 33, .iconst 2, [], 2, 0),
  (33, 36, .if_icmp .ne 44, [77], 0, 0),
  (36, 37, .aload_n 0, [], 0, 0),
  (37, 40, .getfield 75, [12, 45], 0, 0),
  (40, 41, .iload_n 2, [], 0, 0),
  (41, 43, .iload 4, [], 0, 0),
  (43, 44, .iconst 1, [], 1, 0),
  (44, 47, .if_icmp .ne 12, [56], 0, 0),
  (47, 48, .aload_n 0, [], 0, 0),
  (48, 51, .getfield 29, [12, 9], 0, 0),
  (51, 52, .iload_n 3, [], 0, 0),
  (52, 53, .iaload, [], 0, 0),
  (53, 56, .goto 14, [67], 0, 0),
  (56, 57, .aload_n 0, [], 0, 0),
  (57, 60, .getfield 72, [12, 44], 0, 0),
  (60, 61, .aload_n 0, [], 0, 0),
  (61, 64, .getfield 29, [12, 9], 0, 0),
  (64, 65, .iload_n 3, [], 0, 0),
  (65, 66, .iaload, [], 0, 0),
  (66, 67, .iaload, [], 0, 0),
  (67, 68, .iastore, [], 0, 0),
  (68, 71, .iinc 3 1, [], 1, 0),
  (71, 74, .iinc 2 1, [], 1, 0),
  (74, 77, .goto 66, [140], 0, 0),
  (77, 79, .iload 4, [], 0, 0),
  (79, 80, .iconst 3, [], 3, 0),
  (80, 83, .if_icmp .ne 30, [110], 0, 0),
  (83, 84, .aload_n 0, [], 0, 0),
  (84, 87, .getfield 75, [12, 45], 0, 0),
  (87, 88, .iload_n 2, [], 0, 0),
  (88, 89, .iconst 1, [], 1, 0),
  (89, 90, .isub, [], 0, 0),
  (90, 91, .aload_n 0, [], 0, 0),
  (91, 94, .getfield 75, [12, 45], 0, 0),
  (94, 95, .iload_n 2, [], 0, 0),
  (95, 96, .iconst 1, [], 1, 0),
  (96, 97, .isub, [], 0, 0),
  (97, 98, .iaload, [], 0, 0),
  (98, 101, .ifCond .ne 7, [105], 0, 0),
  (101, 102, .iconst 1, [], 1, 0),
  (102, 105, .goto 4, [106], 0, 0),
  (105, 106, .iconst 0, [], 0, 0),
  (106, 107, .iastore, [], 0, 0),
  (107, 110, .goto 33, [140], 0, 0),
  (110, 113, .iinc 2 (-1), [], -1, 0),
  (113, 114, .aload_n 0, [], 0, 0),
  (114, 117, .getfield 75, [12, 45], 0, 0),
  (117, 118, .iload_n 2, [], 0, 0),
  (118, 119, .iconst 1, [], 1, 0),
  (119, 120, .isub, [], 0, 0),
  (120, 122, .iload 4, [], 0, 0),
  (122, 123, .aload_n 0, [], 0, 0),
  (123, 126, .getfield 75, [12, 45], 0, 0),
  (126, 127, .iload_n 2, [], 0, 0),
  (127, 128, .iconst 1, [], 1, 0),
  (128, 129, .isub, [], 0, 0),
  (129, 130, .iaload, [], 0, 0),
  (130, 131, .aload_n 0, [], 0, 0),
  (131, 134, .getfield 75, [12, 45], 0, 0),
  (134, 135, .iload_n 2, [], 0, 0),
  (135, 136, .iaload, [], 0, 0),
  (136, 139, .invokestatic 305, [1, 208], 0, 0),
  (139, 140, .iastore, [], 0, 0),
  (140, 143, .goto (-136), [4], 0, 0),
  (143, 144, .aload_n 0, [], 0, 0),
  (144, 147, .getfield 75, [12, 45], 0, 0),
  (147, 148, .iconst 0, [], 0, 0),
  (148, 149, .iaload, [], 0, 0),
  (149, 150, .ireturn, [], 0, 0)]
def mX12_reckons : xM := (209, 12, cX12_reckons, 5, (some .int), pX12_reckons)
set_option maxRecDepth 100000 in
theorem gX12_reckons : xgd mX12_reckons := ⟨by decide +kernel, xat_in (p := 8053) rfl, by decide +kernel, by decide +kernel, by decide, by decide +kernel, by decide +kernel⟩
set_option maxRecDepth 100000 in
def pX12_adds : List xRow := [(0, 1, .aload_n 0, [], 0, 0),
  (1, 4, .getfield 78, [12, 47], 0, 0),
  (4, 5, .aload_n 0, [], 0, 0),
  (5, 8, .getfield 309, [12, 46], 0, 0),
  (8, 9, .iload_n 1, [], 0, 0),
  (9, 10, .iastore, [], 0, 0),
  (10, 11, .aload_n 0, [], 0, 0),
  (11, 14, .getfield 81, [12, 48], 0, 0),
  (14, 15, .aload_n 0, [], 0, 0),
  (15, 18, .getfield 309, [12, 46], 0, 0),
  (18, 19, .iload_n 2, [], 0, 0),
  (19, 20, .iastore, [], 0, 0),
  (20, 21, .aload_n 0, [], 0, 0),
  (21, 24, .getfield 84, [12, 49], 0, 0),
  (24, 25, .aload_n 0, [], 0, 0),
  (25, 28, .getfield 309, [12, 46], 0, 0),
  (28, 29, .iload_n 3, [], 0, 0),
  (29, 30, .iastore, [], 0, 0),
  (30, 31, .aload_n 0, [], 0, 0),
  (31, 32, .dup, [], 0, 0),
  (32, 35, .getfield 309, [12, 46], 0, 0),
  (35, 36, .iconst 1, [], 1, 0),
  (36, 37, .iadd, [], 0, 0),
  (37, 40, .putfield 309, [12, 46], 0, 0),
  (40, 41, .return_, [], 0, 0)]
def mX12_adds : xM := (210, 12, cX12_adds, 4, none, pX12_adds)
set_option maxRecDepth 100000 in
theorem gX12_adds : xgd mX12_adds := ⟨by decide +kernel, xat_in (p := 8030) rfl, by decide +kernel, by decide +kernel, by decide, by decide +kernel, by decide +kernel⟩
set_option maxRecDepth 100000 in
def pX12_lays0 : List xRow := [(0, 1, .aload_n 0, [], 0, 0),
  (1, 2, .iconst 0, [], 0, 0),
  (2, 5, .putfield 309, [12, 46], 0, 0),
  (5, 6, .iconst 0, [], 0, 0),
  (6, 7, .istore_n 2, [], 0, 0),
  (7, 8, .iload_n 2, [], 0, 0),
  (8, 9, .aload_n 0, [], 0, 0),
  (9, 12, .getfield 66, [12, 41], 0, 0),
  (12, 13, .iconst 0, [], 0, 0),
  (13, 14, .iaload, [], 0, 0),
  (14, 17, .if_icmp .ge 43, [57], 0, 0),
  (17, 18, .iload_n 1, [], 0, 0),
  (18, 21, .ifCond .eq 39, [57], 0, 0),
  (21, 22, .aload_n 0, [], 0, 0),
  (22, 23, .aload_n 0, [], 0, 0),
  (23, 26, .getfield 66, [12, 41], 0, 0),
  (26, 27, .iconst 1, [], 1, 0),
  (27, 28, .iload_n 2, [], 0, 0),
  (28, 29, .iadd, [], 0, 0),
  (29, 30, .iaload, [], 0, 0),
  (30, 31, .aload_n 0, [], 0, 0),
  (31, 34, .getfield 66, [12, 41], 0, 0),
  (34, 36, .bipush 17, [], 17, 0),
  (36, 37, .iload_n 2, [], 0, 0),
  (37, 38, .iadd, [], 0, 0),
  (38, 39, .iaload, [], 0, 0),
  (39, 40, .aload_n 0, [], 0, 0),
  (40, 43, .getfield 66, [12, 41], 0, 0),
  (43, 45, .bipush 33, [], 33, 0),
  (45, 46, .iload_n 2, [], 0, 0),
  (46, 47, .iadd, [], 0, 0),
  (47, 48, .iaload, [], 0, 0),
  (48, 51, .invokevirtual 312, [0, 210], 0, 0),
  (51, 54, .iinc 2 1, [], 1, 0),
  (54, 57, .goto (-47), [7], 0, 0),
  (57, 58, .iconst 0, [], 0, 0),
  (58, 59, .istore_n 2, [], 0, 0),
  (59, 60, .iload_n 2, [], 0, 0),
  (60, 62, .bipush 6, [], 6, 0),
  (62, 65, .if_icmp .ge 54, [116], 0, 0),
  (65, 66, .aload_n 0, [], 0, 0),
  (66, 69, .getfield 87, [12, 50], 0, 0),
  (69, 70, .iload_n 2, [], 0, 0),
  (70, 71, .aload_n 0, [], 0, 0),
  (71, 74, .getfield 66, [12, 41], 0, 0),
  (74, 76, .bipush 49, [], 49, 0),
  (76, 77, .iload_n 2, [], 0, 0),
  (77, 78, .iadd, [], 0, 0),
  (78, 79, .iaload, [], 0, 0),
  (79, 80, .iastore, [], 0, 0),
  (80, 81, .aload_n 0, [], 0, 0),
  (81, 84, .getfield 90, [12, 51], 0, 0),
  (84, 85, .iload_n 2, [], 0, 0),
  (85, 86, .aload_n 0, [], 0, 0),
  (86, 89, .getfield 66, [12, 41], 0, 0),
  (89, 91, .bipush 55, [], 55, 0),
  (91, 92, .iload_n 2, [], 0, 0),
  (92, 93, .iadd, [], 0, 0),
  (93, 94, .iaload, [], 0, 0),
  (94, 95, .iastore, [], 0, 0),
  (95, 96, .aload_n 0, [], 0, 0),
  (96, 99, .getfield 93, [12, 52], 0, 0),
  (99, 100, .iload_n 2, [], 0, 0),
  (100, 101, .aload_n 0, [], 0, 0),
  (101, 104, .getfield 66, [12, 41], 0, 0),
  (104, 106, .bipush 61, [], 61, 0),
  (106, 107, .iload_n 2, [], 0, 0),
  (107, 108, .iadd, [], 0, 0),
  (108, 109, .iaload, [], 0, 0),
  (109, 110, .iastore, [], 0, 0),
  (110, 113, .iinc 2 1, [], 1, 0),
  (113, 116, .goto (-54), [59], 0, 0),
  (116, 117, .return_, [], 0, 0)]
def mX12_lays0 : xM := (211, 12, cX12_lays0, 3, none, pX12_lays0)
set_option maxRecDepth 100000 in
theorem gX12_lays0 : xgd mX12_lays0 := ⟨by decide +kernel, xat_in (p := 8026) rfl, by decide +kernel, by decide +kernel, by decide, by decide +kernel, by decide +kernel⟩
set_option maxRecDepth 100000 in
def pX12_farOf : List xRow := [(0, 1, .aload_n 0, [], 0, 0),
  (1, 4, .getfield 87, [12, 50], 0, 0),
  (4, 5, .iload_n 1, [], 0, 0),
  (5, 6, .iaload, [], 0, 0),
  (6, 7, .aload_n 0, [], 0, 0),
  (7, 10, .getfield 16, [12, 5], 0, 0),
  (10, 11, .iload_n 2, [], 0, 0),
  (11, 12, .iaload, [], 0, 0),
  (12, 15, .invokestatic 316, [1, 170], 0, 0),
  (15, 16, .istore_n 3, [], 0, 0),
  (16, 17, .aload_n 0, [], 0, 0),
  (17, 20, .getfield 90, [12, 51], 0, 0),
  (20, 21, .iload_n 1, [], 0, 0),
  (21, 22, .iaload, [], 0, 0),
  (22, 23, .aload_n 0, [], 0, 0),
  (23, 26, .getfield 20, [12, 6], 0, 0),
  (26, 27, .iload_n 2, [], 0, 0),
  (27, 28, .iaload, [], 0, 0),
  (28, 31, .invokestatic 316, [1, 170], 0, 0),
  (31, 33, .istore 4, [], 0, 0),
  (33, 34, .iload_n 3, [], 0, 0),
  (34, 36, .iload 4, [], 0, 0),
  (36, 39, .if_icmp .le 7, [43], 0, 0),
  (39, 40, .iload_n 3, [], 0, 0),
  (40, 43, .goto 5, [45], 0, 0),
  (43, 45, .iload 4, [], 0, 0),
  (45, 46, .ireturn, [], 0, 0)]
def mX12_farOf : xM := (212, 12, cX12_farOf, 5, (some .int), pX12_farOf)
set_option maxRecDepth 100000 in
theorem gX12_farOf : xgd mX12_farOf := ⟨by decide +kernel, xat_in (p := 8034) rfl, by decide +kernel, by decide +kernel, by decide, by decide +kernel, by decide +kernel⟩
set_option maxRecDepth 100000 in
def pX12_hears : List xRow := [(0, 1, .aload_n 0, [], 0, 0),
  (1, 4, .getfield 81, [12, 48], 0, 0),
  (4, 5, .iload_n 2, [], 0, 0),
  (5, 6, .iaload, [], 0, 0),
  (6, 7, .istore_n 3, [], 0, 0),
  (7, 8, .aload_n 0, [], 0, 0),
  (8, 11, .getfield 84, [12, 49], 0, 0),
  (11, 12, .iload_n 2, [], 0, 0),
  (12, 13, .iaload, [], 0, 0),
  (13, 16, .ifCond .ne 5, [18], 0, 0),
  (16, 17, .iconst 0, [], 0, 0),
  (17, 18, .ireturn, [], 0, 0),
  (18, 19, .aload_n 0, [], 0, 0),
  (19, 22, .getfield 9, [12, 3], 0, 0),
  (22, 23, .iconst (-1), [], -1, 0),
  (23, 26, .if_icmp .ne 39, [62], 0, 0),
  (26, 27, .aload_n 0, [], 0, 0),
  (27, 28, .iload_n 1, [], 0, 0),
  (28, 29, .iload_n 3, [], 0, 0),
  (29, 32, .invokevirtual 319, [0, 212], 0, 0),
  (32, 33, .aload_n 0, [], 0, 0),
  (33, 36, .getfield 26, [12, 8], 0, 0),
  (36, 37, .iload_n 1, [], 0, 0),
  (37, 38, .iaload, [], 0, 0),
  (38, 41, .if_icmp .gt 22, [60], 0, 0),
  (41, 42, .aload_n 0, [], 0, 0),
  (42, 45, .getfield 84, [12, 49], 0, 0),
  (45, 46, .iload_n 2, [], 0, 0),
  (46, 47, .iaload, [], 0, 0),
  (47, 48, .aload_n 0, [], 0, 0),
  (48, 51, .getfield 93, [12, 52], 0, 0),
  (51, 52, .iload_n 1, [], 0, 0),
  (52, 53, .iaload, [], 0, 0),
  (53, 56, .if_icmp .le 7, [60], 0, 0),
  (56, 57, .iconst 1, [], 1, 0),
  (57, 60, .goto 4, [61], 0, 0),
  (60, 61, .iconst 0, [], 0, 0),
  (61, 62, .ireturn, [], 0, 0),
  (62, 63, .aload_n 0, [], 0, 0),
  (63, 66, .getfield 72, [12, 44], 0, 0),
  (66, 67, .iconst 0, [], 0, 0),
  (67, 68, .aload_n 0, [], 0, 0),
  (68, 71, .getfield 84, [12, 49], 0, 0),
  (71, 72, .iload_n 2, [], 0, 0),
  (72, 73, .iaload, [], 0, 0),
  (73, 74, .iastore, [], 0, 0),
  (74, 75, .aload_n 0, [], 0, 0),
  (75, 78, .getfield 72, [12, 44], 0, 0),
  (78, 79, .iconst 4, [], 4, 0),
  (79, 80, .aload_n 0, [], 0, 0),
  (80, 83, .getfield 23, [12, 7], 0, 0),
  (83, 84, .iload_n 3, [], 0, 0),
  (84, 85, .iaload, [], 0, 0),
  (85, 86, .iastore, [], 0, 0),
  (86, 87, .aload_n 0, [], 0, 0),
  (87, 90, .getfield 72, [12, 44], 0, 0),
  (90, 91, .iconst 1, [], 1, 0),
  (91, 92, .aload_n 0, [], 0, 0),
  (92, 93, .iload_n 1, [], 0, 0),
  (93, 94, .iload_n 3, [], 0, 0),
  (94, 97, .invokevirtual 319, [0, 212], 0, 0),
  (97, 98, .iastore, [], 0, 0),
  (98, 99, .aload_n 0, [], 0, 0),
  (99, 102, .getfield 72, [12, 44], 0, 0),
  (102, 103, .iconst 2, [], 2, 0),
  (103, 104, .aload_n 0, [], 0, 0),
  (104, 107, .getfield 26, [12, 8], 0, 0),
  (107, 108, .iload_n 1, [], 0, 0),
  (108, 109, .iaload, [], 0, 0),
  (109, 110, .iastore, [], 0, 0),
  (110, 111, .aload_n 0, [], 0, 0),
  (111, 114, .getfield 72, [12, 44], 0, 0),
  (114, 115, .iconst 3, [], 3, 0),
  (115, 116, .aload_n 0, [], 0, 0),
  (116, 119, .getfield 93, [12, 52], 0, 0),
  (119, 120, .iload_n 1, [], 0, 0),
  (120, 121, .iaload, [], 0, 0),
  (121, 122, .iastore, [], 0, 0),
  (122, 123, .aload_n 0, [], 0, 0),
  (123, 126, .getfield 72, [12, 44], 0, 0),
  (126, 127, .iconst 5, [], 5, 0),
  (127, 128, .aload_n 0, [], 0, 0),
  (128, 131, .getfield 78, [12, 47], 0, 0),
  (131, 132, .iload_n 2, [], 0, 0),
  (132, 133, .iaload, [], 0, 0),
  (133, 134, .iastore, [], 0, 0),
  (134, 135, .aload_n 0, [], 0, 0),
  (135, 136, .aload_n 0, [], 0, 0),
  (136, 139, .getfield 9, [12, 3], 0, 0),
  (139, 142, .invokevirtual 322, [0, 209], 0, 0),
  (142, 145, .ifCond .le 7, [149], 0, 0),
  (145, 146, .iconst 1, [], 1, 0),
  (146, 149, .goto 4, [150], 0, 0),
  (149, 150, .iconst 0, [], 0, 0),
  (150, 151, .ireturn, [], 0, 0)]
def mX12_hears : xM := (213, 12, cX12_hears, 4, (some .boolean), pX12_hears)
set_option maxRecDepth 100000 in
theorem gX12_hears : xgd mX12_hears := ⟨by decide +kernel, xat_in (p := 8049) rfl, by decide +kernel, by decide +kernel, by decide, by decide +kernel, by decide +kernel⟩
set_option maxRecDepth 100000 in
def pX12_lastOf : List xRow := [(0, 1, .iconst (-1), [], -1, 0),
  (1, 2, .istore_n 3, [], 0, 0),
  (2, 3, .iconst 0, [], 0, 0),
  (3, 5, .istore 4, [], 0, 0),
  (5, 7, .iload 4, [], 0, 0),
  (7, 8, .aload_n 0, [], 0, 0),
  (8, 11, .getfield 309, [12, 46], 0, 0),
  (11, 14, .if_icmp .ge 49, [60], 0, 0),
  (14, 15, .aload_n 0, [], 0, 0),
  (15, 18, .getfield 78, [12, 47], 0, 0),
  (18, 20, .iload 4, [], 0, 0),
  (20, 21, .iaload, [], 0, 0),
  (21, 22, .iload_n 2, [], 0, 0),
  (22, 25, .if_icmp .gt 32, [54], 0, 0),
  (25, 26, .aload_n 0, [], 0, 0),
  (26, 29, .getfield 78, [12, 47], 0, 0),
  (29, 31, .iload 4, [], 0, 0),
  (31, 32, .iaload, [], 0, 0),
  (32, 33, .iload_n 3, [], 0, 0),
  (33, 36, .if_icmp .le 21, [54], 0, 0),
  (36, 37, .aload_n 0, [], 0, 0),
  (37, 38, .iload_n 1, [], 0, 0),
  (38, 40, .iload 4, [], 0, 0),
  (40, 43, .invokevirtual 325, [0, 213], 0, 0),
  (43, 46, .ifCond .eq 11, [54], 0, 0),
  (46, 47, .aload_n 0, [], 0, 0),
  (47, 50, .getfield 78, [12, 47], 0, 0),
  (50, 52, .iload 4, [], 0, 0),
  (52, 53, .iaload, [], 0, 0),
  (53, 54, .istore_n 3, [], 0, 0),
  (54, 57, .iinc 4 1, [], 1, 0),
  (57, 60, .goto (-52), [5], 0, 0),
  (60, 61, .iload_n 3, [], 0, 0),
  (61, 62, .ireturn, [], 0, 0)]
def mX12_lastOf : xM := (214, 12, cX12_lastOf, 5, (some .int), pX12_lastOf)
set_option maxRecDepth 100000 in
theorem gX12_lastOf : xgd mX12_lastOf := ⟨by decide +kernel, xat_in (p := 8068) rfl, by decide +kernel, by decide +kernel, by decide, by decide +kernel, by decide +kernel⟩
set_option maxRecDepth 100000 in
def pX12_sideOf : List xRow := [(0, 1, .lload_n 0, [], 0, 0),
  (1, 2, .lconst 0, [], 0, 0),
  (2, 3, .lcmp, [], 0, 0),
  (3, 6, .ifCond .ge 9, [12], 0, 0),
  (6, 7, .lconst 0, [], 0, 0),
  (7, 8, .lload_n 0, [], 0, 0),
  (8, 9, .lsub, [], 0, 0),
  (9, 12, .goto 4, [13], 0, 0),
  (12, 13, .lload_n 0, [], 0, 0),
  (13, 15, .lstore 4, [], 0, 0),
  (15, 16, .lload_n 2, [], 0, 0),
  (16, 17, .lconst 0, [], 0, 0),
  (17, 18, .lcmp, [], 0, 0),
  (18, 21, .ifCond .ge 9, [27], 0, 0),
  (21, 22, .lconst 0, [], 0, 0),
  (22, 23, .lload_n 2, [], 0, 0),
  (23, 24, .lsub, [], 0, 0),
  (24, 27, .goto 4, [28], 0, 0),
  (27, 28, .lload_n 2, [], 0, 0),
  (28, 30, .lstore 6, [], 0, 0),
  (30, 32, .lload 4, [], 0, 0),
  (32, 33, .lconst 0, [], 0, 0),
  (33, 34, .lcmp, [], 0, 0),
  (34, 37, .ifCond .ne 13, [47], 0, 0),
  (37, 39, .lload 6, [], 0, 0),
  (39, 40, .lconst 0, [], 0, 0),
  (40, 41, .lcmp, [], 0, 0),
  (41, 44, .ifCond .ne 6, [47], 0, 0),
  (44, 46, .bipush 8, [], 8, 0),
  (46, 47, .ireturn, [], 0, 0),
  (47, 49, .lload 4, [], 0, 0),
  (49, 52, .ldc2_w 328, [], 0, 2),
  (52, 54, .lload 6, [], 0, 0),
  (54, 55, .lmul, [], 0, 0),
  (55, 56, .lcmp, [], 0, 0),
  (56, 59, .ifCond .le 16, [72], 0, 0),
  (59, 60, .lload_n 0, [], 0, 0),
  (60, 61, .lconst 0, [], 0, 0),
  (61, 62, .lcmp, [], 0, 0),
  (62, 65, .ifCond .le 7, [69], 0, 0),
  (65, 66, .iconst 2, [], 2, 0),
  (66, 69, .goto 5, [71], 0, 0),
  (69, 71, .bipush 6, [], 6, 0),
  (71, 72, .ireturn, [], 0, 0),
  (72, 74, .lload 6, [], 0, 0),
  (74, 77, .ldc2_w 328, [], 0, 2),
  (77, 79, .lload 4, [], 0, 0),
  (79, 80, .lmul, [], 0, 0),
  (80, 81, .lcmp, [], 0, 0),
  (81, 84, .ifCond .le 15, [96], 0, 0),
  (84, 85, .lload_n 2, [], 0, 0),
  (85, 86, .lconst 0, [], 0, 0),
  (86, 87, .lcmp, [], 0, 0),
  (87, 90, .ifCond .le 7, [94], 0, 0),
  (90, 91, .iconst 4, [], 4, 0),
  (91, 94, .goto 4, [95], 0, 0),
  (94, 95, .iconst 0, [], 0, 0),
  (95, 96, .ireturn, [], 0, 0),
  (96, 97, .lload_n 0, [], 0, 0),
  (97, 98, .lconst 0, [], 0, 0),
  (98, 99, .lcmp, [], 0, 0),
  (99, 102, .ifCond .le 17, [116], 0, 0),
  (102, 103, .lload_n 2, [], 0, 0),
  (103, 104, .lconst 0, [], 0, 0),
  (104, 105, .lcmp, [], 0, 0),
  (105, 108, .ifCond .ge 7, [112], 0, 0),
  (108, 109, .iconst 1, [], 1, 0),
  (109, 112, .goto 19, [128], 0, 0),
  (112, 113, .iconst 3, [], 3, 0),
  (113, 116, .goto 15, [128], 0, 0),
  (116, 117, .lload_n 2, [], 0, 0),
  (117, 118, .lconst 0, [], 0, 0),
  (118, 119, .lcmp, [], 0, 0),
  (119, 122, .ifCond .le 7, [126], 0, 0),
  (122, 123, .iconst 5, [], 5, 0),
  (123, 126, .goto 5, [128], 0, 0),
  (126, 128, .bipush 7, [], 7, 0),
  (128, 129, .ireturn, [], 0, 0)]
def mX12_sideOf : xM := (215, 12, cX12_sideOf, 8, (some .int), pX12_sideOf)
set_option maxRecDepth 100000 in
theorem gX12_sideOf : xgd mX12_sideOf := ⟨by decide +kernel, xat_in (p := 8071) rfl, by decide +kernel, by decide +kernel, by decide, by decide +kernel, by decide +kernel⟩
set_option maxRecDepth 100000 in
def pX12_showsIn : List xRow := [(0, 1, .aload_n 0, [], 0, 0),
  (1, 2, .iload_n 1, [], 0, 0),
  (2, 3, .iload_n 2, [], 0, 0),
  (3, 6, .invokevirtual 330, [0, 214], 0, 0),
  (6, 7, .istore_n 3, [], 0, 0),
  (7, 8, .iload_n 3, [], 0, 0),
  (8, 9, .iconst (-1), [], -1, 0),
  (9, 12, .if_icmp .ne 5, [14], 0, 0),
  (12, 13, .iconst (-1), [], -1, 0),
  (13, 14, .ireturn, [], 0, 0),
  (14, 15, .iconst 0, [], 0, 0),
  (15, 17, .istore 4, [], 0, 0),
  (17, 18, .iconst 0, [], 0, 0),
  (18, 20, .istore 5, [], 0, 0),
  (20, 21, .iconst 1, [], 1, 0),
  (21, 23, .istore 6, [], 0, 0),
  (23, 24, .iconst 0, [], 0, 0),
  (24, 26, .istore 7, [], 0, 0),
  (26, 28, .iload 7, [], 0, 0),
  (28, 29, .aload_n 0, [], 0, 0),
  (29, 32, .getfield 309, [12, 46], 0, 0),
  (32, 35, .if_icmp .ge 111, [143], 0, 0),
  (35, 36, .aload_n 0, [], 0, 0),
  (36, 39, .getfield 78, [12, 47], 0, 0),
  (39, 41, .iload 7, [], 0, 0),
  (41, 42, .iaload, [], 0, 0),
  (42, 43, .iload_n 3, [], 0, 0),
  (43, 46, .if_icmp .ne 94, [137], 0, 0),
  (46, 47, .aload_n 0, [], 0, 0),
  (47, 48, .iload_n 1, [], 0, 0),
  (48, 50, .iload 7, [], 0, 0),
  (50, 53, .invokevirtual 325, [0, 213], 0, 0),
  (53, 56, .ifCond .ne 6, [59], 0, 0),
  (56, 59, .goto 81, [137], 0, 0),
  (59, 60, .aload_n 0, [], 0, 0),
  (60, 63, .getfield 16, [12, 5], 0, 0),
  (63, 64, .aload_n 0, [], 0, 0),
  (64, 67, .getfield 81, [12, 48], 0, 0),
  (67, 69, .iload 7, [], 0, 0),
  (69, 70, .iaload, [], 0, 0),
  (70, 71, .iaload, [], 0, 0),
  (71, 72, .aload_n 0, [], 0, 0),
  (72, 75, .getfield 87, [12, 50], 0, 0),
  (75, 76, .iload_n 1, [], 0, 0),
  (76, 77, .iaload, [], 0, 0),
  (77, 78, .isub, [], 0, 0),
  (78, 80, .istore 8, [], 0, 0),
  (80, 81, .aload_n 0, [], 0, 0),
  (81, 84, .getfield 20, [12, 6], 0, 0),
  (84, 85, .aload_n 0, [], 0, 0),
  (85, 88, .getfield 81, [12, 48], 0, 0),
  (88, 90, .iload 7, [], 0, 0),
  (90, 91, .iaload, [], 0, 0),
  (91, 92, .iaload, [], 0, 0),
  (92, 93, .aload_n 0, [], 0, 0),
  (93, 96, .getfield 90, [12, 51], 0, 0),
  (96, 97, .iload_n 1, [], 0, 0),
  (97, 98, .iaload, [], 0, 0),
  (98, 99, .isub, [], 0, 0),
  (99, 101, .istore 9, [], 0, 0),
  (101, 103, .iload 4, [], 0, 0),
  (103, 105, .iload 8, [], 0, 0),
  (105, 106, .iadd, [], 0, 0),
  (106, 108, .istore 4, [], 0, 0),
  (108, 110, .iload 5, [], 0, 0),
  (110, 112, .iload 9, [], 0, 0),
  (112, 113, .iadd, [], 0, 0),
  (113, 115, .istore 5, [], 0, 0),
  (115, 117, .iload 6, [], 0, 0),
  (117, 120, .ifCond .eq 17, [134], 0, 0),
  (120, 122, .iload 8, [], 0, 0),
  (122, 125, .ifCond .ne 12, [134], 0, 0),
  (125, 127, .iload 9, [], 0, 0),
  (127, 130, .ifCond .ne 7, [134], 0, 0),
  (130, 131, .iconst 1, [], 1, 0),
  (131, 134, .goto 4, [135], 0, 0),
  (134, 135, .iconst 0, [], 0, 0),
  (135, 137, .istore 6, [], 0, 0),
  (137, 140, .iinc 7 1, [], 1, 0),
  (140, 143, .goto (-114), [26], 0, 0),
  (143, 145, .iload 6, [], 0, 0),
  (145, 148, .ifCond .eq 8, [153], 0, 0),
  (148, 150, .bipush 8, [], 8, 0),
  (150, 153, .goto 27, [177], 0, 0),
  (153, 155, .iload 4, [], 0, 0),
  (155, 158, .ifCond .ne 13, [168], 0, 0),
  (158, 160, .iload 5, [], 0, 0),
  (160, 163, .ifCond .ne 8, [168], 0, 0),
  (163, 165, .bipush 9, [], 9, 0),
  (165, 168, .goto 12, [177], 0, 0),
  (168, 170, .iload 4, [], 0, 0),
  (170, 171, .i2l, [], 0, 0),
  (171, 173, .iload 5, [], 0, 0),
  (173, 174, .i2l, [], 0, 0),
  (174, 177, .invokestatic 333, [1, 215], 0, 0),
  (177, 178, .ireturn, [], 0, 0)]
def mX12_showsIn : xM := (216, 12, cX12_showsIn, 10, (some .int), pX12_showsIn)
set_option maxRecDepth 100000 in
theorem gX12_showsIn : xgd mX12_showsIn := ⟨by decide +kernel, xat_in (p := 8064) rfl, by decide +kernel, by decide +kernel, by decide, by decide +kernel, by decide +kernel⟩
set_option maxRecDepth 100000 in
def pX12_isAt : List xRow := [(0, 1, .aload_n 0, [], 0, 0),
  (1, 4, .getfield 87, [12, 50], 0, 0),
  (4, 5, .iload_n 1, [], 0, 0),
  (5, 6, .iaload, [], 0, 0),
  (6, 7, .aload_n 0, [], 0, 0),
  (7, 10, .getfield 16, [12, 5], 0, 0),
  (10, 11, .iload_n 2, [], 0, 0),
  (11, 12, .iaload, [], 0, 0),
  (12, 15, .if_icmp .ne 22, [34], 0, 0),
  (15, 16, .aload_n 0, [], 0, 0),
  (16, 19, .getfield 90, [12, 51], 0, 0),
  (19, 20, .iload_n 1, [], 0, 0),
  (20, 21, .iaload, [], 0, 0),
  (21, 22, .aload_n 0, [], 0, 0),
  (22, 25, .getfield 20, [12, 6], 0, 0),
  (25, 26, .iload_n 2, [], 0, 0),
  (26, 27, .iaload, [], 0, 0),
  (27, 30, .if_icmp .ne 7, [34], 0, 0),
  (30, 31, .iconst 1, [], 1, 0),
  (31, 34, .goto 4, [35], 0, 0),
  (34, 35, .iconst 0, [], 0, 0),
  (35, 36, .ireturn, [], 0, 0)]
def mX12_isAt : xM := (217, 12, cX12_isAt, 3, (some .boolean), pX12_isAt)
set_option maxRecDepth 100000 in
theorem gX12_isAt : xgd mX12_isAt := ⟨by decide +kernel, xat_in (p := 8084) rfl, by decide +kernel, by decide +kernel, by decide, by decide +kernel, by decide +kernel⟩
set_option maxRecDepth 100000 in
def pX12_isPointed : List xRow := [(0, 1, .iload_n 3, [], 0, 0),
  (1, 4, .ifCond .lt 57, [58], 0, 0),
  (4, 5, .iload_n 3, [], 0, 0),
  (5, 7, .bipush 8, [], 8, 0),
  (7, 10, .if_icmp .ge 51, [58], 0, 0),
  (10, 11, .aload_n 0, [], 0, 0),
  (11, 12, .iload_n 1, [], 0, 0),
  (12, 13, .iload_n 2, [], 0, 0),
  (13, 16, .invokevirtual 337, [0, 217], 0, 0),
  (16, 19, .ifCond .ne 42, [58], 0, 0),
  (19, 20, .aload_n 0, [], 0, 0),
  (20, 23, .getfield 16, [12, 5], 0, 0),
  (23, 24, .iload_n 2, [], 0, 0),
  (24, 25, .iaload, [], 0, 0),
  (25, 26, .aload_n 0, [], 0, 0),
  (26, 29, .getfield 87, [12, 50], 0, 0),
  (29, 30, .iload_n 1, [], 0, 0),
  (30, 31, .iaload, [], 0, 0),
  (31, 32, .isub, [], 0, 0),
  (32, 33, .i2l, [], 0, 0),
  (33, 34, .aload_n 0, [], 0, 0),
  (34, 37, .getfield 20, [12, 6], 0, 0),
  (37, 38, .iload_n 2, [], 0, 0),
  (38, 39, .iaload, [], 0, 0),
  (39, 40, .aload_n 0, [], 0, 0),
  (40, 43, .getfield 90, [12, 51], 0, 0),
  (43, 44, .iload_n 1, [], 0, 0),
  (44, 45, .iaload, [], 0, 0),
  (45, 46, .isub, [], 0, 0),
  (46, 47, .i2l, [], 0, 0),
  (47, 50, .invokestatic 333, [1, 215], 0, 0),
  (50, 51, .iload_n 3, [], 0, 0),
  (51, 54, .if_icmp .ne 7, [58], 0, 0),
  (54, 55, .iconst 1, [], 1, 0),
  (55, 58, .goto 4, [59], 0, 0),
  (58, 59, .iconst 0, [], 0, 0),
  (59, 60, .ireturn, [], 0, 0)]
def mX12_isPointed : xM := (218, 12, cX12_isPointed, 4, (some .boolean), pX12_isPointed)
set_option maxRecDepth 100000 in
theorem gX12_isPointed : xgd mX12_isPointed := ⟨by decide +kernel, xat_in (p := 8080) rfl, by decide +kernel, by decide +kernel, by decide, by decide +kernel, by decide +kernel⟩
set_option maxRecDepth 100000 in
def pX12_laysShown : List xRow := [(0, 1, .iconst 0, [], 0, 0),
  (1, 2, .istore_n 2, [], 0, 0),
  (2, 3, .iload_n 2, [], 0, 0),
  (3, 4, .aload_n 0, [], 0, 0),
  (4, 7, .getfield 288, [12, 2], 0, 0),
  (7, 10, .if_icmp .ge 21, [28], 0, 0),
  (10, 11, .aload_n 0, [], 0, 0),
  (11, 14, .getfield 96, [12, 53], 0, 0),
  (14, 15, .iload_n 2, [], 0, 0),
  (15, 16, .aload_n 0, [], 0, 0),
  (16, 17, .iload_n 2, [], 0, 0),
  (17, 18, .iload_n 1, [], 0, 0),
  (18, 21, .invokevirtual 340, [0, 216], 0, 0),
  (21, 22, .iastore, [], 0, 0),
  (22, 25, .iinc 2 1, [], 1, 0),
  (25, 28, .goto (-23), [2], 0, 0),
  (28, 29, .return_, [], 0, 0)]
def mX12_laysShown : xM := (219, 12, cX12_laysShown, 3, none, pX12_laysShown)
set_option maxRecDepth 100000 in
theorem gX12_laysShown : xgd mX12_laysShown := ⟨by decide +kernel, xat_in (p := 8128) rfl, by decide +kernel, by decide +kernel, by decide, by decide +kernel, by decide +kernel⟩
set_option maxRecDepth 100000 in
def pX12_saidBy : List xRow := [(0, 1, .iconst 0, [], 0, 0),
  (1, 2, .istore_n 3, [], 0, 0),
  (2, 3, .iconst 0, [], 0, 0),
  (3, 5, .istore 4, [], 0, 0),
  (5, 7, .iload 4, [], 0, 0),
  (7, 8, .aload_n 0, [], 0, 0),
  (8, 11, .getfield 309, [12, 46], 0, 0),
  (11, 14, .if_icmp .ge 39, [50], 0, 0),
  (14, 15, .iload_n 3, [], 0, 0),
  (15, 16, .aload_n 0, [], 0, 0),
  (16, 19, .getfield 81, [12, 48], 0, 0),
  (19, 21, .iload 4, [], 0, 0),
  (21, 22, .iaload, [], 0, 0),
  (22, 23, .iload_n 1, [], 0, 0),
  (23, 26, .if_icmp .ne 18, [41], 0, 0),
  (26, 27, .aload_n 0, [], 0, 0),
  (27, 30, .getfield 78, [12, 47], 0, 0),
  (30, 32, .iload 4, [], 0, 0),
  (32, 33, .iaload, [], 0, 0),
  (33, 34, .iload_n 2, [], 0, 0),
  (34, 37, .if_icmp .gt 7, [41], 0, 0),
  (37, 38, .iconst 1, [], 1, 0),
  (38, 41, .goto 4, [42], 0, 0),
  (41, 42, .iconst 0, [], 0, 0),
  (42, 43, .iadd, [], 0, 0),
  (43, 44, .istore_n 3, [], 0, 0),
  (44, 47, .iinc 4 1, [], 1, 0),
  (47, 50, .goto (-42), [5], 0, 0),
  (50, 51, .iload_n 3, [], 0, 0),
  (51, 52, .ireturn, [], 0, 0)]
def mX12_saidBy : xM := (220, 12, cX12_saidBy, 5, (some .int), pX12_saidBy)
set_option maxRecDepth 100000 in
theorem gX12_saidBy : xgd mX12_saidBy := ⟨by decide +kernel, xat_in (p := 8140) rfl, by decide +kernel, by decide +kernel, by decide, by decide +kernel, by decide +kernel⟩
set_option maxRecDepth 100000 in
def pX12_courts : List xRow := [(0, 1, .iconst 0, [], 0, 0),
  (1, 3, .istore 4, [], 0, 0),
  (3, 4, .iconst 0, [], 0, 0),
  (4, 6, .istore 5, [], 0, 0),
  (6, 7, .iconst 0, [], 0, 0),
  (7, 9, .istore 6, [], 0, 0),
  (9, 11, .iload 6, [], 0, 0),
  (11, 12, .aload_n 0, [], 0, 0),
  (12, 15, .getfield 288, [12, 2], 0, 0),
  (15, 18, .if_icmp .ge 80, [95], 0, 0),
  (18, 19, .iload_n 3, [], 0, 0),
  (19, 21, .iload 6, [], 0, 0),
  (21, 22, .ishr, [], 0, 0),
  (22, 23, .iconst 1, [], 1, 0),
  (23, 24, .iand, [], 0, 0),
  (24, 27, .ifCond .ne 6, [30], 0, 0),
  (27, 30, .goto 62, [89], 0, 0),
  (30, 32, .iload 4, [], 0, 0),
  (32, 33, .aload_n 0, [], 0, 0),
  (33, 35, .iload 6, [], 0, 0),
  (35, 36, .iload_n 1, [], 0, 0),
  (36, 37, .aload_n 0, [], 0, 0),
  (37, 40, .getfield 96, [12, 53], 0, 0),
  (40, 42, .iload 6, [], 0, 0),
  (42, 43, .iaload, [], 0, 0),
  (43, 46, .invokevirtual 343, [0, 218], 0, 0),
  (46, 49, .ifCond .eq 7, [53], 0, 0),
  (49, 50, .iconst 1, [], 1, 0),
  (50, 53, .goto 4, [54], 0, 0),
  (53, 54, .iconst 0, [], 0, 0),
  (54, 55, .iadd, [], 0, 0),
  (55, 57, .istore 4, [], 0, 0),
  (57, 59, .iload 5, [], 0, 0),
  (59, 60, .aload_n 0, [], 0, 0),
  (60, 63, .getfield 96, [12, 53], 0, 0),
  (63, 65, .iload 6, [], 0, 0),
  (65, 66, .iaload, [], 0, 0),
  (66, 68, .bipush 8, [], 8, 0),
  (68, 71, .if_icmp .ne 17, [85], 0, 0),
  (71, 72, .aload_n 0, [], 0, 0),
  (72, 74, .iload 6, [], 0, 0),
  (74, 75, .iload_n 1, [], 0, 0),
  (75, 78, .invokevirtual 337, [0, 217], 0, 0),
  (78, 81, .ifCond .eq 7, [85], 0, 0),
  (81, 82, .iconst 1, [], 1, 0),
  (82, 85, .goto 4, [86], 0, 0),
  (85, 86, .iconst 0, [], 0, 0),
  (86, 87, .iadd, [], 0, 0),
  (87, 89, .istore 5, [], 0, 0),
  (89, 92, .iinc 6 1, [], 1, 0),
  (92, 95, .goto (-83), [9], 0, 0),
  (95, 96, .aload_n 0, [], 0, 0),
  (96, 99, .getfield 13, [12, 4], 0, 0),
  (99, 100, .iconst (-1), [], -1, 0),
  (100, 103, .if_icmp .ne 6, [106], 0, 0),
  (103, 105, .iload 4, [], 0, 0),
  (105, 106, .ireturn, [], 0, 0),
  (106, 107, .aload_n 0, [], 0, 0),
  (107, 110, .getfield 72, [12, 44], 0, 0),
  (110, 112, .bipush 6, [], 6, 0),
  (112, 114, .iload 4, [], 0, 0),
  (114, 115, .iastore, [], 0, 0),
  (115, 116, .aload_n 0, [], 0, 0),
  (116, 119, .getfield 72, [12, 44], 0, 0),
  (119, 121, .bipush 7, [], 7, 0),
  (121, 123, .iload 5, [], 0, 0),
  (123, 124, .iastore, [], 0, 0),
  (124, 125, .aload_n 0, [], 0, 0),
  (125, 128, .getfield 72, [12, 44], 0, 0),
  (128, 129, .iconst 4, [], 4, 0),
  (129, 130, .aload_n 0, [], 0, 0),
  (130, 133, .getfield 23, [12, 7], 0, 0),
  (133, 134, .iload_n 1, [], 0, 0),
  (134, 135, .iaload, [], 0, 0),
  (135, 136, .iastore, [], 0, 0),
  (136, 137, .aload_n 0, [], 0, 0),
  (137, 140, .getfield 72, [12, 44], 0, 0),
  (140, 142, .bipush 8, [], 8, 0),
  (142, 143, .aload_n 0, [], 0, 0),
  (143, 144, .iload_n 1, [], 0, 0),
  (144, 145, .iload_n 2, [], 0, 0),
  (145, 148, .invokevirtual 347, [0, 220], 0, 0),
  (148, 149, .iastore, [], 0, 0),
  (149, 150, .aload_n 0, [], 0, 0),
  (150, 153, .getfield 72, [12, 44], 0, 0),
  (153, 154, .iconst 5, [], 5, 0),
  (154, 155, .iload_n 2, [], 0, 0),
  (155, 156, .iastore, [], 0, 0),
  (156, 157, .aload_n 0, [], 0, 0),
  (157, 158, .aload_n 0, [], 0, 0),
  (158, 161, .getfield 13, [12, 4], 0, 0),
  (161, 164, .invokevirtual 322, [0, 209], 0, 0),
  (164, 165, .ireturn, [], 0, 0)]
def mX12_courts : xM := (221, 12, cX12_courts, 7, (some .int), pX12_courts)
set_option maxRecDepth 100000 in
theorem gX12_courts : xgd mX12_courts := ⟨by decide +kernel, xat_in (p := 8136) rfl, by decide +kernel, by decide +kernel, by decide, by decide +kernel, by decide +kernel⟩
set_option maxRecDepth 100000 in
def pX12_accusedBy : List xRow := [(0, 1, .iconst (-1), [], -1, 0),
  (1, 2, .istore_n 3, [], 0, 0),
  (2, 3, .iconst 0, [], 0, 0),
  (3, 5, .istore 4, [], 0, 0),
  (5, 6, .iconst 0, [], 0, 0),
  (6, 8, .istore 5, [], 0, 0),
  (8, 10, .iload 5, [], 0, 0),
  (10, 11, .aload_n 0, [], 0, 0),
  (11, 14, .getfield 285, [12, 1], 0, 0),
  (14, 17, .if_icmp .ge 36, [50], 0, 0),
  (17, 18, .aload_n 0, [], 0, 0),
  (18, 20, .iload 5, [], 0, 0),
  (20, 21, .iload_n 1, [], 0, 0),
  (21, 22, .iload_n 2, [], 0, 0),
  (22, 25, .invokevirtual 350, [0, 221], 0, 0),
  (25, 27, .istore 6, [], 0, 0),
  (27, 29, .iload 6, [], 0, 0),
  (29, 31, .iload 4, [], 0, 0),
  (31, 34, .if_icmp .gt 6, [37], 0, 0),
  (34, 37, .goto 10, [44], 0, 0),
  (37, 39, .iload 5, [], 0, 0),
  (39, 40, .istore_n 3, [], 0, 0),
  (40, 42, .iload 6, [], 0, 0),
  (42, 44, .istore 4, [], 0, 0),
  (44, 47, .iinc 5 1, [], 1, 0),
  (47, 50, .goto (-39), [8], 0, 0),
  (50, 51, .iload_n 3, [], 0, 0),
  (51, 52, .ireturn, [], 0, 0)]
def mX12_accusedBy : xM := (222, 12, cX12_accusedBy, 7, (some .int), pX12_accusedBy)
set_option maxRecDepth 100000 in
theorem gX12_accusedBy : xgd mX12_accusedBy := ⟨by decide +kernel, xat_in (p := 8132) rfl, by decide +kernel, by decide +kernel, by decide, by decide +kernel, by decide +kernel⟩
set_option maxRecDepth 100000 in
def pX12_accusedIn : List xRow := [(0, 1, .aload_n 0, [], 0, 0),
  (1, 2, .iload_n 1, [], 0, 0),
  (2, 5, .invokevirtual 353, [0, 219], 0, 0),
  (5, 6, .aload_n 0, [], 0, 0),
  (6, 7, .iload_n 1, [], 0, 0),
  (7, 9, .bipush 63, [], 63, 0),
  (9, 12, .invokevirtual 356, [0, 222], 0, 0),
  (12, 13, .ireturn, [], 0, 0)]
def mX12_accusedIn : xM := (223, 12, cX12_accusedIn, 2, (some .int), pX12_accusedIn)
set_option maxRecDepth 100000 in
theorem gX12_accusedIn : xgd mX12_accusedIn := ⟨by decide +kernel, xat_in (p := 8124) rfl, by decide +kernel, by decide +kernel, by decide, by decide +kernel, by decide +kernel⟩
set_option maxRecDepth 100000 in
def pX12_lies : List xRow := [(0, 1, .iconst 0, [], 0, 0),
  (1, 2, .istore_n 1, [], 0, 0),
  (2, 3, .iconst 0, [], 0, 0),
  (3, 4, .istore_n 2, [], 0, 0),
  (4, 5, .iload_n 2, [], 0, 0),
  (5, 6, .aload_n 0, [], 0, 0),
  (6, 9, .getfield 66, [12, 41], 0, 0),
  (9, 10, .iconst 0, [], 0, 0),
  (10, 11, .iaload, [], 0, 0),
  (11, 14, .if_icmp .ge 29, [40], 0, 0),
  (14, 15, .iload_n 1, [], 0, 0),
  (15, 16, .aload_n 0, [], 0, 0),
  (16, 19, .getfield 66, [12, 41], 0, 0),
  (19, 21, .bipush 33, [], 33, 0),
  (21, 22, .iload_n 2, [], 0, 0),
  (22, 23, .iadd, [], 0, 0),
  (23, 24, .iaload, [], 0, 0),
  (24, 27, .ifCond .le 7, [31], 0, 0),
  (27, 28, .iconst 1, [], 1, 0),
  (28, 31, .goto 4, [32], 0, 0),
  (31, 32, .iconst 0, [], 0, 0),
  (32, 33, .iadd, [], 0, 0),
  (33, 34, .istore_n 1, [], 0, 0),
  (34, 37, .iinc 2 1, [], 1, 0),
  (37, 40, .goto (-33), [4], 0, 0),
  (40, 41, .iload_n 1, [], 0, 0),
  (41, 42, .ireturn, [], 0, 0)]
def mX12_lies : xM := (224, 12, cX12_lies, 3, (some .int), pX12_lies)
set_option maxRecDepth 100000 in
theorem gX12_lies : xgd mX12_lies := ⟨by decide +kernel, xat_in (p := 8002) rfl, by decide +kernel, by decide +kernel, by decide, by decide +kernel, by decide +kernel⟩
set_option maxRecDepth 100000 in
def pX12_lastHour : List xRow := [(0, 1, .iconst (-1), [], -1, 0),
  (1, 2, .istore_n 1, [], 0, 0),
  (2, 3, .iconst 0, [], 0, 0),
  (3, 4, .istore_n 2, [], 0, 0),
  (4, 5, .iload_n 2, [], 0, 0),
  (5, 6, .aload_n 0, [], 0, 0),
  (6, 9, .getfield 66, [12, 41], 0, 0),
  (9, 10, .iconst 0, [], 0, 0),
  (10, 11, .iaload, [], 0, 0),
  (11, 14, .if_icmp .ge 34, [45], 0, 0),
  (14, 15, .aload_n 0, [], 0, 0),
  (15, 18, .getfield 66, [12, 41], 0, 0),
  (18, 19, .iconst 1, [], 1, 0),
  (19, 20, .iload_n 2, [], 0, 0),
  (20, 21, .iadd, [], 0, 0),
  (21, 22, .iaload, [], 0, 0),
  (22, 23, .iload_n 1, [], 0, 0),
  (23, 26, .if_icmp .le 14, [37], 0, 0),
  (26, 27, .aload_n 0, [], 0, 0),
  (27, 30, .getfield 66, [12, 41], 0, 0),
  (30, 31, .iconst 1, [], 1, 0),
  (31, 32, .iload_n 2, [], 0, 0),
  (32, 33, .iadd, [], 0, 0),
  (33, 34, .iaload, [], 0, 0),
  (34, 37, .goto 4, [38], 0, 0),
  (37, 38, .iload_n 1, [], 0, 0),
  (38, 39, .istore_n 1, [], 0, 0),
  (39, 42, .iinc 2 1, [], 1, 0),
  (42, 45, .goto (-38), [4], 0, 0),
  (45, 46, .iload_n 1, [], 0, 0),
  (46, 47, .ireturn, [], 0, 0)]
def mX12_lastHour : xM := (225, 12, cX12_lastHour, 3, (some .int), pX12_lastHour)
set_option maxRecDepth 100000 in
theorem gX12_lastHour : xgd mX12_lastHour := ⟨by decide +kernel, xat_in (p := 8006) rfl, by decide +kernel, by decide +kernel, by decide, by decide +kernel, by decide +kernel⟩
set_option maxRecDepth 100000 in
def pX12_mostLies : List xRow := [(0, 1, .iconst 0, [], 0, 0),
  (1, 2, .istore_n 1, [], 0, 0),
  (2, 3, .iconst 0, [], 0, 0),
  (3, 4, .istore_n 2, [], 0, 0),
  (4, 5, .iload_n 2, [], 0, 0),
  (5, 7, .bipush 100, [], 100, 0),
  (7, 10, .if_icmp .ge 76, [83], 0, 0),
  (10, 11, .iconst 0, [], 0, 0),
  (11, 12, .istore_n 3, [], 0, 0),
  (12, 13, .iconst 0, [], 0, 0),
  (13, 15, .istore 4, [], 0, 0),
  (15, 17, .iload 4, [], 0, 0),
  (17, 18, .aload_n 0, [], 0, 0),
  (18, 21, .getfield 66, [12, 41], 0, 0),
  (21, 22, .iconst 0, [], 0, 0),
  (22, 23, .iaload, [], 0, 0),
  (23, 26, .if_icmp .ge 43, [66], 0, 0),
  (26, 27, .iload_n 3, [], 0, 0),
  (27, 28, .aload_n 0, [], 0, 0),
  (28, 31, .getfield 66, [12, 41], 0, 0),
  (31, 32, .iconst 1, [], 1, 0),
  (32, 34, .iload 4, [], 0, 0),
  (34, 35, .iadd, [], 0, 0),
  (35, 36, .iaload, [], 0, 0),
  (36, 37, .iload_n 2, [], 0, 0),
  (37, 40, .if_icmp .ne 20, [57], 0, 0),
  (40, 41, .aload_n 0, [], 0, 0),
  (41, 44, .getfield 66, [12, 41], 0, 0),
  (44, 46, .bipush 33, [], 33, 0),
  (46, 48, .iload 4, [], 0, 0),
  (48, 49, .iadd, [], 0, 0),
  (49, 50, .iaload, [], 0, 0),
  (50, 53, .ifCond .le 7, [57], 0, 0),
  (53, 54, .iconst 1, [], 1, 0),
  (54, 57, .goto 4, [58], 0, 0),
  (57, 58, .iconst 0, [], 0, 0),
  (58, 59, .iadd, [], 0, 0),
  (59, 60, .istore_n 3, [], 0, 0),
  (60, 63, .iinc 4 1, [], 1, 0),
  (63, 66, .goto (-48), [15], 0, 0),
  (66, 67, .iload_n 3, [], 0, 0),
  (67, 68, .iload_n 1, [], 0, 0),
  (68, 71, .if_icmp .le 7, [75], 0, 0),
  (71, 72, .iload_n 3, [], 0, 0),
  (72, 75, .goto 4, [76], 0, 0),
  (75, 76, .iload_n 1, [], 0, 0),
  (76, 77, .istore_n 1, [], 0, 0),
  (77, 80, .iinc 2 1, [], 1, 0),
  (80, 83, .goto (-76), [4], 0, 0),
  (83, 84, .iload_n 1, [], 0, 0),
  (84, 85, .ireturn, [], 0, 0)]
def mX12_mostLies : xM := (226, 12, cX12_mostLies, 5, (some .int), pX12_mostLies)
set_option maxRecDepth 100000 in
theorem gX12_mostLies : xgd mX12_mostLies := ⟨by decide +kernel, xat_in (p := 8010) rfl, by decide +kernel, by decide +kernel, by decide, by decide +kernel, by decide +kernel⟩
set_option maxRecDepth 100000 in
def pX12_count : List xRow := [(0, 1, .aload_n 0, [], 0, 0),
  (1, 2, .iconst 0, [], 0, 0),
  (2, 5, .putfield 117, [12, 0], 0, 0),
  (5, 6, .aload_n 0, [], 0, 0),
  (6, 7, .iload_n 1, [], 0, 0),
  (7, 8, .iconst 0, [], 0, 0),
  (8, 10, .bipush 11, [], 11, 0),
  (10, 13, .invokestatic 359, [1, 169], 0, 0),
  (13, 14, .iconst 1, [], 1, 0),
  (14, 17, .invokevirtual 278, [0, 168], 0, 0),
  (17, 20, .ifCond .ne 5, [22], 0, 0),
  (20, 21, .iconst 0, [], 0, 0),
  (21, 22, .ireturn, [], 0, 0),
  (22, 23, .iload_n 1, [], 0, 0),
  (23, 84, .tableswitch 108 0 11 #[61, 66, 71, 78, 83, 88, 93, 108, 108, 108, 98, 103], [], 0, 0),
  (84, 85, .aload_n 0, [], 0, 0),
  (85, 88, .getfield 285, [12, 1], 0, 0),
  (88, 89, .ireturn, [], 0, 0),
  (89, 90, .aload_n 0, [], 0, 0),
  (90, 93, .getfield 288, [12, 2], 0, 0),
  (93, 94, .ireturn, [], 0, 0),
  (94, 95, .aload_n 0, [], 0, 0),
  (95, 98, .getfield 66, [12, 41], 0, 0),
  (98, 99, .iconst 0, [], 0, 0),
  (99, 100, .iaload, [], 0, 0),
  (100, 101, .ireturn, [], 0, 0),
  (101, 102, .aload_n 0, [], 0, 0),
  (102, 105, .invokevirtual 362, [0, 224], 0, 0),
  (105, 106, .ireturn, [], 0, 0),
  (106, 107, .aload_n 0, [], 0, 0),
  (107, 110, .getfield 295, [12, 43], 0, 0),
  (110, 111, .ireturn, [], 0, 0),
  (111, 112, .aload_n 0, [], 0, 0),
  (112, 115, .getfield 298, [12, 56], 0, 0),
  (115, 116, .ireturn, [], 0, 0),
  (116, 117, .aload_n 0, [], 0, 0),
  (117, 120, .getfield 120, [12, 11], 0, 0),
  (120, 121, .ireturn, [], 0, 0),
  (121, 122, .aload_n 0, [], 0, 0),
  (122, 125, .invokevirtual 365, [0, 225], 0, 0),
  (125, 126, .ireturn, [], 0, 0),
  (126, 127, .aload_n 0, [], 0, 0),
  (127, 130, .invokevirtual 368, [0, 226], 0, 0),
  (130, 131, .ireturn, [], 0, 0),
  (131, 132, .aload_n 0, [], 0, 0),
  (132, 135, .getfield 38, [12, 14], 0, 0),
  (135, 136, .iload_n 1, [], 0, 0),
  (136, 138, .bipush 7, [], 7, 0),
  (138, 139, .isub, [], 0, 0),
  (139, 140, .iaload, [], 0, 0),
  (140, 141, .ireturn, [], 0, 0)]
def mX12_count : xM := (227, 12, cX12_count, 2, (some .int), pX12_count)
set_option maxRecDepth 100000 in
theorem gX12_count : xgd mX12_count := ⟨by decide +kernel, xat_in (p := 7235) rfl, by decide +kernel, by decide +kernel, by decide, by decide +kernel, by decide +kernel⟩
set_option maxRecDepth 100000 in
def pX12_isPerson : List xRow := [(0, 1, .aload_n 0, [], 0, 0),
  (1, 2, .iload_n 1, [], 0, 0),
  (2, 5, .ifCond .lt 15, [17], 0, 0),
  (5, 6, .iload_n 1, [], 0, 0),
  (6, 7, .aload_n 0, [], 0, 0),
  (7, 10, .getfield 285, [12, 1], 0, 0),
  (10, 13, .if_icmp .ge 7, [17], 0, 0),
  (13, 14, .iconst 1, [], 1, 0),
  (14, 17, .goto 4, [18], 0, 0),
  (17, 18, .iconst 0, [], 0, 0),
  (18, 19, .iconst 1, [], 1, 0),
  (19, 22, .invokevirtual 278, [0, 168], 0, 0),
  (22, 23, .ireturn, [], 0, 0)]
def mX12_isPerson : xM := (228, 12, cX12_isPerson, 2, (some .boolean), pX12_isPerson)
set_option maxRecDepth 100000 in
theorem gX12_isPerson : xgd mX12_isPerson := ⟨by decide +kernel, xat_in (p := 8018) rfl, by decide +kernel, by decide +kernel, by decide, by decide +kernel, by decide +kernel⟩
set_option maxRecDepth 100000 in
def pX12_isNeedle : List xRow := [(0, 1, .aload_n 0, [], 0, 0),
  (1, 2, .iload_n 1, [], 0, 0),
  (2, 5, .ifCond .lt 15, [17], 0, 0),
  (5, 6, .iload_n 1, [], 0, 0),
  (6, 7, .aload_n 0, [], 0, 0),
  (7, 10, .getfield 288, [12, 2], 0, 0),
  (10, 13, .if_icmp .ge 7, [17], 0, 0),
  (13, 14, .iconst 1, [], 1, 0),
  (14, 17, .goto 4, [18], 0, 0),
  (17, 18, .iconst 0, [], 0, 0),
  (18, 19, .iconst 1, [], 1, 0),
  (19, 22, .invokevirtual 278, [0, 168], 0, 0),
  (22, 23, .ireturn, [], 0, 0)]
def mX12_isNeedle : xM := (229, 12, cX12_isNeedle, 2, (some .boolean), pX12_isNeedle)
set_option maxRecDepth 100000 in
theorem gX12_isNeedle : xgd mX12_isNeedle := ⟨by decide +kernel, xat_in (p := 8045) rfl, by decide +kernel, by decide +kernel, by decide, by decide +kernel, by decide +kernel⟩
set_option maxRecDepth 100000 in
def pX12_isHour : List xRow := [(0, 1, .aload_n 0, [], 0, 0),
  (1, 2, .iload_n 1, [], 0, 0),
  (2, 3, .iconst 0, [], 0, 0),
  (3, 5, .bipush 99, [], 99, 0),
  (5, 8, .invokestatic 359, [1, 169], 0, 0),
  (8, 9, .iconst 1, [], 1, 0),
  (9, 12, .invokevirtual 278, [0, 168], 0, 0),
  (12, 13, .ireturn, [], 0, 0)]
def mX12_isHour : xM := (230, 12, cX12_isHour, 2, (some .boolean), pX12_isHour)
set_option maxRecDepth 100000 in
theorem gX12_isHour : xgd mX12_isHour := ⟨by decide +kernel, xat_in (p := 8104) rfl, by decide +kernel, by decide +kernel, by decide, by decide +kernel, by decide +kernel⟩
set_option maxRecDepth 100000 in
def pX12_isWhat : List xRow := [(0, 1, .aload_n 0, [], 0, 0),
  (1, 2, .iload_n 1, [], 0, 0),
  (2, 3, .iconst 0, [], 0, 0),
  (3, 4, .iload_n 2, [], 0, 0),
  (4, 7, .invokestatic 359, [1, 169], 0, 0),
  (7, 8, .iconst 1, [], 1, 0),
  (8, 11, .invokevirtual 278, [0, 168], 0, 0),
  (11, 12, .ireturn, [], 0, 0)]
def mX12_isWhat : xM := (231, 12, cX12_isWhat, 3, (some .boolean), pX12_isWhat)
set_option maxRecDepth 100000 in
theorem gX12_isWhat : xgd mX12_isWhat := ⟨by decide +kernel, xat_in (p := 8022) rfl, by decide +kernel, by decide +kernel, by decide, by decide +kernel, by decide +kernel⟩
set_option maxRecDepth 100000 in
def pX12_one : List xRow := [(0, 1, .aload_n 0, [], 0, 0),
  (1, 2, .iconst 0, [], 0, 0),
  (2, 5, .putfield 117, [12, 0], 0, 0),
  (5, 6, .aload_n 0, [], 0, 0),
  (6, 7, .iload_n 1, [], 0, 0),
  (7, 10, .invokevirtual 371, [0, 228], 0, 0),
  (10, 13, .ifCond .eq 12, [22], 0, 0),
  (13, 14, .aload_n 0, [], 0, 0),
  (14, 15, .iload_n 2, [], 0, 0),
  (15, 16, .iconst 4, [], 4, 0),
  (16, 19, .invokevirtual 374, [0, 231], 0, 0),
  (19, 22, .ifCond .ne 5, [24], 0, 0),
  (22, 23, .iconst 0, [], 0, 0),
  (23, 24, .ireturn, [], 0, 0),
  (24, 25, .aload_n 0, [], 0, 0),
  (25, 26, .iconst 1, [], 1, 0),
  (26, 29, .invokevirtual 377, [0, 211], 0, 0),
  (29, 30, .iconst 0, [], 0, 0),
  (30, 31, .istore_n 3, [], 0, 0),
  (31, 32, .iload_n 2, [], 0, 0),
  (32, 64, .tableswitch 95 0 3 #[32, 39, 46, 53], [], 0, 0),
  (64, 65, .aload_n 0, [], 0, 0),
  (65, 68, .getfield 16, [12, 5], 0, 0),
  (68, 69, .iload_n 1, [], 0, 0),
  (69, 70, .iaload, [], 0, 0),
  (70, 71, .ireturn, [], 0, 0),
  (71, 72, .aload_n 0, [], 0, 0),
  (72, 75, .getfield 20, [12, 6], 0, 0),
  (75, 76, .iload_n 1, [], 0, 0),
  (76, 77, .iaload, [], 0, 0),
  (77, 78, .ireturn, [], 0, 0),
  (78, 79, .aload_n 0, [], 0, 0),
  (79, 82, .getfield 23, [12, 7], 0, 0),
  (82, 83, .iload_n 1, [], 0, 0),
  (83, 84, .iaload, [], 0, 0),
  (84, 85, .ireturn, [], 0, 0),
  (85, 86, .iconst 0, [], 0, 0),
  (86, 88, .istore 4, [], 0, 0),
  (88, 90, .iload 4, [], 0, 0),
  (90, 91, .aload_n 0, [], 0, 0),
  (91, 94, .getfield 309, [12, 46], 0, 0),
  (94, 97, .if_icmp .ge 31, [125], 0, 0),
  (97, 98, .iload_n 3, [], 0, 0),
  (98, 99, .aload_n 0, [], 0, 0),
  (99, 102, .getfield 81, [12, 48], 0, 0),
  (102, 104, .iload 4, [], 0, 0),
  (104, 105, .iaload, [], 0, 0),
  (105, 106, .iload_n 1, [], 0, 0),
  (106, 109, .if_icmp .ne 10, [116], 0, 0),
  (109, 110, .iconst 1, [], 1, 0),
  (110, 112, .iload 4, [], 0, 0),
  (112, 113, .ishl, [], 0, 0),
  (113, 116, .goto 4, [117], 0, 0),
  (116, 117, .iconst 0, [], 0, 0),
  (117, 118, .ior, [], 0, 0),
  (118, 119, .istore_n 3, [], 0, 0),
  (119, 122, .iinc 4 1, [], 1, 0),
  (122, 125, .goto (-34), [88], 0, 0),
  (125, 126, .iload_n 3, [], 0, 0),
  (126, 127, .ireturn, [], 0, 0),
  (127, 128, .iconst 0, [], 0, 0),
  (128, 130, .istore 4, [], 0, 0),
  (130, 132, .iload 4, [], 0, 0),
  (132, 133, .aload_n 0, [], 0, 0),
  (133, 136, .getfield 288, [12, 2], 0, 0),
  (136, 139, .if_icmp .ge 37, [173], 0, 0),
  (139, 140, .iload_n 3, [], 0, 0),
  (140, 141, .aload_n 0, [], 0, 0),
  (141, 143, .iload 4, [], 0, 0),
  (143, 144, .iload_n 1, [], 0, 0),
  (144, 147, .invokevirtual 319, [0, 212], 0, 0),
  (147, 148, .aload_n 0, [], 0, 0),
  (148, 151, .getfield 26, [12, 8], 0, 0),
  (151, 153, .iload 4, [], 0, 0),
  (153, 154, .iaload, [], 0, 0),
  (154, 157, .if_icmp .gt 10, [164], 0, 0),
  (157, 158, .iconst 1, [], 1, 0),
  (158, 160, .iload 4, [], 0, 0),
  (160, 161, .ishl, [], 0, 0),
  (161, 164, .goto 4, [165], 0, 0),
  (164, 165, .iconst 0, [], 0, 0),
  (165, 166, .ior, [], 0, 0),
  (166, 167, .istore_n 3, [], 0, 0),
  (167, 170, .iinc 4 1, [], 1, 0),
  (170, 173, .goto (-40), [130], 0, 0),
  (173, 174, .iload_n 3, [], 0, 0),
  (174, 175, .ireturn, [], 0, 0)]
def mX12_one : xM := (232, 12, cX12_one, 5, (some .int), pX12_one)
set_option maxRecDepth 100000 in
theorem gX12_one : xgd mX12_one := ⟨by decide +kernel, xat_in (p := 8014) rfl, by decide +kernel, by decide +kernel, by decide, by decide +kernel, by decide +kernel⟩
set_option maxRecDepth 100000 in
def pX12_quivers : List xRow := [(0, 1, .iconst 0, [], 0, 0),
  (1, 2, .istore_n 2, [], 0, 0),
  (2, 3, .aload_n 0, [], 0, 0),
  (3, 4, .iload_n 1, [], 0, 0),
  (4, 5, .iconst 0, [], 0, 0),
  (5, 8, .invokevirtual 340, [0, 216], 0, 0),
  (8, 9, .istore_n 3, [], 0, 0),
  (9, 10, .iconst 1, [], 1, 0),
  (10, 12, .istore 4, [], 0, 0),
  (12, 14, .iload 4, [], 0, 0),
  (14, 16, .bipush 100, [], 100, 0),
  (16, 19, .if_icmp .ge 35, [51], 0, 0),
  (19, 20, .aload_n 0, [], 0, 0),
  (20, 21, .iload_n 1, [], 0, 0),
  (21, 23, .iload 4, [], 0, 0),
  (23, 26, .invokevirtual 340, [0, 216], 0, 0),
  (26, 28, .istore 5, [], 0, 0),
  (28, 29, .iload_n 2, [], 0, 0),
  (29, 31, .iload 5, [], 0, 0),
  (31, 32, .iload_n 3, [], 0, 0),
  (32, 35, .if_icmp .eq 7, [39], 0, 0),
  (35, 36, .iconst 1, [], 1, 0),
  (36, 39, .goto 4, [40], 0, 0),
  (39, 40, .iconst 0, [], 0, 0),
  (40, 41, .iadd, [], 0, 0),
  (41, 42, .istore_n 2, [], 0, 0),
  (42, 44, .iload 5, [], 0, 0),
  (44, 45, .istore_n 3, [], 0, 0),
  (45, 48, .iinc 4 1, [], 1, 0),
  (48, 51, .goto (-36), [12], 0, 0),
  (51, 52, .iload_n 2, [], 0, 0),
  (52, 53, .ireturn, [], 0, 0)]
def mX12_quivers : xM := (233, 12, cX12_quivers, 6, (some .int), pX12_quivers)
set_option maxRecDepth 100000 in
theorem gX12_quivers : xgd mX12_quivers := ⟨by decide +kernel, xat_in (p := 8060) rfl, by decide +kernel, by decide +kernel, by decide, by decide +kernel, by decide +kernel⟩
set_option maxRecDepth 100000 in
def pX12_worthOf : List xRow := [(0, 1, .iconst 0, [], 0, 0),
  (1, 2, .istore_n 2, [], 0, 0),
  (2, 3, .iconst 0, [], 0, 0),
  (3, 4, .istore_n 3, [], 0, 0),
  (4, 5, .iload_n 3, [], 0, 0),
  (5, 6, .aload_n 0, [], 0, 0),
  (6, 9, .getfield 309, [12, 46], 0, 0),
  (9, 12, .if_icmp .ge 79, [88], 0, 0),
  (12, 13, .aload_n 0, [], 0, 0),
  (13, 14, .iload_n 1, [], 0, 0),
  (14, 15, .iload_n 3, [], 0, 0),
  (15, 18, .invokevirtual 325, [0, 213], 0, 0),
  (18, 21, .ifCond .ne 6, [24], 0, 0),
  (21, 24, .goto 61, [82], 0, 0),
  (24, 25, .aload_n 0, [], 0, 0),
  (25, 26, .iload_n 1, [], 0, 0),
  (26, 27, .aload_n 0, [], 0, 0),
  (27, 30, .getfield 78, [12, 47], 0, 0),
  (30, 31, .iload_n 3, [], 0, 0),
  (31, 32, .iaload, [], 0, 0),
  (32, 35, .invokevirtual 340, [0, 216], 0, 0),
  (35, 37, .istore 4, [], 0, 0),
  (37, 38, .iload_n 2, [], 0, 0),
  (38, 39, .aload_n 0, [], 0, 0),
  (39, 40, .iload_n 1, [], 0, 0),
  (40, 41, .aload_n 0, [], 0, 0),
  (41, 44, .getfield 81, [12, 48], 0, 0),
  (44, 45, .iload_n 3, [], 0, 0),
  (45, 46, .iaload, [], 0, 0),
  (46, 48, .iload 4, [], 0, 0),
  (48, 51, .invokevirtual 343, [0, 218], 0, 0),
  (51, 54, .ifCond .ne 24, [75], 0, 0),
  (54, 56, .iload 4, [], 0, 0),
  (56, 58, .bipush 8, [], 8, 0),
  (58, 61, .if_icmp .ne 21, [79], 0, 0),
  (61, 62, .aload_n 0, [], 0, 0),
  (62, 63, .iload_n 1, [], 0, 0),
  (63, 64, .aload_n 0, [], 0, 0),
  (64, 67, .getfield 81, [12, 48], 0, 0),
  (67, 68, .iload_n 3, [], 0, 0),
  (68, 69, .iaload, [], 0, 0),
  (69, 72, .invokevirtual 337, [0, 217], 0, 0),
  (72, 75, .ifCond .eq 7, [79], 0, 0),
  (75, 76, .iconst 1, [], 1, 0),
  (76, 79, .goto 4, [80], 0, 0),
  (79, 80, .iconst (-1), [], -1, 0),
  (80, 81, .iadd, [], 0, 0),
  (81, 82, .istore_n 2, [], 0, 0),
  (82, 85, .iinc 3 1, [], 1, 0),
  (85, 88, .goto (-81), [4], 0, 0),
  (88, 89, .iload_n 2, [], 0, 0),
  (89, 90, .ireturn, [], 0, 0)]
def mX12_worthOf : xM := (234, 12, cX12_worthOf, 5, (some .int), pX12_worthOf)
set_option maxRecDepth 100000 in
theorem gX12_worthOf : xgd mX12_worthOf := ⟨by decide +kernel, xat_in (p := 8076) rfl, by decide +kernel, by decide +kernel, by decide, by decide +kernel, by decide +kernel⟩
set_option maxRecDepth 100000 in
def pX12_needle : List xRow := [(0, 1, .aload_n 0, [], 0, 0),
  (1, 2, .iconst 0, [], 0, 0),
  (2, 5, .putfield 117, [12, 0], 0, 0),
  (5, 6, .aload_n 0, [], 0, 0),
  (6, 7, .iload_n 1, [], 0, 0),
  (7, 10, .invokevirtual 380, [0, 229], 0, 0),
  (10, 13, .ifCond .eq 13, [23], 0, 0),
  (13, 14, .aload_n 0, [], 0, 0),
  (14, 15, .iload_n 2, [], 0, 0),
  (15, 17, .bipush 6, [], 6, 0),
  (17, 20, .invokevirtual 374, [0, 231], 0, 0),
  (20, 23, .ifCond .ne 5, [25], 0, 0),
  (23, 24, .iconst 0, [], 0, 0),
  (24, 25, .ireturn, [], 0, 0),
  (25, 26, .aload_n 0, [], 0, 0),
  (26, 27, .iconst 1, [], 1, 0),
  (27, 30, .invokevirtual 377, [0, 211], 0, 0),
  (30, 31, .iconst 0, [], 0, 0),
  (31, 32, .istore_n 3, [], 0, 0),
  (32, 33, .iload_n 2, [], 0, 0),
  (33, 72, .tableswitch 114 0 5 #[39, 46, 53, 60, 67, 108], [], 0, 0),
  (72, 73, .aload_n 0, [], 0, 0),
  (73, 76, .getfield 87, [12, 50], 0, 0),
  (76, 77, .iload_n 1, [], 0, 0),
  (77, 78, .iaload, [], 0, 0),
  (78, 79, .ireturn, [], 0, 0),
  (79, 80, .aload_n 0, [], 0, 0),
  (80, 83, .getfield 90, [12, 51], 0, 0),
  (83, 84, .iload_n 1, [], 0, 0),
  (84, 85, .iaload, [], 0, 0),
  (85, 86, .ireturn, [], 0, 0),
  (86, 87, .aload_n 0, [], 0, 0),
  (87, 90, .getfield 26, [12, 8], 0, 0),
  (90, 91, .iload_n 1, [], 0, 0),
  (91, 92, .iaload, [], 0, 0),
  (92, 93, .ireturn, [], 0, 0),
  (93, 94, .aload_n 0, [], 0, 0),
  (94, 97, .getfield 93, [12, 52], 0, 0),
  (97, 98, .iload_n 1, [], 0, 0),
  (98, 99, .iaload, [], 0, 0),
  (99, 100, .ireturn, [], 0, 0),
  (100, 101, .iconst 0, [], 0, 0),
  (101, 103, .istore 4, [], 0, 0),
  (103, 105, .iload 4, [], 0, 0),
  (105, 106, .aload_n 0, [], 0, 0),
  (106, 109, .getfield 309, [12, 46], 0, 0),
  (109, 112, .if_icmp .ge 30, [139], 0, 0),
  (112, 113, .iload_n 3, [], 0, 0),
  (113, 114, .aload_n 0, [], 0, 0),
  (114, 115, .iload_n 1, [], 0, 0),
  (115, 117, .iload 4, [], 0, 0),
  (117, 120, .invokevirtual 325, [0, 213], 0, 0),
  (120, 123, .ifCond .eq 10, [130], 0, 0),
  (123, 124, .iconst 1, [], 1, 0),
  (124, 126, .iload 4, [], 0, 0),
  (126, 127, .ishl, [], 0, 0),
  (127, 130, .goto 4, [131], 0, 0),
  (130, 131, .iconst 0, [], 0, 0),
  (131, 132, .ior, [], 0, 0),
  (132, 133, .istore_n 3, [], 0, 0),
  (133, 136, .iinc 4 1, [], 1, 0),
  (136, 139, .goto (-33), [103], 0, 0),
  (139, 140, .iload_n 3, [], 0, 0),
  (140, 141, .ireturn, [], 0, 0),
  (141, 142, .aload_n 0, [], 0, 0),
  (142, 143, .iload_n 1, [], 0, 0),
  (143, 146, .invokevirtual 383, [0, 233], 0, 0),
  (146, 147, .ireturn, [], 0, 0),
  (147, 148, .aload_n 0, [], 0, 0),
  (148, 149, .iload_n 1, [], 0, 0),
  (149, 152, .invokevirtual 386, [0, 234], 0, 0),
  (152, 153, .ireturn, [], 0, 0)]
def mX12_needle : xM := (235, 12, cX12_needle, 5, (some .int), pX12_needle)
set_option maxRecDepth 100000 in
theorem gX12_needle : xgd mX12_needle := ⟨by decide +kernel, xat_in (p := 8041) rfl, by decide +kernel, by decide +kernel, by decide, by decide +kernel, by decide +kernel⟩
set_option maxRecDepth 100000 in
def pX12_isSaying : List xRow := [(0, 1, .aload_n 0, [], 0, 0),
  (1, 2, .iload_n 1, [], 0, 0),
  (2, 5, .ifCond .lt 17, [19], 0, 0),
  (5, 6, .iload_n 1, [], 0, 0),
  (6, 7, .aload_n 0, [], 0, 0),
  (7, 10, .getfield 66, [12, 41], 0, 0),
  (10, 11, .iconst 0, [], 0, 0),
  (11, 12, .iaload, [], 0, 0),
  (12, 15, .if_icmp .ge 7, [19], 0, 0),
  (15, 16, .iconst 1, [], 1, 0),
  (16, 19, .goto 4, [20], 0, 0),
  (19, 20, .iconst 0, [], 0, 0),
  (20, 21, .iconst 1, [], 1, 0),
  (21, 24, .invokevirtual 278, [0, 168], 0, 0),
  (24, 25, .ireturn, [], 0, 0)]
def mX12_isSaying : xM := (236, 12, cX12_isSaying, 2, (some .boolean), pX12_isSaying)
set_option maxRecDepth 100000 in
theorem gX12_isSaying : xgd mX12_isSaying := ⟨by decide +kernel, xat_in (p := 8092) rfl, by decide +kernel, by decide +kernel, by decide, by decide +kernel, by decide +kernel⟩
set_option maxRecDepth 100000 in
def pX12_heardBy : List xRow := [(0, 1, .iconst 0, [], 0, 0),
  (1, 2, .istore_n 2, [], 0, 0),
  (2, 3, .iconst 0, [], 0, 0),
  (3, 4, .istore_n 3, [], 0, 0),
  (4, 5, .iload_n 3, [], 0, 0),
  (5, 6, .aload_n 0, [], 0, 0),
  (6, 9, .getfield 288, [12, 2], 0, 0),
  (9, 12, .if_icmp .ge 28, [37], 0, 0),
  (12, 13, .iload_n 2, [], 0, 0),
  (13, 14, .aload_n 0, [], 0, 0),
  (14, 15, .iload_n 3, [], 0, 0),
  (15, 16, .iload_n 1, [], 0, 0),
  (16, 19, .invokevirtual 325, [0, 213], 0, 0),
  (19, 22, .ifCond .eq 9, [28], 0, 0),
  (22, 23, .iconst 1, [], 1, 0),
  (23, 24, .iload_n 3, [], 0, 0),
  (24, 25, .ishl, [], 0, 0),
  (25, 28, .goto 4, [29], 0, 0),
  (28, 29, .iconst 0, [], 0, 0),
  (29, 30, .ior, [], 0, 0),
  (30, 31, .istore_n 2, [], 0, 0),
  (31, 34, .iinc 3 1, [], 1, 0),
  (34, 37, .goto (-30), [4], 0, 0),
  (37, 38, .iload_n 2, [], 0, 0),
  (38, 39, .ireturn, [], 0, 0)]
def mX12_heardBy : xM := (237, 12, cX12_heardBy, 4, (some .int), pX12_heardBy)
set_option maxRecDepth 100000 in
theorem gX12_heardBy : xgd mX12_heardBy := ⟨by decide +kernel, xat_in (p := 8096) rfl, by decide +kernel, by decide +kernel, by decide, by decide +kernel, by decide +kernel⟩
set_option maxRecDepth 100000 in
def pX12_saying : List xRow := [(0, 1, .aload_n 0, [], 0, 0),
  (1, 2, .iconst 0, [], 0, 0),
  (2, 5, .putfield 117, [12, 0], 0, 0),
  (5, 6, .aload_n 0, [], 0, 0),
  (6, 7, .iload_n 1, [], 0, 0),
  (7, 10, .invokevirtual 389, [0, 236], 0, 0),
  (10, 13, .ifCond .eq 12, [22], 0, 0),
  (13, 14, .aload_n 0, [], 0, 0),
  (14, 15, .iload_n 2, [], 0, 0),
  (15, 16, .iconst 3, [], 3, 0),
  (16, 19, .invokevirtual 374, [0, 231], 0, 0),
  (19, 22, .ifCond .ne 5, [24], 0, 0),
  (22, 23, .iconst 0, [], 0, 0),
  (23, 24, .ireturn, [], 0, 0),
  (24, 25, .aload_n 0, [], 0, 0),
  (25, 26, .iconst 1, [], 1, 0),
  (26, 29, .invokevirtual 377, [0, 211], 0, 0),
  (29, 30, .iload_n 2, [], 0, 0),
  (30, 33, .ifCond .ne 12, [42], 0, 0),
  (33, 34, .aload_n 0, [], 0, 0),
  (34, 37, .getfield 78, [12, 47], 0, 0),
  (37, 38, .iload_n 1, [], 0, 0),
  (38, 39, .iaload, [], 0, 0),
  (39, 42, .goto 36, [75], 0, 0),
  (42, 43, .iload_n 2, [], 0, 0),
  (43, 44, .iconst 1, [], 1, 0),
  (44, 47, .if_icmp .ne 12, [56], 0, 0),
  (47, 48, .aload_n 0, [], 0, 0),
  (48, 51, .getfield 81, [12, 48], 0, 0),
  (51, 52, .iload_n 1, [], 0, 0),
  (52, 53, .iaload, [], 0, 0),
  (53, 56, .goto 22, [75], 0, 0),
  (56, 57, .iload_n 2, [], 0, 0),
  (57, 58, .iconst 2, [], 2, 0),
  (58, 61, .if_icmp .ne 12, [70], 0, 0),
  (61, 62, .aload_n 0, [], 0, 0),
  (62, 65, .getfield 84, [12, 49], 0, 0),
  (65, 66, .iload_n 1, [], 0, 0),
  (66, 67, .iaload, [], 0, 0),
  (67, 70, .goto 8, [75], 0, 0),
  (70, 71, .aload_n 0, [], 0, 0),
  (71, 72, .iload_n 1, [], 0, 0),
  (72, 75, .invokevirtual 392, [0, 237], 0, 0),
  (75, 76, .ireturn, [], 0, 0)]
def mX12_saying : xM := (238, 12, cX12_saying, 3, (some .int), pX12_saying)
set_option maxRecDepth 100000 in
theorem gX12_saying : xgd mX12_saying := ⟨by decide +kernel, xat_in (p := 8088) rfl, by decide +kernel, by decide +kernel, by decide, by decide +kernel, by decide +kernel⟩
set_option maxRecDepth 100000 in
def pX12_shows : List xRow := [(0, 1, .aload_n 0, [], 0, 0),
  (1, 2, .iconst 0, [], 0, 0),
  (2, 5, .putfield 117, [12, 0], 0, 0),
  (5, 6, .aload_n 0, [], 0, 0),
  (6, 7, .iload_n 1, [], 0, 0),
  (7, 10, .invokevirtual 380, [0, 229], 0, 0),
  (10, 13, .ifCond .eq 11, [21], 0, 0),
  (13, 14, .aload_n 0, [], 0, 0),
  (14, 15, .iload_n 2, [], 0, 0),
  (15, 18, .invokevirtual 395, [0, 230], 0, 0),
  (18, 21, .ifCond .ne 5, [23], 0, 0),
  (21, 22, .iconst 0, [], 0, 0),
  (22, 23, .ireturn, [], 0, 0),
  (23, 24, .aload_n 0, [], 0, 0),
  (24, 25, .iconst 1, [], 1, 0),
  (25, 28, .invokevirtual 377, [0, 211], 0, 0),
  (28, 29, .aload_n 0, [], 0, 0),
  (29, 30, .iload_n 1, [], 0, 0),
  (30, 31, .iload_n 2, [], 0, 0),
  (31, 34, .invokevirtual 340, [0, 216], 0, 0),
  (34, 35, .ireturn, [], 0, 0)]
def mX12_shows : xM := (239, 12, cX12_shows, 3, (some .int), pX12_shows)
set_option maxRecDepth 100000 in
theorem gX12_shows : xgd mX12_shows := ⟨by decide +kernel, xat_in (p := 8100) rfl, by decide +kernel, by decide +kernel, by decide, by decide +kernel, by decide +kernel⟩
set_option maxRecDepth 100000 in
def pX12_last : List xRow := [(0, 1, .aload_n 0, [], 0, 0),
  (1, 2, .iconst 0, [], 0, 0),
  (2, 5, .putfield 117, [12, 0], 0, 0),
  (5, 6, .aload_n 0, [], 0, 0),
  (6, 7, .iload_n 1, [], 0, 0),
  (7, 10, .invokevirtual 380, [0, 229], 0, 0),
  (10, 13, .ifCond .eq 11, [21], 0, 0),
  (13, 14, .aload_n 0, [], 0, 0),
  (14, 15, .iload_n 2, [], 0, 0),
  (15, 18, .invokevirtual 395, [0, 230], 0, 0),
  (18, 21, .ifCond .ne 5, [23], 0, 0),
  (21, 22, .iconst 0, [], 0, 0),
  (22, 23, .ireturn, [], 0, 0),
  (23, 24, .aload_n 0, [], 0, 0),
  (24, 25, .iconst 1, [], 1, 0),
  (25, 28, .invokevirtual 377, [0, 211], 0, 0),
  (28, 29, .aload_n 0, [], 0, 0),
  (29, 30, .iload_n 1, [], 0, 0),
  (30, 31, .iload_n 2, [], 0, 0),
  (31, 34, .invokevirtual 330, [0, 214], 0, 0),
  (34, 35, .ireturn, [], 0, 0)]
def mX12_last : xM := (240, 12, cX12_last, 3, (some .int), pX12_last)
set_option maxRecDepth 100000 in
theorem gX12_last : xgd mX12_last := ⟨by decide +kernel, xat_in (p := 8108) rfl, by decide +kernel, by decide +kernel, by decide, by decide +kernel, by decide +kernel⟩
set_option maxRecDepth 100000 in
def pX12_points : List xRow := [(0, 1, .aload_n 0, [], 0, 0),
  (1, 2, .iconst 0, [], 0, 0),
  (2, 5, .putfield 117, [12, 0], 0, 0),
  (5, 6, .aload_n 0, [], 0, 0),
  (6, 7, .iload_n 1, [], 0, 0),
  (7, 10, .invokevirtual 371, [0, 228], 0, 0),
  (10, 13, .ifCond .eq 11, [21], 0, 0),
  (13, 14, .aload_n 0, [], 0, 0),
  (14, 15, .iload_n 2, [], 0, 0),
  (15, 18, .invokevirtual 395, [0, 230], 0, 0),
  (18, 21, .ifCond .ne 5, [23], 0, 0),
  (21, 22, .iconst 0, [], 0, 0),
  (22, 23, .ireturn, [], 0, 0),
  (23, 24, .aload_n 0, [], 0, 0),
  (24, 25, .iconst 1, [], 1, 0),
  (25, 28, .invokevirtual 377, [0, 211], 0, 0),
  (28, 29, .iconst 0, [], 0, 0),
  (29, 30, .istore_n 3, [], 0, 0),
  (30, 31, .iconst 0, [], 0, 0),
  (31, 33, .istore 4, [], 0, 0),
  (33, 35, .iload 4, [], 0, 0),
  (35, 36, .aload_n 0, [], 0, 0),
  (36, 39, .getfield 288, [12, 2], 0, 0),
  (39, 42, .if_icmp .ge 37, [76], 0, 0),
  (42, 43, .iload_n 3, [], 0, 0),
  (43, 44, .aload_n 0, [], 0, 0),
  (44, 46, .iload 4, [], 0, 0),
  (46, 47, .iload_n 1, [], 0, 0),
  (47, 48, .aload_n 0, [], 0, 0),
  (48, 50, .iload 4, [], 0, 0),
  (50, 51, .iload_n 2, [], 0, 0),
  (51, 54, .invokevirtual 340, [0, 216], 0, 0),
  (54, 57, .invokevirtual 343, [0, 218], 0, 0),
  (57, 60, .ifCond .eq 10, [67], 0, 0),
  (60, 61, .iconst 1, [], 1, 0),
  (61, 63, .iload 4, [], 0, 0),
  (63, 64, .ishl, [], 0, 0),
  (64, 67, .goto 4, [68], 0, 0),
  (67, 68, .iconst 0, [], 0, 0),
  (68, 69, .ior, [], 0, 0),
  (69, 70, .istore_n 3, [], 0, 0),
  (70, 73, .iinc 4 1, [], 1, 0),
  (73, 76, .goto (-40), [33], 0, 0),
  (76, 77, .iload_n 3, [], 0, 0),
  (77, 78, .ireturn, [], 0, 0)]
def mX12_points : xM := (241, 12, cX12_points, 5, (some .int), pX12_points)
set_option maxRecDepth 100000 in
theorem gX12_points : xgd mX12_points := ⟨by decide +kernel, xat_in (p := 8112) rfl, by decide +kernel, by decide +kernel, by decide, by decide +kernel, by decide +kernel⟩
set_option maxRecDepth 100000 in
def pX12_side : List xRow := [(0, 1, .aload_n 0, [], 0, 0),
  (1, 2, .iconst 0, [], 0, 0),
  (2, 5, .putfield 117, [12, 0], 0, 0),
  (5, 6, .iload_n 1, [], 0, 0),
  (6, 7, .i2l, [], 0, 0),
  (7, 8, .iload_n 2, [], 0, 0),
  (8, 9, .i2l, [], 0, 0),
  (9, 12, .invokestatic 333, [1, 215], 0, 0),
  (12, 13, .ireturn, [], 0, 0)]
def mX12_side : xM := (242, 12, cX12_side, 3, (some .int), pX12_side)
set_option maxRecDepth 100000 in
theorem gX12_side : xgd mX12_side := ⟨by decide +kernel, xat_in (p := 8116) rfl, by decide +kernel, by decide +kernel, by decide, by decide +kernel, by decide +kernel⟩
set_option maxRecDepth 100000 in
def pX12_accused : List xRow := [(0, 1, .aload_n 0, [], 0, 0),
  (1, 2, .iconst 0, [], 0, 0),
  (2, 5, .putfield 117, [12, 0], 0, 0),
  (5, 6, .aload_n 0, [], 0, 0),
  (6, 7, .iload_n 1, [], 0, 0),
  (7, 10, .invokevirtual 395, [0, 230], 0, 0),
  (10, 13, .ifCond .ne 5, [15], 0, 0),
  (13, 14, .iconst 0, [], 0, 0),
  (14, 15, .ireturn, [], 0, 0),
  (15, 16, .aload_n 0, [], 0, 0),
  (16, 17, .iconst 1, [], 1, 0),
  (17, 20, .invokevirtual 377, [0, 211], 0, 0),
  (20, 21, .aload_n 0, [], 0, 0),
  (21, 22, .iload_n 1, [], 0, 0),
  (22, 25, .invokevirtual 398, [0, 223], 0, 0),
  (25, 26, .ireturn, [], 0, 0)]
def mX12_accused : xM := (243, 12, cX12_accused, 2, (some .int), pX12_accused)
set_option maxRecDepth 100000 in
theorem gX12_accused : xgd mX12_accused := ⟨by decide +kernel, xat_in (p := 8120) rfl, by decide +kernel, by decide +kernel, by decide, by decide +kernel, by decide +kernel⟩
set_option maxRecDepth 100000 in
def pX12_tell : List xRow := [(0, 1, .aload_n 0, [], 0, 0),
  (1, 2, .iconst 0, [], 0, 0),
  (2, 5, .putfield 117, [12, 0], 0, 0),
  (5, 6, .aload_n 0, [], 0, 0),
  (6, 7, .iload_n 2, [], 0, 0),
  (7, 10, .invokevirtual 371, [0, 228], 0, 0),
  (10, 13, .ifCond .ne 5, [15], 0, 0),
  (13, 14, .iconst 0, [], 0, 0),
  (14, 15, .ireturn, [], 0, 0),
  (15, 16, .aload_n 0, [], 0, 0),
  (16, 19, .getfield 66, [12, 41], 0, 0),
  (19, 20, .iconst 0, [], 0, 0),
  (20, 21, .iaload, [], 0, 0),
  (21, 23, .istore 4, [], 0, 0),
  (23, 25, .iload 4, [], 0, 0),
  (25, 27, .bipush 16, [], 16, 0),
  (27, 30, .if_icmp .eq 23, [50], 0, 0),
  (30, 31, .iload_n 1, [], 0, 0),
  (31, 32, .iconst 0, [], 0, 0),
  (32, 34, .bipush 99, [], 99, 0),
  (34, 37, .invokestatic 359, [1, 169], 0, 0),
  (37, 40, .ifCond .eq 13, [50], 0, 0),
  (40, 41, .iload_n 3, [], 0, 0),
  (41, 42, .iconst 0, [], 0, 0),
  (42, 44, .bipush 9, [], 9, 0),
  (44, 47, .invokestatic 359, [1, 169], 0, 0),
  (47, 50, .ifCond .ne 9, [56], 0, 0),
  (50, 51, .aload_n 0, [], 0, 0),
  (51, 52, .iconst 1, [], 1, 0),
  (52, 55, .invokevirtual 401, [0, 206], 0, 0),
  (55, 56, .ireturn, [], 0, 0),
  (56, 57, .aload_n 0, [], 0, 0),
  (57, 60, .invokevirtual 404, [0, 205], 0, 0),
  (60, 61, .aload_n 0, [], 0, 0),
  (61, 64, .getfield 66, [12, 41], 0, 0),
  (64, 65, .iconst 1, [], 1, 0),
  (65, 67, .iload 4, [], 0, 0),
  (67, 68, .iadd, [], 0, 0),
  (68, 69, .iload_n 1, [], 0, 0),
  (69, 70, .iastore, [], 0, 0),
  (70, 71, .aload_n 0, [], 0, 0),
  (71, 74, .getfield 66, [12, 41], 0, 0),
  (74, 76, .bipush 17, [], 17, 0),
  (76, 78, .iload 4, [], 0, 0),
  (78, 79, .iadd, [], 0, 0),
  (79, 80, .iload_n 2, [], 0, 0),
  (80, 81, .iastore, [], 0, 0),
  (81, 82, .aload_n 0, [], 0, 0),
  (82, 85, .getfield 66, [12, 41], 0, 0),
  (85, 87, .bipush 33, [], 33, 0),
  (87, 89, .iload 4, [], 0, 0),
  (89, 90, .iadd, [], 0, 0),
  (90, 91, .iload_n 3, [], 0, 0),
  (91, 92, .iastore, [], 0, 0),
  (92, 93, .aload_n 0, [], 0, 0),
  (93, 96, .getfield 66, [12, 41], 0, 0),
  (96, 97, .iconst 0, [], 0, 0),
  (97, 98, .dup2, [], 0, 0),
  (98, 99, .iaload, [], 0, 0),
  (99, 100, .iconst 1, [], 1, 0),
  (100, 101, .iadd, [], 0, 0),
  (101, 102, .iastore, [], 0, 0),
  (102, 104, .iload 4, [], 0, 0),
  (104, 105, .ireturn, [], 0, 0)]
def mX12_tell : xM := (244, 12, cX12_tell, 5, (some .int), pX12_tell)
set_option maxRecDepth 100000 in
theorem gX12_tell : xgd mX12_tell := ⟨by decide +kernel, xat_in (p := 8144) rfl, by decide +kernel, by decide +kernel, by decide, by decide +kernel, by decide +kernel⟩
set_option maxRecDepth 100000 in
def pX12_back : List xRow := [(0, 1, .aload_n 0, [], 0, 0),
  (1, 2, .iconst 0, [], 0, 0),
  (2, 5, .putfield 117, [12, 0], 0, 0),
  (5, 6, .aload_n 0, [], 0, 0),
  (6, 9, .getfield 66, [12, 41], 0, 0),
  (9, 10, .iconst 0, [], 0, 0),
  (10, 11, .iaload, [], 0, 0),
  (11, 14, .ifCond .ne 9, [20], 0, 0),
  (14, 15, .aload_n 0, [], 0, 0),
  (15, 16, .iconst 1, [], 1, 0),
  (16, 19, .invokevirtual 401, [0, 206], 0, 0),
  (19, 20, .ireturn, [], 0, 0),
  (20, 21, .aload_n 0, [], 0, 0),
  (21, 24, .invokevirtual 404, [0, 205], 0, 0),
  (24, 25, .aload_n 0, [], 0, 0),
  (25, 28, .getfield 66, [12, 41], 0, 0),
  (28, 29, .iconst 0, [], 0, 0),
  (29, 30, .dup2, [], 0, 0),
  (30, 31, .iaload, [], 0, 0),
  (31, 32, .iconst 1, [], 1, 0),
  (32, 33, .isub, [], 0, 0),
  (33, 34, .iastore, [], 0, 0),
  (34, 35, .aload_n 0, [], 0, 0),
  (35, 38, .getfield 66, [12, 41], 0, 0),
  (38, 39, .iconst 0, [], 0, 0),
  (39, 40, .iaload, [], 0, 0),
  (40, 41, .ireturn, [], 0, 0)]
def mX12_back : xM := (245, 12, cX12_back, 1, (some .int), pX12_back)
set_option maxRecDepth 100000 in
theorem gX12_back : xgd mX12_back := ⟨by decide +kernel, xat_in (p := 8156) rfl, by decide +kernel, by decide +kernel, by decide, by decide +kernel, by decide +kernel⟩
set_option maxRecDepth 100000 in
def pX12_rust : List xRow := [(0, 1, .aload_n 0, [], 0, 0),
  (1, 2, .iconst 0, [], 0, 0),
  (2, 5, .putfield 117, [12, 0], 0, 0),
  (5, 6, .aload_n 0, [], 0, 0),
  (6, 7, .iload_n 1, [], 0, 0),
  (7, 10, .invokevirtual 380, [0, 229], 0, 0),
  (10, 13, .ifCond .ne 5, [15], 0, 0),
  (13, 14, .iconst 0, [], 0, 0),
  (14, 15, .ireturn, [], 0, 0),
  (15, 16, .iload_n 2, [], 0, 0),
  (16, 17, .iconst 0, [], 0, 0),
  (17, 19, .bipush 9, [], 9, 0),
  (19, 22, .invokestatic 359, [1, 169], 0, 0),
  (22, 25, .ifCond .ne 9, [31], 0, 0),
  (25, 26, .aload_n 0, [], 0, 0),
  (26, 27, .iconst 1, [], 1, 0),
  (27, 30, .invokevirtual 401, [0, 206], 0, 0),
  (30, 31, .ireturn, [], 0, 0),
  (31, 32, .aload_n 0, [], 0, 0),
  (32, 35, .invokevirtual 404, [0, 205], 0, 0),
  (35, 36, .aload_n 0, [], 0, 0),
  (36, 39, .getfield 66, [12, 41], 0, 0),
  (39, 41, .bipush 61, [], 61, 0),
  (41, 42, .iload_n 1, [], 0, 0),
  (42, 43, .iadd, [], 0, 0),
  (43, 44, .iaload, [], 0, 0),
  (44, 45, .istore_n 3, [], 0, 0),
  (45, 46, .aload_n 0, [], 0, 0),
  (46, 49, .getfield 66, [12, 41], 0, 0),
  (49, 51, .bipush 61, [], 61, 0),
  (51, 52, .iload_n 1, [], 0, 0),
  (52, 53, .iadd, [], 0, 0),
  (53, 54, .iload_n 2, [], 0, 0),
  (54, 55, .iastore, [], 0, 0),
  (55, 56, .iload_n 3, [], 0, 0),
  (56, 57, .ireturn, [], 0, 0)]
def mX12_rust : xM := (246, 12, cX12_rust, 4, (some .int), pX12_rust)
set_option maxRecDepth 100000 in
theorem gX12_rust : xgd mX12_rust := ⟨by decide +kernel, xat_in (p := 8160) rfl, by decide +kernel, by decide +kernel, by decide, by decide +kernel, by decide +kernel⟩
set_option maxRecDepth 100000 in
def pX12_carry : List xRow := [(0, 1, .aload_n 0, [], 0, 0),
  (1, 2, .iconst 0, [], 0, 0),
  (2, 5, .putfield 117, [12, 0], 0, 0),
  (5, 6, .aload_n 0, [], 0, 0),
  (6, 7, .iload_n 1, [], 0, 0),
  (7, 10, .invokevirtual 380, [0, 229], 0, 0),
  (10, 13, .ifCond .ne 5, [15], 0, 0),
  (13, 14, .iconst 0, [], 0, 0),
  (14, 15, .ireturn, [], 0, 0),
  (15, 16, .iload_n 2, [], 0, 0),
  (16, 17, .iconst 0, [], 0, 0),
  (17, 19, .bipush 40, [], 40, 0),
  (19, 22, .invokestatic 359, [1, 169], 0, 0),
  (22, 25, .ifCond .eq 13, [35], 0, 0),
  (25, 26, .iload_n 3, [], 0, 0),
  (26, 27, .iconst 0, [], 0, 0),
  (27, 29, .bipush 40, [], 40, 0),
  (29, 32, .invokestatic 359, [1, 169], 0, 0),
  (32, 35, .ifCond .ne 9, [41], 0, 0),
  (35, 36, .aload_n 0, [], 0, 0),
  (36, 37, .iconst 1, [], 1, 0),
  (37, 40, .invokevirtual 401, [0, 206], 0, 0),
  (40, 41, .ireturn, [], 0, 0),
  (41, 42, .aload_n 0, [], 0, 0),
  (42, 45, .invokevirtual 404, [0, 205], 0, 0),
  (45, 47, .bipush 100, [], 100, 0),
  (47, 48, .aload_n 0, [], 0, 0),
  (48, 51, .getfield 66, [12, 41], 0, 0),
  (51, 53, .bipush 55, [], 55, 0),
  (53, 54, .iload_n 1, [], 0, 0),
  (54, 55, .iadd, [], 0, 0),
  (55, 56, .iaload, [], 0, 0),
  (56, 57, .imul, [], 0, 0),
  (57, 58, .aload_n 0, [], 0, 0),
  (58, 61, .getfield 66, [12, 41], 0, 0),
  (61, 63, .bipush 49, [], 49, 0),
  (63, 64, .iload_n 1, [], 0, 0),
  (64, 65, .iadd, [], 0, 0),
  (65, 66, .iaload, [], 0, 0),
  (66, 67, .iadd, [], 0, 0),
  (67, 69, .istore 4, [], 0, 0),
  (69, 70, .aload_n 0, [], 0, 0),
  (70, 73, .getfield 66, [12, 41], 0, 0),
  (73, 75, .bipush 49, [], 49, 0),
  (75, 76, .iload_n 1, [], 0, 0),
  (76, 77, .iadd, [], 0, 0),
  (77, 78, .iload_n 2, [], 0, 0),
  (78, 79, .iastore, [], 0, 0),
  (79, 80, .aload_n 0, [], 0, 0),
  (80, 83, .getfield 66, [12, 41], 0, 0),
  (83, 85, .bipush 55, [], 55, 0),
  (85, 86, .iload_n 1, [], 0, 0),
  (86, 87, .iadd, [], 0, 0),
  (87, 88, .iload_n 3, [], 0, 0),
  (88, 89, .iastore, [], 0, 0),
  (89, 91, .iload 4, [], 0, 0),
  (91, 92, .ireturn, [], 0, 0)]
def mX12_carry : xM := (247, 12, cX12_carry, 5, (some .int), pX12_carry)
set_option maxRecDepth 100000 in
theorem gX12_carry : xgd mX12_carry := ⟨by decide +kernel, xat_in (p := 8164) rfl, by decide +kernel, by decide +kernel, by decide, by decide +kernel, by decide +kernel⟩
set_option maxRecDepth 100000 in
def pX12_pointedBy : List xRow := [(0, 1, .aload_n 0, [], 0, 0),
  (1, 2, .iload_n 1, [], 0, 0),
  (2, 3, .iload_n 2, [], 0, 0),
  (3, 6, .invokevirtual 340, [0, 216], 0, 0),
  (6, 7, .istore_n 3, [], 0, 0),
  (7, 8, .iconst 0, [], 0, 0),
  (8, 10, .istore 4, [], 0, 0),
  (10, 11, .iconst 0, [], 0, 0),
  (11, 13, .istore 5, [], 0, 0),
  (13, 15, .iload 5, [], 0, 0),
  (15, 16, .aload_n 0, [], 0, 0),
  (16, 19, .getfield 285, [12, 1], 0, 0),
  (19, 22, .if_icmp .ge 33, [52], 0, 0),
  (22, 24, .iload 4, [], 0, 0),
  (24, 25, .aload_n 0, [], 0, 0),
  (25, 26, .iload_n 1, [], 0, 0),
  (26, 28, .iload 5, [], 0, 0),
  (28, 29, .iload_n 3, [], 0, 0),
  (29, 32, .invokevirtual 343, [0, 218], 0, 0),
  (32, 35, .ifCond .eq 10, [42], 0, 0),
  (35, 36, .iconst 1, [], 1, 0),
  (36, 38, .iload 5, [], 0, 0),
  (38, 39, .ishl, [], 0, 0),
  (39, 42, .goto 4, [43], 0, 0),
  (42, 43, .iconst 0, [], 0, 0),
  (43, 44, .ior, [], 0, 0),
  (44, 46, .istore 4, [], 0, 0),
  (46, 49, .iinc 5 1, [], 1, 0),
  (49, 52, .goto (-36), [13], 0, 0),
  (52, 54, .iload 4, [], 0, 0),
  (54, 55, .ireturn, [], 0, 0)]
def mX12_pointedBy : xM := (248, 12, cX12_pointedBy, 6, (some .int), pX12_pointedBy)
set_option maxRecDepth 100000 in
theorem gX12_pointedBy : xgd mX12_pointedBy := ⟨by decide +kernel, xat_in (p := 8172) rfl, by decide +kernel, by decide +kernel, by decide, by decide +kernel, by decide +kernel⟩
set_option maxRecDepth 100000 in
def pX12_clash : List xRow := [(0, 1, .aload_n 0, [], 0, 0),
  (1, 2, .iconst 0, [], 0, 0),
  (2, 5, .putfield 117, [12, 0], 0, 0),
  (5, 6, .aload_n 0, [], 0, 0),
  (6, 7, .iconst 1, [], 1, 0),
  (7, 10, .invokevirtual 377, [0, 211], 0, 0),
  (10, 11, .iconst 0, [], 0, 0),
  (11, 12, .istore_n 1, [], 0, 0),
  (12, 13, .iload_n 1, [], 0, 0),
  (13, 15, .bipush 100, [], 100, 0),
  (15, 18, .if_icmp .ge 107, [122], 0, 0),
  (18, 19, .iconst 0, [], 0, 0),
  (19, 20, .istore_n 2, [], 0, 0),
  (20, 21, .iload_n 2, [], 0, 0),
  (21, 22, .aload_n 0, [], 0, 0),
  (22, 25, .getfield 288, [12, 2], 0, 0),
  (25, 28, .if_icmp .ge 21, [46], 0, 0),
  (28, 29, .aload_n 0, [], 0, 0),
  (29, 32, .getfield 99, [12, 54], 0, 0),
  (32, 33, .iload_n 2, [], 0, 0),
  (33, 34, .aload_n 0, [], 0, 0),
  (34, 35, .iload_n 2, [], 0, 0),
  (35, 36, .iload_n 1, [], 0, 0),
  (36, 39, .invokevirtual 407, [0, 248], 0, 0),
  (39, 40, .iastore, [], 0, 0),
  (40, 43, .iinc 2 1, [], 1, 0),
  (43, 46, .goto (-23), [20], 0, 0),
  (46, 47, .iconst 0, [], 0, 0),
  (47, 48, .istore_n 2, [], 0, 0),
  (48, 49, .iload_n 2, [], 0, 0),
  (49, 50, .aload_n 0, [], 0, 0),
  (50, 53, .getfield 288, [12, 2], 0, 0),
  (53, 56, .if_icmp .ge 63, [116], 0, 0),
  (56, 57, .iload_n 2, [], 0, 0),
  (57, 58, .iconst 1, [], 1, 0),
  (58, 59, .iadd, [], 0, 0),
  (59, 60, .istore_n 3, [], 0, 0),
  (60, 61, .iload_n 3, [], 0, 0),
  (61, 62, .aload_n 0, [], 0, 0),
  (62, 65, .getfield 288, [12, 2], 0, 0),
  (65, 68, .if_icmp .ge 45, [110], 0, 0),
  (68, 69, .aload_n 0, [], 0, 0),
  (69, 72, .getfield 99, [12, 54], 0, 0),
  (72, 73, .iload_n 2, [], 0, 0),
  (73, 74, .iaload, [], 0, 0),
  (74, 77, .ifCond .eq 30, [104], 0, 0),
  (77, 78, .aload_n 0, [], 0, 0),
  (78, 81, .getfield 99, [12, 54], 0, 0),
  (81, 82, .iload_n 3, [], 0, 0),
  (82, 83, .iaload, [], 0, 0),
  (83, 86, .ifCond .eq 21, [104], 0, 0),
  (86, 87, .aload_n 0, [], 0, 0),
  (87, 90, .getfield 99, [12, 54], 0, 0),
  (90, 91, .iload_n 2, [], 0, 0),
  (91, 92, .iaload, [], 0, 0),
  (92, 93, .aload_n 0, [], 0, 0),
  (93, 96, .getfield 99, [12, 54], 0, 0),
  (96, 97, .iload_n 3, [], 0, 0),
  (97, 98, .iaload, [], 0, 0),
  (98, 99, .iand, [], 0, 0),
  (99, 102, .ifCond .ne 5, [104], 0, 0),
  (102, 103, .iload_n 1, [], 0, 0),
  (103, 104, .ireturn, [], 0, 0),
  (104, 107, .iinc 3 1, [], 1, 0),
  (107, 110, .goto (-47), [60], 0, 0),
  (110, 113, .iinc 2 1, [], 1, 0),
  (113, 116, .goto (-65), [48], 0, 0),
  (116, 119, .iinc 1 1, [], 1, 0),
  (119, 122, .goto (-107), [12], 0, 0),
  (122, 123, .iconst (-1), [], -1, 0),
  (123, 124, .ireturn, [], 0, 0)]
def mX12_clash : xM := (249, 12, cX12_clash, 4, (some .int), pX12_clash)
set_option maxRecDepth 100000 in
theorem gX12_clash : xgd mX12_clash := ⟨by decide +kernel, xat_in (p := 8168) rfl, by decide +kernel, by decide +kernel, by decide, by decide +kernel, by decide +kernel⟩
set_option maxRecDepth 100000 in
def pX12_isLie : List xRow := [(0, 1, .aload_n 0, [], 0, 0),
  (1, 2, .iload_n 1, [], 0, 0),
  (2, 3, .iconst 1, [], 1, 0),
  (3, 5, .bipush 9, [], 9, 0),
  (5, 8, .invokestatic 359, [1, 169], 0, 0),
  (8, 11, .ifCond .eq 17, [25], 0, 0),
  (11, 12, .iload_n 2, [], 0, 0),
  (12, 13, .iconst 0, [], 0, 0),
  (13, 15, .bipush 99, [], 99, 0),
  (15, 18, .invokestatic 359, [1, 169], 0, 0),
  (18, 21, .ifCond .eq 7, [25], 0, 0),
  (21, 22, .iconst 1, [], 1, 0),
  (22, 25, .goto 4, [26], 0, 0),
  (25, 26, .iconst 0, [], 0, 0),
  (26, 27, .iconst 2, [], 2, 0),
  (27, 30, .invokevirtual 278, [0, 168], 0, 0),
  (30, 31, .ireturn, [], 0, 0)]
def mX12_isLie : xM := (250, 12, cX12_isLie, 3, (some .boolean), pX12_isLie)
set_option maxRecDepth 100000 in
theorem gX12_isLie : xgd mX12_isLie := ⟨by decide +kernel, xat_in (p := 8180) rfl, by decide +kernel, by decide +kernel, by decide, by decide +kernel, by decide +kernel⟩
set_option maxRecDepth 100000 in
def pX12_laysLie : List xRow := [(0, 1, .aload_n 0, [], 0, 0),
  (1, 2, .iconst 0, [], 0, 0),
  (2, 5, .invokevirtual 377, [0, 211], 0, 0),
  (5, 6, .aload_n 0, [], 0, 0),
  (6, 7, .iload_n 3, [], 0, 0),
  (7, 8, .iload_n 1, [], 0, 0),
  (8, 9, .iload_n 2, [], 0, 0),
  (9, 12, .invokevirtual 312, [0, 210], 0, 0),
  (12, 13, .return_, [], 0, 0)]
def mX12_laysLie : xM := (251, 12, cX12_laysLie, 4, none, pX12_laysLie)
set_option maxRecDepth 100000 in
theorem gX12_laysLie : xgd mX12_laysLie := ⟨by decide +kernel, xat_in (p := 8184) rfl, by decide +kernel, by decide +kernel, by decide, by decide +kernel, by decide +kernel⟩
set_option maxRecDepth 100000 in
def pX12_just : List xRow := [(0, 1, .aload_n 0, [], 0, 0),
  (1, 2, .iconst 0, [], 0, 0),
  (2, 5, .putfield 117, [12, 0], 0, 0),
  (5, 6, .aload_n 0, [], 0, 0),
  (6, 7, .iload_n 3, [], 0, 0),
  (7, 8, .iconst 2, [], 2, 0),
  (8, 11, .invokevirtual 374, [0, 231], 0, 0),
  (11, 14, .ifCond .eq 12, [23], 0, 0),
  (14, 15, .aload_n 0, [], 0, 0),
  (15, 16, .iload_n 1, [], 0, 0),
  (16, 17, .iload_n 2, [], 0, 0),
  (17, 20, .invokevirtual 410, [0, 250], 0, 0),
  (20, 23, .ifCond .ne 5, [25], 0, 0),
  (23, 24, .iconst 0, [], 0, 0),
  (24, 25, .ireturn, [], 0, 0),
  (25, 26, .iconst 0, [], 0, 0),
  (26, 28, .istore 4, [], 0, 0),
  (28, 29, .iconst 0, [], 0, 0),
  (29, 31, .istore 5, [], 0, 0),
  (31, 33, .iload 5, [], 0, 0),
  (33, 34, .aload_n 0, [], 0, 0),
  (34, 37, .getfield 285, [12, 1], 0, 0),
  (37, 40, .if_icmp .ge 60, [97], 0, 0),
  (40, 41, .aload_n 0, [], 0, 0),
  (41, 43, .iload 5, [], 0, 0),
  (43, 44, .iload_n 1, [], 0, 0),
  (44, 45, .iload_n 2, [], 0, 0),
  (45, 48, .invokevirtual 413, [0, 251], 0, 0),
  (48, 49, .aload_n 0, [], 0, 0),
  (49, 50, .iload_n 2, [], 0, 0),
  (50, 53, .invokevirtual 398, [0, 223], 0, 0),
  (53, 55, .istore 6, [], 0, 0),
  (55, 57, .iload 4, [], 0, 0),
  (57, 59, .iload 6, [], 0, 0),
  (59, 61, .iload 5, [], 0, 0),
  (61, 64, .if_icmp .ne 7, [68], 0, 0),
  (64, 65, .iconst 0, [], 0, 0),
  (65, 68, .goto 14, [79], 0, 0),
  (68, 70, .iload 6, [], 0, 0),
  (70, 71, .iconst (-1), [], -1, 0),
  (71, 74, .if_icmp .ne 7, [78], 0, 0),
  (74, 75, .iconst 2, [], 2, 0),
  (75, 78, .goto 4, [79], 0, 0),
  (78, 79, .iconst 1, [], 1, 0),
  (79, 80, .iload_n 3, [], 0, 0),
  (80, 83, .if_icmp .ne 7, [87], 0, 0),
  (83, 84, .iconst 1, [], 1, 0),
  (84, 87, .goto 4, [88], 0, 0),
  (87, 88, .iconst 0, [], 0, 0),
  (88, 89, .iadd, [], 0, 0),
  (89, 91, .istore 4, [], 0, 0),
  (91, 94, .iinc 5 1, [], 1, 0),
  (94, 97, .goto (-63), [31], 0, 0),
  (97, 99, .iload 4, [], 0, 0),
  (99, 100, .ireturn, [], 0, 0)]
def mX12_just : xM := (252, 12, cX12_just, 7, (some .int), pX12_just)
set_option maxRecDepth 100000 in
theorem gX12_just : xgd mX12_just := ⟨by decide +kernel, xat_in (p := 8176) rfl, by decide +kernel, by decide +kernel, by decide, by decide +kernel, by decide +kernel⟩
set_option maxRecDepth 100000 in
def pX12_areApart : List xRow := [(0, 1, .iconst 0, [], 0, 0),
  (1, 2, .istore_n 2, [], 0, 0),
  (2, 3, .iload_n 2, [], 0, 0),
  (3, 4, .aload_n 0, [], 0, 0),
  (4, 7, .getfield 285, [12, 1], 0, 0),
  (7, 10, .if_icmp .ge 104, [111], 0, 0),
  (10, 11, .iload_n 2, [], 0, 0),
  (11, 12, .iconst 1, [], 1, 0),
  (12, 13, .iadd, [], 0, 0),
  (13, 14, .istore_n 3, [], 0, 0),
  (14, 15, .iload_n 3, [], 0, 0),
  (15, 16, .aload_n 0, [], 0, 0),
  (16, 19, .getfield 285, [12, 1], 0, 0),
  (19, 22, .if_icmp .ge 86, [105], 0, 0),
  (22, 23, .iconst 0, [], 0, 0),
  (23, 25, .istore 4, [], 0, 0),
  (25, 26, .iconst 0, [], 0, 0),
  (26, 28, .istore 5, [], 0, 0),
  (28, 30, .iload 5, [], 0, 0),
  (30, 31, .aload_n 0, [], 0, 0),
  (31, 34, .getfield 288, [12, 2], 0, 0),
  (34, 37, .if_icmp .ge 58, [92], 0, 0),
  (37, 39, .iload 4, [], 0, 0),
  (39, 42, .ifCond .ne 40, [79], 0, 0),
  (42, 43, .iload_n 1, [], 0, 0),
  (43, 45, .iload 5, [], 0, 0),
  (45, 46, .ishr, [], 0, 0),
  (46, 47, .iconst 1, [], 1, 0),
  (47, 48, .iand, [], 0, 0),
  (48, 49, .iconst 1, [], 1, 0),
  (49, 52, .if_icmp .ne 34, [83], 0, 0),
  (52, 53, .aload_n 0, [], 0, 0),
  (53, 56, .getfield 102, [12, 55], 0, 0),
  (56, 58, .bipush 10, [], 10, 0),
  (58, 60, .iload 5, [], 0, 0),
  (60, 61, .imul, [], 0, 0),
  (61, 62, .iload_n 2, [], 0, 0),
  (62, 63, .iadd, [], 0, 0),
  (63, 64, .iaload, [], 0, 0),
  (64, 65, .aload_n 0, [], 0, 0),
  (65, 68, .getfield 102, [12, 55], 0, 0),
  (68, 70, .bipush 10, [], 10, 0),
  (70, 72, .iload 5, [], 0, 0),
  (72, 73, .imul, [], 0, 0),
  (73, 74, .iload_n 3, [], 0, 0),
  (74, 75, .iadd, [], 0, 0),
  (75, 76, .iaload, [], 0, 0),
  (76, 79, .if_icmp .eq 7, [83], 0, 0),
  (79, 80, .iconst 1, [], 1, 0),
  (80, 83, .goto 4, [84], 0, 0),
  (83, 84, .iconst 0, [], 0, 0),
  (84, 86, .istore 4, [], 0, 0),
  (86, 89, .iinc 5 1, [], 1, 0),
  (89, 92, .goto (-61), [28], 0, 0),
  (92, 94, .iload 4, [], 0, 0),
  (94, 97, .ifCond .ne 5, [99], 0, 0),
  (97, 98, .iconst 0, [], 0, 0),
  (98, 99, .ireturn, [], 0, 0),
  (99, 102, .iinc 3 1, [], 1, 0),
  (102, 105, .goto (-88), [14], 0, 0),
  (105, 108, .iinc 2 1, [], 1, 0),
  (108, 111, .goto (-106), [2], 0, 0),
  (111, 112, .iconst 1, [], 1, 0),
  (112, 113, .ireturn, [], 0, 0)]
def mX12_areApart : xM := (253, 12, cX12_areApart, 6, (some .boolean), pX12_areApart)
set_option maxRecDepth 100000 in
theorem gX12_areApart : xgd mX12_areApart := ⟨by decide +kernel, xat_in (p := 8195) rfl, by decide +kernel, by decide +kernel, by decide, by decide +kernel, by decide +kernel⟩
set_option maxRecDepth 100000 in
def pX12_apart : List xRow := [(0, 1, .aload_n 0, [], 0, 0),
  (1, 2, .iconst 0, [], 0, 0),
  (2, 5, .putfield 117, [12, 0], 0, 0),
  (5, 6, .aload_n 0, [], 0, 0),
  (6, 7, .iload_n 1, [], 0, 0),
  (7, 8, .iconst 1, [], 1, 0),
  (8, 10, .bipush 9, [], 9, 0),
  (10, 13, .invokestatic 359, [1, 169], 0, 0),
  (13, 16, .ifCond .eq 17, [30], 0, 0),
  (16, 17, .iload_n 2, [], 0, 0),
  (17, 18, .iconst 0, [], 0, 0),
  (18, 20, .bipush 99, [], 99, 0),
  (20, 23, .invokestatic 359, [1, 169], 0, 0),
  (23, 26, .ifCond .eq 7, [30], 0, 0),
  (26, 27, .iconst 1, [], 1, 0),
  (27, 30, .goto 4, [31], 0, 0),
  (30, 31, .iconst 0, [], 0, 0),
  (31, 32, .iconst 1, [], 1, 0),
  (32, 35, .invokevirtual 278, [0, 168], 0, 0),
  (35, 38, .ifCond .ne 5, [40], 0, 0),
  (38, 39, .iconst 0, [], 0, 0),
  (39, 40, .ireturn, [], 0, 0),
  (40, 41, .iconst 0, [], 0, 0),
  (41, 42, .istore_n 3, [], 0, 0),
  (42, 43, .iload_n 3, [], 0, 0),
  (43, 44, .aload_n 0, [], 0, 0),
  (44, 47, .getfield 285, [12, 1], 0, 0),
  (47, 50, .if_icmp .ge 53, [100], 0, 0),
  (50, 51, .aload_n 0, [], 0, 0),
  (51, 52, .iload_n 3, [], 0, 0),
  (52, 53, .iload_n 1, [], 0, 0),
  (53, 54, .iload_n 2, [], 0, 0),
  (54, 57, .invokevirtual 413, [0, 251], 0, 0),
  (57, 58, .iconst 0, [], 0, 0),
  (58, 60, .istore 4, [], 0, 0),
  (60, 62, .iload 4, [], 0, 0),
  (62, 63, .aload_n 0, [], 0, 0),
  (63, 66, .getfield 288, [12, 2], 0, 0),
  (66, 69, .if_icmp .ge 28, [94], 0, 0),
  (69, 70, .aload_n 0, [], 0, 0),
  (70, 73, .getfield 102, [12, 55], 0, 0),
  (73, 75, .bipush 10, [], 10, 0),
  (75, 77, .iload 4, [], 0, 0),
  (77, 78, .imul, [], 0, 0),
  (78, 79, .iload_n 3, [], 0, 0),
  (79, 80, .iadd, [], 0, 0),
  (80, 81, .aload_n 0, [], 0, 0),
  (81, 83, .iload 4, [], 0, 0),
  (83, 84, .iload_n 2, [], 0, 0),
  (84, 87, .invokevirtual 340, [0, 216], 0, 0),
  (87, 88, .iastore, [], 0, 0),
  (88, 91, .iinc 4 1, [], 1, 0),
  (91, 94, .goto (-31), [60], 0, 0),
  (94, 97, .iinc 3 1, [], 1, 0),
  (97, 100, .goto (-55), [42], 0, 0),
  (100, 101, .iconst (-1), [], -1, 0),
  (101, 102, .istore_n 3, [], 0, 0),
  (102, 103, .iconst 0, [], 0, 0),
  (103, 105, .istore 4, [], 0, 0),
  (105, 107, .iload 4, [], 0, 0),
  (107, 108, .iconst 1, [], 1, 0),
  (108, 109, .aload_n 0, [], 0, 0),
  (109, 112, .getfield 288, [12, 2], 0, 0),
  (112, 113, .ishl, [], 0, 0),
  (113, 116, .if_icmp .ge 38, [151], 0, 0),
  (116, 117, .iload_n 3, [], 0, 0),
  (117, 118, .iconst (-1), [], -1, 0),
  (118, 121, .if_icmp .eq 15, [133], 0, 0),
  (121, 123, .iload 4, [], 0, 0),
  (123, 126, .invokestatic 416, [1, 172], 0, 0),
  (126, 127, .iload_n 3, [], 0, 0),
  (127, 130, .invokestatic 416, [1, 172], 0, 0),
  (130, 133, .if_icmp .ge 15, [145], 0, 0),
  (133, 134, .aload_n 0, [], 0, 0),
  (134, 136, .iload 4, [], 0, 0),
  (136, 139, .invokevirtual 419, [0, 253], 0, 0),
  (139, 142, .ifCond .eq 6, [145], 0, 0),
  (142, 144, .iload 4, [], 0, 0),
  (144, 145, .istore_n 3, [], 0, 0),
  (145, 148, .iinc 4 1, [], 1, 0),
  (148, 151, .goto (-43), [105], 0, 0),
  (151, 152, .iload_n 3, [], 0, 0),
  (152, 153, .ireturn, [], 0, 0)]
def mX12_apart : xM := (254, 12, cX12_apart, 5, (some .int), pX12_apart)
set_option maxRecDepth 100000 in
theorem gX12_apart : xgd mX12_apart := ⟨by decide +kernel, xat_in (p := 8188) rfl, by decide +kernel, by decide +kernel, by decide, by decide +kernel, by decide +kernel⟩
set_option maxRecDepth 100000 in
def pX12_alibi : List xRow := [(0, 1, .aload_n 0, [], 0, 0),
  (1, 2, .iconst 0, [], 0, 0),
  (2, 5, .putfield 117, [12, 0], 0, 0),
  (5, 6, .aload_n 0, [], 0, 0),
  (6, 7, .iload_n 1, [], 0, 0),
  (7, 10, .invokevirtual 371, [0, 228], 0, 0),
  (10, 13, .ifCond .eq 12, [22], 0, 0),
  (13, 14, .aload_n 0, [], 0, 0),
  (14, 15, .iload_n 2, [], 0, 0),
  (15, 16, .iload_n 3, [], 0, 0),
  (16, 19, .invokevirtual 410, [0, 250], 0, 0),
  (19, 22, .ifCond .ne 5, [24], 0, 0),
  (22, 23, .iconst 0, [], 0, 0),
  (23, 24, .ireturn, [], 0, 0),
  (24, 25, .iconst 0, [], 0, 0),
  (25, 27, .istore 4, [], 0, 0),
  (27, 28, .iconst 0, [], 0, 0),
  (28, 30, .istore 5, [], 0, 0),
  (30, 32, .iload 5, [], 0, 0),
  (32, 33, .aload_n 0, [], 0, 0),
  (33, 36, .getfield 285, [12, 1], 0, 0),
  (36, 39, .if_icmp .ge 48, [84], 0, 0),
  (39, 41, .iload 5, [], 0, 0),
  (41, 42, .iload_n 1, [], 0, 0),
  (42, 45, .if_icmp .ne 6, [48], 0, 0),
  (45, 48, .goto 33, [78], 0, 0),
  (48, 49, .aload_n 0, [], 0, 0),
  (49, 51, .iload 5, [], 0, 0),
  (51, 52, .iload_n 2, [], 0, 0),
  (52, 53, .iload_n 3, [], 0, 0),
  (53, 56, .invokevirtual 413, [0, 251], 0, 0),
  (56, 58, .iload 4, [], 0, 0),
  (58, 59, .aload_n 0, [], 0, 0),
  (59, 60, .iload_n 3, [], 0, 0),
  (60, 63, .invokevirtual 398, [0, 223], 0, 0),
  (63, 64, .iload_n 1, [], 0, 0),
  (64, 67, .if_icmp .ne 10, [74], 0, 0),
  (67, 68, .iconst 1, [], 1, 0),
  (68, 70, .iload 5, [], 0, 0),
  (70, 71, .ishl, [], 0, 0),
  (71, 74, .goto 4, [75], 0, 0),
  (74, 75, .iconst 0, [], 0, 0),
  (75, 76, .ior, [], 0, 0),
  (76, 78, .istore 4, [], 0, 0),
  (78, 81, .iinc 5 1, [], 1, 0),
  (81, 84, .goto (-51), [30], 0, 0),
  (84, 86, .iload 4, [], 0, 0),
  (86, 87, .ireturn, [], 0, 0)]
def mX12_alibi : xM := (255, 12, cX12_alibi, 6, (some .int), pX12_alibi)
set_option maxRecDepth 100000 in
theorem gX12_alibi : xgd mX12_alibi := ⟨by decide +kernel, xat_in (p := 8199) rfl, by decide +kernel, by decide +kernel, by decide, by decide +kernel, by decide +kernel⟩
set_option maxRecDepth 100000 in
def pX12_areShowing : List xRow := [(0, 1, .iconst 0, [], 0, 0),
  (1, 3, .istore 4, [], 0, 0),
  (3, 5, .iload 4, [], 0, 0),
  (5, 6, .aload_n 0, [], 0, 0),
  (6, 9, .getfield 288, [12, 2], 0, 0),
  (9, 12, .if_icmp .ge 32, [41], 0, 0),
  (12, 13, .iload_n 1, [], 0, 0),
  (13, 15, .iload 4, [], 0, 0),
  (15, 16, .ishr, [], 0, 0),
  (16, 17, .iconst 1, [], 1, 0),
  (17, 18, .iand, [], 0, 0),
  (18, 19, .iconst 1, [], 1, 0),
  (19, 22, .if_icmp .ne 16, [35], 0, 0),
  (22, 23, .aload_n 0, [], 0, 0),
  (23, 25, .iload 4, [], 0, 0),
  (25, 26, .iload_n 2, [], 0, 0),
  (26, 29, .invokevirtual 340, [0, 216], 0, 0),
  (29, 30, .iload_n 3, [], 0, 0),
  (30, 33, .if_icmp .eq 5, [35], 0, 0),
  (33, 34, .iconst 0, [], 0, 0),
  (34, 35, .ireturn, [], 0, 0),
  (35, 38, .iinc 4 1, [], 1, 0),
  (38, 41, .goto (-35), [3], 0, 0),
  (41, 42, .iconst 1, [], 1, 0),
  (42, 43, .ireturn, [], 0, 0)]
def mX12_areShowing : xM := (256, 12, cX12_areShowing, 5, (some .boolean), pX12_areShowing)
set_option maxRecDepth 100000 in
theorem gX12_areShowing : xgd mX12_areShowing := ⟨by decide +kernel, xat_in (p := 8207) rfl, by decide +kernel, by decide +kernel, by decide, by decide +kernel, by decide +kernel⟩
set_option maxRecDepth 100000 in
def pX12_plan : List xRow := [(0, 1, .aload_n 0, [], 0, 0),
  (1, 2, .iconst 0, [], 0, 0),
  (2, 5, .putfield 117, [12, 0], 0, 0),
  (5, 6, .aload_n 0, [], 0, 0),
  (6, 7, .iload_n 2, [], 0, 0),
  (7, 10, .invokevirtual 395, [0, 230], 0, 0),
  (10, 13, .ifCond .eq 40, [50], 0, 0),
  (13, 14, .aload_n 0, [], 0, 0),
  (14, 15, .iload_n 1, [], 0, 0),
  (15, 18, .ifCond .lt 27, [42], 0, 0),
  (18, 19, .iload_n 1, [], 0, 0),
  (19, 20, .iconst 1, [], 1, 0),
  (20, 21, .aload_n 0, [], 0, 0),
  (21, 24, .getfield 288, [12, 2], 0, 0),
  (24, 25, .ishl, [], 0, 0),
  (25, 28, .if_icmp .ge 17, [42], 0, 0),
  (28, 29, .iload_n 3, [], 0, 0),
  (29, 30, .iconst 0, [], 0, 0),
  (30, 32, .bipush 9, [], 9, 0),
  (32, 35, .invokestatic 359, [1, 169], 0, 0),
  (35, 38, .ifCond .eq 7, [42], 0, 0),
  (38, 39, .iconst 1, [], 1, 0),
  (39, 42, .goto 4, [43], 0, 0),
  (42, 43, .iconst 0, [], 0, 0),
  (43, 44, .iconst 2, [], 2, 0),
  (44, 47, .invokevirtual 278, [0, 168], 0, 0),
  (47, 50, .ifCond .ne 5, [52], 0, 0),
  (50, 51, .iconst 0, [], 0, 0),
  (51, 52, .ireturn, [], 0, 0),
  (52, 53, .iconst (-1), [], -1, 0),
  (53, 55, .istore 4, [], 0, 0),
  (55, 56, .iconst 0, [], 0, 0),
  (56, 58, .istore 5, [], 0, 0),
  (58, 60, .iload 5, [], 0, 0),
  (60, 61, .iconst 1, [], 1, 0),
  (61, 62, .aload_n 0, [], 0, 0),
  (62, 65, .getfield 285, [12, 1], 0, 0),
  (65, 66, .ishl, [], 0, 0),
  (66, 69, .if_icmp .ge 97, [163], 0, 0),
  (69, 71, .iload 5, [], 0, 0),
  (71, 74, .invokestatic 416, [1, 172], 0, 0),
  (74, 75, .iconst 3, [], 3, 0),
  (75, 78, .if_icmp .gt 82, [157], 0, 0),
  (78, 80, .iload 4, [], 0, 0),
  (80, 81, .iconst (-1), [], -1, 0),
  (81, 84, .if_icmp .eq 19, [100], 0, 0),
  (84, 86, .iload 5, [], 0, 0),
  (86, 89, .invokestatic 416, [1, 172], 0, 0),
  (89, 91, .iload 4, [], 0, 0),
  (91, 94, .invokestatic 416, [1, 172], 0, 0),
  (94, 97, .if_icmp .lt 6, [100], 0, 0),
  (97, 100, .goto 60, [157], 0, 0),
  (100, 101, .aload_n 0, [], 0, 0),
  (101, 102, .iconst 1, [], 1, 0),
  (102, 105, .invokevirtual 377, [0, 211], 0, 0),
  (105, 106, .iconst 0, [], 0, 0),
  (106, 108, .istore 6, [], 0, 0),
  (108, 110, .iload 6, [], 0, 0),
  (110, 111, .aload_n 0, [], 0, 0),
  (111, 114, .getfield 285, [12, 1], 0, 0),
  (114, 117, .if_icmp .ge 29, [143], 0, 0),
  (117, 119, .iload 5, [], 0, 0),
  (119, 121, .iload 6, [], 0, 0),
  (121, 122, .ishr, [], 0, 0),
  (122, 123, .iconst 1, [], 1, 0),
  (123, 124, .iand, [], 0, 0),
  (124, 125, .iconst 1, [], 1, 0),
  (125, 128, .if_icmp .ne 12, [137], 0, 0),
  (128, 129, .aload_n 0, [], 0, 0),
  (129, 130, .iload_n 2, [], 0, 0),
  (130, 132, .iload 6, [], 0, 0),
  (132, 134, .bipush 9, [], 9, 0),
  (134, 137, .invokevirtual 312, [0, 210], 0, 0),
  (137, 140, .iinc 6 1, [], 1, 0),
  (140, 143, .goto (-32), [108], 0, 0),
  (143, 144, .aload_n 0, [], 0, 0),
  (144, 145, .iload_n 1, [], 0, 0),
  (145, 146, .iload_n 2, [], 0, 0),
  (146, 147, .iload_n 3, [], 0, 0),
  (147, 150, .invokevirtual 422, [0, 256], 0, 0),
  (150, 153, .ifCond .eq 7, [157], 0, 0),
  (153, 155, .iload 5, [], 0, 0),
  (155, 157, .istore 4, [], 0, 0),
  (157, 160, .iinc 5 1, [], 1, 0),
  (160, 163, .goto (-102), [58], 0, 0),
  (163, 165, .iload 4, [], 0, 0),
  (165, 166, .ireturn, [], 0, 0)]
def mX12_plan : xM := (257, 12, cX12_plan, 7, (some .int), pX12_plan)
set_option maxRecDepth 100000 in
theorem gX12_plan : xgd mX12_plan := ⟨by decide +kernel, xat_in (p := 8203) rfl, by decide +kernel, by decide +kernel, by decide, by decide +kernel, by decide +kernel⟩
set_option maxRecDepth 100000 in
def pX12_see : List xRow := [(0, 1, .aload_n 0, [], 0, 0),
  (1, 2, .iconst 0, [], 0, 0),
  (2, 5, .putfield 117, [12, 0], 0, 0),
  (5, 6, .aload_n 0, [], 0, 0),
  (6, 7, .iload_n 1, [], 0, 0),
  (7, 10, .invokevirtual 380, [0, 229], 0, 0),
  (10, 13, .ifCond .eq 11, [21], 0, 0),
  (13, 14, .aload_n 0, [], 0, 0),
  (14, 15, .iload_n 2, [], 0, 0),
  (15, 18, .invokevirtual 395, [0, 230], 0, 0),
  (18, 21, .ifCond .ne 5, [23], 0, 0),
  (21, 22, .iconst 0, [], 0, 0),
  (22, 23, .ireturn, [], 0, 0),
  (23, 24, .aload_n 0, [], 0, 0),
  (24, 27, .getfield 298, [12, 56], 0, 0),
  (27, 29, .bipush 8, [], 8, 0),
  (29, 32, .if_icmp .eq 13, [42], 0, 0),
  (32, 33, .iload_n 3, [], 0, 0),
  (33, 34, .iconst (-1), [], -1, 0),
  (34, 36, .bipush 9, [], 9, 0),
  (36, 39, .invokestatic 359, [1, 169], 0, 0),
  (39, 42, .ifCond .ne 9, [48], 0, 0),
  (42, 43, .aload_n 0, [], 0, 0),
  (43, 44, .iconst 2, [], 2, 0),
  (44, 47, .invokevirtual 401, [0, 206], 0, 0),
  (47, 48, .ireturn, [], 0, 0),
  (48, 49, .aload_n 0, [], 0, 0),
  (49, 52, .getfield 105, [12, 57], 0, 0),
  (52, 53, .iconst 3, [], 3, 0),
  (53, 54, .aload_n 0, [], 0, 0),
  (54, 57, .getfield 298, [12, 56], 0, 0),
  (57, 58, .imul, [], 0, 0),
  (58, 59, .iload_n 1, [], 0, 0),
  (59, 60, .iastore, [], 0, 0),
  (60, 61, .aload_n 0, [], 0, 0),
  (61, 64, .getfield 105, [12, 57], 0, 0),
  (64, 65, .iconst 3, [], 3, 0),
  (65, 66, .aload_n 0, [], 0, 0),
  (66, 69, .getfield 298, [12, 56], 0, 0),
  (69, 70, .imul, [], 0, 0),
  (70, 71, .iconst 1, [], 1, 0),
  (71, 72, .iadd, [], 0, 0),
  (72, 73, .iload_n 2, [], 0, 0),
  (73, 74, .iastore, [], 0, 0),
  (74, 75, .aload_n 0, [], 0, 0),
  (75, 78, .getfield 105, [12, 57], 0, 0),
  (78, 79, .iconst 3, [], 3, 0),
  (79, 80, .aload_n 0, [], 0, 0),
  (80, 83, .getfield 298, [12, 56], 0, 0),
  (83, 84, .imul, [], 0, 0),
  (84, 85, .iconst 2, [], 2, 0),
  (85, 86, .iadd, [], 0, 0),
  (86, 87, .iload_n 3, [], 0, 0),
  (87, 88, .iastore, [], 0, 0),
  (88, 89, .aload_n 0, [], 0, 0),
  (89, 90, .dup, [], 0, 0),
  (90, 93, .getfield 298, [12, 56], 0, 0),
  (93, 94, .iconst 1, [], 1, 0),
  (94, 95, .iadd, [], 0, 0),
  (95, 98, .putfield 298, [12, 56], 0, 0),
  (98, 99, .aload_n 0, [], 0, 0),
  (99, 102, .getfield 298, [12, 56], 0, 0),
  (102, 103, .ireturn, [], 0, 0)]
def mX12_see : xM := (258, 12, cX12_see, 4, (some .int), pX12_see)
set_option maxRecDepth 100000 in
theorem gX12_see : xgd mX12_see := ⟨by decide +kernel, xat_in (p := 8211) rfl, by decide +kernel, by decide +kernel, by decide, by decide +kernel, by decide +kernel⟩
set_option maxRecDepth 100000 in
def pX12_forget : List xRow := [(0, 1, .aload_n 0, [], 0, 0),
  (1, 2, .iconst 0, [], 0, 0),
  (2, 5, .putfield 117, [12, 0], 0, 0),
  (5, 6, .aload_n 0, [], 0, 0),
  (6, 7, .iconst 0, [], 0, 0),
  (7, 10, .putfield 298, [12, 56], 0, 0),
  (10, 11, .return_, [], 0, 0)]
def mX12_forget : xM := (259, 12, cX12_forget, 1, none, pX12_forget)
set_option maxRecDepth 100000 in
theorem gX12_forget : xgd mX12_forget := ⟨by decide +kernel, xat_in (p := 8215) rfl, by decide +kernel, by decide +kernel, by decide, by decide +kernel, by decide +kernel⟩
set_option maxRecDepth 100000 in
def pX12_plantedNow : List xRow := [(0, 1, .iconst 0, [], 0, 0),
  (1, 2, .istore_n 1, [], 0, 0),
  (2, 3, .iconst 0, [], 0, 0),
  (3, 4, .istore_n 2, [], 0, 0),
  (4, 5, .iload_n 2, [], 0, 0),
  (5, 6, .aload_n 0, [], 0, 0),
  (6, 9, .getfield 298, [12, 56], 0, 0),
  (9, 12, .if_icmp .ge 61, [70], 0, 0),
  (12, 13, .iload_n 1, [], 0, 0),
  (13, 14, .aload_n 0, [], 0, 0),
  (14, 15, .aload_n 0, [], 0, 0),
  (15, 18, .getfield 105, [12, 57], 0, 0),
  (18, 19, .iconst 3, [], 3, 0),
  (19, 20, .iload_n 2, [], 0, 0),
  (20, 21, .imul, [], 0, 0),
  (21, 22, .iaload, [], 0, 0),
  (22, 23, .aload_n 0, [], 0, 0),
  (23, 26, .getfield 105, [12, 57], 0, 0),
  (26, 27, .iconst 3, [], 3, 0),
  (27, 28, .iload_n 2, [], 0, 0),
  (28, 29, .imul, [], 0, 0),
  (29, 30, .iconst 1, [], 1, 0),
  (30, 31, .iadd, [], 0, 0),
  (31, 32, .iaload, [], 0, 0),
  (32, 35, .invokevirtual 340, [0, 216], 0, 0),
  (35, 36, .aload_n 0, [], 0, 0),
  (36, 39, .getfield 105, [12, 57], 0, 0),
  (39, 40, .iconst 3, [], 3, 0),
  (40, 41, .iload_n 2, [], 0, 0),
  (41, 42, .imul, [], 0, 0),
  (42, 43, .iconst 2, [], 2, 0),
  (43, 44, .iadd, [], 0, 0),
  (44, 45, .iaload, [], 0, 0),
  (45, 48, .if_icmp .eq 16, [61], 0, 0),
  (48, 49, .iconst 1, [], 1, 0),
  (49, 50, .aload_n 0, [], 0, 0),
  (50, 53, .getfield 105, [12, 57], 0, 0),
  (53, 54, .iconst 3, [], 3, 0),
  (54, 55, .iload_n 2, [], 0, 0),
  (55, 56, .imul, [], 0, 0),
  (56, 57, .iaload, [], 0, 0),
  (57, 58, .ishl, [], 0, 0),
  (58, 61, .goto 4, [62], 0, 0),
  (61, 62, .iconst 0, [], 0, 0),
  (62, 63, .ior, [], 0, 0),
  (63, 64, .istore_n 1, [], 0, 0),
  (64, 67, .iinc 2 1, [], 1, 0),
  (67, 70, .goto (-63), [4], 0, 0),
  (70, 71, .iload_n 1, [], 0, 0),
  (71, 72, .ireturn, [], 0, 0)]
def mX12_plantedNow : xM := (260, 12, cX12_plantedNow, 3, (some .int), pX12_plantedNow)
set_option maxRecDepth 100000 in
theorem gX12_plantedNow : xgd mX12_plantedNow := ⟨by decide +kernel, xat_in (p := 8223) rfl, by decide +kernel, by decide +kernel, by decide, by decide +kernel, by decide +kernel⟩
set_option maxRecDepth 100000 in
def pX12_planted : List xRow := [(0, 1, .aload_n 0, [], 0, 0),
  (1, 2, .iconst 0, [], 0, 0),
  (2, 5, .putfield 117, [12, 0], 0, 0),
  (5, 6, .aload_n 0, [], 0, 0),
  (6, 7, .iconst 1, [], 1, 0),
  (7, 10, .invokevirtual 377, [0, 211], 0, 0),
  (10, 11, .aload_n 0, [], 0, 0),
  (11, 14, .invokevirtual 425, [0, 260], 0, 0),
  (14, 15, .ireturn, [], 0, 0)]
def mX12_planted : xM := (261, 12, cX12_planted, 1, (some .int), pX12_planted)
set_option maxRecDepth 100000 in
theorem gX12_planted : xgd mX12_planted := ⟨by decide +kernel, xat_in (p := 8219) rfl, by decide +kernel, by decide +kernel, by decide, by decide +kernel, by decide +kernel⟩
set_option maxRecDepth 100000 in
def pX12_suspects : List xRow := [(0, 1, .aload_n 0, [], 0, 0),
  (1, 2, .iconst 0, [], 0, 0),
  (2, 5, .putfield 117, [12, 0], 0, 0),
  (5, 6, .aload_n 0, [], 0, 0),
  (6, 7, .iload_n 1, [], 0, 0),
  (7, 10, .invokevirtual 395, [0, 230], 0, 0),
  (10, 13, .ifCond .ne 5, [15], 0, 0),
  (13, 14, .iconst 0, [], 0, 0),
  (14, 15, .ireturn, [], 0, 0),
  (15, 16, .iconst 0, [], 0, 0),
  (16, 17, .istore_n 2, [], 0, 0),
  (17, 18, .iconst 0, [], 0, 0),
  (18, 19, .istore_n 3, [], 0, 0),
  (19, 20, .iload_n 3, [], 0, 0),
  (20, 21, .aload_n 0, [], 0, 0),
  (21, 24, .getfield 285, [12, 1], 0, 0),
  (24, 27, .if_icmp .ge 55, [79], 0, 0),
  (27, 28, .iconst 1, [], 1, 0),
  (28, 30, .istore 4, [], 0, 0),
  (30, 32, .iload 4, [], 0, 0),
  (32, 34, .bipush 9, [], 9, 0),
  (34, 37, .if_icmp .gt 39, [73], 0, 0),
  (37, 38, .aload_n 0, [], 0, 0),
  (38, 39, .iconst 1, [], 1, 0),
  (39, 42, .invokevirtual 377, [0, 211], 0, 0),
  (42, 43, .aload_n 0, [], 0, 0),
  (43, 44, .iload_n 1, [], 0, 0),
  (44, 45, .iload_n 3, [], 0, 0),
  (45, 47, .iload 4, [], 0, 0),
  (47, 50, .invokevirtual 312, [0, 210], 0, 0),
  (50, 51, .iload_n 2, [], 0, 0),
  (51, 52, .aload_n 0, [], 0, 0),
  (52, 55, .invokevirtual 425, [0, 260], 0, 0),
  (55, 58, .ifCond .ne 9, [64], 0, 0),
  (58, 59, .iconst 1, [], 1, 0),
  (59, 60, .iload_n 3, [], 0, 0),
  (60, 61, .ishl, [], 0, 0),
  (61, 64, .goto 4, [65], 0, 0),
  (64, 65, .iconst 0, [], 0, 0),
  (65, 66, .ior, [], 0, 0),
  (66, 67, .istore_n 2, [], 0, 0),
  (67, 70, .iinc 4 1, [], 1, 0),
  (70, 73, .goto (-40), [30], 0, 0),
  (73, 76, .iinc 3 1, [], 1, 0),
  (76, 79, .goto (-57), [19], 0, 0),
  (79, 80, .iload_n 2, [], 0, 0),
  (80, 81, .ireturn, [], 0, 0)]
def mX12_suspects : xM := (262, 12, cX12_suspects, 5, (some .int), pX12_suspects)
set_option maxRecDepth 100000 in
theorem gX12_suspects : xgd mX12_suspects := ⟨by decide +kernel, xat_in (p := 8227) rfl, by decide +kernel, by decide +kernel, by decide, by decide +kernel, by decide +kernel⟩
set_option maxRecDepth 100000 in
def pX12_spots : List xRow := [(0, 1, .aload_n 0, [], 0, 0),
  (1, 2, .iconst 0, [], 0, 0),
  (2, 5, .putfield 117, [12, 0], 0, 0),
  (5, 6, .aload_n 0, [], 0, 0),
  (6, 7, .iload_n 1, [], 0, 0),
  (7, 10, .invokevirtual 395, [0, 230], 0, 0),
  (10, 13, .ifCond .eq 12, [22], 0, 0),
  (13, 14, .aload_n 0, [], 0, 0),
  (14, 15, .iload_n 2, [], 0, 0),
  (15, 16, .iconst 1, [], 1, 0),
  (16, 19, .invokevirtual 374, [0, 231], 0, 0),
  (19, 22, .ifCond .ne 5, [24], 0, 0),
  (22, 23, .iconst 0, [], 0, 0),
  (23, 24, .ireturn, [], 0, 0),
  (24, 25, .aload_n 0, [], 0, 0),
  (25, 26, .iconst 1, [], 1, 0),
  (26, 29, .invokevirtual 377, [0, 211], 0, 0),
  (29, 30, .aload_n 0, [], 0, 0),
  (30, 33, .getfield 23, [12, 7], 0, 0),
  (33, 35, .bipush 10, [], 10, 0),
  (35, 36, .iconst 0, [], 0, 0),
  (36, 37, .iastore, [], 0, 0),
  (37, 38, .aload_n 0, [], 0, 0),
  (38, 39, .iload_n 1, [], 0, 0),
  (39, 41, .bipush 10, [], 10, 0),
  (41, 43, .bipush 9, [], 9, 0),
  (43, 46, .invokevirtual 312, [0, 210], 0, 0),
  (46, 47, .iconst 0, [], 0, 0),
  (47, 48, .istore_n 3, [], 0, 0),
  (48, 49, .iconst (-1), [], -1, 0),
  (49, 51, .istore 4, [], 0, 0),
  (51, 52, .iconst 0, [], 0, 0),
  (52, 54, .istore 5, [], 0, 0),
  (54, 56, .iload 5, [], 0, 0),
  (56, 58, .bipush 40, [], 40, 0),
  (58, 61, .if_icmp .gt 72, [130], 0, 0),
  (61, 62, .iconst 0, [], 0, 0),
  (62, 64, .istore 6, [], 0, 0),
  (64, 66, .iload 6, [], 0, 0),
  (66, 68, .bipush 40, [], 40, 0),
  (68, 71, .if_icmp .gt 56, [124], 0, 0),
  (71, 72, .aload_n 0, [], 0, 0),
  (72, 75, .getfield 16, [12, 5], 0, 0),
  (75, 77, .bipush 10, [], 10, 0),
  (77, 79, .iload 6, [], 0, 0),
  (79, 80, .iastore, [], 0, 0),
  (80, 81, .aload_n 0, [], 0, 0),
  (81, 84, .getfield 20, [12, 6], 0, 0),
  (84, 86, .bipush 10, [], 10, 0),
  (86, 88, .iload 5, [], 0, 0),
  (88, 89, .iastore, [], 0, 0),
  (89, 90, .aload_n 0, [], 0, 0),
  (90, 93, .invokevirtual 425, [0, 260], 0, 0),
  (93, 96, .ifCond .eq 6, [99], 0, 0),
  (96, 99, .goto 22, [118], 0, 0),
  (99, 102, .iinc 3 1, [], 1, 0),
  (102, 104, .iload 4, [], 0, 0),
  (104, 105, .iconst (-1), [], -1, 0),
  (105, 108, .if_icmp .ne 13, [118], 0, 0),
  (108, 110, .bipush 100, [], 100, 0),
  (110, 112, .iload 5, [], 0, 0),
  (112, 113, .imul, [], 0, 0),
  (113, 115, .iload 6, [], 0, 0),
  (115, 116, .iadd, [], 0, 0),
  (116, 118, .istore 4, [], 0, 0),
  (118, 121, .iinc 6 1, [], 1, 0),
  (121, 124, .goto (-57), [64], 0, 0),
  (124, 127, .iinc 5 1, [], 1, 0),
  (127, 130, .goto (-73), [54], 0, 0),
  (130, 131, .iload_n 2, [], 0, 0),
  (131, 134, .ifCond .ne 7, [138], 0, 0),
  (134, 135, .iload_n 3, [], 0, 0),
  (135, 138, .goto 5, [140], 0, 0),
  (138, 140, .iload 4, [], 0, 0),
  (140, 141, .ireturn, [], 0, 0)]
def mX12_spots : xM := (263, 12, cX12_spots, 7, (some .int), pX12_spots)
set_option maxRecDepth 100000 in
theorem gX12_spots : xgd mX12_spots := ⟨by decide +kernel, xat_in (p := 8231) rfl, by decide +kernel, by decide +kernel, by decide, by decide +kernel, by decide +kernel⟩
set_option maxRecDepth 100000 in
def pX12_tellsBy : List xRow := [(0, 1, .iconst 0, [], 0, 0),
  (1, 2, .istore_n 3, [], 0, 0),
  (2, 3, .iconst 0, [], 0, 0),
  (3, 5, .istore 4, [], 0, 0),
  (5, 7, .iload 4, [], 0, 0),
  (7, 8, .aload_n 0, [], 0, 0),
  (8, 11, .getfield 285, [12, 1], 0, 0),
  (11, 14, .if_icmp .ge 43, [54], 0, 0),
  (14, 15, .iload_n 1, [], 0, 0),
  (15, 17, .iload 4, [], 0, 0),
  (17, 18, .ishr, [], 0, 0),
  (18, 19, .iconst 1, [], 1, 0),
  (19, 20, .iand, [], 0, 0),
  (20, 23, .ifCond .ne 6, [26], 0, 0),
  (23, 26, .goto 25, [48], 0, 0),
  (26, 27, .aload_n 0, [], 0, 0),
  (27, 30, .getfield 81, [12, 48], 0, 0),
  (30, 31, .iconst 0, [], 0, 0),
  (31, 33, .iload 4, [], 0, 0),
  (33, 34, .iastore, [], 0, 0),
  (34, 35, .iload_n 3, [], 0, 0),
  (35, 36, .iconst 1, [], 1, 0),
  (36, 37, .aload_n 0, [], 0, 0),
  (37, 39, .bipush 6, [], 6, 0),
  (39, 40, .iload_n 2, [], 0, 0),
  (40, 43, .invokevirtual 340, [0, 216], 0, 0),
  (43, 44, .iconst 1, [], 1, 0),
  (44, 45, .iadd, [], 0, 0),
  (45, 46, .ishl, [], 0, 0),
  (46, 47, .ior, [], 0, 0),
  (47, 48, .istore_n 3, [], 0, 0),
  (48, 51, .iinc 4 1, [], 1, 0),
  (51, 54, .goto (-46), [5], 0, 0),
  (54, 55, .iload_n 3, [], 0, 0),
  (55, 58, .invokestatic 416, [1, 172], 0, 0),
  (58, 59, .ireturn, [], 0, 0)]
def mX12_tellsBy : xM := (264, 12, cX12_tellsBy, 5, (some .int), pX12_tellsBy)
set_option maxRecDepth 100000 in
theorem gX12_tellsBy : xgd mX12_tellsBy := ⟨by decide +kernel, xat_in (p := 8239) rfl, by decide +kernel, by decide +kernel, by decide, by decide +kernel, by decide +kernel⟩
set_option maxRecDepth 100000 in
def pX12_saucer : List xRow := [(0, 1, .aload_n 0, [], 0, 0),
  (1, 2, .iconst 0, [], 0, 0),
  (2, 5, .putfield 117, [12, 0], 0, 0),
  (5, 6, .aload_n 0, [], 0, 0),
  (6, 7, .iload_n 2, [], 0, 0),
  (7, 10, .invokevirtual 395, [0, 230], 0, 0),
  (10, 13, .ifCond .eq 39, [49], 0, 0),
  (13, 14, .aload_n 0, [], 0, 0),
  (14, 15, .iload_n 3, [], 0, 0),
  (15, 16, .iconst 1, [], 1, 0),
  (16, 19, .invokevirtual 374, [0, 231], 0, 0),
  (19, 22, .ifCond .eq 30, [49], 0, 0),
  (22, 23, .aload_n 0, [], 0, 0),
  (23, 24, .iload_n 1, [], 0, 0),
  (24, 27, .ifCond .lt 17, [41], 0, 0),
  (27, 28, .iload_n 1, [], 0, 0),
  (28, 29, .iconst 1, [], 1, 0),
  (29, 30, .aload_n 0, [], 0, 0),
  (30, 33, .getfield 285, [12, 1], 0, 0),
  (33, 34, .ishl, [], 0, 0),
  (34, 37, .if_icmp .ge 7, [41], 0, 0),
  (37, 38, .iconst 1, [], 1, 0),
  (38, 41, .goto 4, [42], 0, 0),
  (41, 42, .iconst 0, [], 0, 0),
  (42, 43, .iconst 2, [], 2, 0),
  (43, 46, .invokevirtual 278, [0, 168], 0, 0),
  (46, 49, .ifCond .ne 5, [51], 0, 0),
  (49, 50, .iconst 0, [], 0, 0),
  (50, 51, .ireturn, [], 0, 0),
  (51, 52, .aload_n 0, [], 0, 0),
  (52, 53, .iconst 0, [], 0, 0),
  (53, 55, .bipush 9, [], 9, 0),
  (55, 56, .iload_n 2, [], 0, 0),
  (56, 59, .invokevirtual 413, [0, 251], 0, 0),
  (59, 60, .aload_n 0, [], 0, 0),
  (60, 63, .getfield 93, [12, 52], 0, 0),
  (63, 65, .bipush 6, [], 6, 0),
  (65, 66, .iconst 0, [], 0, 0),
  (66, 67, .iastore, [], 0, 0),
  (67, 68, .iconst (-1), [], -1, 0),
  (68, 70, .istore 4, [], 0, 0),
  (70, 71, .iconst (-1), [], -1, 0),
  (71, 73, .istore 5, [], 0, 0),
  (73, 74, .iconst 0, [], 0, 0),
  (74, 76, .istore 6, [], 0, 0),
  (76, 78, .iload 6, [], 0, 0),
  (78, 80, .bipush 40, [], 40, 0),
  (80, 83, .if_icmp .gt 75, [155], 0, 0),
  (83, 84, .iconst 0, [], 0, 0),
  (84, 86, .istore 7, [], 0, 0),
  (86, 88, .iload 7, [], 0, 0),
  (88, 90, .bipush 40, [], 40, 0),
  (90, 93, .if_icmp .gt 59, [149], 0, 0),
  (93, 94, .aload_n 0, [], 0, 0),
  (94, 97, .getfield 87, [12, 50], 0, 0),
  (97, 99, .bipush 6, [], 6, 0),
  (99, 101, .iload 7, [], 0, 0),
  (101, 102, .iastore, [], 0, 0),
  (102, 103, .aload_n 0, [], 0, 0),
  (103, 106, .getfield 90, [12, 51], 0, 0),
  (106, 108, .bipush 6, [], 6, 0),
  (108, 110, .iload 6, [], 0, 0),
  (110, 111, .iastore, [], 0, 0),
  (111, 112, .aload_n 0, [], 0, 0),
  (112, 113, .iload_n 1, [], 0, 0),
  (113, 114, .iload_n 2, [], 0, 0),
  (114, 117, .invokevirtual 428, [0, 264], 0, 0),
  (117, 119, .istore 8, [], 0, 0),
  (119, 121, .iload 8, [], 0, 0),
  (121, 123, .iload 5, [], 0, 0),
  (123, 126, .if_icmp .gt 6, [129], 0, 0),
  (126, 129, .goto 17, [143], 0, 0),
  (129, 131, .bipush 100, [], 100, 0),
  (131, 133, .iload 6, [], 0, 0),
  (133, 134, .imul, [], 0, 0),
  (134, 136, .iload 7, [], 0, 0),
  (136, 137, .iadd, [], 0, 0),
  (137, 139, .istore 4, [], 0, 0),
  (139, 141, .iload 8, [], 0, 0),
  (141, 143, .istore 5, [], 0, 0),
  (143, 146, .iinc 7 1, [], 1, 0),
  (146, 149, .goto (-60), [86], 0, 0),
  (149, 152, .iinc 6 1, [], 1, 0),
  (152, 155, .goto (-76), [76], 0, 0),
  (155, 156, .iload_n 3, [], 0, 0),
  (156, 159, .ifCond .ne 8, [164], 0, 0),
  (159, 161, .iload 5, [], 0, 0),
  (161, 164, .goto 5, [166], 0, 0),
  (164, 166, .iload 4, [], 0, 0),
  (166, 167, .ireturn, [], 0, 0)]
def mX12_saucer : xM := (265, 12, cX12_saucer, 9, (some .int), pX12_saucer)
set_option maxRecDepth 100000 in
theorem gX12_saucer : xgd mX12_saucer := ⟨by decide +kernel, xat_in (p := 8235) rfl, by decide +kernel, by decide +kernel, by decide, by decide +kernel, by decide +kernel⟩
set_option maxRecDepth 100000 in
def pX12_gains : List xRow := [(0, 1, .iconst 5, [], 5, 0),
  (1, 2, .iload_n 1, [], 0, 0),
  (2, 3, .imul, [], 0, 0),
  (3, 4, .iload_n 2, [], 0, 0),
  (4, 5, .iload_n 0, [], 0, 0),
  (5, 8, .if_icmp .ne 7, [12], 0, 0),
  (8, 9, .iload_n 3, [], 0, 0),
  (9, 12, .goto 4, [13], 0, 0),
  (12, 13, .iconst 0, [], 0, 0),
  (13, 14, .isub, [], 0, 0),
  (14, 15, .ireturn, [], 0, 0)]
def mX12_gains : xM := (266, 12, cX12_gains, 4, (some .int), pX12_gains)
set_option maxRecDepth 100000 in
theorem gX12_gains : xgd mX12_gains := ⟨by decide +kernel, xat_in (p := 9010) rfl, by decide +kernel, by decide +kernel, by decide, by decide +kernel, by decide +kernel⟩
set_option maxRecDepth 100000 in
def pX12_accusedIf : List xRow := [(0, 1, .aload_n 0, [], 0, 0),
  (1, 2, .iconst 1, [], 1, 0),
  (2, 5, .invokevirtual 377, [0, 211], 0, 0),
  (5, 6, .iload_n 2, [], 0, 0),
  (6, 7, .iconst 1, [], 1, 0),
  (7, 10, .if_icmp .ne 12, [19], 0, 0),
  (10, 11, .aload_n 0, [], 0, 0),
  (11, 13, .iload 5, [], 0, 0),
  (13, 14, .iload_n 1, [], 0, 0),
  (14, 16, .bipush 9, [], 9, 0),
  (16, 19, .invokevirtual 312, [0, 210], 0, 0),
  (19, 21, .iload 4, [], 0, 0),
  (21, 22, .iconst 1, [], 1, 0),
  (22, 25, .if_icmp .ne 12, [34], 0, 0),
  (25, 26, .aload_n 0, [], 0, 0),
  (26, 28, .iload 5, [], 0, 0),
  (28, 29, .iload_n 3, [], 0, 0),
  (29, 31, .bipush 9, [], 9, 0),
  (31, 34, .invokevirtual 312, [0, 210], 0, 0),
  (34, 35, .aload_n 0, [], 0, 0),
  (35, 37, .iload 5, [], 0, 0),
  (37, 40, .invokevirtual 398, [0, 223], 0, 0),
  (40, 41, .ireturn, [], 0, 0)]
def mX12_accusedIf : xM := (267, 12, cX12_accusedIf, 6, (some .int), pX12_accusedIf)
set_option maxRecDepth 100000 in
theorem gX12_accusedIf : xgd mX12_accusedIf := ⟨by decide +kernel, xat_in (p := 9007) rfl, by decide +kernel, by decide +kernel, by decide, by decide +kernel, by decide +kernel⟩
set_option maxRecDepth 100000 in
def pX12_game : List xRow := [(0, 1, .aload_n 0, [], 0, 0),
  (1, 2, .iconst 0, [], 0, 0),
  (2, 5, .putfield 117, [12, 0], 0, 0),
  (5, 6, .aload_n 0, [], 0, 0),
  (6, 7, .iload_n 1, [], 0, 0),
  (7, 10, .invokevirtual 371, [0, 228], 0, 0),
  (10, 13, .ifCond .eq 58, [68], 0, 0),
  (13, 14, .aload_n 0, [], 0, 0),
  (14, 15, .iload_n 2, [], 0, 0),
  (15, 18, .invokevirtual 371, [0, 228], 0, 0),
  (18, 21, .ifCond .eq 50, [68], 0, 0),
  (21, 22, .aload_n 0, [], 0, 0),
  (22, 23, .iload_n 3, [], 0, 0),
  (23, 26, .invokevirtual 395, [0, 230], 0, 0),
  (26, 29, .ifCond .eq 42, [68], 0, 0),
  (29, 30, .aload_n 0, [], 0, 0),
  (30, 32, .iload 5, [], 0, 0),
  (32, 33, .iconst 1, [], 1, 0),
  (33, 36, .invokevirtual 374, [0, 231], 0, 0),
  (36, 39, .ifCond .eq 32, [68], 0, 0),
  (39, 40, .aload_n 0, [], 0, 0),
  (40, 41, .iload_n 1, [], 0, 0),
  (41, 42, .iload_n 2, [], 0, 0),
  (42, 45, .if_icmp .eq 18, [60], 0, 0),
  (45, 47, .iload 4, [], 0, 0),
  (47, 48, .iconst 0, [], 0, 0),
  (48, 50, .bipush 99, [], 99, 0),
  (50, 53, .invokestatic 359, [1, 169], 0, 0),
  (53, 56, .ifCond .eq 7, [60], 0, 0),
  (56, 57, .iconst 1, [], 1, 0),
  (57, 60, .goto 4, [61], 0, 0),
  (60, 61, .iconst 0, [], 0, 0),
  (61, 62, .iconst 2, [], 2, 0),
  (62, 65, .invokevirtual 278, [0, 168], 0, 0),
  (65, 68, .ifCond .ne 5, [70], 0, 0),
  (68, 69, .iconst 0, [], 0, 0),
  (69, 70, .ireturn, [], 0, 0),
  (70, 71, .iconst 0, [], 0, 0),
  (71, 73, .istore 6, [], 0, 0),
  (73, 75, .iload 6, [], 0, 0),
  (75, 76, .iconst 4, [], 4, 0),
  (76, 79, .if_icmp .ge 31, [107], 0, 0),
  (79, 80, .aload_n 0, [], 0, 0),
  (80, 83, .getfield 99, [12, 54], 0, 0),
  (83, 85, .iload 6, [], 0, 0),
  (85, 86, .aload_n 0, [], 0, 0),
  (86, 87, .iload_n 1, [], 0, 0),
  (87, 89, .iload 6, [], 0, 0),
  (89, 90, .iconst 2, [], 2, 0),
  (90, 91, .idiv, [], 0, 0),
  (91, 92, .iload_n 2, [], 0, 0),
  (92, 94, .iload 6, [], 0, 0),
  (94, 95, .iconst 2, [], 2, 0),
  (95, 96, .irem, [], 0, 0),
  (96, 97, .iload_n 3, [], 0, 0),
  (97, 100, .invokevirtual 431, [0, 267], 0, 0),
  (100, 101, .iastore, [], 0, 0),
  (101, 104, .iinc 6 1, [], 1, 0),
  (104, 107, .goto (-31), [73], 0, 0),
  (107, 108, .iconst 0, [], 0, 0),
  (108, 110, .istore 6, [], 0, 0),
  (110, 111, .iconst (-1), [], -1, 0),
  (111, 113, .istore 7, [], 0, 0),
  (113, 114, .iconst 0, [], 0, 0),
  (114, 116, .istore 8, [], 0, 0),
  (116, 118, .iload 8, [], 0, 0),
  (118, 119, .iconst 4, [], 4, 0),
  (119, 122, .if_icmp .ge 137, [256], 0, 0),
  (122, 124, .iload 8, [], 0, 0),
  (124, 125, .iconst 2, [], 2, 0),
  (125, 126, .iadd, [], 0, 0),
  (126, 127, .iconst 4, [], 4, 0),
  (127, 128, .irem, [], 0, 0),
  (128, 130, .istore 9, [], 0, 0),
  (130, 132, .iload 8, [], 0, 0),
  (132, 133, .iconst 2, [], 2, 0),
  (133, 134, .irem, [], 0, 0),
  (134, 137, .ifCond .ne 10, [144], 0, 0),
  (137, 139, .iload 8, [], 0, 0),
  (139, 140, .iconst 1, [], 1, 0),
  (140, 141, .iadd, [], 0, 0),
  (141, 144, .goto 7, [148], 0, 0),
  (144, 146, .iload 8, [], 0, 0),
  (146, 147, .iconst 1, [], 1, 0),
  (147, 148, .isub, [], 0, 0),
  (148, 150, .istore 10, [], 0, 0),
  (150, 151, .iload_n 1, [], 0, 0),
  (151, 153, .iload 9, [], 0, 0),
  (153, 154, .iconst 2, [], 2, 0),
  (154, 155, .idiv, [], 0, 0),
  (155, 156, .aload_n 0, [], 0, 0),
  (156, 159, .getfield 99, [12, 54], 0, 0),
  (159, 161, .iload 9, [], 0, 0),
  (161, 162, .iaload, [], 0, 0),
  (162, 164, .iload 4, [], 0, 0),
  (164, 167, .invokestatic 435, [1, 266], 0, 0),
  (167, 168, .iload_n 1, [], 0, 0),
  (168, 170, .iload 8, [], 0, 0),
  (170, 171, .iconst 2, [], 2, 0),
  (171, 172, .idiv, [], 0, 0),
  (172, 173, .aload_n 0, [], 0, 0),
  (173, 176, .getfield 99, [12, 54], 0, 0),
  (176, 178, .iload 8, [], 0, 0),
  (178, 179, .iaload, [], 0, 0),
  (179, 181, .iload 4, [], 0, 0),
  (181, 184, .invokestatic 435, [1, 266], 0, 0),
  (184, 187, .if_icmp .gt 66, [250], 0, 0),
  (187, 188, .iload_n 2, [], 0, 0),
  (188, 190, .iload 10, [], 0, 0),
  (190, 191, .iconst 2, [], 2, 0),
  (191, 192, .irem, [], 0, 0),
  (192, 193, .aload_n 0, [], 0, 0),
  (193, 196, .getfield 99, [12, 54], 0, 0),
  (196, 198, .iload 10, [], 0, 0),
  (198, 199, .iaload, [], 0, 0),
  (199, 201, .iload 4, [], 0, 0),
  (201, 204, .invokestatic 435, [1, 266], 0, 0),
  (204, 205, .iload_n 2, [], 0, 0),
  (205, 207, .iload 8, [], 0, 0),
  (207, 208, .iconst 2, [], 2, 0),
  (208, 209, .irem, [], 0, 0),
  (209, 210, .aload_n 0, [], 0, 0),
  (210, 213, .getfield 99, [12, 54], 0, 0),
  (213, 215, .iload 8, [], 0, 0),
  (215, 216, .iaload, [], 0, 0),
  (216, 218, .iload 4, [], 0, 0),
  (218, 221, .invokestatic 435, [1, 266], 0, 0),
  (221, 224, .if_icmp .le 6, [227], 0, 0),
  (224, 227, .goto 26, [250], 0, 0),
  (227, 230, .iinc 6 1, [], 1, 0),
  (230, 232, .iload 7, [], 0, 0),
  (232, 233, .iconst (-1), [], -1, 0),
  (233, 236, .if_icmp .ne 17, [250], 0, 0),
  (236, 238, .bipush 10, [], 10, 0),
  (238, 240, .iload 8, [], 0, 0),
  (240, 241, .iconst 2, [], 2, 0),
  (241, 242, .idiv, [], 0, 0),
  (242, 243, .imul, [], 0, 0),
  (243, 245, .iload 8, [], 0, 0),
  (245, 246, .iconst 2, [], 2, 0),
  (246, 247, .irem, [], 0, 0),
  (247, 248, .iadd, [], 0, 0),
  (248, 250, .istore 7, [], 0, 0),
  (250, 253, .iinc 8 1, [], 1, 0),
  (253, 256, .goto (-137), [116], 0, 0),
  (256, 258, .iload 5, [], 0, 0),
  (258, 261, .ifCond .ne 8, [266], 0, 0),
  (261, 263, .iload 6, [], 0, 0),
  (263, 266, .goto 5, [268], 0, 0),
  (266, 268, .iload 7, [], 0, 0),
  (268, 269, .ireturn, [], 0, 0)]
def mX12_game : xM := (268, 12, cX12_game, 11, (some .int), pX12_game)
set_option maxRecDepth 100000 in
theorem gX12_game : xgd mX12_game := ⟨by decide +kernel, xat_in (p := 9003) rfl, by decide +kernel, by decide +kernel, by decide, by decide +kernel, by decide +kernel⟩
set_option maxRecDepth 100000 in
def pX12_draw : List xRow := [(0, 1, .aload_n 0, [], 0, 0),
  (1, 2, .aload_n 0, [], 0, 0),
  (2, 5, .getfield 439, [12, 58], 0, 0),
  (5, 8, .ldc_w 442, [], 1103515245, 0),
  (8, 9, .imul, [], 0, 0),
  (9, 12, .sipush 12345, [], 12345, 0),
  (12, 13, .iadd, [], 0, 0),
  (13, 16, .putfield 439, [12, 58], 0, 0),
  (16, 17, .aload_n 0, [], 0, 0),
  (17, 20, .getfield 439, [12, 58], 0, 0),
  (20, 22, .bipush 16, [], 16, 0),
  (22, 23, .ishr, [], 0, 0),
  (23, 26, .sipush 32767, [], 32767, 0),
  (26, 27, .iand, [], 0, 0),
  (27, 28, .iload_n 1, [], 0, 0),
  (28, 29, .irem, [], 0, 0),
  (29, 30, .ireturn, [], 0, 0)]
def mX12_draw : xM := (269, 12, cX12_draw, 2, (some .int), pX12_draw)
set_option maxRecDepth 100000 in
theorem gX12_draw : xgd mX12_draw := ⟨by decide +kernel, xat_in (p := 9018) rfl, by decide +kernel, by decide +kernel, by decide, by decide +kernel, by decide +kernel⟩
set_option maxRecDepth 100000 in
def pX12_years : List xRow := [(0, 1, .aload_n 0, [], 0, 0),
  (1, 2, .iconst 0, [], 0, 0),
  (2, 5, .putfield 117, [12, 0], 0, 0),
  (5, 6, .aload_n 0, [], 0, 0),
  (6, 7, .iload_n 3, [], 0, 0),
  (7, 8, .iconst 2, [], 2, 0),
  (8, 11, .invokevirtual 374, [0, 231], 0, 0),
  (11, 14, .ifCond .eq 18, [29], 0, 0),
  (14, 15, .aload_n 0, [], 0, 0),
  (15, 16, .iload_n 2, [], 0, 0),
  (16, 17, .iconst 0, [], 0, 0),
  (17, 19, .bipush 99, [], 99, 0),
  (19, 22, .invokestatic 359, [1, 169], 0, 0),
  (22, 23, .iconst 2, [], 2, 0),
  (23, 26, .invokevirtual 278, [0, 168], 0, 0),
  (26, 29, .ifCond .ne 5, [31], 0, 0),
  (29, 30, .iconst 0, [], 0, 0),
  (30, 31, .ireturn, [], 0, 0),
  (31, 32, .aload_n 0, [], 0, 0),
  (32, 33, .iconst 0, [], 0, 0),
  (33, 36, .invokevirtual 377, [0, 211], 0, 0),
  (36, 37, .aload_n 0, [], 0, 0),
  (37, 38, .iload_n 1, [], 0, 0),
  (38, 41, .putfield 439, [12, 58], 0, 0),
  (41, 42, .iconst 0, [], 0, 0),
  (42, 44, .istore 4, [], 0, 0),
  (44, 45, .iconst 0, [], 0, 0),
  (45, 47, .istore 5, [], 0, 0),
  (47, 49, .iload 5, [], 0, 0),
  (49, 50, .iload_n 2, [], 0, 0),
  (50, 53, .if_icmp .ge 112, [162], 0, 0),
  (53, 54, .aload_n 0, [], 0, 0),
  (54, 57, .getfield 285, [12, 1], 0, 0),
  (57, 60, .ifCond .le 105, [162], 0, 0),
  (60, 61, .aload_n 0, [], 0, 0),
  (61, 62, .aload_n 0, [], 0, 0),
  (62, 65, .getfield 285, [12, 1], 0, 0),
  (65, 68, .invokevirtual 443, [0, 269], 0, 0),
  (68, 70, .istore 6, [], 0, 0),
  (70, 71, .aload_n 0, [], 0, 0),
  (71, 73, .bipush 10, [], 10, 0),
  (73, 76, .invokevirtual 443, [0, 269], 0, 0),
  (76, 78, .istore 7, [], 0, 0),
  (78, 79, .aload_n 0, [], 0, 0),
  (79, 81, .iload 5, [], 0, 0),
  (81, 83, .iload 6, [], 0, 0),
  (83, 85, .iload 7, [], 0, 0),
  (85, 88, .invokevirtual 312, [0, 210], 0, 0),
  (88, 89, .aload_n 0, [], 0, 0),
  (89, 91, .iload 5, [], 0, 0),
  (91, 94, .invokevirtual 398, [0, 223], 0, 0),
  (94, 96, .iload 6, [], 0, 0),
  (96, 99, .if_icmp .ne 7, [103], 0, 0),
  (99, 100, .iconst 1, [], 1, 0),
  (100, 103, .goto 4, [104], 0, 0),
  (103, 104, .iconst 0, [], 0, 0),
  (104, 106, .istore 8, [], 0, 0),
  (106, 108, .iload 4, [], 0, 0),
  (108, 109, .iload_n 3, [], 0, 0),
  (109, 112, .ifCond .ne 16, [125], 0, 0),
  (112, 114, .iload 7, [], 0, 0),
  (114, 117, .ifCond .le 38, [152], 0, 0),
  (117, 119, .iload 8, [], 0, 0),
  (119, 122, .ifCond .eq 33, [152], 0, 0),
  (122, 125, .goto 26, [148], 0, 0),
  (125, 126, .iload_n 3, [], 0, 0),
  (126, 127, .iconst 1, [], 1, 0),
  (127, 130, .if_icmp .ne 11, [138], 0, 0),
  (130, 132, .iload 7, [], 0, 0),
  (132, 135, .ifCond .le 20, [152], 0, 0),
  (135, 138, .goto 13, [148], 0, 0),
  (138, 140, .iload 7, [], 0, 0),
  (140, 143, .ifCond .ne 12, [152], 0, 0),
  (143, 145, .iload 8, [], 0, 0),
  (145, 148, .ifCond .eq 7, [152], 0, 0),
  (148, 149, .iconst 1, [], 1, 0),
  (149, 152, .goto 4, [153], 0, 0),
  (152, 153, .iconst 0, [], 0, 0),
  (153, 154, .iadd, [], 0, 0),
  (154, 156, .istore 4, [], 0, 0),
  (156, 159, .iinc 5 1, [], 1, 0),
  (159, 162, .goto (-112), [47], 0, 0),
  (162, 164, .iload 4, [], 0, 0),
  (164, 165, .ireturn, [], 0, 0)]
def mX12_years : xM := (270, 12, cX12_years, 9, (some .int), pX12_years)
set_option maxRecDepth 100000 in
theorem gX12_years : xgd mX12_years := ⟨by decide +kernel, xat_in (p := 9014) rfl, by decide +kernel, by decide +kernel, by decide, by decide +kernel, by decide +kernel⟩
set_option maxRecDepth 100000 in
def pX12_shown : List xRow := [(0, 1, .aload_n 0, [], 0, 0),
  (1, 2, .iconst 0, [], 0, 0),
  (2, 5, .putfield 117, [12, 0], 0, 0),
  (5, 6, .aload_n 0, [], 0, 0),
  (6, 7, .iload_n 1, [], 0, 0),
  (7, 10, .invokevirtual 380, [0, 229], 0, 0),
  (10, 13, .ifCond .eq 18, [28], 0, 0),
  (13, 14, .aload_n 0, [], 0, 0),
  (14, 15, .iload_n 2, [], 0, 0),
  (15, 16, .iconst (-1), [], -1, 0),
  (16, 18, .bipush 9, [], 9, 0),
  (18, 21, .invokestatic 359, [1, 169], 0, 0),
  (21, 22, .iconst 1, [], 1, 0),
  (22, 25, .invokevirtual 278, [0, 168], 0, 0),
  (25, 28, .ifCond .ne 5, [30], 0, 0),
  (28, 29, .iconst 0, [], 0, 0),
  (29, 30, .ireturn, [], 0, 0),
  (30, 31, .aload_n 0, [], 0, 0),
  (31, 32, .iconst 1, [], 1, 0),
  (32, 35, .invokevirtual 377, [0, 211], 0, 0),
  (35, 36, .iconst 0, [], 0, 0),
  (36, 37, .istore_n 3, [], 0, 0),
  (37, 38, .iconst 0, [], 0, 0),
  (38, 40, .istore 4, [], 0, 0),
  (40, 42, .iload 4, [], 0, 0),
  (42, 44, .bipush 100, [], 100, 0),
  (44, 47, .if_icmp .ge 28, [72], 0, 0),
  (47, 48, .iload_n 3, [], 0, 0),
  (48, 49, .aload_n 0, [], 0, 0),
  (49, 50, .iload_n 1, [], 0, 0),
  (50, 52, .iload 4, [], 0, 0),
  (52, 55, .invokevirtual 340, [0, 216], 0, 0),
  (55, 56, .iload_n 2, [], 0, 0),
  (56, 59, .if_icmp .ne 7, [63], 0, 0),
  (59, 60, .iconst 1, [], 1, 0),
  (60, 63, .goto 4, [64], 0, 0),
  (63, 64, .iconst 0, [], 0, 0),
  (64, 65, .iadd, [], 0, 0),
  (65, 66, .istore_n 3, [], 0, 0),
  (66, 69, .iinc 4 1, [], 1, 0),
  (69, 72, .goto (-29), [40], 0, 0),
  (72, 73, .iload_n 3, [], 0, 0),
  (73, 74, .ireturn, [], 0, 0)]
def mX12_shown : xM := (271, 12, cX12_shown, 5, (some .int), pX12_shown)
set_option maxRecDepth 100000 in
theorem gX12_shown : xgd mX12_shown := ⟨by decide +kernel, xat_in (p := 9023) rfl, by decide +kernel, by decide +kernel, by decide, by decide +kernel, by decide +kernel⟩
set_option maxRecDepth 100000 in
def pX12_named : List xRow := [(0, 1, .aload_n 0, [], 0, 0),
  (1, 2, .iconst 0, [], 0, 0),
  (2, 5, .putfield 117, [12, 0], 0, 0),
  (5, 6, .aload_n 0, [], 0, 0),
  (6, 7, .iload_n 1, [], 0, 0),
  (7, 10, .invokevirtual 371, [0, 228], 0, 0),
  (10, 13, .ifCond .eq 12, [22], 0, 0),
  (13, 14, .aload_n 0, [], 0, 0),
  (14, 15, .iload_n 2, [], 0, 0),
  (15, 16, .iconst 1, [], 1, 0),
  (16, 19, .invokevirtual 374, [0, 231], 0, 0),
  (19, 22, .ifCond .ne 5, [24], 0, 0),
  (22, 23, .iconst 0, [], 0, 0),
  (23, 24, .ireturn, [], 0, 0),
  (24, 25, .aload_n 0, [], 0, 0),
  (25, 26, .iconst 1, [], 1, 0),
  (26, 29, .invokevirtual 377, [0, 211], 0, 0),
  (29, 30, .iconst 0, [], 0, 0),
  (30, 31, .istore_n 3, [], 0, 0),
  (31, 32, .iconst 0, [], 0, 0),
  (32, 34, .istore 4, [], 0, 0),
  (34, 36, .iload 4, [], 0, 0),
  (36, 38, .bipush 100, [], 100, 0),
  (38, 41, .if_icmp .ge 87, [125], 0, 0),
  (41, 42, .aload_n 0, [], 0, 0),
  (42, 44, .iload 4, [], 0, 0),
  (44, 47, .invokevirtual 353, [0, 219], 0, 0),
  (47, 48, .iload_n 2, [], 0, 0),
  (48, 49, .iconst 1, [], 1, 0),
  (49, 52, .if_icmp .ne 23, [72], 0, 0),
  (52, 53, .iload_n 3, [], 0, 0),
  (53, 54, .aload_n 0, [], 0, 0),
  (54, 56, .iload 4, [], 0, 0),
  (56, 58, .bipush 63, [], 63, 0),
  (58, 61, .invokevirtual 356, [0, 222], 0, 0),
  (61, 62, .iload_n 1, [], 0, 0),
  (62, 65, .if_icmp .ne 7, [69], 0, 0),
  (65, 66, .iconst 1, [], 1, 0),
  (66, 69, .goto 4, [70], 0, 0),
  (69, 70, .iconst 0, [], 0, 0),
  (70, 71, .iadd, [], 0, 0),
  (71, 72, .istore_n 3, [], 0, 0),
  (72, 73, .iconst 0, [], 0, 0),
  (73, 75, .istore 5, [], 0, 0),
  (75, 77, .iload 5, [], 0, 0),
  (77, 78, .aload_n 0, [], 0, 0),
  (78, 81, .getfield 288, [12, 2], 0, 0),
  (81, 84, .if_icmp .ge 38, [119], 0, 0),
  (84, 85, .iload_n 2, [], 0, 0),
  (85, 88, .ifCond .ne 34, [119], 0, 0),
  (88, 89, .iload_n 3, [], 0, 0),
  (89, 90, .aload_n 0, [], 0, 0),
  (90, 92, .iload 5, [], 0, 0),
  (92, 93, .iload_n 1, [], 0, 0),
  (93, 94, .aload_n 0, [], 0, 0),
  (94, 97, .getfield 96, [12, 53], 0, 0),
  (97, 99, .iload 5, [], 0, 0),
  (99, 100, .iaload, [], 0, 0),
  (100, 103, .invokevirtual 343, [0, 218], 0, 0),
  (103, 106, .ifCond .eq 7, [110], 0, 0),
  (106, 107, .iconst 1, [], 1, 0),
  (107, 110, .goto 4, [111], 0, 0),
  (110, 111, .iconst 0, [], 0, 0),
  (111, 112, .iadd, [], 0, 0),
  (112, 113, .istore_n 3, [], 0, 0),
  (113, 116, .iinc 5 1, [], 1, 0),
  (116, 119, .goto (-41), [75], 0, 0),
  (119, 122, .iinc 4 1, [], 1, 0),
  (122, 125, .goto (-88), [34], 0, 0),
  (125, 126, .iload_n 3, [], 0, 0),
  (126, 127, .ireturn, [], 0, 0)]
def mX12_named : xM := (272, 12, cX12_named, 6, (some .int), pX12_named)
set_option maxRecDepth 100000 in
theorem gX12_named : xgd mX12_named := ⟨by decide +kernel, xat_in (p := 9027) rfl, by decide +kernel, by decide +kernel, by decide, by decide +kernel, by decide +kernel⟩
set_option maxRecDepth 100000 in
def pX12_butFor : List xRow := [(0, 1, .aload_n 0, [], 0, 0),
  (1, 2, .iconst 0, [], 0, 0),
  (2, 5, .putfield 117, [12, 0], 0, 0),
  (5, 6, .aload_n 0, [], 0, 0),
  (6, 7, .iload_n 1, [], 0, 0),
  (7, 10, .invokevirtual 389, [0, 236], 0, 0),
  (10, 13, .ifCond .ne 5, [15], 0, 0),
  (13, 14, .iconst 0, [], 0, 0),
  (14, 15, .ireturn, [], 0, 0),
  (15, 16, .aload_n 0, [], 0, 0),
  (16, 17, .iconst 1, [], 1, 0),
  (17, 20, .invokevirtual 377, [0, 211], 0, 0),
  (20, 21, .iconst 0, [], 0, 0),
  (21, 22, .istore_n 2, [], 0, 0),
  (22, 23, .aload_n 0, [], 0, 0),
  (23, 26, .getfield 84, [12, 49], 0, 0),
  (26, 27, .iload_n 1, [], 0, 0),
  (27, 28, .iaload, [], 0, 0),
  (28, 29, .istore_n 3, [], 0, 0),
  (29, 30, .iconst 0, [], 0, 0),
  (30, 32, .istore 4, [], 0, 0),
  (32, 34, .iload 4, [], 0, 0),
  (34, 35, .aload_n 0, [], 0, 0),
  (35, 38, .getfield 288, [12, 2], 0, 0),
  (38, 41, .if_icmp .ge 70, [108], 0, 0),
  (41, 42, .iconst 0, [], 0, 0),
  (42, 44, .istore 5, [], 0, 0),
  (44, 46, .iload 5, [], 0, 0),
  (46, 48, .bipush 100, [], 100, 0),
  (48, 51, .if_icmp .ge 54, [102], 0, 0),
  (51, 52, .aload_n 0, [], 0, 0),
  (52, 54, .iload 4, [], 0, 0),
  (54, 56, .iload 5, [], 0, 0),
  (56, 59, .invokevirtual 340, [0, 216], 0, 0),
  (59, 61, .istore 6, [], 0, 0),
  (61, 62, .aload_n 0, [], 0, 0),
  (62, 65, .getfield 84, [12, 49], 0, 0),
  (65, 66, .iload_n 1, [], 0, 0),
  (66, 67, .iconst 0, [], 0, 0),
  (67, 68, .iastore, [], 0, 0),
  (68, 69, .iload_n 2, [], 0, 0),
  (69, 70, .aload_n 0, [], 0, 0),
  (70, 72, .iload 4, [], 0, 0),
  (72, 74, .iload 5, [], 0, 0),
  (74, 77, .invokevirtual 340, [0, 216], 0, 0),
  (77, 79, .iload 6, [], 0, 0),
  (79, 82, .if_icmp .eq 7, [86], 0, 0),
  (82, 83, .iconst 1, [], 1, 0),
  (83, 86, .goto 4, [87], 0, 0),
  (86, 87, .iconst 0, [], 0, 0),
  (87, 88, .iadd, [], 0, 0),
  (88, 89, .istore_n 2, [], 0, 0),
  (89, 90, .aload_n 0, [], 0, 0),
  (90, 93, .getfield 84, [12, 49], 0, 0),
  (93, 94, .iload_n 1, [], 0, 0),
  (94, 95, .iload_n 3, [], 0, 0),
  (95, 96, .iastore, [], 0, 0),
  (96, 99, .iinc 5 1, [], 1, 0),
  (99, 102, .goto (-55), [44], 0, 0),
  (102, 105, .iinc 4 1, [], 1, 0),
  (105, 108, .goto (-73), [32], 0, 0),
  (108, 109, .iload_n 2, [], 0, 0),
  (109, 110, .ireturn, [], 0, 0)]
def mX12_butFor : xM := (273, 12, cX12_butFor, 7, (some .int), pX12_butFor)
set_option maxRecDepth 100000 in
theorem gX12_butFor : xgd mX12_butFor := ⟨by decide +kernel, xat_in (p := 9031) rfl, by decide +kernel, by decide +kernel, by decide, by decide +kernel, by decide +kernel⟩
set_option maxRecDepth 100000 in
def pX12_rusted : List xRow := [(0, 1, .aload_n 0, [], 0, 0),
  (1, 2, .iconst 0, [], 0, 0),
  (2, 5, .putfield 117, [12, 0], 0, 0),
  (5, 6, .aload_n 0, [], 0, 0),
  (6, 7, .iload_n 1, [], 0, 0),
  (7, 10, .invokevirtual 380, [0, 229], 0, 0),
  (10, 13, .ifCond .ne 5, [15], 0, 0),
  (13, 14, .iconst 0, [], 0, 0),
  (14, 15, .ireturn, [], 0, 0),
  (15, 16, .aload_n 0, [], 0, 0),
  (16, 17, .iconst 1, [], 1, 0),
  (17, 20, .invokevirtual 377, [0, 211], 0, 0),
  (20, 21, .iconst 0, [], 0, 0),
  (21, 22, .istore_n 2, [], 0, 0),
  (22, 23, .iload_n 2, [], 0, 0),
  (23, 25, .bipush 9, [], 9, 0),
  (25, 28, .if_icmp .gt 62, [87], 0, 0),
  (28, 29, .aload_n 0, [], 0, 0),
  (29, 32, .getfield 93, [12, 52], 0, 0),
  (32, 33, .iload_n 1, [], 0, 0),
  (33, 34, .iload_n 2, [], 0, 0),
  (34, 35, .iastore, [], 0, 0),
  (35, 36, .iconst 0, [], 0, 0),
  (36, 37, .istore_n 3, [], 0, 0),
  (37, 38, .iconst 0, [], 0, 0),
  (38, 40, .istore 4, [], 0, 0),
  (40, 42, .iload 4, [], 0, 0),
  (42, 43, .aload_n 0, [], 0, 0),
  (43, 46, .getfield 309, [12, 46], 0, 0),
  (46, 49, .if_icmp .ge 29, [75], 0, 0),
  (49, 50, .iload_n 3, [], 0, 0),
  (50, 53, .ifCond .ne 13, [63], 0, 0),
  (53, 54, .aload_n 0, [], 0, 0),
  (54, 55, .iload_n 1, [], 0, 0),
  (55, 57, .iload 4, [], 0, 0),
  (57, 60, .invokevirtual 325, [0, 213], 0, 0),
  (60, 63, .ifCond .eq 7, [67], 0, 0),
  (63, 64, .iconst 1, [], 1, 0),
  (64, 67, .goto 4, [68], 0, 0),
  (67, 68, .iconst 0, [], 0, 0),
  (68, 69, .istore_n 3, [], 0, 0),
  (69, 72, .iinc 4 1, [], 1, 0),
  (72, 75, .goto (-32), [40], 0, 0),
  (75, 76, .iload_n 3, [], 0, 0),
  (76, 79, .ifCond .ne 5, [81], 0, 0),
  (79, 80, .iload_n 2, [], 0, 0),
  (80, 81, .ireturn, [], 0, 0),
  (81, 84, .iinc 2 1, [], 1, 0),
  (84, 87, .goto (-62), [22], 0, 0),
  (87, 88, .iconst (-1), [], -1, 0),
  (88, 89, .ireturn, [], 0, 0)]
def mX12_rusted : xM := (274, 12, cX12_rusted, 5, (some .int), pX12_rusted)
set_option maxRecDepth 100000 in
theorem gX12_rusted : xgd mX12_rusted := ⟨by decide +kernel, xat_in (p := 9035) rfl, by decide +kernel, by decide +kernel, by decide, by decide +kernel, by decide +kernel⟩
set_option maxRecDepth 100000 in
def pX12_hasLied : List xRow := [(0, 1, .iconst 0, [], 0, 0),
  (1, 2, .istore_n 3, [], 0, 0),
  (2, 3, .iload_n 3, [], 0, 0),
  (3, 4, .aload_n 0, [], 0, 0),
  (4, 7, .getfield 309, [12, 46], 0, 0),
  (7, 10, .if_icmp .ge 40, [47], 0, 0),
  (10, 11, .aload_n 0, [], 0, 0),
  (11, 14, .getfield 81, [12, 48], 0, 0),
  (14, 15, .iload_n 3, [], 0, 0),
  (15, 16, .iaload, [], 0, 0),
  (16, 17, .iload_n 1, [], 0, 0),
  (17, 20, .if_icmp .ne 24, [41], 0, 0),
  (20, 21, .aload_n 0, [], 0, 0),
  (21, 24, .getfield 84, [12, 49], 0, 0),
  (24, 25, .iload_n 3, [], 0, 0),
  (25, 26, .iaload, [], 0, 0),
  (26, 29, .ifCond .le 15, [41], 0, 0),
  (29, 30, .aload_n 0, [], 0, 0),
  (30, 33, .getfield 78, [12, 47], 0, 0),
  (33, 34, .iload_n 3, [], 0, 0),
  (34, 35, .iaload, [], 0, 0),
  (35, 36, .iload_n 2, [], 0, 0),
  (36, 39, .if_icmp .gt 5, [41], 0, 0),
  (39, 40, .iconst 1, [], 1, 0),
  (40, 41, .ireturn, [], 0, 0),
  (41, 44, .iinc 3 1, [], 1, 0),
  (44, 47, .goto (-42), [2], 0, 0),
  (47, 48, .iconst 0, [], 0, 0),
  (48, 49, .ireturn, [], 0, 0)]
def mX12_hasLied : xM := (275, 12, cX12_hasLied, 4, (some .boolean), pX12_hasLied)
set_option maxRecDepth 100000 in
theorem gX12_hasLied : xgd mX12_hasLied := ⟨by decide +kernel, xat_in (p := 9043) rfl, by decide +kernel, by decide +kernel, by decide, by decide +kernel, by decide +kernel⟩
set_option maxRecDepth 100000 in
def pX12_falsely : List xRow := [(0, 1, .aload_n 0, [], 0, 0),
  (1, 2, .iconst 0, [], 0, 0),
  (2, 5, .putfield 117, [12, 0], 0, 0),
  (5, 6, .aload_n 0, [], 0, 0),
  (6, 7, .iload_n 1, [], 0, 0),
  (7, 10, .invokevirtual 380, [0, 229], 0, 0),
  (10, 13, .ifCond .ne 5, [15], 0, 0),
  (13, 14, .iconst 0, [], 0, 0),
  (14, 15, .ireturn, [], 0, 0),
  (15, 16, .aload_n 0, [], 0, 0),
  (16, 17, .iconst 1, [], 1, 0),
  (17, 20, .invokevirtual 377, [0, 211], 0, 0),
  (20, 21, .iconst 0, [], 0, 0),
  (21, 22, .istore_n 2, [], 0, 0),
  (22, 23, .iconst 0, [], 0, 0),
  (23, 24, .istore_n 3, [], 0, 0),
  (24, 25, .iload_n 3, [], 0, 0),
  (25, 27, .bipush 100, [], 100, 0),
  (27, 30, .if_icmp .ge 89, [116], 0, 0),
  (30, 31, .aload_n 0, [], 0, 0),
  (31, 32, .iload_n 1, [], 0, 0),
  (32, 33, .iload_n 3, [], 0, 0),
  (33, 36, .invokevirtual 407, [0, 248], 0, 0),
  (36, 38, .istore 4, [], 0, 0),
  (38, 39, .iconst 0, [], 0, 0),
  (39, 41, .istore 5, [], 0, 0),
  (41, 42, .iconst 0, [], 0, 0),
  (42, 44, .istore 6, [], 0, 0),
  (44, 46, .iload 6, [], 0, 0),
  (46, 47, .aload_n 0, [], 0, 0),
  (47, 50, .getfield 285, [12, 1], 0, 0),
  (50, 53, .if_icmp .ge 42, [92], 0, 0),
  (53, 55, .iload 5, [], 0, 0),
  (55, 58, .ifCond .ne 24, [79], 0, 0),
  (58, 60, .iload 4, [], 0, 0),
  (60, 62, .iload 6, [], 0, 0),
  (62, 63, .ishr, [], 0, 0),
  (63, 64, .iconst 1, [], 1, 0),
  (64, 65, .iand, [], 0, 0),
  (65, 66, .iconst 1, [], 1, 0),
  (66, 69, .if_icmp .ne 17, [83], 0, 0),
  (69, 70, .aload_n 0, [], 0, 0),
  (70, 72, .iload 6, [], 0, 0),
  (72, 73, .iload_n 3, [], 0, 0),
  (73, 76, .invokevirtual 446, [0, 275], 0, 0),
  (76, 79, .ifCond .eq 7, [83], 0, 0),
  (79, 80, .iconst 1, [], 1, 0),
  (80, 83, .goto 4, [84], 0, 0),
  (83, 84, .iconst 0, [], 0, 0),
  (84, 86, .istore 5, [], 0, 0),
  (86, 89, .iinc 6 1, [], 1, 0),
  (89, 92, .goto (-45), [44], 0, 0),
  (92, 93, .iload_n 2, [], 0, 0),
  (93, 95, .iload 4, [], 0, 0),
  (95, 98, .ifCond .eq 12, [107], 0, 0),
  (98, 100, .iload 5, [], 0, 0),
  (100, 103, .ifCond .ne 7, [107], 0, 0),
  (103, 104, .iconst 1, [], 1, 0),
  (104, 107, .goto 4, [108], 0, 0),
  (107, 108, .iconst 0, [], 0, 0),
  (108, 109, .iadd, [], 0, 0),
  (109, 110, .istore_n 2, [], 0, 0),
  (110, 113, .iinc 3 1, [], 1, 0),
  (113, 116, .goto (-89), [24], 0, 0),
  (116, 117, .iload_n 2, [], 0, 0),
  (117, 118, .ireturn, [], 0, 0)]
def mX12_falsely : xM := (276, 12, cX12_falsely, 7, (some .int), pX12_falsely)
set_option maxRecDepth 100000 in
theorem gX12_falsely : xgd mX12_falsely := ⟨by decide +kernel, xat_in (p := 9039) rfl, by decide +kernel, by decide +kernel, by decide, by decide +kernel, by decide +kernel⟩
set_option maxRecDepth 100000 in
def pX12_truest : List xRow := [(0, 1, .aload_n 0, [], 0, 0),
  (1, 2, .iconst 0, [], 0, 0),
  (2, 5, .putfield 117, [12, 0], 0, 0),
  (5, 6, .aload_n 0, [], 0, 0),
  (6, 7, .iconst 1, [], 1, 0),
  (7, 10, .invokevirtual 377, [0, 211], 0, 0),
  (10, 11, .iconst (-1), [], -1, 0),
  (11, 12, .istore_n 1, [], 0, 0),
  (12, 13, .iconst 0, [], 0, 0),
  (13, 14, .istore_n 2, [], 0, 0),
  (14, 15, .iconst 0, [], 0, 0),
  (15, 16, .istore_n 3, [], 0, 0),
  (16, 17, .iload_n 3, [], 0, 0),
  (17, 18, .aload_n 0, [], 0, 0),
  (18, 21, .getfield 288, [12, 2], 0, 0),
  (21, 24, .if_icmp .ge 35, [56], 0, 0),
  (24, 25, .aload_n 0, [], 0, 0),
  (25, 26, .iload_n 3, [], 0, 0),
  (26, 29, .invokevirtual 386, [0, 234], 0, 0),
  (29, 31, .istore 4, [], 0, 0),
  (31, 32, .iload_n 1, [], 0, 0),
  (32, 33, .iconst (-1), [], -1, 0),
  (33, 36, .if_icmp .eq 12, [45], 0, 0),
  (36, 38, .iload 4, [], 0, 0),
  (38, 39, .iload_n 2, [], 0, 0),
  (39, 42, .if_icmp .gt 6, [45], 0, 0),
  (42, 45, .goto 8, [50], 0, 0),
  (45, 46, .iload_n 3, [], 0, 0),
  (46, 47, .istore_n 1, [], 0, 0),
  (47, 49, .iload 4, [], 0, 0),
  (49, 50, .istore_n 2, [], 0, 0),
  (50, 53, .iinc 3 1, [], 1, 0),
  (53, 56, .goto (-37), [16], 0, 0),
  (56, 57, .iload_n 1, [], 0, 0),
  (57, 58, .ireturn, [], 0, 0)]
def mX12_truest : xM := (277, 12, cX12_truest, 5, (some .int), pX12_truest)
set_option maxRecDepth 100000 in
theorem gX12_truest : xgd mX12_truest := ⟨by decide +kernel, xat_in (p := 9047) rfl, by decide +kernel, by decide +kernel, by decide, by decide +kernel, by decide +kernel⟩
set_option maxRecDepth 100000 in
def pX12_first : List xRow := [(0, 1, .aload_n 0, [], 0, 0),
  (1, 2, .iconst 0, [], 0, 0),
  (2, 5, .putfield 117, [12, 0], 0, 0),
  (5, 6, .aload_n 0, [], 0, 0),
  (6, 7, .iload_n 1, [], 0, 0),
  (7, 10, .invokevirtual 371, [0, 228], 0, 0),
  (10, 13, .ifCond .ne 5, [15], 0, 0),
  (13, 14, .iconst 0, [], 0, 0),
  (14, 15, .ireturn, [], 0, 0),
  (15, 16, .aload_n 0, [], 0, 0),
  (16, 17, .iconst 1, [], 1, 0),
  (17, 20, .invokevirtual 377, [0, 211], 0, 0),
  (20, 21, .iconst 0, [], 0, 0),
  (21, 22, .istore_n 2, [], 0, 0),
  (22, 23, .iload_n 2, [], 0, 0),
  (23, 25, .bipush 100, [], 100, 0),
  (25, 28, .if_icmp .ge 20, [45], 0, 0),
  (28, 29, .aload_n 0, [], 0, 0),
  (29, 30, .iload_n 2, [], 0, 0),
  (30, 33, .invokevirtual 398, [0, 223], 0, 0),
  (33, 34, .iload_n 1, [], 0, 0),
  (34, 37, .if_icmp .ne 5, [39], 0, 0),
  (37, 38, .iload_n 2, [], 0, 0),
  (38, 39, .ireturn, [], 0, 0),
  (39, 42, .iinc 2 1, [], 1, 0),
  (42, 45, .goto (-20), [22], 0, 0),
  (45, 46, .iconst (-1), [], -1, 0),
  (46, 47, .ireturn, [], 0, 0)]
def mX12_first : xM := (278, 12, cX12_first, 3, (some .int), pX12_first)
set_option maxRecDepth 100000 in
theorem gX12_first : xgd mX12_first := ⟨by decide +kernel, xat_in (p := 9051) rfl, by decide +kernel, by decide +kernel, by decide, by decide +kernel, by decide +kernel⟩
set_option maxRecDepth 100000 in
def pX12_busiest : List xRow := [(0, 1, .aload_n 0, [], 0, 0),
  (1, 2, .iconst 0, [], 0, 0),
  (2, 5, .putfield 117, [12, 0], 0, 0),
  (5, 6, .aload_n 0, [], 0, 0),
  (6, 7, .iload_n 1, [], 0, 0),
  (7, 8, .iconst 1, [], 1, 0),
  (8, 11, .invokevirtual 374, [0, 231], 0, 0),
  (11, 14, .ifCond .ne 5, [16], 0, 0),
  (14, 15, .iconst 0, [], 0, 0),
  (15, 16, .ireturn, [], 0, 0),
  (16, 17, .aload_n 0, [], 0, 0),
  (17, 18, .iconst 1, [], 1, 0),
  (18, 21, .invokevirtual 377, [0, 211], 0, 0),
  (21, 22, .iconst (-1), [], -1, 0),
  (22, 23, .istore_n 2, [], 0, 0),
  (23, 24, .iconst 0, [], 0, 0),
  (24, 25, .istore_n 3, [], 0, 0),
  (25, 26, .iconst 1, [], 1, 0),
  (26, 28, .istore 4, [], 0, 0),
  (28, 30, .iload 4, [], 0, 0),
  (30, 32, .bipush 100, [], 100, 0),
  (32, 35, .if_icmp .ge 76, [108], 0, 0),
  (35, 36, .iconst 0, [], 0, 0),
  (36, 38, .istore 5, [], 0, 0),
  (38, 39, .iconst 0, [], 0, 0),
  (39, 41, .istore 6, [], 0, 0),
  (41, 43, .iload 6, [], 0, 0),
  (43, 44, .aload_n 0, [], 0, 0),
  (44, 47, .getfield 288, [12, 2], 0, 0),
  (47, 50, .if_icmp .ge 40, [87], 0, 0),
  (50, 52, .iload 5, [], 0, 0),
  (52, 53, .aload_n 0, [], 0, 0),
  (53, 55, .iload 6, [], 0, 0),
  (55, 57, .iload 4, [], 0, 0),
  (57, 60, .invokevirtual 340, [0, 216], 0, 0),
  (60, 61, .aload_n 0, [], 0, 0),
  (61, 63, .iload 6, [], 0, 0),
  (63, 65, .iload 4, [], 0, 0),
  (65, 66, .iconst 1, [], 1, 0),
  (66, 67, .isub, [], 0, 0),
  (67, 70, .invokevirtual 340, [0, 216], 0, 0),
  (70, 73, .if_icmp .eq 7, [77], 0, 0),
  (73, 74, .iconst 1, [], 1, 0),
  (74, 77, .goto 4, [78], 0, 0),
  (77, 78, .iconst 0, [], 0, 0),
  (78, 79, .iadd, [], 0, 0),
  (79, 81, .istore 5, [], 0, 0),
  (81, 84, .iinc 6 1, [], 1, 0),
  (84, 87, .goto (-43), [41], 0, 0),
  (87, 89, .iload 5, [], 0, 0),
  (89, 90, .iload_n 3, [], 0, 0),
  (90, 93, .if_icmp .gt 6, [96], 0, 0),
  (93, 96, .goto 9, [102], 0, 0),
  (96, 98, .iload 4, [], 0, 0),
  (98, 99, .istore_n 2, [], 0, 0),
  (99, 101, .iload 5, [], 0, 0),
  (101, 102, .istore_n 3, [], 0, 0),
  (102, 105, .iinc 4 1, [], 1, 0),
  (105, 108, .goto (-77), [28], 0, 0),
  (108, 109, .iload_n 1, [], 0, 0),
  (109, 112, .ifCond .ne 7, [116], 0, 0),
  (112, 113, .iload_n 2, [], 0, 0),
  (113, 116, .goto 4, [117], 0, 0),
  (116, 117, .iload_n 3, [], 0, 0),
  (117, 118, .ireturn, [], 0, 0)]
def mX12_busiest : xM := (279, 12, cX12_busiest, 7, (some .int), pX12_busiest)
set_option maxRecDepth 100000 in
theorem gX12_busiest : xgd mX12_busiest := ⟨by decide +kernel, xat_in (p := 9055) rfl, by decide +kernel, by decide +kernel, by decide, by decide +kernel, by decide +kernel⟩
set_option maxRecDepth 100000 in
def pX12_ears : List xRow := [(0, 1, .aload_n 0, [], 0, 0),
  (1, 2, .iconst 0, [], 0, 0),
  (2, 5, .putfield 117, [12, 0], 0, 0),
  (5, 6, .aload_n 0, [], 0, 0),
  (6, 7, .iload_n 1, [], 0, 0),
  (7, 8, .iconst 1, [], 1, 0),
  (8, 10, .bipush 9, [], 9, 0),
  (10, 13, .invokestatic 359, [1, 169], 0, 0),
  (13, 16, .ifCond .eq 17, [30], 0, 0),
  (16, 17, .iload_n 2, [], 0, 0),
  (17, 18, .iconst 0, [], 0, 0),
  (18, 20, .bipush 99, [], 99, 0),
  (20, 23, .invokestatic 359, [1, 169], 0, 0),
  (23, 26, .ifCond .eq 7, [30], 0, 0),
  (26, 27, .iconst 1, [], 1, 0),
  (27, 30, .goto 4, [31], 0, 0),
  (30, 31, .iconst 0, [], 0, 0),
  (31, 32, .iconst 1, [], 1, 0),
  (32, 35, .invokevirtual 278, [0, 168], 0, 0),
  (35, 38, .ifCond .ne 5, [40], 0, 0),
  (38, 39, .iconst 0, [], 0, 0),
  (39, 40, .ireturn, [], 0, 0),
  (40, 41, .iconst 0, [], 0, 0),
  (41, 42, .istore_n 3, [], 0, 0),
  (42, 43, .iload_n 3, [], 0, 0),
  (43, 44, .aload_n 0, [], 0, 0),
  (44, 47, .getfield 285, [12, 1], 0, 0),
  (47, 50, .if_icmp .ge 27, [74], 0, 0),
  (50, 51, .aload_n 0, [], 0, 0),
  (51, 52, .iload_n 3, [], 0, 0),
  (52, 53, .iload_n 1, [], 0, 0),
  (53, 54, .iload_n 2, [], 0, 0),
  (54, 57, .invokevirtual 413, [0, 251], 0, 0),
  (57, 58, .aload_n 0, [], 0, 0),
  (58, 61, .getfield 102, [12, 55], 0, 0),
  (61, 62, .iload_n 3, [], 0, 0),
  (62, 63, .aload_n 0, [], 0, 0),
  (63, 64, .iconst 0, [], 0, 0),
  (64, 67, .invokevirtual 392, [0, 237], 0, 0),
  (67, 68, .iastore, [], 0, 0),
  (68, 71, .iinc 3 1, [], 1, 0),
  (71, 74, .goto (-29), [42], 0, 0),
  (74, 75, .iconst (-1), [], -1, 0),
  (75, 76, .istore_n 3, [], 0, 0),
  (76, 77, .iconst 0, [], 0, 0),
  (77, 79, .istore 4, [], 0, 0),
  (79, 81, .iload 4, [], 0, 0),
  (81, 82, .iconst 1, [], 1, 0),
  (82, 83, .aload_n 0, [], 0, 0),
  (83, 86, .getfield 288, [12, 2], 0, 0),
  (86, 87, .ishl, [], 0, 0),
  (87, 90, .if_icmp .ge 83, [170], 0, 0),
  (90, 91, .iload_n 3, [], 0, 0),
  (91, 92, .iconst (-1), [], -1, 0),
  (92, 95, .if_icmp .eq 18, [110], 0, 0),
  (95, 97, .iload 4, [], 0, 0),
  (97, 100, .invokestatic 416, [1, 172], 0, 0),
  (100, 101, .iload_n 3, [], 0, 0),
  (101, 104, .invokestatic 416, [1, 172], 0, 0),
  (104, 107, .if_icmp .lt 6, [110], 0, 0),
  (107, 110, .goto 57, [164], 0, 0),
  (110, 111, .iconst 1, [], 1, 0),
  (111, 113, .istore 5, [], 0, 0),
  (113, 114, .iconst 0, [], 0, 0),
  (114, 116, .istore 6, [], 0, 0),
  (116, 118, .iload 6, [], 0, 0),
  (118, 119, .aload_n 0, [], 0, 0),
  (119, 122, .getfield 285, [12, 1], 0, 0),
  (122, 125, .if_icmp .ge 34, [156], 0, 0),
  (125, 127, .iload 5, [], 0, 0),
  (127, 130, .ifCond .eq 20, [147], 0, 0),
  (130, 131, .aload_n 0, [], 0, 0),
  (131, 134, .getfield 102, [12, 55], 0, 0),
  (134, 136, .iload 6, [], 0, 0),
  (136, 137, .iaload, [], 0, 0),
  (137, 139, .iload 4, [], 0, 0),
  (139, 140, .iand, [], 0, 0),
  (140, 143, .ifCond .eq 7, [147], 0, 0),
  (143, 144, .iconst 1, [], 1, 0),
  (144, 147, .goto 4, [148], 0, 0),
  (147, 148, .iconst 0, [], 0, 0),
  (148, 150, .istore 5, [], 0, 0),
  (150, 153, .iinc 6 1, [], 1, 0),
  (153, 156, .goto (-37), [116], 0, 0),
  (156, 158, .iload 5, [], 0, 0),
  (158, 161, .ifCond .eq 6, [164], 0, 0),
  (161, 163, .iload 4, [], 0, 0),
  (163, 164, .istore_n 3, [], 0, 0),
  (164, 167, .iinc 4 1, [], 1, 0),
  (167, 170, .goto (-88), [79], 0, 0),
  (170, 171, .iload_n 3, [], 0, 0),
  (171, 172, .ireturn, [], 0, 0)]
def mX12_ears : xM := (280, 12, cX12_ears, 7, (some .int), pX12_ears)
set_option maxRecDepth 100000 in
theorem gX12_ears : xgd mX12_ears := ⟨by decide +kernel, xat_in (p := 9059) rfl, by decide +kernel, by decide +kernel, by decide, by decide +kernel, by decide +kernel⟩
set_option maxRecDepth 100000 in
def pX12_hideouts : List xRow := [(0, 1, .aload_n 0, [], 0, 0),
  (1, 2, .iconst 0, [], 0, 0),
  (2, 5, .putfield 117, [12, 0], 0, 0),
  (5, 6, .aload_n 0, [], 0, 0),
  (6, 7, .iload_n 1, [], 0, 0),
  (7, 10, .invokevirtual 371, [0, 228], 0, 0),
  (10, 13, .ifCond .eq 22, [32], 0, 0),
  (13, 14, .aload_n 0, [], 0, 0),
  (14, 16, .iload 4, [], 0, 0),
  (16, 17, .iconst 1, [], 1, 0),
  (17, 20, .invokevirtual 374, [0, 231], 0, 0),
  (20, 23, .ifCond .eq 12, [32], 0, 0),
  (23, 24, .aload_n 0, [], 0, 0),
  (24, 25, .iload_n 2, [], 0, 0),
  (25, 26, .iload_n 3, [], 0, 0),
  (26, 29, .invokevirtual 410, [0, 250], 0, 0),
  (29, 32, .ifCond .ne 5, [34], 0, 0),
  (32, 33, .iconst 0, [], 0, 0),
  (33, 34, .ireturn, [], 0, 0),
  (34, 35, .aload_n 0, [], 0, 0),
  (35, 37, .bipush 10, [], 10, 0),
  (37, 38, .iload_n 2, [], 0, 0),
  (38, 39, .iload_n 3, [], 0, 0),
  (39, 42, .invokevirtual 413, [0, 251], 0, 0),
  (42, 43, .aload_n 0, [], 0, 0),
  (43, 46, .getfield 23, [12, 7], 0, 0),
  (46, 48, .bipush 10, [], 10, 0),
  (48, 49, .aload_n 0, [], 0, 0),
  (49, 52, .getfield 23, [12, 7], 0, 0),
  (52, 53, .iload_n 1, [], 0, 0),
  (53, 54, .iaload, [], 0, 0),
  (54, 55, .iastore, [], 0, 0),
  (55, 56, .iconst 0, [], 0, 0),
  (56, 58, .istore 5, [], 0, 0),
  (58, 59, .iconst (-1), [], -1, 0),
  (59, 61, .istore 6, [], 0, 0),
  (61, 62, .iconst 0, [], 0, 0),
  (62, 64, .istore 7, [], 0, 0),
  (64, 66, .iload 7, [], 0, 0),
  (66, 68, .bipush 40, [], 40, 0),
  (68, 71, .if_icmp .gt 73, [141], 0, 0),
  (71, 72, .iconst 0, [], 0, 0),
  (72, 74, .istore 8, [], 0, 0),
  (74, 76, .iload 8, [], 0, 0),
  (76, 78, .bipush 40, [], 40, 0),
  (78, 81, .if_icmp .gt 57, [135], 0, 0),
  (81, 82, .aload_n 0, [], 0, 0),
  (82, 85, .getfield 16, [12, 5], 0, 0),
  (85, 87, .bipush 10, [], 10, 0),
  (87, 89, .iload 8, [], 0, 0),
  (89, 90, .iastore, [], 0, 0),
  (90, 91, .aload_n 0, [], 0, 0),
  (91, 94, .getfield 20, [12, 6], 0, 0),
  (94, 96, .bipush 10, [], 10, 0),
  (96, 98, .iload 7, [], 0, 0),
  (98, 99, .iastore, [], 0, 0),
  (99, 100, .aload_n 0, [], 0, 0),
  (100, 101, .iconst 0, [], 0, 0),
  (101, 104, .invokevirtual 392, [0, 237], 0, 0),
  (104, 107, .ifCond .eq 6, [110], 0, 0),
  (107, 110, .goto 22, [129], 0, 0),
  (110, 113, .iinc 5 1, [], 1, 0),
  (113, 115, .iload 6, [], 0, 0),
  (115, 116, .iconst (-1), [], -1, 0),
  (116, 119, .if_icmp .ne 13, [129], 0, 0),
  (119, 121, .bipush 100, [], 100, 0),
  (121, 123, .iload 7, [], 0, 0),
  (123, 124, .imul, [], 0, 0),
  (124, 126, .iload 8, [], 0, 0),
  (126, 127, .iadd, [], 0, 0),
  (127, 129, .istore 6, [], 0, 0),
  (129, 132, .iinc 8 1, [], 1, 0),
  (132, 135, .goto (-58), [74], 0, 0),
  (135, 138, .iinc 7 1, [], 1, 0),
  (138, 141, .goto (-74), [64], 0, 0),
  (141, 143, .iload 4, [], 0, 0),
  (143, 146, .ifCond .ne 8, [151], 0, 0),
  (146, 148, .iload 5, [], 0, 0),
  (148, 151, .goto 5, [153], 0, 0),
  (151, 153, .iload 6, [], 0, 0),
  (153, 154, .ireturn, [], 0, 0)]
def mX12_hideouts : xM := (281, 12, cX12_hideouts, 9, (some .int), pX12_hideouts)
set_option maxRecDepth 100000 in
theorem gX12_hideouts : xgd mX12_hideouts := ⟨by decide +kernel, xat_in (p := 9063) rfl, by decide +kernel, by decide +kernel, by decide, by decide +kernel, by decide +kernel⟩
set_option maxRecDepth 100000 in
def pX12_pardon : List xRow := [(0, 1, .aload_n 0, [], 0, 0),
  (1, 2, .iconst 0, [], 0, 0),
  (2, 5, .putfield 117, [12, 0], 0, 0),
  (5, 6, .aload_n 0, [], 0, 0),
  (6, 7, .iload_n 1, [], 0, 0),
  (7, 10, .invokevirtual 371, [0, 228], 0, 0),
  (10, 13, .ifCond .eq 11, [21], 0, 0),
  (13, 14, .aload_n 0, [], 0, 0),
  (14, 15, .iload_n 2, [], 0, 0),
  (15, 18, .invokevirtual 395, [0, 230], 0, 0),
  (18, 21, .ifCond .ne 5, [23], 0, 0),
  (21, 22, .iconst 0, [], 0, 0),
  (22, 23, .ireturn, [], 0, 0),
  (23, 24, .aload_n 0, [], 0, 0),
  (24, 25, .iconst 1, [], 1, 0),
  (25, 28, .invokevirtual 377, [0, 211], 0, 0),
  (28, 29, .aload_n 0, [], 0, 0),
  (29, 30, .iload_n 2, [], 0, 0),
  (30, 33, .invokevirtual 353, [0, 219], 0, 0),
  (33, 34, .iconst (-1), [], -1, 0),
  (34, 35, .istore_n 3, [], 0, 0),
  (35, 36, .iconst 0, [], 0, 0),
  (36, 38, .istore 4, [], 0, 0),
  (38, 40, .iload 4, [], 0, 0),
  (40, 41, .iconst 1, [], 1, 0),
  (41, 42, .aload_n 0, [], 0, 0),
  (42, 45, .getfield 288, [12, 2], 0, 0),
  (45, 46, .ishl, [], 0, 0),
  (46, 49, .if_icmp .ge 45, [91], 0, 0),
  (49, 50, .iload_n 3, [], 0, 0),
  (50, 51, .iconst (-1), [], -1, 0),
  (51, 54, .if_icmp .eq 15, [66], 0, 0),
  (54, 56, .iload 4, [], 0, 0),
  (56, 59, .invokestatic 416, [1, 172], 0, 0),
  (59, 60, .iload_n 3, [], 0, 0),
  (60, 63, .invokestatic 416, [1, 172], 0, 0),
  (63, 66, .if_icmp .ge 22, [85], 0, 0),
  (66, 67, .aload_n 0, [], 0, 0),
  (67, 68, .iload_n 2, [], 0, 0),
  (68, 70, .bipush 63, [], 63, 0),
  (70, 72, .iload 4, [], 0, 0),
  (72, 73, .iconst (-1), [], -1, 0),
  (73, 74, .ixor, [], 0, 0),
  (74, 75, .iand, [], 0, 0),
  (75, 78, .invokevirtual 356, [0, 222], 0, 0),
  (78, 79, .iload_n 1, [], 0, 0),
  (79, 82, .if_icmp .eq 6, [85], 0, 0),
  (82, 84, .iload 4, [], 0, 0),
  (84, 85, .istore_n 3, [], 0, 0),
  (85, 88, .iinc 4 1, [], 1, 0),
  (88, 91, .goto (-50), [38], 0, 0),
  (91, 92, .iload_n 3, [], 0, 0),
  (92, 93, .ireturn, [], 0, 0)]
def mX12_pardon : xM := (282, 12, cX12_pardon, 5, (some .int), pX12_pardon)
set_option maxRecDepth 100000 in
theorem gX12_pardon : xgd mX12_pardon := ⟨by decide +kernel, xat_in (p := 9067) rfl, by decide +kernel, by decide +kernel, by decide, by decide +kernel, by decide +kernel⟩
set_option maxRecDepth 100000 in
def pX12_image : List xRow := [(0, 1, .aload_n 0, [], 0, 0),
  (1, 2, .iconst 0, [], 0, 0),
  (2, 5, .putfield 117, [12, 0], 0, 0),
  (5, 6, .aload_n 0, [], 0, 0),
  (6, 7, .iconst 1, [], 1, 0),
  (7, 10, .putfield 301, [12, 59], 0, 0),
  (10, 11, .aload_n 0, [], 0, 0),
  (11, 12, .aload_n 0, [], 0, 0),
  (12, 15, .getfield 295, [12, 43], 0, 0),
  (15, 18, .putfield 449, [12, 60], 0, 0),
  (18, 19, .aload_n 0, [], 0, 0),
  (19, 20, .aload_n 0, [], 0, 0),
  (20, 23, .getfield 298, [12, 56], 0, 0),
  (23, 26, .putfield 452, [12, 61], 0, 0),
  (26, 27, .aload_n 0, [], 0, 0),
  (27, 28, .aload_n 0, [], 0, 0),
  (28, 31, .getfield 66, [12, 41], 0, 0),
  (31, 32, .aload_n 0, [], 0, 0),
  (32, 35, .getfield 108, [12, 62], 0, 0),
  (35, 38, .invokevirtual 291, [0, 171], 0, 0),
  (38, 39, .aload_n 0, [], 0, 0),
  (39, 40, .aload_n 0, [], 0, 0),
  (40, 43, .getfield 69, [12, 42], 0, 0),
  (43, 44, .aload_n 0, [], 0, 0),
  (44, 47, .getfield 111, [12, 63], 0, 0),
  (47, 50, .invokevirtual 291, [0, 171], 0, 0),
  (50, 51, .aload_n 0, [], 0, 0),
  (51, 52, .aload_n 0, [], 0, 0),
  (52, 55, .getfield 105, [12, 57], 0, 0),
  (55, 56, .aload_n 0, [], 0, 0),
  (56, 59, .getfield 114, [12, 64], 0, 0),
  (59, 62, .invokevirtual 291, [0, 171], 0, 0),
  (62, 63, .return_, [], 0, 0)]
def mX12_image : xM := (283, 12, cX12_image, 1, none, pX12_image)
set_option maxRecDepth 100000 in
theorem gX12_image : xgd mX12_image := ⟨by decide +kernel, xat_in (p := 9071) rfl, by decide +kernel, by decide +kernel, by decide, by decide +kernel, by decide +kernel⟩
set_option maxRecDepth 100000 in
def pX12_restore : List xRow := [(0, 1, .aload_n 0, [], 0, 0),
  (1, 2, .iconst 0, [], 0, 0),
  (2, 5, .putfield 117, [12, 0], 0, 0),
  (5, 6, .aload_n 0, [], 0, 0),
  (6, 9, .getfield 301, [12, 59], 0, 0),
  (9, 12, .ifCond .ne 5, [14], 0, 0),
  (12, 13, .iconst 0, [], 0, 0),
  (13, 14, .ireturn, [], 0, 0),
  (14, 15, .aload_n 0, [], 0, 0),
  (15, 16, .aload_n 0, [], 0, 0),
  (16, 19, .getfield 449, [12, 60], 0, 0),
  (19, 22, .putfield 295, [12, 43], 0, 0),
  (22, 23, .aload_n 0, [], 0, 0),
  (23, 24, .aload_n 0, [], 0, 0),
  (24, 27, .getfield 452, [12, 61], 0, 0),
  (27, 30, .putfield 298, [12, 56], 0, 0),
  (30, 31, .aload_n 0, [], 0, 0),
  (31, 32, .aload_n 0, [], 0, 0),
  (32, 35, .getfield 108, [12, 62], 0, 0),
  (35, 36, .aload_n 0, [], 0, 0),
  (36, 39, .getfield 66, [12, 41], 0, 0),
  (39, 42, .invokevirtual 291, [0, 171], 0, 0),
  (42, 43, .aload_n 0, [], 0, 0),
  (43, 44, .aload_n 0, [], 0, 0),
  (44, 47, .getfield 111, [12, 63], 0, 0),
  (47, 48, .aload_n 0, [], 0, 0),
  (48, 51, .getfield 69, [12, 42], 0, 0),
  (51, 54, .invokevirtual 291, [0, 171], 0, 0),
  (54, 55, .aload_n 0, [], 0, 0),
  (55, 56, .aload_n 0, [], 0, 0),
  (56, 59, .getfield 114, [12, 64], 0, 0),
  (59, 60, .aload_n 0, [], 0, 0),
  (60, 63, .getfield 105, [12, 57], 0, 0),
  (63, 66, .invokevirtual 291, [0, 171], 0, 0),
  (66, 67, .iconst 1, [], 1, 0),
  (67, 68, .ireturn, [], 0, 0)]
def mX12_restore : xM := (284, 12, cX12_restore, 1, (some .boolean), pX12_restore)
set_option maxRecDepth 100000 in
theorem gX12_restore : xgd mX12_restore := ⟨by decide +kernel, xat_in (p := 9075) rfl, by decide +kernel, by decide +kernel, by decide, by decide +kernel, by decide +kernel⟩
end
section
set_option maxRecDepth 100000 in
def pL_fair : List xRow := [(0, 1, .aload_n 2, [], 0, 0),
  (1, 2, .iconst 0, [], 0, 0),
  (2, 3, .aload_n 0, [], 0, 0),
  (3, 4, .iload_n 1, [], 0, 0),
  (4, 7, .invokevirtual 7, [0, 101], 0, 0),
  (7, 8, .i2l, [], 0, 0),
  (8, 9, .lastore, [], 0, 0),
  (9, 12, .goto 6, [15], 0, 0),
  (12, 13, .astore_n 3, [], 0, 0),
  (13, 14, .iconst 1, [], 1, 0),
  (14, 15, .ireturn, [], 0, 0),
  (15, 16, .iconst 0, [], 0, 0),
  (16, 17, .ireturn, [], 0, 0)]
def mL_fair : xM := (302, 13, cL_fair, 4, (some .int), pL_fair)
set_option maxRecDepth 100000 in
theorem gL_fair : xgd mL_fair := ⟨by decide +kernel, xat_in (p := 3142) rfl, by decide +kernel, by decide +kernel, by decide, by decide +kernel, by decide +kernel⟩
set_option maxRecDepth 100000 in
def pL_count : List xRow := [(0, 1, .aload_n 2, [], 0, 0),
  (1, 2, .iconst 0, [], 0, 0),
  (2, 3, .aload_n 0, [], 0, 0),
  (3, 4, .iload_n 1, [], 0, 0),
  (4, 7, .invokevirtual 15, [0, 103], 0, 0),
  (7, 8, .i2l, [], 0, 0),
  (8, 9, .lastore, [], 0, 0),
  (9, 12, .goto 6, [15], 0, 0),
  (12, 13, .astore_n 3, [], 0, 0),
  (13, 14, .iconst 1, [], 1, 0),
  (14, 15, .ireturn, [], 0, 0),
  (15, 16, .iconst 0, [], 0, 0),
  (16, 17, .ireturn, [], 0, 0)]
def mL_count : xM := (303, 13, cL_count, 4, (some .int), pL_count)
set_option maxRecDepth 100000 in
theorem gL_count : xgd mL_count := ⟨by decide +kernel, xat_in (p := 4153) rfl, by decide +kernel, by decide +kernel, by decide, by decide +kernel, by decide +kernel⟩
set_option maxRecDepth 100000 in
def pL_one : List xRow := [(0, 1, .aload_n 3, [], 0, 0),
  (1, 2, .iconst 0, [], 0, 0),
  (2, 3, .aload_n 0, [], 0, 0),
  (3, 4, .iload_n 1, [], 0, 0),
  (4, 5, .iload_n 2, [], 0, 0),
  (5, 8, .invokevirtual 20, [0, 104], 0, 0),
  (8, 9, .i2l, [], 0, 0),
  (9, 10, .lastore, [], 0, 0),
  (10, 13, .goto 7, [17], 0, 0),
  (13, 15, .astore 4, [], 0, 0),
  (15, 16, .iconst 1, [], 1, 0),
  (16, 17, .ireturn, [], 0, 0),
  (17, 18, .iconst 0, [], 0, 0),
  (18, 19, .ireturn, [], 0, 0)]
def mL_one : xM := (304, 13, cL_one, 5, (some .int), pL_one)
set_option maxRecDepth 100000 in
theorem gL_one : xgd mL_one := ⟨by decide +kernel, xat_in (p := 4193) rfl, by decide +kernel, by decide +kernel, by decide, by decide +kernel, by decide +kernel⟩
set_option maxRecDepth 100000 in
def pL_needle : List xRow := [(0, 1, .aload_n 3, [], 0, 0),
  (1, 2, .iconst 0, [], 0, 0),
  (2, 3, .aload_n 0, [], 0, 0),
  (3, 4, .iload_n 1, [], 0, 0),
  (4, 5, .iload_n 2, [], 0, 0),
  (5, 8, .invokevirtual 24, [0, 105], 0, 0),
  (8, 9, .i2l, [], 0, 0),
  (9, 10, .lastore, [], 0, 0),
  (10, 13, .goto 7, [17], 0, 0),
  (13, 15, .astore 4, [], 0, 0),
  (15, 16, .iconst 1, [], 1, 0),
  (16, 17, .ireturn, [], 0, 0),
  (17, 18, .iconst 0, [], 0, 0),
  (18, 19, .ireturn, [], 0, 0)]
def mL_needle : xM := (305, 13, cL_needle, 5, (some .int), pL_needle)
set_option maxRecDepth 100000 in
theorem gL_needle : xgd mL_needle := ⟨by decide +kernel, xat_in (p := 4213) rfl, by decide +kernel, by decide +kernel, by decide, by decide +kernel, by decide +kernel⟩
set_option maxRecDepth 100000 in
def pL_saying : List xRow := [(0, 1, .aload_n 3, [], 0, 0),
  (1, 2, .iconst 0, [], 0, 0),
  (2, 3, .aload_n 0, [], 0, 0),
  (3, 4, .iload_n 1, [], 0, 0),
  (4, 5, .iload_n 2, [], 0, 0),
  (5, 8, .invokevirtual 27, [0, 106], 0, 0),
  (8, 9, .i2l, [], 0, 0),
  (9, 10, .lastore, [], 0, 0),
  (10, 13, .goto 7, [17], 0, 0),
  (13, 15, .astore 4, [], 0, 0),
  (15, 16, .iconst 1, [], 1, 0),
  (16, 17, .ireturn, [], 0, 0),
  (17, 18, .iconst 0, [], 0, 0),
  (18, 19, .ireturn, [], 0, 0)]
def mL_saying : xM := (306, 13, cL_saying, 5, (some .int), pL_saying)
set_option maxRecDepth 100000 in
theorem gL_saying : xgd mL_saying := ⟨by decide +kernel, xat_in (p := 4229) rfl, by decide +kernel, by decide +kernel, by decide, by decide +kernel, by decide +kernel⟩
set_option maxRecDepth 100000 in
def pL_shows : List xRow := [(0, 1, .aload_n 3, [], 0, 0),
  (1, 2, .iconst 0, [], 0, 0),
  (2, 3, .aload_n 0, [], 0, 0),
  (3, 4, .iload_n 1, [], 0, 0),
  (4, 5, .iload_n 2, [], 0, 0),
  (5, 8, .invokevirtual 30, [0, 107], 0, 0),
  (8, 9, .i2l, [], 0, 0),
  (9, 10, .lastore, [], 0, 0),
  (10, 13, .goto 7, [17], 0, 0),
  (13, 15, .astore 4, [], 0, 0),
  (15, 16, .iconst 1, [], 1, 0),
  (16, 17, .ireturn, [], 0, 0),
  (17, 18, .iconst 0, [], 0, 0),
  (18, 19, .ireturn, [], 0, 0)]
def mL_shows : xM := (307, 13, cL_shows, 5, (some .int), pL_shows)
set_option maxRecDepth 100000 in
theorem gL_shows : xgd mL_shows := ⟨by decide +kernel, xat_in (p := 5005) rfl, by decide +kernel, by decide +kernel, by decide, by decide +kernel, by decide +kernel⟩
set_option maxRecDepth 100000 in
def pL_last : List xRow := [(0, 1, .aload_n 3, [], 0, 0),
  (1, 2, .iconst 0, [], 0, 0),
  (2, 3, .aload_n 0, [], 0, 0),
  (3, 4, .iload_n 1, [], 0, 0),
  (4, 5, .iload_n 2, [], 0, 0),
  (5, 8, .invokevirtual 33, [0, 108], 0, 0),
  (8, 9, .i2l, [], 0, 0),
  (9, 10, .lastore, [], 0, 0),
  (10, 13, .goto 7, [17], 0, 0),
  (13, 15, .astore 4, [], 0, 0),
  (15, 16, .iconst 1, [], 1, 0),
  (16, 17, .ireturn, [], 0, 0),
  (17, 18, .iconst 0, [], 0, 0),
  (18, 19, .ireturn, [], 0, 0)]
def mL_last : xM := (308, 13, cL_last, 5, (some .int), pL_last)
set_option maxRecDepth 100000 in
theorem gL_last : xgd mL_last := ⟨by decide +kernel, xat_in (p := 5019) rfl, by decide +kernel, by decide +kernel, by decide, by decide +kernel, by decide +kernel⟩
set_option maxRecDepth 100000 in
def pL_points : List xRow := [(0, 1, .aload_n 3, [], 0, 0),
  (1, 2, .iconst 0, [], 0, 0),
  (2, 3, .aload_n 0, [], 0, 0),
  (3, 4, .iload_n 1, [], 0, 0),
  (4, 5, .iload_n 2, [], 0, 0),
  (5, 8, .invokevirtual 36, [0, 109], 0, 0),
  (8, 9, .i2l, [], 0, 0),
  (9, 10, .lastore, [], 0, 0),
  (10, 13, .goto 7, [17], 0, 0),
  (13, 15, .astore 4, [], 0, 0),
  (15, 16, .iconst 1, [], 1, 0),
  (16, 17, .ireturn, [], 0, 0),
  (17, 18, .iconst 0, [], 0, 0),
  (18, 19, .ireturn, [], 0, 0)]
def mL_points : xM := (309, 13, cL_points, 5, (some .int), pL_points)
set_option maxRecDepth 100000 in
theorem gL_points : xgd mL_points := ⟨by decide +kernel, xat_in (p := 5026) rfl, by decide +kernel, by decide +kernel, by decide, by decide +kernel, by decide +kernel⟩
set_option maxRecDepth 100000 in
def pL_accused : List xRow := [(0, 1, .aload_n 2, [], 0, 0),
  (1, 2, .iconst 0, [], 0, 0),
  (2, 3, .aload_n 0, [], 0, 0),
  (3, 4, .iload_n 1, [], 0, 0),
  (4, 7, .invokevirtual 39, [0, 111], 0, 0),
  (7, 8, .i2l, [], 0, 0),
  (8, 9, .lastore, [], 0, 0),
  (9, 12, .goto 6, [15], 0, 0),
  (12, 13, .astore_n 3, [], 0, 0),
  (13, 14, .iconst 1, [], 1, 0),
  (14, 15, .ireturn, [], 0, 0),
  (15, 16, .iconst 0, [], 0, 0),
  (16, 17, .ireturn, [], 0, 0)]
def mL_accused : xM := (310, 13, cL_accused, 4, (some .int), pL_accused)
set_option maxRecDepth 100000 in
theorem gL_accused : xgd mL_accused := ⟨by decide +kernel, xat_in (p := 5037) rfl, by decide +kernel, by decide +kernel, by decide, by decide +kernel, by decide +kernel⟩
set_option maxRecDepth 100000 in
def pL_tell : List xRow := [(0, 2, .aload 4, [], 0, 0),
  (2, 3, .iconst 0, [], 0, 0),
  (3, 4, .aload_n 0, [], 0, 0),
  (4, 5, .iload_n 1, [], 0, 0),
  (5, 6, .iload_n 2, [], 0, 0),
  (6, 7, .iload_n 3, [], 0, 0),
  (7, 10, .invokevirtual 42, [0, 112], 0, 0),
  (10, 11, .i2l, [], 0, 0),
  (11, 12, .lastore, [], 0, 0),
  (12, 15, .goto 7, [19], 0, 0),
  (15, 17, .astore 5, [], 0, 0),
  (17, 18, .iconst 1, [], 1, 0),
  (18, 19, .ireturn, [], 0, 0),
  (19, 20, .iconst 0, [], 0, 0),
  (20, 21, .ireturn, [], 0, 0)]
def mL_tell : xM := (311, 13, cL_tell, 6, (some .int), pL_tell)
set_option maxRecDepth 100000 in
theorem gL_tell : xgd mL_tell := ⟨by decide +kernel, xat_in (p := 5062) rfl, by decide +kernel, by decide +kernel, by decide, by decide +kernel, by decide +kernel⟩
set_option maxRecDepth 100000 in
def pL_rust : List xRow := [(0, 1, .aload_n 3, [], 0, 0),
  (1, 2, .iconst 0, [], 0, 0),
  (2, 3, .aload_n 0, [], 0, 0),
  (3, 4, .iload_n 1, [], 0, 0),
  (4, 5, .iload_n 2, [], 0, 0),
  (5, 8, .invokevirtual 46, [0, 114], 0, 0),
  (8, 9, .i2l, [], 0, 0),
  (9, 10, .lastore, [], 0, 0),
  (10, 13, .goto 7, [17], 0, 0),
  (13, 15, .astore 4, [], 0, 0),
  (15, 16, .iconst 1, [], 1, 0),
  (16, 17, .ireturn, [], 0, 0),
  (17, 18, .iconst 0, [], 0, 0),
  (18, 19, .ireturn, [], 0, 0)]
def mL_rust : xM := (312, 13, cL_rust, 5, (some .int), pL_rust)
set_option maxRecDepth 100000 in
theorem gL_rust : xgd mL_rust := ⟨by decide +kernel, xat_in (p := 5070) rfl, by decide +kernel, by decide +kernel, by decide, by decide +kernel, by decide +kernel⟩
set_option maxRecDepth 100000 in
def pL_carry : List xRow := [(0, 2, .aload 4, [], 0, 0),
  (2, 3, .iconst 0, [], 0, 0),
  (3, 4, .aload_n 0, [], 0, 0),
  (4, 5, .iload_n 1, [], 0, 0),
  (5, 6, .iload_n 2, [], 0, 0),
  (6, 7, .iload_n 3, [], 0, 0),
  (7, 10, .invokevirtual 49, [0, 115], 0, 0),
  (10, 11, .i2l, [], 0, 0),
  (11, 12, .lastore, [], 0, 0),
  (12, 15, .goto 7, [19], 0, 0),
  (15, 17, .astore 5, [], 0, 0),
  (17, 18, .iconst 1, [], 1, 0),
  (18, 19, .ireturn, [], 0, 0),
  (19, 20, .iconst 0, [], 0, 0),
  (20, 21, .ireturn, [], 0, 0)]
def mL_carry : xM := (313, 13, cL_carry, 6, (some .int), pL_carry)
set_option maxRecDepth 100000 in
theorem gL_carry : xgd mL_carry := ⟨by decide +kernel, xat_in (p := 5078) rfl, by decide +kernel, by decide +kernel, by decide, by decide +kernel, by decide +kernel⟩
set_option maxRecDepth 100000 in
def pL_just : List xRow := [(0, 2, .aload 4, [], 0, 0),
  (2, 3, .iconst 0, [], 0, 0),
  (3, 4, .aload_n 0, [], 0, 0),
  (4, 5, .iload_n 1, [], 0, 0),
  (5, 6, .iload_n 2, [], 0, 0),
  (6, 7, .iload_n 3, [], 0, 0),
  (7, 10, .invokevirtual 52, [0, 118], 0, 0),
  (10, 11, .i2l, [], 0, 0),
  (11, 12, .lastore, [], 0, 0),
  (12, 15, .goto 11, [23], 0, 0),
  (15, 17, .astore 5, [], 0, 0),
  (17, 18, .iconst 1, [], 1, 0),
  (18, 19, .ireturn, [], 0, 0),
  (19, 21, .astore 5, [], 0, 0),
  (21, 22, .iconst 2, [], 2, 0),
  (22, 23, .ireturn, [], 0, 0),
  (23, 24, .iconst 0, [], 0, 0),
  (24, 25, .ireturn, [], 0, 0)]
def mL_just : xM := (314, 13, cL_just, 6, (some .int), pL_just)
set_option maxRecDepth 100000 in
theorem gL_just : xgd mL_just := ⟨by decide +kernel, xat_in (p := 5089) rfl, by decide +kernel, by decide +kernel, by decide, by decide +kernel, by decide +kernel⟩
set_option maxRecDepth 100000 in
def pL_apart : List xRow := [(0, 1, .aload_n 3, [], 0, 0),
  (1, 2, .iconst 0, [], 0, 0),
  (2, 3, .aload_n 0, [], 0, 0),
  (3, 4, .iload_n 1, [], 0, 0),
  (4, 5, .iload_n 2, [], 0, 0),
  (5, 8, .invokevirtual 55, [0, 119], 0, 0),
  (8, 9, .i2l, [], 0, 0),
  (9, 10, .lastore, [], 0, 0),
  (10, 13, .goto 7, [17], 0, 0),
  (13, 15, .astore 4, [], 0, 0),
  (15, 16, .iconst 1, [], 1, 0),
  (16, 17, .ireturn, [], 0, 0),
  (17, 18, .iconst 0, [], 0, 0),
  (18, 19, .ireturn, [], 0, 0)]
def mL_apart : xM := (315, 13, cL_apart, 5, (some .int), pL_apart)
set_option maxRecDepth 100000 in
theorem gL_apart : xgd mL_apart := ⟨by decide +kernel, xat_in (p := 5116) rfl, by decide +kernel, by decide +kernel, by decide, by decide +kernel, by decide +kernel⟩
set_option maxRecDepth 100000 in
def pL_alibi : List xRow := [(0, 2, .aload 4, [], 0, 0),
  (2, 3, .iconst 0, [], 0, 0),
  (3, 4, .aload_n 0, [], 0, 0),
  (4, 5, .iload_n 1, [], 0, 0),
  (5, 6, .iload_n 2, [], 0, 0),
  (6, 7, .iload_n 3, [], 0, 0),
  (7, 10, .invokevirtual 58, [0, 120], 0, 0),
  (10, 11, .i2l, [], 0, 0),
  (11, 12, .lastore, [], 0, 0),
  (12, 15, .goto 11, [23], 0, 0),
  (15, 17, .astore 5, [], 0, 0),
  (17, 18, .iconst 1, [], 1, 0),
  (18, 19, .ireturn, [], 0, 0),
  (19, 21, .astore 5, [], 0, 0),
  (21, 22, .iconst 2, [], 2, 0),
  (22, 23, .ireturn, [], 0, 0),
  (23, 24, .iconst 0, [], 0, 0),
  (24, 25, .ireturn, [], 0, 0)]
def mL_alibi : xM := (316, 13, cL_alibi, 6, (some .int), pL_alibi)
set_option maxRecDepth 100000 in
theorem gL_alibi : xgd mL_alibi := ⟨by decide +kernel, xat_in (p := 5153) rfl, by decide +kernel, by decide +kernel, by decide, by decide +kernel, by decide +kernel⟩
set_option maxRecDepth 100000 in
def pL_plan : List xRow := [(0, 2, .aload 4, [], 0, 0),
  (2, 3, .iconst 0, [], 0, 0),
  (3, 4, .aload_n 0, [], 0, 0),
  (4, 5, .iload_n 1, [], 0, 0),
  (5, 6, .iload_n 2, [], 0, 0),
  (6, 7, .iload_n 3, [], 0, 0),
  (7, 10, .invokevirtual 61, [0, 121], 0, 0),
  (10, 11, .i2l, [], 0, 0),
  (11, 12, .lastore, [], 0, 0),
  (12, 15, .goto 11, [23], 0, 0),
  (15, 17, .astore 5, [], 0, 0),
  (17, 18, .iconst 1, [], 1, 0),
  (18, 19, .ireturn, [], 0, 0),
  (19, 21, .astore 5, [], 0, 0),
  (21, 22, .iconst 2, [], 2, 0),
  (22, 23, .ireturn, [], 0, 0),
  (23, 24, .iconst 0, [], 0, 0),
  (24, 25, .ireturn, [], 0, 0)]
def mL_plan : xM := (317, 13, cL_plan, 6, (some .int), pL_plan)
set_option maxRecDepth 100000 in
theorem gL_plan : xgd mL_plan := ⟨by decide +kernel, xat_in (p := 5160) rfl, by decide +kernel, by decide +kernel, by decide, by decide +kernel, by decide +kernel⟩
set_option maxRecDepth 100000 in
def pL_see : List xRow := [(0, 2, .aload 4, [], 0, 0),
  (2, 3, .iconst 0, [], 0, 0),
  (3, 4, .aload_n 0, [], 0, 0),
  (4, 5, .iload_n 1, [], 0, 0),
  (5, 6, .iload_n 2, [], 0, 0),
  (6, 7, .iload_n 3, [], 0, 0),
  (7, 10, .invokevirtual 64, [0, 122], 0, 0),
  (10, 11, .i2l, [], 0, 0),
  (11, 12, .lastore, [], 0, 0),
  (12, 15, .goto 7, [19], 0, 0),
  (15, 17, .astore 5, [], 0, 0),
  (17, 18, .iconst 1, [], 1, 0),
  (18, 19, .ireturn, [], 0, 0),
  (19, 20, .iconst 0, [], 0, 0),
  (20, 21, .ireturn, [], 0, 0)]
def mL_see : xM := (318, 13, cL_see, 6, (some .int), pL_see)
set_option maxRecDepth 100000 in
theorem gL_see : xgd mL_see := ⟨by decide +kernel, xat_in (p := 5188) rfl, by decide +kernel, by decide +kernel, by decide, by decide +kernel, by decide +kernel⟩
set_option maxRecDepth 100000 in
def pL_suspects : List xRow := [(0, 1, .aload_n 2, [], 0, 0),
  (1, 2, .iconst 0, [], 0, 0),
  (2, 3, .aload_n 0, [], 0, 0),
  (3, 4, .iload_n 1, [], 0, 0),
  (4, 7, .invokevirtual 67, [0, 125], 0, 0),
  (7, 8, .i2l, [], 0, 0),
  (8, 9, .lastore, [], 0, 0),
  (9, 12, .goto 6, [15], 0, 0),
  (12, 13, .astore_n 3, [], 0, 0),
  (13, 14, .iconst 1, [], 1, 0),
  (14, 15, .ireturn, [], 0, 0),
  (15, 16, .iconst 0, [], 0, 0),
  (16, 17, .ireturn, [], 0, 0)]
def mL_suspects : xM := (319, 13, cL_suspects, 4, (some .int), pL_suspects)
set_option maxRecDepth 100000 in
theorem gL_suspects : xgd mL_suspects := ⟨by decide +kernel, xat_in (p := 5199) rfl, by decide +kernel, by decide +kernel, by decide, by decide +kernel, by decide +kernel⟩
set_option maxRecDepth 100000 in
def pL_spots : List xRow := [(0, 1, .aload_n 3, [], 0, 0),
  (1, 2, .iconst 0, [], 0, 0),
  (2, 3, .aload_n 0, [], 0, 0),
  (3, 4, .iload_n 1, [], 0, 0),
  (4, 5, .iload_n 2, [], 0, 0),
  (5, 8, .invokevirtual 70, [0, 126], 0, 0),
  (8, 9, .i2l, [], 0, 0),
  (9, 10, .lastore, [], 0, 0),
  (10, 13, .goto 7, [17], 0, 0),
  (13, 15, .astore 4, [], 0, 0),
  (15, 16, .iconst 1, [], 1, 0),
  (16, 17, .ireturn, [], 0, 0),
  (17, 18, .iconst 0, [], 0, 0),
  (18, 19, .ireturn, [], 0, 0)]
def mL_spots : xM := (320, 13, cL_spots, 5, (some .int), pL_spots)
set_option maxRecDepth 100000 in
theorem gL_spots : xgd mL_spots := ⟨by decide +kernel, xat_in (p := 5219) rfl, by decide +kernel, by decide +kernel, by decide, by decide +kernel, by decide +kernel⟩
set_option maxRecDepth 100000 in
def pL_saucer : List xRow := [(0, 2, .aload 4, [], 0, 0),
  (2, 3, .iconst 0, [], 0, 0),
  (3, 4, .aload_n 0, [], 0, 0),
  (4, 5, .iload_n 1, [], 0, 0),
  (5, 6, .iload_n 2, [], 0, 0),
  (6, 7, .iload_n 3, [], 0, 0),
  (7, 10, .invokevirtual 73, [0, 127], 0, 0),
  (10, 11, .i2l, [], 0, 0),
  (11, 12, .lastore, [], 0, 0),
  (12, 15, .goto 11, [23], 0, 0),
  (15, 17, .astore 5, [], 0, 0),
  (17, 18, .iconst 1, [], 1, 0),
  (18, 19, .ireturn, [], 0, 0),
  (19, 21, .astore 5, [], 0, 0),
  (21, 22, .iconst 2, [], 2, 0),
  (22, 23, .ireturn, [], 0, 0),
  (23, 24, .iconst 0, [], 0, 0),
  (24, 25, .ireturn, [], 0, 0)]
def mL_saucer : xM := (321, 13, cL_saucer, 6, (some .int), pL_saucer)
set_option maxRecDepth 100000 in
theorem gL_saucer : xgd mL_saucer := ⟨by decide +kernel, xat_in (p := 5235) rfl, by decide +kernel, by decide +kernel, by decide, by decide +kernel, by decide +kernel⟩
set_option maxRecDepth 100000 in
def pL_game : List xRow := [(0, 2, .aload 6, [], 0, 0),
  (2, 3, .iconst 0, [], 0, 0),
  (3, 4, .aload_n 0, [], 0, 0),
  (4, 5, .iload_n 1, [], 0, 0),
  (5, 6, .iload_n 2, [], 0, 0),
  (6, 7, .iload_n 3, [], 0, 0),
  (7, 9, .iload 4, [], 0, 0),
  (9, 11, .iload 5, [], 0, 0),
  (11, 14, .invokevirtual 76, [0, 128], 0, 0),
  (14, 15, .i2l, [], 0, 0),
  (15, 16, .lastore, [], 0, 0),
  (16, 19, .goto 11, [27], 0, 0),
  (19, 21, .astore 7, [], 0, 0),
  (21, 22, .iconst 1, [], 1, 0),
  (22, 23, .ireturn, [], 0, 0),
  (23, 25, .astore 7, [], 0, 0),
  (25, 26, .iconst 2, [], 2, 0),
  (26, 27, .ireturn, [], 0, 0),
  (27, 28, .iconst 0, [], 0, 0),
  (28, 29, .ireturn, [], 0, 0)]
def mL_game : xM := (322, 13, cL_game, 8, (some .int), pL_game)
set_option maxRecDepth 100000 in
theorem gL_game : xgd mL_game := ⟨by decide +kernel, xat_in (p := 6006) rfl, by decide +kernel, by decide +kernel, by decide, by decide +kernel, by decide +kernel⟩
set_option maxRecDepth 100000 in
def pL_years : List xRow := [(0, 2, .aload 4, [], 0, 0),
  (2, 3, .iconst 0, [], 0, 0),
  (3, 4, .aload_n 0, [], 0, 0),
  (4, 5, .iload_n 1, [], 0, 0),
  (5, 6, .iload_n 2, [], 0, 0),
  (6, 7, .iload_n 3, [], 0, 0),
  (7, 10, .invokevirtual 80, [0, 129], 0, 0),
  (10, 11, .i2l, [], 0, 0),
  (11, 12, .lastore, [], 0, 0),
  (12, 15, .goto 11, [23], 0, 0),
  (15, 17, .astore 5, [], 0, 0),
  (17, 18, .iconst 1, [], 1, 0),
  (18, 19, .ireturn, [], 0, 0),
  (19, 21, .astore 5, [], 0, 0),
  (21, 22, .iconst 2, [], 2, 0),
  (22, 23, .ireturn, [], 0, 0),
  (23, 24, .iconst 0, [], 0, 0),
  (24, 25, .ireturn, [], 0, 0)]
def mL_years : xM := (323, 13, cL_years, 6, (some .int), pL_years)
set_option maxRecDepth 100000 in
theorem gL_years : xgd mL_years := ⟨by decide +kernel, xat_in (p := 6032) rfl, by decide +kernel, by decide +kernel, by decide, by decide +kernel, by decide +kernel⟩
set_option maxRecDepth 100000 in
def pL_shown : List xRow := [(0, 1, .aload_n 3, [], 0, 0),
  (1, 2, .iconst 0, [], 0, 0),
  (2, 3, .aload_n 0, [], 0, 0),
  (3, 4, .iload_n 1, [], 0, 0),
  (4, 5, .iload_n 2, [], 0, 0),
  (5, 8, .invokevirtual 83, [0, 130], 0, 0),
  (8, 9, .i2l, [], 0, 0),
  (9, 10, .lastore, [], 0, 0),
  (10, 13, .goto 7, [17], 0, 0),
  (13, 15, .astore 4, [], 0, 0),
  (15, 16, .iconst 1, [], 1, 0),
  (16, 17, .ireturn, [], 0, 0),
  (17, 18, .iconst 0, [], 0, 0),
  (18, 19, .ireturn, [], 0, 0)]
def mL_shown : xM := (324, 13, cL_shown, 5, (some .int), pL_shown)
set_option maxRecDepth 100000 in
theorem gL_shown : xgd mL_shown := ⟨by decide +kernel, xat_in (p := 6047) rfl, by decide +kernel, by decide +kernel, by decide, by decide +kernel, by decide +kernel⟩
set_option maxRecDepth 100000 in
def pL_named : List xRow := [(0, 1, .aload_n 3, [], 0, 0),
  (1, 2, .iconst 0, [], 0, 0),
  (2, 3, .aload_n 0, [], 0, 0),
  (3, 4, .iload_n 1, [], 0, 0),
  (4, 5, .iload_n 2, [], 0, 0),
  (5, 8, .invokevirtual 86, [0, 131], 0, 0),
  (8, 9, .i2l, [], 0, 0),
  (9, 10, .lastore, [], 0, 0),
  (10, 13, .goto 7, [17], 0, 0),
  (13, 15, .astore 4, [], 0, 0),
  (15, 16, .iconst 1, [], 1, 0),
  (16, 17, .ireturn, [], 0, 0),
  (17, 18, .iconst 0, [], 0, 0),
  (18, 19, .ireturn, [], 0, 0)]
def mL_named : xM := (325, 13, cL_named, 5, (some .int), pL_named)
set_option maxRecDepth 100000 in
theorem gL_named : xgd mL_named := ⟨by decide +kernel, xat_in (p := 6054) rfl, by decide +kernel, by decide +kernel, by decide, by decide +kernel, by decide +kernel⟩
set_option maxRecDepth 100000 in
def pL_butFor : List xRow := [(0, 1, .aload_n 2, [], 0, 0),
  (1, 2, .iconst 0, [], 0, 0),
  (2, 3, .aload_n 0, [], 0, 0),
  (3, 4, .iload_n 1, [], 0, 0),
  (4, 7, .invokevirtual 89, [0, 132], 0, 0),
  (7, 8, .i2l, [], 0, 0),
  (8, 9, .lastore, [], 0, 0),
  (9, 12, .goto 6, [15], 0, 0),
  (12, 13, .astore_n 3, [], 0, 0),
  (13, 14, .iconst 1, [], 1, 0),
  (14, 15, .ireturn, [], 0, 0),
  (15, 16, .iconst 0, [], 0, 0),
  (16, 17, .ireturn, [], 0, 0)]
def mL_butFor : xM := (326, 13, cL_butFor, 4, (some .int), pL_butFor)
set_option maxRecDepth 100000 in
theorem gL_butFor : xgd mL_butFor := ⟨by decide +kernel, xat_in (p := 6061) rfl, by decide +kernel, by decide +kernel, by decide, by decide +kernel, by decide +kernel⟩
set_option maxRecDepth 100000 in
def pL_rusted : List xRow := [(0, 1, .aload_n 2, [], 0, 0),
  (1, 2, .iconst 0, [], 0, 0),
  (2, 3, .aload_n 0, [], 0, 0),
  (3, 4, .iload_n 1, [], 0, 0),
  (4, 7, .invokevirtual 92, [0, 133], 0, 0),
  (7, 8, .i2l, [], 0, 0),
  (8, 9, .lastore, [], 0, 0),
  (9, 12, .goto 6, [15], 0, 0),
  (12, 13, .astore_n 3, [], 0, 0),
  (13, 14, .iconst 1, [], 1, 0),
  (14, 15, .ireturn, [], 0, 0),
  (15, 16, .iconst 0, [], 0, 0),
  (16, 17, .ireturn, [], 0, 0)]
def mL_rusted : xM := (327, 13, cL_rusted, 4, (some .int), pL_rusted)
set_option maxRecDepth 100000 in
theorem gL_rusted : xgd mL_rusted := ⟨by decide +kernel, xat_in (p := 6069) rfl, by decide +kernel, by decide +kernel, by decide, by decide +kernel, by decide +kernel⟩
set_option maxRecDepth 100000 in
def pL_ears : List xRow := [(0, 1, .aload_n 3, [], 0, 0),
  (1, 2, .iconst 0, [], 0, 0),
  (2, 3, .aload_n 0, [], 0, 0),
  (3, 4, .iload_n 1, [], 0, 0),
  (4, 5, .iload_n 2, [], 0, 0),
  (5, 8, .invokevirtual 95, [0, 134], 0, 0),
  (8, 9, .i2l, [], 0, 0),
  (9, 10, .lastore, [], 0, 0),
  (10, 13, .goto 7, [17], 0, 0),
  (13, 15, .astore 4, [], 0, 0),
  (15, 16, .iconst 1, [], 1, 0),
  (16, 17, .ireturn, [], 0, 0),
  (17, 18, .iconst 0, [], 0, 0),
  (18, 19, .ireturn, [], 0, 0)]
def mL_ears : xM := (328, 13, cL_ears, 5, (some .int), pL_ears)
set_option maxRecDepth 100000 in
theorem gL_ears : xgd mL_ears := ⟨by decide +kernel, xat_in (p := 6077) rfl, by decide +kernel, by decide +kernel, by decide, by decide +kernel, by decide +kernel⟩
set_option maxRecDepth 100000 in
def pL_hideouts : List xRow := [(0, 2, .aload 5, [], 0, 0),
  (2, 3, .iconst 0, [], 0, 0),
  (3, 4, .aload_n 0, [], 0, 0),
  (4, 5, .iload_n 1, [], 0, 0),
  (5, 6, .iload_n 2, [], 0, 0),
  (6, 7, .iload_n 3, [], 0, 0),
  (7, 9, .iload 4, [], 0, 0),
  (9, 12, .invokevirtual 98, [0, 135], 0, 0),
  (12, 13, .i2l, [], 0, 0),
  (13, 14, .lastore, [], 0, 0),
  (14, 17, .goto 11, [25], 0, 0),
  (17, 19, .astore 6, [], 0, 0),
  (19, 20, .iconst 1, [], 1, 0),
  (20, 21, .ireturn, [], 0, 0),
  (21, 23, .astore 6, [], 0, 0),
  (23, 24, .iconst 2, [], 2, 0),
  (24, 25, .ireturn, [], 0, 0),
  (25, 26, .iconst 0, [], 0, 0),
  (26, 27, .ireturn, [], 0, 0)]
def mL_hideouts : xM := (329, 13, cL_hideouts, 7, (some .int), pL_hideouts)
set_option maxRecDepth 100000 in
theorem gL_hideouts : xgd mL_hideouts := ⟨by decide +kernel, xat_in (p := 6088) rfl, by decide +kernel, by decide +kernel, by decide, by decide +kernel, by decide +kernel⟩
set_option maxRecDepth 100000 in
def pL_pardon : List xRow := [(0, 1, .aload_n 3, [], 0, 0),
  (1, 2, .iconst 0, [], 0, 0),
  (2, 3, .aload_n 0, [], 0, 0),
  (3, 4, .iload_n 1, [], 0, 0),
  (4, 5, .iload_n 2, [], 0, 0),
  (5, 8, .invokevirtual 102, [0, 136], 0, 0),
  (8, 9, .i2l, [], 0, 0),
  (9, 10, .lastore, [], 0, 0),
  (10, 13, .goto 7, [17], 0, 0),
  (13, 15, .astore 4, [], 0, 0),
  (15, 16, .iconst 1, [], 1, 0),
  (16, 17, .ireturn, [], 0, 0),
  (17, 18, .iconst 0, [], 0, 0),
  (18, 19, .ireturn, [], 0, 0)]
def mL_pardon : xM := (330, 13, cL_pardon, 5, (some .int), pL_pardon)
set_option maxRecDepth 100000 in
theorem gL_pardon : xgd mL_pardon := ⟨by decide +kernel, xat_in (p := 6095) rfl, by decide +kernel, by decide +kernel, by decide, by decide +kernel, by decide +kernel⟩
set_option maxRecDepth 100000 in
def pL_falsely : List xRow := [(0, 1, .aload_n 2, [], 0, 0),
  (1, 2, .iconst 0, [], 0, 0),
  (2, 3, .aload_n 0, [], 0, 0),
  (3, 4, .iload_n 1, [], 0, 0),
  (4, 7, .invokevirtual 105, [0, 137], 0, 0),
  (7, 8, .i2l, [], 0, 0),
  (8, 9, .lastore, [], 0, 0),
  (9, 12, .goto 6, [15], 0, 0),
  (12, 13, .astore_n 3, [], 0, 0),
  (13, 14, .iconst 1, [], 1, 0),
  (14, 15, .ireturn, [], 0, 0),
  (15, 16, .iconst 0, [], 0, 0),
  (16, 17, .ireturn, [], 0, 0)]
def mL_falsely : xM := (331, 13, cL_falsely, 4, (some .int), pL_falsely)
set_option maxRecDepth 100000 in
theorem gL_falsely : xgd mL_falsely := ⟨by decide +kernel, xat_in (p := 6102) rfl, by decide +kernel, by decide +kernel, by decide, by decide +kernel, by decide +kernel⟩
set_option maxRecDepth 100000 in
def pL_first : List xRow := [(0, 1, .aload_n 2, [], 0, 0),
  (1, 2, .iconst 0, [], 0, 0),
  (2, 3, .aload_n 0, [], 0, 0),
  (3, 4, .iload_n 1, [], 0, 0),
  (4, 7, .invokevirtual 108, [0, 139], 0, 0),
  (7, 8, .i2l, [], 0, 0),
  (8, 9, .lastore, [], 0, 0),
  (9, 12, .goto 6, [15], 0, 0),
  (12, 13, .astore_n 3, [], 0, 0),
  (13, 14, .iconst 1, [], 1, 0),
  (14, 15, .ireturn, [], 0, 0),
  (15, 16, .iconst 0, [], 0, 0),
  (16, 17, .ireturn, [], 0, 0)]
def mL_first : xM := (332, 13, cL_first, 4, (some .int), pL_first)
set_option maxRecDepth 100000 in
theorem gL_first : xgd mL_first := ⟨by decide +kernel, xat_in (p := 6114) rfl, by decide +kernel, by decide +kernel, by decide, by decide +kernel, by decide +kernel⟩
set_option maxRecDepth 100000 in
def pL_busiest : List xRow := [(0, 1, .aload_n 2, [], 0, 0),
  (1, 2, .iconst 0, [], 0, 0),
  (2, 3, .aload_n 0, [], 0, 0),
  (3, 4, .iload_n 1, [], 0, 0),
  (4, 7, .invokevirtual 111, [0, 140], 0, 0),
  (7, 8, .i2l, [], 0, 0),
  (8, 9, .lastore, [], 0, 0),
  (9, 12, .goto 6, [15], 0, 0),
  (12, 13, .astore_n 3, [], 0, 0),
  (13, 14, .iconst 1, [], 1, 0),
  (14, 15, .ireturn, [], 0, 0),
  (15, 16, .iconst 0, [], 0, 0),
  (16, 17, .ireturn, [], 0, 0)]
def mL_busiest : xM := (333, 13, cL_busiest, 4, (some .int), pL_busiest)
set_option maxRecDepth 100000 in
theorem gL_busiest : xgd mL_busiest := ⟨by decide +kernel, xat_in (p := 6121) rfl, by decide +kernel, by decide +kernel, by decide, by decide +kernel, by decide +kernel⟩
end
section
def xget : List (Option Value) → Nat → Option Value
  | [], _ => none
  | a :: _, 0 => a
  | _ :: r, k + 1 => xget r k
theorem xget_some : ∀ {ls : List (Option Value)} {k : Nat} {v : Value}, xget ls k = some v → ls[k]? = some (some v)
  | [], k, v, h => by cases k <;> cases h
  | a :: r, 0, v, h => by
    simp only [xget] at h
    rw [h]
    rfl
  | a :: r, k + 1, v, h => by
    simp only [xget] at h
    rw [List.getElem?_cons_succ]
    exact xget_some h
def xfo : List (Option Value) → Option (List (Option Value))
  | [] => some []
  | a :: r => match xfo r with
    | some r' => some (a :: r')
    | none => none
theorem xfo_eq : ∀ {l l' : List (Option Value)}, xfo l = some l' → l' = l
  | [], l', h => by cases h; rfl
  | a :: r, l', h => by
    unfold xfo at h
    split at h
    · rename_i r' hr
      cases h
      rw [xfo_eq hr]
    · cases h
def xsh : List (Nat × Nat) → Nat → Option (Nat × Nat)
  | [], _ => none
  | a :: _, 0 => some a
  | _ :: r, k + 1 => xsh r k
theorem xsh_get : ∀ {l : List (Nat × Nat)} {k : Nat} {v : Nat × Nat}, xsh l k = some v → l[k]? = some v
  | [], k, v, h => by cases k <;> cases h
  | a :: r, 0, v, h => h
  | a :: r, k + 1, v, h => by
    simp only [xsh] at h
    rw [List.getElem?_cons_succ]
    exact xsh_get h
def xc1 (v : Value) : Bool := match v with
  | .long _ => false
  | .double _ => false
  | _ => true
theorem xc1_cat {v : Value} (h : xc1 v = true) : v.category = 1 := by cases v <;> first | rfl | cases h
def xvI (h : xHp) (c ci k : Nat) : Option Value := match h with
  | (_, d, L, r) => match xkd (xty ci k) with
    | 0 => some (.int (d c k))
    | 3 => some (.int (d c k))
    | 2 => some (.long (L c k))
    | _ => match r c k with
      | some x => some (.ref x)
      | none => none
def stp (mL : Nat) (h : xHp) (i : Instr) (nx : Nat) (rs : List Nat) (li : Int32) (ll : Int64) (ls : List (Option Value)) (st : List Value) : Option (Nat × List (Option Value) × List Value) := match i with
  | .iconst _ => some (nx, ls, .int li :: st)
  | .bipush _ => some (nx, ls, .int li :: st)
  | .sipush _ => some (nx, ls, .int li :: st)
  | .lconst _ => some (nx, ls, .long ll :: st)
  | .ldc _ => (match rs with
    | [] => some (nx, ls, .int li :: st)
    | [k] => some (nx, ls, .ref (5000 + k) :: st)
    | _ => none)
  | .ldc_w _ => (match rs with
    | [] => some (nx, ls, .int li :: st)
    | _ => none)
  | .ldc2_w _ => some (nx, ls, .long ll :: st)
  | .iload_n k => (match xget ls (k : Nat) with
    | some (.int x) => some (nx, ls, .int x :: st)
    | _ => none)
  | .iload k => (match xget ls k with
    | some (.int x) => some (nx, ls, .int x :: st)
    | _ => none)
  | .lload_n k => (match xget ls (k : Nat) with
    | some (.long x) => some (nx, ls, .long x :: st)
    | _ => none)
  | .lload k => (match xget ls k with
    | some (.long x) => some (nx, ls, .long x :: st)
    | _ => none)
  | .aload_n k => (match xget ls (k : Nat) with
    | some (.ref x) => some (nx, ls, .ref x :: st)
    | _ => none)
  | .aload k => (match xget ls k with
    | some (.ref x) => some (nx, ls, .ref x :: st)
    | _ => none)
  | .istore_n k => (match st with
    | .int x :: r => (match Nat.blt (k : Nat) mL with
      | true => (match xfo (xst1 ls (k : Nat) (.int x)) with
        | some ls' => some (nx, ls', r)
        | none => none)
      | false => none)
    | _ => none)
  | .istore k => (match st with
    | .int x :: r => (match Nat.blt k mL with
      | true => (match xfo (xst1 ls k (.int x)) with
        | some ls' => some (nx, ls', r)
        | none => none)
      | false => none)
    | _ => none)
  | .astore_n k => (match st with
    | .ref x :: r => (match Nat.blt (k : Nat) mL with
      | true => (match xfo (xst1 ls (k : Nat) (.ref x)) with
        | some ls' => some (nx, ls', r)
        | none => none)
      | false => none)
    | _ => none)
  | .astore k => (match st with
    | .ref x :: r => (match Nat.blt k mL with
      | true => (match xfo (xst1 ls k (.ref x)) with
        | some ls' => some (nx, ls', r)
        | none => none)
      | false => none)
    | _ => none)
  | .lstore_n k => (match st with
    | .long x :: r => (match Nat.blt ((k : Nat) + 1) mL with
      | true => (match xfo (xst2 ls (k : Nat) (.long x)) with
        | some ls' => some (nx, ls', r)
        | none => none)
      | false => none)
    | _ => none)
  | .lstore k => (match st with
    | .long x :: r => (match Nat.blt (k + 1) mL with
      | true => (match xfo (xst2 ls k (.long x)) with
        | some ls' => some (nx, ls', r)
        | none => none)
      | false => none)
    | _ => none)
  | .iinc k _ => (match xget ls k with
    | some (.int x) => (match Nat.blt k mL with
      | true => (match xfo (xst1 ls k (.int (x + li))) with
        | some ls' => some (nx, ls', st)
        | none => none)
      | false => none)
    | _ => none)
  | .iadd => (match st with
    | .int y :: .int x :: r => some (nx, ls, .int (x + y) :: r)
    | _ => none)
  | .isub => (match st with
    | .int y :: .int x :: r => some (nx, ls, .int (x - y) :: r)
    | _ => none)
  | .imul => (match st with
    | .int y :: .int x :: r => some (nx, ls, .int (x * y) :: r)
    | _ => none)
  | .iand => (match st with
    | .int y :: .int x :: r => some (nx, ls, .int (x &&& y) :: r)
    | _ => none)
  | .ior => (match st with
    | .int y :: .int x :: r => some (nx, ls, .int (x ||| y) :: r)
    | _ => none)
  | .ixor => (match st with
    | .int y :: .int x :: r => some (nx, ls, .int (x ^^^ y) :: r)
    | _ => none)
  | .ishl => (match st with
    | .int y :: .int x :: r => some (nx, ls, .int (x <<< (y &&& 31)) :: r)
    | _ => none)
  | .ishr => (match st with
    | .int y :: .int x :: r => some (nx, ls, .int (x >>> (y &&& 31)) :: r)
    | _ => none)
  | .ladd => (match st with
    | .long y :: .long x :: r => some (nx, ls, .long (x + y) :: r)
    | _ => none)
  | .lsub => (match st with
    | .long y :: .long x :: r => some (nx, ls, .long (x - y) :: r)
    | _ => none)
  | .lmul => (match st with
    | .long y :: .long x :: r => some (nx, ls, .long (x * y) :: r)
    | _ => none)
  | .land => (match st with
    | .long y :: .long x :: r => some (nx, ls, .long (x &&& y) :: r)
    | _ => none)
  | .lor => (match st with
    | .long y :: .long x :: r => some (nx, ls, .long (x ||| y) :: r)
    | _ => none)
  | .lxor => (match st with
    | .long y :: .long x :: r => some (nx, ls, .long (x ^^^ y) :: r)
    | _ => none)
  | .iushr => (match st with
    | .int y :: .int x :: r => some (nx, ls, .int ((x.toUInt32 >>> (y.toUInt32 &&& Int32.toUInt32 31)).toInt32) :: r)
    | _ => none)
  | .lshl => (match st with
    | .int y :: .long x :: r => some (nx, ls, .long (x <<< (y.toInt64 &&& 63)) :: r)
    | _ => none)
  | .lshr => (match st with
    | .int y :: .long x :: r => some (nx, ls, .long (x >>> (y.toInt64 &&& 63)) :: r)
    | _ => none)
  | .ineg => (match st with
    | .int x :: r => some (nx, ls, .int (-x) :: r)
    | _ => none)
  | .lneg => (match st with
    | .long x :: r => some (nx, ls, .long (-x) :: r)
    | _ => none)
  | .i2l => (match st with
    | .int x :: r => some (nx, ls, .long x.toInt64 :: r)
    | _ => none)
  | .i2b => (match st with
    | .int x :: r => some (nx, ls, .int x.toInt8.toInt32 :: r)
    | _ => none)
  | .i2c => (match st with
    | .int x :: r => some (nx, ls, .int (x.toUInt32 % 65536).toInt32 :: r)
    | _ => none)
  | .lcmp => (match st with
    | .long y :: .long x :: r => some (nx, ls, .int (lg_cmp x y) :: r)
    | _ => none)
  | .dup => (match st with
    | a :: r => (match xc1 a with
      | true => some (nx, ls, a :: a :: r)
      | false => none)
    | _ => none)
  | .dup2 => (match st with
    | a :: b :: r => (match xc1 a with
      | true => (match xc1 b with
        | true => some (nx, ls, a :: b :: a :: b :: r)
        | false => none)
      | false => none)
    | _ => none)
  | .pop => (match st with
    | a :: r => (match xc1 a with
      | true => some (nx, ls, r)
      | false => none)
    | _ => none)
  | .goto _ => (match rs with
    | [t] => some (t, ls, st)
    | _ => none)
  | .getfield _ => (match rs with
    | [ci, k] => (match st with
      | .ref c :: r => (match xsh h.1 c with
        | some (t, n) => (match Nat.beq t ci with
          | true => (match Nat.blt k n with
            | true => (match xvI h c ci k with
              | some v => some (nx, ls, v :: r)
              | none => none)
            | false => none)
          | false => none)
        | none => none)
      | _ => none)
    | _ => none)
  | .arraylength => (match st with
    | .ref c :: r => (match xsh h.1 c with
      | some (t, n) => (match Nat.ble 100 t with
        | true => (match Nat.ble t 105 with
          | true => some (nx, ls, .int (nI n) :: r)
          | false => none)
        | false => none)
      | none => none)
    | _ => none)
  | _ => none
theorem xblt {a b : Nat} (h : Nat.blt a b = true) : a < b := Nat.le_of_ble_eq_true h
theorem xTG_in {w : Cond} (h : w ∈ lw_tbl) (hg : goodWord w = true) : w ∈ xTG := List.mem_filter.mpr ⟨h, hg⟩
theorem xcst {o pc nx : Nat} {i : Nat} {li : Int32} {ll : Int64} (h : xres o (pc, nx, .ldc i, [], li, ll) = true ∨ xres o (pc, nx, .ldc_w i, [], li, ll) = true) : Cond.constant (xOwn o) i li ∈ xTG := by
  have h1 : (xLKc.any fun q => q.1 == o && q.2.1 == i && decide (q.2.2.1 = li)) = true := h.elim id id
  obtain ⟨q, hq, h2⟩ := List.any_eq_true.mp h1
  simp only [Bool.and_eq_true, beq_iff_eq, decide_eq_true_eq] at h2
  have h3 := List.all_eq_true.mp xLKc_ok q hq
  simp only [decide_eq_true_eq] at h3
  rw [h2.1.1, h2.1.2, h2.2] at h3
  exact xTG_in (xat_in h3) rfl
theorem xcsl {o pc nx : Nat} {i : Nat} {rs : List Nat} {li : Int32} {ll : Int64} (h : xres o (pc, nx, .ldc2_w i, rs, li, ll) = true) : Cond.constantLong (xOwn o) i ll ∈ xTG := by
  have h1 : (xLKl.any fun q => q.1 == o && q.2.1 == i && decide (q.2.2.1 = ll)) = true := h
  obtain ⟨q, hq, h2⟩ := List.any_eq_true.mp h1
  simp only [Bool.and_eq_true, beq_iff_eq, decide_eq_true_eq] at h2
  have h3 := List.all_eq_true.mp xLKl_ok q hq
  simp only [decide_eq_true_eq] at h3
  rw [h2.1.1, h2.1.2, h2.2] at h3
  exact xTG_in (xat_in h3) rfl
theorem xstr {al : Nat → Nat} {A : Nat → Prop} {U : State} {H : Heap} {o pc nx i k : Nat} {li : Int32} {ll : Int64} (hF : xFx al A U H) (h : xres o (pc, nx, .ldc i, [k], li, ll) = true) : ∃ tx, vk_R (xOwn o) i tx (al (5000 + k)) U := by
  unfold xres at h
  simp only at h
  split at h
  · rename_i q hq
    simp only [Bool.and_eq_true, decide_eq_true_eq, beq_iff_eq] at h
    have h1 := (hF.2.1 k q hq).1
    rw [h.1, h.2] at h1
    exact ⟨_, h1⟩
  · cases h
theorem xws_lays : ∀ ci, ci < 13 → ∀ w ∈ u_ws (xOwn ci) (xT ci) (xNf ci), w ∈ xTG := by
  intro ci hci w hw
  unfold u_ws at hw
  obtain ⟨k, hk, rfl⟩ := List.mem_map.mp hw
  have h1 := xLy_in ci hci
  unfold xLyok at h1
  split at h1
  · simp only [Bool.and_eq_true, List.all_eq_true, decide_eq_true_eq] at h1
    refine xTG_in (xat_in (h1.2 k hk)) ?_
    unfold u_lay
    split <;> rfl
  · cases h1
theorem xvw {ci : Nat} (h : ci < 13) : ∃ T, vwCl[ci]? = some (xOwn ci, T, xNf ci) ∧ xT ci = T := by
  rcases (by omega : ci = 0 ∨ ci = 1 ∨ ci = 2 ∨ ci = 3 ∨ ci = 4 ∨ ci = 5 ∨ ci = 6 ∨ ci = 7 ∨ ci = 8 ∨ ci = 9 ∨ ci = 10 ∨ ci = 11 ∨ ci = 12) with rfl | rfl | rfl | rfl | rfl | rfl | rfl | rfl | rfl | rfl | rfl | rfl | rfl <;> exact ⟨_, rfl, rfl⟩
theorem xfld {o pc nx : Nat} {i ci k : Nat} {li : Int32} {ll : Int64} (h : xres o (pc, nx, .getfield i, [ci, k], li, ll) = true ∨ xres o (pc, nx, .putfield i, [ci, k], li, ll) = true) : ci < 13 ∧ k < xNf ci ∧ Cond.fieldLink (xOwn o) i (xT ci k).1 (xT ci k).2.1 (xT ci k).2.2.1 ∈ xTG := by
  have h1 : ((xLKf.any fun q => q.1 == o && q.2.1 == i && q.2.2.1 == ci && q.2.2.2.1 == k) && decide (ci < 13) && decide (k < xNf ci)) = true := h.elim id id
  simp only [Bool.and_eq_true, decide_eq_true_eq] at h1
  refine ⟨h1.1.2, h1.2, ?_⟩
  obtain ⟨q, hq, h2⟩ := List.any_eq_true.mp h1.1.1
  simp only [Bool.and_eq_true, beq_iff_eq] at h2
  have h3 := List.all_eq_true.mp xLKf_ok q hq
  simp only [decide_eq_true_eq] at h3
  rw [h2.1.1.1, h2.1.1.2, h2.1.2, h2.2] at h3
  exact xTG_in (xat_in h3) rfl
theorem xcell_obj {ka : Nat → ClassId} {al : Nat → Nat} {h : xHp} {c t n : Nat} (ht : t < 100) : xcell ka al h c t n = .inr (t, (List.range n).map (xfv al h c t)) := if_pos ht
theorem xvI_fv {al : Nat → Nat} {h : xHp} {c ci k : Nat} {v : Value} (hv : xvI h c ci k = some v) : xfv al h c ci k = xcv al v := by
  obtain ⟨sh, d, L, r⟩ := h
  simp only [xvI] at hv
  unfold xfv
  split at hv
  · cases hv; rename_i e; rw [e]; rfl
  · cases hv; rename_i e; rw [e]; rfl
  · cases hv; rename_i e; rw [e]; rfl
  · rename_i n1 n2 n3
    have e : xkd (xty ci k) = 1 := by
      have : xkd (xty ci k) = 0 ∨ xkd (xty ci k) = 3 ∨ xkd (xty ci k) = 2 ∨ xkd (xty ci k) = 1 := by
        unfold xkd
        split <;> simp
      rcases this with q | q | q | q
      · exact absurd q n1
      · exact absurd q n2
      · exact absurd q n3
      · exact q
    rw [e]
    split at hv
    · rename_i x hx
      cases hv
      show va_rf (Option.map al (r c k)) = _
      rw [hx]
      rfl
    · cases hv
section XW
variable {p : Program} {l : Launch} {e : Env} {R : Room} {s : State} {m : MethodId} {args : Array Value} {below : List Frame} {meth : Method} {c : Code} {H : Heap} {locs : List Loc} {cells slots : Nat} {Q : State → Prop}
variable {cc : ByteArray} {pc : Nat} {lsA : Array Slot} {rest : List Value} {D : va_G} {ka : Nat → ClassId} {al : Nat → Nat} {A : Nat → Prop} {h : xHp}
theorem x_getW (hx : p.tables.exec = Jvm.exec) (hb : c.code = cc) {o nx i ci k cl n : Nat} {li : Int32} {ll : Int64} {v : Value} (hown : s.vm.findClass (xOwn o) = some m.cls) (hts : ∀ w ∈ xTG, w.before args s = true) (hK : va_K D vwCl (xtys ka) s) (hP : va_P D vwCl (xws ka al h) H) (hc : h.1[cl]? = some (ci, n)) (hn : k < n) (hr : xres o (pc, nx, .getfield i, [ci, k], li, ll) = true) (hv : xvI h cl ci k = some v) (hd : decode cc pc = .ok (.getfield i, 3))
    (kk : W p l e R s m args below meth c H locs cells slots Q (F0 m (pc + 3) lsA (xcv al v :: rest))) : W p l e R s m args below meth c H locs cells slots Q (F0 m pc lsA (.ref (al cl) :: rest)) := by
  obtain ⟨h1, h2, h3⟩ := xfld (Or.inl hr)
  obtain ⟨T, hT1, hT2⟩ := xvw h1
  subst hT2
  have hg := xws_get (ka := ka) (al := al) hc
  rw [xcell_obj (by omega)] at hg
  exact va_get (C := xOwn ci) (T := xT ci) (N := xNf ci) (ref := (xT ci k).1) hx hb hts (xws_lays ci h1) hown hK hP cl hg hT1 k h2 (hts _ h3) (fun _ h9 => h9) (v := xcv al v) (by simp [hn, xvI_fv hv]) hd kk
theorem xtys_at {ka : Nat → ClassId} {t : Nat} (h1 : 100 ≤ t) (h2 : t ≤ 105) : ∃ (k : Nat) (ty : FieldType), (xtys ka)[k]? = some (ka t, ty) := by
  rcases (by omega : t = 100 ∨ t = 101 ∨ t = 102 ∨ t = 103 ∨ t = 104 ∨ t = 105) with rfl | rfl | rfl | rfl | rfl | rfl
  · exact ⟨0, _, rfl⟩
  · exact ⟨1, _, rfl⟩
  · exact ⟨2, _, rfl⟩
  · exact ⟨3, _, rfl⟩
  · exact ⟨4, _, rfl⟩
  · exact ⟨5, _, rfl⟩
theorem xcell_arr {ka : Nat → ClassId} {al : Nat → Nat} {h : xHp} {c t n : Nat} (h1 : 100 ≤ t) : ∃ x, xcell ka al h c t n = .inl (ka t, n, x) := by
  unfold xcell
  rw [if_neg (by omega)]
  split
  · exact ⟨_, rfl⟩
  · split
    · exact ⟨_, rfl⟩
    · exact ⟨_, rfl⟩
theorem x_alenW (hx : p.tables.exec = Jvm.exec) (hb : c.code = cc) {cl t n : Nat} (hK : va_K D vwCl (xtys ka) s) (hP : va_P D vwCl (xws ka al h) H) (hc : h.1[cl]? = some (t, n)) (h1 : 100 ≤ t) (h2 : t ≤ 105) (hd : decode cc pc = .ok (.arraylength, 1))
    (kk : W p l e R s m args below meth c H locs cells slots Q (F0 m (pc + 1) lsA (.int (nI n) :: rest))) : W p l e R s m args below meth c H locs cells slots Q (F0 m pc lsA (.ref (al cl) :: rest)) := by
  have hg := xws_get (ka := ka) (al := al) hc
  obtain ⟨x, hxx⟩ := xcell_arr (ka := ka) (al := al) (h := h) (c := cl) (n := n) h1
  rw [hxx] at hg
  obtain ⟨k, ty, ht⟩ := xtys_at (ka := ka) h1 h2
  exact va_alen hx hb hK hP cl k hg ht rfl hd kk
end XW

set_option maxHeartbeats 4000000 in
set_option maxRecDepth 100000 in
/-- any simple instruction -/
theorem x_s {M : xM} {fr : Bool} {dp kc ks pc nx nx' : Nat} {i : Instr} {rs : List Nat} {li : Int32} {ll : Int64} {ls ls' : List (Option Value)} {st st' : List Value} {h : xHp} {Q : xPost} {X : Nat → xHp → Prop}
    (hf : xft M.2.2.2.2.2 pc = some (nx, i, rs, li, ll)) (hs : stp M.2.2.2.1 h i nx rs li ll ls st = some (nx', ls', st')) (k : Ex M fr dp kc ks nx' ls' st' h Q X) : Ex M fr dp kc ks pc ls st h Q X := by
  intro hg p l e R s m args below meth c D ka al A H locs cells slots mc ms lsA C R0 B hW hS hl
  have K := fun lsA => k hg p l e R s m args below meth c D ka al A H locs cells slots mc ms lsA C R0 B hW hS
  have hx := C.1
  have hb := C.2.1
  have hown := C.2.2.2.2.1
  have hts := C.2.2.2.2.2.1
  have hK := C.2.2.2.2.2.2.2.1
  have hF := C.2.2.2.2.2.2.2.2.2.1
  cases i
  case iconst n =>
    obtain ⟨hd, rfl, hr⟩ := xft_dec hg.1 hf rfl
    cases hs
    exact lv_iconst hx hb hd (by simpa [xres] using hr) (K lsA hl)
  case bipush n =>
    obtain ⟨hd, rfl, hr⟩ := xft_dec hg.1 hf rfl
    cases hs
    exact lv_bipush hx hb hd (by simpa [xres] using hr) (K lsA hl)
  case sipush n =>
    obtain ⟨hd, rfl, hr⟩ := xft_dec hg.1 hf rfl
    cases hs
    exact lv_sipush hx hb hd (by simpa [xres] using hr) (K lsA hl)
  case lconst n =>
    obtain ⟨hd, rfl, hr⟩ := xft_dec hg.1 hf rfl
    cases hs
    exact lv_lconst hx hb hd (by simpa [xres] using hr) (K lsA hl)
  case ldc n =>
    obtain ⟨hd, rfl, hr⟩ := xft_dec hg.1 hf rfl
    match rs, hs, hr with
    | [], hs, hr =>
      cases hs
      exact lv_ldc hx hb hown (hts _ (xcst (Or.inl hr))) hd (K lsA hl)
    | [k], hs, hr =>
      cases hs
      obtain ⟨tx, hv⟩ := xstr hF hr
      exact va_ldcS hx hb hown hv hd (K lsA hl)
  case ldc_w n =>
    obtain ⟨hd, rfl, hr⟩ := xft_dec hg.1 hf rfl
    match rs, hs, hr with
    | [], hs, hr =>
      cases hs
      exact lv_ldcw hx hb hown (hts _ (xcst (Or.inr hr))) hd (K lsA hl)
  case ldc2_w n =>
    obtain ⟨hd, rfl, hr⟩ := xft_dec hg.1 hf rfl
    cases hs
    exact lv_ldc2 hx hb hown (hts _ (xcsl hr)) hd (K lsA hl)
  case iload_n k =>
    obtain ⟨hd, rfl, hr⟩ := xft_dec hg.1 hf rfl
    simp only [stp] at hs
    split at hs
    · rename_i x hv
      cases hs
      exact lv_iload_n hx hb hd rfl (xl_at hl (xget_some hv)) (K lsA hl)
    · cases hs
  case iload k =>
    obtain ⟨hd, rfl, hr⟩ := xft_dec hg.1 hf rfl
    simp only [stp] at hs
    split at hs
    · rename_i x hv
      cases hs
      exact lv_iload hx hb hd (xl_at hl (xget_some hv)) (K lsA hl)
    · cases hs
  case lload_n k =>
    obtain ⟨hd, rfl, hr⟩ := xft_dec hg.1 hf rfl
    simp only [stp] at hs
    split at hs
    · rename_i x hv
      cases hs
      exact lv_lload_n hx hb hd rfl (xl_at hl (xget_some hv)) (K lsA hl)
    · cases hs
  case lload k =>
    obtain ⟨hd, rfl, hr⟩ := xft_dec hg.1 hf rfl
    simp only [stp] at hs
    split at hs
    · rename_i x hv
      cases hs
      exact lv_lload hx hb hd (xl_at hl (xget_some hv)) (K lsA hl)
    · cases hs
  case aload_n k =>
    obtain ⟨hd, rfl, hr⟩ := xft_dec hg.1 hf rfl
    simp only [stp] at hs
    split at hs
    · rename_i x hv
      cases hs
      exact lv_aload_n hx hb hd rfl (xl_at hl (xget_some hv)) (K lsA hl)
    · cases hs
  case aload k =>
    obtain ⟨hd, rfl, hr⟩ := xft_dec hg.1 hf rfl
    simp only [stp] at hs
    split at hs
    · rename_i x hv
      cases hs
      exact lv_aload hx hb hd (xl_at hl (xget_some hv)) (K lsA hl)
    · cases hs
  case istore_n k =>
    obtain ⟨hd, rfl, hr⟩ := xft_dec hg.1 hf rfl
    simp only [stp] at hs
    split at hs
    · split at hs
      · rename_i hlt
        split at hs
        · rename_i l2 hl2
          cases hs
          cases xfo_eq hl2
          exact lv_istore_n hx hb hd rfl hl (xblt hlt) rfl fun lsB hlB => K lsB (xl_sub hlB xl_st1)
        · cases hs
      · cases hs
    · cases hs
  case istore k =>
    obtain ⟨hd, rfl, hr⟩ := xft_dec hg.1 hf rfl
    simp only [stp] at hs
    split at hs
    · split at hs
      · rename_i hlt
        split at hs
        · rename_i l2 hl2
          cases hs
          cases xfo_eq hl2
          exact lv_istore hx hb hd hl (xblt hlt) rfl fun lsB hlB => K lsB (xl_sub hlB xl_st1)
        · cases hs
      · cases hs
    · cases hs
  case astore_n k =>
    obtain ⟨hd, rfl, hr⟩ := xft_dec hg.1 hf rfl
    simp only [stp] at hs
    split at hs
    · split at hs
      · rename_i hlt
        split at hs
        · rename_i l2 hl2
          cases hs
          cases xfo_eq hl2
          exact lv_astore_n hx hb hd rfl hl (xblt hlt) rfl fun lsB hlB => K lsB (xl_sub hlB xl_st1)
        · cases hs
      · cases hs
    · cases hs
  case astore k =>
    obtain ⟨hd, rfl, hr⟩ := xft_dec hg.1 hf rfl
    simp only [stp] at hs
    split at hs
    · split at hs
      · rename_i hlt
        split at hs
        · rename_i l2 hl2
          cases hs
          cases xfo_eq hl2
          exact lv_astore hx hb hd hl (xblt hlt) rfl fun lsB hlB => K lsB (xl_sub hlB xl_st1)
        · cases hs
      · cases hs
    · cases hs
  case lstore_n k =>
    obtain ⟨hd, rfl, hr⟩ := xft_dec hg.1 hf rfl
    simp only [stp] at hs
    split at hs
    · split at hs
      · rename_i hlt
        split at hs
        · rename_i l2 hl2
          cases hs
          cases xfo_eq hl2
          exact lv_lstore_n hx hb hd rfl hl (xblt hlt) rfl fun lsB hlB => K lsB (xl_sub hlB xl_st2)
        · cases hs
      · cases hs
    · cases hs
  case lstore k =>
    obtain ⟨hd, rfl, hr⟩ := xft_dec hg.1 hf rfl
    simp only [stp] at hs
    split at hs
    · split at hs
      · rename_i hlt
        split at hs
        · rename_i l2 hl2
          cases hs
          cases xfo_eq hl2
          exact lv_lstore hx hb hd hl (xblt hlt) rfl fun lsB hlB => K lsB (xl_sub hlB xl_st2)
        · cases hs
      · cases hs
    · cases hs
  case iinc kk n =>
    obtain ⟨hd, rfl, hr⟩ := xft_dec hg.1 hf rfl
    simp only [stp] at hs
    split at hs
    · rename_i x hv
      split at hs
      · rename_i hlt
        split at hs
        · rename_i l2 hl2
          cases hs
          cases xfo_eq hl2
          obtain ⟨j, hj⟩ := List.getElem?_of_mem (xl_mem.mpr ⟨_, xget_some hv, rfl⟩ : (kk, xcv al (.int x)) ∈ xl al ls)
          exact lv_iinc (v := x + li) hx hb hd hl hj (by rw [show Int32.ofInt n = li by simpa [xres] using hr]) (xblt hlt) rfl fun lsB hlB => K lsB (xl_sub hlB (xl_st1 (v := .int (x + li))))
        · cases hs
      · cases hs
    · cases hs
  case iadd =>
    obtain ⟨hd, rfl, hr⟩ := xft_dec hg.1 hf rfl
    simp only [stp] at hs
    split at hs
    · cases hs
      exact lv_iadd hx hb hd (K lsA hl)
    · cases hs
  case isub =>
    obtain ⟨hd, rfl, hr⟩ := xft_dec hg.1 hf rfl
    simp only [stp] at hs
    split at hs
    · cases hs
      exact lv_isub hx hb hd (K lsA hl)
    · cases hs
  case imul =>
    obtain ⟨hd, rfl, hr⟩ := xft_dec hg.1 hf rfl
    simp only [stp] at hs
    split at hs
    · cases hs
      exact lv_imul hx hb hd (K lsA hl)
    · cases hs
  case iand =>
    obtain ⟨hd, rfl, hr⟩ := xft_dec hg.1 hf rfl
    simp only [stp] at hs
    split at hs
    · cases hs
      exact lv_iand hx hb hd (K lsA hl)
    · cases hs
  case ior =>
    obtain ⟨hd, rfl, hr⟩ := xft_dec hg.1 hf rfl
    simp only [stp] at hs
    split at hs
    · cases hs
      exact lv_ior hx hb hd (K lsA hl)
    · cases hs
  case ixor =>
    obtain ⟨hd, rfl, hr⟩ := xft_dec hg.1 hf rfl
    simp only [stp] at hs
    split at hs
    · cases hs
      exact lv_ixor hx hb hd (K lsA hl)
    · cases hs
  case ishl =>
    obtain ⟨hd, rfl, hr⟩ := xft_dec hg.1 hf rfl
    simp only [stp] at hs
    split at hs
    · cases hs
      exact lv_ishl hx hb hd (K lsA hl)
    · cases hs
  case ishr =>
    obtain ⟨hd, rfl, hr⟩ := xft_dec hg.1 hf rfl
    simp only [stp] at hs
    split at hs
    · cases hs
      exact lv_ishr hx hb hd (K lsA hl)
    · cases hs
  case ladd =>
    obtain ⟨hd, rfl, hr⟩ := xft_dec hg.1 hf rfl
    simp only [stp] at hs
    split at hs
    · cases hs
      exact lv_ladd hx hb hd (K lsA hl)
    · cases hs
  case lsub =>
    obtain ⟨hd, rfl, hr⟩ := xft_dec hg.1 hf rfl
    simp only [stp] at hs
    split at hs
    · cases hs
      exact lv_lsub hx hb hd (K lsA hl)
    · cases hs
  case lmul =>
    obtain ⟨hd, rfl, hr⟩ := xft_dec hg.1 hf rfl
    simp only [stp] at hs
    split at hs
    · cases hs
      exact lv_lmul hx hb hd (K lsA hl)
    · cases hs
  case land =>
    obtain ⟨hd, rfl, hr⟩ := xft_dec hg.1 hf rfl
    simp only [stp] at hs
    split at hs
    · cases hs
      exact lv_land hx hb hd (K lsA hl)
    · cases hs
  case lor =>
    obtain ⟨hd, rfl, hr⟩ := xft_dec hg.1 hf rfl
    simp only [stp] at hs
    split at hs
    · cases hs
      exact lv_lor hx hb hd (K lsA hl)
    · cases hs
  case lxor =>
    obtain ⟨hd, rfl, hr⟩ := xft_dec hg.1 hf rfl
    simp only [stp] at hs
    split at hs
    · cases hs
      exact lv_lxor hx hb hd (K lsA hl)
    · cases hs
  case iushr =>
    obtain ⟨hd, rfl, hr⟩ := xft_dec hg.1 hf rfl
    simp only [stp] at hs
    split at hs
    · cases hs
      exact lv_iushr hx hb hd rfl (K lsA hl)
    · cases hs
  case lshl =>
    obtain ⟨hd, rfl, hr⟩ := xft_dec hg.1 hf rfl
    simp only [stp] at hs
    split at hs
    · cases hs
      exact lv_lshl hx hb hd rfl (K lsA hl)
    · cases hs
  case lshr =>
    obtain ⟨hd, rfl, hr⟩ := xft_dec hg.1 hf rfl
    simp only [stp] at hs
    split at hs
    · cases hs
      exact lv_lshr hx hb hd rfl (K lsA hl)
    · cases hs
  case ineg =>
    obtain ⟨hd, rfl, hr⟩ := xft_dec hg.1 hf rfl
    simp only [stp] at hs
    split at hs
    · cases hs
      exact lv_ineg hx hb hd (K lsA hl)
    · cases hs
  case lneg =>
    obtain ⟨hd, rfl, hr⟩ := xft_dec hg.1 hf rfl
    simp only [stp] at hs
    split at hs
    · cases hs
      exact lv_lneg hx hb hd (K lsA hl)
    · cases hs
  case i2l =>
    obtain ⟨hd, rfl, hr⟩ := xft_dec hg.1 hf rfl
    simp only [stp] at hs
    split at hs
    · cases hs
      exact lv_i2l hx hb hd rfl (K lsA hl)
    · cases hs
  case i2b =>
    obtain ⟨hd, rfl, hr⟩ := xft_dec hg.1 hf rfl
    simp only [stp] at hs
    split at hs
    · cases hs
      exact lv_i2b hx hb hd rfl (K lsA hl)
    · cases hs
  case i2c =>
    obtain ⟨hd, rfl, hr⟩ := xft_dec hg.1 hf rfl
    simp only [stp] at hs
    split at hs
    · cases hs
      exact lv_i2c hx hb hd rfl (K lsA hl)
    · cases hs
  case lcmp =>
    obtain ⟨hd, rfl, hr⟩ := xft_dec hg.1 hf rfl
    simp only [stp] at hs
    split at hs
    · cases hs
      exact W.lcmp hx hb hd (K lsA hl)
    · cases hs
  case dup =>
    obtain ⟨hd, rfl, hr⟩ := xft_dec hg.1 hf rfl
    simp only [stp] at hs
    split at hs
    · split at hs
      · rename_i hc
        cases hs
        exact lv_dup hx hb hd (by rw [xcv_cat]; exact xc1_cat hc) (K lsA hl)
      · cases hs
    · cases hs
  case pop =>
    obtain ⟨hd, rfl, hr⟩ := xft_dec hg.1 hf rfl
    simp only [stp] at hs
    split at hs
    · split at hs
      · rename_i hc
        cases hs
        exact lv_pop hx hb hd (by rw [xcv_cat]; exact xc1_cat hc) (K lsA hl)
      · cases hs
    · cases hs
  case dup2 =>
    obtain ⟨hd, rfl, hr⟩ := xft_dec hg.1 hf rfl
    simp only [stp] at hs
    split at hs
    · split at hs
      · rename_i hc
        split at hs
        · rename_i hc2
          cases hs
          exact lv_dup2_11 hx hb hd (by rw [xcv_cat]; exact xc1_cat hc) (by rw [xcv_cat]; exact xc1_cat hc2) (K lsA hl)
        · cases hs
      · cases hs
    · cases hs
  case goto off =>
    obtain ⟨hd, rfl, hr⟩ := xft_dec hg.1 hf rfl
    match rs, hs, hr with
    | [t], hs, hr =>
      cases hs
      exact lv_goto hx hb hd (by simpa [xres, xtg] using hr) (K lsA hl)
  case getfield n =>
    obtain ⟨hd, rfl, hr⟩ := xft_dec hg.1 hf rfl
    match rs, hs, hr with
    | [ci, k], hs, hr =>
      simp only [stp] at hs
      split at hs
      · rename_i c r
        split at hs
        · rename_i t n2 hsh
          split at hs
          · rename_i hbe
            split at hs
            · rename_i hbl
              split at hs
              · rename_i v hv
                cases hs
                have e := Nat.eq_of_beq_eq_true hbe
                subst e
                exact x_getW hx hb hown hts hK hW.1 (xsh_get hsh) (xblt hbl) hr hv hd (K lsA hl)
              · cases hs
            · cases hs
          · cases hs
        · cases hs
      · cases hs
  case arraylength =>
    obtain ⟨hd, rfl, hr⟩ := xft_dec hg.1 hf rfl
    simp only [stp] at hs
    split at hs
    · split at hs
      · rename_i hsh
        split at hs
        · rename_i h1
          split at hs
          · rename_i h2
            cases hs
            exact x_alenW hx hb hK hW.1 (xsh_get hsh) (Nat.le_of_ble_eq_true h1) (Nat.le_of_ble_eq_true h2) hd (K lsA hl)
          · cases hs
        · cases hs
      · cases hs
    · cases hs
  all_goals cases hs
end
section
/-! how many parameters each method has -/
def xNP0 : List Nat := [0, 4, 0, 1, 1, 0, 0, 4, 2, 3, 3, 4, 0, 0, 0, 4, 2, 3, 1, 0, 3, 0, 1, 1, 1, 0, 1, 1, 0, 0, 0, 0, 1, 2, 4, 0, 1, 2, 2, 2, 2, 2, 2, 2, 0, 0, 0, 1, 1, 2, 3, 0, 3, 0, 1, 0, 0, 0, 1, 0]
def xNP1 : List Nat := [3, 1, 0, 0, 4, 3, 2, 2, 3, 2, 6, 4, 2, 5, 1, 3, 1, 3, 2, 2, 1, 1, 1, 1, 1, 2, 1, 1, 2, 2, 1, 4, 3, 5, 0, 0, 1, 2, 0, 0, 5, 1, 0, 1, 2, 2, 2, 2, 2, 2, 2, 1, 3, 0, 2, 3, 0, 0, 3, 2]
def xNP2 : List Nat := [3, 3, 3, 0, 0, 1, 2, 3, 5, 3, 2, 2, 1, 1, 2, 4, 2, 1, 0, 1, 1, 0, 0, 1, 1, 1, 1, 2, 2, 2, 1, 2, 2, 2, 2, 1, 2, 1, 3, 2, 4, 2, 3, 3, 4, 4, 0, 0, 2, 3, 2, 2, 1, 5, 1, 1, 1, 1, 0, 6]
def xNP3 : List Nat := [1, 0, 1, 0, 1, 1, 2, 2, 1, 1, 1, 1, 1, 0, 0, 1, 0, 0, 2, 0, 0, 0, 0, 1, 0, 0, 1, 0, 3, 1, 3, 1, 2, 2, 2, 2, 2, 2, 3, 1, 2, 3, 2, 1, 0, 0, 0, 1, 1, 1, 1, 2, 2, 1, 1, 2, 1, 1, 2, 2]
def xNP4 : List Nat := [2, 2, 2, 1, 3, 0, 2, 3, 2, 0, 2, 3, 3, 1, 2, 3, 3, 3, 3, 0, 0, 0, 1, 2, 2, 3, 4, 5, 5, 1, 3, 2, 2, 1, 1, 2, 1, 0, 1, 1, 2, 4, 2, 0, 0, 1, 1, 1, 2, 2, 0, 1, 0, 0, 2, 2, 2, 1, 2, 2]
def xNP5 : List Nat := [2, 3, 3, 3, 4, 4, 4, 4, 4, 4, 3, 5, 4, 5, 5, 4, 5, 5, 5, 3, 4, 5, 7, 5, 4, 4, 3, 3, 4, 6, 4, 3, 3, 3, 1]
def xNp (i : Nat) : Nat := match i / 60 with
  | 0 => xNP0.getD (i % 60) 0
  | 1 => xNP1.getD (i % 60) 0
  | 2 => xNP2.getD (i % 60) 0
  | 3 => xNP3.getD (i % 60) 0
  | 4 => xNP4.getD (i % 60) 0
  | 5 => xNP5.getD (i % 60) 0
  | _ => 0
theorem xNP0_ok : ((List.range 60).all fun k => decide ((parseMethodDescriptor (xY (0 + k)).desc).map (fun d => d.parameters.length) = some (xNp (0 + k)))) = true := by decide +kernel
theorem xNP1_ok : ((List.range 60).all fun k => decide ((parseMethodDescriptor (xY (60 + k)).desc).map (fun d => d.parameters.length) = some (xNp (60 + k)))) = true := by decide +kernel
theorem xNP2_ok : ((List.range 60).all fun k => decide ((parseMethodDescriptor (xY (120 + k)).desc).map (fun d => d.parameters.length) = some (xNp (120 + k)))) = true := by decide +kernel
theorem xNP3_ok : ((List.range 60).all fun k => decide ((parseMethodDescriptor (xY (180 + k)).desc).map (fun d => d.parameters.length) = some (xNp (180 + k)))) = true := by decide +kernel
theorem xNP4_ok : ((List.range 60).all fun k => decide ((parseMethodDescriptor (xY (240 + k)).desc).map (fun d => d.parameters.length) = some (xNp (240 + k)))) = true := by decide +kernel
theorem xNP5_ok : ((List.range 35).all fun k => decide ((parseMethodDescriptor (xY (300 + k)).desc).map (fun d => d.parameters.length) = some (xNp (300 + k)))) = true := by decide +kernel
theorem xNp_ok (i : Nat) (h : i < 335) : (parseMethodDescriptor (xY i).desc).map (fun d => d.parameters.length) = some (xNp i) := by
  rcases (by omega : (0 ≤ i ∧ i < 60) ∨ (60 ≤ i ∧ i < 120) ∨ (120 ≤ i ∧ i < 180) ∨ (180 ≤ i ∧ i < 240) ∨ (240 ≤ i ∧ i < 300) ∨ (300 ≤ i ∧ i < 335)) with h | h | h | h | h | h
  · have h1 := List.all_eq_true.mp xNP0_ok (i - 0) (List.mem_range.mpr (by omega))
    rw [show 0 + (i - 0) = i by omega] at h1
    exact of_decide_eq_true h1
  · have h1 := List.all_eq_true.mp xNP1_ok (i - 60) (List.mem_range.mpr (by omega))
    rw [show 60 + (i - 60) = i by omega] at h1
    exact of_decide_eq_true h1
  · have h1 := List.all_eq_true.mp xNP2_ok (i - 120) (List.mem_range.mpr (by omega))
    rw [show 120 + (i - 120) = i by omega] at h1
    exact of_decide_eq_true h1
  · have h1 := List.all_eq_true.mp xNP3_ok (i - 180) (List.mem_range.mpr (by omega))
    rw [show 180 + (i - 180) = i by omega] at h1
    exact of_decide_eq_true h1
  · have h1 := List.all_eq_true.mp xNP4_ok (i - 240) (List.mem_range.mpr (by omega))
    rw [show 240 + (i - 240) = i by omega] at h1
    exact of_decide_eq_true h1
  · have h1 := List.all_eq_true.mp xNP5_ok (i - 300) (List.mem_range.mpr (by omega))
    rw [show 300 + (i - 300) = i by omega] at h1
    exact of_decide_eq_true h1
/-! BRANCHES -/
def brc (i : Instr) (st : List Value) : Option (Prop × Prop × List Value) := match i with
  | .ifCond .eq _ => (match st with
    | .int x :: r => some (x = 0, ¬ x = 0, r)
    | _ => none)
  | .ifCond .ne _ => (match st with
    | .int x :: r => some (¬ x = 0, x = 0, r)
    | _ => none)
  | .ifCond .lt _ => (match st with
    | .int x :: r => some (x < 0, ¬ x < 0, r)
    | _ => none)
  | .ifCond .ge _ => (match st with
    | .int x :: r => some (0 ≤ x, ¬ 0 ≤ x, r)
    | _ => none)
  | .ifCond .gt _ => (match st with
    | .int x :: r => some (0 < x, ¬ 0 < x, r)
    | _ => none)
  | .ifCond .le _ => (match st with
    | .int x :: r => some (x ≤ 0, ¬ x ≤ 0, r)
    | _ => none)
  | .if_icmp .eq _ => (match st with
    | .int y :: .int x :: r => some (x = y, ¬ x = y, r)
    | _ => none)
  | .if_icmp .ne _ => (match st with
    | .int y :: .int x :: r => some (¬ x = y, x = y, r)
    | _ => none)
  | .if_icmp .lt _ => (match st with
    | .int y :: .int x :: r => some (x < y, ¬ x < y, r)
    | _ => none)
  | .if_icmp .ge _ => (match st with
    | .int y :: .int x :: r => some (y ≤ x, ¬ y ≤ x, r)
    | _ => none)
  | .if_icmp .gt _ => (match st with
    | .int y :: .int x :: r => some (y < x, ¬ y < x, r)
    | _ => none)
  | .if_icmp .le _ => (match st with
    | .int y :: .int x :: r => some (x ≤ y, ¬ x ≤ y, r)
    | _ => none)
  | _ => none
set_option maxHeartbeats 4000000 in
set_option maxRecDepth 100000 in
theorem x_br {M : xM} {fr : Bool} {dp kc ks pc nx tgt : Nat} {i : Instr} {li : Int32} {ll : Int64} {ls : List (Option Value)} {st st' : List Value} {h : xHp} {Q : xPost} {X : Nat → xHp → Prop} {pt pf : Prop}
    (hf : xft M.2.2.2.2.2 pc = some (nx, i, [tgt], li, ll)) (hs : brc i st = some (pt, pf, st')) (kt : pt → Ex M fr dp kc ks tgt ls st' h Q X) (kf : pf → Ex M fr dp kc ks nx ls st' h Q X) : Ex M fr dp kc ks pc ls st h Q X := by
  intro hg p l e R s m args below meth c D ka al A H locs cells slots mc ms lsA C R0 B hW hS hl
  have Kt := fun q => kt q hg p l e R s m args below meth c D ka al A H locs cells slots mc ms lsA C R0 B hW hS hl
  have Kf := fun q => kf q hg p l e R s m args below meth c D ka al A H locs cells slots mc ms lsA C R0 B hW hS hl
  have hx := C.1
  have hb := C.2.1
  cases i
  case ifCond o off =>
    obtain ⟨hd, rfl, hr⟩ := xft_dec hg.1 hf rfl
    have ht : (pc : Int) + off = (tgt : Int) := by simpa [xres, xtg] using hr
    cases o <;> simp only [brc] at hs <;> split at hs <;> cases hs
    all_goals first | exact lv_if_eq hx hb hd ht Kt Kf | exact lv_if_ne hx hb hd ht Kt Kf | exact lv_if_lt hx hb hd ht Kt Kf | exact lv_if_ge hx hb hd ht Kt Kf | exact lv_if_gt hx hb hd ht Kt Kf | exact lv_if_le hx hb hd ht Kt Kf
  case if_icmp o off =>
    obtain ⟨hd, rfl, hr⟩ := xft_dec hg.1 hf rfl
    have ht : (pc : Int) + off = (tgt : Int) := by simpa [xres, xtg] using hr
    cases o <;> simp only [brc] at hs <;> split at hs <;> cases hs
    all_goals first | exact lv_icmp_eq hx hb hd ht Kt Kf | exact lv_icmp_ne hx hb hd ht Kt Kf | exact lv_icmp_lt hx hb hd ht Kt Kf | exact lv_icmp_ge hx hb hd ht Kt Kf | exact lv_icmp_gt hx hb hd ht Kt Kf | exact lv_icmp_le hx hb hd ht Kt Kf
  all_goals cases hs
/-! ARRAYS -/
def xald (i : Instr) (t : Nat) : Bool := match i with
  | .iaload => Nat.beq t 100
  | .baload => Nat.beq t 101 || Nat.beq t 102
  | .laload => Nat.beq t 103
  | .aaload => Nat.beq t 104 || Nat.beq t 105
  | _ => false
def xav (h : xHp) (t c k : Nat) : Option Value := match h with
  | (_, d, L, r) => match t with
    | 100 => some (.int (d c k))
    | 101 => some (.int (d c k))
    | 102 => some (.int (d c k))
    | 103 => some (.long (L c k))
    | _ => match r c k with
      | some x => some (.ref x)
      | none => none
theorem nI_cl {k n : Nat} (hk : k < n) (hn : n < 2147483648) : (nI k).toNatClampNeg = k := nI_clamp (by omega)
theorem nI_vin {k n : Nat} (hk : k < n) (hn : n < 2147483648) : vp_in (nI k) n := vp_in_nI hk (by omega)
theorem xaldA {p : Program} {l : Launch} {e : Env} {R : Room} {s : State} {m : MethodId} {args : Array Value} {below : List Frame} {meth : Method} {c : Code} {H : Heap} {locs : List Loc} {cells slots : Nat} {Q : State → Prop} {cc : ByteArray} {pc : Nat} {ls : Array Slot} {rest : List Value} {D : va_G} {cl : List vw_C} {a : Nat} {tys : List (ClassId × FieldType)} {ws : va_W}
    (hexec : p.tables.exec = Jvm.exec) (hb : c.code = cc) (hK : va_K D cl tys s) (hP : va_P D cl ws H) (q0 t0 : Nat) {cA : ClassId} {ty : FieldType} {n : Nat} {f : Nat → Option Nat} (ha : ws[q0]? = some (a, .inl (cA, n, .inr (.inr (.inr (.inr f)))))) (ht : tys[t0]? = some (cA, .array ty)) {i : Int32} (hin : vp_in i n) (hdg : decode cc pc = .ok (.aaload, 1))
    (kk : W p l e R s m args below meth c H locs cells slots Q (F0 m (pc + 1) ls (va_rf (f i.toNatClampNeg) :: rest))) : W p l e R s m args below meth c H locs cells slots Q (F0 m pc ls (.int i :: .ref a :: rest)) := by
  have hlt : i.toNatClampNeg < n := Nat.not_le.mp fun q => hin (Or.inr q)
  exact W.aald (v := va_rf (f i.toNatClampNeg)) (ty := .array ty) hexec hb (hP q0 _ ha) ((hK.2 t0 _ ht).1 n (fun j => va_rf (f j))) rfl (fun q => by cases q) (by show ¬ (i < 0 ∨ (arrV _ _ _).slots.size ≤ _); rw [arrV_size]; exact hin) (by show (arrV _ _ _).slots[_]? = _; rw [arrV_read _ _ hlt]) rfl rfl hdg kk
set_option maxHeartbeats 4000000 in
set_option maxRecDepth 100000 in
/-- a place of an array is read -/
theorem x_ald {M : xM} {fr : Bool} {dp kc ks pc nx : Nat} {i : Instr} {rs : List Nat} {li : Int32} {ll : Int64} {ls : List (Option Value)} {st : List Value} {h : xHp} {Q : xPost} {X : Nat → xHp → Prop} {cl t n k : Nat} {iv : Int32} {v : Value}
    (hf : xft M.2.2.2.2.2 pc = some (nx, i, rs, li, ll)) (hsh : xsh h.1 cl = some (t, n)) (hs : xald i t = true) (hi : iv = nI k) (hk : k < n) (hn : n < 2147483648) (hv : xav h t cl k = some v) (kk : Ex M fr dp kc ks nx ls (v :: st) h Q X) : Ex M fr dp kc ks pc ls (.int iv :: .ref cl :: st) h Q X := by
  intro hg p l e R s m args below meth c D ka al A H locs cells slots mc ms lsA C R0 B hW hS hl
  have K := kk hg p l e R s m args below meth c D ka al A H locs cells slots mc ms lsA C R0 B hW hS hl
  have hx := C.1
  have hb := C.2.1
  have hK := C.2.2.2.2.2.2.2.1
  subst hi
  have hcl := nI_cl hk hn
  have hin := nI_vin hk hn
  have hw := xws_get (ka := ka) (al := al) (xsh_get hsh)
  obtain ⟨sh, d, L, r⟩ := h
  cases i
  case iaload =>
    obtain ⟨hd, rfl, hr⟩ := xft_dec hg.1 hf rfl
    have e := Nat.eq_of_beq_eq_true hs
    subst e
    cases hv
    refine va_iald (f := d cl) hx hb hK hW.1 cl 0 hw rfl hin hd ?_
    rw [hcl]
    exact K
  case laload =>
    obtain ⟨hd, rfl, hr⟩ := xft_dec hg.1 hf rfl
    have e := Nat.eq_of_beq_eq_true hs
    subst e
    cases hv
    refine va_lald (f := L cl) hx hb hK hW.1 cl 3 hw rfl hin hd ?_
    rw [hcl]
    exact K
  case baload =>
    obtain ⟨hd, rfl, hr⟩ := xft_dec hg.1 hf rfl
    rcases (Bool.or_eq_true _ _).mp hs with hs | hs
    · have e := Nat.eq_of_beq_eq_true hs
      subst e
      cases hv
      refine va_bald (f := d cl) hx hb hK hW.1 cl 1 hw rfl hin hd ?_
      rw [hcl]
      exact K
    · have e := Nat.eq_of_beq_eq_true hs
      subst e
      cases hv
      refine va_zald (f := d cl) hx hb hK hW.1 cl 2 hw rfl hin hd ?_
      rw [hcl]
      exact K
  case aaload =>
    obtain ⟨hd, rfl, hr⟩ := xft_dec hg.1 hf rfl
    rcases (Bool.or_eq_true _ _).mp hs with hs | hs
    · have e := Nat.eq_of_beq_eq_true hs
      subst e
      refine xaldA (ty := .int) (f := fun j => (r cl j).map al) hx hb hK hW.1 cl 4 hw rfl hin hd ?_
      rw [hcl]
      simp only [xav] at hv
      split at hv
      · rename_i x hx9
        cases hv
        rw [hx9]
        exact K
      · cases hv
    · have e := Nat.eq_of_beq_eq_true hs
      subst e
      refine va_aldq (C := RX10) (f := fun j => (r cl j).map al) hx hb hK hW.1 cl 5 hw rfl hin hd ?_
      rw [hcl]
      simp only [xav] at hv
      split at hv
      · rename_i x hx9
        cases hv
        rw [hx9]
        exact K
      · cases hv
  all_goals cases hs
theorem xfr_of {fr : Bool} {al : Nat → Nat} {h h' : xHp} {H H' : Heap} (e : h'.1 = h.1) (hs : H'.size = H.size) (hf : xfr fr al h H) : xfr fr al h' H' := by
  intro q i h1 h2
  rw [e] at h1
  rw [e, hs]
  exact hf q i h1 h2
/-- the next world, where one cell was written -/
theorem xWd_set {fr : Bool} {D : va_G} {ka : Nat → ClassId} {al : Nat → Nat} {A : Nat → Prop} {h h' : xHp} {H H' : Heap} {cl t n : Nat} {x : va_E} (e1 : h'.1 = h.1) (hc : h.1[cl]? = some (t, n)) (he : ∀ c', c' ≠ cl → ∀ t n, xcell ka al h' c' t n = xcell ka al h c' t n) (hx : xcell ka al h' cl t n = x) (hP : va_P D vwCl ((xws ka al h).set cl (al cl, x)) H') (hD : va_D A ((xws ka al h).set cl (al cl, x))) (hf : xfr fr al h H) (hs : H'.size = H.size) : xWd fr D ka al A h' H' := by
  have e := xws_set (ka := ka) (al := al) e1 hc he
  rw [hx] at e
  refine ⟨by rw [e]; exact hP, by rw [e]; exact hD, xfr_of e1 hs hf⟩
end
section
/-! STORES -/
section XST
variable {p : Program} {l : Launch} {e : Env} {R : Room} {s : State} {m : MethodId} {args : Array Value} {below : List Frame} {meth : Method} {c : Code} {H : Heap} {locs : List Loc} {cells slots : Nat} {Q : State → Prop}
variable {cc : ByteArray} {pc : Nat} {ls : Array Slot} {rest : List Value} {D : va_G} {cl : List vw_C} {A : Nat → Prop} {a : Nat} {tys : List (ClassId × FieldType)} {ws : va_W} {H0 : Heap}
theorem xs_iast (hexec : p.tables.exec = Jvm.exec) (hb : c.code = cc) (hK : va_K D cl tys s) (hP : va_P D cl ws H) (hD : va_D A ws) (hS : va_S A H0 H locs) (q0 t0 : Nat) {cA : ClassId} {n : Nat} {f : Nat → Int32} (ha : ws[q0]? = some (a, .inl (cA, n, .inl f))) (ht : tys[t0]? = some (cA, .int)) {i : Int32} {x : Int32} (hin : vp_in i n) (hdg : decode cc pc = .ok (.iastore, 1))
    (kk : ∀ (H1 : Heap) (locs1 : List Loc), va_P D cl (ws.set q0 (a, .inl (cA, n, .inl (upd f i.toNatClampNeg x)))) H1 → va_D A (ws.set q0 (a, .inl (cA, n, .inl (upd f i.toNatClampNeg x)))) → va_S A H0 H1 locs1 → H1.size = H.size → W p l e R s m args below meth c H1 locs1 cells slots Q (F0 m (pc + 1) ls rest)) : W p l e R s m args below meth c H locs cells slots Q (F0 m pc ls (.int x :: .int i :: .ref a :: rest)) := by
  refine W.iast hexec hb (hP q0 _ ha) ((hK.2 t0 _ ht).1 n (fun j => .int (f j))) (fun q => by cases q) (by show ¬ (i < 0 ∨ (arrV _ _ _).slots.size ≤ _); rw [arrV_size]; exact hin) rfl rfl hdg fun H1 e z oq => ?_
  refine kk H1 _ (hP.set hD ha ?_ oq) (hD.set ha) (hS.put z oq (hD.2 q0 _ ha)) z
  show H1[a]? = some (vp_cell _ _)
  rw [e]
  rw [vp_cell_i, vp_cell_i, arrV_store]
  congr 2
  funext q
  by_cases hq : q = i.toNatClampNeg
  · subst hq
    simp [updV, upd]
  · simp [updV, upd, hq]
theorem xs_put (hexec : p.tables.exec = Jvm.exec) (hb : c.code = cc) {own ref C : String} {T : u_T} {N ci index : Nat} {Ts : List Cond} (hts : ∀ w ∈ Ts, w.before args s = true) (hin : ∀ w ∈ u_ws C T N, w ∈ Ts) (ty0 : Nat → FieldType) (hty : ∀ k, k < N → parseFieldDescriptor (T k).2.2.1 = some (ty0 k)) (hnm : ∀ a, a < N → ∀ b, b < N → a ≠ b → (T a).2.1 ≠ (T b).2.1) (hown : s.vm.findClass own = some m.cls) (hK : va_K D cl tys s) (hP : va_P D cl ws H) (hD : va_D A ws) (hS0 : va_S A H0 H locs) (q0 : Nat) {fs : List Value} (he : ws[q0]? = some (a, .inr (ci, fs))) (hc : cl[ci]? = some (C, T, N)) (k : Nat) (hk : k < N) (hlink : (Cond.fieldLink own index ref (T k).2.1 (T k).2.2.1).before args s = true) (hsame : ∀ x, s.fieldFound? (T k).1 (T k).2.1 (T k).2.2.1 = some x → s.fieldFound? ref (T k).2.1 (T k).2.2.1 = some x) (hfin : (T k).2.2.2 = false ∨ (meth.name = "<init>" ∧ (T k).1 = own)) {ty : FieldType} {v : Value} (hd : parseFieldDescriptor (T k).2.2.1 = some ty) (hn : narrow ty v = v) (hfit : fits ty v = true) (hl : k < fs.length)
    (hdg : decode cc pc = .ok (.putfield index, 3)) (kk : ∀ (H1 : Heap) (locs1 : List Loc), va_P D cl (ws.set q0 (a, .inr (ci, fs.set k v))) H1 → va_D A (ws.set q0 (a, .inr (ci, fs.set k v))) → va_S A H0 H1 locs1 → H1.size = H.size → W p l e R s m args below meth c H1 locs1 cells slots Q (F0 m (pc + 3) ls rest)) : W p l e R s m args below meth c H locs cells slots Q (F0 m pc ls (v :: .ref a :: rest)) := by
  have hap := va_apart (own := own) hts hin ty0 hty hnm hK hc
  obtain ⟨r, h1, cell, q1, q2, q3, q4⟩ := hP q0 _ he
  have hr : r = (C, T, N) := Option.some.inj (h1.symm.trans hc)
  subst hr
  obtain ⟨hS, hfc, kC, hkC, hkind⟩ := hK.1 ci _ hc
  obtain ⟨cf, kf, fi, f, hi, hsl⟩ := hS k hk
  have hlay := hts _ (hin _ (u_in_lay hk))
  unfold u_lay at hlay
  have hst := (u_facts hfc hkC (u_lays hts hin hk) hi).1
  cases hff : (T k).2.2.2 with
  | false =>
    rw [if_neg (by rw [hff]; decide)] at hlay
    have h6 := u_store hfc hkC hkind hlay hi hd hn hfit
    refine W.putK hexec hb (f := f) ⟨hown, hlink, ⟨_, _, _, hsame _ hi⟩, hst⟩ (by rw [q2]; exact h6) q1 q3 (by rw [hsl]; exact k2_hasslot (q4 k hk)) rfl rfl hdg fun H' e1 e2 e3 => ?_
    rw [hsl] at e1 ⊢
    exact kk H' _ (hP.set hD he ⟨_, hc, t_OB.to (V := updV (vp_V fs) k v) ⟨_, e1, q2, q3, t_set q4 hap hk v⟩ (fun j _ => vp_updV_set hl v j)⟩ e3) (hD.set he) (hS0.put e2 e3 (hD.2 q0 _ he)) e2
  | true =>
    rw [if_pos hff] at hlay
    rcases hfin with hz | ⟨hin2, hdecl⟩
    · rw [hff] at hz; cases hz
    · have hcf : m.cls = cf := by
        obtain ⟨_, _, c', _, _, _, -, -, hf', -, -, -, hown2, -⟩ := Cond.laysFinal_spec hlay
        have e1 : c' = cf := by have := hi.symm.trans hf'; simp at this; exact this.1.symm
        rw [hdecl] at hown2
        rw [← e1]; exact Option.some.inj (hown.symm.trans hown2)
      have h6 := u_fits hfc hkC hkind (Or.inr hlay) hi hd hn hfit
      refine W.putFinK hexec hb hown hlink (hsame _ hi) hst hcf hin2 (by rw [q2]; exact h6) q1 q3 (by rw [hsl]; exact k2_hasslot (q4 k hk)) rfl rfl hdg fun H' e1 e2 e3 => ?_
      rw [hsl] at e1 ⊢
      exact kk H' _ (hP.set hD he ⟨_, hc, t_OB.to (V := updV (vp_V fs) k v) ⟨_, e1, q2, q3, t_set q4 hap hk v⟩ (fun j _ => vp_updV_set hl v j)⟩ e3) (hD.set he) (hS0.put e2 e3 (hD.2 q0 _ he)) e2
end XST
theorem upd_up2 {d : Nat → Nat → Int32} {c k : Nat} {v : Int32} : up2 d c k v c = upd (d c) k v := by
  funext j
  by_cases hj : j = k
  · simp [up2, upd, hj]
  · simp [up2, upd, hj]
theorem updL_up2 {d : Nat → Nat → Int64} {c k : Nat} {v : Int64} : up2 d c k v c = vp_updL (d c) k v := by
  funext j
  by_cases hj : j = k
  · simp [up2, vp_updL, hj]
  · simp [up2, vp_updL, hj]
def xqI (h : xHp) (c k : Nat) (x : Int32) : Option xHp := match h with
  | (sh, d, L, r) => some (sh, up2 d c k x, L, r)
def xqL (h : xHp) (c k : Nat) (x : Int64) : Option xHp := match h with
  | (sh, d, L, r) => some (sh, d, up2 L c k x, r)
theorem xqI_eq {h h' : xHp} {c k : Nat} {x : Int32} (e : xqI h c k x = some h') : h' = xpI h c k x := by
  obtain ⟨sh, d, L, r⟩ := h
  exact (Option.some.inj e).symm
theorem xqL_eq {h h' : xHp} {c k : Nat} {x : Int64} (e : xqL h c k x = some h') : h' = xpL h c k x := by
  obtain ⟨sh, d, L, r⟩ := h
  exact (Option.some.inj e).symm
set_option maxHeartbeats 4000000 in
/-- a place of an int array is written -/
theorem x_iast {M : xM} {fr : Bool} {dp kc ks pc nx : Nat} {rs : List Nat} {li : Int32} {ll : Int64} {ls : List (Option Value)} {st : List Value} {h h' : xHp} {Q : xPost} {X : Nat → xHp → Prop} {cl n k : Nat} {iv x : Int32}
    (hf : xft M.2.2.2.2.2 pc = some (nx, .iastore, rs, li, ll)) (hsh : xsh h.1 cl = some (100, n)) (hi : iv = nI k) (hk : k < n) (hn : n < 2147483648) (hq : xqI h cl k x = some h') (kk : Ex M fr dp kc ks nx ls st h' Q X) : Ex M fr dp kc ks pc ls (.int x :: .int iv :: .ref cl :: st) h Q X := by
  intro hg p l e R s m args below meth c D ka al A H locs cells slots mc ms lsA C R0 B hW hS hl
  cases xqI_eq hq
  subst hi
  obtain ⟨hd, rfl, hr⟩ := xft_dec hg.1 hf rfl
  have hc := xsh_get hsh
  refine xs_iast (f := h.2.1 cl) C.1 C.2.1 C.2.2.2.2.2.2.2.1 hW.1 hW.2.1 hS cl 0 (xws_get hc) rfl (nI_vin hk hn) hd fun H1 locs1 hP1 hD1 hS1 hz => ?_
  rw [nI_cl hk hn] at hP1 hD1
  exact kk hg p l e R s m args below meth c D ka al A H1 locs1 cells slots mc ms lsA C R0 B (xWd_set (h := h) rfl hc (fun _ hne _ _ => xcell_I hne) (by show Sum.inl (ka 100, n, Sum.inl (up2 h.2.1 cl k x cl)) = _; rw [upd_up2]) hP1 hD1 hW.2.2 hz) hS1 hl
set_option maxHeartbeats 4000000 in
/-- a place of a byte or boolean array is written -/
theorem x_bast {M : xM} {dp kc ks pc nx : Nat} {rs : List Nat} {li : Int32} {ll : Int64} {ls : List (Option Value)} {st : List Value} {h h' : xHp} {Q : xPost} {X : Nat → xHp → Prop} {cl n k : Nat} {iv x : Int32}
    (hf : xft M.2.2.2.2.2 pc = some (nx, .bastore, rs, li, ll)) (hsh : xsh h.1 cl = some (101, n)) (hi : iv = nI k) (hk : k < n) (hn : n < 2147483648) (hq : xqI h cl k x.toInt8.toInt32 = some h') (kk : Ex M false dp kc ks nx ls st h' Q X) : Ex M false dp kc ks pc ls (.int x :: .int iv :: .ref cl :: st) h Q X := by
  intro hg p l e R s m args below meth c D ka al A H locs cells slots mc ms lsA C R0 B hW hS hl
  cases xqI_eq hq
  subst hi
  obtain ⟨hd, rfl, hr⟩ := xft_dec hg.1 hf rfl
  have hc := xsh_get hsh
  refine va_bast (f := h.2.1 cl) C.1 C.2.1 C.2.2.2.2.2.2.2.1 hW.1 hW.2.1 hS cl 1 (xws_get hc) rfl (nI_vin hk hn) hd fun H1 locs1 hP1 hD1 hS1 => ?_
  rw [nI_cl hk hn, vp_nar_byte] at hP1 hD1
  have ew := xws_set (ka := ka) (al := al) (h := h) (h' := xpI h cl k x.toInt8.toInt32) rfl hc (fun _ hne _ _ => xcell_I hne)
  rw [show xcell ka al (xpI h cl k x.toInt8.toInt32) cl 101 n = Sum.inl (ka 101, n, Sum.inl (upd (h.2.1 cl) k x.toInt8.toInt32)) by show Sum.inl (ka 101, n, Sum.inl (up2 h.2.1 cl k x.toInt8.toInt32 cl)) = _; rw [upd_up2]] at ew
  exact kk hg p l e R s m args below meth c D ka al A H1 locs1 cells slots mc ms lsA C R0 B ⟨by rw [ew]; exact hP1, by rw [ew]; exact hD1, fun q => by cases q⟩ hS1 hl
set_option maxHeartbeats 4000000 in
theorem x_zast {M : xM} {dp kc ks pc nx : Nat} {rs : List Nat} {li : Int32} {ll : Int64} {ls : List (Option Value)} {st : List Value} {h h' : xHp} {Q : xPost} {X : Nat → xHp → Prop} {cl n k : Nat} {iv x : Int32}
    (hf : xft M.2.2.2.2.2 pc = some (nx, .bastore, rs, li, ll)) (hsh : xsh h.1 cl = some (102, n)) (hi : iv = nI k) (hk : k < n) (hn : n < 2147483648) (hq : xqI h cl k (vp_nar .boolean x) = some h') (kk : Ex M false dp kc ks nx ls st h' Q X) : Ex M false dp kc ks pc ls (.int x :: .int iv :: .ref cl :: st) h Q X := by
  intro hg p l e R s m args below meth c D ka al A H locs cells slots mc ms lsA C R0 B hW hS hl
  cases xqI_eq hq
  subst hi
  obtain ⟨hd, rfl, hr⟩ := xft_dec hg.1 hf rfl
  have hc := xsh_get hsh
  refine va_zast (f := h.2.1 cl) C.1 C.2.1 C.2.2.2.2.2.2.2.1 hW.1 hW.2.1 hS cl 2 (xws_get hc) rfl (nI_vin hk hn) hd fun H1 locs1 hP1 hD1 hS1 => ?_
  rw [nI_cl hk hn] at hP1 hD1
  have ew := xws_set (ka := ka) (al := al) (h := h) (h' := xpI h cl k (vp_nar .boolean x)) rfl hc (fun _ hne _ _ => xcell_I hne)
  rw [show xcell ka al (xpI h cl k (vp_nar .boolean x)) cl 102 n = Sum.inl (ka 102, n, Sum.inl (upd (h.2.1 cl) k (vp_nar .boolean x))) by show Sum.inl (ka 102, n, Sum.inl (up2 h.2.1 cl k (vp_nar .boolean x) cl)) = _; rw [upd_up2]] at ew
  exact kk hg p l e R s m args below meth c D ka al A H1 locs1 cells slots mc ms lsA C R0 B ⟨by rw [ew]; exact hP1, by rw [ew]; exact hD1, fun q => by cases q⟩ hS1 hl
set_option maxHeartbeats 4000000 in
/-- a place of a long array is written -/
theorem x_last {M : xM} {dp kc ks pc nx : Nat} {rs : List Nat} {li : Int32} {ll : Int64} {ls : List (Option Value)} {st : List Value} {h h' : xHp} {Q : xPost} {X : Nat → xHp → Prop} {cl n k : Nat} {iv : Int32} {x : Int64}
    (hf : xft M.2.2.2.2.2 pc = some (nx, .lastore, rs, li, ll)) (hsh : xsh h.1 cl = some (103, n)) (hi : iv = nI k) (hk : k < n) (hn : n < 2147483648) (hq : xqL h cl k x = some h') (kk : Ex M false dp kc ks nx ls st h' Q X) : Ex M false dp kc ks pc ls (.long x :: .int iv :: .ref cl :: st) h Q X := by
  intro hg p l e R s m args below meth c D ka al A H locs cells slots mc ms lsA C R0 B hW hS hl
  cases xqL_eq hq
  subst hi
  obtain ⟨hd, rfl, hr⟩ := xft_dec hg.1 hf rfl
  have hc := xsh_get hsh
  refine va_last (f := h.2.2.1 cl) C.1 C.2.1 C.2.2.2.2.2.2.2.1 hW.1 hW.2.1 hS cl 3 (xws_get hc) rfl (nI_vin hk hn) hd fun H1 locs1 hP1 hD1 hS1 => ?_
  rw [nI_cl hk hn] at hP1 hD1
  have ew := xws_set (ka := ka) (al := al) (h := h) (h' := xpL h cl k x) rfl hc (fun _ hne _ _ => xcell_L hne)
  rw [show xcell ka al (xpL h cl k x) cl 103 n = Sum.inl (ka 103, n, Sum.inr (Sum.inl (vp_updL (h.2.2.1 cl) k x))) by show Sum.inl (ka 103, n, Sum.inr (Sum.inl (up2 h.2.2.1 cl k x cl))) = _; rw [updL_up2]] at ew
  exact kk hg p l e R s m args below meth c D ka al A H1 locs1 cells slots mc ms lsA C R0 B ⟨by rw [ew]; exact hP1, by rw [ew]; exact hD1, fun q => by cases q⟩ hS1 hl
/-! FIELDS -/
theorem xty_ok : ∀ ci, ci < 13 → ∀ k, k < xNf ci → parseFieldDescriptor (xT ci k).2.2.1 = some (xty ci k) := by
  intro ci h
  rcases (by omega : ci = 0 ∨ ci = 1 ∨ ci = 2 ∨ ci = 3 ∨ ci = 4 ∨ ci = 5 ∨ ci = 6 ∨ ci = 7 ∨ ci = 8 ∨ ci = 9 ∨ ci = 10 ∨ ci = 11 ∨ ci = 12) with rfl | rfl | rfl | rfl | rfl | rfl | rfl | rfl | rfl | rfl | rfl | rfl | rfl
  · exact tyX0_ok
  · exact tyX1_ok
  · exact tyX2_ok
  · exact tyX3_ok
  · exact tyX4_ok
  · exact tyX5_ok
  · exact tyX6_ok
  · exact tyX7_ok
  · exact tyX8_ok
  · exact tyX9_ok
  · exact tyX10_ok
  · exact tyX11_ok
  · exact tyX12_ok
theorem xnm_ok : ∀ ci, ci < 13 → ∀ a, a < xNf ci → ∀ b, b < xNf ci → a ≠ b → (xT ci a).2.1 ≠ (xT ci b).2.1 := by
  intro ci h
  rcases (by omega : ci = 0 ∨ ci = 1 ∨ ci = 2 ∨ ci = 3 ∨ ci = 4 ∨ ci = 5 ∨ ci = 6 ∨ ci = 7 ∨ ci = 8 ∨ ci = 9 ∨ ci = 10 ∨ ci = 11 ∨ ci = 12) with rfl | rfl | rfl | rfl | rfl | rfl | rfl | rfl | rfl | rfl | rfl | rfl | rfl
  · exact nmX0
  · exact nmX1
  · exact nmX2
  · exact nmX3
  · exact nmX4
  · exact nmX5
  · exact nmX6
  · exact nmX7
  · exact nmX8
  · exact nmX9
  · exact nmX10
  · exact nmX11
  · exact nmX12
/-- what a field's store makes of the world -/
def xpv (h : xHp) (c ci k : Nat) (v : Value) : Option xHp := match h with
  | (sh, d, L, r) => match xkd (xty ci k) with
    | 0 => (match v with
      | .int x => some (sh, up2 d c k x, L, r)
      | _ => none)
    | 3 => (match v with
      | .int x => some (sh, up2 d c k x, L, r)
      | _ => none)
    | 2 => (match v with
      | .long x => some (sh, d, up2 L c k x, r)
      | _ => none)
    | _ => (match v with
      | .ref x => some (sh, d, L, up2 r c k (some x))
      | _ => none)
/-- what fits: for a boolean 0 or 1 -/
def xfit (ci k : Nat) (v : Value) : Prop := narrow (xty ci k) v = v ∧ fits (xty ci k) v = true
theorem xfv_at {al : Nat → Nat} {h h' : xHp} {c ci k j : Nat} (h1 : h'.2.1 c j = h.2.1 c j) (h2 : h'.2.2.1 c j = h.2.2.1 c j) (h3 : h'.2.2.2 c j = h.2.2.2 c j) : xfv al h' c ci j = xfv al h c ci j := by
  unfold xfv
  rw [h1, h2, h3]
theorem xkd_cases (ty : FieldType) : xkd ty = 0 ∨ xkd ty = 3 ∨ xkd ty = 2 ∨ xkd ty = 1 := by
  unfold xkd
  split <;> simp
theorem xpv_ok {al : Nat → Nat} {h h' : xHp} {c ci k : Nat} {v : Value} (hv : xpv h c ci k v = some h') : h'.1 = h.1 ∧ (∀ c', c' ≠ c → h'.2.1 c' = h.2.1 c' ∧ h'.2.2.1 c' = h.2.2.1 c' ∧ h'.2.2.2 c' = h.2.2.2 c') ∧ xfv al h' c ci k = xcv al v ∧ ∀ j, j ≠ k → xfv al h' c ci j = xfv al h c ci j := by
  obtain ⟨sh, d, L, r⟩ := h
  simp only [xpv] at hv
  rcases xkd_cases (xty ci k) with e | e | e | e
  · rw [e] at hv
    simp only at hv
    split at hv
    · cases hv
      exact ⟨rfl, fun c' hc => ⟨up2_ne hc, rfl, rfl⟩, by unfold xfv; rw [e]; simp [up2_eq, xcv], fun j hj => xfv_at (k := k) (up2_k hj) rfl rfl⟩
    · cases hv
  · rw [e] at hv
    simp only at hv
    split at hv
    · cases hv
      exact ⟨rfl, fun c' hc => ⟨up2_ne hc, rfl, rfl⟩, by unfold xfv; rw [e]; simp [up2_eq, xcv], fun j hj => xfv_at (k := k) (up2_k hj) rfl rfl⟩
    · cases hv
  · rw [e] at hv
    simp only at hv
    split at hv
    · cases hv
      exact ⟨rfl, fun c' hc => ⟨rfl, up2_ne hc, rfl⟩, by unfold xfv; rw [e]; simp [up2_eq, xcv], fun j hj => xfv_at (k := k) rfl (up2_k hj) rfl⟩
    · cases hv
  · rw [e] at hv
    simp only at hv
    split at hv
    · cases hv
      exact ⟨rfl, fun c' hc => ⟨rfl, rfl, up2_ne hc⟩, by unfold xfv; rw [e]; simp [up2_eq, xcv, va_rf], fun j hj => xfv_at (k := k) rfl rfl (up2_k hj)⟩
    · cases hv
theorem xcv_fit {al : Nat → Nat} {ty : FieldType} {v : Value} (h : narrow ty v = v ∧ fits ty v = true) : narrow ty (xcv al v) = xcv al v ∧ fits ty (xcv al v) = true := by
  cases v
  case ref i =>
    refine ⟨?_, ?_⟩
    · cases ty <;> rfl
    · have := h.2
      cases ty <;> first | exact this | rfl
  all_goals exact h
set_option maxHeartbeats 4000000 in
/-- a field is written -/
theorem x_put {M : xM} {fr : Bool} {dp kc ks pc nx : Nat} {i ci k n cl : Nat} {li : Int32} {ll : Int64} {ls : List (Option Value)} {st : List Value} {h h' : xHp} {Q : xPost} {X : Nat → xHp → Prop} {v : Value}
    (hf : xft M.2.2.2.2.2 pc = some (nx, .putfield i, [ci, k], li, ll)) (hsh : xsh h.1 cl = some (ci, n)) (hn : k < n) (hv : xpv h cl ci k v = some h') (hfit : xfit ci k v) (hfin : (xT ci k).2.2.2 = false ∨ ((xY M.1).name = "<init>" ∧ (xT ci k).1 = xOwn M.2.1)) (kk : Ex M fr dp kc ks nx ls st h' Q X) : Ex M fr dp kc ks pc ls (v :: .ref cl :: st) h Q X := by
  intro hg p l e R s m args below meth c D ka al A H locs cells slots mc ms lsA C R0 B hW hS hl
  obtain ⟨hd, rfl, hr⟩ := xft_dec hg.1 hf rfl
  have hc := xsh_get hsh
  obtain ⟨h1, h2, h3⟩ := xfld (Or.inr hr)
  obtain ⟨T, hT1, hT2⟩ := xvw h1
  subst hT2
  obtain ⟨f1, f2, f3, f4⟩ := xpv_ok (al := al) hv
  have hw := xws_get (ka := ka) (al := al) hc
  rw [xcell_obj (by omega)] at hw
  have hq := xcv_fit (al := al) hfit
  refine xs_put (C := xOwn ci) (T := xT ci) (N := xNf ci) (ref := (xT ci k).1) C.1 C.2.1 C.2.2.2.2.2.1 (xws_lays ci h1) (xty ci) (xty_ok ci h1) (xnm_ok ci h1) C.2.2.2.2.1 C.2.2.2.2.2.2.2.1 hW.1 hW.2.1 hS cl hw hT1 k h2 (C.2.2.2.2.2.1 _ h3) (fun _ h9 => h9) (hfin.elim Or.inl fun z => Or.inr ⟨C.2.2.2.2.2.2.2.2.2.2.2.1.trans z.1, z.2⟩) (xty_ok ci h1 k h2) hq.1 hq.2 (by simpa using hn) hd fun H1 locs1 hP1 hD1 hS1 hz => ?_
  refine kk hg p l e R s m args below meth c D ka al A H1 locs1 cells slots mc ms lsA C R0 B (xWd_set f1 hc (fun c' hne t n => xcell_cong (f2 c' hne).1 (f2 c' hne).2.1 (f2 c' hne).2.2) ?_ hP1 hD1 hW.2.2 hz) hS1 hl
  rw [xcell_obj (by omega)]
  congr 2
  apply List.ext_getElem?
  intro j
  by_cases hj : j = k
  · subst hj
    rw [List.getElem?_set_self (by simpa using hn)]
    simp [hn, f3]
  · rw [List.getElem?_set_ne (Ne.symm hj)]
    by_cases hjn : j < n
    · simp [hjn, f4 j hj]
    · simp [hjn]
end
section
/-! RETURNS -/
section XR
variable {M : xM} {fr : Bool} {dp kc ks pc nx : Nat} {rs : List Nat} {li : Int32} {ll : Int64} {ls : List (Option Value)} {h : xHp} {Q : xPost} {X : Nat → xHp → Prop}
theorem x_iret {v : Int32} {ty : FieldType} (hf : xft M.2.2.2.2.2 pc = some (nx, .ireturn, rs, li, ll)) (hr : M.2.2.2.2.1 = some ty) (hn : narrow ty (.int v) = .int v) (hq : Q (some (.int v)) h) : Ex M fr dp kc ks pc ls [.int v] h Q X := by
  intro hg p l e R s m args below meth c D ka al A H locs cells slots mc ms lsA C R0 B hW hS hl
  obtain ⟨hd, rfl, -⟩ := xft_dec hg.1 hf rfl
  have hlk := C.2.2.2.2.2.2.1
  refine W.widen (k := mc) (n := ms) (by omega) (by omega) (vx_ret ?_)
  exact W.zret C.1 C.2.1 (C.2.2.1.trans hr) hn (fun t ht hWm => ⟨⟨some (.int v), h, rfl, hq, by rw [ht]; exact hW, va_K.moved hWm.alike C.2.2.2.2.2.2.2.1⟩, hS.F ht⟩) hS.2.2 hd hlk
theorem x_vret (hf : xft M.2.2.2.2.2 pc = some (nx, .return_, rs, li, ll)) (hr : M.2.2.2.2.1 = none) (hq : Q none h) : Ex M fr dp kc ks pc ls [] h Q X := by
  intro hg p l e R s m args below meth c D ka al A H locs cells slots mc ms lsA C R0 B hW hS hl
  obtain ⟨hd, rfl, -⟩ := xft_dec hg.1 hf rfl
  have hlk := C.2.2.2.2.2.2.1
  refine W.widen (k := mc) (n := ms) (by omega) (by omega) (vx_ret ?_)
  exact W.vret C.1 C.2.1 (C.2.2.1.trans hr) (fun t ht hWm => ⟨⟨none, h, rfl, hq, by rw [ht]; exact hW, va_K.moved hWm.alike C.2.2.2.2.2.2.2.1⟩, hS.F ht⟩) hS.2.2 hd hlk
theorem x_lret {v : Int64} (hf : xft M.2.2.2.2.2 pc = some (nx, .lreturn, rs, li, ll)) (hr : M.2.2.2.2.1 = some .long) (hq : Q (some (.long v)) h) : Ex M fr dp kc ks pc ls [.long v] h Q X := by
  intro hg p l e R s m args below meth c D ka al A H locs cells slots mc ms lsA C R0 B hW hS hl
  obtain ⟨hd, rfl, -⟩ := xft_dec hg.1 hf rfl
  have hlk := C.2.2.2.2.2.2.1
  refine W.widen (k := mc) (n := ms) (by omega) (by omega) (vx_ret ?_)
  exact W.lret C.1 C.2.1 (C.2.2.1.trans hr) (fun t ht hWm => ⟨⟨some (.long v), h, rfl, hq, by rw [ht]; exact hW, va_K.moved hWm.alike C.2.2.2.2.2.2.2.1⟩, hS.F ht⟩) hS.2.2 hd hlk
end XR
/-! CONTRACTS: a method, called with these values in this world, returns with Q (and, Cx, may throw with X) -/
def xPc (fr : Bool) (D : va_G) (ka : Nat → ClassId) (al : Nat → Nat) (av : List Value) (h : xHp) (sz : Nat) : Array Value → State → Prop :=
  va_Pc (av.map (xcv al)) fun U => U.heap.size = sz ∧ xWd fr D ka al (va_A (xws ka al h) sz) h U.heap ∧ va_K D vwCl (xtys ka) U ∧ xFx al (va_A (xws ka al h) sz) U U.heap
def Cn (M : xM) (fr : Bool) (dp kc ks : Nat) (av : List Value) (h : xHp) (Q : xPost) : Prop :=
  xgd M ∧ xHh M.1 = [] ∧ ∀ (l : Launch), l.stackTraces = false → ∀ (D : va_G) (ka : Nat → ClassId) (al : Nat → Nat) (sz : Nat),
    Met l (xY M.1) (xwM M) (xrm dp kc ks) (xPc fr D ka al av h sz) (xQc fr D ka al (va_A (xws ka al h) sz) Q) kc ks (va_A (xws ka al h) sz)
def Cx (M : xM) (dp kc ks : Nat) (av : List Value) (h : xHp) (Q : xPost) (X : Nat → xHp → Prop) : Prop :=
  xgd M ∧ xHh M.1 = [] ∧ ∀ (l : Launch), l.stackTraces = false → ∀ (D : va_G) (ka : Nat → ClassId) (al : Nat → Nat) (sz : Nat),
    vx_Met l (xY M.1) (xwM M) (xrm dp kc ks) (xPc false D ka al av h sz) (xQc false D ka al (va_A (xws ka al h) sz) Q) (xXC D ka al (va_A (xws ka al h) sz) X) kc ks (va_A (xws ka al h) sz)
theorem xPc_blind {fr : Bool} {D : va_G} {ka : Nat → ClassId} {al : Nat → Nat} {av : List Value} {h : xHp} {sz : Nat} : FrameBlind (xPc fr D ka al av h sz) := by
  intro a U g mk hq
  obtain ⟨q0, q1, q2, q3, q4⟩ := hq
  exact ⟨q0, q1, q2, va_K.moved (u := U) (U := U.calling g mk a) (Vm.Alike.refl U.vm) q3, q4.go (U := U.calling g mk a) (H := U.heap) (State.WarmedH.refl U) (fun _ _ _ => rfl) (fun _ h => h)⟩
/-- the locals with which a method begins -/
def xent : List Value → List (Option Value)
  | [] => []
  | v :: r => match xc1 v with
    | true => some v :: xent r
    | false => some v :: none :: xent r
theorem xc1_cat2 {v : Value} (h : xc1 v = false) : v.category = 2 := by cases v <;> first | rfl | cases h
theorem xent_mem : ∀ (av : List Value) (al : Nat → Nat) (i j : Nat) (v : Value), (xent av)[j]? = some (some v) → (i + j, xcv al v) ∈ lv_args i (av.map (xcv al))
  | [], al, i, j, v, h => by simp [xent] at h
  | w :: r, al, i, j, v, h => by
    unfold xent at h
    simp only [List.map_cons, lv_args, xcv_cat]
    split at h
    · rename_i hc
      rw [if_neg (by rw [xc1_cat hc]; decide)]
      cases j with
      | zero => simp at h; subst h; exact List.mem_cons_self
      | succ j =>
        rw [List.getElem?_cons_succ] at h
        have := xent_mem r al (i + 1) j v h
        exact List.mem_cons_of_mem _ (by rw [show i + (j + 1) = i + 1 + j by omega]; exact this)
    · rename_i hc
      rw [if_pos (xc1_cat2 hc)]
      match j, h with
      | 0, h => simp at h; subst h; exact List.mem_cons_self
      | 1, h => simp at h
      | j + 2, h =>
        simp only [List.getElem?_cons_succ] at h
        have := xent_mem r al (i + 2) j v h
        exact List.mem_cons_of_mem _ (by rw [show i + (j + 2) = i + 2 + j by omega]; exact this)
/-- more locals, of which nothing is known -/
def xpad : Nat → List (Option Value) → List (Option Value)
  | 0, l => l
  | n + 1, [] => none :: xpad n []
  | n + 1, a :: r => a :: xpad n r
theorem xpad_get : ∀ (n : Nat) (l : List (Option Value)) (j : Nat) (v : Value), (xpad n l)[j]? = some (some v) → l[j]? = some (some v)
  | 0, l, j, v, h => h
  | n + 1, [], j, v, h => by
    cases j with
    | zero => simp [xpad] at h
    | succ j => simp only [xpad, List.getElem?_cons_succ] at h; have := xpad_get n [] j v h; simp at this
  | n + 1, a :: r, j, v, h => by
    cases j with
    | zero => simpa [xpad] using h
    | succ j => simp only [xpad, List.getElem?_cons_succ] at h ⊢; exact xpad_get n r j v h
theorem xent_len : ∀ (av : List Value) (al : Nat → Nat), (lg_sl (av.map (xcv al))).length = (xent av).length
  | [], al => rfl
  | v :: r, al => by
    have ih := xent_len r al
    simp only [lg_sl] at ih
    cases hc : xc1 v with
    | true =>
      simp only [xent, hc, lg_sl, List.map_cons, List.flatMap_cons, List.length_append, xcv_cat, xc1_cat hc, List.length_cons, ih]
      simp
      omega
    | false =>
      simp only [xent, hc, lg_sl, List.map_cons, List.flatMap_cons, List.length_append, xcv_cat, xc1_cat2 hc, List.length_cons, ih]
      simp
      omega
theorem xl_entry {av : List Value} {al : Nat → Nat} {n : Nat} {ls : List (Option Value)} (hn : (xent av).length ≤ n) (hls : xpad n (xent av) = ls) : lv_has ((lg_sl (av.map (xcv al)) ++ List.replicate (n - (lg_sl (av.map (xcv al))).length) Slot.unset).toArray) n (xl al ls) := by
  refine xl_sub (lv_entry (av.map (xcv al)) (n := n) (by rw [xent_len]; exact hn)) ?_
  rintro ⟨j, w⟩ hq
  obtain ⟨v, h1, rfl⟩ := xl_mem.mp hq
  rw [← hls] at h1
  have := xent_mem av al 0 j v (xpad_get _ _ _ _ h1)
  rwa [Nat.zero_add] at this
theorem xno_throw {p : Program} {l : Launch} {e : Env} {R : Room} {s : State} {m : MethodId} {args : Array Value} {below : List Frame} {meth : Method} {c : Code} {H : Heap} {locs : List Loc} {cells slots mc ms : Nat} {free : Addr → Prop} {g : JFrame} {Qc : Array Value → State → Outcome → State → Prop} {D : va_G} {ka : Nat → ClassId} {al : Nat → Nat} {A : Nat → Prop}
    (k : W p l e R s m args below meth c H locs cells slots (vx_MQ below Qc (xXC D ka al A (fun _ _ => False)) args s mc ms free) g) : W p l e R s m args below meth c H locs cells slots (MQ below Qc args s mc ms free) g := by
  intro T hT X
  obtain ⟨t, a1, o, b1, b2, b3⟩ := k T hT X
  rcases b3 with ⟨b3, b4⟩ | ⟨q, -, E, ce, L, ⟨⟨k, h, -, hF, -⟩, -⟩, -⟩
  · exact ⟨t, a1, o, b1, b2, b3, b4⟩
  · exact hF.elim
theorem xcw_code {M : xM} (h : xHh M.1 = []) : xcw M = .code (xY M.1) M.2.2.1 M.2.2.2.1 M.2.2.2.2.1 := by
  unfold xcw
  rw [h]
theorem xtbl_nil {M : xM} (h : xHh M.1 = []) : tableOf (xHh M.1) = [] := by rw [h]; rfl
set_option maxHeartbeats 4000000 in
theorem xbody {M : xM} {fr : Bool} {dp kc ks : Nat} {av : List Value} {ls : List (Option Value)} {h : xHp} {Q : xPost} {X : Nat → xHp → Prop} (hg : xgd M) (hh : xHh M.1 = []) (hn : (xent av).length ≤ M.2.2.2.1) (hls : xpad M.2.2.2.1 (xent av) = ls) (k : Ex M fr dp kc ks 0 ls [] h Q X) {l : Launch} (hl : l.stackTraces = false) {D : va_G} {ka : Nat → ClassId} {al : Nat → Nat} {sz : Nat} {p : Program} {e : Env} {s : State} {m : MethodId} {args : Array Value} {below : List Frame} {meth : Method} {c : Code} {s₁ : State}
    (B : BodyLoose p l (xY M.1) (headSpec (xwM M) (xrm dp kc ks)) M.2.2.1 M.2.2.2.1 M.2.2.2.2.1 e s m args below meth c s₁) (hml : c.maxLocals = M.2.2.2.1) (ht : ∀ x ∈ c.exceptionTable.toList, False) (hv : xPc fr D ka al av h sz args s) :
    W p l e (headSpec (xwM M) (xrm dp kc ks)).room s m args below meth c s.heap [] 0 0 (vx_MQ below (xQc fr D ka al (va_A (xws ka al h) sz) Q) (xXC D ka al (va_A (xws ka al h) sz) X) args s kc ks (va_A (xws ka al h) sz)) (entryFrame m args M.2.2.2.1) := by
  obtain ⟨rfl, hsz, hW, hK, hF⟩ := hv
  have hts := atoms_spec (ws := xwM M) B.pre
  subst hsz
  rw [lg_entry_eq]
  refine k hg p l e _ s m _ below meth c D ka al _ s.heap [] 0 0 kc ks _ ⟨B.exec, B.bytes, B.returns, hml, ?_, fun w hw => hts w (List.mem_cons_of_mem _ hw), B.notSynchronized, hK, fun q hq => Or.inr hq, hF, hl, (name_of_methodNamed B.named B.method).1, ?_⟩ ⟨Nat.le_refl _, Nat.le_refl _, Nat.le_refl _, Nat.le_refl _⟩ ⟨by omega, by omega⟩ hW va_S.rf (xl_entry hn hls)
  · rw [← hg.2.2.1]
    exact findClass_of_methodNamed B.named
  · rw [xtbl_nil hh]
    cases hc : c.exceptionTable.toList with
    | nil => rfl
    | cons a t => exact (ht a (by rw [hc]; exact List.mem_cons_self)).elim
set_option maxHeartbeats 4000000 in
theorem Cn.intro {M : xM} {fr : Bool} {dp kc ks : Nat} {av : List Value} {ls : List (Option Value)} {h : xHp} {Q : xPost} (hg : xgd M) (hh : xHh M.1 = []) (hn : (xent av).length ≤ M.2.2.2.1) (hls : xpad M.2.2.2.1 (xent av) = ls) (k : Ex M fr dp kc ks 0 ls [] h Q (fun _ _ => False)) : Cn M fr dp kc ks av h Q := by
  refine ⟨hg, hh, fun l hl D ka al sz => Met.ofW (cc := M.2.2.1) (maxL := M.2.2.2.1) (ret := M.2.2.2.2.1) hg.2.2.2.1 (by rw [← xcw_code hh]; rfl) ?_⟩
  intro p e s m args below meth c s₁ B hml hv
  refine xno_throw (xbody hg hh hn hls k hl B hml ?_ hv)
  have hts := atoms_spec (ws := xwM M) B.pre
  have hcd := hts _ List.mem_cons_self
  rw [xcw_code hh] at hcd
  obtain ⟨meth9, c9, h1, h2, -, -, -, -, h7, -⟩ := Cond.code_spec B.named hcd
  cases Option.some.inj (h1.symm.trans B.method)
  cases Option.some.inj (h2.symm.trans (Stand.of_body B).code)
  intro x hx
  rw [Array.isEmpty_iff.mp h7] at hx
  cases hx
set_option maxHeartbeats 4000000 in
theorem Cx.intro {M : xM} {dp kc ks : Nat} {av : List Value} {ls : List (Option Value)} {h : xHp} {Q : xPost} {X : Nat → xHp → Prop} (hg : xgd M) (hh : xHh M.1 = []) (hn : (xent av).length ≤ M.2.2.2.1) (hls : xpad M.2.2.2.1 (xent av) = ls) (k : Ex M false dp kc ks 0 ls [] h Q X) : Cx M dp kc ks av h Q X := by
  refine ⟨hg, hh, fun l hl D ka al sz => vx_ofW (cc := M.2.2.1) (maxL := M.2.2.2.1) (ret := M.2.2.2.2.1) hg.2.2.2.1 (by rw [← xcw_code hh]; rfl) ?_⟩
  intro p e s m args below meth c s₁ B hml ht hv
  exact xbody hg hh hn hls k hl B hml ht hv
/-! CALLS -/
theorem xA_sub {A : Nat → Prop} {ws : va_W} {H0 H : Heap} {locs : List Loc} (hD : va_D A ws) (hS : va_S A H0 H locs) (hA : ∀ q, H0.size ≤ q → A q) : ∀ q, va_A ws H.size q → A q := by
  rintro q (⟨k, e, h⟩ | h)
  · exact hD.2 k (q, e) h
  · exact hA q (Nat.le_trans hS.1 h)
theorem xD_self {A : Nat → Prop} {ws : va_W} {sz : Nat} (hD : va_D A ws) : va_D (va_A ws sz) ws := hD.self
section XCL
variable {p : Program} {l : Launch} {e : Env} {R : Room} {s : State} {m : MethodId} {args : Array Value} {below : List Frame} {meth : Method} {c : Code} {H : Heap} {locs : List Loc} {cells slots : Nat}
/-- what a callee finds -/
theorem xpre {M : xM} {fr : Bool} {D : va_G} {ka : Nat → ClassId} {al : Nat → Nat} {A : Nat → Prop} {h : xHp} {av : List Value} (C : xCx p l s m args meth c M D ka al A) (hW : xWd fr D ka al A h H) (hS : va_S A s.heap H locs) : ∀ U : State, U.heap = H → s.WarmedH U.vm → xPc fr D ka al av h H.size (av.map (xcv al)).toArray U := by
  intro U hU hWm
  refine ⟨rfl, by rw [hU], ⟨by rw [hU]; exact hW.1, hW.2.1.self, by rw [hU]; exact hW.2.2⟩, va_K.moved hWm.alike C.2.2.2.2.2.2.2.1, ?_⟩
  rw [hU]
  exact C.2.2.2.2.2.2.2.2.2.1.go hWm hS.2.1 (xA_sub hW.2.1 hS C.2.2.2.2.2.2.2.2.1)
/-- behind a call -/
theorem xback {M : xM} {fr : Bool} {dp kc ks kc' ks' pc nx mc ms : Nat} {D : va_G} {ka : Nat → ClassId} {al : Nat → Nat} {A : Nat → Prop} {h : xHp} {Q : xPost} {X : Nat → xHp → Prop} {Q' : xPost} {ls : List (Option Value)} {lsA : Array Slot} {st0 : List Value} {r : List Value} {a : Array Value} (hg : xgd M)
    (C : xCx p l s m args meth c M D ka al A) (R0 : dp ≤ R.frames ∧ 64 * dp ≤ R.locals ∧ mc ≤ R.cells ∧ ms ≤ R.slots) (B : cells + kc ≤ mc ∧ slots + ks ≤ ms) (hkc : kc' ≤ kc) (hks : ks' ≤ ks) (hW : xWd fr D ka al A h H) (hS : va_S A s.heap H locs) (hl : lv_has lsA M.2.2.2.1 (xl al ls)) (hnx : nx = pc + 3)
    (hr : va_Run p l e R s m args below meth c H locs cells slots kc' ks' (F0 m pc lsA st0) (r.map (xcv al)) (xQc fr D ka al (va_A (xws ka al h) H.size) Q' a) (va_A (xws ka al h) H.size))
    (k : ∀ v h', Q' v h' → Ex M fr dp (kc - kc') (ks - ks') nx ls (v.toList ++ r) h' Q X) :
    W p l e R s m args below meth c H locs cells slots (vx_MQ below (xQc fr D ka al A Q) (xXC D ka al A X) args s mc ms A) (F0 m pc lsA st0) := by
  have hsub := xA_sub hW.2.1 hS C.2.2.2.2.2.2.2.2.1
  intro T hT XX
  obtain ⟨v, st₀, t, T', L, h0, X', hL, e1, e2, ⟨⟨v', h', hv, hq, hW', hK'⟩, hz, hk⟩, st⟩ := hr T hT XX
  cases hv
  rw [h0] at hz hk
  subst hnx
  obtain ⟨t2, a1, b1⟩ := k v' h' hq hg p l e R s m args below meth c D ka al A T'.heap (locs ++ L) (cells + kc') (slots + ks') mc ms lsA C R0 ⟨by omega, by omega⟩ ⟨by rw [e1]; exact hW'.1, hW'.2.1.weaken (fun _ q _ z => hsub q.1 z), by rw [e1]; exact hW'.2.2⟩
    ⟨Nat.le_trans hS.1 (by rw [e1]; exact hz), fun q h1 h2 => by rw [e1, hk q (Nat.lt_of_lt_of_le h1 hS.1) (fun z => h2 (hsub q z))]; exact hS.2.1 q h1 h2, fun q hq => by
      rcases List.mem_append.mp hq with z | z
      · exact hS.2.2 q z
      · exact hsub _ (hL q z)⟩ hl T' rfl X'
  refine ⟨t2, st t2 ?_, b1⟩
  have : (v'.map (xcv al)).toList ++ r.map (xcv al) = (v'.toList ++ r).map (xcv al) := by cases v' <;> rfl
  rw [this]
  exact a1
end XCL
theorem xlk_m {o pc nx : Nat} {i : Instr} {tag mid j : Nat} {li : Int32} {ll : Int64} (hi : i = .invokevirtual j ∨ i = .invokestatic j ∨ i = .invokespecial j) (ht : tag < 10) (h : xres o (pc, nx, i, [tag, mid], li, ll) = true) : ∃ q ∈ xLKm, q.1 = o ∧ q.2.1 = j ∧ q.2.2.1 = tag ∧ q.2.2.2.1 = mid := by
  have h1 : (xLKm.any fun q => q.1 == o && q.2.1 == j && q.2.2.1 == tag && q.2.2.2.1 == mid) = true := by
    rcases hi with rfl | rfl | rfl <;> · simpa [xres, ht] using h
  obtain ⟨q, hq, h2⟩ := List.any_eq_true.mp h1
  simp only [Bool.and_eq_true, beq_iff_eq] at h2
  exact ⟨q, hq, h2.1.1.1, h2.1.1.2, h2.1.2, h2.2⟩
theorem xTG_good : ∀ w ∈ xTG, (w.onTables && w.keeps) = true ∨ ∃ ty, w = .arrayClass ty := fun _ h => good_of_word (List.mem_filter.mp h).2
theorem xGoodIn {M : xM} (hg : xgd M) (hh : xHh M.1 = []) : GoodIn xTG (xwM M) := by
  intro w hw
  rcases List.mem_cons.mp hw with rfl | hw
  · have h1 : goodWord (xcw M) = true := by rw [xcw_code hh]; rfl
    have h2 := xTG_in hg.2.1 h1
    exact ⟨h2, xTG_good _ h2⟩
  · exact ⟨hw, xTG_good _ hw⟩
theorem xMk {q : Nat × Nat × Nat × Nat × Nat × Nat × Nat × Nat} (hq : q ∈ xLKm) : xMw1 q.1 q.2.1 q.2.2.1 q.2.2.2.1 ∈ lw_tbl ∧ xMw2 q.2.2.1 q.2.2.2.1 ∈ xTG ∧ (q.2.2.1 = 0 → xMw3 q.2.2.2.1 ∈ xTG) ∧ xMw4 q.2.2.2.1 ∈ xTG := by
  have h := List.all_eq_true.mp xLKm_ok q hq
  unfold xMok at h
  simp only [Bool.and_eq_true, decide_eq_true_eq] at h
  refine ⟨xat_in h.1.1.1, xTG_in (xat_in h.1.1.2) ?_, fun z => ?_, xTG_in (xat_in h.2) rfl⟩
  · unfold xMw2
    split <;> rfl
  · have h3 := h.1.2
    rw [if_pos z] at h3
    exact xTG_in (xat_in (of_decide_eq_true h3)) rfl
set_option maxHeartbeats 4000000 in
/-- a virtual call -/
theorem x_cv {M M' : xM} {fr : Bool} {dp kc ks dp' kc' ks' pc nx i ci n b : Nat} {li : Int32} {ll : Int64} {ls : List (Option Value)} {As r : List Value} {st : List Value} {h : xHp} {Q Q' : xPost} {X : Nat → xHp → Prop}
    (hC : Cn M' fr dp' kc' ks' (.ref b :: As) h Q') (hf : xft M.2.2.2.2.2 pc = some (nx, .invokevirtual i, [0, M'.1], li, ll)) (hst : st = As.reverse ++ .ref b :: r) (hn : As.length = xNp M'.1) (hm : M'.1 < 335) (hsh : xsh h.1 b = some (ci, n)) (hci : ci < 13) (hcl : M'.2.1 = ci) (hr : (r.map fun v => v.category).sum ≤ 8) (hdp : dp' + 1 ≤ dp) (hkc : kc' ≤ kc) (hks : ks' ≤ ks)
    (k : ∀ v h', Q' v h' → Ex M fr dp (kc - kc') (ks - ks') nx ls (v.toList ++ r) h' Q X) : Ex M fr dp kc ks pc ls st h Q X := by
  intro hg p l e R s m args below meth c D ka al A H locs cells slots mc ms lsA C R0 B hW hS hl
  obtain ⟨hd, rfl, hres⟩ := xft_dec hg.1 hf rfl
  obtain ⟨hg', hh', hM⟩ := hC
  obtain ⟨q, hq, e1, e2, e3, e4⟩ := xlk_m (Or.inl rfl) (by decide) hres
  obtain ⟨w1, w2, w3, w4⟩ := xMk hq
  rw [e1, e2, e3, e4] at w1
  rw [e3, e4] at w2
  rw [e4] at w3 w4
  have hts := C.2.2.2.2.2.1
  have hw1 : Cond.methodLink (xOwn M.2.1) i (xY M'.1) ∈ xTG := xTG_in w1 rfl
  have hcs : (xY M'.1).cls = xOwn ci := by rw [hg'.2.2.1, hcl]
  have hmL := hg'.2.2.2.2.1
  refine xback (Q' := Q') (a := (Value.ref (al b) :: As.map (xcv al)).toArray) hg C R0 B hkc hks hW hS hl rfl (va_runV (Ts := xTG) (own := xOwn M.2.1) (C := (xY M'.1).cls) (As := As.map (xcv al)) (bytes := M'.2.2.1) (maxL := M'.2.2.2.1) (ret := M'.2.2.2.2.1) ⟨C.1, C.2.1, C.2.2.2.1, C.2.2.2.2.1, hts⟩ (hM l C.2.2.2.2.2.2.2.2.2.2.1 D ka al H.size) ⟨callB_of As.length hts (xGoodIn hg' hh') (by rw [← xcw_code hh']; rfl) rfl rfl (hts _ w4) (hts _ hw1) ⟨hg'.2.2.2.2.2.1, hg'.2.2.2.2.2.2, by rw [hn]; exact xNp_ok _ hm⟩ ⟨by show dp' + 1 ≤ R.frames; omega, by show 8 + (M'.2.2.2.1 + 11) + 64 * dp' ≤ R.locals; omega⟩, hts _ w2, hts _ (w3 e3)⟩ ⟨xPc_blind, ?_, ?_⟩ rfl (by simp) hl.1 ?_ (lv_room ?_) hd ⟨by omega, by omega⟩) k
  · obtain ⟨T, hT1, -⟩ := xvw hci
    have hw := xws_get (ka := ka) (al := al) (xsh_get hsh)
    rw [xcell_obj (by omega)] at hw
    rw [hcs]
    exact va_recv C.2.2.2.2.2.2.2.1 hW.1 hT1 hw
  · exact xpre (av := .ref b :: As) C hW hS
  · show List.map (xcv al) st = _
    rw [hst]
    simp [xcv]
  · simpa [xcv_cat, Function.comp_def] using hr
end
section
/-! MORE CALLS, DIVISION, SWITCHES -/
set_option maxHeartbeats 4000000 in
/-- a static call -/
theorem x_cs {M M' : xM} {fr : Bool} {dp kc ks dp' kc' ks' pc nx i : Nat} {li : Int32} {ll : Int64} {ls : List (Option Value)} {As r : List Value} {st : List Value} {h : xHp} {Q Q' : xPost} {X : Nat → xHp → Prop}
    (hC : Cn M' fr dp' kc' ks' As h Q') (hf : xft M.2.2.2.2.2 pc = some (nx, .invokestatic i, [1, M'.1], li, ll)) (hst : st = As.reverse ++ r) (hn : As.length = xNp M'.1) (hm : M'.1 < 335) (hr : (r.map fun v => v.category).sum ≤ 8) (hdp : dp' + 1 ≤ dp) (hkc : kc' ≤ kc) (hks : ks' ≤ ks)
    (k : ∀ v h', Q' v h' → Ex M fr dp (kc - kc') (ks - ks') nx ls (v.toList ++ r) h' Q X) : Ex M fr dp kc ks pc ls st h Q X := by
  intro hg p l e R s m args below meth c D ka al A H locs cells slots mc ms lsA C R0 B hW hS hl
  obtain ⟨hd, rfl, hres⟩ := xft_dec hg.1 hf rfl
  obtain ⟨hg', hh', hM⟩ := hC
  obtain ⟨q, hq, e1, e2, e3, e4⟩ := xlk_m (Or.inr (Or.inl rfl)) (by decide) hres
  obtain ⟨w1, w2, -, w4⟩ := xMk hq
  rw [e1, e2, e3, e4] at w1
  rw [e3, e4] at w2
  rw [e4] at w4
  have hts := C.2.2.2.2.2.1
  have hw1 : Cond.methodLink (xOwn M.2.1) i (xY M'.1) ∈ xTG := xTG_in w1 rfl
  have hmL := hg'.2.2.2.2.1
  refine xback (Q' := Q') (a := (As.map (xcv al)).toArray) hg C R0 B hkc hks hW hS hl rfl (va_runS (Ts := xTG) (own := xOwn M.2.1) (As := As.map (xcv al)) (bytes := M'.2.2.1) (maxL := M'.2.2.2.1) (ret := M'.2.2.2.2.1) ⟨C.1, C.2.1, C.2.2.2.1, C.2.2.2.2.1, hts⟩ (hM l C.2.2.2.2.2.2.2.2.2.2.1 D ka al H.size) ⟨callB_of As.length hts (xGoodIn hg' hh') (by rw [← xcw_code hh']; rfl) rfl rfl (hts _ w4) (hts _ hw1) ⟨hg'.2.2.2.2.2.1, hg'.2.2.2.2.2.2, by rw [hn]; exact xNp_ok _ hm⟩ ⟨by show dp' + 1 ≤ R.frames; omega, by show 8 + (M'.2.2.2.1 + 11) + 64 * dp' ≤ R.locals; omega⟩, hts _ w2⟩ ⟨xPc_blind, xpre (av := As) C hW hS⟩ rfl (by simp) hl.1 ?_ (lv_room ?_) hd ⟨by omega, by omega⟩) k
  · show List.map (xcv al) st = _
    rw [hst]
    simp
  · simpa [xcv_cat, Function.comp_def] using hr
theorem xnest {al : Nat → Nat} {A : Nat → Prop} {U : State} {H : Heap} {q : Nat × Nat × Nat × Nat × Nat × Nat × Nat × Nat} {o i tag mid : Nat} (hF : xFx al A U H) (hq : q ∈ xLKm) (e1 : q.1 = o) (e2 : q.2.1 = i) (e3 : q.2.2.1 = tag) (e4 : q.2.2.2.1 = mid) (ht : tag = 3 ∨ tag = 4) : va_Nw (.methodLinkNest (xOwn o) i (xY mid) RX11) U := by
  have h := hF.1 q hq (by rw [e3]; exact ht)
  rw [e1, e2, e3, e4] at h
  unfold xMw1 at h
  rw [if_pos ht] at h
  exact h
set_option maxHeartbeats 4000000 in
/-- a static call of a nest mate's method -/
theorem x_cn {M M' : xM} {fr : Bool} {dp kc ks dp' kc' ks' pc nx i : Nat} {li : Int32} {ll : Int64} {ls : List (Option Value)} {As r : List Value} {st : List Value} {h : xHp} {Q Q' : xPost} {X : Nat → xHp → Prop}
    (hC : Cn M' fr dp' kc' ks' As h Q') (hf : xft M.2.2.2.2.2 pc = some (nx, .invokestatic i, [3, M'.1], li, ll)) (hst : st = As.reverse ++ r) (hn : As.length = xNp M'.1) (hm : M'.1 < 335) (hr : (r.map fun v => v.category).sum ≤ 8) (hdp : dp' + 1 ≤ dp) (hkc : kc' ≤ kc) (hks : ks' ≤ ks)
    (k : ∀ v h', Q' v h' → Ex M fr dp (kc - kc') (ks - ks') nx ls (v.toList ++ r) h' Q X) : Ex M fr dp kc ks pc ls st h Q X := by
  intro hg p l e R s m args below meth c D ka al A H locs cells slots mc ms lsA C R0 B hW hS hl
  obtain ⟨hd, rfl, hres⟩ := xft_dec hg.1 hf rfl
  obtain ⟨hg', hh', hM⟩ := hC
  obtain ⟨q, hq, e1, e2, e3, e4⟩ := xlk_m (Or.inr (Or.inl rfl)) (by decide) hres
  obtain ⟨w1, w2, -, w4⟩ := xMk hq
  rw [e3, e4] at w2
  rw [e4] at w4
  have hts := C.2.2.2.2.2.1
  have hnw := xnest C.2.2.2.2.2.2.2.2.2.1 hq e1 e2 e3 e4 (Or.inl rfl)
  have hmL := hg'.2.2.2.2.1
  refine xback (Q' := Q') (a := (As.map (xcv al)).toArray) hg C R0 B hkc hks hW hS hl rfl (va_runSN (Ts := xTG) (own := xOwn M.2.1) (As := As.map (xcv al)) (bytes := M'.2.2.1) (maxL := M'.2.2.2.1) (ret := M'.2.2.2.2.1) ⟨C.1, C.2.1, C.2.2.2.1, C.2.2.2.2.1, hts⟩ (hM l C.2.2.2.2.2.2.2.2.2.2.1 D ka al H.size) ⟨va_cnB As.length hts (xGoodIn hg' hh') (by rw [← xcw_code hh']; rfl) rfl rfl hnw (hts _ w4) ⟨hg'.2.2.2.2.2.1, hg'.2.2.2.2.2.2, by rw [hn]; exact xNp_ok _ hm⟩ ⟨by show dp' + 1 ≤ R.frames; omega, by show 8 + (M'.2.2.2.1 + 11) + 64 * dp' ≤ R.locals; omega⟩, hts _ w2, trivial⟩ ⟨xPc_blind, xpre (av := As) C hW hS⟩ rfl (by simp) hl.1 ?_ (lv_room ?_) hd ⟨by omega, by omega⟩) k
  · show List.map (xcv al) st = _
    rw [hst]
    simp
  · simpa [xcv_cat, Function.comp_def] using hr
section XDV
variable {M : xM} {fr : Bool} {dp kc ks pc nx : Nat} {rs : List Nat} {li : Int32} {ll : Int64} {ls : List (Option Value)} {st : List Value} {h : xHp} {Q : xPost} {X : Nat → xHp → Prop}
theorem x_idiv {x y : Int32} (hf : xft M.2.2.2.2.2 pc = some (nx, .idiv, rs, li, ll)) (hy : ¬ y = 0) (k : Ex M fr dp kc ks nx ls (.int (x / y) :: st) h Q X) : Ex M fr dp kc ks pc ls (.int y :: .int x :: st) h Q X := by
  intro hg p l e R s m args below meth c D ka al A H locs cells slots mc ms lsA C R0 B hW hS hl
  obtain ⟨hd, rfl, -⟩ := xft_dec hg.1 hf rfl
  exact lv_idiv C.1 C.2.1 hd hy (k hg p l e R s m args below meth c D ka al A H locs cells slots mc ms lsA C R0 B hW hS hl)
theorem x_irem {x y : Int32} (hf : xft M.2.2.2.2.2 pc = some (nx, .irem, rs, li, ll)) (hy : ¬ y = 0) (k : Ex M fr dp kc ks nx ls (.int (x - x / y * y) :: st) h Q X) : Ex M fr dp kc ks pc ls (.int y :: .int x :: st) h Q X := by
  intro hg p l e R s m args below meth c D ka al A H locs cells slots mc ms lsA C R0 B hW hS hl
  obtain ⟨hd, rfl, -⟩ := xft_dec hg.1 hf rfl
  exact lv_irem C.1 C.2.1 hd hy (k hg p l e R s m args below meth c D ka al A H locs cells slots mc ms lsA C R0 B hW hS hl)
theorem x_tsw {i : Instr} {x : Int32} {tgt : Nat} {dflt lo hi : Int} {offs : Array Int} (hf : xft M.2.2.2.2.2 pc = some (nx, .tableswitch dflt lo hi offs, rs, li, ll)) (ht : (((¬ x.toInt < lo ∧ ¬ hi < x.toInt) ∧ ∃ off, offs[(x.toInt - lo).toNat]? = some off ∧ (pc : Int) + off = (tgt : Int))) ∨ ((x.toInt < lo ∨ hi < x.toInt) ∧ (pc : Int) + dflt = (tgt : Int))) (k : Ex M fr dp kc ks tgt ls st h Q X) : Ex M fr dp kc ks pc ls (.int x :: st) h Q X := by
  intro hg p l e R s m args below meth c D ka al A H locs cells slots mc ms lsA C R0 B hW hS hl
  have K := k hg p l e R s m args below meth c D ka al A H locs cells slots mc ms lsA C R0 B hW hS hl
  have h1 := xft_row hg.1 hf
  unfold xrok at h1
  simp only [xtab, if_true, Bool.and_eq_true, decide_eq_true_eq] at h1
  rcases ht with ⟨⟨a1, a2⟩, off, a3, a4⟩ | ⟨a1, a2⟩
  · exact lv_tableIn C.1 C.2.1 h1.1.1 a1 a2 a3 a4 K
  · exact lv_tableOut C.1 C.2.1 h1.1.1 a1 a2 K
end XDV
theorem xlk_n {o pc nx : Nat} {i : Instr} {tag mid j : Nat} {li : Int32} {ll : Int64} (hi : i = .invokevirtual j ∨ i = .invokestatic j ∨ i = .invokespecial j) (ht : ¬ tag < 10) (h : xres o (pc, nx, i, [tag, mid], li, ll) = true) : Cond.methodLink (xOwn o) j (xNn tag) ∈ xTG := by
  have h1 : (xLKn.any fun q => q.1 == o && q.2.1 == j && q.2.2.1 == tag) = true := by
    rcases hi with rfl | rfl | rfl <;> · simpa [xres, ht] using h
  obtain ⟨q, hq, h2⟩ := List.any_eq_true.mp h1
  simp only [Bool.and_eq_true, beq_iff_eq] at h2
  have h3 := List.all_eq_true.mp xLKn_ok q hq
  simp only [decide_eq_true_eq] at h3
  rw [h2.1.1, h2.1.2, h2.2] at h3
  exact xTG_in (xat_in h3) rfl
theorem xN_max : Cond.static Lib.Math.max.name ∈ xTG ∧ Cond.code Lib.Math.max.name Lib.Math.max.code 2 (some .int) ∈ xTG := ⟨xTG_in (xat_in (p := 3019) (by decide +kernel)) rfl, xTG_in (xat_in (p := 3020) rfl) rfl⟩
theorem xN_min : Cond.static Lib.Math.min.name ∈ xTG ∧ Cond.code Lib.Math.min.name Lib.Math.min.code 2 (some .int) ∈ xTG := ⟨xTG_in (xat_in (p := 3219) (by decide +kernel)) rfl, xTG_in (xat_in (p := 3220) rfl) rfl⟩
theorem xN_abs : Cond.static Lib.Math.abs.name ∈ xTG ∧ Cond.code Lib.Math.abs.name Lib.Math.abs.code 1 (some .int) ∈ xTG := ⟨xTG_in (xat_in (p := 3016) (by decide +kernel)) rfl, xTG_in (xat_in (p := 3017) rfl) rfl⟩
theorem xN_labs : Cond.static Lib.MathLoose.abs_long.x ∈ xTG ∧ Cond.code Lib.MathLoose.abs_long.x Lib.MathLoose.abs_long.code 2 (some .long) ∈ xTG := ⟨xTG_in (xat_in (p := 2206) (by decide +kernel)) rfl, xTG_in (xat_in (p := 2207) rfl) rfl⟩
theorem xN_mi : Cond.initialized "java/lang/Math" ∈ xTG := xTG_in (xat_in (p := 1018) (by decide +kernel)) rfl
theorem xN_sy : Cond.native arraycopyName ∈ xTG ∧ Cond.static arraycopyName ∈ xTG ∧ Cond.initialized "java/lang/System" ∈ xTG := ⟨xTG_in (xat_in (p := 2223) (by decide +kernel)) rfl, xTG_in (xat_in (p := 2222) (by decide +kernel)) rfl, xTG_in (xat_in (p := 1025) (by decide +kernel)) rfl⟩
theorem xN_ob : Cond.instanceMethod Lib.objectInit ∈ xTG ∧ Cond.code Lib.objectInit ⟨#[0xb1]⟩ 1 none ∈ xTG := ⟨xTG_in (xat_in (p := 1033) (by decide +kernel)) rfl, xTG_in (xat_in (p := 1034) rfl) rfl⟩
section XNT
variable {M : xM} {fr : Bool} {dp kc ks pc nx i mid : Nat} {li : Int32} {ll : Int64} {ls : List (Option Value)} {st : List Value} {h : xHp} {Q : xPost} {X : Nat → xHp → Prop}
theorem xst_cat {al : Nat → Nat} {st : List Value} {n : Nat} (h : (st.map fun v => v.category).sum ≤ n) : ((st.map (xcv al)).map fun v => v.category).sum ≤ n := by simpa [xcv_cat, Function.comp_def] using h
set_option maxHeartbeats 4000000 in
theorem x_max {x y : Int32} (hf : xft M.2.2.2.2.2 pc = some (nx, .invokestatic i, [10, mid], li, ll)) (hd1 : 1 ≤ dp) (hst : (st.map fun v => v.category).sum ≤ 8) (k : Ex M fr dp kc ks nx ls (.int (if x < y then y else x) :: st) h Q X) : Ex M fr dp kc ks pc ls (.int y :: .int x :: st) h Q X := by
  intro hg p l e R s m args below meth c D ka al A H locs cells slots mc ms lsA C R0 B hW hS hl
  obtain ⟨hd, rfl, hres⟩ := xft_dec hg.1 hf rfl
  have hts := C.2.2.2.2.2.1
  have hst' := xst_cat (al := al) hst
  exact va_mmax C.1 C.2.1 (C.2.2.2.1.trans hl.1.symm) C.2.2.2.2.1 (hts _ (xlk_n (Or.inr (Or.inl rfl)) (by decide) hres)) (hts _ xN_max.1) (hts _ xN_mi) (hts _ xN_max.2) (by omega) (by omega) (by omega) (by omega) hd (k hg p l e R s m args below meth c D ka al A H locs cells slots mc ms lsA C R0 B hW hS hl)
set_option maxHeartbeats 4000000 in
theorem x_min {x y : Int32} (hf : xft M.2.2.2.2.2 pc = some (nx, .invokestatic i, [11, mid], li, ll)) (hd1 : 1 ≤ dp) (hst : (st.map fun v => v.category).sum ≤ 8) (k : Ex M fr dp kc ks nx ls (.int (if y < x then y else x) :: st) h Q X) : Ex M fr dp kc ks pc ls (.int y :: .int x :: st) h Q X := by
  intro hg p l e R s m args below meth c D ka al A H locs cells slots mc ms lsA C R0 B hW hS hl
  obtain ⟨hd, rfl, hres⟩ := xft_dec hg.1 hf rfl
  have hts := C.2.2.2.2.2.1
  have hst' := xst_cat (al := al) hst
  exact va_mmin C.1 C.2.1 (C.2.2.2.1.trans hl.1.symm) C.2.2.2.2.1 (hts _ (xlk_n (Or.inr (Or.inl rfl)) (by decide) hres)) (hts _ xN_min.1) (hts _ xN_mi) (hts _ xN_min.2) (by omega) (by omega) (by omega) (by omega) hd (k hg p l e R s m args below meth c D ka al A H locs cells slots mc ms lsA C R0 B hW hS hl)
set_option maxHeartbeats 4000000 in
theorem x_abs {x : Int32} (hf : xft M.2.2.2.2.2 pc = some (nx, .invokestatic i, [12, mid], li, ll)) (hd1 : 1 ≤ dp) (hst : (st.map fun v => v.category).sum ≤ 8) (k : Ex M fr dp kc ks nx ls (.int (if 0 ≤ x then x else 0 - x) :: st) h Q X) : Ex M fr dp kc ks pc ls (.int x :: st) h Q X := by
  intro hg p l e R s m args below meth c D ka al A H locs cells slots mc ms lsA C R0 B hW hS hl
  obtain ⟨hd, rfl, hres⟩ := xft_dec hg.1 hf rfl
  have hts := C.2.2.2.2.2.1
  have hst' := xst_cat (al := al) hst
  exact va_mabs C.1 C.2.1 (C.2.2.2.1.trans hl.1.symm) C.2.2.2.2.1 (hts _ (xlk_n (Or.inr (Or.inl rfl)) (by decide) hres)) (hts _ xN_abs.1) (hts _ xN_mi) (hts _ xN_abs.2) (by omega) (by omega) (by omega) (by omega) hd (k hg p l e R s m args below meth c D ka al A H locs cells slots mc ms lsA C R0 B hW hS hl)
set_option maxHeartbeats 4000000 in
theorem x_labs {x : Int64} (hf : xft M.2.2.2.2.2 pc = some (nx, .invokestatic i, [13, mid], li, ll)) (hd1 : 1 ≤ dp) (hst : (st.map fun v => v.category).sum ≤ 8) (k : Ex M fr dp kc ks nx ls (.long (if 0 < x then x else -x) :: st) h Q X) : Ex M fr dp kc ks pc ls (.long x :: st) h Q X := by
  intro hg p l e R s m args below meth c D ka al A H locs cells slots mc ms lsA C R0 B hW hS hl
  obtain ⟨hd, rfl, hres⟩ := xft_dec hg.1 hf rfl
  have hts := C.2.2.2.2.2.1
  have hst' := xst_cat (al := al) hst
  exact va_mabs_long C.1 C.2.1 (C.2.2.2.1.trans hl.1.symm) C.2.2.2.2.1 (hts _ (xlk_n (Or.inr (Or.inl rfl)) (by decide) hres)) (hts _ xN_labs.1) (hts _ xN_mi) (hts _ xN_labs.2) (by omega) (by omega) (by omega) (by omega) hd (k hg p l e R s m args below meth c D ka al A H locs cells slots mc ms lsA C R0 B hW hS hl)
end XNT
end
section
/-! EXCEPTIONS: 'throw new E("text")', E's own constructor with any entry number (the library's law of the traceless launch has entry 7 alone) -/
def xNo (w : Cond) : Bool := decide (w ≠ .isRef (.static Bundle.tN "UNASSIGNED_STACK" Bundle.steD)) && decide (w ≠ .isRef (.static Bundle.tN "SUPPRESSED_SENTINEL" Bundle.listD)) && decide (w ≠ .laysStatic Bundle.tN "UNASSIGNED_STACK" Bundle.steD) && decide (w ≠ .laysStatic Bundle.tN "SUPPRESSED_SENTINEL" Bundle.listD)
section XTH
variable {p : Program} {l : Launch} {e : Env} {R : Room} {s : State} {m₀ : MethodId} {args : Array Value} {below : List Frame} {meth : Method} {c : Code} {W : State} {locs : List Loc} {cells slots : Nat}
set_option maxHeartbeats 4000000 in
theorem xctor (X : Stand p l e R s m₀ args below meth c W locs cells slots) (hexec : p.tables.exec = Jvm.exec) (htr : e.platform.stackTraces = false) {own cls : String} {names : List String} {ic : Nat}
    {ix : Nat} {rx : ByteArray} (x0 : decode rx 0 = .ok (.aload_n 0, 1)) (x1 : decode rx 1 = .ok (.aload_n 1, 1)) (x2 : decode rx 2 = .ok (.invokespecial ix, 3)) (x5 : decode rx 5 = .ok (.return_, 1))
    (hown : s.vm.findClass own = some m₀.cls) (hcls : Bundle.fit cls = true) (hnames : ∀ n ∈ names, Bundle.fit n = true)
    (h : ∀ a ∈ Bundle.ownAtomsX own ic cls ix rx names, a.before args s = true)
    (hlocs : ∀ x ∈ locs, ∀ cell, s.heap[x.base]? = some cell → cell.vm.isStatics = false)
    {a : Addr} {cX : ClassId} {kX : Class} (hfoundX : s.vm.findClass cls = some cX) (hkX : s.vm.classes[cX]? = some kX) (hcell : W.heap[a]? = some (freshCell cX kX)) (hnew : s.heap.size ≤ a)
    {msg : Value} (hmsg : msg.isRef = true)
    {g : JFrame} (hg : g.method = m₀) (hsize : g.locals.size = c.maxLocals) (hlocked : g.locked = none) (hentered : g.entered = []) {rest : List Value} (hstack : g.stack = msg :: .ref a :: .ref a :: rest)
    (hd6 : decode c.code g.pc = .ok (.invokespecial ic, 3)) (hd9 : decode c.code (g.pc + 3) = .ok (.athrow, 1)) (hout : ∀ x ∈ c.exceptionTable.toList, covers x (g.pc + 3) = false)
    (hRframes : names.length + 3 < R.frames) (hRlocals : 2 * g.monitorRoom + ((Value.ref a :: rest).map fun v => v.category).sum + (13 * (names.length + 1) + 42) ≤ R.locals) (hlocks : meth.locks = false) :
    ∃ U : State, Steps p.tables e below (W.setTop g) U ∧ U.status = .running ∧ Ended U below (.threw a) ∧ s.WarmedH U.vm ∧ s.sameButNew ({ U with vm := s.vm } : State) locs cells slots ∧
      ∃ ce, U.heap[a]? = some ce ∧ ce.vm = .none ∧ s.vm.findClass cls = some ce.cls := by
  have howns : e.platform.frameOwnsMonitors = true := by rw [X.admits.platform]
  have hfin : e.platform.finalization = false := by rw [X.admits.platform]
  have hpl : e.platform.magicAccessors = ({} : Platform).magicAccessors := by rw [X.admits.platform]
  have a' : ∀ x, x ∈ Bundle.ownAtomsX own ic cls ix rx names → x.holds args s none s [] = true := fun x hx => h x hx
  obtain ⟨T, Z0, L, -, Y⟩ := ThrowableC.of_atoms (args := args) howns hfin hpl (fun x hx => h x (by simp [Bundle.ownAtomsX, hx]))
  obtain ⟨Z, M, LZ, LM, hnZ⟩ := Init0T.ofS_atoms (args := args) hpl L Y (fun x hx => h x (by simp [Bundle.ownAtomsX, hx]))
  obtain ⟨P1, Ps, hlen, L1, hL, hP1m, hlink1, hlink⟩ := Bundle.chainSX (args := args) hpl hnZ x0 x1 x2 x5 names cls hcls hnames (fun x hx => h x (by simp [Bundle.ownAtomsX, hx]))
  have hfound : s.vm.findClass cls = some P1.m.cls := findClass_of_methodNamed hP1m
  cases Option.some.inj (hfoundX.symm.trans hfound)
  obtain ⟨c1, kX', hc1, hk, hord, -, -, hn6⟩ := Cond.instantiable_spec (a' (.instantiable cls 6) (by simp [Bundle.ownAtomsX]))
  cases Option.some.inj (hc1.symm.trans hfound)
  cases Option.some.inj (hkX.symm.trans hk)
  have hsel : ∀ (y : MethodName) (my : MethodId), (Cond.selects cls y y).holds args s none s [] = true → s.methodNamed? y = some my → (y.cls ≠ "java/lang/invoke/MethodHandle" ∧ y.cls ≠ "java/lang/invoke/VarHandle") → selectMethod e.platform s.vm P1.m.cls my = .method my := by
    intro y my hy hm hne
    obtain ⟨c2, r2, m2, q1, q2, q3, q4, -⟩ := Cond.selects_spec hy
    cases Option.some.inj (q1.symm.trans hfound)
    cases Option.some.inj (q2.symm.trans (State.methodFound?_of_named hm hne))
    cases Option.some.inj (q3.symm.trans hm)
    rw [Launch.admits_selectMethod X.admits]
    exact q4
  have hsel0 := hsel Bundle.tFill0 T.fill0 (a' _ (by simp [Bundle.ownAtomsX])) Y.fill0 (by decide)
  have hselF := hsel Bundle.tFill T.fill (a' _ (by simp [Bundle.ownAtomsX])) Y.fill (by decide)
  obtain ⟨cellS0, hcS0, hiss⟩ := Y.statics
  obtain ⟨u0, hu0⟩ := Cond.staticRefV Y.unassigned L.unassignedStatic L.statics hcS0 hiss (a' (.isRef (.static Bundle.tN "UNASSIGNED_STACK" Bundle.steD)) (by simp [Bundle.ownAtomsX]))
  obtain ⟨sen, hsen⟩ := Cond.staticRefV Y.sentinel L.sentinelStatic L.statics hcS0 hiss (a' (.isRef (.static Bundle.tN "SUPPRESSED_SENTINEL" Bundle.listD)) (by simp [Bundle.ownAtomsX]))
  obtain ⟨ci198, i198, fB, hk198, hg198, ha198, hsB, -, hnB, htB, hffB⟩ := Cond.ownField (t := .object "java/lang/Object") Y.found L.cls (by decide +kernel) (a' (.fieldLink Bundle.tN 198 Bundle.tN "backtrace" "Ljava/lang/Object;") (by simp [Bundle.ownAtomsX])) (a' (.lays Bundle.tN Bundle.tN "backtrace" "Ljava/lang/Object;") (by simp [Bundle.ownAtomsX])) e.platform hpl
  obtain ⟨cellS, hcS', heS, -, hkeep⟩ := X.same.2.2.2.2.2 T.aS cellS0 hcS0
  have hcellS : W.heap[T.aS]? = some cellS := hcS'
  have hout' : ∀ i, (⟨T.aS, i⟩ : Loc) ∉ locs := fun i hmem => by
    have := hlocs _ hmem cellS0 hcS0
    rw [hiss] at this
    cases this
  have hknownS : cellS.vm ≠ .unknown := by
    rw [heS]
    intro hu
    rw [show cellS0.vm = .unknown from hu] at hiss
    cases hiss
  have hneS : T.aS ≠ a := Nat.ne_of_lt (Nat.lt_of_lt_of_le (Array.getElem?_eq_some_iff.mp hcS0).1 hnew)
  obtain ⟨iM, hffM⟩ := Y.msg
  obtain ⟨tyC, dC, hdC, hdnC⟩ := Cond.laysAt hfound hk Y.cause (a' (.lays cls Bundle.tN "cause" "Ljava/lang/Throwable;") (by simp [Bundle.ownAtomsX]))
  obtain ⟨tyS, dS, hdS, hdnS⟩ := Cond.laysAt hfound hk Y.stack (a' (.lays cls Bundle.tN "stackTrace" Bundle.steD) (by simp [Bundle.ownAtomsX]))
  obtain ⟨tyP, dP, hdP, hdnP⟩ := Cond.laysAt hfound hk Y.supp (a' (.lays cls Bundle.tN "suppressedExceptions" Bundle.listD) (by simp [Bundle.ownAtomsX]))
  obtain ⟨tyM, dM, hdM, hdnM⟩ := Cond.laysAt hfound hk hffM (a' (.lays cls Bundle.tN "detailMessage" "Ljava/lang/String;") (by simp [Bundle.ownAtomsX]))
  obtain ⟨tyB, dB, hdB, hdnB⟩ := Cond.laysAt hfound hk hffB (a' (.lays cls Bundle.tN "backtrace" "Ljava/lang/Object;") (by simp [Bundle.ownAtomsX]))
  have bC := Cond.laysApart hdB hdC hdnB hdnC (by rw [hnB, Y.causeName]; decide)
  have bS := Cond.laysApart hdB hdS hdnB hdnS (by rw [hnB, Y.stackName]; decide)
  have bP := Cond.laysApart hdB hdP hdnB hdnP (by rw [hnB, Y.suppName]; decide)
  have hskip : SkipFacts T e.platform s (fun u => u) u0 ((preparedCellV T.toThrowableT (freshCell P1.m.cls kX) a u0 sen).withEntry W.cur) :=
    ⟨{ ci198 := ci198, i198 := i198, fBack := fB }, ⟨hk198, hg198, ha198, hsB⟩, by
      have := fresh_default (c := P1.m.cls) tyB
      rw [htB] at this
      simpa [preparedCellV, Cell.setSlot, Cell.withEntry, Array.getElem?_setIfInBounds, bC, bS, bP, bC.symm, bS.symm, bP.symm, defaultValue] using this, fun _ _ => rfl⟩
  obtain ⟨tm, methC, cdC, kC, vm₁, hnC, -, -, -, -, -, -, -, hW₁, st1⟩ := Steps.initColdS (tb := p.tables) (e := e) (below := below) (s := s) (U := W) X.here hexec X.warmed hpl hown (t := Bundle.initS cls) rfl rfl (Bundle.fit_spec hcls).2
    (a' (.methodLink own ic (Bundle.initS cls)) (by simp [Bundle.ownAtomsX])) (h (.instanceMethod (Bundle.initS cls)) (by cases names <;> simp [Bundle.ownAtomsX, Bundle.chainSAtomsX, Bundle.passSAtoms])) (bytes := rx) (maxL := 2) (h (.code (Bundle.initS cls) rx 2 none) (by cases names <;> simp [Bundle.ownAtomsX, Bundle.chainSAtomsX, Bundle.passSAtoms]))
    (f := g) hg (a := a) (msg := msg) (rest := .ref a :: rest) hstack hd6
  cases Option.some.inj (hnC.symm.trans hP1m)
  have X₁ := X.noted hW₁
  obtain ⟨vm₂, X₂, st2⟩ := X₁.ctorMessageOffV hexec (g := { g with stack := .ref a :: rest }) hg hsize T L Z LZ M LM (P1 :: Ps)
    (fun P hP => by rcases List.mem_cons.mp hP with rfl | hP; exact L1; exact hL P hP) ⟨hlink1, hlink⟩ (u0 := u0) (sen := sen) (self := a) hmsg (cell := freshCell P1.m.cls kX) (cellS := cellS)
    hcell (fun _ => by simp) (by simp) rfl rfl hsel0 hselF hcellS hneS hknownS (by rw [hkeep _ (hout' _)]; exact hu0) (by rw [hkeep _ (hout' _)]; exact hsen)
    (Takes.of_laid hk hord tyC (by rw [Y.causeType]; rfl)) (Takes.of_laid hk hord tyS (by rw [Y.stackType]; exact fits_refV_array _ u0)) (Takes.of_laid hk hord tyP (by rw [Y.suppType]; exact fits_refV_object _ sen))
    (Takes.of_laid hk hord tyM (by rw [Y.msgType]; exact fits_refV_object _ ⟨msg, hmsg⟩)) Y.objLocals hskip htr [] hd6
    (by simp only [List.length_cons, hlen]; omega) (by simp only [List.length_cons, hlen]; exact hRlocals)
  obtain ⟨hwalk, hrun, hended, hWU, hsame⟩ := X₂.athrowLeaves hexec (g := { g with stack := .ref a :: rest, pc := g.pc + 3 }) hg hlocked hentered hout (a := a) (rest := rest) rfl hd9 hlocks
  have hlt : a < ((W.setVm vm₁).setVm vm₂).heap.size := (Array.getElem?_eq_some_iff.mp hcell).1
  have hU := heapAt_setCell_self (s := (W.setVm vm₁).setVm vm₂) (plainBareV T.toThrowableT (freshCell P1.m.cls kX) a u0 sen msg) hlt
  refine ⟨_, st1 _ (fun acts => ?_), hrun, hended, hWU, hsame.weaken (fun y hy hlt' => ?_) (Nat.le_refl _) (Nat.le_refl _), _, hU, rfl, hfound⟩
  · rw [doInvoke_state]
    exact st2 _ hwalk
  · rcases List.mem_append.mp hy with h1 | h1
    · exact h1
    · exfalso
      have hb : y.base = a := by
        simp only [List.mem_cons, List.not_mem_nil, or_false] at h1
        rcases h1 with rfl | rfl | rfl | rfl | rfl <;> rfl
      rw [hb] at hlt'
      exact Nat.not_lt.mpr hnew hlt'
end XTH
theorem xstrw {al : Nat → Nat} {A : Nat → Prop} {U : State} {H : Heap} {o pc nx i k : Nat} {li : Int32} {ll : Int64} (hF : xFx al A U H) (h : xres o (pc, nx, .ldc_w i, [k], li, ll) = true) : ∃ tx, vk_R (xOwn o) i tx (al (5000 + k)) U := by
  unfold xres at h
  simp only at h
  split at h
  · rename_i q hq
    simp only [Bool.and_eq_true, decide_eq_true_eq, beq_iff_eq] at h
    have h1 := (hF.2.1 k q hq).1
    rw [h.1, h.2] at h1
    exact ⟨_, h1⟩
  · cases h
def xchk : List Cond → List Nat → Bool
  | [], [] => true
  | w :: r, p :: q => decide (xat p = some w) && xchk r q
  | _, _ => false
theorem xchk_in : ∀ {ws : List Cond} {ps : List Nat}, xchk ws ps = true → ∀ w ∈ ws, w ∈ lw_tbl
  | [], _, _, w, hw => absurd hw List.not_mem_nil
  | a :: r, [], h, w, hw => by cases h
  | a :: r, p :: q, h, w, hw => by
    unfold xchk at h
    rw [Bool.and_eq_true, decide_eq_true_eq] at h
    rcases List.mem_cons.mp hw with rfl | hw
    · exact xat_in h.1
    · exact xchk_in h.2 w hw
def xnms : List String := ["java/lang/RuntimeException", "java/lang/Exception"]
def xcE (kx : Nat) : Nat := if kx = 1 then 351 else 93
def xkE (kx : Nat) : Nat := if kx = 1 then 349 else 89
def xiE (kx : Nat) : Nat := if kx = 1 then 13 else 7
def xrE (kx : Nat) : ByteArray := if kx = 1 then prog_31_method_4_code else prog_19_method_2_code
def xoE (kx : Nat) : List Cond := (Bundle.ownAtomsX RX11 (xcE kx) (xEx kx) (xiE kx) (xrE kx) xnms).filter xNo
theorem xoA : xchk (xoE 0) [1014, 3170, 3179, 3182, 3185, 3187, 3171, 3172, 1033, 1034, 3173, 3178, 3183, 3203, 3160, 3204, 3162, 3205, 3164, 3174, 3176, 3166, 3199, 3200, 3202, 3166, 3190, 3191, 3192, 3193, 3152, 3193, 3194, 3195, 3196, 3154, 3196, 3197, 3198, 3199, 3156, 3189, 3149, 3150, 3157, 3158, 3159, 3161, 3163, 3165, 3169, 3168, 3167] = true := by decide +kernel
theorem xoB : xchk (xoE 1) [1014, 3170, 3179, 3182, 3185, 3187, 3171, 3172, 1033, 1034, 3173, 3178, 3183, 3203, 3160, 3204, 3162, 3205, 3164, 3174, 3176, 3166, 3199, 3200, 3202, 3166, 4173, 4174, 4175, 3193, 3152, 3193, 3194, 3195, 3196, 3154, 3196, 3197, 3198, 3199, 3156, 4172, 4163, 4164, 4165, 3181, 4166, 4167, 4168, 4169, 3169, 3168, 4170] = true := by decide +kernel
theorem xoA2 : ((xoE 0).all fun w => goodWord w || decide (w ∈ xBad)) = true := by decide +kernel
theorem xoB2 : ((xoE 1).all fun w => goodWord w || decide (w ∈ xBad)) = true := by decide +kernel
theorem xoE_in {kx : Nat} (hk : kx = 0 ∨ kx = 1) : ∀ w ∈ xoE kx, w ∈ xTG ∨ w ∈ xBad := by
  intro w hw
  rcases hk with rfl | rfl
  · have h1 := xchk_in xoA w hw
    have h2 := List.all_eq_true.mp xoA2 w hw
    simp only [Bool.or_eq_true, decide_eq_true_eq] at h2
    exact h2.elim (fun z => Or.inl (xTG_in h1 z)) Or.inr
  · have h1 := xchk_in xoB w hw
    have h2 := List.all_eq_true.mp xoB2 w hw
    simp only [Bool.or_eq_true, decide_eq_true_eq] at h2
    exact h2.elim (fun z => Or.inl (xTG_in h1 z)) Or.inr
theorem xBad_tab : ∀ w ∈ xBad, w.onTables = true := by
  intro w hw
  simp only [xBad, List.mem_cons, List.not_mem_nil, or_false] at hw
  rcases hw with rfl | rfl | rfl | rfl | rfl <;> rfl
theorem xkA : Cond.classLink RX11 89 "java/lang/IllegalArgumentException" ∈ xTG ∧ Cond.initialized "java/lang/IllegalArgumentException" ∈ xTG := ⟨xTG_in (xat_in (p := 3148) (by decide +kernel)) rfl, xTG_in (xat_in (p := 1017) (by decide +kernel)) rfl⟩
theorem xkB : Cond.classLink RX11 349 "java/util/NoSuchElementException" ∈ xTG ∧ Cond.initialized "java/util/NoSuchElementException" ∈ xTG := ⟨xTG_in (xat_in (p := 4162) (by decide +kernel)) rfl, xTG_in (xat_in (p := 1024) (by decide +kernel)) rfl⟩
theorem xkE_in {kx : Nat} (hk : kx = 0 ∨ kx = 1) : Cond.classLink RX11 (xkE kx) (xEx kx) ∈ xTG ∧ Cond.initialized (xEx kx) ∈ xTG := by
  rcases hk with rfl | rfl
  · exact xkA
  · exact xkB
theorem xdA {kx : Nat} (hk : kx = 0 ∨ kx = 1) : decode (xrE kx) 0 = .ok (.aload_n 0, 1) ∧ decode (xrE kx) 1 = .ok (.aload_n 1, 1) ∧ decode (xrE kx) 2 = .ok (.invokespecial (xiE kx), 3) ∧ decode (xrE kx) 5 = .ok (.return_, 1) := by
  rcases hk with rfl | rfl
  · exact ⟨by decide +kernel, by decide +kernel, by decide +kernel, by decide +kernel⟩
  · exact ⟨by decide +kernel, by decide +kernel, by decide +kernel, by decide +kernel⟩
theorem xown_all {own cls : String} {ic ix : Nat} {rx : ByteArray} {names : List String} {args : Array Value} {s : State} {A : Nat → Prop} (h1 : ∀ w ∈ (Bundle.ownAtomsX own ic cls ix rx names).filter xNo, w.before args s = true) (hU : vx_Zq Bundle.tN "UNASSIGNED_STACK" Bundle.steD A s s.heap) (hN : vx_Zq Bundle.tN "SUPPRESSED_SENTINEL" Bundle.listD A s s.heap) : ∀ w ∈ Bundle.ownAtomsX own ic cls ix rx names, w.before args s = true := by
  intro w hw
  by_cases e1 : w = .isRef (.static Bundle.tN "UNASSIGNED_STACK" Bundle.steD)
  · rw [e1]; exact vx_isRefq hU.1
  · by_cases e2 : w = .isRef (.static Bundle.tN "SUPPRESSED_SENTINEL" Bundle.listD)
    · rw [e2]; exact vx_isRefq hN.1
    · by_cases e3 : w = .laysStatic Bundle.tN "UNASSIGNED_STACK" Bundle.steD
      · rw [e3]; exact hU.2.word
      · by_cases e4 : w = .laysStatic Bundle.tN "SUPPRESSED_SENTINEL" Bundle.listD
        · rw [e4]; exact hN.2.word
        · exact h1 w (List.mem_filter.mpr ⟨hw, by simp [xNo, e1, e2, e3, e4]⟩)
set_option maxHeartbeats 8000000 in
/-- 'throw new E("text")' in SaucerFair: 0 IllegalArgumentException, 1 NoSuchElementException -/
theorem x_throw {M : xM} {dp kc ks pc n5 n9 kx k : Nat} {i2 : Instr} {r0 r1 r3 r4 : List Nat} {a0 a1 a2 a3 a4 : Int32} {b0 b1 b2 b3 b4 : Int64} {ls : List (Option Value)} {st : List Value} {h : xHp} {Q : xPost} {X : Nat → xHp → Prop}
    (hk : kx = 0 ∨ kx = 1) (hM : M.2.1 = 11) (hh : xHh M.1 = []) (f0 : xft M.2.2.2.2.2 pc = some (pc + 3, .new (xkE kx), r0, a0, b0)) (f1 : xft M.2.2.2.2.2 (pc + 3) = some (pc + 4, .dup, r1, a1, b1)) (f2 : xft M.2.2.2.2.2 (pc + 4) = some (n5, i2, [k], a2, b2)) (hi2 : (∃ j, i2 = .ldc j) ∨ ∃ j, i2 = .ldc_w j)
    (f3 : xft M.2.2.2.2.2 n5 = some (n5 + 3, .invokespecial (xcE kx), r3, a3, b3)) (f4 : xft M.2.2.2.2.2 (n5 + 3) = some (n9, .athrow, r4, a4, b4)) (hd : 8 ≤ dp) (hc : 1 ≤ kc) (hs : 6 ≤ ks) (hst : (st.map fun v => v.category).sum ≤ 8) (hX : X kx h) : Ex M false dp kc ks pc ls st h Q X := by
  intro hg p l e R s m args below meth c D ka al A H locs cells slots mc ms lsA C R0 B hW hS hl
  obtain ⟨hx, hb, hr, hml, hown, hts, hlk, hK, hA, hF, htrc, hnm, htb⟩ := C
  obtain ⟨d0, -, -⟩ := xft_dec hg.1 f0 rfl
  obtain ⟨d3, -, -⟩ := xft_dec hg.1 f1 rfl
  obtain ⟨d7, -, -⟩ := xft_dec hg.1 f3 rfl
  obtain ⟨d10, -, -⟩ := xft_dec hg.1 f4 rfl
  rw [hM] at hown
  have hst' := xst_cat (al := al) hst
  intro T hT XX
  have htr : e.platform.stackTraces = false := (show e.platform.stackTraces = l.stackTraces by rw [XX.admits.platform]).trans htrc
  have Y := vx_rebase XX (R' := { frames := R.frames, locals := R.locals, cells := 1, slots := 6 }) (Nat.le_refl _) (Nat.le_refl _) (by show cells + 1 ≤ R.cells; omega) (by show slots + 6 ≤ R.slots; omega)
  obtain ⟨s', hA'⟩ : ∃ z, z = (T.setVm s.vm).setFrames (.invoking m args :: below) := ⟨_, rfl⟩
  rw [← hA'] at Y
  have hvm : s'.vm = s.vm := by rw [hA']; rfl
  have hhp : s'.heap = H := by rw [hA']; exact hT
  have hW0 : s.WarmedH s'.vm := by rw [hvm]; exact State.WarmedH.refl s
  have hF' : xFx al A s' s'.heap := hF.go hW0 (by rw [hhp]; exact hS.2.1) (fun _ z => z)
  have gd : ∀ w ∈ xTG, w.before args s' = true := fun w hw => word_at hW0 (xTG_good w hw) (hts w hw)
  have hat' : ∀ w ∈ xoE kx, w.before args s' = true := by
    intro w hw
    rcases xoE_in hk w hw with z | z
    · exact gd w z
    · exact va_Nw.use (xBad_tab w z) (hF'.2.2.2.2.2.2 w z)
  have hall : ∀ w ∈ Bundle.ownAtomsX RX11 (xcE kx) (xEx kx) (xiE kx) (xrE kx) xnms, w.before args s' = true := xown_all hat' hF'.2.2.1 hF'.2.2.2.1
  have hown' : s'.vm.findClass RX11 = some m.cls := by rw [hvm]; exact hown
  have hins : (Cond.instantiable (xEx kx) 6).before args s' = true := hall _ (by simp [Bundle.ownAtomsX])
  obtain ⟨vm₁, cX, kX, hfX, hkX, -, -, X₁, st1⟩ := Y.newCold hx (own := RX11) (C := xEx kx) (index := xkE kx) (n := 6) hown' (gd _ (xkE_in hk).1) hins (gd _ (xkE_in hk).2)
    (g := F0 m pc lsA (st.map (xcv al))) rfl (by rw [hb]; exact d0) (Nat.le_refl _) (Nat.le_refl _)
  generalize hT1 : (T.setVm vm₁).pushCell { cls := cX, slots := kX.instanceTypes.map defaultValue, vm := .none } = T1 at X₁ st1
  have hcat : (Value.ref T.heap.size).category = 1 := rfl
  have hcellA : T1.heap[T.heap.size]? = some (freshCell cX kX) := by rw [← hT1]; exact State.heap_pushCell_size _ _
  have d3' : decode c.code (pc + 3) = .ok (.dup, 1) := by rw [hb]; exact d3
  have hxt : ∀ x ∈ c.exceptionTable.toList, False := by
    rw [htb, xtbl_nil hh]
    exact fun x hx => nomatch hx
  have hcls : Bundle.fit (xEx kx) = true := by rcases hk with rfl | rfl <;> decide +kernel
  have hd4 := xdA hk
  obtain ⟨U, hsteps, hrun, hend, hWm, hsame, ce, hce, hcv, hcf⟩ := xctor X₁ hx htr (own := RX11) (cls := xEx kx) (names := xnms) (ic := xcE kx) hd4.1 hd4.2.1 hd4.2.2.1 hd4.2.2.2 hown' hcls (by decide +kernel) hall (fun x hx => nomatch hx) hfX hkX hcellA (by rw [hhp, hT]; exact Nat.le_refl _) (msg := .ref (al (5000 + k))) rfl
    (g := { method := m, pc := n5, locals := lsA, stack := .ref (al (5000 + k)) :: .ref T.heap.size :: .ref T.heap.size :: st.map (xcv al), locked := none }) rfl (hl.1.trans hml.symm) rfl rfl (rest := st.map (xcv al)) rfl
    (by rw [hb]; exact d7) (by rw [hb]; exact d10) (fun x hx => (hxt x hx).elim) (by show 2 + 3 < R.frames; omega) (by show 2 * 0 + ((Value.ref T.heap.size :: st.map (xcv al)).map fun v => v.category).sum + (13 * (2 + 1) + 42) ≤ R.locals; simp only [List.map_cons, List.sum_cons, hcat]; omega) hlk
  obtain ⟨f1', f2'⟩ := vx_frame hsame
  rw [hhp] at f1' f2'
  have hWs : s.WarmedH U.vm := State.WarmedH.trans hW0 hWm
  have hcl : s.vm.findClass (xEx kx) = some ce.cls := by
    rw [hvm] at hcf
    exact hcf
  have hsm : s.sameButNew ({ U with vm := s.vm } : State) locs mc ms := by
    subst hA'
    obtain ⟨e1, e2⟩ := hsame
    rw [State.setFrames_setFrames] at e1
    have h2 : (T.setVm s.vm).sameButNew ({ U with vm := s.vm } : State) [] (0 + 1) (0 + 6) := ⟨e1, e2⟩
    have h3 := XX.same.trans h2
    rw [List.append_nil] at h3
    exact h3.mono (by omega) (by omega)
  have keep : ∀ q : Nat, q < H.size → U.heap[q]? = H[q]? := fun q hq => f2' q hq (fun z hz => nomatch hz)
  refine ⟨U, ?_, .threw T.heap.size, hrun, hend, Or.inr ⟨T.heap.size, rfl, xEx kx, ce, locs, ⟨⟨kx, h, rfl, hX, ⟨hW.1.kept (fun j q hq => keep q.1 (hW.1 j q hq).lt), hW.2.1, fun z => by cases z⟩, va_K.moved hWs.alike hK⟩, ⟨Nat.le_trans hS.1 f1', fun q h1 h2 => by rw [keep q (Nat.lt_of_lt_of_le h1 hS.1)]; exact hS.2.1 q h1 h2⟩⟩, hce, hcv, hcl, hWs, hsm, hS.2.2⟩⟩
  refine st1 _ ?_
  show Steps p.tables e below (T1.setTop { method := m, pc := pc + 3, locals := lsA, stack := .ref T.heap.size :: st.map (xcv al), locked := none }) _
  jvm_step X₁.here [X₁.here.top, hx, d3', Value.category]
  rcases hi2 with ⟨j, rfl⟩ | ⟨j, rfl⟩
  · obtain ⟨d4, rfl, hres⟩ := xft_dec hg.1 f2 rfl
    rw [hM] at hres
    obtain ⟨tx, hv⟩ := xstr hF' hres
    exact X₁.ldcString hx (own := RX11) (text := tx) (index := j) (a := al (5000 + k)) hown' hv.1 hv.2
      (g := { method := m, pc := pc + 4, locals := lsA, stack := .ref T.heap.size :: .ref T.heap.size :: st.map (xcv al), locked := none }) rfl (by rw [hb]; exact d4) _ hsteps
  · obtain ⟨d4, rfl, hres⟩ := xft_dec hg.1 f2 rfl
    rw [hM] at hres
    obtain ⟨tx, hv⟩ := xstrw hF' hres
    exact X₁.ldcStringW hx (own := RX11) (text := tx) (index := j) (a := al (5000 + k)) hown' hv.1 hv.2
      (g := { method := m, pc := pc + 4, locals := lsA, stack := .ref T.heap.size :: .ref T.heap.size :: st.map (xcv al), locked := none }) rfl (by rw [hb]; exact d4) _ hsteps
end
section
/-! CALLS OF WHAT MAY THROW -/
section XCB
variable {p : Program} {l : Launch} {e : Env} {R : Room} {s : State} {m : MethodId} {args : Array Value} {below : List Frame} {meth : Method} {c : Code} {H : Heap} {locs : List Loc} {cells slots : Nat}
theorem xbackX {M : xM} {dp kc ks kc' ks' pc nx mc ms : Nat} {D : va_G} {ka : Nat → ClassId} {al : Nat → Nat} {A : Nat → Prop} {h : xHp} {Q : xPost} {X X' : Nat → xHp → Prop} {Q' : xPost} {ls : List (Option Value)} {lsA : Array Slot} {st0 : List Value} {r : List Value} {a : Array Value} (hg : xgd M)
    (C : xCx p l s m args meth c M D ka al A) (R0 : dp ≤ R.frames ∧ 64 * dp ≤ R.locals ∧ mc ≤ R.cells ∧ ms ≤ R.slots) (B : cells + kc ≤ mc ∧ slots + ks ≤ ms) (hkc : kc' ≤ kc) (hks : ks' ≤ ks) (hW : xWd false D ka al A h H) (hS : va_S A s.heap H locs) (hl : lv_has lsA M.2.2.2.1 (xl al ls)) (hnx : nx = pc + 3)
    (hr : vx_Run p l e R s m args below meth c H locs cells slots kc' ks' (F0 m pc lsA st0) (r.map (xcv al)) (xQc false D ka al (va_A (xws ka al h) H.size) Q' a) (xXC D ka al (va_A (xws ka al h) H.size) X') (va_A (xws ka al h) H.size))
    (k : ∀ v h', Q' v h' → Ex M false dp (kc - kc') (ks - ks') nx ls (v.toList ++ r) h' Q X)
    (kx : ∀ (j : Nat) (h' : xHp) (H1 : Heap) (locs1 : List Loc) (ce : Cell) (q : Addr), X' j h' → xWd false D ka al A h' H1 → va_S A s.heap H1 locs1 → H1[q]? = some ce → ce.vm = .none → s.vm.findClass (xEx j) = some ce.cls → vx_W p l e R s m args below meth c H1 locs1 (cells + kc') (slots + ks') (vx_MQ below (xQc false D ka al A Q) (xXC D ka al A X) args s mc ms A) (F0 m pc lsA (r.map (xcv al))) q) :
    W p l e R s m args below meth c H locs cells slots (vx_MQ below (xQc false D ka al A Q) (xXC D ka al A X) args s mc ms A) (F0 m pc lsA st0) := by
  have hsub := xA_sub hW.2.1 hS C.2.2.2.2.2.2.2.2.1
  intro T hT XX
  rcases hr T hT XX with ⟨v, st₀, t, T', L, h0, X', hL, e1, e2, ⟨⟨v', h', hv, hq, hW', hK'⟩, hz, hk⟩, st⟩ | ⟨q, st₀, t, T', L, E, ce, h0, X', hL, e1, e2, ⟨⟨j, h', rfl, hq, hW', hK'⟩, hz, hk⟩, hce, hcv, hcl, st⟩
  · cases hv
    rw [h0] at hz hk
    subst hnx
    obtain ⟨t2, a1, b1⟩ := k v' h' hq hg p l e R s m args below meth c D ka al A T'.heap (locs ++ L) (cells + kc') (slots + ks') mc ms lsA C R0 ⟨by omega, by omega⟩ ⟨by rw [e1]; exact hW'.1, hW'.2.1.weaken (fun _ q _ z => hsub q.1 z), by rw [e1]; exact hW'.2.2⟩
      ⟨Nat.le_trans hS.1 (by rw [e1]; exact hz), fun q h1 h2 => by rw [e1, hk q (Nat.lt_of_lt_of_le h1 hS.1) (fun z => h2 (hsub q z))]; exact hS.2.1 q h1 h2, fun q hq => by
        rcases List.mem_append.mp hq with z | z
        · exact hS.2.2 q z
        · exact hsub _ (hL q z)⟩ hl T' rfl X'
    refine ⟨t2, st t2 ?_, b1⟩
    have : (v'.map (xcv al)).toList ++ r.map (xcv al) = (v'.toList ++ r).map (xcv al) := by cases v' <;> rfl
    rw [this]
    exact a1
  · rw [h0] at hz hk
    obtain ⟨t2, a1, b1⟩ := kx j h' T'.heap (locs ++ L) ce q hq ⟨by rw [e1]; exact hW'.1, hW'.2.1.weaken (fun _ q _ z => hsub q.1 z), fun z => by cases z⟩
      ⟨Nat.le_trans hS.1 (by rw [e1]; exact hz), fun q h1 h2 => by rw [e1, hk q (Nat.lt_of_lt_of_le h1 hS.1) (fun z => h2 (hsub q z))]; exact hS.2.1 q h1 h2, fun q hq => by
        rcases List.mem_append.mp hq with z | z
        · exact hS.2.2 q z
        · exact hsub _ (hL q z)⟩ (by rw [e1]; exact hce) hcv hcl T' rfl X'
    exact ⟨t2, st.trans a1, b1⟩
/-- it goes on to the caller -/
theorem xout {M : xM} {pc mc ms : Nat} {D : va_G} {ka : Nat → ClassId} {al : Nat → Nat} {A : Nat → Prop} {h' : xHp} {Q : xPost} {X : Nat → xHp → Prop} {lsA : Array Slot} {r : List Value} {j : Nat} {H1 : Heap} {locs1 : List Loc} {ce : Cell} {q : Addr} (C : xCx p l s m args meth c M D ka al A) (hh : xHh M.1 = []) (hX : X j h') (hW : xWd false D ka al A h' H1) (hS : va_S A s.heap H1 locs1) (hce : H1[q]? = some ce) (hcv : ce.vm = .none) (hcl : s.vm.findClass (xEx j) = some ce.cls) (hc : cells ≤ mc) (hs : slots ≤ ms) :
    vx_W p l e R s m args below meth c H1 locs1 cells slots (vx_MQ below (xQc false D ka al A Q) (xXC D ka al A X) args s mc ms A) (F0 m pc lsA r) q := by
  refine vx_out (E := xEx j) ?_ C.2.2.2.2.2.2.1 hce hcv hcl (fun t ht hvm => ⟨⟨j, h', rfl, hX, by rw [ht]; exact hW, va_K.moved hvm C.2.2.2.2.2.2.2.1⟩, hS.F ht⟩) hS.2.2 hc hs
  rw [C.2.2.2.2.2.2.2.2.2.2.2.2, xtbl_nil hh]
  exact fun x hx => nomatch hx
end XCB
set_option maxHeartbeats 4000000 in
/-- a virtual call of a method that may throw; what it throws goes on to the caller -/
theorem x_xv {M M' : xM} {dp kc ks dp' kc' ks' pc nx i ci n b : Nat} {li : Int32} {ll : Int64} {ls : List (Option Value)} {As r : List Value} {st : List Value} {h : xHp} {Q Q' : xPost} {X X' : Nat → xHp → Prop}
    (hC : Cx M' dp' kc' ks' (.ref b :: As) h Q' X') (hf : xft M.2.2.2.2.2 pc = some (nx, .invokevirtual i, [0, M'.1], li, ll)) (hh : xHh M.1 = []) (hst : st = As.reverse ++ .ref b :: r) (hn : As.length = xNp M'.1) (hm : M'.1 < 335) (hsh : xsh h.1 b = some (ci, n)) (hci : ci < 13) (hcl : M'.2.1 = ci) (hr : (r.map fun v => v.category).sum ≤ 8) (hdp : dp' + 1 ≤ dp) (hkc : kc' ≤ kc) (hks : ks' ≤ ks)
    (k : ∀ v h', Q' v h' → Ex M false dp (kc - kc') (ks - ks') nx ls (v.toList ++ r) h' Q X) (kx : ∀ j h', X' j h' → X j h') : Ex M false dp kc ks pc ls st h Q X := by
  intro hg p l e R s m args below meth c D ka al A H locs cells slots mc ms lsA C R0 B hW hS hl
  obtain ⟨hd, rfl, hres⟩ := xft_dec hg.1 hf rfl
  obtain ⟨hg', hh', hM⟩ := hC
  obtain ⟨q, hq, e1, e2, e3, e4⟩ := xlk_m (Or.inl rfl) (by decide) hres
  obtain ⟨w1, w2, w3, w4⟩ := xMk hq
  rw [e1, e2, e3, e4] at w1
  rw [e3, e4] at w2
  rw [e4] at w3 w4
  have hts := C.2.2.2.2.2.1
  have hw1 : Cond.methodLink (xOwn M.2.1) i (xY M'.1) ∈ xTG := xTG_in w1 rfl
  have hcs : (xY M'.1).cls = xOwn ci := by rw [hg'.2.2.1, hcl]
  have hmL := hg'.2.2.2.2.1
  refine xbackX (Q' := Q') (X' := X') (a := (Value.ref (al b) :: As.map (xcv al)).toArray) hg C R0 B hkc hks hW hS hl rfl (vx_runV (Ts := xTG) (own := xOwn M.2.1) (C := (xY M'.1).cls) (As := As.map (xcv al)) (bytes := M'.2.2.1) (maxL := M'.2.2.2.1) (ret := M'.2.2.2.2.1) ⟨C.1, C.2.1, C.2.2.2.1, C.2.2.2.2.1, hts⟩ (hM l C.2.2.2.2.2.2.2.2.2.2.1 D ka al H.size) ⟨callB_of As.length hts (xGoodIn hg' hh') (by rw [← xcw_code hh']; rfl) rfl rfl (hts _ w4) (hts _ hw1) ⟨hg'.2.2.2.2.2.1, hg'.2.2.2.2.2.2, by rw [hn]; exact xNp_ok _ hm⟩ ⟨by show dp' + 1 ≤ R.frames; omega, by show 8 + (M'.2.2.2.1 + 11) + 64 * dp' ≤ R.locals; omega⟩, hts _ w2, hts _ (w3 e3)⟩ ⟨xPc_blind, ?_, ?_⟩ rfl (by simp) hl.1 ?_ (lv_room ?_) hd ⟨by omega, by omega⟩) k (fun j h' H1 locs1 ce q9 hx9 hW9 hS9 hce hcv hcl9 => xout C hh (kx j h' hx9) hW9 hS9 hce hcv hcl9 (by omega) (by omega))
  · obtain ⟨T, hT1, -⟩ := xvw hci
    have hw := xws_get (ka := ka) (al := al) (xsh_get hsh)
    rw [xcell_obj (by omega)] at hw
    rw [hcs]
    exact va_recv C.2.2.2.2.2.2.2.1 hW.1 hT1 hw
  · exact xpre (av := .ref b :: As) C hW hS
  · show List.map (xcv al) st = _
    rw [hst]
    simp [xcv]
  · simpa [xcv_cat, Function.comp_def] using hr
set_option maxHeartbeats 4000000 in
/-- a static call of a method that may throw -/
theorem x_xs {M M' : xM} {dp kc ks dp' kc' ks' pc nx i : Nat} {li : Int32} {ll : Int64} {ls : List (Option Value)} {As r : List Value} {st : List Value} {h : xHp} {Q Q' : xPost} {X X' : Nat → xHp → Prop}
    (hC : Cx M' dp' kc' ks' As h Q' X') (hf : xft M.2.2.2.2.2 pc = some (nx, .invokestatic i, [1, M'.1], li, ll)) (hh : xHh M.1 = []) (hst : st = As.reverse ++ r) (hn : As.length = xNp M'.1) (hm : M'.1 < 335) (hr : (r.map fun v => v.category).sum ≤ 8) (hdp : dp' + 1 ≤ dp) (hkc : kc' ≤ kc) (hks : ks' ≤ ks)
    (k : ∀ v h', Q' v h' → Ex M false dp (kc - kc') (ks - ks') nx ls (v.toList ++ r) h' Q X) (kx : ∀ j h', X' j h' → X j h') : Ex M false dp kc ks pc ls st h Q X := by
  intro hg p l e R s m args below meth c D ka al A H locs cells slots mc ms lsA C R0 B hW hS hl
  obtain ⟨hd, rfl, hres⟩ := xft_dec hg.1 hf rfl
  obtain ⟨hg', hh', hM⟩ := hC
  obtain ⟨q, hq, e1, e2, e3, e4⟩ := xlk_m (Or.inr (Or.inl rfl)) (by decide) hres
  obtain ⟨w1, w2, -, w4⟩ := xMk hq
  rw [e1, e2, e3, e4] at w1
  rw [e3, e4] at w2
  rw [e4] at w4
  have hts := C.2.2.2.2.2.1
  have hw1 : Cond.methodLink (xOwn M.2.1) i (xY M'.1) ∈ xTG := xTG_in w1 rfl
  have hmL := hg'.2.2.2.2.1
  refine xbackX (Q' := Q') (X' := X') (a := (As.map (xcv al)).toArray) hg C R0 B hkc hks hW hS hl rfl (vx_runS (Ts := xTG) (own := xOwn M.2.1) (As := As.map (xcv al)) (bytes := M'.2.2.1) (maxL := M'.2.2.2.1) (ret := M'.2.2.2.2.1) ⟨C.1, C.2.1, C.2.2.2.1, C.2.2.2.2.1, hts⟩ (hM l C.2.2.2.2.2.2.2.2.2.2.1 D ka al H.size) ⟨callB_of As.length hts (xGoodIn hg' hh') (by rw [← xcw_code hh']; rfl) rfl rfl (hts _ w4) (hts _ hw1) ⟨hg'.2.2.2.2.2.1, hg'.2.2.2.2.2.2, by rw [hn]; exact xNp_ok _ hm⟩ ⟨by show dp' + 1 ≤ R.frames; omega, by show 8 + (M'.2.2.2.1 + 11) + 64 * dp' ≤ R.locals; omega⟩, hts _ w2⟩ ⟨xPc_blind, xpre (av := As) C hW hS⟩ rfl (by simp) hl.1 ?_ (lv_room ?_) hd ⟨by omega, by omega⟩) k (fun j h' H1 locs1 ce q9 hx9 hW9 hS9 hce hcv hcl9 => xout C hh (kx j h' hx9) hW9 hS9 hce hcv hcl9 (by omega) (by omega))
  · show List.map (xcv al) st = _
    rw [hst]
    simp
  · simpa [xcv_cat, Function.comp_def] using hr
end
section
/-! THE LAW'S HELPERS: a call in a try, and the call of such a helper -/
theorem xkL13 : Cond.classLink RL 13 "java/lang/IllegalArgumentException" ∈ xTG := xTG_in (xat_in (p := 3143) (by decide +kernel)) rfl
theorem xkL18 : Cond.classLink RL 18 "java/util/NoSuchElementException" ∈ xTG := xTG_in (xat_in (p := 4154) (by decide +kernel)) rfl
/-- where what is thrown is caught -/
def xhnd : List (Nat × Nat × Nat × Nat) → Nat → Nat → Option Nat
  | [], _, _ => none
  | q :: t, pc, j => if q.1 ≤ pc ∧ pc < q.2.1 ∧ ((j = 1 ∧ q.2.2.2 = 18) ∨ (j = 0 ∧ q.2.2.2 = 13)) then some q.2.2.1 else if j = 0 ∧ q.2.2.2 = 18 then xhnd t pc j else none
section XCW
variable {p : Program} {l : Launch} {e : Env} {R : Room} {s : State} {m : MethodId} {args : Array Value} {below : List Frame} {meth : Method} {c : Code} {H : Heap} {locs : List Loc} {cells slots : Nat} {Q : State → Prop}
theorem xcatchW {M : xM} {D : va_G} {ka : Nat → ClassId} {al : Nat → Nat} {A : Nat → Prop} {lsA : Array Slot} {r : List Value} {j pc hp : Nat} {H1 : Heap} {locs1 : List Loc} {ce : Cell} {q : Addr} (C : xCx p l s m args meth c M D ka al A) (hM : M.2.1 = 13) (hj : j = 0 ∨ j = 1) (hce : H1[q]? = some ce) (hcv : ce.vm = .none) (hcl : s.vm.findClass (xEx j) = some ce.cls)
    (kk : W p l e R s m args below meth c H1 locs1 cells slots Q (F0 m hp lsA [.ref q])) :
    ∀ (hh : List (Nat × Nat × Nat × Nat)) (pre : List ExceptionTableEntry), c.exceptionTable.toList = pre ++ tableOf hh → (∀ z ∈ pre, covers z pc = false ∨ (z.catchType ≠ 0 ∧ ∃ nm : String, (Cond.classLink RL z.catchType nm).before args s = true ∧ va_Nc (xEx j) nm s)) → xhnd hh pc j = some hp →
      vx_W p l e R s m args below meth c H1 locs1 cells slots Q (F0 m pc lsA r) q
  | [], pre, ht, hp9, hx => by cases hx
  | x :: t, pre, ht, hp9, hx => by
    have hown : s.vm.findClass RL = some m.cls := by
      have h := C.2.2.2.2.1
      rw [hM] at h
      exact h
    have hts := C.2.2.2.2.2.1
    have hF := C.2.2.2.2.2.2.2.2.2.1
    unfold xhnd at hx
    split at hx
    · rename_i hc
      cases hx
      obtain ⟨c1, c2, c3⟩ := hc
      have hcv2 : covers ⟨x.1, x.2.1, x.2.2.1, x.2.2.2⟩ pc = true := by simp [covers, c1, c2]
      rcases c3 with ⟨rfl, hct⟩ | ⟨rfl, hct⟩
      · exact vx_catch (own := RL) (name := "java/util/NoSuchElementException") (E := xEx 1) hown pre ⟨x.1, x.2.1, x.2.2.1, x.2.2.2⟩ (tableOf t) ht hp9 hcv2 (by show x.2.2.2 ≠ 0; rw [hct]; decide) (by show (Cond.classLink RL x.2.2.2 _).before args s = true; rw [hct]; exact hts _ xkL18) (va_Nw.use rfl (hF.2.2.2.2.2.2 (.castable "java/util/NoSuchElementException" "java/util/NoSuchElementException") (by simp [xBad]))) hce hcv hcl kk
      · exact vx_catch (own := RL) (name := "java/lang/IllegalArgumentException") (E := xEx 0) hown pre ⟨x.1, x.2.1, x.2.2.1, x.2.2.2⟩ (tableOf t) ht hp9 hcv2 (by show x.2.2.2 ≠ 0; rw [hct]; decide) (by show (Cond.classLink RL x.2.2.2 _).before args s = true; rw [hct]; exact hts _ xkL13) (va_Nw.use rfl (hF.2.2.2.2.2.2 (.castable "java/lang/IllegalArgumentException" "java/lang/IllegalArgumentException") (by simp [xBad]))) hce hcv hcl kk
    · split at hx
      · rename_i hc
        obtain ⟨rfl, hct⟩ := hc
        refine xcatchW C hM hj hce hcv hcl kk t (pre ++ [⟨x.1, x.2.1, x.2.2.1, x.2.2.2⟩]) (by rw [ht, List.append_assoc]; rfl) ?_ hx
        intro z hz
        rcases List.mem_append.mp hz with hz | hz
        · exact hp9 z hz
        · rw [List.mem_singleton] at hz
          subst hz
          exact Or.inr ⟨by show x.2.2.2 ≠ 0; rw [hct]; decide, "java/util/NoSuchElementException", by show (Cond.classLink RL x.2.2.2 _).before args s = true; rw [hct]; exact hts _ xkL18, hF.2.2.2.2.2.1⟩
      · cases hx
end XCW
set_option maxHeartbeats 4000000 in
/-- a virtual call in a try: what it throws is caught here; behind the catch nothing is known of the locals -/
theorem x_xcv {M M' : xM} {dp kc ks dp' kc' ks' pc nx i ci n b : Nat} {li : Int32} {ll : Int64} {ls : List (Option Value)} {As r : List Value} {st : List Value} {h : xHp} {Q Q' : xPost} {X X' : Nat → xHp → Prop}
    (hC : Cx M' dp' kc' ks' (.ref b :: As) h Q' X') (hf : xft M.2.2.2.2.2 pc = some (nx, .invokevirtual i, [0, M'.1], li, ll)) (hMo : M.2.1 = 13) (hst : st = As.reverse ++ .ref b :: r) (hn : As.length = xNp M'.1) (hm : M'.1 < 335) (hsh : xsh h.1 b = some (ci, n)) (hci : ci < 13) (hcl : M'.2.1 = ci) (hr : (r.map fun v => v.category).sum ≤ 8) (hdp : dp' + 1 ≤ dp) (hkc : kc' ≤ kc) (hks : ks' ≤ ks)
    (k : ∀ v h', Q' v h' → Ex M false dp (kc - kc') (ks - ks') nx ls (v.toList ++ r) h' Q X)
    (kx : ∀ j h', X' j h' → (j = 0 ∨ j = 1) ∧ ∃ hp nxh ia rs li ll, xhnd (xHh M.1) pc j = some hp ∧ xft M.2.2.2.2.2 hp = some (nxh, ia, rs, li, ll) ∧ ((∃ q, ia = .astore q ∧ q < M.2.2.2.1) ∨ (∃ q : Fin 4, ia = .astore_n q ∧ (q : Nat) < M.2.2.2.1)) ∧ Ex M false dp (kc - kc') (ks - ks') nxh [] [] h' Q X) : Ex M false dp kc ks pc ls st h Q X := by
  intro hg p l e R s m args below meth c D ka al A H locs cells slots mc ms lsA C R0 B hW hS hl
  obtain ⟨hd, rfl, hres⟩ := xft_dec hg.1 hf rfl
  obtain ⟨hg', hh', hM⟩ := hC
  obtain ⟨q, hq, e1, e2, e3, e4⟩ := xlk_m (Or.inl rfl) (by decide) hres
  obtain ⟨w1, w2, w3, w4⟩ := xMk hq
  rw [e1, e2, e3, e4] at w1
  rw [e3, e4] at w2
  rw [e4] at w3 w4
  have hts := C.2.2.2.2.2.1
  have hw1 : Cond.methodLink (xOwn M.2.1) i (xY M'.1) ∈ xTG := xTG_in w1 rfl
  have hcs : (xY M'.1).cls = xOwn ci := by rw [hg'.2.2.1, hcl]
  have hmL := hg'.2.2.2.2.1
  refine xbackX (Q' := Q') (X' := X') (a := (Value.ref (al b) :: As.map (xcv al)).toArray) hg C R0 B hkc hks hW hS hl rfl (vx_runV (Ts := xTG) (own := xOwn M.2.1) (C := (xY M'.1).cls) (As := As.map (xcv al)) (bytes := M'.2.2.1) (maxL := M'.2.2.2.1) (ret := M'.2.2.2.2.1) ⟨C.1, C.2.1, C.2.2.2.1, C.2.2.2.2.1, hts⟩ (hM l C.2.2.2.2.2.2.2.2.2.2.1 D ka al H.size) ⟨callB_of As.length hts (xGoodIn hg' hh') (by rw [← xcw_code hh']; rfl) rfl rfl (hts _ w4) (hts _ hw1) ⟨hg'.2.2.2.2.2.1, hg'.2.2.2.2.2.2, by rw [hn]; exact xNp_ok _ hm⟩ ⟨by show dp' + 1 ≤ R.frames; omega, by show 8 + (M'.2.2.2.1 + 11) + 64 * dp' ≤ R.locals; omega⟩, hts _ w2, hts _ (w3 e3)⟩ ⟨xPc_blind, ?_, ?_⟩ rfl (by simp) hl.1 ?_ (lv_room ?_) hd ⟨by omega, by omega⟩) k ?_
  · obtain ⟨T, hT1, -⟩ := xvw hci
    have hw := xws_get (ka := ka) (al := al) (xsh_get hsh)
    rw [xcell_obj (by omega)] at hw
    rw [hcs]
    exact va_recv C.2.2.2.2.2.2.2.1 hW.1 hT1 hw
  · exact xpre (av := .ref b :: As) C hW hS
  · show List.map (xcv al) st = _
    rw [hst]
    simp [xcv]
  · simpa [xcv_cat, Function.comp_def] using hr
  · intro j h' H1 locs1 ce q9 hx9 hW9 hS9 hce hcv hcl9
    obtain ⟨hj, hp, nxh, ia, rs2, li2, ll2, a1, a2, a3, a4⟩ := kx j h' hx9
    refine xcatchW C hMo hj hce hcv hcl9 ?_ (xHh M.1) [] C.2.2.2.2.2.2.2.2.2.2.2.2 (fun z hz => nomatch hz) a1
    have K := fun lsB hlB => a4 hg p l e R s m args below meth c D ka al A H1 locs1 (cells + kc') (slots + ks') mc ms lsB C R0 ⟨by omega, by omega⟩ hW9 hS9 hlB
    rcases a3 with ⟨jj, rfl, hlt⟩ | ⟨jj, rfl, hlt⟩
    · obtain ⟨hd2, rfl, -⟩ := xft_dec hg.1 a2 rfl
      exact lv_astore C.1 C.2.1 hd2 hl hlt rfl fun lsB hlB => K lsB (xl_sub hlB (fun q hq => nomatch hq))
    · obtain ⟨hd2, rfl, -⟩ := xft_dec hg.1 a2 rfl
      exact lv_astore_n C.1 C.2.1 hd2 rfl hl hlt rfl fun lsB hlB => K lsB (xl_sub hlB (fun q hq => nomatch hq))
/-- a helper's contract -/
def Ch (M : xM) (dp kc ks : Nat) (av : List Value) (h : xHp) (Q : xPost) : Prop :=
  xgd M ∧ xHh M.1 ≠ [] ∧ ∀ (l : Launch), l.stackTraces = false → ∀ (D : va_G) (ka : Nat → ClassId) (al : Nat → Nat) (sz : Nat),
    Met l (xY M.1) (xwM M) (xrm dp kc ks) (xPc false D ka al av h sz) (xQc false D ka al (va_A (xws ka al h) sz) Q) kc ks (va_A (xws ka al h) sz)
theorem xcw_with {M : xM} (h : xHh M.1 ≠ []) : xcw M = .codeWith (xY M.1) M.2.2.1 M.2.2.2.1 M.2.2.2.2.1 (xHh M.1) := by
  unfold xcw
  split
  · rename_i e
    exact absurd e h
  · rfl
set_option maxHeartbeats 4000000 in
theorem Ch.intro {M : xM} {dp kc ks : Nat} {av : List Value} {ls : List (Option Value)} {h : xHp} {Q : xPost} (hg : xgd M) (hh : xHh M.1 ≠ []) (hn : (xent av).length ≤ M.2.2.2.1) (hls : xpad M.2.2.2.1 (xent av) = ls) (k : Ex M false dp kc ks 0 ls [] h Q (fun _ _ => False)) : Ch M dp kc ks av h Q := by
  refine ⟨hg, hh, fun l hl D ka al sz => va_MetW (cc := M.2.2.1) (maxL := M.2.2.2.1) (ret := M.2.2.2.2.1) (hh := xHh M.1) hg.2.2.2.1 (by rw [← xcw_with hh]; rfl) ?_⟩
  intro p e s m args below meth c s₁ B hml hv
  obtain ⟨rfl, hsz, hW, hK, hF⟩ := hv
  have hts := atoms_spec (ws := xwM M) B.pre
  have hcd := hts _ List.mem_cons_self
  rw [xcw_with hh] at hcd
  subst hsz
  rw [lg_entry_eq]
  refine xno_throw (k hg p l e _ s m _ below meth c D ka al _ s.heap [] 0 0 kc ks _ ⟨B.exec, B.bytes, B.returns, hml, ?_, fun w hw => hts w (List.mem_cons_of_mem _ hw), B.notSynchronized, hK, fun q hq => Or.inr hq, hF, hl, (name_of_methodNamed B.named B.method).1, vx_table (x := xY M.1) B hcd⟩ ⟨Nat.le_refl _, Nat.le_refl _, Nat.le_refl _, Nat.le_refl _⟩ ⟨by omega, by omega⟩ hW va_S.rf (xl_entry hn hls))
  rw [← hg.2.2.1]
  exact findClass_of_methodNamed B.named
set_option maxHeartbeats 4000000 in
/-- a static call of a helper -/
theorem x_ch {M M' : xM} {dp kc ks dp' kc' ks' pc nx i : Nat} {li : Int32} {ll : Int64} {ls : List (Option Value)} {As r : List Value} {st : List Value} {h : xHp} {Q Q' : xPost} {X : Nat → xHp → Prop}
    (hC : Ch M' dp' kc' ks' As h Q') (hf : xft M.2.2.2.2.2 pc = some (nx, .invokestatic i, [1, M'.1], li, ll)) (hst : st = As.reverse ++ r) (hn : As.length = xNp M'.1) (hm : M'.1 < 335) (hr : (r.map fun v => v.category).sum ≤ 8) (hdp : dp' + 1 ≤ dp) (hkc : kc' ≤ kc) (hks : ks' ≤ ks)
    (k : ∀ v h', Q' v h' → Ex M false dp (kc - kc') (ks - ks') nx ls (v.toList ++ r) h' Q X) : Ex M false dp kc ks pc ls st h Q X := by
  intro hg p l e R s m args below meth c D ka al A H locs cells slots mc ms lsA C R0 B hW hS hl
  obtain ⟨hd, rfl, hres⟩ := xft_dec hg.1 hf rfl
  obtain ⟨hg', hh', hM⟩ := hC
  obtain ⟨q, hq, e1, e2, e3, e4⟩ := xlk_m (Or.inr (Or.inl rfl)) (by decide) hres
  obtain ⟨w1, w2, -, w4⟩ := xMk hq
  rw [e1, e2, e3, e4] at w1
  rw [e3, e4] at w2
  rw [e4] at w4
  have hts := C.2.2.2.2.2.1
  have hw1 : Cond.methodLink (xOwn M.2.1) i (xY M'.1) ∈ xTG := xTG_in w1 rfl
  have hmL := hg'.2.2.2.2.1
  have hcw : xcw M' ∈ xTG := xTG_in hg'.2.1 (by rw [xcw_with hh']; rfl)
  have hGI : GoodIn xTG (va_wsS (xOwn M.2.1) i (xY M'.1) (xwM M')) := by
    intro w hw
    have : w ∈ xTG := by
      unfold va_wsS at hw
      rcases List.mem_append.mp hw with z | z
      · simp only [List.mem_cons, List.not_mem_nil, or_false] at z
        rcases z with rfl | rfl | rfl
        · exact hw1
        · exact w2
        · exact w4
      · rcases List.mem_cons.mp z with rfl | z
        · exact hcw
        · exact z
    exact ⟨this, xTG_good _ this⟩
  refine xback (Q' := Q') (a := (As.map (xcv al)).toArray) hg C R0 B hkc hks hW hS hl rfl (vx_runSW (Ts := xTG) (own := xOwn M.2.1) (As := As.map (xcv al)) (bytes := M'.2.2.1) (maxL := M'.2.2.2.1) (ret := M'.2.2.2.2.1) (hh := xHh M'.1) ⟨C.1, C.2.1, C.2.2.2.1, C.2.2.2.2.1, hts⟩ (hM l C.2.2.2.2.2.2.2.2.2.2.1 D ka al H.size) (vx_cwSW As.length hts hGI (by rw [← xcw_with hh']; rfl) rfl rfl ⟨hg'.2.2.2.2.2.1, hg'.2.2.2.2.2.2, by rw [hn]; exact xNp_ok _ hm⟩ ⟨by show dp' + 1 ≤ R.frames; omega, by show 8 + (M'.2.2.2.1 + 11) + 64 * dp' ≤ R.locals; omega⟩) ⟨xPc_blind, xpre (av := As) C hW hS⟩ rfl (by simp) hl.1 ?_ (lv_room ?_) hd ⟨by omega, by omega⟩) k
  · show List.map (xcv al) st = _
    rw [hst]
    simp
  · simpa [xcv_cat, Function.comp_def] using hr
end
section
/-! System.arraycopy between int arrays -/
def upC (d : Nat → Nat → Int32) (b : Nat) (f : Nat → Int32) : Nat → Nat → Int32 := fun c k => if c = b then f k else d c k
def xqC (h : xHp) (b : Nat) (f : (Nat → Nat → Int32) → Nat → Int32) : Option xHp := match h with
  | (sh, d, L, r) => some (sh, upC d b (f d), L, r)
theorem upC_ne {d : Nat → Nat → Int32} {b c : Nat} {f : Nat → Int32} (h : c ≠ b) : upC d b f c = d c := by
  funext k
  simp [upC, h]
theorem upC_eq {d : Nat → Nat → Int32} {b : Nat} {f : Nat → Int32} : upC d b f b = f := by
  funext k
  simp [upC]
set_option maxHeartbeats 4000000 in
theorem x_acp {M : xM} {dp kc ks pc nx i mid : Nat} {li : Int32} {ll : Int64} {ls : List (Option Value)} {st : List Value} {h h' : xHp} {Q : xPost} {X : Nat → xHp → Prop} {a b na nb sn dn n : Nat} {si di ni : Int32}
    (hf : xft M.2.2.2.2.2 pc = some (nx, .invokestatic i, [14, mid], li, ll)) (ha : xsh h.1 a = some (100, na)) (hb0 : xsh h.1 b = some (100, nb)) (hs : si = nI sn) (hd0 : di = nI dn) (hn : ni = nI n) (h1 : sn + n ≤ na) (h2 : dn + n ≤ nb) (hna : na < 2147483648) (hnb : nb < 2147483648) (hdp : 2 ≤ dp) (hst : (st.map fun v => v.category).sum ≤ 8)
    (hq : xqC h b (fun d => va_cpy (d a) (d b) sn dn n) = some h') (k : Ex M false dp kc ks nx ls st h' Q X) : Ex M false dp kc ks pc ls (.int ni :: .int di :: .ref b :: .int si :: .ref a :: st) h Q X := by
  intro hg p l e R s m args below meth c D ka al A H locs cells slots mc ms lsA C R0 B hW hS hl
  obtain ⟨hd, rfl, hres⟩ := xft_dec hg.1 hf rfl
  have hts := C.2.2.2.2.2.1
  have hst' := xst_cat (al := al) hst
  subst hs
  subst hd0
  subst hn
  obtain ⟨sh, d, L, r⟩ := h
  cases hq
  have hc1 := xsh_get ha
  have hc2 := xsh_get hb0
  have q1 : (nI sn).toNatClampNeg = sn := nI_clamp (by omega)
  have q2 : (nI dn).toNatClampNeg = dn := nI_clamp (by omega)
  have q3 : (nI n).toNatClampNeg = n := nI_clamp (by omega)
  have hw : nativeFrameWords "java/lang/System" "arraycopy" 5 ≤ 60 := by decide +kernel
  refine va_copyi (f := d a) (g := d b) (ty := .int) C.1 C.2.1 (C.2.2.2.1.trans hl.1.symm) C.2.2.2.2.1 (hts _ (xlk_n (Or.inr (Or.inl rfl)) (by decide) hres)) (hts _ xN_sy.1) (hts _ xN_sy.2.1) (hts _ xN_sy.2.2) C.2.2.2.2.2.2.2.1 hW.1 hW.2.1 hS a b 0 0 (xws_get hc1) (xws_get hc2) rfl rfl rfl (nI_pos (by omega)) (nI_pos (by omega)) (nI_pos (by omega)) (by rw [q1, q3]; exact h1) (by rw [q2, q3]; exact h2) (fun _ _ => rfl) (by omega) (by omega) hd fun H1 locs1 hP1 hD1 hS1 => ?_
  rw [q1, q2, q3] at hP1 hD1
  have ew := xws_set (ka := ka) (al := al) (h := (sh, d, L, r)) (h' := (sh, upC d b (va_cpy (d a) (d b) sn dn n), L, r)) rfl hc2 (fun _ hne _ _ => xcell_cong (upC_ne hne) rfl rfl)
  rw [show xcell ka al (sh, upC d b (va_cpy (d a) (d b) sn dn n), L, r) b 100 nb = Sum.inl (ka 100, nb, Sum.inl (va_cpy (d a) (d b) sn dn n)) by show Sum.inl (ka 100, nb, Sum.inl (upC d b (va_cpy (d a) (d b) sn dn n) b)) = _; rw [upC_eq]] at ew
  exact k hg p l e R s m args below meth c D ka al A H1 locs1 cells slots mc ms lsA C R0 B ⟨by rw [ew]; exact hP1, by rw [ew]; exact hD1, fun z => by cases z⟩ hS1 hl
end
section
/-! STRINGS: the methods of the JDK that isWord needs, over the constants (cells 5000 and on; their bytes: 6000 and on) -/
set_option maxRecDepth 100000 in
def pJ0_length_8abf5 : List xRow := [(0, 1, .aload_n 0, [], 0, 0),
  (1, 4, .getfield 9, [], 0, 0),
  (4, 5, .arraylength, [], 0, 0),
  (5, 6, .aload_n 0, [], 0, 0),
  (6, 9, .invokevirtual 335, [0, 292], 0, 0),
  (9, 10, .ishr, [], 0, 0),
  (10, 11, .ireturn, [], 0, 0)]
def mJ0_length_8abf5 : xM := (290, 16, cJ0_length_8abf5, 1, (some .int), pJ0_length_8abf5)
set_option maxRecDepth 100000 in
theorem gJ0_length_8abf5 : xgd mJ0_length_8abf5 := ⟨by decide +kernel, xat_in (p := 4005) rfl, by decide +kernel, by decide +kernel, by decide, by decide +kernel, by decide +kernel⟩
set_option maxRecDepth 100000 in
def pJ0_charAt_5068e : List xRow := [(0, 1, .aload_n 0, [], 0, 0),
  (1, 4, .invokevirtual 492, [0, 293], 0, 0),
  (4, 7, .ifCond .eq 12, [16], 0, 0),
  (7, 8, .aload_n 0, [], 0, 0),
  (8, 11, .getfield 9, [], 0, 0),
  (11, 12, .iload_n 1, [], 0, 0),
  (12, 15, .invokestatic 495, [1, 295], 0, 0),
  (15, 16, .ireturn, [], 0, 0),
  (16, 17, .aload_n 0, [], 0, 0),
  (17, 20, .getfield 9, [], 0, 0),
  (20, 21, .iload_n 1, [], 0, 0),
  (21, 24, .invokestatic 498, [1, 298], 0, 0),
  (24, 25, .ireturn, [], 0, 0)]
def mJ0_charAt_5068e : xM := (291, 16, cJ0_charAt_5068e, 2, (some .char), pJ0_charAt_5068e)
set_option maxRecDepth 100000 in
theorem gJ0_charAt_5068e : xgd mJ0_charAt_5068e := ⟨by decide +kernel, xat_in (p := 4015) rfl, by decide +kernel, by decide +kernel, by decide, by decide +kernel, by decide +kernel⟩
set_option maxRecDepth 100000 in
def pJ0_coder_7d493 : List xRow := [(0, 3, .getstatic 38, [], 0, 0),
  (3, 6, .ifCond .eq 10, [13], 0, 0),
  (6, 7, .aload_n 0, [], 0, 0),
  (7, 10, .getfield 15, [], 0, 0),
  (10, 13, .goto 4, [14], 0, 0),
  (13, 14, .iconst 1, [], 1, 0),
  (14, 15, .ireturn, [], 0, 0)]
def mJ0_coder_7d493 : xM := (292, 16, cJ0_coder_7d493, 1, (some .byte), pJ0_coder_7d493)
set_option maxRecDepth 100000 in
theorem gJ0_coder_7d493 : xgd mJ0_coder_7d493 := ⟨by decide +kernel, xat_in (p := 4009) rfl, by decide +kernel, by decide +kernel, by decide, by decide +kernel, by decide +kernel⟩
set_option maxRecDepth 100000 in
def pJ0_isLatin1_aae02 : List xRow := [(0, 3, .getstatic 38, [], 0, 0),
  (3, 6, .ifCond .eq 14, [17], 0, 0),
  (6, 7, .aload_n 0, [], 0, 0),
  (7, 10, .getfield 15, [], 0, 0),
  (10, 13, .ifCond .ne 7, [17], 0, 0),
  (13, 14, .iconst 1, [], 1, 0),
  (14, 17, .goto 4, [18], 0, 0),
  (17, 18, .iconst 0, [], 0, 0),
  (18, 19, .ireturn, [], 0, 0)]
def mJ0_isLatin1_aae02 : xM := (293, 16, cJ0_isLatin1_aae02, 1, (some .boolean), pJ0_isLatin1_aae02)
set_option maxRecDepth 100000 in
theorem gJ0_isLatin1_aae02 : xgd mJ0_isLatin1_aae02 := ⟨by decide +kernel, xat_in (p := 4019) rfl, by decide +kernel, by decide +kernel, by decide, by decide +kernel, by decide +kernel⟩
set_option maxRecDepth 100000 in
def pJ0_checkIndex_df160 : List xRow := [(0, 1, .iload_n 0, [], 0, 0),
  (1, 2, .iload_n 1, [], 0, 0),
  (2, 5, .getstatic 1053, [], 0, 0),
  (5, 8, .invokestatic 1059, [1, 301], 0, 0),
  (8, 9, .pop, [], 0, 0),
  (9, 10, .return_, [], 0, 0)]
def mJ0_checkIndex_df160 : xM := (294, 16, cJ0_checkIndex_df160, 2, none, pJ0_checkIndex_df160)
set_option maxRecDepth 100000 in
theorem gJ0_checkIndex_df160 : xgd mJ0_checkIndex_df160 := ⟨by decide +kernel, xat_in (p := 4025) rfl, by decide +kernel, by decide +kernel, by decide, by decide +kernel, by decide +kernel⟩
set_option maxRecDepth 100000 in
def pJ1_charAt_3b067 : List xRow := [(0, 1, .iload_n 1, [], 0, 0),
  (1, 2, .aload_n 0, [], 0, 0),
  (2, 3, .arraylength, [], 0, 0),
  (3, 6, .invokestatic 9, [1, 294], 0, 0),
  (6, 7, .aload_n 0, [], 0, 0),
  (7, 8, .iload_n 1, [], 0, 0),
  (8, 9, .baload, [], 0, 0),
  (9, 12, .sipush 255, [], 255, 0),
  (12, 13, .iand, [], 0, 0),
  (13, 14, .i2c, [], 0, 0),
  (14, 15, .ireturn, [], 0, 0)]
def mJ1_charAt_3b067 : xM := (295, 17, cJ1_charAt_3b067, 2, (some .char), pJ1_charAt_3b067)
set_option maxRecDepth 100000 in
theorem gJ1_charAt_3b067 : xgd mJ1_charAt_3b067 := ⟨by decide +kernel, xat_in (p := 4022) rfl, by decide +kernel, by decide +kernel, by decide, by decide +kernel, by decide +kernel⟩
set_option maxRecDepth 100000 in
def pJ3_checkIndex_8e157 : List xRow := [(0, 1, .iload_n 0, [], 0, 0),
  (1, 4, .ifCond .lt 8, [9], 0, 0),
  (4, 5, .iload_n 0, [], 0, 0),
  (5, 6, .iload_n 1, [], 0, 0),
  (6, 9, .if_icmp .lt 10, [16], 0, 0),
  (9, 10, .aload_n 2, [], 0, 0),
  (10, 11, .iload_n 0, [], 0, 0),
  (11, 12, .iload_n 1, [], 0, 0),
  (12, 15, .invokestatic 95, [], 0, 0),
  (15, 16, .athrow, [], 0, 0),
  (16, 17, .iload_n 0, [], 0, 0),
  (17, 18, .ireturn, [], 0, 0)]
def mJ3_checkIndex_8e157 : xM := (301, 18, cJ3_checkIndex_8e157, 3, (some .int), pJ3_checkIndex_8e157)
set_option maxRecDepth 100000 in
theorem gJ3_checkIndex_8e157 : xgd mJ3_checkIndex_8e157 := ⟨by decide +kernel, xat_in (p := 4030) rfl, by decide +kernel, by decide +kernel, by decide, by decide +kernel, by decide +kernel⟩
section XST
variable {M : xM} {fr : Bool} {dp kc ks pc nx i j : Nat} {rs : List Nat} {li : Int32} {ll : Int64} {ls : List (Option Value)} {st : List Value} {h : xHp} {Q : xPost} {X : Nat → xHp → Prop} {q : String × Nat × String × List Int32}
theorem xL_val : Cond.fieldLink RJ0 9 "java/lang/String" "value" "[B" ∈ xTG := xTG_in (xat_in (p := 9094) (by decide +kernel)) rfl
theorem xL_cod : Cond.fieldLink RJ0 15 "java/lang/String" "coder" "B" ∈ xTG := xTG_in (xat_in (p := 9095) (by decide +kernel)) rfl
theorem xL_cmp : Cond.fieldLink RJ0 38 "java/lang/String" "COMPACT_STRINGS" "Z" ∈ xTG := xTG_in (xat_in (p := 4010) (by decide +kernel)) rfl
theorem xL_sio : Cond.fieldLink RJ0 1053 "jdk/internal/util/Preconditions" "SIOOBE_FORMATTER" "Ljava/util/function/BiFunction;" ∈ xTG := xTG_in (xat_in (p := 4026) (by decide +kernel)) rfl
theorem x_sval (hi : xSL[i]? = some q) (hM : M.2.1 = 16) (hf : xft M.2.2.2.2.2 pc = some (nx, .getfield 9, rs, li, ll)) (k : Ex M fr dp kc ks nx ls (.ref (6000 + i) :: st) h Q X) : Ex M fr dp kc ks pc ls (.ref (5000 + i) :: st) h Q X := by
  intro hg p l e R s m args below meth c D ka al A H locs cells slots mc ms lsA C R0 B hW hS hl
  obtain ⟨hd, rfl, -⟩ := xft_dec hg.1 hf rfl
  have hF := C.2.2.2.2.2.2.2.2.2.1
  have hown := C.2.2.2.2.1
  rw [hM] at hown
  exact vk_getf (own := RJ0) C.1 C.2.1 (hF.2.1 i q hi).2.2.2.1 hS hown (C.2.2.2.2.2.1 _ xL_val) (fun x h => h) hd (k hg p l e R s m args below meth c D ka al A H locs cells slots mc ms lsA C R0 B hW hS hl)
theorem x_scod (hi : xSL[i]? = some q) (hM : M.2.1 = 16) (hf : xft M.2.2.2.2.2 pc = some (nx, .getfield 15, rs, li, ll)) (k : Ex M fr dp kc ks nx ls (.int 0 :: st) h Q X) : Ex M fr dp kc ks pc ls (.ref (5000 + i) :: st) h Q X := by
  intro hg p l e R s m args below meth c D ka al A H locs cells slots mc ms lsA C R0 B hW hS hl
  obtain ⟨hd, rfl, -⟩ := xft_dec hg.1 hf rfl
  have hF := C.2.2.2.2.2.2.2.2.2.1
  have hown := C.2.2.2.2.1
  rw [hM] at hown
  exact vk_getf (own := RJ0) C.1 C.2.1 (hF.2.1 i q hi).2.2.1 hS hown (C.2.2.2.2.2.1 _ xL_cod) (fun x h => h) hd (k hg p l e R s m args below meth c D ka al A H locs cells slots mc ms lsA C R0 B hW hS hl)
theorem x_scmp (hM : M.2.1 = 16) (hf : xft M.2.2.2.2.2 pc = some (nx, .getstatic 38, rs, li, ll)) (k : Ex M fr dp kc ks nx ls (.int 1 :: st) h Q X) : Ex M fr dp kc ks pc ls st h Q X := by
  intro hg p l e R s m args below meth c D ka al A H locs cells slots mc ms lsA C R0 B hW hS hl
  obtain ⟨hd, rfl, -⟩ := xft_dec hg.1 hf rfl
  have hF := C.2.2.2.2.2.2.2.2.2.1
  have hown := C.2.2.2.2.1
  rw [hM] at hown
  exact va_gets (own := RJ0) C.1 C.2.1 hF.2.2.2.2.1.1 hS hown (C.2.2.2.2.2.1 _ xL_cmp) (fun x h => h) hd (k hg p l e R s m args below meth c D ka al A H locs cells slots mc ms lsA C R0 B hW hS hl)
theorem x_sio (hM : M.2.1 = 16) (hf : xft M.2.2.2.2.2 pc = some (nx, .getstatic 1053, rs, li, ll)) (k : Ex M fr dp kc ks nx ls (.ref 4998 :: st) h Q X) : Ex M fr dp kc ks pc ls st h Q X := by
  intro hg p l e R s m args below meth c D ka al A H locs cells slots mc ms lsA C R0 B hW hS hl
  obtain ⟨hd, rfl, -⟩ := xft_dec hg.1 hf rfl
  have hF := C.2.2.2.2.2.2.2.2.2.1
  have hown := C.2.2.2.2.1
  rw [hM] at hown
  exact va_gets (own := RJ0) C.1 C.2.1 hF.2.2.2.2.1.2 hS hown (C.2.2.2.2.2.1 _ xL_sio) (fun x h => h) hd (k hg p l e R s m args below meth c D ka al A H locs cells slots mc ms lsA C R0 B hW hS hl)
theorem x_stl (hi : xSL[i]? = some q) (hf : xft M.2.2.2.2.2 pc = some (nx, .arraylength, rs, li, ll)) (k : Ex M fr dp kc ks nx ls (.int (nI q.2.2.2.length) :: st) h Q X) : Ex M fr dp kc ks pc ls (.ref (6000 + i) :: st) h Q X := by
  intro hg p l e R s m args below meth c D ka al A H locs cells slots mc ms lsA C R0 B hW hS hl
  obtain ⟨hd, rfl, -⟩ := xft_dec hg.1 hf rfl
  have hF := C.2.2.2.2.2.2.2.2.2.1
  exact va_tlen C.1 C.2.1 (hF.2.1 i q hi).2.2.2.2 hS rfl hd (k hg p l e R s m args below meth c D ka al A H locs cells slots mc ms lsA C R0 B hW hS hl)
theorem x_stb {b : Nat} (hi : xSL[i]? = some q) (hb : b < q.2.2.2.length) (hq : q.2.2.2.length < 100) (hf : xft M.2.2.2.2.2 pc = some (nx, .baload, rs, li, ll)) (k : Ex M fr dp kc ks nx ls (.int (q.2.2.2.getD b 0) :: st) h Q X) : Ex M fr dp kc ks pc ls (.int (nI b) :: .ref (6000 + i) :: st) h Q X := by
  intro hg p l e R s m args below meth c D ka al A H locs cells slots mc ms lsA C R0 B hW hS hl
  obtain ⟨hd, rfl, -⟩ := xft_dec hg.1 hf rfl
  have hF := C.2.2.2.2.2.2.2.2.2.1
  exact va_tb C.1 C.2.1 (hF.2.1 i q hi).2.2.2.2 hS (nI_vin hb (by omega)) (by rw [nI_cl hb (by omega)]; rfl) hd (k hg p l e R s m args below meth c D ka al A H locs cells slots mc ms lsA C R0 B hW hS hl)
set_option maxHeartbeats 4000000 in
/-- a method of a String constant is called -/
theorem x_cvS {M' : xM} {dp' kc' ks' ix : Nat} {As r : List Value} {Q' : xPost} (hi : xSL[i]? = some q)
    (hC : Cn M' fr dp' kc' ks' (.ref (5000 + i) :: As) h Q') (hf : xft M.2.2.2.2.2 pc = some (nx, .invokevirtual ix, rs, li, ll)) (hw1 : Cond.methodLink (xOwn M.2.1) ix (xY M'.1) ∈ xTG) (w2 : Cond.instanceMethod (xY M'.1) ∈ xTG) (w3 : Cond.selects (xY M'.1).cls (xY M'.1) (xY M'.1) ∈ xTG) (w4 : Cond.initialized (xY M'.1).cls ∈ xTG) (hst : st = As.reverse ++ .ref (5000 + i) :: r) (hn : As.length = xNp M'.1) (hm : M'.1 < 335) (hcl : M'.2.1 = 16) (hr : (r.map fun v => v.category).sum ≤ 8) (hdp : dp' + 1 ≤ dp) (hkc : kc' ≤ kc) (hks : ks' ≤ ks)
    (k : ∀ v h', Q' v h' → Ex M fr dp (kc - kc') (ks - ks') nx ls (v.toList ++ r) h' Q X) : Ex M fr dp kc ks pc ls st h Q X := by
  intro hg p l e R s m args below meth c D ka al A H locs cells slots mc ms lsA C R0 B hW hS hl
  obtain ⟨hd, rfl, hres⟩ := xft_dec hg.1 hf rfl
  obtain ⟨hg', hh', hM⟩ := hC
  have hF := C.2.2.2.2.2.2.2.2.2.1
  have hts := C.2.2.2.2.2.1
  have hcs : (xY M'.1).cls = "java/lang/String" := by rw [hg'.2.2.1, hcl]; rfl
  have hmL := hg'.2.2.2.2.1
  refine xback (Q' := Q') (a := (Value.ref (al (5000 + i)) :: As.map (xcv al)).toArray) hg C R0 B hkc hks hW hS hl rfl (va_runV (Ts := xTG) (own := xOwn M.2.1) (C := (xY M'.1).cls) (As := As.map (xcv al)) (bytes := M'.2.2.1) (maxL := M'.2.2.2.1) (ret := M'.2.2.2.2.1) ⟨C.1, C.2.1, C.2.2.2.1, C.2.2.2.2.1, hts⟩ (hM l C.2.2.2.2.2.2.2.2.2.2.1 D ka al H.size) ⟨callB_of As.length hts (xGoodIn hg' hh') (by rw [← xcw_code hh']; rfl) rfl rfl (hts _ w4) (hts _ hw1) ⟨hg'.2.2.2.2.2.1, hg'.2.2.2.2.2.2, by rw [hn]; exact xNp_ok _ hm⟩ ⟨by show dp' + 1 ≤ R.frames; omega, by show 8 + (M'.2.2.2.1 + 11) + 64 * dp' ≤ R.locals; omega⟩, hts _ w2, hts _ w3⟩ ⟨xPc_blind, ?_, ?_⟩ rfl (by simp) hl.1 ?_ (lv_room ?_) hd ⟨by omega, by omega⟩) k
  · obtain ⟨cell, h1, h2, h3, -⟩ := (hF.2.1 i q hi).2.1.kept hS.2.1
    rw [hcs]
    exact ⟨cell, h1, h2, h3⟩
  · exact xpre (av := .ref (5000 + i) :: As) C hW hS
  · show List.map (xcv al) st = _
    rw [hst]
    simp [xcv]
  · simpa [xcv_cat, Function.comp_def] using hr
theorem xw_cod : Cond.methodLink RJ0 335 yJ0_coder_7d493 ∈ xTG ∧ Cond.instanceMethod yJ0_coder_7d493 ∈ xTG ∧ Cond.selects RJ0 yJ0_coder_7d493 yJ0_coder_7d493 ∈ xTG := ⟨xTG_in (xat_in (p := 4006) (by decide +kernel)) rfl, xTG_in (xat_in (p := 4007) (by decide +kernel)) rfl, xTG_in (xat_in (p := 4008) (by decide +kernel)) rfl⟩
theorem xw_lat : Cond.methodLink RJ0 492 yJ0_isLatin1_aae02 ∈ xTG ∧ Cond.instanceMethod yJ0_isLatin1_aae02 ∈ xTG ∧ Cond.selects RJ0 yJ0_isLatin1_aae02 yJ0_isLatin1_aae02 ∈ xTG := ⟨xTG_in (xat_in (p := 4016) (by decide +kernel)) rfl, xTG_in (xat_in (p := 4017) (by decide +kernel)) rfl, xTG_in (xat_in (p := 4018) (by decide +kernel)) rfl⟩
theorem xw_len : Cond.instanceMethod yJ0_length_8abf5 ∈ xTG ∧ Cond.selects RJ0 yJ0_length_8abf5 yJ0_length_8abf5 ∈ xTG := ⟨xTG_in (xat_in (p := 4003) (by decide +kernel)) rfl, xTG_in (xat_in (p := 4004) (by decide +kernel)) rfl⟩
theorem xw_chr : Cond.instanceMethod yJ0_charAt_5068e ∈ xTG ∧ Cond.selects RJ0 yJ0_charAt_5068e yJ0_charAt_5068e ∈ xTG := ⟨xTG_in (xat_in (p := 4013) (by decide +kernel)) rfl, xTG_in (xat_in (p := 4014) (by decide +kernel)) rfl⟩
theorem xw_ini : Cond.initialized RJ0 ∈ xTG := xTG_in (xat_in (p := 1019) (by decide +kernel)) rfl
end XST
section XSM
variable (h : xHp) {i : Nat} {q : String × Nat × String × List Int32}
set_option maxRecDepth 100000 in
theorem s_coder (hi : xSL[i]? = some q) : Cn mJ0_coder_7d493 false 1 0 0 [.ref (5000 + i)] h (fun r h' => r = some (.int 0) ∧ h' = h) := by
  refine Cn.intro gJ0_coder_7d493 rfl (Nat.le_of_ble_eq_true rfl) rfl ?_
  refine x_scmp rfl rfl ?_
  refine x_br rfl rfl (fun c => absurd c (by decide)) (fun c => ?_)
  repeat refine x_s rfl rfl ?_
  refine x_scod hi rfl rfl ?_
  repeat refine x_s rfl rfl ?_
  exact x_iret rfl rfl rfl ⟨rfl, rfl⟩
set_option maxRecDepth 100000 in
theorem s_latin (hi : xSL[i]? = some q) : Cn mJ0_isLatin1_aae02 false 1 0 0 [.ref (5000 + i)] h (fun r h' => r = some (.int 1) ∧ h' = h) := by
  refine Cn.intro gJ0_isLatin1_aae02 rfl (Nat.le_of_ble_eq_true rfl) rfl ?_
  refine x_scmp rfl rfl ?_
  refine x_br rfl rfl (fun c => absurd c (by decide)) (fun c => ?_)
  repeat refine x_s rfl rfl ?_
  refine x_scod hi rfl rfl ?_
  refine x_br rfl rfl (fun c => absurd rfl c) (fun c => ?_)
  repeat refine x_s rfl rfl ?_
  exact x_iret rfl rfl rfl ⟨rfl, rfl⟩
theorem shr0 (x : Int32) : x >>> ((0 : Int32) &&& 31) = x := by
  rw [show ((0 : Int32) &&& 31) = 0 from by decide]
  exact Int32.shiftRight_zero
set_option maxRecDepth 100000 in
theorem s_length (hi : xSL[i]? = some q) : Cn mJ0_length_8abf5 false 2 0 0 [.ref (5000 + i)] h (fun r h' => r = some (.int (nI q.2.2.2.length)) ∧ h' = h) := by
  refine Cn.intro gJ0_length_8abf5 rfl (Nat.le_of_ble_eq_true rfl) rfl ?_
  refine x_s rfl rfl ?_
  refine x_sval hi rfl rfl ?_
  refine x_stl hi rfl ?_
  refine x_s rfl rfl ?_
  refine x_cvS hi (s_coder h hi) rfl xw_cod.1 xw_cod.2.1 xw_cod.2.2 xw_ini rfl rfl (by decide) rfl (Nat.le_of_ble_eq_true rfl) (by decide) (by decide) (by decide) ?_
  rintro _ _ ⟨rfl, rfl⟩
  repeat refine x_s rfl rfl ?_
  exact x_iret rfl rfl rfl ⟨congrArg (fun z => some (Value.int z)) (shr0 _), rfl⟩
set_option maxRecDepth 100000 in
theorem s_chkP {b n : Nat} (hb : b < n) (hn : n < 100000) : Cn mJ3_checkIndex_8e157 false 1 0 0 [.int (nI b), .int (nI n), .ref 4998] h (fun r h' => r = some (.int (nI b)) ∧ h' = h) := by
  refine Cn.intro gJ3_checkIndex_8e157 rfl (Nat.le_of_ble_eq_true rfl) rfl ?_
  repeat refine x_s rfl rfl ?_
  refine x_br rfl rfl (fun c => absurd c (nI_pos (by omega))) (fun c => ?_)
  repeat refine x_s rfl rfl ?_
  refine x_br rfl rfl (fun c => ?_) (fun c => absurd (nI_lt hb (by omega)) c)
  repeat refine x_s rfl rfl ?_
  exact x_iret rfl rfl rfl ⟨rfl, rfl⟩
set_option maxRecDepth 100000 in
theorem s_chk {b n : Nat} (hb : b < n) (hn : n < 100000) : Cn mJ0_checkIndex_df160 false 2 0 0 [.int (nI b), .int (nI n)] h (fun r h' => r = none ∧ h' = h) := by
  refine Cn.intro gJ0_checkIndex_df160 rfl (Nat.le_of_ble_eq_true rfl) rfl ?_
  repeat refine x_s rfl rfl ?_
  refine x_sio rfl rfl ?_
  refine x_cs (s_chkP h hb hn) rfl rfl rfl (by decide) (Nat.le_of_ble_eq_true rfl) (by decide) (by decide) (by decide) ?_
  rintro _ _ ⟨rfl, rfl⟩
  repeat refine x_s rfl rfl ?_
  exact x_vret rfl rfl ⟨rfl, rfl⟩
theorem s_byt : ∀ q ∈ xSL, q.2.2.2.length < 100 ∧ ∀ b, b < q.2.2.2.length → ((q.2.2.2.getD b 0 &&& 255).toUInt32.toUInt16.toUInt32.toInt32) = q.2.2.2.getD b 0 ∧ narrow .char (.int (q.2.2.2.getD b 0)) = .int (q.2.2.2.getD b 0) := by decide +kernel
set_option maxRecDepth 100000 in
theorem s_chr1 {b : Nat} (hi : xSL[i]? = some q) (hb : b < q.2.2.2.length) : Cn mJ1_charAt_3b067 false 3 0 0 [.ref (6000 + i), .int (nI b)] h (fun r h' => r = some (.int (q.2.2.2.getD b 0)) ∧ h' = h) := by
  obtain ⟨l1, l2⟩ := s_byt q (List.mem_of_getElem? hi)
  refine Cn.intro gJ1_charAt_3b067 rfl (Nat.le_of_ble_eq_true rfl) rfl ?_
  repeat refine x_s rfl rfl ?_
  refine x_stl hi rfl ?_
  refine x_cs (s_chk h hb (by omega)) rfl rfl rfl (by decide) (Nat.le_of_ble_eq_true rfl) (by decide) (by decide) (by decide) ?_
  rintro _ _ ⟨rfl, rfl⟩
  iterate 2 refine x_s rfl rfl ?_
  refine x_stb hi hb l1 rfl ?_
  repeat refine x_s rfl rfl ?_
  have e := (l2 b hb).1
  refine (show Ex mJ1_charAt_3b067 false 3 0 0 14 _ [.int ((q.2.2.2.getD b 0 &&& 255).toUInt32.toUInt16.toUInt32.toInt32)] _ _ _ from ?_)
  rw [e]
  exact x_iret rfl rfl (l2 b hb).2 ⟨rfl, rfl⟩
set_option maxRecDepth 100000 in
theorem s_chr {b : Nat} (hi : xSL[i]? = some q) (hb : b < q.2.2.2.length) : Cn mJ0_charAt_5068e false 4 0 0 [.ref (5000 + i), .int (nI b)] h (fun r h' => r = some (.int (q.2.2.2.getD b 0)) ∧ h' = h) := by
  obtain ⟨l1, l2⟩ := s_byt q (List.mem_of_getElem? hi)
  refine Cn.intro gJ0_charAt_5068e rfl (Nat.le_of_ble_eq_true rfl) rfl ?_
  repeat refine x_s rfl rfl ?_
  refine x_cvS hi (s_latin h hi) rfl xw_lat.1 xw_lat.2.1 xw_lat.2.2 xw_ini rfl rfl (by decide) rfl (Nat.le_of_ble_eq_true rfl) (by decide) (by decide) (by decide) ?_
  rintro _ h1 ⟨rfl, e1⟩
  rw [e1]
  refine x_br rfl rfl (fun c => absurd c (by decide)) (fun c => ?_)
  refine x_s rfl rfl ?_
  refine x_sval hi rfl rfl ?_
  refine x_s rfl rfl ?_
  refine x_cs (s_chr1 h hi hb) rfl rfl rfl (by decide) (Nat.le_of_ble_eq_true rfl) (by decide) (by decide) (by decide) ?_
  rintro _ _ ⟨rfl, rfl⟩
  exact x_iret rfl rfl (l2 b hb).2 ⟨rfl, rfl⟩
end XSM
end
