def xget : List (Option Value) → Nat → Option Value
  | [], _ => none
  | a :: _, 0 => a
  | _ :: r, k + 1 => xget r k
theorem xget_some : ∀ {ls : List (Option Value)} {k : Nat} {v : Value}, xget ls k = some v → ls[k]? = some (some v)
  | [], k, v, h => by cases k <;> cases h
  | a :: r, 0, v, h => by
    simp only [xget] at h
    rw [h]
    rfl
  | a :: r, k + 1, v, h => by
    simp only [xget] at h
    rw [List.getElem?_cons_succ]
    exact xget_some h
def xfo : List (Option Value) → Option (List (Option Value))
  | [] => some []
  | a :: r => match xfo r with
    | some r' => some (a :: r')
    | none => none
theorem xfo_eq : ∀ {l l' : List (Option Value)}, xfo l = some l' → l' = l
  | [], l', h => by cases h; rfl
  | a :: r, l', h => by
    unfold xfo at h
    split at h
    · rename_i r' hr
      cases h
      rw [xfo_eq hr]
    · cases h
def xsh : List (Nat × Nat) → Nat → Option (Nat × Nat)
  | [], _ => none
  | a :: _, 0 => some a
  | _ :: r, k + 1 => xsh r k
theorem xsh_get : ∀ {l : List (Nat × Nat)} {k : Nat} {v : Nat × Nat}, xsh l k = some v → l[k]? = some v
  | [], k, v, h => by cases k <;> cases h
  | a :: r, 0, v, h => h
  | a :: r, k + 1, v, h => by
    simp only [xsh] at h
    rw [List.getElem?_cons_succ]
    exact xsh_get h
def xc1 (v : Value) : Bool := match v with
  | .long _ => false
  | .double _ => false
  | _ => true
theorem xc1_cat {v : Value} (h : xc1 v = true) : v.category = 1 := by cases v <;> first | rfl | cases h
def xvI (h : xHp) (c ci k : Nat) : Option Value := match h with
  | (_, d, L, r) => match xkd (xty ci k) with
    | 0 => some (.int (d c k))
    | 3 => some (.int (d c k))
    | 2 => some (.long (L c k))
    | _ => match r c k with
      | some x => some (.ref x)
      | none => none
def stp (mL : Nat) (h : xHp) (i : Instr) (nx : Nat) (rs : List Nat) (li : Int32) (ll : Int64) (ls : List (Option Value)) (st : List Value) : Option (Nat × List (Option Value) × List Value) := match i with
  | .iconst _ => some (nx, ls, .int li :: st)
  | .bipush _ => some (nx, ls, .int li :: st)
  | .sipush _ => some (nx, ls, .int li :: st)
  | .lconst _ => some (nx, ls, .long ll :: st)
  | .ldc _ => (match rs with
    | [] => some (nx, ls, .int li :: st)
    | [k] => some (nx, ls, .ref (5000 + k) :: st)
    | _ => none)
  | .ldc_w _ => (match rs with
    | [] => some (nx, ls, .int li :: st)
    | _ => none)
  | .ldc2_w _ => some (nx, ls, .long ll :: st)
  | .iload_n k => (match xget ls (k : Nat) with
    | some (.int x) => some (nx, ls, .int x :: st)
    | _ => none)
  | .iload k => (match xget ls k with
    | some (.int x) => some (nx, ls, .int x :: st)
    | _ => none)
  | .lload_n k => (match xget ls (k : Nat) with
    | some (.long x) => some (nx, ls, .long x :: st)
    | _ => none)
  | .lload k => (match xget ls k with
    | some (.long x) => some (nx, ls, .long x :: st)
    | _ => none)
  | .aload_n k => (match xget ls (k : Nat) with
    | some (.ref x) => some (nx, ls, .ref x :: st)
    | _ => none)
  | .aload k => (match xget ls k with
    | some (.ref x) => some (nx, ls, .ref x :: st)
    | _ => none)
  | .istore_n k => (match st with
    | .int x :: r => (match Nat.blt (k : Nat) mL with
      | true => (match xfo (xst1 ls (k : Nat) (.int x)) with
        | some ls' => some (nx, ls', r)
        | none => none)
      | false => none)
    | _ => none)
  | .istore k => (match st with
    | .int x :: r => (match Nat.blt k mL with
      | true => (match xfo (xst1 ls k (.int x)) with
        | some ls' => some (nx, ls', r)
        | none => none)
      | false => none)
    | _ => none)
  | .astore_n k => (match st with
    | .ref x :: r => (match Nat.blt (k : Nat) mL with
      | true => (match xfo (xst1 ls (k : Nat) (.ref x)) with
        | some ls' => some (nx, ls', r)
        | none => none)
      | false => none)
    | _ => none)
  | .astore k => (match st with
    | .ref x :: r => (match Nat.blt k mL with
      | true => (match xfo (xst1 ls k (.ref x)) with
        | some ls' => some (nx, ls', r)
        | none => none)
      | false => none)
    | _ => none)
  | .lstore_n k => (match st with
    | .long x :: r => (match Nat.blt ((k : Nat) + 1) mL with
      | true => (match xfo (xst2 ls (k : Nat) (.long x)) with
        | some ls' => some (nx, ls', r)
        | none => none)
      | false => none)
    | _ => none)
  | .lstore k => (match st with
    | .long x :: r => (match Nat.blt (k + 1) mL with
      | true => (match xfo (xst2 ls k (.long x)) with
        | some ls' => some (nx, ls', r)
        | none => none)
      | false => none)
    | _ => none)
  | .iinc k _ => (match xget ls k with
    | some (.int x) => (match Nat.blt k mL with
      | true => (match xfo (xst1 ls k (.int (x + li))) with
        | some ls' => some (nx, ls', st)
        | none => none)
      | false => none)
    | _ => none)
  | .iadd => (match st with
    | .int y :: .int x :: r => some (nx, ls, .int (x + y) :: r)
    | _ => none)
  | .isub => (match st with
    | .int y :: .int x :: r => some (nx, ls, .int (x - y) :: r)
    | _ => none)
  | .imul => (match st with
    | .int y :: .int x :: r => some (nx, ls, .int (x * y) :: r)
    | _ => none)
  | .iand => (match st with
    | .int y :: .int x :: r => some (nx, ls, .int (x &&& y) :: r)
    | _ => none)
  | .ior => (match st with
    | .int y :: .int x :: r => some (nx, ls, .int (x ||| y) :: r)
    | _ => none)
  | .ixor => (match st with
    | .int y :: .int x :: r => some (nx, ls, .int (x ^^^ y) :: r)
    | _ => none)
  | .ishl => (match st with
    | .int y :: .int x :: r => some (nx, ls, .int (x <<< (y &&& 31)) :: r)
    | _ => none)
  | .ishr => (match st with
    | .int y :: .int x :: r => some (nx, ls, .int (x >>> (y &&& 31)) :: r)
    | _ => none)
  | .ladd => (match st with
    | .long y :: .long x :: r => some (nx, ls, .long (x + y) :: r)
    | _ => none)
  | .lsub => (match st with
    | .long y :: .long x :: r => some (nx, ls, .long (x - y) :: r)
    | _ => none)
  | .lmul => (match st with
    | .long y :: .long x :: r => some (nx, ls, .long (x * y) :: r)
    | _ => none)
  | .land => (match st with
    | .long y :: .long x :: r => some (nx, ls, .long (x &&& y) :: r)
    | _ => none)
  | .lor => (match st with
    | .long y :: .long x :: r => some (nx, ls, .long (x ||| y) :: r)
    | _ => none)
  | .lxor => (match st with
    | .long y :: .long x :: r => some (nx, ls, .long (x ^^^ y) :: r)
    | _ => none)
  | .iushr => (match st with
    | .int y :: .int x :: r => some (nx, ls, .int ((x.toUInt32 >>> (y.toUInt32 &&& Int32.toUInt32 31)).toInt32) :: r)
    | _ => none)
  | .lshl => (match st with
    | .int y :: .long x :: r => some (nx, ls, .long (x <<< (y.toInt64 &&& 63)) :: r)
    | _ => none)
  | .lshr => (match st with
    | .int y :: .long x :: r => some (nx, ls, .long (x >>> (y.toInt64 &&& 63)) :: r)
    | _ => none)
  | .ineg => (match st with
    | .int x :: r => some (nx, ls, .int (-x) :: r)
    | _ => none)
  | .lneg => (match st with
    | .long x :: r => some (nx, ls, .long (-x) :: r)
    | _ => none)
  | .i2l => (match st with
    | .int x :: r => some (nx, ls, .long x.toInt64 :: r)
    | _ => none)
  | .i2b => (match st with
    | .int x :: r => some (nx, ls, .int x.toInt8.toInt32 :: r)
    | _ => none)
  | .i2c => (match st with
    | .int x :: r => some (nx, ls, .int (x.toUInt32 % 65536).toInt32 :: r)
    | _ => none)
  | .lcmp => (match st with
    | .long y :: .long x :: r => some (nx, ls, .int (lg_cmp x y) :: r)
    | _ => none)
  | .dup => (match st with
    | a :: r => (match xc1 a with
      | true => some (nx, ls, a :: a :: r)
      | false => none)
    | _ => none)
  | .dup2 => (match st with
    | a :: b :: r => (match xc1 a with
      | true => (match xc1 b with
        | true => some (nx, ls, a :: b :: a :: b :: r)
        | false => none)
      | false => none)
    | _ => none)
  | .pop => (match st with
    | a :: r => (match xc1 a with
      | true => some (nx, ls, r)
      | false => none)
    | _ => none)
  | .goto _ => (match rs with
    | [t] => some (t, ls, st)
    | _ => none)
  | .getfield _ => (match rs with
    | [ci, k] => (match st with
      | .ref c :: r => (match xsh h.1 c with
        | some (t, n) => (match Nat.beq t ci with
          | true => (match Nat.blt k n with
            | true => (match xvI h c ci k with
              | some v => some (nx, ls, v :: r)
              | none => none)
            | false => none)
          | false => none)
        | none => none)
      | _ => none)
    | _ => none)
  | .arraylength => (match st with
    | .ref c :: r => (match xsh h.1 c with
      | some (t, n) => (match Nat.ble 100 t with
        | true => (match Nat.ble t 105 with
          | true => some (nx, ls, .int (nI n) :: r)
          | false => none)
        | false => none)
      | none => none)
    | _ => none)
  | _ => none
theorem xblt {a b : Nat} (h : Nat.blt a b = true) : a < b := Nat.le_of_ble_eq_true h
theorem xTG_in {w : Cond} (h : w ∈ lw_tbl) (hg : goodWord w = true) : w ∈ xTG := List.mem_filter.mpr ⟨h, hg⟩
theorem xcst {o pc nx : Nat} {i : Nat} {li : Int32} {ll : Int64} (h : xres o (pc, nx, .ldc i, [], li, ll) = true ∨ xres o (pc, nx, .ldc_w i, [], li, ll) = true) : Cond.constant (xOwn o) i li ∈ xTG := by
  have h1 : (xLKc.any fun q => q.1 == o && q.2.1 == i && decide (q.2.2.1 = li)) = true := h.elim id id
  obtain ⟨q, hq, h2⟩ := List.any_eq_true.mp h1
  simp only [Bool.and_eq_true, beq_iff_eq, decide_eq_true_eq] at h2
  have h3 := List.all_eq_true.mp xLKc_ok q hq
  simp only [decide_eq_true_eq] at h3
  rw [h2.1.1, h2.1.2, h2.2] at h3
  exact xTG_in (xat_in h3) rfl
theorem xcsl {o pc nx : Nat} {i : Nat} {rs : List Nat} {li : Int32} {ll : Int64} (h : xres o (pc, nx, .ldc2_w i, rs, li, ll) = true) : Cond.constantLong (xOwn o) i ll ∈ xTG := by
  have h1 : (xLKl.any fun q => q.1 == o && q.2.1 == i && decide (q.2.2.1 = ll)) = true := h
  obtain ⟨q, hq, h2⟩ := List.any_eq_true.mp h1
  simp only [Bool.and_eq_true, beq_iff_eq, decide_eq_true_eq] at h2
  have h3 := List.all_eq_true.mp xLKl_ok q hq
  simp only [decide_eq_true_eq] at h3
  rw [h2.1.1, h2.1.2, h2.2] at h3
  exact xTG_in (xat_in h3) rfl
theorem xstr {al : Nat → Nat} {A : Nat → Prop} {U : State} {H : Heap} {o pc nx i k : Nat} {li : Int32} {ll : Int64} (hF : xFx al A U H) (h : xres o (pc, nx, .ldc i, [k], li, ll) = true) : ∃ tx, vk_R (xOwn o) i tx (al (5000 + k)) U := by
  unfold xres at h
  simp only at h
  split at h
  · rename_i q hq
    simp only [Bool.and_eq_true, decide_eq_true_eq, beq_iff_eq] at h
    have h1 := (hF.2.1 k q hq).1
    rw [h.1, h.2] at h1
    exact ⟨_, h1⟩
  · cases h
theorem xws_lays : ∀ ci, ci < 13 → ∀ w ∈ u_ws (xOwn ci) (xT ci) (xNf ci), w ∈ xTG := by
  intro ci hci w hw
  unfold u_ws at hw
  obtain ⟨k, hk, rfl⟩ := List.mem_map.mp hw
  have h1 := xLy_in ci hci
  unfold xLyok at h1
  split at h1
  · simp only [Bool.and_eq_true, List.all_eq_true, decide_eq_true_eq] at h1
    refine xTG_in (xat_in (h1.2 k hk)) ?_
    unfold u_lay
    split <;> rfl
  · cases h1
theorem xvw {ci : Nat} (h : ci < 13) : ∃ T, vwCl[ci]? = some (xOwn ci, T, xNf ci) ∧ xT ci = T := by
  rcases (by omega : ci = 0 ∨ ci = 1 ∨ ci = 2 ∨ ci = 3 ∨ ci = 4 ∨ ci = 5 ∨ ci = 6 ∨ ci = 7 ∨ ci = 8 ∨ ci = 9 ∨ ci = 10 ∨ ci = 11 ∨ ci = 12) with rfl | rfl | rfl | rfl | rfl | rfl | rfl | rfl | rfl | rfl | rfl | rfl | rfl <;> exact ⟨_, rfl, rfl⟩
theorem xfld {o pc nx : Nat} {i ci k : Nat} {li : Int32} {ll : Int64} (h : xres o (pc, nx, .getfield i, [ci, k], li, ll) = true ∨ xres o (pc, nx, .putfield i, [ci, k], li, ll) = true) : ci < 13 ∧ k < xNf ci ∧ Cond.fieldLink (xOwn o) i (xT ci k).1 (xT ci k).2.1 (xT ci k).2.2.1 ∈ xTG := by
  have h1 : ((xLKf.any fun q => q.1 == o && q.2.1 == i && q.2.2.1 == ci && q.2.2.2.1 == k) && decide (ci < 13) && decide (k < xNf ci)) = true := h.elim id id
  simp only [Bool.and_eq_true, decide_eq_true_eq] at h1
  refine ⟨h1.1.2, h1.2, ?_⟩
  obtain ⟨q, hq, h2⟩ := List.any_eq_true.mp h1.1.1
  simp only [Bool.and_eq_true, beq_iff_eq] at h2
  have h3 := List.all_eq_true.mp xLKf_ok q hq
  simp only [decide_eq_true_eq] at h3
  rw [h2.1.1.1, h2.1.1.2, h2.1.2, h2.2] at h3
  exact xTG_in (xat_in h3) rfl
theorem xcell_obj {ka : Nat → ClassId} {al : Nat → Nat} {h : xHp} {c t n : Nat} (ht : t < 100) : xcell ka al h c t n = .inr (t, (List.range n).map (xfv al h c t)) := if_pos ht
theorem xvI_fv {al : Nat → Nat} {h : xHp} {c ci k : Nat} {v : Value} (hv : xvI h c ci k = some v) : xfv al h c ci k = xcv al v := by
  obtain ⟨sh, d, L, r⟩ := h
  simp only [xvI] at hv
  unfold xfv
  split at hv
  · cases hv; rename_i e; rw [e]; rfl
  · cases hv; rename_i e; rw [e]; rfl
  · cases hv; rename_i e; rw [e]; rfl
  · rename_i n1 n2 n3
    have e : xkd (xty ci k) = 1 := by
      have : xkd (xty ci k) = 0 ∨ xkd (xty ci k) = 3 ∨ xkd (xty ci k) = 2 ∨ xkd (xty ci k) = 1 := by
        unfold xkd
        split <;> simp
      rcases this with q | q | q | q
      · exact absurd q n1
      · exact absurd q n2
      · exact absurd q n3
      · exact q
    rw [e]
    split at hv
    · rename_i x hx
      cases hv
      show va_rf (Option.map al (r c k)) = _
      rw [hx]
      rfl
    · cases hv
section XW
variable {p : Program} {l : Launch} {e : Env} {R : Room} {s : State} {m : MethodId} {args : Array Value} {below : List Frame} {meth : Method} {c : Code} {H : Heap} {locs : List Loc} {cells slots : Nat} {Q : State → Prop}
variable {cc : ByteArray} {pc : Nat} {lsA : Array Slot} {rest : List Value} {D : va_G} {ka : Nat → ClassId} {al : Nat → Nat} {A : Nat → Prop} {h : xHp}
theorem x_getW (hx : p.tables.exec = Jvm.exec) (hb : c.code = cc) {o nx i ci k cl n : Nat} {li : Int32} {ll : Int64} {v : Value} (hown : s.vm.findClass (xOwn o) = some m.cls) (hts : ∀ w ∈ xTG, w.before args s = true) (hK : va_K D vwCl (xtys ka) s) (hP : va_P D vwCl (xws ka al h) H) (hc : h.1[cl]? = some (ci, n)) (hn : k < n) (hr : xres o (pc, nx, .getfield i, [ci, k], li, ll) = true) (hv : xvI h cl ci k = some v) (hd : decode cc pc = .ok (.getfield i, 3))
    (kk : W p l e R s m args below meth c H locs cells slots Q (F0 m (pc + 3) lsA (xcv al v :: rest))) : W p l e R s m args below meth c H locs cells slots Q (F0 m pc lsA (.ref (al cl) :: rest)) := by
  obtain ⟨h1, h2, h3⟩ := xfld (Or.inl hr)
  obtain ⟨T, hT1, hT2⟩ := xvw h1
  subst hT2
  have hg := xws_get (ka := ka) (al := al) hc
  rw [xcell_obj (by omega)] at hg
  exact va_get (C := xOwn ci) (T := xT ci) (N := xNf ci) (ref := (xT ci k).1) hx hb hts (xws_lays ci h1) hown hK hP cl hg hT1 k h2 (hts _ h3) (fun _ h9 => h9) (v := xcv al v) (by simp [hn, xvI_fv hv]) hd kk
theorem xtys_at {ka : Nat → ClassId} {t : Nat} (h1 : 100 ≤ t) (h2 : t ≤ 105) : ∃ (k : Nat) (ty : FieldType), (xtys ka)[k]? = some (ka t, ty) := by
  rcases (by omega : t = 100 ∨ t = 101 ∨ t = 102 ∨ t = 103 ∨ t = 104 ∨ t = 105) with rfl | rfl | rfl | rfl | rfl | rfl
  · exact ⟨0, _, rfl⟩
  · exact ⟨1, _, rfl⟩
  · exact ⟨2, _, rfl⟩
  · exact ⟨3, _, rfl⟩
  · exact ⟨4, _, rfl⟩
  · exact ⟨5, _, rfl⟩
theorem xcell_arr {ka : Nat → ClassId} {al : Nat → Nat} {h : xHp} {c t n : Nat} (h1 : 100 ≤ t) : ∃ x, xcell ka al h c t n = .inl (ka t, n, x) := by
  unfold xcell
  rw [if_neg (by omega)]
  split
  · exact ⟨_, rfl⟩
  · split
    · exact ⟨_, rfl⟩
    · exact ⟨_, rfl⟩
theorem x_alenW (hx : p.tables.exec = Jvm.exec) (hb : c.code = cc) {cl t n : Nat} (hK : va_K D vwCl (xtys ka) s) (hP : va_P D vwCl (xws ka al h) H) (hc : h.1[cl]? = some (t, n)) (h1 : 100 ≤ t) (h2 : t ≤ 105) (hd : decode cc pc = .ok (.arraylength, 1))
    (kk : W p l e R s m args below meth c H locs cells slots Q (F0 m (pc + 1) lsA (.int (nI n) :: rest))) : W p l e R s m args below meth c H locs cells slots Q (F0 m pc lsA (.ref (al cl) :: rest)) := by
  have hg := xws_get (ka := ka) (al := al) hc
  obtain ⟨x, hxx⟩ := xcell_arr (ka := ka) (al := al) (h := h) (c := cl) (n := n) h1
  rw [hxx] at hg
  obtain ⟨k, ty, ht⟩ := xtys_at (ka := ka) h1 h2
  exact va_alen hx hb hK hP cl k hg ht rfl hd kk
end XW

set_option maxHeartbeats 4000000 in
set_option maxRecDepth 100000 in
/-- any simple instruction -/
theorem x_s {M : xM} {fr : Bool} {dp kc ks pc nx nx' : Nat} {i : Instr} {rs : List Nat} {li : Int32} {ll : Int64} {ls ls' : List (Option Value)} {st st' : List Value} {h : xHp} {Q : xPost} {X : Nat → xHp → Prop}
    (hf : xft M.2.2.2.2.2 pc = some (nx, i, rs, li, ll)) (hs : stp M.2.2.2.1 h i nx rs li ll ls st = some (nx', ls', st')) (k : Ex M fr dp kc ks nx' ls' st' h Q X) : Ex M fr dp kc ks pc ls st h Q X := by
  intro hg p l e R s m args below meth c D ka al A H locs cells slots mc ms lsA C R0 B hW hS hl
  have K := fun lsA => k hg p l e R s m args below meth c D ka al A H locs cells slots mc ms lsA C R0 B hW hS
  have hx := C.1
  have hb := C.2.1
  have hown := C.2.2.2.2.1
  have hts := C.2.2.2.2.2.1
  have hK := C.2.2.2.2.2.2.2.1
  have hF := C.2.2.2.2.2.2.2.2.2.1
  cases i
  case iconst n =>
    obtain ⟨hd, rfl, hr⟩ := xft_dec hg.1 hf rfl
    cases hs
    exact lv_iconst hx hb hd (by simpa [xres] using hr) (K lsA hl)
  case bipush n =>
    obtain ⟨hd, rfl, hr⟩ := xft_dec hg.1 hf rfl
    cases hs
    exact lv_bipush hx hb hd (by simpa [xres] using hr) (K lsA hl)
  case sipush n =>
    obtain ⟨hd, rfl, hr⟩ := xft_dec hg.1 hf rfl
    cases hs
    exact lv_sipush hx hb hd (by simpa [xres] using hr) (K lsA hl)
  case lconst n =>
    obtain ⟨hd, rfl, hr⟩ := xft_dec hg.1 hf rfl
    cases hs
    exact lv_lconst hx hb hd (by simpa [xres] using hr) (K lsA hl)
  case ldc n =>
    obtain ⟨hd, rfl, hr⟩ := xft_dec hg.1 hf rfl
    match rs, hs, hr with
    | [], hs, hr =>
      cases hs
      exact lv_ldc hx hb hown (hts _ (xcst (Or.inl hr))) hd (K lsA hl)
    | [k], hs, hr =>
      cases hs
      obtain ⟨tx, hv⟩ := xstr hF hr
      exact va_ldcS hx hb hown hv hd (K lsA hl)
  case ldc_w n =>
    obtain ⟨hd, rfl, hr⟩ := xft_dec hg.1 hf rfl
    match rs, hs, hr with
    | [], hs, hr =>
      cases hs
      exact lv_ldcw hx hb hown (hts _ (xcst (Or.inr hr))) hd (K lsA hl)
  case ldc2_w n =>
    obtain ⟨hd, rfl, hr⟩ := xft_dec hg.1 hf rfl
    cases hs
    exact lv_ldc2 hx hb hown (hts _ (xcsl hr)) hd (K lsA hl)
  case iload_n k =>
    obtain ⟨hd, rfl, hr⟩ := xft_dec hg.1 hf rfl
    simp only [stp] at hs
    split at hs
    · rename_i x hv
      cases hs
      exact lv_iload_n hx hb hd rfl (xl_at hl (xget_some hv)) (K lsA hl)
    · cases hs
  case iload k =>
    obtain ⟨hd, rfl, hr⟩ := xft_dec hg.1 hf rfl
    simp only [stp] at hs
    split at hs
    · rename_i x hv
      cases hs
      exact lv_iload hx hb hd (xl_at hl (xget_some hv)) (K lsA hl)
    · cases hs
  case lload_n k =>
    obtain ⟨hd, rfl, hr⟩ := xft_dec hg.1 hf rfl
    simp only [stp] at hs
    split at hs
    · rename_i x hv
      cases hs
      exact lv_lload_n hx hb hd rfl (xl_at hl (xget_some hv)) (K lsA hl)
    · cases hs
  case lload k =>
    obtain ⟨hd, rfl, hr⟩ := xft_dec hg.1 hf rfl
    simp only [stp] at hs
    split at hs
    · rename_i x hv
      cases hs
      exact lv_lload hx hb hd (xl_at hl (xget_some hv)) (K lsA hl)
    · cases hs
  case aload_n k =>
    obtain ⟨hd, rfl, hr⟩ := xft_dec hg.1 hf rfl
    simp only [stp] at hs
    split at hs
    · rename_i x hv
      cases hs
      exact lv_aload_n hx hb hd rfl (xl_at hl (xget_some hv)) (K lsA hl)
    · cases hs
  case aload k =>
    obtain ⟨hd, rfl, hr⟩ := xft_dec hg.1 hf rfl
    simp only [stp] at hs
    split at hs
    · rename_i x hv
      cases hs
      exact lv_aload hx hb hd (xl_at hl (xget_some hv)) (K lsA hl)
    · cases hs
  case istore_n k =>
    obtain ⟨hd, rfl, hr⟩ := xft_dec hg.1 hf rfl
    simp only [stp] at hs
    split at hs
    · split at hs
      · rename_i hlt
        split at hs
        · rename_i l2 hl2
          cases hs
          cases xfo_eq hl2
          exact lv_istore_n hx hb hd rfl hl (xblt hlt) rfl fun lsB hlB => K lsB (xl_sub hlB xl_st1)
        · cases hs
      · cases hs
    · cases hs
  case istore k =>
    obtain ⟨hd, rfl, hr⟩ := xft_dec hg.1 hf rfl
    simp only [stp] at hs
    split at hs
    · split at hs
      · rename_i hlt
        split at hs
        · rename_i l2 hl2
          cases hs
          cases xfo_eq hl2
          exact lv_istore hx hb hd hl (xblt hlt) rfl fun lsB hlB => K lsB (xl_sub hlB xl_st1)
        · cases hs
      · cases hs
    · cases hs
  case astore_n k =>
    obtain ⟨hd, rfl, hr⟩ := xft_dec hg.1 hf rfl
    simp only [stp] at hs
    split at hs
    · split at hs
      · rename_i hlt
        split at hs
        · rename_i l2 hl2
          cases hs
          cases xfo_eq hl2
          exact lv_astore_n hx hb hd rfl hl (xblt hlt) rfl fun lsB hlB => K lsB (xl_sub hlB xl_st1)
        · cases hs
      · cases hs
    · cases hs
  case astore k =>
    obtain ⟨hd, rfl, hr⟩ := xft_dec hg.1 hf rfl
    simp only [stp] at hs
    split at hs
    · split at hs
      · rename_i hlt
        split at hs
        · rename_i l2 hl2
          cases hs
          cases xfo_eq hl2
          exact lv_astore hx hb hd hl (xblt hlt) rfl fun lsB hlB => K lsB (xl_sub hlB xl_st1)
        · cases hs
      · cases hs
    · cases hs
  case lstore_n k =>
    obtain ⟨hd, rfl, hr⟩ := xft_dec hg.1 hf rfl
    simp only [stp] at hs
    split at hs
    · split at hs
      · rename_i hlt
        split at hs
        · rename_i l2 hl2
          cases hs
          cases xfo_eq hl2
          exact lv_lstore_n hx hb hd rfl hl (xblt hlt) rfl fun lsB hlB => K lsB (xl_sub hlB xl_st2)
        · cases hs
      · cases hs
    · cases hs
  case lstore k =>
    obtain ⟨hd, rfl, hr⟩ := xft_dec hg.1 hf rfl
    simp only [stp] at hs
    split at hs
    · split at hs
      · rename_i hlt
        split at hs
        · rename_i l2 hl2
          cases hs
          cases xfo_eq hl2
          exact lv_lstore hx hb hd hl (xblt hlt) rfl fun lsB hlB => K lsB (xl_sub hlB xl_st2)
        · cases hs
      · cases hs
    · cases hs
  case iinc kk n =>
    obtain ⟨hd, rfl, hr⟩ := xft_dec hg.1 hf rfl
    simp only [stp] at hs
    split at hs
    · rename_i x hv
      split at hs
      · rename_i hlt
        split at hs
        · rename_i l2 hl2
          cases hs
          cases xfo_eq hl2
          obtain ⟨j, hj⟩ := List.getElem?_of_mem (xl_mem.mpr ⟨_, xget_some hv, rfl⟩ : (kk, xcv al (.int x)) ∈ xl al ls)
          exact lv_iinc (v := x + li) hx hb hd hl hj (by rw [show Int32.ofInt n = li by simpa [xres] using hr]) (xblt hlt) rfl fun lsB hlB => K lsB (xl_sub hlB (xl_st1 (v := .int (x + li))))
        · cases hs
      · cases hs
    · cases hs
  case iadd =>
    obtain ⟨hd, rfl, hr⟩ := xft_dec hg.1 hf rfl
    simp only [stp] at hs
    split at hs
    · cases hs
      exact lv_iadd hx hb hd (K lsA hl)
    · cases hs
  case isub =>
    obtain ⟨hd, rfl, hr⟩ := xft_dec hg.1 hf rfl
    simp only [stp] at hs
    split at hs
    · cases hs
      exact lv_isub hx hb hd (K lsA hl)
    · cases hs
  case imul =>
    obtain ⟨hd, rfl, hr⟩ := xft_dec hg.1 hf rfl
    simp only [stp] at hs
    split at hs
    · cases hs
      exact lv_imul hx hb hd (K lsA hl)
    · cases hs
  case iand =>
    obtain ⟨hd, rfl, hr⟩ := xft_dec hg.1 hf rfl
    simp only [stp] at hs
    split at hs
    · cases hs
      exact lv_iand hx hb hd (K lsA hl)
    · cases hs
  case ior =>
    obtain ⟨hd, rfl, hr⟩ := xft_dec hg.1 hf rfl
    simp only [stp] at hs
    split at hs
    · cases hs
      exact lv_ior hx hb hd (K lsA hl)
    · cases hs
  case ixor =>
    obtain ⟨hd, rfl, hr⟩ := xft_dec hg.1 hf rfl
    simp only [stp] at hs
    split at hs
    · cases hs
      exact lv_ixor hx hb hd (K lsA hl)
    · cases hs
  case ishl =>
    obtain ⟨hd, rfl, hr⟩ := xft_dec hg.1 hf rfl
    simp only [stp] at hs
    split at hs
    · cases hs
      exact lv_ishl hx hb hd (K lsA hl)
    · cases hs
  case ishr =>
    obtain ⟨hd, rfl, hr⟩ := xft_dec hg.1 hf rfl
    simp only [stp] at hs
    split at hs
    · cases hs
      exact lv_ishr hx hb hd (K lsA hl)
    · cases hs
  case ladd =>
    obtain ⟨hd, rfl, hr⟩ := xft_dec hg.1 hf rfl
    simp only [stp] at hs
    split at hs
    · cases hs
      exact lv_ladd hx hb hd (K lsA hl)
    · cases hs
  case lsub =>
    obtain ⟨hd, rfl, hr⟩ := xft_dec hg.1 hf rfl
    simp only [stp] at hs
    split at hs
    · cases hs
      exact lv_lsub hx hb hd (K lsA hl)
    · cases hs
  case lmul =>
    obtain ⟨hd, rfl, hr⟩ := xft_dec hg.1 hf rfl
    simp only [stp] at hs
    split at hs
    · cases hs
      exact lv_lmul hx hb hd (K lsA hl)
    · cases hs
  case land =>
    obtain ⟨hd, rfl, hr⟩ := xft_dec hg.1 hf rfl
    simp only [stp] at hs
    split at hs
    · cases hs
      exact lv_land hx hb hd (K lsA hl)
    · cases hs
  case lor =>
    obtain ⟨hd, rfl, hr⟩ := xft_dec hg.1 hf rfl
    simp only [stp] at hs
    split at hs
    · cases hs
      exact lv_lor hx hb hd (K lsA hl)
    · cases hs
  case lxor =>
    obtain ⟨hd, rfl, hr⟩ := xft_dec hg.1 hf rfl
    simp only [stp] at hs
    split at hs
    · cases hs
      exact lv_lxor hx hb hd (K lsA hl)
    · cases hs
  case iushr =>
    obtain ⟨hd, rfl, hr⟩ := xft_dec hg.1 hf rfl
    simp only [stp] at hs
    split at hs
    · cases hs
      exact lv_iushr hx hb hd rfl (K lsA hl)
    · cases hs
  case lshl =>
    obtain ⟨hd, rfl, hr⟩ := xft_dec hg.1 hf rfl
    simp only [stp] at hs
    split at hs
    · cases hs
      exact lv_lshl hx hb hd rfl (K lsA hl)
    · cases hs
  case lshr =>
    obtain ⟨hd, rfl, hr⟩ := xft_dec hg.1 hf rfl
    simp only [stp] at hs
    split at hs
    · cases hs
      exact lv_lshr hx hb hd rfl (K lsA hl)
    · cases hs
  case ineg =>
    obtain ⟨hd, rfl, hr⟩ := xft_dec hg.1 hf rfl
    simp only [stp] at hs
    split at hs
    · cases hs
      exact lv_ineg hx hb hd (K lsA hl)
    · cases hs
  case lneg =>
    obtain ⟨hd, rfl, hr⟩ := xft_dec hg.1 hf rfl
    simp only [stp] at hs
    split at hs
    · cases hs
      exact lv_lneg hx hb hd (K lsA hl)
    · cases hs
  case i2l =>
    obtain ⟨hd, rfl, hr⟩ := xft_dec hg.1 hf rfl
    simp only [stp] at hs
    split at hs
    · cases hs
      exact lv_i2l hx hb hd rfl (K lsA hl)
    · cases hs
  case i2b =>
    obtain ⟨hd, rfl, hr⟩ := xft_dec hg.1 hf rfl
    simp only [stp] at hs
    split at hs
    · cases hs
      exact lv_i2b hx hb hd rfl (K lsA hl)
    · cases hs
  case i2c =>
    obtain ⟨hd, rfl, hr⟩ := xft_dec hg.1 hf rfl
    simp only [stp] at hs
    split at hs
    · cases hs
      exact lv_i2c hx hb hd rfl (K lsA hl)
    · cases hs
  case lcmp =>
    obtain ⟨hd, rfl, hr⟩ := xft_dec hg.1 hf rfl
    simp only [stp] at hs
    split at hs
    · cases hs
      exact W.lcmp hx hb hd (K lsA hl)
    · cases hs
  case dup =>
    obtain ⟨hd, rfl, hr⟩ := xft_dec hg.1 hf rfl
    simp only [stp] at hs
    split at hs
    · split at hs
      · rename_i hc
        cases hs
        exact lv_dup hx hb hd (by rw [xcv_cat]; exact xc1_cat hc) (K lsA hl)
      · cases hs
    · cases hs
  case pop =>
    obtain ⟨hd, rfl, hr⟩ := xft_dec hg.1 hf rfl
    simp only [stp] at hs
    split at hs
    · split at hs
      · rename_i hc
        cases hs
        exact lv_pop hx hb hd (by rw [xcv_cat]; exact xc1_cat hc) (K lsA hl)
      · cases hs
    · cases hs
  case dup2 =>
    obtain ⟨hd, rfl, hr⟩ := xft_dec hg.1 hf rfl
    simp only [stp] at hs
    split at hs
    · split at hs
      · rename_i hc
        split at hs
        · rename_i hc2
          cases hs
          exact lv_dup2_11 hx hb hd (by rw [xcv_cat]; exact xc1_cat hc) (by rw [xcv_cat]; exact xc1_cat hc2) (K lsA hl)
        · cases hs
      · cases hs
    · cases hs
  case goto off =>
    obtain ⟨hd, rfl, hr⟩ := xft_dec hg.1 hf rfl
    match rs, hs, hr with
    | [t], hs, hr =>
      cases hs
      exact lv_goto hx hb hd (by simpa [xres, xtg] using hr) (K lsA hl)
  case getfield n =>
    obtain ⟨hd, rfl, hr⟩ := xft_dec hg.1 hf rfl
    match rs, hs, hr with
    | [ci, k], hs, hr =>
      simp only [stp] at hs
      split at hs
      · rename_i c r
        split at hs
        · rename_i t n2 hsh
          split at hs
          · rename_i hbe
            split at hs
            · rename_i hbl
              split at hs
              · rename_i v hv
                cases hs
                have e := Nat.eq_of_beq_eq_true hbe
                subst e
                exact x_getW hx hb hown hts hK hW.1 (xsh_get hsh) (xblt hbl) hr hv hd (K lsA hl)
              · cases hs
            · cases hs
          · cases hs
        · cases hs
      · cases hs
  case arraylength =>
    obtain ⟨hd, rfl, hr⟩ := xft_dec hg.1 hf rfl
    simp only [stp] at hs
    split at hs
    · split at hs
      · rename_i hsh
        split at hs
        · rename_i h1
          split at hs
          · rename_i h2
            cases hs
            exact x_alenW hx hb hK hW.1 (xsh_get hsh) (Nat.le_of_ble_eq_true h1) (Nat.le_of_ble_eq_true h2) hd (K lsA hl)
          · cases hs
        · cases hs
      · cases hs
    · cases hs
  all_goals cases hs
