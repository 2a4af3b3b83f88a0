/-! how many parameters each method has -/
def xNP0 : List Nat := [0, 4, 0, 1, 1, 0, 0, 4, 2, 3, 3, 4, 0, 0, 0, 4, 2, 3, 1, 0, 3, 0, 1, 1, 1, 0, 1, 1, 0, 0, 0, 0, 1, 2, 4, 0, 1, 2, 2, 2, 2, 2, 2, 2, 0, 0, 0, 1, 1, 2, 3, 0, 3, 0, 1, 0, 0, 0, 1, 0]
def xNP1 : List Nat := [3, 1, 0, 0, 4, 3, 2, 2, 3, 2, 6, 4, 2, 5, 1, 3, 1, 3, 2, 2, 1, 1, 1, 1, 1, 2, 1, 1, 2, 2, 1, 4, 3, 5, 0, 0, 1, 2, 0, 0, 5, 1, 0, 1, 2, 2, 2, 2, 2, 2, 2, 1, 3, 0, 2, 3, 0, 0, 3, 2]
def xNP2 : List Nat := [3, 3, 3, 0, 0, 1, 2, 3, 5, 3, 2, 2, 1, 1, 2, 4, 2, 1, 0, 1, 1, 0, 0, 1, 1, 1, 1, 2, 2, 2, 1, 2, 2, 2, 2, 1, 2, 1, 3, 2, 4, 2, 3, 3, 4, 4, 0, 0, 2, 3, 2, 2, 1, 5, 1, 1, 1, 1, 0, 6]
def xNP3 : List Nat := [1, 0, 1, 0, 1, 1, 2, 2, 1, 1, 1, 1, 1, 0, 0, 1, 0, 0, 2, 0, 0, 0, 0, 1, 0, 0, 1, 0, 3, 1, 3, 1, 2, 2, 2, 2, 2, 2, 3, 1, 2, 3, 2, 1, 0, 0, 0, 1, 1, 1, 1, 2, 2, 1, 1, 2, 1, 1, 2, 2]
def xNP4 : List Nat := [2, 2, 2, 1, 3, 0, 2, 3, 2, 0, 2, 3, 3, 1, 2, 3, 3, 3, 3, 0, 0, 0, 1, 2, 2, 3, 4, 5, 5, 1, 3, 2, 2, 1, 1, 2, 1, 0, 1, 1, 2, 4, 2, 0, 0, 1, 1, 1, 2, 2, 0, 1, 0, 0, 2, 2, 2, 1, 2, 2]
def xNP5 : List Nat := [2, 3, 3, 3, 4, 4, 4, 4, 4, 4, 3, 5, 4, 5, 5, 4, 5, 5, 5, 3, 4, 5, 7, 5, 4, 4, 3, 3, 4, 6, 4, 3, 3, 3, 1]
def xNp (i : Nat) : Nat := match i / 60 with
  | 0 => xNP0.getD (i % 60) 0
  | 1 => xNP1.getD (i % 60) 0
  | 2 => xNP2.getD (i % 60) 0
  | 3 => xNP3.getD (i % 60) 0
  | 4 => xNP4.getD (i % 60) 0
  | 5 => xNP5.getD (i % 60) 0
  | _ => 0
theorem xNP0_ok : ((List.range 60).all fun k => decide ((parseMethodDescriptor (xY (0 + k)).desc).map (fun d => d.parameters.length) = some (xNp (0 + k)))) = true := by decide +kernel
theorem xNP1_ok : ((List.range 60).all fun k => decide ((parseMethodDescriptor (xY (60 + k)).desc).map (fun d => d.parameters.length) = some (xNp (60 + k)))) = true := by decide +kernel
theorem xNP2_ok : ((List.range 60).all fun k => decide ((parseMethodDescriptor (xY (120 + k)).desc).map (fun d => d.parameters.length) = some (xNp (120 + k)))) = true := by decide +kernel
theorem xNP3_ok : ((List.range 60).all fun k => decide ((parseMethodDescriptor (xY (180 + k)).desc).map (fun d => d.parameters.length) = some (xNp (180 + k)))) = true := by decide +kernel
theorem xNP4_ok : ((List.range 60).all fun k => decide ((parseMethodDescriptor (xY (240 + k)).desc).map (fun d => d.parameters.length) = some (xNp (240 + k)))) = true := by decide +kernel
theorem xNP5_ok : ((List.range 35).all fun k => decide ((parseMethodDescriptor (xY (300 + k)).desc).map (fun d => d.parameters.length) = some (xNp (300 + k)))) = true := by decide +kernel
theorem xNp_ok (i : Nat) (h : i < 335) : (parseMethodDescriptor (xY i).desc).map (fun d => d.parameters.length) = some (xNp i) := by
  rcases (by omega : (0 ≤ i ∧ i < 60) ∨ (60 ≤ i ∧ i < 120) ∨ (120 ≤ i ∧ i < 180) ∨ (180 ≤ i ∧ i < 240) ∨ (240 ≤ i ∧ i < 300) ∨ (300 ≤ i ∧ i < 335)) with h | h | h | h | h | h
  · have h1 := List.all_eq_true.mp xNP0_ok (i - 0) (List.mem_range.mpr (by omega))
    rw [show 0 + (i - 0) = i by omega] at h1
    exact of_decide_eq_true h1
  · have h1 := List.all_eq_true.mp xNP1_ok (i - 60) (List.mem_range.mpr (by omega))
    rw [show 60 + (i - 60) = i by omega] at h1
    exact of_decide_eq_true h1
  · have h1 := List.all_eq_true.mp xNP2_ok (i - 120) (List.mem_range.mpr (by omega))
    rw [show 120 + (i - 120) = i by omega] at h1
    exact of_decide_eq_true h1
  · have h1 := List.all_eq_true.mp xNP3_ok (i - 180) (List.mem_range.mpr (by omega))
    rw [show 180 + (i - 180) = i by omega] at h1
    exact of_decide_eq_true h1
  · have h1 := List.all_eq_true.mp xNP4_ok (i - 240) (List.mem_range.mpr (by omega))
    rw [show 240 + (i - 240) = i by omega] at h1
    exact of_decide_eq_true h1
  · have h1 := List.all_eq_true.mp xNP5_ok (i - 300) (List.mem_range.mpr (by omega))
    rw [show 300 + (i - 300) = i by omega] at h1
    exact of_decide_eq_true h1
/-! BRANCHES -/
def brc (i : Instr) (st : List Value) : Option (Prop × Prop × List Value) := match i with
  | .ifCond .eq _ => (match st with
    | .int x :: r => some (x = 0, ¬ x = 0, r)
    | _ => none)
  | .ifCond .ne _ => (match st with
    | .int x :: r => some (¬ x = 0, x = 0, r)
    | _ => none)
  | .ifCond .lt _ => (match st with
    | .int x :: r => some (x < 0, ¬ x < 0, r)
    | _ => none)
  | .ifCond .ge _ => (match st with
    | .int x :: r => some (0 ≤ x, ¬ 0 ≤ x, r)
    | _ => none)
  | .ifCond .gt _ => (match st with
    | .int x :: r => some (0 < x, ¬ 0 < x, r)
    | _ => none)
  | .ifCond .le _ => (match st with
    | .int x :: r => some (x ≤ 0, ¬ x ≤ 0, r)
    | _ => none)
  | .if_icmp .eq _ => (match st with
    | .int y :: .int x :: r => some (x = y, ¬ x = y, r)
    | _ => none)
  | .if_icmp .ne _ => (match st with
    | .int y :: .int x :: r => some (¬ x = y, x = y, r)
    | _ => none)
  | .if_icmp .lt _ => (match st with
    | .int y :: .int x :: r => some (x < y, ¬ x < y, r)
    | _ => none)
  | .if_icmp .ge _ => (match st with
    | .int y :: .int x :: r => some (y ≤ x, ¬ y ≤ x, r)
    | _ => none)
  | .if_icmp .gt _ => (match st with
    | .int y :: .int x :: r => some (y < x, ¬ y < x, r)
    | _ => none)
  | .if_icmp .le _ => (match st with
    | .int y :: .int x :: r => some (x ≤ y, ¬ x ≤ y, r)
    | _ => none)
  | _ => none
set_option maxHeartbeats 4000000 in
set_option maxRecDepth 100000 in
theorem x_br {M : xM} {fr : Bool} {dp kc ks pc nx tgt : Nat} {i : Instr} {li : Int32} {ll : Int64} {ls : List (Option Value)} {st st' : List Value} {h : xHp} {Q : xPost} {X : Nat → xHp → Prop} {pt pf : Prop}
    (hf : xft M.2.2.2.2.2 pc = some (nx, i, [tgt], li, ll)) (hs : brc i st = some (pt, pf, st')) (kt : pt → Ex M fr dp kc ks tgt ls st' h Q X) (kf : pf → Ex M fr dp kc ks nx ls st' h Q X) : Ex M fr dp kc ks pc ls st h Q X := by
  intro hg p l e R s m args below meth c D ka al A H locs cells slots mc ms lsA C R0 B hW hS hl
  have Kt := fun q => kt q hg p l e R s m args below meth c D ka al A H locs cells slots mc ms lsA C R0 B hW hS hl
  have Kf := fun q => kf q hg p l e R s m args below meth c D ka al A H locs cells slots mc ms lsA C R0 B hW hS hl
  have hx := C.1
  have hb := C.2.1
  cases i
  case ifCond o off =>
    obtain ⟨hd, rfl, hr⟩ := xft_dec hg.1 hf rfl
    have ht : (pc : Int) + off = (tgt : Int) := by simpa [xres, xtg] using hr
    cases o <;> simp only [brc] at hs <;> split at hs <;> cases hs
    all_goals first | exact lv_if_eq hx hb hd ht Kt Kf | exact lv_if_ne hx hb hd ht Kt Kf | exact lv_if_lt hx hb hd ht Kt Kf | exact lv_if_ge hx hb hd ht Kt Kf | exact lv_if_gt hx hb hd ht Kt Kf | exact lv_if_le hx hb hd ht Kt Kf
  case if_icmp o off =>
    obtain ⟨hd, rfl, hr⟩ := xft_dec hg.1 hf rfl
    have ht : (pc : Int) + off = (tgt : Int) := by simpa [xres, xtg] using hr
    cases o <;> simp only [brc] at hs <;> split at hs <;> cases hs
    all_goals first | exact lv_icmp_eq hx hb hd ht Kt Kf | exact lv_icmp_ne hx hb hd ht Kt Kf | exact lv_icmp_lt hx hb hd ht Kt Kf | exact lv_icmp_ge hx hb hd ht Kt Kf | exact lv_icmp_gt hx hb hd ht Kt Kf | exact lv_icmp_le hx hb hd ht Kt Kf
  all_goals cases hs
/-! ARRAYS -/
def xald (i : Instr) (t : Nat) : Bool := match i with
  | .iaload => Nat.beq t 100
  | .baload => Nat.beq t 101 || Nat.beq t 102
  | .laload => Nat.beq t 103
  | .aaload => Nat.beq t 104 || Nat.beq t 105
  | _ => false
def xav (h : xHp) (t c k : Nat) : Option Value := match h with
  | (_, d, L, r) => match t with
    | 100 => some (.int (d c k))
    | 101 => some (.int (d c k))
    | 102 => some (.int (d c k))
    | 103 => some (.long (L c k))
    | _ => match r c k with
      | some x => some (.ref x)
      | none => none
theorem nI_cl {k n : Nat} (hk : k < n) (hn : n < 2147483648) : (nI k).toNatClampNeg = k := nI_clamp (by omega)
theorem nI_vin {k n : Nat} (hk : k < n) (hn : n < 2147483648) : vp_in (nI k) n := vp_in_nI hk (by omega)
theorem xaldA {p : Program} {l : Launch} {e : Env} {R : Room} {s : State} {m : MethodId} {args : Array Value} {below : List Frame} {meth : Method} {c : Code} {H : Heap} {locs : List Loc} {cells slots : Nat} {Q : State → Prop} {cc : ByteArray} {pc : Nat} {ls : Array Slot} {rest : List Value} {D : va_G} {cl : List vw_C} {a : Nat} {tys : List (ClassId × FieldType)} {ws : va_W}
    (hexec : p.tables.exec = Jvm.exec) (hb : c.code = cc) (hK : va_K D cl tys s) (hP : va_P D cl ws H) (q0 t0 : Nat) {cA : ClassId} {ty : FieldType} {n : Nat} {f : Nat → Option Nat} (ha : ws[q0]? = some (a, .inl (cA, n, .inr (.inr (.inr (.inr f)))))) (ht : tys[t0]? = some (cA, .array ty)) {i : Int32} (hin : vp_in i n) (hdg : decode cc pc = .ok (.aaload, 1))
    (kk : W p l e R s m args below meth c H locs cells slots Q (F0 m (pc + 1) ls (va_rf (f i.toNatClampNeg) :: rest))) : W p l e R s m args below meth c H locs cells slots Q (F0 m pc ls (.int i :: .ref a :: rest)) := by
  have hlt : i.toNatClampNeg < n := Nat.not_le.mp fun q => hin (Or.inr q)
  exact W.aald (v := va_rf (f i.toNatClampNeg)) (ty := .array ty) hexec hb (hP q0 _ ha) ((hK.2 t0 _ ht).1 n (fun j => va_rf (f j))) rfl (fun q => by cases q) (by show ¬ (i < 0 ∨ (arrV _ _ _).slots.size ≤ _); rw [arrV_size]; exact hin) (by show (arrV _ _ _).slots[_]? = _; rw [arrV_read _ _ hlt]) rfl rfl hdg kk
set_option maxHeartbeats 4000000 in
set_option maxRecDepth 100000 in
/-- a place of an array is read -/
theorem x_ald {M : xM} {fr : Bool} {dp kc ks pc nx : Nat} {i : Instr} {rs : List Nat} {li : Int32} {ll : Int64} {ls : List (Option Value)} {st : List Value} {h : xHp} {Q : xPost} {X : Nat → xHp → Prop} {cl t n k : Nat} {iv : Int32} {v : Value}
    (hf : xft M.2.2.2.2.2 pc = some (nx, i, rs, li, ll)) (hsh : xsh h.1 cl = some (t, n)) (hs : xald i t = true) (hi : iv = nI k) (hk : k < n) (hn : n < 2147483648) (hv : xav h t cl k = some v) (kk : Ex M fr dp kc ks nx ls (v :: st) h Q X) : Ex M fr dp kc ks pc ls (.int iv :: .ref cl :: st) h Q X := by
  intro hg p l e R s m args below meth c D ka al A H locs cells slots mc ms lsA C R0 B hW hS hl
  have K := kk hg p l e R s m args below meth c D ka al A H locs cells slots mc ms lsA C R0 B hW hS hl
  have hx := C.1
  have hb := C.2.1
  have hK := C.2.2.2.2.2.2.2.1
  subst hi
  have hcl := nI_cl hk hn
  have hin := nI_vin hk hn
  have hw := xws_get (ka := ka) (al := al) (xsh_get hsh)
  obtain ⟨sh, d, L, r⟩ := h
  cases i
  case iaload =>
    obtain ⟨hd, rfl, hr⟩ := xft_dec hg.1 hf rfl
    have e := Nat.eq_of_beq_eq_true hs
    subst e
    cases hv
    refine va_iald (f := d cl) hx hb hK hW.1 cl 0 hw rfl hin hd ?_
    rw [hcl]
    exact K
  case laload =>
    obtain ⟨hd, rfl, hr⟩ := xft_dec hg.1 hf rfl
    have e := Nat.eq_of_beq_eq_true hs
    subst e
    cases hv
    refine va_lald (f := L cl) hx hb hK hW.1 cl 3 hw rfl hin hd ?_
    rw [hcl]
    exact K
  case baload =>
    obtain ⟨hd, rfl, hr⟩ := xft_dec hg.1 hf rfl
    rcases (Bool.or_eq_true _ _).mp hs with hs | hs
    · have e := Nat.eq_of_beq_eq_true hs
      subst e
      cases hv
      refine va_bald (f := d cl) hx hb hK hW.1 cl 1 hw rfl hin hd ?_
      rw [hcl]
      exact K
    · have e := Nat.eq_of_beq_eq_true hs
      subst e
      cases hv
      refine va_zald (f := d cl) hx hb hK hW.1 cl 2 hw rfl hin hd ?_
      rw [hcl]
      exact K
  case aaload =>
    obtain ⟨hd, rfl, hr⟩ := xft_dec hg.1 hf rfl
    rcases (Bool.or_eq_true _ _).mp hs with hs | hs
    · have e := Nat.eq_of_beq_eq_true hs
      subst e
      refine xaldA (ty := .int) (f := fun j => (r cl j).map al) hx hb hK hW.1 cl 4 hw rfl hin hd ?_
      rw [hcl]
      simp only [xav] at hv
      split at hv
      · rename_i x hx9
        cases hv
        rw [hx9]
        exact K
      · cases hv
    · have e := Nat.eq_of_beq_eq_true hs
      subst e
      refine va_aldq (C := RX10) (f := fun j => (r cl j).map al) hx hb hK hW.1 cl 5 hw rfl hin hd ?_
      rw [hcl]
      simp only [xav] at hv
      split at hv
      · rename_i x hx9
        cases hv
        rw [hx9]
        exact K
      · cases hv
  all_goals cases hs
theorem xfr_of {fr : Bool} {al : Nat → Nat} {h h' : xHp} {H H' : Heap} (e : h'.1 = h.1) (hs : H'.size = H.size) (hf : xfr fr al h H) : xfr fr al h' H' := by
  intro q i h1 h2
  rw [e] at h1
  rw [e, hs]
  exact hf q i h1 h2
/-- the next world, where one cell was written -/
theorem xWd_set {fr : Bool} {D : va_G} {ka : Nat → ClassId} {al : Nat → Nat} {A : Nat → Prop} {h h' : xHp} {H H' : Heap} {cl t n : Nat} {x : va_E} (e1 : h'.1 = h.1) (hc : h.1[cl]? = some (t, n)) (he : ∀ c', c' ≠ cl → ∀ t n, xcell ka al h' c' t n = xcell ka al h c' t n) (hx : xcell ka al h' cl t n = x) (hP : va_P D vwCl ((xws ka al h).set cl (al cl, x)) H') (hD : va_D A ((xws ka al h).set cl (al cl, x))) (hf : xfr fr al h H) (hs : H'.size = H.size) : xWd fr D ka al A h' H' := by
  have e := xws_set (ka := ka) (al := al) e1 hc he
  rw [hx] at e
  refine ⟨by rw [e]; exact hP, by rw [e]; exact hD, xfr_of e1 hs hf⟩
