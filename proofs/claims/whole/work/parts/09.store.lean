/-! STORES -/
section XST
variable {p : Program} {l : Launch} {e : Env} {R : Room} {s : State} {m : MethodId} {args : Array Value} {below : List Frame} {meth : Method} {c : Code} {H : Heap} {locs : List Loc} {cells slots : Nat} {Q : State → Prop}
variable {cc : ByteArray} {pc : Nat} {ls : Array Slot} {rest : List Value} {D : va_G} {cl : List vw_C} {A : Nat → Prop} {a : Nat} {tys : List (ClassId × FieldType)} {ws : va_W} {H0 : Heap}
theorem xs_iast (hexec : p.tables.exec = Jvm.exec) (hb : c.code = cc) (hK : va_K D cl tys s) (hP : va_P D cl ws H) (hD : va_D A ws) (hS : va_S A H0 H locs) (q0 t0 : Nat) {cA : ClassId} {n : Nat} {f : Nat → Int32} (ha : ws[q0]? = some (a, .inl (cA, n, .inl f))) (ht : tys[t0]? = some (cA, .int)) {i : Int32} {x : Int32} (hin : vp_in i n) (hdg : decode cc pc = .ok (.iastore, 1))
    (kk : ∀ (H1 : Heap) (locs1 : List Loc), va_P D cl (ws.set q0 (a, .inl (cA, n, .inl (upd f i.toNatClampNeg x)))) H1 → va_D A (ws.set q0 (a, .inl (cA, n, .inl (upd f i.toNatClampNeg x)))) → va_S A H0 H1 locs1 → H1.size = H.size → W p l e R s m args below meth c H1 locs1 cells slots Q (F0 m (pc + 1) ls rest)) : W p l e R s m args below meth c H locs cells slots Q (F0 m pc ls (.int x :: .int i :: .ref a :: rest)) := by
  refine W.iast hexec hb (hP q0 _ ha) ((hK.2 t0 _ ht).1 n (fun j => .int (f j))) (fun q => by cases q) (by show ¬ (i < 0 ∨ (arrV _ _ _).slots.size ≤ _); rw [arrV_size]; exact hin) rfl rfl hdg fun H1 e z oq => ?_
  refine kk H1 _ (hP.set hD ha ?_ oq) (hD.set ha) (hS.put z oq (hD.2 q0 _ ha)) z
  show H1[a]? = some (vp_cell _ _)
  rw [e]
  rw [vp_cell_i, vp_cell_i, arrV_store]
  congr 2
  funext q
  by_cases hq : q = i.toNatClampNeg
  · subst hq
    simp [updV, upd]
  · simp [updV, upd, hq]
theorem xs_put (hexec : p.tables.exec = Jvm.exec) (hb : c.code = cc) {own ref C : String} {T : u_T} {N ci index : Nat} {Ts : List Cond} (hts : ∀ w ∈ Ts, w.before args s = true) (hin : ∀ w ∈ u_ws C T N, w ∈ Ts) (ty0 : Nat → FieldType) (hty : ∀ k, k < N → parseFieldDescriptor (T k).2.2.1 = some (ty0 k)) (hnm : ∀ a, a < N → ∀ b, b < N → a ≠ b → (T a).2.1 ≠ (T b).2.1) (hown : s.vm.findClass own = some m.cls) (hK : va_K D cl tys s) (hP : va_P D cl ws H) (hD : va_D A ws) (hS0 : va_S A H0 H locs) (q0 : Nat) {fs : List Value} (he : ws[q0]? = some (a, .inr (ci, fs))) (hc : cl[ci]? = some (C, T, N)) (k : Nat) (hk : k < N) (hlink : (Cond.fieldLink own index ref (T k).2.1 (T k).2.2.1).before args s = true) (hsame : ∀ x, s.fieldFound? (T k).1 (T k).2.1 (T k).2.2.1 = some x → s.fieldFound? ref (T k).2.1 (T k).2.2.1 = some x) (hfin : (T k).2.2.2 = false ∨ (meth.name = "<init>" ∧ (T k).1 = own)) {ty : FieldType} {v : Value} (hd : parseFieldDescriptor (T k).2.2.1 = some ty) (hn : narrow ty v = v) (hfit : fits ty v = true) (hl : k < fs.length)
    (hdg : decode cc pc = .ok (.putfield index, 3)) (kk : ∀ (H1 : Heap) (locs1 : List Loc), va_P D cl (ws.set q0 (a, .inr (ci, fs.set k v))) H1 → va_D A (ws.set q0 (a, .inr (ci, fs.set k v))) → va_S A H0 H1 locs1 → H1.size = H.size → W p l e R s m args below meth c H1 locs1 cells slots Q (F0 m (pc + 3) ls rest)) : W p l e R s m args below meth c H locs cells slots Q (F0 m pc ls (v :: .ref a :: rest)) := by
  have hap := va_apart (own := own) hts hin ty0 hty hnm hK hc
  obtain ⟨r, h1, cell, q1, q2, q3, q4⟩ := hP q0 _ he
  have hr : r = (C, T, N) := Option.some.inj (h1.symm.trans hc)
  subst hr
  obtain ⟨hS, hfc, kC, hkC, hkind⟩ := hK.1 ci _ hc
  obtain ⟨cf, kf, fi, f, hi, hsl⟩ := hS k hk
  have hlay := hts _ (hin _ (u_in_lay hk))
  unfold u_lay at hlay
  have hst := (u_facts hfc hkC (u_lays hts hin hk) hi).1
  cases hff : (T k).2.2.2 with
  | false =>
    rw [if_neg (by rw [hff]; decide)] at hlay
    have h6 := u_store hfc hkC hkind hlay hi hd hn hfit
    refine W.putK hexec hb (f := f) ⟨hown, hlink, ⟨_, _, _, hsame _ hi⟩, hst⟩ (by rw [q2]; exact h6) q1 q3 (by rw [hsl]; exact k2_hasslot (q4 k hk)) rfl rfl hdg fun H' e1 e2 e3 => ?_
    rw [hsl] at e1 ⊢
    exact kk H' _ (hP.set hD he ⟨_, hc, t_OB.to (V := updV (vp_V fs) k v) ⟨_, e1, q2, q3, t_set q4 hap hk v⟩ (fun j _ => vp_updV_set hl v j)⟩ e3) (hD.set he) (hS0.put e2 e3 (hD.2 q0 _ he)) e2
  | true =>
    rw [if_pos hff] at hlay
    rcases hfin with hz | ⟨hin2, hdecl⟩
    · rw [hff] at hz; cases hz
    · have hcf : m.cls = cf := by
        obtain ⟨_, _, c', _, _, _, -, -, hf', -, -, -, hown2, -⟩ := Cond.laysFinal_spec hlay
        have e1 : c' = cf := by have := hi.symm.trans hf'; simp at this; exact this.1.symm
        rw [hdecl] at hown2
        rw [← e1]; exact Option.some.inj (hown.symm.trans hown2)
      have h6 := u_fits hfc hkC hkind (Or.inr hlay) hi hd hn hfit
      refine W.putFinK hexec hb hown hlink (hsame _ hi) hst hcf hin2 (by rw [q2]; exact h6) q1 q3 (by rw [hsl]; exact k2_hasslot (q4 k hk)) rfl rfl hdg fun H' e1 e2 e3 => ?_
      rw [hsl] at e1 ⊢
      exact kk H' _ (hP.set hD he ⟨_, hc, t_OB.to (V := updV (vp_V fs) k v) ⟨_, e1, q2, q3, t_set q4 hap hk v⟩ (fun j _ => vp_updV_set hl v j)⟩ e3) (hD.set he) (hS0.put e2 e3 (hD.2 q0 _ he)) e2
end XST
theorem upd_up2 {d : Nat → Nat → Int32} {c k : Nat} {v : Int32} : up2 d c k v c = upd (d c) k v := by
  funext j
  by_cases hj : j = k
  · simp [up2, upd, hj]
  · simp [up2, upd, hj]
theorem updL_up2 {d : Nat → Nat → Int64} {c k : Nat} {v : Int64} : up2 d c k v c = vp_updL (d c) k v := by
  funext j
  by_cases hj : j = k
  · simp [up2, vp_updL, hj]
  · simp [up2, vp_updL, hj]
def xqI (h : xHp) (c k : Nat) (x : Int32) : Option xHp := match h with
  | (sh, d, L, r) => some (sh, up2 d c k x, L, r)
def xqL (h : xHp) (c k : Nat) (x : Int64) : Option xHp := match h with
  | (sh, d, L, r) => some (sh, d, up2 L c k x, r)
theorem xqI_eq {h h' : xHp} {c k : Nat} {x : Int32} (e : xqI h c k x = some h') : h' = xpI h c k x := by
  obtain ⟨sh, d, L, r⟩ := h
  exact (Option.some.inj e).symm
theorem xqL_eq {h h' : xHp} {c k : Nat} {x : Int64} (e : xqL h c k x = some h') : h' = xpL h c k x := by
  obtain ⟨sh, d, L, r⟩ := h
  exact (Option.some.inj e).symm
set_option maxHeartbeats 4000000 in
/-- a place of an int array is written -/
theorem x_iast {M : xM} {fr : Bool} {dp kc ks pc nx : Nat} {rs : List Nat} {li : Int32} {ll : Int64} {ls : List (Option Value)} {st : List Value} {h h' : xHp} {Q : xPost} {X : Nat → xHp → Prop} {cl n k : Nat} {iv x : Int32}
    (hf : xft M.2.2.2.2.2 pc = some (nx, .iastore, rs, li, ll)) (hsh : xsh h.1 cl = some (100, n)) (hi : iv = nI k) (hk : k < n) (hn : n < 2147483648) (hq : xqI h cl k x = some h') (kk : Ex M fr dp kc ks nx ls st h' Q X) : Ex M fr dp kc ks pc ls (.int x :: .int iv :: .ref cl :: st) h Q X := by
  intro hg p l e R s m args below meth c D ka al A H locs cells slots mc ms lsA C R0 B hW hS hl
  cases xqI_eq hq
  subst hi
  obtain ⟨hd, rfl, hr⟩ := xft_dec hg.1 hf rfl
  have hc := xsh_get hsh
  refine xs_iast (f := h.2.1 cl) C.1 C.2.1 C.2.2.2.2.2.2.2.1 hW.1 hW.2.1 hS cl 0 (xws_get hc) rfl (nI_vin hk hn) hd fun H1 locs1 hP1 hD1 hS1 hz => ?_
  rw [nI_cl hk hn] at hP1 hD1
  exact kk hg p l e R s m args below meth c D ka al A H1 locs1 cells slots mc ms lsA C R0 B (xWd_set (h := h) rfl hc (fun _ hne _ _ => xcell_I hne) (by show Sum.inl (ka 100, n, Sum.inl (up2 h.2.1 cl k x cl)) = _; rw [upd_up2]) hP1 hD1 hW.2.2 hz) hS1 hl
set_option maxHeartbeats 4000000 in
/-- a place of a byte or boolean array is written -/
theorem x_bast {M : xM} {dp kc ks pc nx : Nat} {rs : List Nat} {li : Int32} {ll : Int64} {ls : List (Option Value)} {st : List Value} {h h' : xHp} {Q : xPost} {X : Nat → xHp → Prop} {cl n k : Nat} {iv x : Int32}
    (hf : xft M.2.2.2.2.2 pc = some (nx, .bastore, rs, li, ll)) (hsh : xsh h.1 cl = some (101, n)) (hi : iv = nI k) (hk : k < n) (hn : n < 2147483648) (hq : xqI h cl k x.toInt8.toInt32 = some h') (kk : Ex M false dp kc ks nx ls st h' Q X) : Ex M false dp kc ks pc ls (.int x :: .int iv :: .ref cl :: st) h Q X := by
  intro hg p l e R s m args below meth c D ka al A H locs cells slots mc ms lsA C R0 B hW hS hl
  cases xqI_eq hq
  subst hi
  obtain ⟨hd, rfl, hr⟩ := xft_dec hg.1 hf rfl
  have hc := xsh_get hsh
  refine va_bast (f := h.2.1 cl) C.1 C.2.1 C.2.2.2.2.2.2.2.1 hW.1 hW.2.1 hS cl 1 (xws_get hc) rfl (nI_vin hk hn) hd fun H1 locs1 hP1 hD1 hS1 => ?_
  rw [nI_cl hk hn, vp_nar_byte] at hP1 hD1
  have ew := xws_set (ka := ka) (al := al) (h := h) (h' := xpI h cl k x.toInt8.toInt32) rfl hc (fun _ hne _ _ => xcell_I hne)
  rw [show xcell ka al (xpI h cl k x.toInt8.toInt32) cl 101 n = Sum.inl (ka 101, n, Sum.inl (upd (h.2.1 cl) k x.toInt8.toInt32)) by show Sum.inl (ka 101, n, Sum.inl (up2 h.2.1 cl k x.toInt8.toInt32 cl)) = _; rw [upd_up2]] at ew
  exact kk hg p l e R s m args below meth c D ka al A H1 locs1 cells slots mc ms lsA C R0 B ⟨by rw [ew]; exact hP1, by rw [ew]; exact hD1, fun q => by cases q⟩ hS1 hl
set_option maxHeartbeats 4000000 in
theorem x_zast {M : xM} {dp kc ks pc nx : Nat} {rs : List Nat} {li : Int32} {ll : Int64} {ls : List (Option Value)} {st : List Value} {h h' : xHp} {Q : xPost} {X : Nat → xHp → Prop} {cl n k : Nat} {iv x : Int32}
    (hf : xft M.2.2.2.2.2 pc = some (nx, .bastore, rs, li, ll)) (hsh : xsh h.1 cl = some (102, n)) (hi : iv = nI k) (hk : k < n) (hn : n < 2147483648) (hq : xqI h cl k (vp_nar .boolean x) = some h') (kk : Ex M false dp kc ks nx ls st h' Q X) : Ex M false dp kc ks pc ls (.int x :: .int iv :: .ref cl :: st) h Q X := by
  intro hg p l e R s m args below meth c D ka al A H locs cells slots mc ms lsA C R0 B hW hS hl
  cases xqI_eq hq
  subst hi
  obtain ⟨hd, rfl, hr⟩ := xft_dec hg.1 hf rfl
  have hc := xsh_get hsh
  refine va_zast (f := h.2.1 cl) C.1 C.2.1 C.2.2.2.2.2.2.2.1 hW.1 hW.2.1 hS cl 2 (xws_get hc) rfl (nI_vin hk hn) hd fun H1 locs1 hP1 hD1 hS1 => ?_
  rw [nI_cl hk hn] at hP1 hD1
  have ew := xws_set (ka := ka) (al := al) (h := h) (h' := xpI h cl k (vp_nar .boolean x)) rfl hc (fun _ hne _ _ => xcell_I hne)
  rw [show xcell ka al (xpI h cl k (vp_nar .boolean x)) cl 102 n = Sum.inl (ka 102, n, Sum.inl (upd (h.2.1 cl) k (vp_nar .boolean x))) by show Sum.inl (ka 102, n, Sum.inl (up2 h.2.1 cl k (vp_nar .boolean x) cl)) = _; rw [upd_up2]] at ew
  exact kk hg p l e R s m args below meth c D ka al A H1 locs1 cells slots mc ms lsA C R0 B ⟨by rw [ew]; exact hP1, by rw [ew]; exact hD1, fun q => by cases q⟩ hS1 hl
set_option maxHeartbeats 4000000 in
/-- a place of a long array is written -/
theorem x_last {M : xM} {dp kc ks pc nx : Nat} {rs : List Nat} {li : Int32} {ll : Int64} {ls : List (Option Value)} {st : List Value} {h h' : xHp} {Q : xPost} {X : Nat → xHp → Prop} {cl n k : Nat} {iv : Int32} {x : Int64}
    (hf : xft M.2.2.2.2.2 pc = some (nx, .lastore, rs, li, ll)) (hsh : xsh h.1 cl = some (103, n)) (hi : iv = nI k) (hk : k < n) (hn : n < 2147483648) (hq : xqL h cl k x = some h') (kk : Ex M false dp kc ks nx ls st h' Q X) : Ex M false dp kc ks pc ls (.long x :: .int iv :: .ref cl :: st) h Q X := by
  intro hg p l e R s m args below meth c D ka al A H locs cells slots mc ms lsA C R0 B hW hS hl
  cases xqL_eq hq
  subst hi
  obtain ⟨hd, rfl, hr⟩ := xft_dec hg.1 hf rfl
  have hc := xsh_get hsh
  refine va_last (f := h.2.2.1 cl) C.1 C.2.1 C.2.2.2.2.2.2.2.1 hW.1 hW.2.1 hS cl 3 (xws_get hc) rfl (nI_vin hk hn) hd fun H1 locs1 hP1 hD1 hS1 => ?_
  rw [nI_cl hk hn] at hP1 hD1
  have ew := xws_set (ka := ka) (al := al) (h := h) (h' := xpL h cl k x) rfl hc (fun _ hne _ _ => xcell_L hne)
  rw [show xcell ka al (xpL h cl k x) cl 103 n = Sum.inl (ka 103, n, Sum.inr (Sum.inl (vp_updL (h.2.2.1 cl) k x))) by show Sum.inl (ka 103, n, Sum.inr (Sum.inl (up2 h.2.2.1 cl k x cl))) = _; rw [updL_up2]] at ew
  exact kk hg p l e R s m args below meth c D ka al A H1 locs1 cells slots mc ms lsA C R0 B ⟨by rw [ew]; exact hP1, by rw [ew]; exact hD1, fun q => by cases q⟩ hS1 hl
/-! FIELDS -/
theorem xty_ok : ∀ ci, ci < 13 → ∀ k, k < xNf ci → parseFieldDescriptor (xT ci k).2.2.1 = some (xty ci k) := by
  intro ci h
  rcases (by omega : ci = 0 ∨ ci = 1 ∨ ci = 2 ∨ ci = 3 ∨ ci = 4 ∨ ci = 5 ∨ ci = 6 ∨ ci = 7 ∨ ci = 8 ∨ ci = 9 ∨ ci = 10 ∨ ci = 11 ∨ ci = 12) with rfl | rfl | rfl | rfl | rfl | rfl | rfl | rfl | rfl | rfl | rfl | rfl | rfl
  · exact tyX0_ok
  · exact tyX1_ok
  · exact tyX2_ok
  · exact tyX3_ok
  · exact tyX4_ok
  · exact tyX5_ok
  · exact tyX6_ok
  · exact tyX7_ok
  · exact tyX8_ok
  · exact tyX9_ok
  · exact tyX10_ok
  · exact tyX11_ok
  · exact tyX12_ok
theorem xnm_ok : ∀ ci, ci < 13 → ∀ a, a < xNf ci → ∀ b, b < xNf ci → a ≠ b → (xT ci a).2.1 ≠ (xT ci b).2.1 := by
  intro ci h
  rcases (by omega : ci = 0 ∨ ci = 1 ∨ ci = 2 ∨ ci = 3 ∨ ci = 4 ∨ ci = 5 ∨ ci = 6 ∨ ci = 7 ∨ ci = 8 ∨ ci = 9 ∨ ci = 10 ∨ ci = 11 ∨ ci = 12) with rfl | rfl | rfl | rfl | rfl | rfl | rfl | rfl | rfl | rfl | rfl | rfl | rfl
  · exact nmX0
  · exact nmX1
  · exact nmX2
  · exact nmX3
  · exact nmX4
  · exact nmX5
  · exact nmX6
  · exact nmX7
  · exact nmX8
  · exact nmX9
  · exact nmX10
  · exact nmX11
  · exact nmX12
/-- what a field's store makes of the world -/
def xpv (h : xHp) (c ci k : Nat) (v : Value) : Option xHp := match h with
  | (sh, d, L, r) => match xkd (xty ci k) with
    | 0 => (match v with
      | .int x => some (sh, up2 d c k x, L, r)
      | _ => none)
    | 3 => (match v with
      | .int x => some (sh, up2 d c k x, L, r)
      | _ => none)
    | 2 => (match v with
      | .long x => some (sh, d, up2 L c k x, r)
      | _ => none)
    | _ => (match v with
      | .ref x => some (sh, d, L, up2 r c k (some x))
      | _ => none)
/-- what fits: for a boolean 0 or 1 -/
def xfit (ci k : Nat) (v : Value) : Prop := narrow (xty ci k) v = v ∧ fits (xty ci k) v = true
theorem xfv_at {al : Nat → Nat} {h h' : xHp} {c ci k j : Nat} (h1 : h'.2.1 c j = h.2.1 c j) (h2 : h'.2.2.1 c j = h.2.2.1 c j) (h3 : h'.2.2.2 c j = h.2.2.2 c j) : xfv al h' c ci j = xfv al h c ci j := by
  unfold xfv
  rw [h1, h2, h3]
theorem xkd_cases (ty : FieldType) : xkd ty = 0 ∨ xkd ty = 3 ∨ xkd ty = 2 ∨ xkd ty = 1 := by
  unfold xkd
  split <;> simp
theorem xpv_ok {al : Nat → Nat} {h h' : xHp} {c ci k : Nat} {v : Value} (hv : xpv h c ci k v = some h') : h'.1 = h.1 ∧ (∀ c', c' ≠ c → h'.2.1 c' = h.2.1 c' ∧ h'.2.2.1 c' = h.2.2.1 c' ∧ h'.2.2.2 c' = h.2.2.2 c') ∧ xfv al h' c ci k = xcv al v ∧ ∀ j, j ≠ k → xfv al h' c ci j = xfv al h c ci j := by
  obtain ⟨sh, d, L, r⟩ := h
  simp only [xpv] at hv
  rcases xkd_cases (xty ci k) with e | e | e | e
  · rw [e] at hv
    simp only at hv
    split at hv
    · cases hv
      exact ⟨rfl, fun c' hc => ⟨up2_ne hc, rfl, rfl⟩, by unfold xfv; rw [e]; simp [up2_eq, xcv], fun j hj => xfv_at (k := k) (up2_k hj) rfl rfl⟩
    · cases hv
  · rw [e] at hv
    simp only at hv
    split at hv
    · cases hv
      exact ⟨rfl, fun c' hc => ⟨up2_ne hc, rfl, rfl⟩, by unfold xfv; rw [e]; simp [up2_eq, xcv], fun j hj => xfv_at (k := k) (up2_k hj) rfl rfl⟩
    · cases hv
  · rw [e] at hv
    simp only at hv
    split at hv
    · cases hv
      exact ⟨rfl, fun c' hc => ⟨rfl, up2_ne hc, rfl⟩, by unfold xfv; rw [e]; simp [up2_eq, xcv], fun j hj => xfv_at (k := k) rfl (up2_k hj) rfl⟩
    · cases hv
  · rw [e] at hv
    simp only at hv
    split at hv
    · cases hv
      exact ⟨rfl, fun c' hc => ⟨rfl, rfl, up2_ne hc⟩, by unfold xfv; rw [e]; simp [up2_eq, xcv, va_rf], fun j hj => xfv_at (k := k) rfl rfl (up2_k hj)⟩
    · cases hv
theorem xcv_fit {al : Nat → Nat} {ty : FieldType} {v : Value} (h : narrow ty v = v ∧ fits ty v = true) : narrow ty (xcv al v) = xcv al v ∧ fits ty (xcv al v) = true := by
  cases v
  case ref i =>
    refine ⟨?_, ?_⟩
    · cases ty <;> rfl
    · have := h.2
      cases ty <;> first | exact this | rfl
  all_goals exact h
set_option maxHeartbeats 4000000 in
/-- a field is written -/
theorem x_put {M : xM} {fr : Bool} {dp kc ks pc nx : Nat} {i ci k n cl : Nat} {li : Int32} {ll : Int64} {ls : List (Option Value)} {st : List Value} {h h' : xHp} {Q : xPost} {X : Nat → xHp → Prop} {v : Value}
    (hf : xft M.2.2.2.2.2 pc = some (nx, .putfield i, [ci, k], li, ll)) (hsh : xsh h.1 cl = some (ci, n)) (hn : k < n) (hv : xpv h cl ci k v = some h') (hfit : xfit ci k v) (hfin : (xT ci k).2.2.2 = false ∨ ((xY M.1).name = "<init>" ∧ (xT ci k).1 = xOwn M.2.1)) (kk : Ex M fr dp kc ks nx ls st h' Q X) : Ex M fr dp kc ks pc ls (v :: .ref cl :: st) h Q X := by
  intro hg p l e R s m args below meth c D ka al A H locs cells slots mc ms lsA C R0 B hW hS hl
  obtain ⟨hd, rfl, hr⟩ := xft_dec hg.1 hf rfl
  have hc := xsh_get hsh
  obtain ⟨h1, h2, h3⟩ := xfld (Or.inr hr)
  obtain ⟨T, hT1, hT2⟩ := xvw h1
  subst hT2
  obtain ⟨f1, f2, f3, f4⟩ := xpv_ok (al := al) hv
  have hw := xws_get (ka := ka) (al := al) hc
  rw [xcell_obj (by omega)] at hw
  have hq := xcv_fit (al := al) hfit
  refine xs_put (C := xOwn ci) (T := xT ci) (N := xNf ci) (ref := (xT ci k).1) C.1 C.2.1 C.2.2.2.2.2.1 (xws_lays ci h1) (xty ci) (xty_ok ci h1) (xnm_ok ci h1) C.2.2.2.2.1 C.2.2.2.2.2.2.2.1 hW.1 hW.2.1 hS cl hw hT1 k h2 (C.2.2.2.2.2.1 _ h3) (fun _ h9 => h9) (hfin.elim Or.inl fun z => Or.inr ⟨C.2.2.2.2.2.2.2.2.2.2.2.1.trans z.1, z.2⟩) (xty_ok ci h1 k h2) hq.1 hq.2 (by simpa using hn) hd fun H1 locs1 hP1 hD1 hS1 hz => ?_
  refine kk hg p l e R s m args below meth c D ka al A H1 locs1 cells slots mc ms lsA C R0 B (xWd_set f1 hc (fun c' hne t n => xcell_cong (f2 c' hne).1 (f2 c' hne).2.1 (f2 c' hne).2.2) ?_ hP1 hD1 hW.2.2 hz) hS1 hl
  rw [xcell_obj (by omega)]
  congr 2
  apply List.ext_getElem?
  intro j
  by_cases hj : j = k
  · subst hj
    rw [List.getElem?_set_self (by simpa using hn)]
    simp [hn, f3]
  · rw [List.getElem?_set_ne (Ne.symm hj)]
    by_cases hjn : j < n
    · simp [hjn, f4 j hj]
    · simp [hjn]
