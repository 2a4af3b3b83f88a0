/-! System.arraycopy between int arrays -/
def upC (d : Nat → Nat → Int32) (b : Nat) (f : Nat → Int32) : Nat → Nat → Int32 := fun c k => if c = b then f k else d c k
def xqC (h : xHp) (b : Nat) (f : (Nat → Nat → Int32) → Nat → Int32) : Option xHp := match h with
  | (sh, d, L, r) => some (sh, upC d b (f d), L, r)
theorem upC_ne {d : Nat → Nat → Int32} {b c : Nat} {f : Nat → Int32} (h : c ≠ b) : upC d b f c = d c := by
  funext k
  simp [upC, h]
theorem upC_eq {d : Nat → Nat → Int32} {b : Nat} {f : Nat → Int32} : upC d b f b = f := by
  funext k
  simp [upC]
set_option maxHeartbeats 4000000 in
theorem x_acp {M : xM} {dp kc ks pc nx i mid : Nat} {li : Int32} {ll : Int64} {ls : List (Option Value)} {st : List Value} {h h' : xHp} {Q : xPost} {X : Nat → xHp → Prop} {a b na nb sn dn n : Nat} {si di ni : Int32}
    (hf : xft M.2.2.2.2.2 pc = some (nx, .invokestatic i, [14, mid], li, ll)) (ha : xsh h.1 a = some (100, na)) (hb0 : xsh h.1 b = some (100, nb)) (hs : si = nI sn) (hd0 : di = nI dn) (hn : ni = nI n) (h1 : sn + n ≤ na) (h2 : dn + n ≤ nb) (hna : na < 2147483648) (hnb : nb < 2147483648) (hdp : 2 ≤ dp) (hst : (st.map fun v => v.category).sum ≤ 8)
    (hq : xqC h b (fun d => va_cpy (d a) (d b) sn dn n) = some h') (k : Ex M false dp kc ks nx ls st h' Q X) : Ex M false dp kc ks pc ls (.int ni :: .int di :: .ref b :: .int si :: .ref a :: st) h Q X := by
  intro hg p l e R s m args below meth c D ka al A H locs cells slots mc ms lsA C R0 B hW hS hl
  obtain ⟨hd, rfl, hres⟩ := xft_dec hg.1 hf rfl
  have hts := C.2.2.2.2.2.1
  have hst' := xst_cat (al := al) hst
  subst hs
  subst hd0
  subst hn
  obtain ⟨sh, d, L, r⟩ := h
  cases hq
  have hc1 := xsh_get ha
  have hc2 := xsh_get hb0
  have q1 : (nI sn).toNatClampNeg = sn := nI_clamp (by omega)
  have q2 : (nI dn).toNatClampNeg = dn := nI_clamp (by omega)
  have q3 : (nI n).toNatClampNeg = n := nI_clamp (by omega)
  have hw : nativeFrameWords "java/lang/System" "arraycopy" 5 ≤ 60 := by decide +kernel
  refine va_copyi (f := d a) (g := d b) (ty := .int) C.1 C.2.1 (C.2.2.2.1.trans hl.1.symm) C.2.2.2.2.1 (hts _ (xlk_n (Or.inr (Or.inl rfl)) (by decide) hres)) (hts _ xN_sy.1) (hts _ xN_sy.2.1) (hts _ xN_sy.2.2) C.2.2.2.2.2.2.2.1 hW.1 hW.2.1 hS a b 0 0 (xws_get hc1) (xws_get hc2) rfl rfl rfl (nI_pos (by omega)) (nI_pos (by omega)) (nI_pos (by omega)) (by rw [q1, q3]; exact h1) (by rw [q2, q3]; exact h2) (fun _ _ => rfl) (by omega) (by omega) hd fun H1 locs1 hP1 hD1 hS1 => ?_
  rw [q1, q2, q3] at hP1 hD1
  have ew := xws_set (ka := ka) (al := al) (h := (sh, d, L, r)) (h' := (sh, upC d b (va_cpy (d a) (d b) sn dn n), L, r)) rfl hc2 (fun _ hne _ _ => xcell_cong (upC_ne hne) rfl rfl)
  rw [show xcell ka al (sh, upC d b (va_cpy (d a) (d b) sn dn n), L, r) b 100 nb = Sum.inl (ka 100, nb, Sum.inl (va_cpy (d a) (d b) sn dn n)) by show Sum.inl (ka 100, nb, Sum.inl (upC d b (va_cpy (d a) (d b) sn dn n) b)) = _; rw [upC_eq]] at ew
  exact k hg p l e R s m args below meth c D ka al A H1 locs1 cells slots mc ms lsA C R0 B ⟨by rw [ew]; exact hP1, by rw [ew]; exact hD1, fun z => by cases z⟩ hS1 hl
