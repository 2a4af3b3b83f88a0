/-! THE RULES ONCE MORE, with a context of the entry (what the law's script holds), and a flag of its own for the end -/
abbrev xPhi : Type := State → (Nat → Nat) → (Nat → Prop) → Prop
def xgr (M : xM) : Prop := M.2.2.2.2.2.all (xrok M) = true ∧ True
def ExG (Ph : xPhi) (fq : Bool) (M : xM) (fr : Bool) (dp kc ks pc : Nat) (ls : List (Option Value)) (st : List Value) (h : xHp) (Q : xPost) (X : Nat → xHp → Prop) : Prop :=
  xgr M → ∀ (p : Program) (l : Launch) (e : Env) (R : Room) (s : State) (m : MethodId) (args : Array Value) (below : List Frame) (meth : Method) (c : Code) (D : va_G) (ka : Nat → ClassId) (al : Nat → Nat) (A : Nat → Prop) (H : Heap) (locs : List Loc) (cells slots mc ms : Nat) (lsA : Array Slot),
    Ph s al A → xCx p l s m args meth c M D ka al A → (dp ≤ R.frames ∧ 64 * dp ≤ R.locals ∧ mc ≤ R.cells ∧ ms ≤ R.slots) → (cells + kc ≤ mc ∧ slots + ks ≤ ms) → xWd fr D ka al A h H → va_S A s.heap H locs → lv_has lsA M.2.2.2.1 (xl al ls) →
    W p l e R s m args below meth c H locs cells slots (vx_MQ below (xQc fq D ka al A Q) (xXC D ka al A X) args s mc ms A) (F0 m pc lsA (st.map (xcv al)))
def noPh : xPhi := fun _ _ _ => True
theorem Ex.ofG {M : xM} {fr : Bool} {dp kc ks pc : Nat} {ls : List (Option Value)} {st : List Value} {h : xHp} {Q : xPost} {X : Nat → xHp → Prop} (k : ExG noPh fr M fr dp kc ks pc ls st h Q X) : Ex M fr dp kc ks pc ls st h Q X := by
  intro hg p l e R s m args below meth c D ka al A H locs cells slots mc ms lsA C R0 B hW hS hl
  exact k ⟨hg.1, trivial⟩ p l e R s m args below meth c D ka al A H locs cells slots mc ms lsA trivial C R0 B hW hS hl
/-- the addresses that come needn't be known any more -/
theorem y_wk {Ph : xPhi} {fq : Bool} {M : xM} {dp kc ks pc : Nat} {ls : List (Option Value)} {st : List Value} {h : xHp} {Q : xPost} {X : Nat → xHp → Prop} (k : ExG Ph fq M false dp kc ks pc ls st h Q X) : ExG Ph fq M true dp kc ks pc ls st h Q X := by
  intro hg p l e R s m args below meth c D ka al A H locs cells slots mc ms lsA hPh C R0 B hW hS hl
  exact k hg p l e R s m args below meth c D ka al A H locs cells slots mc ms lsA hPh C R0 B ⟨hW.1, hW.2.1, fun z => by cases z⟩ hS hl
set_option maxHeartbeats 4000000 in
set_option maxRecDepth 100000 in
theorem y_s {Ph : xPhi} {fq : Bool} {M : xM} {fr : Bool} {dp kc ks pc nx nx' : Nat} {i : Instr} {rs : List Nat} {li : Int32} {ll : Int64} {ls ls' : List (Option Value)} {st st' : List Value} {h : xHp} {Q : xPost} {X : Nat → xHp → Prop}
    (hf : xft M.2.2.2.2.2 pc = some (nx, i, rs, li, ll)) (hs : stp M.2.2.2.1 h i nx rs li ll ls st = some (nx', ls', st')) (k : ExG Ph fq M fr dp kc ks nx' ls' st' h Q X) : ExG Ph fq M fr dp kc ks pc ls st h Q X := by
  intro hg p l e R s m args below meth c D ka al A H locs cells slots mc ms lsA hPh C R0 B hW hS hl
  have K := fun lsA => k hg p l e R s m args below meth c D ka al A H locs cells slots mc ms lsA hPh C R0 B hW hS
  have hx := C.1
  have hb := C.2.1
  have hown := C.2.2.2.2.1
  have hts := C.2.2.2.2.2.1
  have hK := C.2.2.2.2.2.2.2.1
  have hF := C.2.2.2.2.2.2.2.2.2.1
  cases i
  case iconst n =>
    obtain ⟨hd, rfl, hr⟩ := xft_dec hg.1 hf rfl
    cases hs
    exact lv_iconst hx hb hd (by simpa [xres] using hr) (K lsA hl)
  case bipush n =>
    obtain ⟨hd, rfl, hr⟩ := xft_dec hg.1 hf rfl
    cases hs
    exact lv_bipush hx hb hd (by simpa [xres] using hr) (K lsA hl)
  case sipush n =>
    obtain ⟨hd, rfl, hr⟩ := xft_dec hg.1 hf rfl
    cases hs
    exact lv_sipush hx hb hd (by simpa [xres] using hr) (K lsA hl)
  case lconst n =>
    obtain ⟨hd, rfl, hr⟩ := xft_dec hg.1 hf rfl
    cases hs
    exact lv_lconst hx hb hd (by simpa [xres] using hr) (K lsA hl)
  case ldc n =>
    obtain ⟨hd, rfl, hr⟩ := xft_dec hg.1 hf rfl
    match rs, hs, hr with
    | [], hs, hr =>
      cases hs
      exact lv_ldc hx hb hown (hts _ (xcst (Or.inl hr))) hd (K lsA hl)
    | [k], hs, hr =>
      cases hs
      obtain ⟨tx, hv⟩ := xstr hF hr
      exact va_ldcS hx hb hown hv hd (K lsA hl)
  case ldc_w n =>
    obtain ⟨hd, rfl, hr⟩ := xft_dec hg.1 hf rfl
    match rs, hs, hr with
    | [], hs, hr =>
      cases hs
      exact lv_ldcw hx hb hown (hts _ (xcst (Or.inr hr))) hd (K lsA hl)
  case ldc2_w n =>
    obtain ⟨hd, rfl, hr⟩ := xft_dec hg.1 hf rfl
    cases hs
    exact lv_ldc2 hx hb hown (hts _ (xcsl hr)) hd (K lsA hl)
  case iload_n k =>
    obtain ⟨hd, rfl, hr⟩ := xft_dec hg.1 hf rfl
    simp only [stp] at hs
    split at hs
    · rename_i x hv
      cases hs
      exact lv_iload_n hx hb hd rfl (xl_at hl (xget_some hv)) (K lsA hl)
    · cases hs
  case iload k =>
    obtain ⟨hd, rfl, hr⟩ := xft_dec hg.1 hf rfl
    simp only [stp] at hs
    split at hs
    · rename_i x hv
      cases hs
      exact lv_iload hx hb hd (xl_at hl (xget_some hv)) (K lsA hl)
    · cases hs
  case lload_n k =>
    obtain ⟨hd, rfl, hr⟩ := xft_dec hg.1 hf rfl
    simp only [stp] at hs
    split at hs
    · rename_i x hv
      cases hs
      exact lv_lload_n hx hb hd rfl (xl_at hl (xget_some hv)) (K lsA hl)
    · cases hs
  case lload k =>
    obtain ⟨hd, rfl, hr⟩ := xft_dec hg.1 hf rfl
    simp only [stp] at hs
    split at hs
    · rename_i x hv
      cases hs
      exact lv_lload hx hb hd (xl_at hl (xget_some hv)) (K lsA hl)
    · cases hs
  case aload_n k =>
    obtain ⟨hd, rfl, hr⟩ := xft_dec hg.1 hf rfl
    simp only [stp] at hs
    split at hs
    · rename_i x hv
      cases hs
      exact lv_aload_n hx hb hd rfl (xl_at hl (xget_some hv)) (K lsA hl)
    · cases hs
  case aload k =>
    obtain ⟨hd, rfl, hr⟩ := xft_dec hg.1 hf rfl
    simp only [stp] at hs
    split at hs
    · rename_i x hv
      cases hs
      exact lv_aload hx hb hd (xl_at hl (xget_some hv)) (K lsA hl)
    · cases hs
  case istore_n k =>
    obtain ⟨hd, rfl, hr⟩ := xft_dec hg.1 hf rfl
    simp only [stp] at hs
    split at hs
    · split at hs
      · rename_i hlt
        split at hs
        · rename_i l2 hl2
          cases hs
          cases xfo_eq hl2
          exact lv_istore_n hx hb hd rfl hl (xblt hlt) rfl fun lsB hlB => K lsB (xl_sub hlB xl_st1)
        · cases hs
      · cases hs
    · cases hs
  case istore k =>
    obtain ⟨hd, rfl, hr⟩ := xft_dec hg.1 hf rfl
    simp only [stp] at hs
    split at hs
    · split at hs
      · rename_i hlt
        split at hs
        · rename_i l2 hl2
          cases hs
          cases xfo_eq hl2
          exact lv_istore hx hb hd hl (xblt hlt) rfl fun lsB hlB => K lsB (xl_sub hlB xl_st1)
        · cases hs
      · cases hs
    · cases hs
  case astore_n k =>
    obtain ⟨hd, rfl, hr⟩ := xft_dec hg.1 hf rfl
    simp only [stp] at hs
    split at hs
    · split at hs
      · rename_i hlt
        split at hs
        · rename_i l2 hl2
          cases hs
          cases xfo_eq hl2
          exact lv_astore_n hx hb hd rfl hl (xblt hlt) rfl fun lsB hlB => K lsB (xl_sub hlB xl_st1)
        · cases hs
      · cases hs
    · cases hs
  case astore k =>
    obtain ⟨hd, rfl, hr⟩ := xft_dec hg.1 hf rfl
    simp only [stp] at hs
    split at hs
    · split at hs
      · rename_i hlt
        split at hs
        · rename_i l2 hl2
          cases hs
          cases xfo_eq hl2
          exact lv_astore hx hb hd hl (xblt hlt) rfl fun lsB hlB => K lsB (xl_sub hlB xl_st1)
        · cases hs
      · cases hs
    · cases hs
  case lstore_n k =>
    obtain ⟨hd, rfl, hr⟩ := xft_dec hg.1 hf rfl
    simp only [stp] at hs
    split at hs
    · split at hs
      · rename_i hlt
        split at hs
        · rename_i l2 hl2
          cases hs
          cases xfo_eq hl2
          exact lv_lstore_n hx hb hd rfl hl (xblt hlt) rfl fun lsB hlB => K lsB (xl_sub hlB xl_st2)
        · cases hs
      · cases hs
    · cases hs
  case lstore k =>
    obtain ⟨hd, rfl, hr⟩ := xft_dec hg.1 hf rfl
    simp only [stp] at hs
    split at hs
    · split at hs
      · rename_i hlt
        split at hs
        · rename_i l2 hl2
          cases hs
          cases xfo_eq hl2
          exact lv_lstore hx hb hd hl (xblt hlt) rfl fun lsB hlB => K lsB (xl_sub hlB xl_st2)
        · cases hs
      · cases hs
    · cases hs
  case iinc kk n =>
    obtain ⟨hd, rfl, hr⟩ := xft_dec hg.1 hf rfl
    simp only [stp] at hs
    split at hs
    · rename_i x hv
      split at hs
      · rename_i hlt
        split at hs
        · rename_i l2 hl2
          cases hs
          cases xfo_eq hl2
          obtain ⟨j, hj⟩ := List.getElem?_of_mem (xl_mem.mpr ⟨_, xget_some hv, rfl⟩ : (kk, xcv al (.int x)) ∈ xl al ls)
          exact lv_iinc (v := x + li) hx hb hd hl hj (by rw [show Int32.ofInt n = li by simpa [xres] using hr]) (xblt hlt) rfl fun lsB hlB => K lsB (xl_sub hlB (xl_st1 (v := .int (x + li))))
        · cases hs
      · cases hs
    · cases hs
  case iadd =>
    obtain ⟨hd, rfl, hr⟩ := xft_dec hg.1 hf rfl
    simp only [stp] at hs
    split at hs
    · cases hs
      exact lv_iadd hx hb hd (K lsA hl)
    · cases hs
  case isub =>
    obtain ⟨hd, rfl, hr⟩ := xft_dec hg.1 hf rfl
    simp only [stp] at hs
    split at hs
    · cases hs
      exact lv_isub hx hb hd (K lsA hl)
    · cases hs
  case imul =>
    obtain ⟨hd, rfl, hr⟩ := xft_dec hg.1 hf rfl
    simp only [stp] at hs
    split at hs
    · cases hs
      exact lv_imul hx hb hd (K lsA hl)
    · cases hs
  case iand =>
    obtain ⟨hd, rfl, hr⟩ := xft_dec hg.1 hf rfl
    simp only [stp] at hs
    split at hs
    · cases hs
      exact lv_iand hx hb hd (K lsA hl)
    · cases hs
  case ior =>
    obtain ⟨hd, rfl, hr⟩ := xft_dec hg.1 hf rfl
    simp only [stp] at hs
    split at hs
    · cases hs
      exact lv_ior hx hb hd (K lsA hl)
    · cases hs
  case ixor =>
    obtain ⟨hd, rfl, hr⟩ := xft_dec hg.1 hf rfl
    simp only [stp] at hs
    split at hs
    · cases hs
      exact lv_ixor hx hb hd (K lsA hl)
    · cases hs
  case ishl =>
    obtain ⟨hd, rfl, hr⟩ := xft_dec hg.1 hf rfl
    simp only [stp] at hs
    split at hs
    · cases hs
      exact lv_ishl hx hb hd (K lsA hl)
    · cases hs
  case ishr =>
    obtain ⟨hd, rfl, hr⟩ := xft_dec hg.1 hf rfl
    simp only [stp] at hs
    split at hs
    · cases hs
      exact lv_ishr hx hb hd (K lsA hl)
    · cases hs
  case ladd =>
    obtain ⟨hd, rfl, hr⟩ := xft_dec hg.1 hf rfl
    simp only [stp] at hs
    split at hs
    · cases hs
      exact lv_ladd hx hb hd (K lsA hl)
    · cases hs
  case lsub =>
    obtain ⟨hd, rfl, hr⟩ := xft_dec hg.1 hf rfl
    simp only [stp] at hs
    split at hs
    · cases hs
      exact lv_lsub hx hb hd (K lsA hl)
    · cases hs
  case lmul =>
    obtain ⟨hd, rfl, hr⟩ := xft_dec hg.1 hf rfl
    simp only [stp] at hs
    split at hs
    · cases hs
      exact lv_lmul hx hb hd (K lsA hl)
    · cases hs
  case land =>
    obtain ⟨hd, rfl, hr⟩ := xft_dec hg.1 hf rfl
    simp only [stp] at hs
    split at hs
    · cases hs
      exact lv_land hx hb hd (K lsA hl)
    · cases hs
  case lor =>
    obtain ⟨hd, rfl, hr⟩ := xft_dec hg.1 hf rfl
    simp only [stp] at hs
    split at hs
    · cases hs
      exact lv_lor hx hb hd (K lsA hl)
    · cases hs
  case lxor =>
    obtain ⟨hd, rfl, hr⟩ := xft_dec hg.1 hf rfl
    simp only [stp] at hs
    split at hs
    · cases hs
      exact lv_lxor hx hb hd (K lsA hl)
    · cases hs
  case iushr =>
    obtain ⟨hd, rfl, hr⟩ := xft_dec hg.1 hf rfl
    simp only [stp] at hs
    split at hs
    · cases hs
      exact lv_iushr hx hb hd rfl (K lsA hl)
    · cases hs
  case lshl =>
    obtain ⟨hd, rfl, hr⟩ := xft_dec hg.1 hf rfl
    simp only [stp] at hs
    split at hs
    · cases hs
      exact lv_lshl hx hb hd rfl (K lsA hl)
    · cases hs
  case lshr =>
    obtain ⟨hd, rfl, hr⟩ := xft_dec hg.1 hf rfl
    simp only [stp] at hs
    split at hs
    · cases hs
      exact lv_lshr hx hb hd rfl (K lsA hl)
    · cases hs
  case ineg =>
    obtain ⟨hd, rfl, hr⟩ := xft_dec hg.1 hf rfl
    simp only [stp] at hs
    split at hs
    · cases hs
      exact lv_ineg hx hb hd (K lsA hl)
    · cases hs
  case lneg =>
    obtain ⟨hd, rfl, hr⟩ := xft_dec hg.1 hf rfl
    simp only [stp] at hs
    split at hs
    · cases hs
      exact lv_lneg hx hb hd (K lsA hl)
    · cases hs
  case i2l =>
    obtain ⟨hd, rfl, hr⟩ := xft_dec hg.1 hf rfl
    simp only [stp] at hs
    split at hs
    · cases hs
      exact lv_i2l hx hb hd rfl (K lsA hl)
    · cases hs
  case i2b =>
    obtain ⟨hd, rfl, hr⟩ := xft_dec hg.1 hf rfl
    simp only [stp] at hs
    split at hs
    · cases hs
      exact lv_i2b hx hb hd rfl (K lsA hl)
    · cases hs
  case i2c =>
    obtain ⟨hd, rfl, hr⟩ := xft_dec hg.1 hf rfl
    simp only [stp] at hs
    split at hs
    · cases hs
      exact lv_i2c hx hb hd rfl (K lsA hl)
    · cases hs
  case lcmp =>
    obtain ⟨hd, rfl, hr⟩ := xft_dec hg.1 hf rfl
    simp only [stp] at hs
    split at hs
    · cases hs
      exact W.lcmp hx hb hd (K lsA hl)
    · cases hs
  case dup =>
    obtain ⟨hd, rfl, hr⟩ := xft_dec hg.1 hf rfl
    simp only [stp] at hs
    split at hs
    · split at hs
      · rename_i hc
        cases hs
        exact lv_dup hx hb hd (by rw [xcv_cat]; exact xc1_cat hc) (K lsA hl)
      · cases hs
    · cases hs
  case pop =>
    obtain ⟨hd, rfl, hr⟩ := xft_dec hg.1 hf rfl
    simp only [stp] at hs
    split at hs
    · split at hs
      · rename_i hc
        cases hs
        exact lv_pop hx hb hd (by rw [xcv_cat]; exact xc1_cat hc) (K lsA hl)
      · cases hs
    · cases hs
  case dup2 =>
    obtain ⟨hd, rfl, hr⟩ := xft_dec hg.1 hf rfl
    simp only [stp] at hs
    split at hs
    · split at hs
      · rename_i hc
        split at hs
        · rename_i hc2
          cases hs
          exact lv_dup2_11 hx hb hd (by rw [xcv_cat]; exact xc1_cat hc) (by rw [xcv_cat]; exact xc1_cat hc2) (K lsA hl)
        · cases hs
      · cases hs
    · cases hs
  case goto off =>
    obtain ⟨hd, rfl, hr⟩ := xft_dec hg.1 hf rfl
    match rs, hs, hr with
    | [t], hs, hr =>
      cases hs
      exact lv_goto hx hb hd (by simpa [xres, xtg] using hr) (K lsA hl)
  case getfield n =>
    obtain ⟨hd, rfl, hr⟩ := xft_dec hg.1 hf rfl
    match rs, hs, hr with
    | [ci, k], hs, hr =>
      simp only [stp] at hs
      split at hs
      · rename_i c r
        split at hs
        · rename_i t n2 hsh
          split at hs
          · rename_i hbe
            split at hs
            · rename_i hbl
              split at hs
              · rename_i v hv
                cases hs
                have e := Nat.eq_of_beq_eq_true hbe
                subst e
                exact x_getW hx hb hown hts hK hW.1 (xsh_get hsh) (xblt hbl) hr hv hd (K lsA hl)
              · cases hs
            · cases hs
          · cases hs
        · cases hs
      · cases hs
  case arraylength =>
    obtain ⟨hd, rfl, hr⟩ := xft_dec hg.1 hf rfl
    simp only [stp] at hs
    split at hs
    · split at hs
      · rename_i hsh
        split at hs
        · rename_i h1
          split at hs
          · rename_i h2
            cases hs
            exact x_alenW hx hb hK hW.1 (xsh_get hsh) (Nat.le_of_ble_eq_true h1) (Nat.le_of_ble_eq_true h2) hd (K lsA hl)
          · cases hs
        · cases hs
      · cases hs
    · cases hs
  all_goals cases hs
set_option maxHeartbeats 4000000 in
set_option maxRecDepth 100000 in
theorem y_br {Ph : xPhi} {fq : Bool} {M : xM} {fr : Bool} {dp kc ks pc nx tgt : Nat} {i : Instr} {li : Int32} {ll : Int64} {ls : List (Option Value)} {st st' : List Value} {h : xHp} {Q : xPost} {X : Nat → xHp → Prop} {pt pf : Prop}
    (hf : xft M.2.2.2.2.2 pc = some (nx, i, [tgt], li, ll)) (hs : brc i st = some (pt, pf, st')) (kt : pt → ExG Ph fq M fr dp kc ks tgt ls st' h Q X) (kf : pf → ExG Ph fq M fr dp kc ks nx ls st' h Q X) : ExG Ph fq M fr dp kc ks pc ls st h Q X := by
  intro hg p l e R s m args below meth c D ka al A H locs cells slots mc ms lsA hPh C R0 B hW hS hl
  have Kt := fun q => kt q hg p l e R s m args below meth c D ka al A H locs cells slots mc ms lsA hPh C R0 B hW hS hl
  have Kf := fun q => kf q hg p l e R s m args below meth c D ka al A H locs cells slots mc ms lsA hPh C R0 B hW hS hl
  have hx := C.1
  have hb := C.2.1
  cases i
  case ifCond o off =>
    obtain ⟨hd, rfl, hr⟩ := xft_dec hg.1 hf rfl
    have ht : (pc : Int) + off = (tgt : Int) := by simpa [xres, xtg] using hr
    cases o <;> simp only [brc] at hs <;> split at hs <;> cases hs
    all_goals first | exact lv_if_eq hx hb hd ht Kt Kf | exact lv_if_ne hx hb hd ht Kt Kf | exact lv_if_lt hx hb hd ht Kt Kf | exact lv_if_ge hx hb hd ht Kt Kf | exact lv_if_gt hx hb hd ht Kt Kf | exact lv_if_le hx hb hd ht Kt Kf
  case if_icmp o off =>
    obtain ⟨hd, rfl, hr⟩ := xft_dec hg.1 hf rfl
    have ht : (pc : Int) + off = (tgt : Int) := by simpa [xres, xtg] using hr
    cases o <;> simp only [brc] at hs <;> split at hs <;> cases hs
    all_goals first | exact lv_icmp_eq hx hb hd ht Kt Kf | exact lv_icmp_ne hx hb hd ht Kt Kf | exact lv_icmp_lt hx hb hd ht Kt Kf | exact lv_icmp_ge hx hb hd ht Kt Kf | exact lv_icmp_gt hx hb hd ht Kt Kf | exact lv_icmp_le hx hb hd ht Kt Kf
  all_goals cases hs
set_option maxHeartbeats 4000000 in
set_option maxRecDepth 100000 in
theorem y_ald {Ph : xPhi} {fq : Bool} {M : xM} {fr : Bool} {dp kc ks pc nx : Nat} {i : Instr} {rs : List Nat} {li : Int32} {ll : Int64} {ls : List (Option Value)} {st : List Value} {h : xHp} {Q : xPost} {X : Nat → xHp → Prop} {cl t n k : Nat} {iv : Int32} {v : Value}
    (hf : xft M.2.2.2.2.2 pc = some (nx, i, rs, li, ll)) (hsh : xsh h.1 cl = some (t, n)) (hs : xald i t = true) (hi : iv = nI k) (hk : k < n) (hn : n < 2147483648) (hv : xav h t cl k = some v) (kk : ExG Ph fq M fr dp kc ks nx ls (v :: st) h Q X) : ExG Ph fq M fr dp kc ks pc ls (.int iv :: .ref cl :: st) h Q X := by
  intro hg p l e R s m args below meth c D ka al A H locs cells slots mc ms lsA hPh C R0 B hW hS hl
  have K := kk hg p l e R s m args below meth c D ka al A H locs cells slots mc ms lsA hPh C R0 B hW hS hl
  have hx := C.1
  have hb := C.2.1
  have hK := C.2.2.2.2.2.2.2.1
  subst hi
  have hcl := nI_cl hk hn
  have hin := nI_vin hk hn
  have hw := xws_get (ka := ka) (al := al) (xsh_get hsh)
  obtain ⟨sh, d, L, r⟩ := h
  cases i
  case iaload =>
    obtain ⟨hd, rfl, hr⟩ := xft_dec hg.1 hf rfl
    have e := Nat.eq_of_beq_eq_true hs
    subst e
    cases hv
    refine va_iald (f := d cl) hx hb hK hW.1 cl 0 hw rfl hin hd ?_
    rw [hcl]
    exact K
  case laload =>
    obtain ⟨hd, rfl, hr⟩ := xft_dec hg.1 hf rfl
    have e := Nat.eq_of_beq_eq_true hs
    subst e
    cases hv
    refine va_lald (f := L cl) hx hb hK hW.1 cl 3 hw rfl hin hd ?_
    rw [hcl]
    exact K
  case baload =>
    obtain ⟨hd, rfl, hr⟩ := xft_dec hg.1 hf rfl
    rcases (Bool.or_eq_true _ _).mp hs with hs | hs
    · have e := Nat.eq_of_beq_eq_true hs
      subst e
      cases hv
      refine va_bald (f := d cl) hx hb hK hW.1 cl 1 hw rfl hin hd ?_
      rw [hcl]
      exact K
    · have e := Nat.eq_of_beq_eq_true hs
      subst e
      cases hv
      refine va_zald (f := d cl) hx hb hK hW.1 cl 2 hw rfl hin hd ?_
      rw [hcl]
      exact K
  case aaload =>
    obtain ⟨hd, rfl, hr⟩ := xft_dec hg.1 hf rfl
    rcases (Bool.or_eq_true _ _).mp hs with hs | hs
    · have e := Nat.eq_of_beq_eq_true hs
      subst e
      refine xaldA (ty := .int) (f := fun j => (r cl j).map al) hx hb hK hW.1 cl 4 hw rfl hin hd ?_
      rw [hcl]
      simp only [xav] at hv
      split at hv
      · rename_i x hx9
        cases hv
        rw [hx9]
        exact K
      · cases hv
    · have e := Nat.eq_of_beq_eq_true hs
      subst e
      refine va_aldq (C := RX10) (f := fun j => (r cl j).map al) hx hb hK hW.1 cl 5 hw rfl hin hd ?_
      rw [hcl]
      simp only [xav] at hv
      split at hv
      · rename_i x hx9
        cases hv
        rw [hx9]
        exact K
      · cases hv
  all_goals cases hs
set_option maxHeartbeats 4000000 in
theorem y_iast {Ph : xPhi} {fq : Bool} {M : xM} {fr : Bool} {dp kc ks pc nx : Nat} {rs : List Nat} {li : Int32} {ll : Int64} {ls : List (Option Value)} {st : List Value} {h h' : xHp} {Q : xPost} {X : Nat → xHp → Prop} {cl n k : Nat} {iv x : Int32}
    (hf : xft M.2.2.2.2.2 pc = some (nx, .iastore, rs, li, ll)) (hsh : xsh h.1 cl = some (100, n)) (hi : iv = nI k) (hk : k < n) (hn : n < 2147483648) (hq : xqI h cl k x = some h') (kk : ExG Ph fq M fr dp kc ks nx ls st h' Q X) : ExG Ph fq M fr dp kc ks pc ls (.int x :: .int iv :: .ref cl :: st) h Q X := by
  intro hg p l e R s m args below meth c D ka al A H locs cells slots mc ms lsA hPh C R0 B hW hS hl
  cases xqI_eq hq
  subst hi
  obtain ⟨hd, rfl, hr⟩ := xft_dec hg.1 hf rfl
  have hc := xsh_get hsh
  refine xs_iast (f := h.2.1 cl) C.1 C.2.1 C.2.2.2.2.2.2.2.1 hW.1 hW.2.1 hS cl 0 (xws_get hc) rfl (nI_vin hk hn) hd fun H1 locs1 hP1 hD1 hS1 hz => ?_
  rw [nI_cl hk hn] at hP1 hD1
  exact kk hg p l e R s m args below meth c D ka al A H1 locs1 cells slots mc ms lsA hPh C R0 B (xWd_set (h := h) rfl hc (fun _ hne _ _ => xcell_I hne) (by show Sum.inl (ka 100, n, Sum.inl (up2 h.2.1 cl k x cl)) = _; rw [upd_up2]) hP1 hD1 hW.2.2 hz) hS1 hl
set_option maxHeartbeats 4000000 in
theorem y_put {Ph : xPhi} {fq : Bool} {M : xM} {fr : Bool} {dp kc ks pc nx : Nat} {i ci k n cl : Nat} {li : Int32} {ll : Int64} {ls : List (Option Value)} {st : List Value} {h h' : xHp} {Q : xPost} {X : Nat → xHp → Prop} {v : Value}
    (hf : xft M.2.2.2.2.2 pc = some (nx, .putfield i, [ci, k], li, ll)) (hsh : xsh h.1 cl = some (ci, n)) (hn : k < n) (hv : xpv h cl ci k v = some h') (hfit : xfit ci k v) (hfin : (xT ci k).2.2.2 = false ∨ ((xY M.1).name = "<init>" ∧ (xT ci k).1 = xOwn M.2.1)) (kk : ExG Ph fq M fr dp kc ks nx ls st h' Q X) : ExG Ph fq M fr dp kc ks pc ls (v :: .ref cl :: st) h Q X := by
  intro hg p l e R s m args below meth c D ka al A H locs cells slots mc ms lsA hPh C R0 B hW hS hl
  obtain ⟨hd, rfl, hr⟩ := xft_dec hg.1 hf rfl
  have hc := xsh_get hsh
  obtain ⟨h1, h2, h3⟩ := xfld (Or.inr hr)
  obtain ⟨T, hT1, hT2⟩ := xvw h1
  subst hT2
  obtain ⟨f1, f2, f3, f4⟩ := xpv_ok (al := al) hv
  have hw := xws_get (ka := ka) (al := al) hc
  rw [xcell_obj (by omega)] at hw
  have hq := xcv_fit (al := al) hfit
  refine xs_put (C := xOwn ci) (T := xT ci) (N := xNf ci) (ref := (xT ci k).1) C.1 C.2.1 C.2.2.2.2.2.1 (xws_lays ci h1) (xty ci) (xty_ok ci h1) (xnm_ok ci h1) C.2.2.2.2.1 C.2.2.2.2.2.2.2.1 hW.1 hW.2.1 hS cl hw hT1 k h2 (C.2.2.2.2.2.1 _ h3) (fun _ h9 => h9) (hfin.elim Or.inl fun z => Or.inr ⟨C.2.2.2.2.2.2.2.2.2.2.2.1.trans z.1, z.2⟩) (xty_ok ci h1 k h2) hq.1 hq.2 (by simpa using hn) hd fun H1 locs1 hP1 hD1 hS1 hz => ?_
  refine kk hg p l e R s m args below meth c D ka al A H1 locs1 cells slots mc ms lsA hPh C R0 B (xWd_set f1 hc (fun c' hne t n => xcell_cong (f2 c' hne).1 (f2 c' hne).2.1 (f2 c' hne).2.2) ?_ hP1 hD1 hW.2.2 hz) hS1 hl
  rw [xcell_obj (by omega)]
  congr 2
  apply List.ext_getElem?
  intro j
  by_cases hj : j = k
  · subst hj
    rw [List.getElem?_set_self (by simpa using hn)]
    simp [hn, f3]
  · rw [List.getElem?_set_ne (Ne.symm hj)]
    by_cases hjn : j < n
    · simp [hjn, f4 j hj]
    · simp [hjn]
section YR
variable {Ph : xPhi} {M : xM} {fr : Bool} {dp kc ks pc nx : Nat} {rs : List Nat} {li : Int32} {ll : Int64} {ls : List (Option Value)} {h : xHp} {Q : xPost} {X : Nat → xHp → Prop}
theorem y_iret {v : Int32} {ty : FieldType} (hf : xft M.2.2.2.2.2 pc = some (nx, .ireturn, rs, li, ll)) (hr : M.2.2.2.2.1 = some ty) (hn : narrow ty (.int v) = .int v) (hq : Q (some (.int v)) h) : ExG Ph fr M fr dp kc ks pc ls [.int v] h Q X := by
  intro hg p l e R s m args below meth c D ka al A H locs cells slots mc ms lsA hPh C R0 B hW hS hl
  obtain ⟨hd, rfl, -⟩ := xft_dec hg.1 hf rfl
  have hlk := C.2.2.2.2.2.2.1
  refine W.widen (k := mc) (n := ms) (by omega) (by omega) (vx_ret ?_)
  exact W.zret C.1 C.2.1 (C.2.2.1.trans hr) hn (fun t ht hWm => ⟨⟨some (.int v), h, rfl, hq, by rw [ht]; exact hW, va_K.moved hWm.alike C.2.2.2.2.2.2.2.1⟩, hS.F ht⟩) hS.2.2 hd hlk
theorem y_vret (hf : xft M.2.2.2.2.2 pc = some (nx, .return_, rs, li, ll)) (hr : M.2.2.2.2.1 = none) (hq : Q none h) : ExG Ph fr M fr dp kc ks pc ls [] h Q X := by
  intro hg p l e R s m args below meth c D ka al A H locs cells slots mc ms lsA hPh C R0 B hW hS hl
  obtain ⟨hd, rfl, -⟩ := xft_dec hg.1 hf rfl
  have hlk := C.2.2.2.2.2.2.1
  refine W.widen (k := mc) (n := ms) (by omega) (by omega) (vx_ret ?_)
  exact W.vret C.1 C.2.1 (C.2.2.1.trans hr) (fun t ht hWm => ⟨⟨none, h, rfl, hq, by rw [ht]; exact hW, va_K.moved hWm.alike C.2.2.2.2.2.2.2.1⟩, hS.F ht⟩) hS.2.2 hd hlk
end YR
section YCL
variable {p : Program} {l : Launch} {e : Env} {R : Room} {s : State} {m : MethodId} {args : Array Value} {below : List Frame} {meth : Method} {c : Code} {H : Heap} {locs : List Loc} {cells slots : Nat}
theorem yback {Ph : xPhi} {fq : Bool} {M : xM} {fr : Bool} {dp kc ks kc' ks' pc nx mc ms : Nat} {D : va_G} {ka : Nat → ClassId} {al : Nat → Nat} {A : Nat → Prop} {h : xHp} {Q : xPost} {X : Nat → xHp → Prop} {Q' : xPost} {ls : List (Option Value)} {lsA : Array Slot} {st0 : List Value} {r : List Value} {a : Array Value} (hg : xgr M)
    (hPh : Ph s al A) (C : xCx p l s m args meth c M D ka al A) (R0 : dp ≤ R.frames ∧ 64 * dp ≤ R.locals ∧ mc ≤ R.cells ∧ ms ≤ R.slots) (B : cells + kc ≤ mc ∧ slots + ks ≤ ms) (hkc : kc' ≤ kc) (hks : ks' ≤ ks) (hW : xWd fr D ka al A h H) (hS : va_S A s.heap H locs) (hl : lv_has lsA M.2.2.2.1 (xl al ls)) (hnx : nx = pc + 3)
    (hr : va_Run p l e R s m args below meth c H locs cells slots kc' ks' (F0 m pc lsA st0) (r.map (xcv al)) (xQc fr D ka al (va_A (xws ka al h) H.size) Q' a) (va_A (xws ka al h) H.size))
    (k : ∀ v h', Q' v h' → ExG Ph fq M fr dp (kc - kc') (ks - ks') nx ls (v.toList ++ r) h' Q X) :
    W p l e R s m args below meth c H locs cells slots (vx_MQ below (xQc fq D ka al A Q) (xXC D ka al A X) args s mc ms A) (F0 m pc lsA st0) := by
  have hsub := xA_sub hW.2.1 hS C.2.2.2.2.2.2.2.2.1
  intro T hT XX
  obtain ⟨v, st₀, t, T', L, h0, X', hL, e1, e2, ⟨⟨v', h', hv, hq, hW', hK'⟩, hz, hk⟩, st⟩ := hr T hT XX
  cases hv
  rw [h0] at hz hk
  subst hnx
  obtain ⟨t2, a1, b1⟩ := k v' h' hq hg p l e R s m args below meth c D ka al A T'.heap (locs ++ L) (cells + kc') (slots + ks') mc ms lsA hPh C R0 ⟨by omega, by omega⟩ ⟨by rw [e1]; exact hW'.1, hW'.2.1.weaken (fun _ q _ z => hsub q.1 z), by rw [e1]; exact hW'.2.2⟩
    ⟨Nat.le_trans hS.1 (by rw [e1]; exact hz), fun q h1 h2 => by rw [e1, hk q (Nat.lt_of_lt_of_le h1 hS.1) (fun z => h2 (hsub q z))]; exact hS.2.1 q h1 h2, fun q hq => by
      rcases List.mem_append.mp hq with z | z
      · exact hS.2.2 q z
      · exact hsub _ (hL q z)⟩ hl T' rfl X'
  refine ⟨t2, st t2 ?_, b1⟩
  have : (v'.map (xcv al)).toList ++ r.map (xcv al) = (v'.toList ++ r).map (xcv al) := by cases v' <;> rfl
  rw [this]
  exact a1
end YCL
set_option maxHeartbeats 4000000 in
theorem y_cv {Ph : xPhi} {fq : Bool} {M M' : xM} {fr : Bool} {dp kc ks dp' kc' ks' pc nx i ci n b : Nat} {li : Int32} {ll : Int64} {ls : List (Option Value)} {As r : List Value} {st : List Value} {h : xHp} {Q Q' : xPost} {X : Nat → xHp → Prop}
    (hC : Cn M' fr dp' kc' ks' (.ref b :: As) h Q') (hf : xft M.2.2.2.2.2 pc = some (nx, .invokevirtual i, [0, M'.1], li, ll)) (hst : st = As.reverse ++ .ref b :: r) (hn : As.length = xNp M'.1) (hm : M'.1 < 335) (hsh : xsh h.1 b = some (ci, n)) (hci : ci < 13) (hcl : M'.2.1 = ci) (hr : (r.map fun v => v.category).sum ≤ 8) (hdp : dp' + 1 ≤ dp) (hkc : kc' ≤ kc) (hks : ks' ≤ ks)
    (k : ∀ v h', Q' v h' → ExG Ph fq M fr dp (kc - kc') (ks - ks') nx ls (v.toList ++ r) h' Q X) : ExG Ph fq M fr dp kc ks pc ls st h Q X := by
  intro hg p l e R s m args below meth c D ka al A H locs cells slots mc ms lsA hPh C R0 B hW hS hl
  obtain ⟨hd, rfl, hres⟩ := xft_dec hg.1 hf rfl
  obtain ⟨hg', hh', hM⟩ := hC
  obtain ⟨q, hq, e1, e2, e3, e4⟩ := xlk_m (Or.inl rfl) (by decide) hres
  obtain ⟨w1, w2, w3, w4⟩ := xMk hq
  rw [e1, e2, e3, e4] at w1
  rw [e3, e4] at w2
  rw [e4] at w3 w4
  have hts := C.2.2.2.2.2.1
  have hw1 : Cond.methodLink (xOwn M.2.1) i (xY M'.1) ∈ xTG := xTG_in w1 rfl
  have hcs : (xY M'.1).cls = xOwn ci := by rw [hg'.2.2.1, hcl]
  have hmL := hg'.2.2.2.2.1
  refine yback (Q' := Q') (a := (Value.ref (al b) :: As.map (xcv al)).toArray) hg hPh C R0 B hkc hks hW hS hl rfl (va_runV (Ts := xTG) (own := xOwn M.2.1) (C := (xY M'.1).cls) (As := As.map (xcv al)) (bytes := M'.2.2.1) (maxL := M'.2.2.2.1) (ret := M'.2.2.2.2.1) ⟨C.1, C.2.1, C.2.2.2.1, C.2.2.2.2.1, hts⟩ (hM l C.2.2.2.2.2.2.2.2.2.2.1 D ka al H.size) ⟨callB_of As.length hts (xGoodIn hg' hh') (by rw [← xcw_code hh']; rfl) rfl rfl (hts _ w4) (hts _ hw1) ⟨hg'.2.2.2.2.2.1, hg'.2.2.2.2.2.2, by rw [hn]; exact xNp_ok _ hm⟩ ⟨by show dp' + 1 ≤ R.frames; omega, by show 8 + (M'.2.2.2.1 + 11) + 64 * dp' ≤ R.locals; omega⟩, hts _ w2, hts _ (w3 e3)⟩ ⟨xPc_blind, ?_, ?_⟩ rfl (by simp) hl.1 ?_ (lv_room ?_) hd ⟨by omega, by omega⟩) k
  · obtain ⟨T, hT1, -⟩ := xvw hci
    have hw := xws_get (ka := ka) (al := al) (xsh_get hsh)
    rw [xcell_obj (by omega)] at hw
    rw [hcs]
    exact va_recv C.2.2.2.2.2.2.2.1 hW.1 hT1 hw
  · exact xpre (av := .ref b :: As) C hW hS
  · show List.map (xcv al) st = _
    rw [hst]
    simp [xcv]
  · simpa [xcv_cat, Function.comp_def] using hr
set_option maxHeartbeats 4000000 in
theorem y_ch {Ph : xPhi} {fq : Bool} {M M' : xM} {dp kc ks dp' kc' ks' pc nx i : Nat} {li : Int32} {ll : Int64} {ls : List (Option Value)} {As r : List Value} {st : List Value} {h : xHp} {Q Q' : xPost} {X : Nat → xHp → Prop}
    (hC : Ch M' dp' kc' ks' As h Q') (hf : xft M.2.2.2.2.2 pc = some (nx, .invokestatic i, [1, M'.1], li, ll)) (hst : st = As.reverse ++ r) (hn : As.length = xNp M'.1) (hm : M'.1 < 335) (hr : (r.map fun v => v.category).sum ≤ 8) (hdp : dp' + 1 ≤ dp) (hkc : kc' ≤ kc) (hks : ks' ≤ ks)
    (k : ∀ v h', Q' v h' → ExG Ph fq M false dp (kc - kc') (ks - ks') nx ls (v.toList ++ r) h' Q X) : ExG Ph fq M false dp kc ks pc ls st h Q X := by
  intro hg p l e R s m args below meth c D ka al A H locs cells slots mc ms lsA hPh C R0 B hW hS hl
  obtain ⟨hd, rfl, hres⟩ := xft_dec hg.1 hf rfl
  obtain ⟨hg', hh', hM⟩ := hC
  obtain ⟨q, hq, e1, e2, e3, e4⟩ := xlk_m (Or.inr (Or.inl rfl)) (by decide) hres
  obtain ⟨w1, w2, -, w4⟩ := xMk hq
  rw [e1, e2, e3, e4] at w1
  rw [e3, e4] at w2
  rw [e4] at w4
  have hts := C.2.2.2.2.2.1
  have hw1 : Cond.methodLink (xOwn M.2.1) i (xY M'.1) ∈ xTG := xTG_in w1 rfl
  have hmL := hg'.2.2.2.2.1
  have hcw : xcw M' ∈ xTG := xTG_in hg'.2.1 (by rw [xcw_with hh']; rfl)
  have hGI : GoodIn xTG (va_wsS (xOwn M.2.1) i (xY M'.1) (xwM M')) := by
    intro w hw
    have : w ∈ xTG := by
      unfold va_wsS at hw
      rcases List.mem_append.mp hw with z | z
      · simp only [List.mem_cons, List.not_mem_nil, or_false] at z
        rcases z with rfl | rfl | rfl
        · exact hw1
        · exact w2
        · exact w4
      · rcases List.mem_cons.mp z with rfl | z
        · exact hcw
        · exact z
    exact ⟨this, xTG_good _ this⟩
  refine yback (Q' := Q') (a := (As.map (xcv al)).toArray) hg hPh C R0 B hkc hks hW hS hl rfl (vx_runSW (Ts := xTG) (own := xOwn M.2.1) (As := As.map (xcv al)) (bytes := M'.2.2.1) (maxL := M'.2.2.2.1) (ret := M'.2.2.2.2.1) (hh := xHh M'.1) ⟨C.1, C.2.1, C.2.2.2.1, C.2.2.2.2.1, hts⟩ (hM l C.2.2.2.2.2.2.2.2.2.2.1 D ka al H.size) (vx_cwSW As.length hts hGI (by rw [← xcw_with hh']; rfl) rfl rfl ⟨hg'.2.2.2.2.2.1, hg'.2.2.2.2.2.2, by rw [hn]; exact xNp_ok _ hm⟩ ⟨by show dp' + 1 ≤ R.frames; omega, by show 8 + (M'.2.2.2.1 + 11) + 64 * dp' ≤ R.locals; omega⟩) ⟨xPc_blind, xpre (av := As) C hW hS⟩ rfl (by simp) hl.1 ?_ (lv_room ?_) hd ⟨by omega, by omega⟩) k
  · show List.map (xcv al) st = _
    rw [hst]
    simp
  · simpa [xcv_cat, Function.comp_def] using hr
section YDV
variable {Ph : xPhi} {fq : Bool} {M : xM} {fr : Bool} {dp kc ks pc nx : Nat} {rs : List Nat} {li : Int32} {ll : Int64} {ls : List (Option Value)} {st : List Value} {h : xHp} {Q : xPost} {X : Nat → xHp → Prop}
theorem y_tsw {x : Int32} {tgt : Nat} {dflt lo hi : Int} {offs : Array Int} (hf : xft M.2.2.2.2.2 pc = some (nx, .tableswitch dflt lo hi offs, rs, li, ll)) (ht : (((¬ x.toInt < lo ∧ ¬ hi < x.toInt) ∧ ∃ off, offs[(x.toInt - lo).toNat]? = some off ∧ (pc : Int) + off = (tgt : Int))) ∨ ((x.toInt < lo ∨ hi < x.toInt) ∧ (pc : Int) + dflt = (tgt : Int))) (k : ExG Ph fq M fr dp kc ks tgt ls st h Q X) : ExG Ph fq M fr dp kc ks pc ls (.int x :: st) h Q X := by
  intro hg p l e R s m args below meth c D ka al A H locs cells slots mc ms lsA hPh C R0 B hW hS hl
  have K := k hg p l e R s m args below meth c D ka al A H locs cells slots mc ms lsA hPh C R0 B hW hS hl
  have h1 := xft_row hg.1 hf
  unfold xrok at h1
  simp only [xtab, if_true, Bool.and_eq_true, decide_eq_true_eq] at h1
  rcases ht with ⟨⟨a1, a2⟩, off, a3, a4⟩ | ⟨a1, a2⟩
  · exact lv_tableIn C.1 C.2.1 h1.1.1 a1 a2 a3 a4 K
  · exact lv_tableOut C.1 C.2.1 h1.1.1 a1 a2 K
end YDV
