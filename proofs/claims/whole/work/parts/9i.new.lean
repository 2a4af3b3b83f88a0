/-! WHAT IS MADE: new cells, at the addresses that were known ahead -/
/-- so many cells, and nothing behind them -/
def Fw (n : Nat) (h : xHp) : Prop := h.1.length = n ∧ ∀ c, n ≤ c → ∀ k, h.2.1 c k = 0 ∧ h.2.2.1 c k = 0 ∧ h.2.2.2 c k = none
def xqA (h : xHp) (t n : Nat) : Option xHp := match h with
  | (sh, d, L, r) => some (sh ++ [(t, n)], d, L, r)
theorem xqA_eq {h h' : xHp} {t n : Nat} (e : xqA h t n = some h') : h' = (h.1 ++ [(t, n)], h.2) := by
  obtain ⟨sh, d, L, r⟩ := h
  exact (Option.some.inj e).symm
theorem Fw_add {h : xHp} {t n m : Nat} (hF : Fw m h) : Fw (m + 1) (h.1 ++ [(t, n)], h.2) := ⟨by show (h.1 ++ [(t, n)]).length = _; rw [List.length_append, hF.1]; rfl, fun c hc k => hF.2 c (by omega) k⟩
theorem Fw_put {h h' : xHp} {cl ci k m : Nat} {v : Value} (hv : xpv h cl ci k v = some h') (hlt : cl < m) (hF : Fw m h) : Fw m h' := by
  obtain ⟨f1, f2, -, -⟩ := xpv_ok (al := id) hv
  refine ⟨by rw [f1]; exact hF.1, fun c hc j => ?_⟩
  obtain ⟨g1, g2, g3⟩ := f2 c (by omega)
  rw [g1, g2, g3]
  exact hF.2 c hc j
theorem xsh_l : ∀ {l l' : List (Nat × Nat)} {k : Nat} {v : Nat × Nat}, xsh l k = some v → xsh (l ++ l') k = some v
  | [], _, k, v, h => by cases k <;> cases h
  | a :: r, _, 0, v, h => h
  | a :: r, _, k + 1, v, h => xsh_l (l := r) h
theorem xsh_e : ∀ {l l' : List (Nat × Nat)} {v : Nat × Nat} {k : Nat}, l.length = k → xsh (l ++ v :: l') k = some v
  | [], _, _, _, h => by subst h; rfl
  | a :: r, _, _, _, h => by subst h; exact xsh_e (l := r) rfl
theorem xws_app {ka : Nat → ClassId} {al : Nat → Nat} {h : xHp} {t n : Nat} : xws ka al (h.1 ++ [(t, n)], h.2) = xws ka al h ++ [(al h.1.length, xcell ka al h h.1.length t n)] := by
  unfold xws
  rw [List.mapIdx_concat]
  rfl
/-- a world with one cell more -/
theorem xWd_add {D : va_G} {ka : Nat → ClassId} {al : Nat → Nat} {A : Nat → Prop} {h : xHp} {H H1 : Heap} {t n : Nat} (hW : xWd true D ka al A h H) (hc : h.1.length < 4000) (hA : A H.size) (o1 : ∀ q, q < H.size → H1[q]? = H[q]?) (z1 : H1.size = H.size + 1) (hx : va_at D vwCl (H.size, xcell ka al h h.1.length t n) H1) : xWd true D ka al A (h.1 ++ [(t, n)], h.2) H1 := by
  have ha : al h.1.length = H.size := by
    have := hW.2.2 rfl h.1.length (Nat.le_refl _) hc
    omega
  refine ⟨?_, ?_, fun _ i h1 h2 => ?_⟩
  · rw [xws_app, ha]
    refine (hW.1.kept (fun k x hx => o1 x.1 ((hW.1 k x hx).lt))).app (fun k x hk => ?_)
    have hz : k < 1 := (List.getElem?_eq_some_iff.mp hk).1
    rw [show k = 0 by omega] at hk
    cases hk
    exact hx
  · rw [xws_app, ha]
    exact hW.2.1.push hW.1 rfl hA
  · have h1' : h.1.length + 1 ≤ i := by
      have h9 : (h.1 ++ [(t, n)]).length ≤ i := h1
      rw [List.length_append] at h9
      exact h9
    have := hW.2.2 rfl i (by omega) h2
    show al i = H1.size + (i - (h.1 ++ [(t, n)]).length)
    rw [List.length_append]
    show al i = H1.size + (i - (h.1.length + 1))
    omega
theorem xS_add {A : Nat → Prop} {H0 H H1 : Heap} {locs : List Loc} (hS : va_S A H0 H locs) (o1 : ∀ q, q < H.size → H1[q]? = H[q]?) (z1 : H.size ≤ H1.size) : va_S A H0 H1 locs := ⟨Nat.le_trans hS.1 z1, fun x h1 h2 => (o1 x (Nat.lt_of_lt_of_le h1 hS.1)).trans (hS.2.1 x h1 h2), hS.2.2⟩
theorem xal_at {D : va_G} {ka : Nat → ClassId} {al : Nat → Nat} {A : Nat → Prop} {h : xHp} {H : Heap} {m : Nat} (hW : xWd true D ka al A h H) (hF : h.1.length = m) (hc : m < 4000) : al m = H.size := by
  subst hF
  have := hW.2.2 rfl h.1.length (Nat.le_refl _) hc
  omega
def xpl (ty : FieldType) : Bool := match ty with
  | .int | .boolean | .long | .object _ | .array _ => true
  | _ => false
theorem xpl_ok : ∀ ci, ci < 13 → ((List.range (xNf ci)).all fun k => xpl (xty ci k)) = true := by decide +kernel
theorem xLKk_lt : (xLKk.all fun q => decide (q.2.2.1 < 13)) = true := by decide +kernel
theorem xfv_zero {al : Nat → Nat} {h : xHp} {c ci k : Nat} (hp : xpl (xty ci k) = true) (h0 : h.2.1 c k = 0 ∧ h.2.2.1 c k = 0 ∧ h.2.2.2 c k = none) : defaultValue (xty ci k) = xfv al h c ci k := by
  unfold xfv
  rw [h0.1, h0.2.1, h0.2.2]
  generalize xty ci k = ty at hp ⊢
  cases ty <;> first | rfl | cases hp
section YN
variable {Ph : xPhi} {fq : Bool} {M : xM} {dp kc ks pc nx : Nat} {rs : List Nat} {li : Int32} {ll : Int64} {ls : List (Option Value)} {st : List Value} {h h' : xHp} {Q : xPost} {X : Nat → xHp → Prop}
set_option maxHeartbeats 4000000 in
/-- a new object -/
theorem y_new {i ci n m : Nat} (hf : xft M.2.2.2.2.2 pc = some (nx, .new i, [ci], li, ll)) (hF : Fw m h) (hm : m < 4000) (hn : xNf ci = n) (hq : xqA h ci n = some h') (hkc : 1 ≤ kc) (hks : n ≤ ks) (k : Fw (m + 1) h' → ExG Ph fq M true dp (kc - 1) (ks - n) nx ls (.ref m :: st) h' Q X) : ExG Ph fq M true dp kc ks pc ls st h Q X := by
  intro hg p l e R s m9 args below meth c D ka al A H locs cells slots mc ms lsA hPh C R0 B hW hS hl
  obtain ⟨hd, rfl, hr⟩ := xft_dec hg.1 hf rfl
  have h1 : (xLKk.any fun q => q.1 == M.2.1 && q.2.1 == i && q.2.2.1 == ci) = true := hr
  obtain ⟨q, hq9, h2⟩ := List.any_eq_true.mp h1
  simp only [Bool.and_eq_true, beq_iff_eq] at h2
  have h3 := List.all_eq_true.mp xLKk_ok q hq9
  have h4 := List.all_eq_true.mp xLKk_lt q hq9
  simp only [Bool.and_eq_true, decide_eq_true_eq] at h3 h4
  rw [h2.1.1, h2.1.2, h2.2] at h3
  rw [h2.2] at h4
  have hts := C.2.2.2.2.2.1
  have w1 := hts _ (xTG_in (xat_in h3.1.1) rfl)
  have w2 := hts _ (xTG_in (xat_in h3.1.2) rfl)
  have w3 := hts _ (xTG_in (xat_in h3.2) rfl)
  subst hn
  cases xqA_eq hq
  obtain ⟨T, hT1, hT2⟩ := xvw h4
  subst hT2
  have ha := xal_at hW hF.1 hm
  have hA := C.2.2.2.2.2.2.2.2.1
  have hKn := C.2.2.2.2.2.2.2.1.1 ci _ hT1
  refine W.newcK C.1 C.2.1 C.2.2.2.2.1 w1 w2 w3 rfl hd (by omega) (by omega) hKn.2.1 rfl fun H1 kC hkC e1 z1 o1 => ?_
  have K := k (Fw_add hF) hg p l e R s m9 args below meth c D ka al A H1 locs (cells + 1) (slots + xNf ci) mc ms lsA hPh C R0 ⟨by omega, by omega⟩ (xWd_add hW (by rw [hF.1]; exact hm) (hA _ hS.1) o1 z1 ?_) (xS_add hS o1 (by omega)) hl
  · rw [List.map_cons, show xcv al (.ref m) = .ref (al m) from rfl, ha] at K
    exact K
  · rw [xcell_obj (by omega)]
    refine ⟨_, hT1, (u_born (xty ci) hts (xws_lays ci h4) hKn hkC e1 (xty_ok ci h4)).to (fun j hj => ?_)⟩
    have hp := List.all_eq_true.mp (xpl_ok ci h4) j (List.mem_range.mpr hj)
    rw [xfv_zero (al := al) (h := h) (c := h.1.length) hp (hF.2 _ (by rw [hF.1]; exact Nat.le_refl _) j)]
    simp [vp_V, hj]
def xnt (a : ArrayType) : Nat := match a with
  | .int => 100
  | .byte => 101
  | .boolean => 102
  | .long => 103
  | _ => 0
theorem xAC {a : ArrayType} (h : 100 ≤ xnt a) : Cond.arrayClass (newarray.typeOf a) ∈ xTG := by
  cases a <;> first | exact absurd h (by decide) | exact xTG_in (xat_in (p := 1081) (by decide +kernel)) rfl | exact xTG_in (xat_in (p := 1080) (by decide +kernel)) rfl | exact xTG_in (xat_in (p := 7092) (by decide +kernel)) rfl | exact xTG_in (xat_in (p := 2185) (by decide +kernel)) rfl
theorem xnt_k {ka : Nat → ClassId} {D : va_G} {s : State} {a : ArrayType} (hK : va_K D vwCl (xtys ka) s) (h : 100 ≤ xnt a) : s.vm.findClass ("[" ++ (newarray.typeOf a).toString) = some (ka (xnt a)) := by
  cases a <;> first | exact absurd h (by decide) | exact (hK.2 0 _ rfl).2 | exact (hK.2 1 _ rfl).2 | exact (hK.2 2 _ rfl).2 | exact (hK.2 3 _ rfl).2
theorem xcell_z {ka : Nat → ClassId} {al : Nat → Nat} {h : xHp} {c n : Nat} {a : ArrayType} (h0 : ∀ k, h.2.1 c k = 0 ∧ h.2.2.1 c k = 0 ∧ h.2.2.2 c k = none) (ht : 100 ≤ xnt a) : ∃ x, xcell ka al h c (xnt a) n = .inl (ka (xnt a), n, x) ∧ vp_cell (ka (xnt a)) (n, x) = arrV (ka (xnt a)) n (fun _ => defaultValue (newarray.typeOf a)) := by
  have e1 : h.2.1 c = fun _ => 0 := funext fun k => (h0 k).1
  have e2 : h.2.2.1 c = fun _ => 0 := funext fun k => (h0 k).2.1
  cases a <;> first | exact absurd ht (by decide) | exact ⟨.inl (h.2.1 c), rfl, by rw [e1]; rfl⟩ | exact ⟨.inr (.inl (h.2.2.1 c)), rfl, by rw [e2]; rfl⟩
set_option maxHeartbeats 4000000 in
/-- a new array of numbers -/
theorem y_newa {a : ArrayType} {n m t : Nat} {iv : Int32} (hf : xft M.2.2.2.2.2 pc = some (nx, .newarray a, rs, li, ll)) (hF : Fw m h) (hm : m < 4000) (ht : xnt a = t) (ht2 : Nat.ble 100 t = true) (hi : iv = nI n) (hn : Nat.ble n 100000 = true) (hq : xqA h t n = some h') (hkc : 1 ≤ kc) (hks : n ≤ ks) (k : Fw (m + 1) h' → ExG Ph fq M true dp (kc - 1) (ks - n) nx ls (.ref m :: st) h' Q X) : ExG Ph fq M true dp kc ks pc ls (.int iv :: st) h Q X := by
  intro hg p l e R s m9 args below meth c D ka al A H locs cells slots mc ms lsA hPh C R0 B hW hS hl
  obtain ⟨hd, rfl, hr⟩ := xft_dec hg.1 hf rfl
  have hn' := Nat.le_of_ble_eq_true hn
  have ht' := Nat.le_of_ble_eq_true ht2
  subst hi ht
  cases xqA_eq hq
  have ha := xal_at hW hF.1 hm
  have hA := C.2.2.2.2.2.2.2.2.1
  have hts := C.2.2.2.2.2.1
  refine va_newaK C.1 C.2.1 (hts _ (xAC ht')) rfl hd rfl ?_ (nI_clamp (by omega)) ?_ (by omega) (by omega) rfl fun H1 cA e1 z1 o1 hAr hNm => ?_
  · have := nI_vin (k := n) (n := n + 1) (by omega) (by omega)
    exact fun z => this (Or.inl z)
  · cases a <;> simp [newarray.typeOf, componentBytes] <;> omega
  have ec : cA = ka (xnt a) := Option.some.inj (hNm.symm.trans (xnt_k C.2.2.2.2.2.2.2.1 ht'))
  subst ec
  have K := k (Fw_add hF) hg p l e R s m9 args below meth c D ka al A H1 locs (cells + 1) (slots + n) mc ms lsA hPh C R0 ⟨by omega, by omega⟩ (xWd_add hW (by rw [hF.1]; exact hm) (hA _ hS.1) o1 z1 ?_) (xS_add hS o1 (by omega)) hl
  · rw [List.map_cons, show xcv al (.ref m) = .ref (al m) from rfl, ha] at K
    exact K
  · obtain ⟨x, x1, x2⟩ := xcell_z (ka := ka) (al := al) (h := h) (c := h.1.length) (n := n) (fun k => hF.2 _ (by rw [hF.1]; exact Nat.le_refl _) k) ht'
    rw [x1]
    show H1[H.size]? = some (vp_cell _ _)
    rw [x2]
    exact e1
set_option maxHeartbeats 4000000 in
/-- a new array of Ways -/
theorem y_anew {i n m : Nat} {iv : Int32} (hf : xft M.2.2.2.2.2 pc = some (nx, .anewarray i, rs, li, ll)) (hcl : Cond.classLink (xOwn M.2.1) i RX10 ∈ xTG) (hF : Fw m h) (hm : m < 4000) (hi : iv = nI n) (hn : Nat.ble n 100000 = true) (hq : xqA h 105 n = some h') (hkc : 1 ≤ kc) (hks : n ≤ ks) (k : Fw (m + 1) h' → ExG Ph fq M true dp (kc - 1) (ks - n) nx ls (.ref m :: st) h' Q X) : ExG Ph fq M true dp kc ks pc ls (.int iv :: st) h Q X := by
  intro hg p l e R s m9 args below meth c D ka al A H locs cells slots mc ms lsA hPh C R0 B hW hS hl
  obtain ⟨hd, rfl, hr⟩ := xft_dec hg.1 hf rfl
  have hn' := Nat.le_of_ble_eq_true hn
  subst hi
  cases xqA_eq hq
  have ha := xal_at hW hF.1 hm
  have hA := C.2.2.2.2.2.2.2.2.1
  have hts := C.2.2.2.2.2.1
  have hcn : (nI n).toNatClampNeg = n := nI_clamp (by omega)
  refine W.anew C.1 C.2.1 C.2.2.2.2.1 (hts _ hcl) (va_AO.use C.2.2.2.2.2.2.2.2.2.1.2.2.2.2.2.2.2.1) rfl hd rfl ?_ (by rw [hcn]; omega) (by omega) (by rw [hcn]; omega) fun cA kA comp f1 f2 f3 f4 => ?_
  · have := nI_vin (k := n) (n := n + 1) (by omega) (by omega)
    exact fun z => this (Or.inl z)
  rw [hcn]
  obtain ⟨kA', comp', -, -, -, g1⟩ := (C.2.2.2.2.2.2.2.1.2 5 _ rfl).2
  have ec : cA = ka 105 := Option.some.inj (f1.symm.trans g1)
  subst ec
  generalize hH1 : H.push ({ cls := ka 105, slots := Array.replicate n .null, vm := .none } : Cell) = H1
  have z1 : H1.size = H.size + 1 := by rw [← hH1, Array.size_push]
  have e1 : H1[H.size]? = some (arrV (ka 105) n (fun _ => .null)) := by rw [← hH1, Array.getElem?_push_size, ← arrV_new]
  have o1 : ∀ q : Nat, q < H.size → H1[q]? = H[q]? := fun q hq => by rw [← hH1, Array.getElem?_push, if_neg (Nat.ne_of_lt hq)]
  have K := k (Fw_add hF) hg p l e R s m9 args below meth c D ka al A H1 locs (cells + 1) (slots + n) mc ms lsA hPh C R0 ⟨by omega, by omega⟩ (xWd_add hW (by rw [hF.1]; exact hm) (hA _ hS.1) o1 z1 ?_) (xS_add hS o1 (by omega)) hl
  · rw [List.map_cons, show xcv al (.ref m) = .ref (al m) from rfl, ha] at K
    exact K
  · show H1[H.size]? = some (vp_cell (ka 105) (n, .inr (.inr (.inr (.inr (fun j => (h.2.2.2 h.1.length j).map al))))))
    have e0 : (fun j => (h.2.2.2 h.1.length j).map al) = fun _ => none := funext fun j => by
      rw [(hF.2 _ (by rw [hF.1]; exact Nat.le_refl _) j).2.2]
      rfl
    rw [e0]
    exact e1
set_option maxHeartbeats 4000000 in
/-- Object's constructor -/
theorem y_obj {fr : Bool} {i mid b : Nat} (hf : xft M.2.2.2.2.2 pc = some (nx, .invokespecial i, [15, mid], li, ll)) (hd1 : 1 ≤ dp) (hst : (st.map fun v => v.category).sum ≤ 8) (k : ExG Ph fq M fr dp kc ks nx ls st h Q X) : ExG Ph fq M fr dp kc ks pc ls (.ref b :: st) h Q X := by
  intro hg p l e R s m args below meth c D ka al A H locs cells slots mc ms lsA hPh C R0 B hW hS hl
  obtain ⟨hd, rfl, hres⟩ := xft_dec hg.1 hf rfl
  have hts := C.2.2.2.2.2.1
  have hst' := xst_cat (al := al) hst
  have hlk : Cond.methodLink (xOwn M.2.1) i Lib.objectInit ∈ xTG := xlk_n (Or.inr (Or.inr rfl)) (by decide) hres
  exact W.objInit C.1 C.2.1 C.2.2.2.2.1 (hts _ hlk) (hts _ xN_ob.1) (hts _ xN_ob.2) rfl (hl.1.trans C.2.2.2.1.symm) rfl hd (by omega) (by show 2 * 0 + _ + 12 ≤ R.locals; omega) (k hg p l e R s m args below meth c D ka al A H locs cells slots mc ms lsA hPh C R0 B hW hS hl)
set_option maxHeartbeats 4000000 in
/-- a field is written, and nothing lies behind the cells -/
theorem y_putF {i ci k n cl m : Nat} {v : Value} (hf : xft M.2.2.2.2.2 pc = some (nx, .putfield i, [ci, k], li, ll)) (hsh : xsh h.1 cl = some (ci, n)) (hn : k < n) (hv : xpv h cl ci k v = some h') (hfit : xfit ci k v) (hfin : (xT ci k).2.2.2 = false ∨ ((xY M.1).name = "<init>" ∧ (xT ci k).1 = xOwn M.2.1)) (hF : Fw m h) (hlt : cl < m) (kk : Fw m h' → ExG Ph fq M true dp kc ks nx ls st h' Q X) : ExG Ph fq M true dp kc ks pc ls (v :: .ref cl :: st) h Q X := y_put hf hsh hn hv hfit hfin (kk (Fw_put hv hlt hF))
set_option maxHeartbeats 4000000 in
/-- a constructor of a nest mate -/
theorem y_ci4 {M' : xM} {dp' kc' ks' i b : Nat} {Q' : xPost} (hC : Cn M' true dp' kc' ks' [.ref b] h Q') (hf : xft M.2.2.2.2.2 pc = some (nx, .invokespecial i, [4, M'.1], li, ll)) (hn : 0 = xNp M'.1) (hm : M'.1 < 335) (hnm : (xY M'.1).name = "<init>") (hret : M'.2.2.2.2.1 = none) (hr : (st.map fun v => v.category).sum ≤ 8) (hdp : dp' + 1 ≤ dp) (hkc : kc' ≤ kc) (hks : ks' ≤ ks)
    (k : ∀ v h', Q' v h' → ExG Ph fq M true dp (kc - kc') (ks - ks') nx ls (v.toList ++ st) h' Q X) : ExG Ph fq M true dp kc ks pc ls (.ref b :: st) h Q X := by
  intro hg p l e R s m args below meth c D ka al A H locs cells slots mc ms lsA hPh C R0 B hW hS hl
  obtain ⟨hd, rfl, hres⟩ := xft_dec hg.1 hf rfl
  obtain ⟨hg', hh', hM⟩ := hC
  obtain ⟨q, hq, e1, e2, e3, e4⟩ := xlk_m (Or.inr (Or.inr rfl)) (by decide) hres
  obtain ⟨w1, w2, -, w4⟩ := xMk hq
  rw [e3, e4] at w2
  rw [e4] at w4
  have hts := C.2.2.2.2.2.1
  have hnw := xnest C.2.2.2.2.2.2.2.2.2.1 hq e1 e2 e3 e4 (Or.inr rfl)
  have hmL := hg'.2.2.2.2.1
  exact yback (Q' := Q') (a := (Value.ref (al b) :: ([] : List Value)).toArray) hg hPh C R0 B hkc hks hW hS hl rfl (va_runIN (Ts := xTG) (own := xOwn M.2.1) (As := []) (bytes := M'.2.2.1) (maxL := M'.2.2.2.1) ⟨C.1, C.2.1, C.2.2.2.1, C.2.2.2.2.1, hts⟩ (hM l C.2.2.2.2.2.2.2.2.2.2.1 D ka al H.size) ⟨va_cnB 0 hts (xGoodIn hg' hh') (by rw [← hret, ← xcw_code hh']; rfl) rfl rfl hnw (hts _ w4) ⟨hg'.2.2.2.2.2.1, hg'.2.2.2.2.2.2, by rw [hn]; exact xNp_ok _ hm⟩ ⟨by show dp' + 1 ≤ R.frames; omega, by show 8 + (M'.2.2.2.1 + 11) + 64 * dp' ≤ R.locals; omega⟩, hnm, hts _ w2⟩ ⟨xPc_blind, xpre (av := [.ref b]) C hW hS⟩ rfl rfl hl.1 rfl (lv_room (xst_cat (al := al) hr)) hd ⟨by omega, by omega⟩) k
set_option maxHeartbeats 4000000 in
/-- a constructor that may be called from anywhere -/
theorem y_ci2 {M' : xM} {dp' kc' ks' i b : Nat} {Q' : xPost} (hC : Cn M' true dp' kc' ks' [.ref b] h Q') (hf : xft M.2.2.2.2.2 pc = some (nx, .invokespecial i, [2, M'.1], li, ll)) (hn : 0 = xNp M'.1) (hm : M'.1 < 335) (hnm : (xY M'.1).name = "<init>") (hret : M'.2.2.2.2.1 = none) (hr : (st.map fun v => v.category).sum ≤ 8) (hdp : dp' + 1 ≤ dp) (hkc : kc' ≤ kc) (hks : ks' ≤ ks)
    (k : ∀ v h', Q' v h' → ExG Ph fq M true dp (kc - kc') (ks - ks') nx ls (v.toList ++ st) h' Q X) : ExG Ph fq M true dp kc ks pc ls (.ref b :: st) h Q X := by
  intro hg p l e R s m args below meth c D ka al A H locs cells slots mc ms lsA hPh C R0 B hW hS hl
  obtain ⟨hd, rfl, hres⟩ := xft_dec hg.1 hf rfl
  obtain ⟨hg', hh', hM⟩ := hC
  obtain ⟨q, hq, e1, e2, e3, e4⟩ := xlk_m (Or.inr (Or.inr rfl)) (by decide) hres
  obtain ⟨w1, w2, -, w4⟩ := xMk hq
  rw [e1, e2, e3, e4] at w1
  rw [e3, e4] at w2
  rw [e4] at w4
  have hts := C.2.2.2.2.2.1
  have hw1 : Cond.methodLink (xOwn M.2.1) i (xY M'.1) ∈ xTG := xTG_in w1 rfl
  have hmL := hg'.2.2.2.2.1
  exact yback (Q' := Q') (a := (Value.ref (al b) :: ([] : List Value)).toArray) hg hPh C R0 B hkc hks hW hS hl rfl (va_runI (Ts := xTG) (own := xOwn M.2.1) (As := []) (bytes := M'.2.2.1) (maxL := M'.2.2.2.1) ⟨C.1, C.2.1, C.2.2.2.1, C.2.2.2.2.1, hts⟩ (hM l C.2.2.2.2.2.2.2.2.2.2.1 D ka al H.size) ⟨callB_of 0 hts (xGoodIn hg' hh') (by rw [← hret, ← xcw_code hh']; rfl) rfl rfl (hts _ w4) (hts _ hw1) ⟨hg'.2.2.2.2.2.1, hg'.2.2.2.2.2.2, by rw [hn]; exact xNp_ok _ hm⟩ ⟨by show dp' + 1 ≤ R.frames; omega, by show 8 + (M'.2.2.2.1 + 11) + 64 * dp' ≤ R.locals; omega⟩, hnm, hts _ w2⟩ ⟨xPc_blind, xpre (av := [.ref b]) C hW hS⟩ rfl rfl hl.1 rfl (lv_room (xst_cat (al := al) hr)) hd ⟨by omega, by omega⟩) k
end YN
/-! ARRAYS OF REFERENCES: a place is written; rows of rows are made -/
section XSQ
variable {p : Program} {l : Launch} {e : Env} {R : Room} {s : State} {m : MethodId} {args : Array Value} {below : List Frame} {meth : Method} {c : Code} {H : Heap} {locs : List Loc} {cells slots : Nat} {Q : State → Prop}
variable {cc : ByteArray} {pc : Nat} {ls : Array Slot} {rest : List Value} {D : va_G} {cl : List vw_C} {A : Nat → Prop} {a : Nat} {tys : List (ClassId × FieldType)} {ws : va_W} {H0 : Heap}
theorem xs_astq (hexec : p.tables.exec = Jvm.exec) (hb : c.code = cc) (hK : va_K D cl tys s) (hP : va_P D cl ws H) (hD : va_D A ws) (hS : va_S A H0 H locs) (q0 t0 qk ci : Nat) {cA : ClassId} {r : vw_C} {n v : Nat} {vs : List Value} {f : Nat → Option Nat} (ha : ws[q0]? = some (a, .inl (cA, n, .inr (.inr (.inr (.inr f)))))) (ht : tys[t0]? = some (cA, .object r.1)) (hv : ws[qk]? = some (v, .inr (ci, vs))) (hc : cl[ci]? = some r) {i : Int32} (hin : vp_in i n) (hdg : decode cc pc = .ok (.aastore, 1))
    (kk : ∀ (H1 : Heap) (locs1 : List Loc), va_P D cl (ws.set q0 (a, .inl (cA, n, .inr (.inr (.inr (.inr (va_up f i.toNatClampNeg (some v)))))))) H1 → va_D A (ws.set q0 (a, .inl (cA, n, .inr (.inr (.inr (.inr (va_up f i.toNatClampNeg (some v)))))))) → va_S A H0 H1 locs1 → H1.size = H.size → W p l e R s m args below meth c H1 locs1 cells slots Q (F0 m (pc + 1) ls rest)) : W p l e R s m args below meth c H locs cells slots Q (F0 m pc ls (.ref v :: .int i :: .ref a :: rest)) := by
  have hlt : i.toNatClampNeg < n := Nat.not_le.mp fun q => hin (Or.inr q)
  have h0 : ¬ i < 0 := fun q => hin (Or.inl q)
  obtain ⟨r', hr', cellV, g1, g2, g3, -⟩ := hP qk _ hv
  have hcls := (hK.1 ci r hc).2
  obtain ⟨kA, comp, k1, k2, k3, -⟩ := (hK.2 t0 _ ht).2
  have hcomp : comp = D.1 ci := Option.some.inj (k3.symm.trans hcls.1)
  subst hcomp
  obtain ⟨kC, hkC, -⟩ := hcls.2
  refine W.aast hexec hb (hP q0 _ ha) (fun q h => by cases h) (fun h => by cases h) k1 k2 rfl hkC ⟨h0, by show _ < (arrV _ _ _).slots.size; rw [arrV_size]; exact hlt⟩ g1 (fun q h => by rw [g3] at h; cases h) (by rw [g2]; exact hkC) (by rw [g2]; exact va_assign hcls) rfl rfl hdg fun H1 e z oq => ?_
  refine kk H1 _ (hP.set hD ha ?_ oq) (hD.set ha) (hS.put z oq (hD.2 q0 _ ha)) z
  show H1[a]? = some (vp_cell _ _)
  rw [e]
  rw [vp_cell_q, vp_cell_q, arrV_store]
  congr 2
  funext q
  by_cases hq : q = i.toNatClampNeg
  · subst hq
    simp [updV, va_up, va_rf]
  · simp [updV, va_up, hq]
theorem xmnaW (hexec : p.tables.exec = Jvm.exec) (hb : c.code = cc) {own : String} {index : Nat} {ty : FieldType} {cy : ClassId} (hown : s.vm.findClass own = some m.cls) (hclink : (Cond.classLink own index ("[" ++ (FieldType.array ty).toString)).before args s = true) (hover : va_AOA ty s) (harr : (Cond.arrayClass ty).before args s = true) (hcy : s.vm.findClass (FieldType.array ty).toString = some cy)
    {n k : Int32} {N' K' : Nat} {z : vp_A} (hn : ¬ n < 0) (hk : ¬ k < 0) (hN : n.toNatClampNeg = N') (hM : k.toNatClampNeg = K')
    (hb1 : N' * 4 ≤ 536870912) (hb2 : K' * componentBytes ty ≤ 536870912) (hb3 : K' ≤ 536870912) (hdf : fits ty (defaultValue ty) = true) (hdd : (defaultValue ty).isDefault = true) (hcells : cells + (1 + N') ≤ R.cells) (hslots : slots + (N' + N' * K') ≤ R.slots) (hz : ∀ c : ClassId, Jvm.Free.Multi.innerC c K' (defaultValue ty) = vp_cell c z) (hdg : decode cc pc = .ok (.multianewarray index 2, 4))
    (kk : ∀ (cA : ClassId) (H1 : Heap), s.vm.findClass ("[" ++ (FieldType.array ty).toString) = some cA → H1.size = H.size + 1 + N' → (∀ x : Nat, x < H.size → H1[x]? = H[x]?) → H1[H.size]? = some (vp_cell cA (N', .inr (.inr (.inr (.inr (fun i => if i < N' then some (H.size + 1 + i) else none)))))) → (∀ j : Nat, j < N' → H1[H.size + 1 + j]? = some (vp_cell cy z)) →
      W p l e R s m args below meth c H1 locs (cells + 1 + N') (slots + N' + N' * K') Q (F0 m (pc + 4) ls (.ref H.size :: rest))) : W p l e R s m args below meth c H locs cells slots Q (F0 m pc ls (.int k :: .int n :: rest)) := by
  subst hN
  subst hM
  intro T hT Xs
  obtain ⟨vm₁, cA, comp, -, fA, fC, hO, -, X', step⟩ := Xs.multianewarray2F hexec hown hclink (va_AOA.use hover) harr (g := F0 m pc ls (.int k :: .int n :: rest)) rfl (by rw [hb]; exact hdg) rfl hn hk hb1 hb2 hb3 hdf hdd hcells hslots
  have ec : some cy = some comp := hcy.symm.trans fC
  cases ec
  generalize hF : Jvm.Free.Multi.fill (T.setVm vm₁) cA cy n.toNatClampNeg k.toNatClampNeg (defaultValue ty) n.toNatClampNeg = F at X' step
  have hTh : (T.setVm vm₁).heap = H := hT
  obtain ⟨f1, f2, -, -⟩ := Jvm.Free.Multi.fill_facts (T.setVm vm₁) cA cy n.toNatClampNeg k.toNatClampNeg (defaultValue ty) n.toNatClampNeg
  rw [hF, hTh] at f1 f2
  have hold : ∀ x : Nat, x < H.size → F.heap[x]? = H[x]? := fun x hx => by
    have := Jvm.Free.Multi.fill_old (T.setVm vm₁) cA cy n.toNatClampNeg k.toNatClampNeg (defaultValue ty) (a := x) (by rw [hTh]; exact hx) n.toNatClampNeg
    rw [hF, hTh] at this
    exact this
  have hrow : ∀ j : Nat, j < n.toNatClampNeg → F.heap[H.size + 1 + j]? = some (vp_cell cy z) := fun j hj => by
    have := Jvm.Free.Multi.fill_inner (T.setVm vm₁) cA cy n.toNatClampNeg k.toNatClampNeg (defaultValue ty) n.toNatClampNeg j hj
    rw [hF, hTh, hz] at this
    exact this
  have hout : Jvm.Free.Multi.outerC cA n.toNatClampNeg H.size n.toNatClampNeg = vp_cell cA (n.toNatClampNeg, .inr (.inr (.inr (.inr (fun i => if i < n.toNatClampNeg then some (H.size + 1 + i) else none))))) := by
    rw [vp_cell_q]
    exact vr_outer cA n.toNatClampNeg H.size n.toNatClampNeg
  rw [hout] at f2
  obtain ⟨t, a1, b1⟩ := kk cA F.heap fA f1 hold f2 hrow F rfl X'
  refine ⟨t, step t ?_, b1⟩
  have e : T.heap.size = H.size := by rw [hT]
  rw [e]
  exact a1
end XSQ
def xqR (h : xHp) (c k v : Nat) : Option xHp := match h with
  | (sh, d, L, r) => some (sh, d, L, up2 r c k (some v))
theorem xqR_eq {h h' : xHp} {c k v : Nat} (e : xqR h c k v = some h') : h' = xpR h c k (some v) := by
  obtain ⟨sh, d, L, r⟩ := h
  exact (Option.some.inj e).symm
def rM (r : Nat → Nat → Option Nat) (m N c k : Nat) : Option Nat := if c = m then (if k < N then some (m + 1 + k) else none) else r c k
def xqM (h : xHp) (m N K : Nat) : Option xHp := match h with
  | (sh, d, L, r) => some (sh ++ (104, N) :: List.replicate N (100, K), d, L, rM r m N)
theorem xqM_eq {h h' : xHp} {m N K : Nat} (e : xqM h m N K = some h') : h' = (h.1 ++ (104, N) :: List.replicate N (100, K), h.2.1, h.2.2.1, rM h.2.2.2 m N) := by
  obtain ⟨sh, d, L, r⟩ := h
  exact (Option.some.inj e).symm
theorem rM_ne {r : Nat → Nat → Option Nat} {m N c : Nat} (h : c ≠ m) : rM r m N c = r c := by
  funext k
  unfold rM
  rw [if_neg h]
theorem Fw_M {h : xHp} {m N K : Nat} (hF : Fw m h) : Fw (m + 1 + N) (h.1 ++ (104, N) :: List.replicate N (100, K), h.2.1, h.2.2.1, rM h.2.2.2 m N) := by
  refine ⟨?_, fun c hc k => ?_⟩
  · show (h.1 ++ (104, N) :: List.replicate N (100, K)).length = _
    rw [List.length_append, List.length_cons, List.length_replicate, hF.1]
    omega
  · obtain ⟨a1, a2, a3⟩ := hF.2 c (by omega) k
    refine ⟨a1, a2, ?_⟩
    show rM h.2.2.2 m N c k = none
    rw [rM_ne (by omega)]
    exact a3
theorem xshM {sh : List (Nat × Nat)} {m N K k t n : Nat} (hm : sh.length = m) (h : (sh ++ (104, N) :: List.replicate N (100, K))[k]? = some (t, n)) : (k < m ∧ sh[k]? = some (t, n)) ∨ (k = m ∧ t = 104 ∧ n = N) ∨ (∃ j, j < N ∧ k = m + 1 + j ∧ t = 100 ∧ n = K) := by
  by_cases h1 : k < sh.length
  · rw [List.getElem?_append_left h1] at h
    exact Or.inl ⟨by omega, h⟩
  · rw [List.getElem?_append_right (by omega)] at h
    by_cases h2 : k = m
    · rw [show k - sh.length = 0 by omega] at h
      cases h
      exact Or.inr (Or.inl ⟨h2, rfl, rfl⟩)
    · rw [show k - sh.length = (k - m - 1) + 1 by omega, List.getElem?_cons_succ] at h
      have hlt : k - m - 1 < N := by
        have := (List.getElem?_eq_some_iff.mp h).1
        rwa [List.length_replicate] at this
      rw [List.getElem?_replicate, if_pos hlt] at h
      cases h
      exact Or.inr (Or.inr ⟨k - m - 1, hlt, by omega, rfl, rfl⟩)
section YQ
variable {Ph : xPhi} {fq : Bool} {M : xM} {dp kc ks pc nx : Nat} {rs : List Nat} {li : Int32} {ll : Int64} {ls : List (Option Value)} {st : List Value} {h h' : xHp} {Q : xPost} {X : Nat → xHp → Prop}
set_option maxHeartbeats 4000000 in
/-- a Way is laid into an array -/
theorem y_aast {cl k n v nv m : Nat} {iv : Int32} (hf : xft M.2.2.2.2.2 pc = some (nx, .aastore, rs, li, ll)) (hsh : xsh h.1 cl = some (105, n)) (hv : xsh h.1 v = some (10, nv)) (hi : iv = nI k) (hk : k < n) (hn : n < 2147483648) (hq : xqR h cl k v = some h') (hF : Fw m h) (hlt : cl < m) (kk : Fw m h' → ExG Ph fq M true dp kc ks nx ls st h' Q X) : ExG Ph fq M true dp kc ks pc ls (.ref v :: .int iv :: .ref cl :: st) h Q X := by
  intro hg p l e R s m9 args below meth c D ka al A H locs cells slots mc ms lsA hPh C R0 B hW hS hl
  cases xqR_eq hq
  subst hi
  obtain ⟨hd, rfl, hr⟩ := xft_dec hg.1 hf rfl
  have hc := xsh_get hsh
  have hw := xws_get (ka := ka) (al := al) (xsh_get hv)
  rw [xcell_obj (by omega)] at hw
  obtain ⟨T, hT1, -⟩ := xvw (show 10 < 13 by decide)
  refine xs_astq (f := fun j => (h.2.2.2 cl j).map al) C.1 C.2.1 C.2.2.2.2.2.2.2.1 hW.1 hW.2.1 hS cl 5 v 10 (xws_get hc) rfl hw hT1 (nI_vin hk hn) hd fun H1 locs1 hP1 hD1 hS1 hz => ?_
  rw [nI_cl hk hn] at hP1 hD1
  have hFn : Fw m (xpR h cl k (some v)) := ⟨hF.1, fun c hc k2 => by
    obtain ⟨a1, a2, a3⟩ := hF.2 c hc k2
    refine ⟨a1, a2, ?_⟩
    show up2 h.2.2.2 cl k (some v) c k2 = none
    rw [up2_ne (by omega)]
    exact a3⟩
  refine kk hFn hg p l e R s m9 args below meth c D ka al A H1 locs1 cells slots mc ms lsA hPh C R0 B (xWd_set (h := h) rfl hc (fun _ hne _ _ => xcell_R hne) ?_ hP1 hD1 hW.2.2 hz) hS1 hl
  show Sum.inl (ka 105, n, Sum.inr (Sum.inr (Sum.inr (Sum.inr (fun j => (up2 h.2.2.2 cl k (some v) cl j).map al))))) = _
  have e0 : (fun j => (up2 h.2.2.2 cl k (some v) cl j).map al) = va_up (fun j => (h.2.2.2 cl j).map al) k (some (al v)) := by
    funext j
    by_cases hj : j = k
    · subst hj
      simp [up2, va_up]
    · simp [up2, va_up, hj]
  rw [e0]
set_option maxHeartbeats 4000000 in
/-- rows of rows -/
theorem y_mna {i N K m : Nat} {iv jv : Int32} (hf : xft M.2.2.2.2.2 pc = some (nx, .multianewarray i 2, rs, li, ll)) (hcl : Cond.classLink (xOwn M.2.1) i ("[" ++ (FieldType.array .int).toString) ∈ xTG) (hF : Fw m h) (hm : m + 1 + N < 4000) (hi : iv = nI N) (hj : jv = nI K) (hN : Nat.ble N 10000 = true) (hK : Nat.ble K 10000 = true) (hq : xqM h m N K = some h') (hkc : 1 + N ≤ kc) (hks : N + N * K ≤ ks)
    (kk : Fw (m + 1 + N) h' → ExG Ph fq M true dp (kc - (1 + N)) (ks - (N + N * K)) nx ls (.ref m :: st) h' Q X) : ExG Ph fq M true dp kc ks pc ls (.int jv :: .int iv :: st) h Q X := by
  intro hg p l e R s m9 args below meth c D ka al A H locs cells slots mc ms lsA hPh C R0 B hW hS hl
  obtain ⟨hd, rfl, hr⟩ := xft_dec hg.1 hf rfl
  have hN' := Nat.le_of_ble_eq_true hN
  have hK' := Nat.le_of_ble_eq_true hK
  subst hi hj
  cases xqM_eq hq
  have hA := C.2.2.2.2.2.2.2.2.1
  have hts := C.2.2.2.2.2.1
  have hKK := C.2.2.2.2.2.2.2.1
  have hp : ∀ n : Nat, n ≤ 10000 → ¬ nI n < 0 := fun n hn z => nI_vin (k := n) (n := n + 1) (by omega) (by omega) (Or.inl z)
  refine xmnaW (ty := .int) (cy := ka 100) (z := (K, .inl (fun _ => 0))) C.1 C.2.1 C.2.2.2.2.1 (hts _ hcl) C.2.2.2.2.2.2.2.2.2.1.2.2.2.2.2.2.2.2 (hts _ (xAC (a := .int) (by decide))) (hKK.2 0 _ rfl).2 (hp N hN') (hp K hK') (nI_clamp (by omega)) (nI_clamp (by omega)) (by omega) (by show K * 4 ≤ _; omega) (by omega) rfl rfl (by omega) (by omega) (fun c => by rw [vp_cell_i, ← arrV_new]; rfl) hd fun cA H1 f1 z1 o1 g1 g2 => ?_
  have ec : cA = ka 104 := Option.some.inj (f1.symm.trans (hKK.2 4 _ rfl).2)
  subst ec
  have hal : ∀ i, m ≤ i → i < 4000 → al i = H.size + (i - m) := fun i h1 h2 => by
    have := hW.2.2 rfl i (by rw [hF.1]; exact h1) h2
    rw [hF.1] at this
    exact this
  have ha : al m = H.size := by
    have := hal m (Nat.le_refl _) (by omega)
    omega
  have hold : ∀ (k : Nat) (t n : Nat), k < m → xcell ka al ((h.1 ++ (104, N) :: List.replicate N (100, K), h.2.1, h.2.2.1, rM h.2.2.2 m N) : xHp) k t n = xcell ka al h k t n := fun k t n hk => xcell_cong rfl rfl (rM_ne (by omega))
  have hlt : ∀ k t n, h.1[k]? = some (t, n) → al k < H.size := fun k t n hk => (hW.1 k _ (xws_get (ka := ka) (al := al) hk)).lt
  have hcl9 : ∀ k, (k < m ∧ al k < H.size) ∨ (m ≤ k ∧ k ≤ m + N ∧ al k = H.size + (k - m)) → al k < H.size + 1 + N := fun k hk => by omega
  have hW1 : xWd true D ka al A (h.1 ++ (104, N) :: List.replicate N (100, K), h.2.1, h.2.2.1, rM h.2.2.2 m N) H1 := by
    refine ⟨fun k q hq => ?_, ⟨fun i j q1 q2 hi hj he => ?_, fun k q hq => ?_⟩, fun _ i h1 h2 => ?_⟩
    · obtain ⟨t, n, hc, rfl⟩ := xws_get' hq
      rcases xshM hF.1 hc with ⟨a1, a2⟩ | ⟨k1, k2, k3⟩ | ⟨j, a1, k1, k2, k3⟩
      · rw [hold k t n a1]
        have hx := hW.1 k _ (xws_get (ka := ka) (al := al) a2)
        exact hx.kept (o1 _ hx.lt)
      · rw [k1, k2, k3]
        show H1[al m]? = some (vp_cell (ka 104) (N, .inr (.inr (.inr (.inr (fun j => (rM h.2.2.2 m N m j).map al))))))
        rw [ha, g1]
        congr 7
        funext j
        unfold rM
        rw [if_pos rfl]
        by_cases hj : j < N
        · rw [if_pos hj, if_pos hj]
          show _ = some (al (m + 1 + j))
          rw [hal (m + 1 + j) (by omega) (by omega)]
          congr 1
          omega
        · rw [if_neg hj, if_neg hj]
          rfl
      · rw [k1, k2, k3]
        show H1[al (m + 1 + j)]? = some (vp_cell (ka 100) (K, .inl (h.2.1 (m + 1 + j))))
        rw [hal (m + 1 + j) (by omega) (by omega), show H.size + (m + 1 + j - m) = H.size + 1 + j by omega, g2 j a1]
        have e0 : h.2.1 (m + 1 + j) = fun _ => 0 := funext fun k => (hF.2 _ (by omega) k).1
        rw [e0]
    · obtain ⟨t, n, hc, rfl⟩ := xws_get' hi
      obtain ⟨t2, n2, hc2, rfl⟩ := xws_get' hj
      have he' : al i = al j := he
      have b1 : (i < m ∧ al i < H.size) ∨ (m ≤ i ∧ i ≤ m + N) := by
        rcases xshM hF.1 hc with ⟨a1, a2⟩ | ⟨a1, -, -⟩ | ⟨j9, a1, a2, -, -⟩
        · exact Or.inl ⟨a1, hlt _ _ _ a2⟩
        · exact Or.inr (by omega)
        · exact Or.inr (by omega)
      have b2 : (j < m ∧ al j < H.size) ∨ (m ≤ j ∧ j ≤ m + N) := by
        rcases xshM hF.1 hc2 with ⟨a1, a2⟩ | ⟨a1, -, -⟩ | ⟨j9, a1, a2, -, -⟩
        · exact Or.inl ⟨a1, hlt _ _ _ a2⟩
        · exact Or.inr (by omega)
        · exact Or.inr (by omega)
      rcases b1 with ⟨c1, c2⟩ | ⟨c1, c2⟩
      · rcases b2 with ⟨d1, d2⟩ | ⟨d1, d2⟩
        · rcases xshM hF.1 hc with ⟨-, a2⟩ | ⟨a1, -, -⟩ | ⟨j9, a1, a2, -, -⟩
          · rcases xshM hF.1 hc2 with ⟨-, a4⟩ | ⟨a3, -, -⟩ | ⟨j9, a3, a4, -, -⟩
            · exact hW.2.1.1 i j _ _ (xws_get (ka := ka) (al := al) a2) (xws_get (ka := ka) (al := al) a4) he'
            · omega
            · omega
          · omega
          · omega
        · have := hal j d1 (by omega)
          omega
      · have e1 := hal i c1 (by omega)
        rcases b2 with ⟨d1, d2⟩ | ⟨d1, d2⟩
        · omega
        · have e2 := hal j d1 (by omega)
          omega
    · obtain ⟨t, n, hc, rfl⟩ := xws_get' hq
      show A (al k)
      rcases xshM hF.1 hc with ⟨a1, a2⟩ | ⟨a1, -, -⟩ | ⟨j9, a1, a2, -, -⟩
      · exact hW.2.1.2 k _ (xws_get (ka := ka) (al := al) a2)
      · refine hA _ (Nat.le_trans hS.1 ?_)
        rw [hal k (by omega) (by omega)]
        omega
      · refine hA _ (Nat.le_trans hS.1 ?_)
        rw [hal k (by omega) (by omega)]
        omega
    · have e9 : (h.1 ++ (104, N) :: List.replicate N (100, K)).length = m + 1 + N := (Fw_M (K := K) (N := N) hF).1
      have h1' : m + 1 + N ≤ i := by
        have h9 : (h.1 ++ (104, N) :: List.replicate N (100, K)).length ≤ i := h1
        rw [e9] at h9
        exact h9
      show al i = H1.size + (i - (h.1 ++ (104, N) :: List.replicate N (100, K)).length)
      rw [e9, hal i (by omega) h2]
      omega
  have K1 := kk (Fw_M hF) hg p l e R s m9 args below meth c D ka al A H1 locs (cells + 1 + N) (slots + N + N * K) mc ms lsA hPh C R0 ⟨by omega, by omega⟩ hW1 (xS_add hS o1 (by omega)) hl
  rw [List.map_cons, show xcv al (.ref m) = .ref (al m) from rfl, ha] at K1
  exact K1
end YQ
