/-! THE CONSTRUCTORS -/
theorem xcl39 : Cond.classLink (xOwn 9) 39 RX10 ∈ xTG := xTG_in (xat_in (p := 2009) (by decide +kernel)) rfl
theorem xcl22 : Cond.classLink (xOwn 9) 22 ("[" ++ (FieldType.array .int).toString) ∈ xTG := xTG_in (xat_in (p := 2007) (by decide +kernel)) rfl
abbrev xR : Type := Nat → Nat → Option Nat
theorem y_get {Ph : xPhi} {fq : Bool} {M : xM} {fr : Bool} {dp kc ks pc nx i ci k n cl : Nat} {li : Int32} {ll : Int64} {ls : List (Option Value)} {st : List Value} {h : xHp} {Q : xPost} {X : Nat → xHp → Prop} {v : Value} (hf : xft M.2.2.2.2.2 pc = some (nx, .getfield i, [ci, k], li, ll)) (hsh : xsh h.1 cl = some (ci, n)) (hn : k < n) (hv : xvI h cl ci k = some v) (kk : ExG Ph fq M fr dp kc ks nx ls (v :: st) h Q X) : ExG Ph fq M fr dp kc ks pc ls (.ref cl :: st) h Q X := by
  intro hg p l e R s m args below meth c D ka al A H locs cells slots mc ms lsA hPh C R0 B hW hS hl
  obtain ⟨hd, rfl, hr⟩ := xft_dec hg.1 hf rfl
  exact x_getW C.1 C.2.1 C.2.2.2.2.1 C.2.2.2.2.2.1 C.2.2.2.2.2.2.2.1 hW.1 (xsh_get hsh) hn hr hv hd (kk hg p l e R s m args below meth c D ka al A H locs cells slots mc ms lsA hPh C R0 B hW hS hl)
theorem Fw_i {sh : List (Nat × Nat)} {d : Nat → Nat → Int32} {L : Nat → Nat → Int64} {r : xR} {m cl k : Nat} {v : Int32} (hlt : cl < m) (hF : Fw m (sh, d, L, r)) : Fw m (sh, up2 d cl k v, L, r) := ⟨hF.1, fun c hc j => by
  obtain ⟨a1, a2, a3⟩ := hF.2 c hc j
  refine ⟨?_, a2, a3⟩
  show up2 d cl k v c j = 0
  rw [up2_ne (by omega)]
  exact a1⟩
def sX10 (sh : List (Nat × Nat)) : List (Nat × Nat) := sh
theorem lX10 {sh : List (Nat × Nat)} {k : Nat} {v : Nat × Nat} (h : xsh sh k = some v) : xsh (sX10 sh) k = some v := h
def rX10 (r : xR) (b : Nat) : xR := r
set_option maxRecDepth 100000 in
set_option maxHeartbeats 400000 in
theorem i_X10 {sh : List (Nat × Nat)} {d : Nat → Nat → Int32} {L : Nat → Nat → Int64} {r : xR} {b : Nat} (h0 : Fw (b + 1) (sh, d, L, r)) (hb : xsh sh b = some (10, 3)) (hm : b + 1 < 4000) : Cn mX10_init true 1 0 0 [.ref b] (sh, d, L, r) (fun v h' => v = none ∧ h' = (sX10 sh, d, L, rX10 r b) ∧ Fw (b + 1) h') := by
  refine Cn.intro gX10_init rfl (Nat.le_of_ble_eq_true rfl) rfl (Ex.ofG ?_)
  refine y_s rfl rfl ?_
  refine y_obj rfl (by decide) (by decide) ?_
  exact y_vret rfl rfl ⟨rfl, rfl, h0⟩
def sX4 (sh : List (Nat × Nat)) : List (Nat × Nat) := (((sh ++ [(100, 10)]) ++ [(100, 10)]) ++ [(100, 10)])
theorem lX4 {sh : List (Nat × Nat)} {k : Nat} {v : Nat × Nat} (h : xsh sh k = some v) : xsh (sX4 sh) k = some v := (@xsh_l _ [(100, 10)] _ _ (@xsh_l _ [(100, 10)] _ _ (@xsh_l _ [(100, 10)] _ _ h)))
def rX4 (r : xR) (b : Nat) : xR := (up2 (up2 (up2 r b 1 (some (b + 1))) b 2 (some (b + 2))) b 3 (some (b + 3)))
set_option maxRecDepth 100000 in
set_option maxHeartbeats 400000 in
theorem i_X4 {sh : List (Nat × Nat)} {d : Nat → Nat → Int32} {L : Nat → Nat → Int64} {r : xR} {b : Nat} (h0 : Fw (b + 1) (sh, d, L, r)) (hb : xsh sh b = some (4, 4)) (hm : b + 4 < 4000) : Cn mX4_init true 1 3 30 [.ref b] (sh, d, L, r) (fun v h' => v = none ∧ h' = (sX4 sh, d, L, rX4 r b) ∧ Fw (b + 4) h') := by
  refine Cn.intro gX4_init rfl (Nat.le_of_ble_eq_true rfl) rfl (Ex.ofG ?_)
  refine y_s rfl rfl ?_
  refine y_obj rfl (by decide) (by decide) ?_
  refine y_s rfl rfl ?_
  refine y_s rfl rfl ?_
  refine y_newa (n := 10) (t := 100) rfl h0 (by omega) rfl rfl rfl rfl rfl (by decide) (by decide) (fun (h1 : Fw (b + 2) _) => ?_)
  have t1 := @xsh_l _ [(100, 10)] _ _ hb
  refine y_putF rfl t1 (by decide) rfl ⟨rfl, rfl⟩ (by first | exact Or.inl rfl | exact Or.inr ⟨rfl, rfl⟩) h1 (by omega) (fun (h2 : Fw (b + 2) _) => ?_)
  refine y_s rfl rfl ?_
  refine y_s rfl rfl ?_
  refine y_newa (n := 10) (t := 100) rfl h2 (by omega) rfl rfl rfl rfl rfl (by decide) (by decide) (fun (h3 : Fw (b + 3) _) => ?_)
  have t2 := @xsh_l _ [(100, 10)] _ _ t1
  refine y_putF rfl t2 (by decide) rfl ⟨rfl, rfl⟩ (by first | exact Or.inl rfl | exact Or.inr ⟨rfl, rfl⟩) h3 (by omega) (fun (h4 : Fw (b + 3) _) => ?_)
  refine y_s rfl rfl ?_
  refine y_s rfl rfl ?_
  refine y_newa (n := 10) (t := 100) rfl h4 (by omega) rfl rfl rfl rfl rfl (by decide) (by decide) (fun (h5 : Fw (b + 4) _) => ?_)
  have t3 := @xsh_l _ [(100, 10)] _ _ t2
  refine y_putF rfl t3 (by decide) rfl ⟨rfl, rfl⟩ (by first | exact Or.inl rfl | exact Or.inr ⟨rfl, rfl⟩) h5 (by omega) (fun (h6 : Fw (b + 4) _) => ?_)
  exact y_vret rfl rfl ⟨rfl, rfl, h6⟩
def sX3 (sh : List (Nat × Nat)) : List (Nat × Nat) := ((((sh ++ [(100, 6)]) ++ [(100, 6)]) ++ [(100, 6)]) ++ [(100, 6)])
theorem lX3 {sh : List (Nat × Nat)} {k : Nat} {v : Nat × Nat} (h : xsh sh k = some v) : xsh (sX3 sh) k = some v := (@xsh_l _ [(100, 6)] _ _ (@xsh_l _ [(100, 6)] _ _ (@xsh_l _ [(100, 6)] _ _ (@xsh_l _ [(100, 6)] _ _ h))))
def rX3 (r : xR) (b : Nat) : xR := (up2 (up2 (up2 (up2 r b 1 (some (b + 1))) b 2 (some (b + 2))) b 3 (some (b + 3))) b 4 (some (b + 4)))
set_option maxRecDepth 100000 in
set_option maxHeartbeats 400000 in
theorem i_X3 {sh : List (Nat × Nat)} {d : Nat → Nat → Int32} {L : Nat → Nat → Int64} {r : xR} {b : Nat} (h0 : Fw (b + 1) (sh, d, L, r)) (hb : xsh sh b = some (3, 5)) (hm : b + 5 < 4000) : Cn mX3_init true 1 4 24 [.ref b] (sh, d, L, r) (fun v h' => v = none ∧ h' = (sX3 sh, d, L, rX3 r b) ∧ Fw (b + 5) h') := by
  refine Cn.intro gX3_init rfl (Nat.le_of_ble_eq_true rfl) rfl (Ex.ofG ?_)
  refine y_s rfl rfl ?_
  refine y_obj rfl (by decide) (by decide) ?_
  refine y_s rfl rfl ?_
  refine y_s rfl rfl ?_
  refine y_newa (n := 6) (t := 100) rfl h0 (by omega) rfl rfl rfl rfl rfl (by decide) (by decide) (fun (h1 : Fw (b + 2) _) => ?_)
  have t1 := @xsh_l _ [(100, 6)] _ _ hb
  refine y_putF rfl t1 (by decide) rfl ⟨rfl, rfl⟩ (by first | exact Or.inl rfl | exact Or.inr ⟨rfl, rfl⟩) h1 (by omega) (fun (h2 : Fw (b + 2) _) => ?_)
  refine y_s rfl rfl ?_
  refine y_s rfl rfl ?_
  refine y_newa (n := 6) (t := 100) rfl h2 (by omega) rfl rfl rfl rfl rfl (by decide) (by decide) (fun (h3 : Fw (b + 3) _) => ?_)
  have t2 := @xsh_l _ [(100, 6)] _ _ t1
  refine y_putF rfl t2 (by decide) rfl ⟨rfl, rfl⟩ (by first | exact Or.inl rfl | exact Or.inr ⟨rfl, rfl⟩) h3 (by omega) (fun (h4 : Fw (b + 3) _) => ?_)
  refine y_s rfl rfl ?_
  refine y_s rfl rfl ?_
  refine y_newa (n := 6) (t := 100) rfl h4 (by omega) rfl rfl rfl rfl rfl (by decide) (by decide) (fun (h5 : Fw (b + 4) _) => ?_)
  have t3 := @xsh_l _ [(100, 6)] _ _ t2
  refine y_putF rfl t3 (by decide) rfl ⟨rfl, rfl⟩ (by first | exact Or.inl rfl | exact Or.inr ⟨rfl, rfl⟩) h5 (by omega) (fun (h6 : Fw (b + 4) _) => ?_)
  refine y_s rfl rfl ?_
  refine y_s rfl rfl ?_
  refine y_newa (n := 6) (t := 100) rfl h6 (by omega) rfl rfl rfl rfl rfl (by decide) (by decide) (fun (h7 : Fw (b + 5) _) => ?_)
  have t4 := @xsh_l _ [(100, 6)] _ _ t3
  refine y_putF rfl t4 (by decide) rfl ⟨rfl, rfl⟩ (by first | exact Or.inl rfl | exact Or.inr ⟨rfl, rfl⟩) h7 (by omega) (fun (h8 : Fw (b + 5) _) => ?_)
  exact y_vret rfl rfl ⟨rfl, rfl, h8⟩
def sX7 (sh : List (Nat × Nat)) : List (Nat × Nat) := (((sh ++ [(100, 16)]) ++ [(100, 16)]) ++ [(100, 16)])
theorem lX7 {sh : List (Nat × Nat)} {k : Nat} {v : Nat × Nat} (h : xsh sh k = some v) : xsh (sX7 sh) k = some v := (@xsh_l _ [(100, 16)] _ _ (@xsh_l _ [(100, 16)] _ _ (@xsh_l _ [(100, 16)] _ _ h)))
def rX7 (r : xR) (b : Nat) : xR := (up2 (up2 (up2 r b 1 (some (b + 1))) b 2 (some (b + 2))) b 3 (some (b + 3)))
set_option maxRecDepth 100000 in
set_option maxHeartbeats 400000 in
theorem i_X7 {sh : List (Nat × Nat)} {d : Nat → Nat → Int32} {L : Nat → Nat → Int64} {r : xR} {b : Nat} (h0 : Fw (b + 1) (sh, d, L, r)) (hb : xsh sh b = some (7, 4)) (hm : b + 4 < 4000) : Cn mX7_init true 1 3 48 [.ref b] (sh, d, L, r) (fun v h' => v = none ∧ h' = (sX7 sh, d, L, rX7 r b) ∧ Fw (b + 4) h') := by
  refine Cn.intro gX7_init rfl (Nat.le_of_ble_eq_true rfl) rfl (Ex.ofG ?_)
  refine y_s rfl rfl ?_
  refine y_obj rfl (by decide) (by decide) ?_
  refine y_s rfl rfl ?_
  refine y_s rfl rfl ?_
  refine y_newa (n := 16) (t := 100) rfl h0 (by omega) rfl rfl rfl rfl rfl (by decide) (by decide) (fun (h1 : Fw (b + 2) _) => ?_)
  have t1 := @xsh_l _ [(100, 16)] _ _ hb
  refine y_putF rfl t1 (by decide) rfl ⟨rfl, rfl⟩ (by first | exact Or.inl rfl | exact Or.inr ⟨rfl, rfl⟩) h1 (by omega) (fun (h2 : Fw (b + 2) _) => ?_)
  refine y_s rfl rfl ?_
  refine y_s rfl rfl ?_
  refine y_newa (n := 16) (t := 100) rfl h2 (by omega) rfl rfl rfl rfl rfl (by decide) (by decide) (fun (h3 : Fw (b + 3) _) => ?_)
  have t2 := @xsh_l _ [(100, 16)] _ _ t1
  refine y_putF rfl t2 (by decide) rfl ⟨rfl, rfl⟩ (by first | exact Or.inl rfl | exact Or.inr ⟨rfl, rfl⟩) h3 (by omega) (fun (h4 : Fw (b + 3) _) => ?_)
  refine y_s rfl rfl ?_
  refine y_s rfl rfl ?_
  refine y_newa (n := 16) (t := 100) rfl h4 (by omega) rfl rfl rfl rfl rfl (by decide) (by decide) (fun (h5 : Fw (b + 4) _) => ?_)
  have t3 := @xsh_l _ [(100, 16)] _ _ t2
  refine y_putF rfl t3 (by decide) rfl ⟨rfl, rfl⟩ (by first | exact Or.inl rfl | exact Or.inr ⟨rfl, rfl⟩) h5 (by omega) (fun (h6 : Fw (b + 4) _) => ?_)
  exact y_vret rfl rfl ⟨rfl, rfl, h6⟩
def sX6 (sh : List (Nat × Nat)) : List (Nat × Nat) := ((sh ++ [(100, 700)]) ++ [(100, 40)])
theorem lX6 {sh : List (Nat × Nat)} {k : Nat} {v : Nat × Nat} (h : xsh sh k = some v) : xsh (sX6 sh) k = some v := (@xsh_l _ [(100, 40)] _ _ (@xsh_l _ [(100, 700)] _ _ h))
def rX6 (r : xR) (b : Nat) : xR := (up2 (up2 r b 1 (some (b + 1))) b 2 (some (b + 2)))
set_option maxRecDepth 100000 in
set_option maxHeartbeats 400000 in
theorem i_X6 {sh : List (Nat × Nat)} {d : Nat → Nat → Int32} {L : Nat → Nat → Int64} {r : xR} {b : Nat} (h0 : Fw (b + 1) (sh, d, L, r)) (hb : xsh sh b = some (6, 3)) (hm : b + 3 < 4000) : Cn mX6_init true 1 2 740 [.ref b] (sh, d, L, r) (fun v h' => v = none ∧ h' = (sX6 sh, d, L, rX6 r b) ∧ Fw (b + 3) h') := by
  refine Cn.intro gX6_init rfl (Nat.le_of_ble_eq_true rfl) rfl (Ex.ofG ?_)
  refine y_s rfl rfl ?_
  refine y_obj rfl (by decide) (by decide) ?_
  refine y_s rfl rfl ?_
  refine y_s rfl rfl ?_
  refine y_newa (n := 700) (t := 100) rfl h0 (by omega) rfl rfl rfl rfl rfl (by decide) (by decide) (fun (h1 : Fw (b + 2) _) => ?_)
  have t1 := @xsh_l _ [(100, 700)] _ _ hb
  refine y_putF rfl t1 (by decide) rfl ⟨rfl, rfl⟩ (by first | exact Or.inl rfl | exact Or.inr ⟨rfl, rfl⟩) h1 (by omega) (fun (h2 : Fw (b + 2) _) => ?_)
  refine y_s rfl rfl ?_
  refine y_s rfl rfl ?_
  refine y_newa (n := 40) (t := 100) rfl h2 (by omega) rfl rfl rfl rfl rfl (by decide) (by decide) (fun (h3 : Fw (b + 3) _) => ?_)
  have t2 := @xsh_l _ [(100, 40)] _ _ t1
  refine y_putF rfl t2 (by decide) rfl ⟨rfl, rfl⟩ (by first | exact Or.inl rfl | exact Or.inr ⟨rfl, rfl⟩) h3 (by omega) (fun (h4 : Fw (b + 3) _) => ?_)
  exact y_vret rfl rfl ⟨rfl, rfl, h4⟩
def sX0 (sh : List (Nat × Nat)) : List (Nat × Nat) := ((((sh ++ [(100, 40)]) ++ [(100, 40)]) ++ [(100, 40)]) ++ [(100, 40)])
theorem lX0 {sh : List (Nat × Nat)} {k : Nat} {v : Nat × Nat} (h : xsh sh k = some v) : xsh (sX0 sh) k = some v := (@xsh_l _ [(100, 40)] _ _ (@xsh_l _ [(100, 40)] _ _ (@xsh_l _ [(100, 40)] _ _ (@xsh_l _ [(100, 40)] _ _ h))))
def rX0 (r : xR) (b : Nat) : xR := (up2 (up2 (up2 (up2 r b 1 (some (b + 1))) b 2 (some (b + 2))) b 3 (some (b + 3))) b 4 (some (b + 4)))
set_option maxRecDepth 100000 in
set_option maxHeartbeats 400000 in
theorem i_X0 {sh : List (Nat × Nat)} {d : Nat → Nat → Int32} {L : Nat → Nat → Int64} {r : xR} {b : Nat} (h0 : Fw (b + 1) (sh, d, L, r)) (hb : xsh sh b = some (0, 5)) (hm : b + 5 < 4000) : Cn mX0_init true 1 4 160 [.ref b] (sh, d, L, r) (fun v h' => v = none ∧ h' = (sX0 sh, d, L, rX0 r b) ∧ Fw (b + 5) h') := by
  refine Cn.intro gX0_init rfl (Nat.le_of_ble_eq_true rfl) rfl (Ex.ofG ?_)
  refine y_s rfl rfl ?_
  refine y_obj rfl (by decide) (by decide) ?_
  refine y_s rfl rfl ?_
  refine y_s rfl rfl ?_
  refine y_newa (n := 40) (t := 100) rfl h0 (by omega) rfl rfl rfl rfl rfl (by decide) (by decide) (fun (h1 : Fw (b + 2) _) => ?_)
  have t1 := @xsh_l _ [(100, 40)] _ _ hb
  refine y_putF rfl t1 (by decide) rfl ⟨rfl, rfl⟩ (by first | exact Or.inl rfl | exact Or.inr ⟨rfl, rfl⟩) h1 (by omega) (fun (h2 : Fw (b + 2) _) => ?_)
  refine y_s rfl rfl ?_
  refine y_s rfl rfl ?_
  refine y_newa (n := 40) (t := 100) rfl h2 (by omega) rfl rfl rfl rfl rfl (by decide) (by decide) (fun (h3 : Fw (b + 3) _) => ?_)
  have t2 := @xsh_l _ [(100, 40)] _ _ t1
  refine y_putF rfl t2 (by decide) rfl ⟨rfl, rfl⟩ (by first | exact Or.inl rfl | exact Or.inr ⟨rfl, rfl⟩) h3 (by omega) (fun (h4 : Fw (b + 3) _) => ?_)
  refine y_s rfl rfl ?_
  refine y_s rfl rfl ?_
  refine y_newa (n := 40) (t := 100) rfl h4 (by omega) rfl rfl rfl rfl rfl (by decide) (by decide) (fun (h5 : Fw (b + 4) _) => ?_)
  have t3 := @xsh_l _ [(100, 40)] _ _ t2
  refine y_putF rfl t3 (by decide) rfl ⟨rfl, rfl⟩ (by first | exact Or.inl rfl | exact Or.inr ⟨rfl, rfl⟩) h5 (by omega) (fun (h6 : Fw (b + 4) _) => ?_)
  refine y_s rfl rfl ?_
  refine y_s rfl rfl ?_
  refine y_newa (n := 40) (t := 100) rfl h6 (by omega) rfl rfl rfl rfl rfl (by decide) (by decide) (fun (h7 : Fw (b + 5) _) => ?_)
  have t4 := @xsh_l _ [(100, 40)] _ _ t3
  refine y_putF rfl t4 (by decide) rfl ⟨rfl, rfl⟩ (by first | exact Or.inl rfl | exact Or.inr ⟨rfl, rfl⟩) h7 (by omega) (fun (h8 : Fw (b + 5) _) => ?_)
  exact y_vret rfl rfl ⟨rfl, rfl, h8⟩
def sX1 (sh : List (Nat × Nat)) : List (Nat × Nat) := (((sh ++ [(100, 6)]) ++ [(100, 10)]) ++ [(100, 5)])
theorem lX1 {sh : List (Nat × Nat)} {k : Nat} {v : Nat × Nat} (h : xsh sh k = some v) : xsh (sX1 sh) k = some v := (@xsh_l _ [(100, 5)] _ _ (@xsh_l _ [(100, 10)] _ _ (@xsh_l _ [(100, 6)] _ _ h)))
def rX1 (r : xR) (b : Nat) : xR := (up2 (up2 (up2 r b 0 (some (b + 1))) b 1 (some (b + 2))) b 2 (some (b + 3)))
set_option maxRecDepth 100000 in
set_option maxHeartbeats 400000 in
theorem i_X1 {sh : List (Nat × Nat)} {d : Nat → Nat → Int32} {L : Nat → Nat → Int64} {r : xR} {b : Nat} (h0 : Fw (b + 1) (sh, d, L, r)) (hb : xsh sh b = some (1, 3)) (hm : b + 4 < 4000) : Cn mX1_init true 1 3 21 [.ref b] (sh, d, L, r) (fun v h' => v = none ∧ h' = (sX1 sh, d, L, rX1 r b) ∧ Fw (b + 4) h') := by
  refine Cn.intro gX1_init rfl (Nat.le_of_ble_eq_true rfl) rfl (Ex.ofG ?_)
  refine y_s rfl rfl ?_
  refine y_obj rfl (by decide) (by decide) ?_
  refine y_s rfl rfl ?_
  refine y_s rfl rfl ?_
  refine y_newa (n := 6) (t := 100) rfl h0 (by omega) rfl rfl rfl rfl rfl (by decide) (by decide) (fun (h1 : Fw (b + 2) _) => ?_)
  have t1 := @xsh_l _ [(100, 6)] _ _ hb
  refine y_putF rfl t1 (by decide) rfl ⟨rfl, rfl⟩ (by first | exact Or.inl rfl | exact Or.inr ⟨rfl, rfl⟩) h1 (by omega) (fun (h2 : Fw (b + 2) _) => ?_)
  refine y_s rfl rfl ?_
  refine y_s rfl rfl ?_
  refine y_newa (n := 10) (t := 100) rfl h2 (by omega) rfl rfl rfl rfl rfl (by decide) (by decide) (fun (h3 : Fw (b + 3) _) => ?_)
  have t2 := @xsh_l _ [(100, 10)] _ _ t1
  refine y_putF rfl t2 (by decide) rfl ⟨rfl, rfl⟩ (by first | exact Or.inl rfl | exact Or.inr ⟨rfl, rfl⟩) h3 (by omega) (fun (h4 : Fw (b + 3) _) => ?_)
  refine y_s rfl rfl ?_
  refine y_s rfl rfl ?_
  refine y_newa (n := 5) (t := 100) rfl h4 (by omega) rfl rfl rfl rfl rfl (by decide) (by decide) (fun (h5 : Fw (b + 4) _) => ?_)
  have t3 := @xsh_l _ [(100, 5)] _ _ t2
  refine y_putF rfl t3 (by decide) rfl ⟨rfl, rfl⟩ (by first | exact Or.inl rfl | exact Or.inr ⟨rfl, rfl⟩) h5 (by omega) (fun (h6 : Fw (b + 4) _) => ?_)
  exact y_vret rfl rfl ⟨rfl, rfl, h6⟩
def sX8 (sh : List (Nat × Nat)) : List (Nat × Nat) := (((sh ++ [(100, 8)]) ++ [(100, 8)]) ++ [(100, 8)])
theorem lX8 {sh : List (Nat × Nat)} {k : Nat} {v : Nat × Nat} (h : xsh sh k = some v) : xsh (sX8 sh) k = some v := (@xsh_l _ [(100, 8)] _ _ (@xsh_l _ [(100, 8)] _ _ (@xsh_l _ [(100, 8)] _ _ h)))
def rX8 (r : xR) (b : Nat) : xR := (up2 (up2 (up2 r b 1 (some (b + 1))) b 2 (some (b + 2))) b 3 (some (b + 3)))
set_option maxRecDepth 100000 in
set_option maxHeartbeats 400000 in
theorem i_X8 {sh : List (Nat × Nat)} {d : Nat → Nat → Int32} {L : Nat → Nat → Int64} {r : xR} {b : Nat} (h0 : Fw (b + 1) (sh, d, L, r)) (hb : xsh sh b = some (8, 4)) (hm : b + 4 < 4000) : Cn mX8_init true 1 3 24 [.ref b] (sh, d, L, r) (fun v h' => v = none ∧ h' = (sX8 sh, d, L, rX8 r b) ∧ Fw (b + 4) h') := by
  refine Cn.intro gX8_init rfl (Nat.le_of_ble_eq_true rfl) rfl (Ex.ofG ?_)
  refine y_s rfl rfl ?_
  refine y_obj rfl (by decide) (by decide) ?_
  refine y_s rfl rfl ?_
  refine y_s rfl rfl ?_
  refine y_newa (n := 8) (t := 100) rfl h0 (by omega) rfl rfl rfl rfl rfl (by decide) (by decide) (fun (h1 : Fw (b + 2) _) => ?_)
  have t1 := @xsh_l _ [(100, 8)] _ _ hb
  refine y_putF rfl t1 (by decide) rfl ⟨rfl, rfl⟩ (by first | exact Or.inl rfl | exact Or.inr ⟨rfl, rfl⟩) h1 (by omega) (fun (h2 : Fw (b + 2) _) => ?_)
  refine y_s rfl rfl ?_
  refine y_s rfl rfl ?_
  refine y_newa (n := 8) (t := 100) rfl h2 (by omega) rfl rfl rfl rfl rfl (by decide) (by decide) (fun (h3 : Fw (b + 3) _) => ?_)
  have t2 := @xsh_l _ [(100, 8)] _ _ t1
  refine y_putF rfl t2 (by decide) rfl ⟨rfl, rfl⟩ (by first | exact Or.inl rfl | exact Or.inr ⟨rfl, rfl⟩) h3 (by omega) (fun (h4 : Fw (b + 3) _) => ?_)
  refine y_s rfl rfl ?_
  refine y_s rfl rfl ?_
  refine y_newa (n := 8) (t := 100) rfl h4 (by omega) rfl rfl rfl rfl rfl (by decide) (by decide) (fun (h5 : Fw (b + 4) _) => ?_)
  have t3 := @xsh_l _ [(100, 8)] _ _ t2
  refine y_putF rfl t3 (by decide) rfl ⟨rfl, rfl⟩ (by first | exact Or.inl rfl | exact Or.inr ⟨rfl, rfl⟩) h5 (by omega) (fun (h6 : Fw (b + 4) _) => ?_)
  exact y_vret rfl rfl ⟨rfl, rfl, h6⟩
def sX2 (sh : List (Nat × Nat)) : List (Nat × Nat) := (sX6 ((sX6 ((sX7 ((sX3 ((sX4 (sh ++ [(4, 4)])) ++ [(3, 5)])) ++ [(7, 4)])) ++ [(6, 3)])) ++ [(6, 3)]))
theorem lX2 {sh : List (Nat × Nat)} {k : Nat} {v : Nat × Nat} (h : xsh sh k = some v) : xsh (sX2 sh) k = some v := (lX6 (@xsh_l _ [(6, 3)] _ _ (lX6 (@xsh_l _ [(6, 3)] _ _ (lX7 (@xsh_l _ [(7, 4)] _ _ (lX3 (@xsh_l _ [(3, 5)] _ _ (lX4 (@xsh_l _ [(4, 4)] _ _ h))))))))))
def rX2 (r : xR) (b : Nat) : xR := (up2 (rX6 (up2 (rX6 (up2 (rX7 (up2 (rX3 (up2 (rX4 r (b + 1)) b 0 (some (b + 1))) (b + 5)) b 1 (some (b + 5))) (b + 10)) b 2 (some (b + 10))) (b + 14)) b 3 (some (b + 14))) (b + 17)) b 4 (some (b + 17)))
set_option maxRecDepth 100000 in
set_option maxHeartbeats 400000 in
theorem i_X2 {sh : List (Nat × Nat)} {d : Nat → Nat → Int32} {L : Nat → Nat → Int64} {r : xR} {b : Nat} (h0 : Fw (b + 1) (sh, d, L, r)) (hb : xsh sh b = some (2, 5)) (hm : b + 20 < 4000) : Cn mX2_init true 2 19 1601 [.ref b] (sh, d, L, r) (fun v h' => v = none ∧ h' = (sX2 sh, d, L, rX2 r b) ∧ Fw (b + 20) h') := by
  refine Cn.intro gX2_init rfl (Nat.le_of_ble_eq_true rfl) rfl (Ex.ofG ?_)
  refine y_s rfl rfl ?_
  refine y_obj rfl (by decide) (by decide) ?_
  refine y_s rfl rfl ?_
  refine y_new (n := 4) rfl h0 (by omega) rfl rfl (by decide) (by decide) (fun (h1 : Fw (b + 2) _) => ?_)
  have t1 := @xsh_l _ [(4, 4)] _ _ hb
  have tw2 := xsh_e (l' := []) (v := (4, 4)) h0.1
  refine y_s rfl rfl ?_
  refine y_ci4 (i_X4 (b := b + 1) h1 tw2 (by omega)) rfl rfl (by decide) rfl rfl (Nat.le_of_ble_eq_true rfl) (by decide) (by decide) (by decide) ?_
  rintro v h' ⟨rfl, rfl, (h2 : Fw (b + 5) _)⟩
  have t2 := lX4 t1
  refine y_putF rfl t2 (by decide) rfl ⟨rfl, rfl⟩ (by first | exact Or.inl rfl | exact Or.inr ⟨rfl, rfl⟩) h2 (by omega) (fun (h3 : Fw (b + 5) _) => ?_)
  refine y_s rfl rfl ?_
  refine y_new (n := 5) rfl h3 (by omega) rfl rfl (by decide) (by decide) (fun (h4 : Fw (b + 6) _) => ?_)
  have t3 := @xsh_l _ [(3, 5)] _ _ t2
  have tw6 := xsh_e (l' := []) (v := (3, 5)) h3.1
  refine y_s rfl rfl ?_
  refine y_ci4 (i_X3 (b := b + 5) h4 tw6 (by omega)) rfl rfl (by decide) rfl rfl (Nat.le_of_ble_eq_true rfl) (by decide) (by decide) (by decide) ?_
  rintro v h' ⟨rfl, rfl, (h5 : Fw (b + 10) _)⟩
  have t4 := lX3 t3
  refine y_putF rfl t4 (by decide) rfl ⟨rfl, rfl⟩ (by first | exact Or.inl rfl | exact Or.inr ⟨rfl, rfl⟩) h5 (by omega) (fun (h6 : Fw (b + 10) _) => ?_)
  refine y_s rfl rfl ?_
  refine y_new (n := 4) rfl h6 (by omega) rfl rfl (by decide) (by decide) (fun (h7 : Fw (b + 11) _) => ?_)
  have t5 := @xsh_l _ [(7, 4)] _ _ t4
  have tw11 := xsh_e (l' := []) (v := (7, 4)) h6.1
  refine y_s rfl rfl ?_
  refine y_ci4 (i_X7 (b := b + 10) h7 tw11 (by omega)) rfl rfl (by decide) rfl rfl (Nat.le_of_ble_eq_true rfl) (by decide) (by decide) (by decide) ?_
  rintro v h' ⟨rfl, rfl, (h8 : Fw (b + 14) _)⟩
  have t6 := lX7 t5
  refine y_putF rfl t6 (by decide) rfl ⟨rfl, rfl⟩ (by first | exact Or.inl rfl | exact Or.inr ⟨rfl, rfl⟩) h8 (by omega) (fun (h9 : Fw (b + 14) _) => ?_)
  refine y_s rfl rfl ?_
  refine y_new (n := 3) rfl h9 (by omega) rfl rfl (by decide) (by decide) (fun (h10 : Fw (b + 15) _) => ?_)
  have t7 := @xsh_l _ [(6, 3)] _ _ t6
  have tw15 := xsh_e (l' := []) (v := (6, 3)) h9.1
  refine y_s rfl rfl ?_
  refine y_ci4 (i_X6 (b := b + 14) h10 tw15 (by omega)) rfl rfl (by decide) rfl rfl (Nat.le_of_ble_eq_true rfl) (by decide) (by decide) (by decide) ?_
  rintro v h' ⟨rfl, rfl, (h11 : Fw (b + 17) _)⟩
  have t8 := lX6 t7
  refine y_putF rfl t8 (by decide) rfl ⟨rfl, rfl⟩ (by first | exact Or.inl rfl | exact Or.inr ⟨rfl, rfl⟩) h11 (by omega) (fun (h12 : Fw (b + 17) _) => ?_)
  refine y_s rfl rfl ?_
  refine y_new (n := 3) rfl h12 (by omega) rfl rfl (by decide) (by decide) (fun (h13 : Fw (b + 18) _) => ?_)
  have t9 := @xsh_l _ [(6, 3)] _ _ t8
  have tw18 := xsh_e (l' := []) (v := (6, 3)) h12.1
  refine y_s rfl rfl ?_
  refine y_ci4 (i_X6 (b := b + 17) h13 tw18 (by omega)) rfl rfl (by decide) rfl rfl (Nat.le_of_ble_eq_true rfl) (by decide) (by decide) (by decide) ?_
  rintro v h' ⟨rfl, rfl, (h14 : Fw (b + 20) _)⟩
  have t10 := lX6 t9
  refine y_putF rfl t10 (by decide) rfl ⟨rfl, rfl⟩ (by first | exact Or.inl rfl | exact Or.inr ⟨rfl, rfl⟩) h14 (by omega) (fun (h15 : Fw (b + 20) _) => ?_)
  exact y_vret rfl rfl ⟨rfl, rfl, h15⟩
def sX5 (sh : List (Nat × Nat)) : List (Nat × Nat) := (sX2 ((sh ++ [(101, 700)]) ++ [(2, 5)]))
theorem lX5 {sh : List (Nat × Nat)} {k : Nat} {v : Nat × Nat} (h : xsh sh k = some v) : xsh (sX5 sh) k = some v := (lX2 (@xsh_l _ [(2, 5)] _ _ (@xsh_l _ [(101, 700)] _ _ h)))
def rX5 (r : xR) (b : Nat) : xR := (up2 (rX2 (up2 r b 0 (some (b + 1))) (b + 2)) b 2 (some (b + 2)))
set_option maxRecDepth 100000 in
set_option maxHeartbeats 400000 in
theorem i_X5 {sh : List (Nat × Nat)} {d : Nat → Nat → Int32} {L : Nat → Nat → Int64} {r : xR} {b : Nat} (h0 : Fw (b + 1) (sh, d, L, r)) (hb : xsh sh b = some (5, 10)) (hm : b + 22 < 4000) : Cn mX5_init true 3 21 2306 [.ref b] (sh, d, L, r) (fun v h' => v = none ∧ h' = (sX5 sh, d, L, rX5 r b) ∧ Fw (b + 22) h') := by
  refine Cn.intro gX5_init rfl (Nat.le_of_ble_eq_true rfl) rfl (Ex.ofG ?_)
  refine y_s rfl rfl ?_
  refine y_obj rfl (by decide) (by decide) ?_
  refine y_s rfl rfl ?_
  refine y_s rfl rfl ?_
  refine y_newa (n := 700) (t := 101) rfl h0 (by omega) rfl rfl rfl rfl rfl (by decide) (by decide) (fun (h1 : Fw (b + 2) _) => ?_)
  have t1 := @xsh_l _ [(101, 700)] _ _ hb
  refine y_putF rfl t1 (by decide) rfl ⟨rfl, rfl⟩ (by first | exact Or.inl rfl | exact Or.inr ⟨rfl, rfl⟩) h1 (by omega) (fun (h2 : Fw (b + 2) _) => ?_)
  refine y_s rfl rfl ?_
  refine y_new (n := 5) rfl h2 (by omega) rfl rfl (by decide) (by decide) (fun (h3 : Fw (b + 3) _) => ?_)
  have t2 := @xsh_l _ [(2, 5)] _ _ t1
  have tw3 := xsh_e (l' := []) (v := (2, 5)) h2.1
  refine y_s rfl rfl ?_
  refine y_ci4 (i_X2 (b := b + 2) h3 tw3 (by omega)) rfl rfl (by decide) rfl rfl (Nat.le_of_ble_eq_true rfl) (by decide) (by decide) (by decide) ?_
  rintro v h' ⟨rfl, rfl, (h4 : Fw (b + 22) _)⟩
  have t3 := lX2 t2
  refine y_putF rfl t3 (by decide) rfl ⟨rfl, rfl⟩ (by first | exact Or.inl rfl | exact Or.inr ⟨rfl, rfl⟩) h4 (by omega) (fun (h5 : Fw (b + 22) _) => ?_)
  exact y_vret rfl rfl ⟨rfl, rfl, h5⟩
theorem xlen_of {sh : List (Nat × Nat)} {k m : Nat} {v : Nat × Nat} (h : xsh sh k = some v) (hm : sh.length = m) : k < m := by
  have := (List.getElem?_eq_some_iff.mp (xsh_get h)).1
  omega
set_option maxRecDepth 100000 in
set_option maxHeartbeats 1000000 in
/-- a round of Watch's loop -/
theorem w9 {sh : List (Nat × Nat)} {d : Nat → Nat → Int32} {L : Nat → Nat → Int64} {r : xR} {i m kc ks : Nat} {Q : xPost} {X : Nat → xHp → Prop} (hF : Fw m (sh, d, L, r)) (hm : m < 3999) (ha : xsh sh 68 = some (105, 6)) (hb : xsh sh 23 = some (9, 10)) (hr : r 23 7 = some 68) (hi : i < 6) (hkc : 1 ≤ kc) (hks : 3 ≤ ks)
    (k : Fw (m + 1) (sh ++ [(10, 3)], d, L, up2 r 68 i (some m)) → ExG noPh true mX9_init true 3 (kc - 1) (ks - 3) 105 [some (.ref 23), some (.int (nI (i + 1)))] [] (sh ++ [(10, 3)], d, L, up2 r 68 i (some m)) Q X) : ExG noPh true mX9_init true 3 kc ks 105 [some (.ref 23), some (.int (nI i))] [] (sh, d, L, r) Q X := by
  have hl : ¬ (6 : Int32) ≤ nI i := by
    rcases (by omega : i = 0 ∨ i = 1 ∨ i = 2 ∨ i = 3 ∨ i = 4 ∨ i = 5) with rfl | rfl | rfl | rfl | rfl | rfl <;> decide
  have hinc : nI i + 1 = nI (i + 1) := by
    rcases (by omega : i = 0 ∨ i = 1 ∨ i = 2 ∨ i = 3 ∨ i = 4 ∨ i = 5) with rfl | rfl | rfl | rfl | rfl | rfl <;> rfl
  refine y_s rfl rfl ?_
  refine y_s rfl rfl ?_
  refine y_br rfl rfl (fun c => absurd c hl) (fun _ => ?_)
  refine y_s rfl rfl ?_
  refine y_get rfl hb (by decide) (v := .ref 68) (by show (match r 23 7 with | some x => some (Value.ref x) | none => none) = _; rw [hr]) ?_
  refine y_s rfl rfl ?_
  refine y_new (n := 3) rfl hF (by omega) rfl rfl hkc hks (fun h1 => ?_)
  refine y_s rfl rfl ?_
  refine y_ci4 (i_X10 (b := m) h1 (xsh_e (l' := []) (v := (10, 3)) hF.1) (by omega)) rfl rfl (by decide) rfl rfl (Nat.le_of_ble_eq_true rfl) (by decide) (Nat.zero_le _) (Nat.zero_le _) ?_
  rintro v h' ⟨rfl, rfl, h2⟩
  refine y_aast (k := i) rfl (xsh_l ha) (xsh_e (l' := []) (v := (10, 3)) hF.1) rfl hi (by decide) rfl h2 (by have := xlen_of ha hF.1; omega) (fun h3 => ?_)
  refine y_s rfl rfl ?_
  rw [hinc]
  refine y_s rfl rfl ?_
  exact k h3
def sX9 (sh : List (Nat × Nat)) : List (Nat × Nat) := ((((((((sX10 (((((((((sX2 (sh ++ [(2, 5)])) ++ [(100, 6)]) ++ (104, 6) :: List.replicate 6 (100, 100)) ++ (104, 6) :: List.replicate 6 (100, 100)) ++ (104, 6) :: List.replicate 6 (100, 10)) ++ [(100, 100)]) ++ [(100, 10)]) ++ [(105, 6)]) ++ [(10, 3)])) ++ [(100, 6)]) ++ [(10, 3)]) ++ [(10, 3)]) ++ [(10, 3)]) ++ [(10, 3)]) ++ [(10, 3)]) ++ [(10, 3)])
theorem lX9 {sh : List (Nat × Nat)} {k : Nat} {v : Nat × Nat} (h : xsh sh k = some v) : xsh (sX9 sh) k = some v := (@xsh_l _ [(10, 3)] _ _ (@xsh_l _ [(10, 3)] _ _ (@xsh_l _ [(10, 3)] _ _ (@xsh_l _ [(10, 3)] _ _ (@xsh_l _ [(10, 3)] _ _ (@xsh_l _ [(10, 3)] _ _ (@xsh_l _ [(100, 6)] _ _ (lX10 (@xsh_l _ [(10, 3)] _ _ (@xsh_l _ [(105, 6)] _ _ (@xsh_l _ [(100, 10)] _ _ (@xsh_l _ [(100, 100)] _ _ (@xsh_l _ ((104, 6) :: List.replicate 6 (100, 10)) _ _ (@xsh_l _ ((104, 6) :: List.replicate 6 (100, 100)) _ _ (@xsh_l _ ((104, 6) :: List.replicate 6 (100, 100)) _ _ (@xsh_l _ [(100, 6)] _ _ (lX2 (@xsh_l _ [(2, 5)] _ _ h))))))))))))))))))
def rX9 (r : xR) (b : Nat) : xR := (up2 (up2 (up2 (up2 (up2 (up2 (up2 (up2 (rX10 (up2 (up2 (up2 (up2 (rM (up2 (rM (up2 (rM (up2 (up2 (rX2 r 24) 23 0 (some 24)) 23 1 (some 44)) 45 6) 23 2 (some 45)) 52 6) 23 3 (some 52)) 59 6) 23 4 (some 59)) 23 5 (some 66)) 23 6 (some 67)) 23 7 (some 68)) 69) 23 8 (some 69)) 23 9 (some 70)) 68 0 (some 71)) 68 1 (some 72)) 68 2 (some 73)) 68 3 (some 74)) 68 4 (some 75)) 68 5 (some 76))
set_option maxRecDepth 100000 in
set_option maxHeartbeats 400000 in
theorem i_X9 {sh : List (Nat × Nat)} {d : Nat → Nat → Int32} {L : Nat → Nat → Int64} {r : xR} (h0 : Fw (24) (sh, d, L, r)) (hb : xsh sh 23 = some (9, 10)) (hm : 77 < 4000) : Cn mX9_init true 3 53 3033 [.ref 23] (sh, d, L, r) (fun v h' => v = none ∧ h' = (sX9 sh, d, L, rX9 r 23) ∧ Fw (77) h') := by
  refine Cn.intro gX9_init rfl (Nat.le_of_ble_eq_true rfl) rfl (Ex.ofG ?_)
  refine y_s rfl rfl ?_
  refine y_obj rfl (by decide) (by decide) ?_
  refine y_s rfl rfl ?_
  refine y_new (n := 5) rfl h0 (by omega) rfl rfl (by decide) (by decide) (fun (h1 : Fw (25) _) => ?_)
  have t1 := @xsh_l _ [(2, 5)] _ _ hb
  have tw2 := xsh_e (l' := []) (v := (2, 5)) h0.1
  refine y_s rfl rfl ?_
  refine y_ci4 (i_X2 (b := 24) h1 tw2 (by omega)) rfl rfl (by decide) rfl rfl (Nat.le_of_ble_eq_true rfl) (by decide) (by decide) (by decide) ?_
  rintro v h' ⟨rfl, rfl, (h2 : Fw (44) _)⟩
  have t2 := lX2 t1
  refine y_putF rfl t2 (by decide) rfl ⟨rfl, rfl⟩ (by first | exact Or.inl rfl | exact Or.inr ⟨rfl, rfl⟩) h2 (by omega) (fun (h3 : Fw (44) _) => ?_)
  refine y_s rfl rfl ?_
  refine y_s rfl rfl ?_
  refine y_newa (n := 6) (t := 100) rfl h3 (by omega) rfl rfl rfl rfl rfl (by decide) (by decide) (fun (h4 : Fw (45) _) => ?_)
  have t3 := @xsh_l _ [(100, 6)] _ _ t2
  refine y_putF rfl t3 (by decide) rfl ⟨rfl, rfl⟩ (by first | exact Or.inl rfl | exact Or.inr ⟨rfl, rfl⟩) h4 (by omega) (fun (h5 : Fw (45) _) => ?_)
  refine y_s rfl rfl ?_
  refine y_s rfl rfl ?_
  refine y_s rfl rfl ?_
  refine y_mna (N := 6) (K := 100) rfl xcl22 h5 (by omega) rfl rfl rfl rfl rfl (by decide) (by decide) (fun (h6 : Fw (52) _) => ?_)
  have t4 := @xsh_l _ ((104, 6) :: List.replicate 6 (100, 100)) _ _ t3
  refine y_putF rfl t4 (by decide) rfl ⟨rfl, rfl⟩ (by first | exact Or.inl rfl | exact Or.inr ⟨rfl, rfl⟩) h6 (by omega) (fun (h7 : Fw (52) _) => ?_)
  refine y_s rfl rfl ?_
  refine y_s rfl rfl ?_
  refine y_s rfl rfl ?_
  refine y_mna (N := 6) (K := 100) rfl xcl22 h7 (by omega) rfl rfl rfl rfl rfl (by decide) (by decide) (fun (h8 : Fw (59) _) => ?_)
  have t5 := @xsh_l _ ((104, 6) :: List.replicate 6 (100, 100)) _ _ t4
  refine y_putF rfl t5 (by decide) rfl ⟨rfl, rfl⟩ (by first | exact Or.inl rfl | exact Or.inr ⟨rfl, rfl⟩) h8 (by omega) (fun (h9 : Fw (59) _) => ?_)
  refine y_s rfl rfl ?_
  refine y_s rfl rfl ?_
  refine y_s rfl rfl ?_
  refine y_mna (N := 6) (K := 10) rfl xcl22 h9 (by omega) rfl rfl rfl rfl rfl (by decide) (by decide) (fun (h10 : Fw (66) _) => ?_)
  have t6 := @xsh_l _ ((104, 6) :: List.replicate 6 (100, 10)) _ _ t5
  refine y_putF rfl t6 (by decide) rfl ⟨rfl, rfl⟩ (by first | exact Or.inl rfl | exact Or.inr ⟨rfl, rfl⟩) h10 (by omega) (fun (h11 : Fw (66) _) => ?_)
  refine y_s rfl rfl ?_
  refine y_s rfl rfl ?_
  refine y_newa (n := 100) (t := 100) rfl h11 (by omega) rfl rfl rfl rfl rfl (by decide) (by decide) (fun (h12 : Fw (67) _) => ?_)
  have t7 := @xsh_l _ [(100, 100)] _ _ t6
  refine y_putF rfl t7 (by decide) rfl ⟨rfl, rfl⟩ (by first | exact Or.inl rfl | exact Or.inr ⟨rfl, rfl⟩) h12 (by omega) (fun (h13 : Fw (67) _) => ?_)
  refine y_s rfl rfl ?_
  refine y_s rfl rfl ?_
  refine y_newa (n := 10) (t := 100) rfl h13 (by omega) rfl rfl rfl rfl rfl (by decide) (by decide) (fun (h14 : Fw (68) _) => ?_)
  have t8 := @xsh_l _ [(100, 10)] _ _ t7
  refine y_putF rfl t8 (by decide) rfl ⟨rfl, rfl⟩ (by first | exact Or.inl rfl | exact Or.inr ⟨rfl, rfl⟩) h14 (by omega) (fun (h15 : Fw (68) _) => ?_)
  refine y_s rfl rfl ?_
  refine y_s rfl rfl ?_
  refine y_anew (n := 6) rfl xcl39 h15 (by omega) rfl rfl rfl (by decide) (by decide) (fun (h16 : Fw (69) _) => ?_)
  have t9 := @xsh_l _ [(105, 6)] _ _ t8
  have ta := xsh_e (l' := []) (v := (105, 6)) h15.1
  refine y_putF rfl t9 (by decide) rfl ⟨rfl, rfl⟩ (by first | exact Or.inl rfl | exact Or.inr ⟨rfl, rfl⟩) h16 (by omega) (fun (h17 : Fw (69) _) => ?_)
  refine y_s rfl rfl ?_
  refine y_new (n := 3) rfl h17 (by omega) rfl rfl (by decide) (by decide) (fun (h18 : Fw (70) _) => ?_)
  have t10 := @xsh_l _ [(10, 3)] _ _ t9
  have t11 := @xsh_l _ [(10, 3)] _ _ ta
  have tw47 := xsh_e (l' := []) (v := (10, 3)) h17.1
  refine y_s rfl rfl ?_
  refine y_ci4 (i_X10 (b := 69) h18 tw47 (by omega)) rfl rfl (by decide) rfl rfl (Nat.le_of_ble_eq_true rfl) (by decide) (by decide) (by decide) ?_
  rintro v h' ⟨rfl, rfl, (h19 : Fw (70) _)⟩
  have t12 := lX10 t10
  have t13 := lX10 t11
  refine y_putF rfl t12 (by decide) rfl ⟨rfl, rfl⟩ (by first | exact Or.inl rfl | exact Or.inr ⟨rfl, rfl⟩) h19 (by omega) (fun (h20 : Fw (70) _) => ?_)
  refine y_s rfl rfl ?_
  refine y_s rfl rfl ?_
  refine y_newa (n := 6) (t := 100) rfl h20 (by omega) rfl rfl rfl rfl rfl (by decide) (by decide) (fun (h21 : Fw (71) _) => ?_)
  have t14 := @xsh_l _ [(100, 6)] _ _ t12
  have t15 := @xsh_l _ [(100, 6)] _ _ t13
  refine y_putF rfl t14 (by decide) rfl ⟨rfl, rfl⟩ (by first | exact Or.inl rfl | exact Or.inr ⟨rfl, rfl⟩) h21 (by omega) (fun (h22 : Fw (71) _) => ?_)
  refine y_s rfl rfl ?_
  refine y_s rfl rfl ?_
  refine (show ExG _ _ _ _ _ _ _ _ [some (.ref 23), some (.int (nI 0))] _ _ _ _ from ?_)
  have hr0 : (up2 (up2 (rX10 (up2 (up2 (up2 (up2 (rM (up2 (rM (up2 (rM (up2 (up2 (rX2 r 24) 23 0 (some 24)) 23 1 (some 44)) 45 6) 23 2 (some 45)) 52 6) 23 3 (some 52)) 59 6) 23 4 (some 59)) 23 5 (some 66)) 23 6 (some 67)) 23 7 (some 68)) 69) 23 8 (some 69)) 23 9 (some 70)) 23 7 = some 68 := rfl
  generalize hr9 : (up2 (up2 (rX10 (up2 (up2 (up2 (up2 (rM (up2 (rM (up2 (rM (up2 (up2 (rX2 r 24) 23 0 (some 24)) 23 1 (some 44)) 45 6) 23 2 (some 45)) 52 6) 23 3 (some 52)) 59 6) 23 4 (some 59)) 23 5 (some 66)) 23 6 (some 67)) 23 7 (some 68)) 69) 23 8 (some 69)) 23 9 (some 70)) = r0 at hr0 h22 ⊢
  refine w9 (i := 0) h22 (by omega) t15 t14 hr0 (by decide) (by decide) (by decide) (fun (h23 : Fw 72 _) => ?_)
  have hr1 := (congrFun (up2_ne (d := r0) (c := 68) (k := 0) (c' := 23) (v := some 71) (by decide)) 7).trans hr0
  have t16 := @xsh_l _ [(10, 3)] _ _ t14
  have t17 := @xsh_l _ [(10, 3)] _ _ t15
  refine w9 (i := 1) h23 (by omega) t17 t16 hr1 (by decide) (by decide) (by decide) (fun (h24 : Fw 73 _) => ?_)
  have hr2 := (congrFun (up2_ne (d := (up2 r0 68 0 (some 71))) (c := 68) (k := 1) (c' := 23) (v := some 72) (by decide)) 7).trans hr1
  have t18 := @xsh_l _ [(10, 3)] _ _ t16
  have t19 := @xsh_l _ [(10, 3)] _ _ t17
  refine w9 (i := 2) h24 (by omega) t19 t18 hr2 (by decide) (by decide) (by decide) (fun (h25 : Fw 74 _) => ?_)
  have hr3 := (congrFun (up2_ne (d := (up2 (up2 r0 68 0 (some 71)) 68 1 (some 72))) (c := 68) (k := 2) (c' := 23) (v := some 73) (by decide)) 7).trans hr2
  have t20 := @xsh_l _ [(10, 3)] _ _ t18
  have t21 := @xsh_l _ [(10, 3)] _ _ t19
  refine w9 (i := 3) h25 (by omega) t21 t20 hr3 (by decide) (by decide) (by decide) (fun (h26 : Fw 75 _) => ?_)
  have hr4 := (congrFun (up2_ne (d := (up2 (up2 (up2 r0 68 0 (some 71)) 68 1 (some 72)) 68 2 (some 73))) (c := 68) (k := 3) (c' := 23) (v := some 74) (by decide)) 7).trans hr3
  have t22 := @xsh_l _ [(10, 3)] _ _ t20
  have t23 := @xsh_l _ [(10, 3)] _ _ t21
  refine w9 (i := 4) h26 (by omega) t23 t22 hr4 (by decide) (by decide) (by decide) (fun (h27 : Fw 76 _) => ?_)
  have hr5 := (congrFun (up2_ne (d := (up2 (up2 (up2 (up2 r0 68 0 (some 71)) 68 1 (some 72)) 68 2 (some 73)) 68 3 (some 74))) (c := 68) (k := 4) (c' := 23) (v := some 75) (by decide)) 7).trans hr4
  have t24 := @xsh_l _ [(10, 3)] _ _ t22
  have t25 := @xsh_l _ [(10, 3)] _ _ t23
  refine w9 (i := 5) h27 (by omega) t25 t24 hr5 (by decide) (by decide) (by decide) (fun (h28 : Fw 77 _) => ?_)
  have hr6 := (congrFun (up2_ne (d := (up2 (up2 (up2 (up2 (up2 r0 68 0 (some 71)) 68 1 (some 72)) 68 2 (some 73)) 68 3 (some 74)) 68 4 (some 75))) (c := 68) (k := 5) (c' := 23) (v := some 76) (by decide)) 7).trans hr5
  have t26 := @xsh_l _ [(10, 3)] _ _ t24
  have t27 := @xsh_l _ [(10, 3)] _ _ t25
  refine y_s rfl rfl ?_
  refine y_s rfl rfl ?_
  refine y_br rfl rfl (fun _ => ?_) (fun c => absurd (by decide) c)
  subst hr9
  exact y_vret rfl rfl ⟨rfl, rfl, h28⟩
def sX11 (sh : List (Nat × Nat)) : List (Nat × Nat) := (((((sX8 ((sX0 ((sX3 ((sX7 ((sX8 ((sX0 ((sX1 ((sX9 ((sX5 (sh ++ [(5, 10)])) ++ [(9, 10)])) ++ [(1, 3)])) ++ [(0, 5)])) ++ [(8, 4)])) ++ [(7, 4)])) ++ [(3, 5)])) ++ [(0, 5)])) ++ [(8, 4)])) ++ [(100, 100)]) ++ [(100, 100)]) ++ [(100, 4)]) ++ [(103, 10)])
theorem lX11 {sh : List (Nat × Nat)} {k : Nat} {v : Nat × Nat} (h : xsh sh k = some v) : xsh (sX11 sh) k = some v := (@xsh_l _ [(103, 10)] _ _ (@xsh_l _ [(100, 4)] _ _ (@xsh_l _ [(100, 100)] _ _ (@xsh_l _ [(100, 100)] _ _ (lX8 (@xsh_l _ [(8, 4)] _ _ (lX0 (@xsh_l _ [(0, 5)] _ _ (lX3 (@xsh_l _ [(3, 5)] _ _ (lX7 (@xsh_l _ [(7, 4)] _ _ (lX8 (@xsh_l _ [(8, 4)] _ _ (lX0 (@xsh_l _ [(0, 5)] _ _ (lX1 (@xsh_l _ [(1, 3)] _ _ (lX9 (@xsh_l _ [(9, 10)] _ _ (lX5 (@xsh_l _ [(5, 10)] _ _ h))))))))))))))))))))))
def rX11 (r : xR) (b : Nat) : xR := (up2 (up2 (up2 (up2 (up2 (rX8 (up2 (rX0 (up2 (rX3 (up2 (rX7 (up2 (rX8 (up2 (rX0 (up2 (rX1 (up2 (rX9 (up2 (rX5 r 1) 0 0 (some 1)) 23) 0 1 (some 23)) 77) 0 2 (some 77)) 81) 0 3 (some 81)) 86) 0 4 (some 86)) 90) 0 5 (some 90)) 94) 0 6 (some 94)) 99) 0 7 (some 99)) 104) 0 8 (some 104)) 0 9 (some 108)) 0 10 (some 109)) 0 11 (some 110)) 0 12 (some 111))
def dX11 (d : Nat → Nat → Int32) : Nat → Nat → Int32 := (up2 d 0 14 (-1))
set_option maxRecDepth 100000 in
set_option maxHeartbeats 400000 in
theorem i_X11 {sh : List (Nat × Nat)} {d : Nat → Nat → Int32} {L : Nat → Nat → Int64} {r : xR} (h0 : Fw (1) (sh, d, L, r)) (hb : xsh sh 0 = some (11, 18)) (hm : 112 < 4000) : Cn mX11_init true 4 111 6064 [.ref 0] (sh, d, L, r) (fun v h' => v = none ∧ h' = (sX11 sh, dX11 d, L, rX11 r 0) ∧ Fw (112) h') := by
  refine Cn.intro gX11_init rfl (Nat.le_of_ble_eq_true rfl) rfl (Ex.ofG ?_)
  refine y_s rfl rfl ?_
  refine y_obj rfl (by decide) (by decide) ?_
  refine y_s rfl rfl ?_
  refine y_new (n := 10) rfl h0 (by omega) rfl rfl (by decide) (by decide) (fun (h1 : Fw (2) _) => ?_)
  have t1 := @xsh_l _ [(5, 10)] _ _ hb
  have tw2 := xsh_e (l' := []) (v := (5, 10)) h0.1
  refine y_s rfl rfl ?_
  refine y_ci4 (i_X5 (b := 1) h1 tw2 (by omega)) rfl rfl (by decide) rfl rfl (Nat.le_of_ble_eq_true rfl) (by decide) (by decide) (by decide) ?_
  rintro v h' ⟨rfl, rfl, (h2 : Fw (23) _)⟩
  have t2 := lX5 t1
  refine y_putF rfl t2 (by decide) rfl ⟨rfl, rfl⟩ (by first | exact Or.inl rfl | exact Or.inr ⟨rfl, rfl⟩) h2 (by omega) (fun (h3 : Fw (23) _) => ?_)
  refine y_s rfl rfl ?_
  refine y_new (n := 10) rfl h3 (by omega) rfl rfl (by decide) (by decide) (fun (h4 : Fw (24) _) => ?_)
  have t3 := @xsh_l _ [(9, 10)] _ _ t2
  have tw24 := xsh_e (l' := []) (v := (9, 10)) h3.1
  refine y_s rfl rfl ?_
  refine y_ci2 (i_X9 h4 tw24 (by omega)) rfl rfl (by decide) rfl rfl (Nat.le_of_ble_eq_true rfl) (by decide) (by decide) (by decide) ?_
  rintro v h' ⟨rfl, rfl, (h5 : Fw (77) _)⟩
  have t4 := lX9 t3
  refine y_putF rfl t4 (by decide) rfl ⟨rfl, rfl⟩ (by first | exact Or.inl rfl | exact Or.inr ⟨rfl, rfl⟩) h5 (by omega) (fun (h6 : Fw (77) _) => ?_)
  refine y_s rfl rfl ?_
  refine y_new (n := 3) rfl h6 (by omega) rfl rfl (by decide) (by decide) (fun (h7 : Fw (78) _) => ?_)
  have t5 := @xsh_l _ [(1, 3)] _ _ t4
  have tw78 := xsh_e (l' := []) (v := (1, 3)) h6.1
  refine y_s rfl rfl ?_
  refine y_ci4 (i_X1 (b := 77) h7 tw78 (by omega)) rfl rfl (by decide) rfl rfl (Nat.le_of_ble_eq_true rfl) (by decide) (by decide) (by decide) ?_
  rintro v h' ⟨rfl, rfl, (h8 : Fw (81) _)⟩
  have t6 := lX1 t5
  refine y_putF rfl t6 (by decide) rfl ⟨rfl, rfl⟩ (by first | exact Or.inl rfl | exact Or.inr ⟨rfl, rfl⟩) h8 (by omega) (fun (h9 : Fw (81) _) => ?_)
  refine y_s rfl rfl ?_
  refine y_new (n := 5) rfl h9 (by omega) rfl rfl (by decide) (by decide) (fun (h10 : Fw (82) _) => ?_)
  have t7 := @xsh_l _ [(0, 5)] _ _ t6
  have tw82 := xsh_e (l' := []) (v := (0, 5)) h9.1
  refine y_s rfl rfl ?_
  refine y_ci4 (i_X0 (b := 81) h10 tw82 (by omega)) rfl rfl (by decide) rfl rfl (Nat.le_of_ble_eq_true rfl) (by decide) (by decide) (by decide) ?_
  rintro v h' ⟨rfl, rfl, (h11 : Fw (86) _)⟩
  have t8 := lX0 t7
  refine y_putF rfl t8 (by decide) rfl ⟨rfl, rfl⟩ (by first | exact Or.inl rfl | exact Or.inr ⟨rfl, rfl⟩) h11 (by omega) (fun (h12 : Fw (86) _) => ?_)
  refine y_s rfl rfl ?_
  refine y_new (n := 4) rfl h12 (by omega) rfl rfl (by decide) (by decide) (fun (h13 : Fw (87) _) => ?_)
  have t9 := @xsh_l _ [(8, 4)] _ _ t8
  have tw87 := xsh_e (l' := []) (v := (8, 4)) h12.1
  refine y_s rfl rfl ?_
  refine y_ci4 (i_X8 (b := 86) h13 tw87 (by omega)) rfl rfl (by decide) rfl rfl (Nat.le_of_ble_eq_true rfl) (by decide) (by decide) (by decide) ?_
  rintro v h' ⟨rfl, rfl, (h14 : Fw (90) _)⟩
  have t10 := lX8 t9
  refine y_putF rfl t10 (by decide) rfl ⟨rfl, rfl⟩ (by first | exact Or.inl rfl | exact Or.inr ⟨rfl, rfl⟩) h14 (by omega) (fun (h15 : Fw (90) _) => ?_)
  refine y_s rfl rfl ?_
  refine y_new (n := 4) rfl h15 (by omega) rfl rfl (by decide) (by decide) (fun (h16 : Fw (91) _) => ?_)
  have t11 := @xsh_l _ [(7, 4)] _ _ t10
  have tw91 := xsh_e (l' := []) (v := (7, 4)) h15.1
  refine y_s rfl rfl ?_
  refine y_ci4 (i_X7 (b := 90) h16 tw91 (by omega)) rfl rfl (by decide) rfl rfl (Nat.le_of_ble_eq_true rfl) (by decide) (by decide) (by decide) ?_
  rintro v h' ⟨rfl, rfl, (h17 : Fw (94) _)⟩
  have t12 := lX7 t11
  refine y_putF rfl t12 (by decide) rfl ⟨rfl, rfl⟩ (by first | exact Or.inl rfl | exact Or.inr ⟨rfl, rfl⟩) h17 (by omega) (fun (h18 : Fw (94) _) => ?_)
  refine y_s rfl rfl ?_
  refine y_new (n := 5) rfl h18 (by omega) rfl rfl (by decide) (by decide) (fun (h19 : Fw (95) _) => ?_)
  have t13 := @xsh_l _ [(3, 5)] _ _ t12
  have tw95 := xsh_e (l' := []) (v := (3, 5)) h18.1
  refine y_s rfl rfl ?_
  refine y_ci4 (i_X3 (b := 94) h19 tw95 (by omega)) rfl rfl (by decide) rfl rfl (Nat.le_of_ble_eq_true rfl) (by decide) (by decide) (by decide) ?_
  rintro v h' ⟨rfl, rfl, (h20 : Fw (99) _)⟩
  have t14 := lX3 t13
  refine y_putF rfl t14 (by decide) rfl ⟨rfl, rfl⟩ (by first | exact Or.inl rfl | exact Or.inr ⟨rfl, rfl⟩) h20 (by omega) (fun (h21 : Fw (99) _) => ?_)
  refine y_s rfl rfl ?_
  refine y_new (n := 5) rfl h21 (by omega) rfl rfl (by decide) (by decide) (fun (h22 : Fw (100) _) => ?_)
  have t15 := @xsh_l _ [(0, 5)] _ _ t14
  have tw100 := xsh_e (l' := []) (v := (0, 5)) h21.1
  refine y_s rfl rfl ?_
  refine y_ci4 (i_X0 (b := 99) h22 tw100 (by omega)) rfl rfl (by decide) rfl rfl (Nat.le_of_ble_eq_true rfl) (by decide) (by decide) (by decide) ?_
  rintro v h' ⟨rfl, rfl, (h23 : Fw (104) _)⟩
  have t16 := lX0 t15
  refine y_putF rfl t16 (by decide) rfl ⟨rfl, rfl⟩ (by first | exact Or.inl rfl | exact Or.inr ⟨rfl, rfl⟩) h23 (by omega) (fun (h24 : Fw (104) _) => ?_)
  refine y_s rfl rfl ?_
  refine y_new (n := 4) rfl h24 (by omega) rfl rfl (by decide) (by decide) (fun (h25 : Fw (105) _) => ?_)
  have t17 := @xsh_l _ [(8, 4)] _ _ t16
  have tw105 := xsh_e (l' := []) (v := (8, 4)) h24.1
  refine y_s rfl rfl ?_
  refine y_ci4 (i_X8 (b := 104) h25 tw105 (by omega)) rfl rfl (by decide) rfl rfl (Nat.le_of_ble_eq_true rfl) (by decide) (by decide) (by decide) ?_
  rintro v h' ⟨rfl, rfl, (h26 : Fw (108) _)⟩
  have t18 := lX8 t17
  refine y_putF rfl t18 (by decide) rfl ⟨rfl, rfl⟩ (by first | exact Or.inl rfl | exact Or.inr ⟨rfl, rfl⟩) h26 (by omega) (fun (h27 : Fw (108) _) => ?_)
  refine y_s rfl rfl ?_
  refine y_s rfl rfl ?_
  refine y_newa (n := 100) (t := 100) rfl h27 (by omega) rfl rfl rfl rfl rfl (by decide) (by decide) (fun (h28 : Fw (109) _) => ?_)
  have t19 := @xsh_l _ [(100, 100)] _ _ t18
  refine y_putF rfl t19 (by decide) rfl ⟨rfl, rfl⟩ (by first | exact Or.inl rfl | exact Or.inr ⟨rfl, rfl⟩) h28 (by omega) (fun (h29 : Fw (109) _) => ?_)
  refine y_s rfl rfl ?_
  refine y_s rfl rfl ?_
  refine y_newa (n := 100) (t := 100) rfl h29 (by omega) rfl rfl rfl rfl rfl (by decide) (by decide) (fun (h30 : Fw (110) _) => ?_)
  have t20 := @xsh_l _ [(100, 100)] _ _ t19
  refine y_putF rfl t20 (by decide) rfl ⟨rfl, rfl⟩ (by first | exact Or.inl rfl | exact Or.inr ⟨rfl, rfl⟩) h30 (by omega) (fun (h31 : Fw (110) _) => ?_)
  refine y_s rfl rfl ?_
  refine y_s rfl rfl ?_
  refine y_newa (n := 4) (t := 100) rfl h31 (by omega) rfl rfl rfl rfl rfl (by decide) (by decide) (fun (h32 : Fw (111) _) => ?_)
  have t21 := @xsh_l _ [(100, 4)] _ _ t20
  refine y_putF rfl t21 (by decide) rfl ⟨rfl, rfl⟩ (by first | exact Or.inl rfl | exact Or.inr ⟨rfl, rfl⟩) h32 (by omega) (fun (h33 : Fw (111) _) => ?_)
  refine y_s rfl rfl ?_
  refine y_s rfl rfl ?_
  refine y_newa (n := 10) (t := 103) rfl h33 (by omega) rfl rfl rfl rfl rfl (by decide) (by decide) (fun (h34 : Fw (112) _) => ?_)
  have t22 := @xsh_l _ [(103, 10)] _ _ t21
  refine y_putF rfl t22 (by decide) rfl ⟨rfl, rfl⟩ (by first | exact Or.inl rfl | exact Or.inr ⟨rfl, rfl⟩) h34 (by omega) (fun (h35 : Fw (112) _) => ?_)
  refine y_s rfl rfl ?_
  refine y_s rfl rfl ?_
  refine y_putF rfl t22 (by decide) rfl ⟨rfl, rfl⟩ (by first | exact Or.inl rfl | exact Or.inr ⟨rfl, rfl⟩) h35 (by omega) (fun (h36 : Fw (112) _) => ?_)
  exact y_vret rfl rfl ⟨rfl, rfl, h36⟩
def sX12 (sh : List (Nat × Nat)) : List (Nat × Nat) := ((((((((((((((((((((((((((((((((sh ++ [(100, 11)]) ++ [(100, 11)]) ++ [(100, 11)]) ++ [(100, 7)]) ++ [(100, 1400)]) ++ [(100, 700)]) ++ [(100, 3)]) ++ [(100, 10)]) ++ [(100, 10)]) ++ [(100, 10)]) ++ [(100, 6)]) ++ [(100, 67)]) ++ [(100, 1400)]) ++ [(100, 950)]) ++ [(102, 9)]) ++ [(100, 67)]) ++ [(100, 2680)]) ++ [(100, 9)]) ++ [(100, 950)]) ++ [(100, 120)]) ++ [(100, 120)]) ++ [(100, 120)]) ++ [(100, 7)]) ++ [(100, 7)]) ++ [(100, 7)]) ++ [(100, 7)]) ++ [(100, 6)]) ++ [(100, 70)]) ++ [(100, 24)]) ++ [(100, 67)]) ++ [(100, 2680)]) ++ [(100, 24)])
theorem lX12 {sh : List (Nat × Nat)} {k : Nat} {v : Nat × Nat} (h : xsh sh k = some v) : xsh (sX12 sh) k = some v := (@xsh_l _ [(100, 24)] _ _ (@xsh_l _ [(100, 2680)] _ _ (@xsh_l _ [(100, 67)] _ _ (@xsh_l _ [(100, 24)] _ _ (@xsh_l _ [(100, 70)] _ _ (@xsh_l _ [(100, 6)] _ _ (@xsh_l _ [(100, 7)] _ _ (@xsh_l _ [(100, 7)] _ _ (@xsh_l _ [(100, 7)] _ _ (@xsh_l _ [(100, 7)] _ _ (@xsh_l _ [(100, 120)] _ _ (@xsh_l _ [(100, 120)] _ _ (@xsh_l _ [(100, 120)] _ _ (@xsh_l _ [(100, 950)] _ _ (@xsh_l _ [(100, 9)] _ _ (@xsh_l _ [(100, 2680)] _ _ (@xsh_l _ [(100, 67)] _ _ (@xsh_l _ [(102, 9)] _ _ (@xsh_l _ [(100, 950)] _ _ (@xsh_l _ [(100, 1400)] _ _ (@xsh_l _ [(100, 67)] _ _ (@xsh_l _ [(100, 6)] _ _ (@xsh_l _ [(100, 10)] _ _ (@xsh_l _ [(100, 10)] _ _ (@xsh_l _ [(100, 10)] _ _ (@xsh_l _ [(100, 3)] _ _ (@xsh_l _ [(100, 700)] _ _ (@xsh_l _ [(100, 1400)] _ _ (@xsh_l _ [(100, 7)] _ _ (@xsh_l _ [(100, 11)] _ _ (@xsh_l _ [(100, 11)] _ _ (@xsh_l _ [(100, 11)] _ _ h))))))))))))))))))))))))))))))))
def rX12 (r : xR) (b : Nat) : xR := (up2 (up2 (up2 (up2 (up2 (up2 (up2 (up2 (up2 (up2 (up2 (up2 (up2 (up2 (up2 (up2 (up2 (up2 (up2 (up2 (up2 (up2 (up2 (up2 (up2 (up2 (up2 (up2 (up2 (up2 (up2 (up2 r 112 5 (some 113)) 112 6 (some 114)) 112 7 (some 115)) 112 8 (some 116)) 112 9 (some 117)) 112 10 (some 118)) 112 14 (some 119)) 112 33 (some 120)) 112 34 (some 121)) 112 35 (some 122)) 112 36 (some 123)) 112 37 (some 124)) 112 38 (some 125)) 112 39 (some 126)) 112 40 (some 127)) 112 41 (some 128)) 112 42 (some 129)) 112 44 (some 130)) 112 45 (some 131)) 112 47 (some 132)) 112 48 (some 133)) 112 49 (some 134)) 112 50 (some 135)) 112 51 (some 136)) 112 52 (some 137)) 112 53 (some 138)) 112 54 (some 139)) 112 55 (some 140)) 112 57 (some 141)) 112 62 (some 142)) 112 63 (some 143)) 112 64 (some 144))
def dX12 (d : Nat → Nat → Int32) : Nat → Nat → Int32 := (up2 (up2 (up2 (up2 d 112 3 (-1)) 112 4 (-1)) 112 13 (-1)) 116 6 60)
set_option maxRecDepth 100000 in
set_option maxHeartbeats 400000 in
theorem i_X12 {sh : List (Nat × Nat)} {d : Nat → Nat → Int32} {L : Nat → Nat → Int64} {r : xR} (h0 : Fw (113) (sh, d, L, r)) (hb : xsh sh 112 = some (12, 65)) (hm : 145 < 4000) : Cn mX12_init true 1 32 11570 [.ref 112] (sh, d, L, r) (fun v h' => v = none ∧ h' = (sX12 sh, dX12 d, L, rX12 r 112) ∧ Fw (145) h') := by
  refine Cn.intro gX12_init rfl (Nat.le_of_ble_eq_true rfl) rfl (Ex.ofG ?_)
  refine y_s rfl rfl ?_
  refine y_obj rfl (by decide) (by decide) ?_
  refine y_s rfl rfl ?_
  refine y_s rfl rfl ?_
  refine y_putF rfl hb (by decide) rfl ⟨rfl, rfl⟩ (by first | exact Or.inl rfl | exact Or.inr ⟨rfl, rfl⟩) h0 (by omega) (fun (h1 : Fw (113) _) => ?_)
  refine y_s rfl rfl ?_
  refine y_s rfl rfl ?_
  refine y_putF rfl hb (by decide) rfl ⟨rfl, rfl⟩ (by first | exact Or.inl rfl | exact Or.inr ⟨rfl, rfl⟩) h1 (by omega) (fun (h2 : Fw (113) _) => ?_)
  refine y_s rfl rfl ?_
  refine y_s rfl rfl ?_
  refine y_newa (n := 11) (t := 100) rfl h2 (by omega) rfl rfl rfl rfl rfl (by decide) (by decide) (fun (h3 : Fw (114) _) => ?_)
  have t1 := @xsh_l _ [(100, 11)] _ _ hb
  refine y_putF rfl t1 (by decide) rfl ⟨rfl, rfl⟩ (by first | exact Or.inl rfl | exact Or.inr ⟨rfl, rfl⟩) h3 (by omega) (fun (h4 : Fw (114) _) => ?_)
  refine y_s rfl rfl ?_
  refine y_s rfl rfl ?_
  refine y_newa (n := 11) (t := 100) rfl h4 (by omega) rfl rfl rfl rfl rfl (by decide) (by decide) (fun (h5 : Fw (115) _) => ?_)
  have t2 := @xsh_l _ [(100, 11)] _ _ t1
  refine y_putF rfl t2 (by decide) rfl ⟨rfl, rfl⟩ (by first | exact Or.inl rfl | exact Or.inr ⟨rfl, rfl⟩) h5 (by omega) (fun (h6 : Fw (115) _) => ?_)
  refine y_s rfl rfl ?_
  refine y_s rfl rfl ?_
  refine y_newa (n := 11) (t := 100) rfl h6 (by omega) rfl rfl rfl rfl rfl (by decide) (by decide) (fun (h7 : Fw (116) _) => ?_)
  have t3 := @xsh_l _ [(100, 11)] _ _ t2
  refine y_putF rfl t3 (by decide) rfl ⟨rfl, rfl⟩ (by first | exact Or.inl rfl | exact Or.inr ⟨rfl, rfl⟩) h7 (by omega) (fun (h8 : Fw (116) _) => ?_)
  refine y_s rfl rfl ?_
  refine y_s rfl rfl ?_
  refine y_newa (n := 7) (t := 100) rfl h8 (by omega) rfl rfl rfl rfl rfl (by decide) (by decide) (fun (h9 : Fw (117) _) => ?_)
  have t4 := @xsh_l _ [(100, 7)] _ _ t3
  have ta := xsh_e (l' := []) (v := (100, 7)) h8.1
  refine y_putF rfl t4 (by decide) rfl ⟨rfl, rfl⟩ (by first | exact Or.inl rfl | exact Or.inr ⟨rfl, rfl⟩) h9 (by omega) (fun (h10 : Fw (117) _) => ?_)
  refine y_s rfl rfl ?_
  refine y_s rfl rfl ?_
  refine y_newa (n := 1400) (t := 100) rfl h10 (by omega) rfl rfl rfl rfl rfl (by decide) (by decide) (fun (h11 : Fw (118) _) => ?_)
  have t5 := @xsh_l _ [(100, 1400)] _ _ t4
  have t6 := @xsh_l _ [(100, 1400)] _ _ ta
  refine y_putF rfl t5 (by decide) rfl ⟨rfl, rfl⟩ (by first | exact Or.inl rfl | exact Or.inr ⟨rfl, rfl⟩) h11 (by omega) (fun (h12 : Fw (118) _) => ?_)
  refine y_s rfl rfl ?_
  refine y_s rfl rfl ?_
  refine y_newa (n := 700) (t := 100) rfl h12 (by omega) rfl rfl rfl rfl rfl (by decide) (by decide) (fun (h13 : Fw (119) _) => ?_)
  have t7 := @xsh_l _ [(100, 700)] _ _ t5
  have t8 := @xsh_l _ [(100, 700)] _ _ t6
  refine y_putF rfl t7 (by decide) rfl ⟨rfl, rfl⟩ (by first | exact Or.inl rfl | exact Or.inr ⟨rfl, rfl⟩) h13 (by omega) (fun (h14 : Fw (119) _) => ?_)
  refine y_s rfl rfl ?_
  refine y_s rfl rfl ?_
  refine y_putF rfl t7 (by decide) rfl ⟨rfl, rfl⟩ (by first | exact Or.inl rfl | exact Or.inr ⟨rfl, rfl⟩) h14 (by omega) (fun (h15 : Fw (119) _) => ?_)
  refine y_s rfl rfl ?_
  refine y_s rfl rfl ?_
  refine y_newa (n := 3) (t := 100) rfl h15 (by omega) rfl rfl rfl rfl rfl (by decide) (by decide) (fun (h16 : Fw (120) _) => ?_)
  have t9 := @xsh_l _ [(100, 3)] _ _ t7
  have t10 := @xsh_l _ [(100, 3)] _ _ t8
  refine y_putF rfl t9 (by decide) rfl ⟨rfl, rfl⟩ (by first | exact Or.inl rfl | exact Or.inr ⟨rfl, rfl⟩) h16 (by omega) (fun (h17 : Fw (120) _) => ?_)
  refine y_s rfl rfl ?_
  refine y_s rfl rfl ?_
  refine y_newa (n := 10) (t := 100) rfl h17 (by omega) rfl rfl rfl rfl rfl (by decide) (by decide) (fun (h18 : Fw (121) _) => ?_)
  have t11 := @xsh_l _ [(100, 10)] _ _ t9
  have t12 := @xsh_l _ [(100, 10)] _ _ t10
  refine y_putF rfl t11 (by decide) rfl ⟨rfl, rfl⟩ (by first | exact Or.inl rfl | exact Or.inr ⟨rfl, rfl⟩) h18 (by omega) (fun (h19 : Fw (121) _) => ?_)
  refine y_s rfl rfl ?_
  refine y_s rfl rfl ?_
  refine y_newa (n := 10) (t := 100) rfl h19 (by omega) rfl rfl rfl rfl rfl (by decide) (by decide) (fun (h20 : Fw (122) _) => ?_)
  have t13 := @xsh_l _ [(100, 10)] _ _ t11
  have t14 := @xsh_l _ [(100, 10)] _ _ t12
  refine y_putF rfl t13 (by decide) rfl ⟨rfl, rfl⟩ (by first | exact Or.inl rfl | exact Or.inr ⟨rfl, rfl⟩) h20 (by omega) (fun (h21 : Fw (122) _) => ?_)
  refine y_s rfl rfl ?_
  refine y_s rfl rfl ?_
  refine y_newa (n := 10) (t := 100) rfl h21 (by omega) rfl rfl rfl rfl rfl (by decide) (by decide) (fun (h22 : Fw (123) _) => ?_)
  have t15 := @xsh_l _ [(100, 10)] _ _ t13
  have t16 := @xsh_l _ [(100, 10)] _ _ t14
  refine y_putF rfl t15 (by decide) rfl ⟨rfl, rfl⟩ (by first | exact Or.inl rfl | exact Or.inr ⟨rfl, rfl⟩) h22 (by omega) (fun (h23 : Fw (123) _) => ?_)
  refine y_s rfl rfl ?_
  refine y_s rfl rfl ?_
  refine y_newa (n := 6) (t := 100) rfl h23 (by omega) rfl rfl rfl rfl rfl (by decide) (by decide) (fun (h24 : Fw (124) _) => ?_)
  have t17 := @xsh_l _ [(100, 6)] _ _ t15
  have t18 := @xsh_l _ [(100, 6)] _ _ t16
  refine y_putF rfl t17 (by decide) rfl ⟨rfl, rfl⟩ (by first | exact Or.inl rfl | exact Or.inr ⟨rfl, rfl⟩) h24 (by omega) (fun (h25 : Fw (124) _) => ?_)
  refine y_s rfl rfl ?_
  refine y_s rfl rfl ?_
  refine y_newa (n := 67) (t := 100) rfl h25 (by omega) rfl rfl rfl rfl rfl (by decide) (by decide) (fun (h26 : Fw (125) _) => ?_)
  have t19 := @xsh_l _ [(100, 67)] _ _ t17
  have t20 := @xsh_l _ [(100, 67)] _ _ t18
  refine y_putF rfl t19 (by decide) rfl ⟨rfl, rfl⟩ (by first | exact Or.inl rfl | exact Or.inr ⟨rfl, rfl⟩) h26 (by omega) (fun (h27 : Fw (125) _) => ?_)
  refine y_s rfl rfl ?_
  refine y_s rfl rfl ?_
  refine y_newa (n := 1400) (t := 100) rfl h27 (by omega) rfl rfl rfl rfl rfl (by decide) (by decide) (fun (h28 : Fw (126) _) => ?_)
  have t21 := @xsh_l _ [(100, 1400)] _ _ t19
  have t22 := @xsh_l _ [(100, 1400)] _ _ t20
  refine y_putF rfl t21 (by decide) rfl ⟨rfl, rfl⟩ (by first | exact Or.inl rfl | exact Or.inr ⟨rfl, rfl⟩) h28 (by omega) (fun (h29 : Fw (126) _) => ?_)
  refine y_s rfl rfl ?_
  refine y_s rfl rfl ?_
  refine y_newa (n := 950) (t := 100) rfl h29 (by omega) rfl rfl rfl rfl rfl (by decide) (by decide) (fun (h30 : Fw (127) _) => ?_)
  have t23 := @xsh_l _ [(100, 950)] _ _ t21
  have t24 := @xsh_l _ [(100, 950)] _ _ t22
  refine y_putF rfl t23 (by decide) rfl ⟨rfl, rfl⟩ (by first | exact Or.inl rfl | exact Or.inr ⟨rfl, rfl⟩) h30 (by omega) (fun (h31 : Fw (127) _) => ?_)
  refine y_s rfl rfl ?_
  refine y_s rfl rfl ?_
  refine y_newa (n := 9) (t := 102) rfl h31 (by omega) rfl rfl rfl rfl rfl (by decide) (by decide) (fun (h32 : Fw (128) _) => ?_)
  have t25 := @xsh_l _ [(102, 9)] _ _ t23
  have t26 := @xsh_l _ [(102, 9)] _ _ t24
  refine y_putF rfl t25 (by decide) rfl ⟨rfl, rfl⟩ (by first | exact Or.inl rfl | exact Or.inr ⟨rfl, rfl⟩) h32 (by omega) (fun (h33 : Fw (128) _) => ?_)
  refine y_s rfl rfl ?_
  refine y_s rfl rfl ?_
  refine y_newa (n := 67) (t := 100) rfl h33 (by omega) rfl rfl rfl rfl rfl (by decide) (by decide) (fun (h34 : Fw (129) _) => ?_)
  have t27 := @xsh_l _ [(100, 67)] _ _ t25
  have t28 := @xsh_l _ [(100, 67)] _ _ t26
  refine y_putF rfl t27 (by decide) rfl ⟨rfl, rfl⟩ (by first | exact Or.inl rfl | exact Or.inr ⟨rfl, rfl⟩) h34 (by omega) (fun (h35 : Fw (129) _) => ?_)
  refine y_s rfl rfl ?_
  refine y_s rfl rfl ?_
  refine y_newa (n := 2680) (t := 100) rfl h35 (by omega) rfl rfl rfl rfl rfl (by decide) (by decide) (fun (h36 : Fw (130) _) => ?_)
  have t29 := @xsh_l _ [(100, 2680)] _ _ t27
  have t30 := @xsh_l _ [(100, 2680)] _ _ t28
  refine y_putF rfl t29 (by decide) rfl ⟨rfl, rfl⟩ (by first | exact Or.inl rfl | exact Or.inr ⟨rfl, rfl⟩) h36 (by omega) (fun (h37 : Fw (130) _) => ?_)
  refine y_s rfl rfl ?_
  refine y_s rfl rfl ?_
  refine y_newa (n := 9) (t := 100) rfl h37 (by omega) rfl rfl rfl rfl rfl (by decide) (by decide) (fun (h38 : Fw (131) _) => ?_)
  have t31 := @xsh_l _ [(100, 9)] _ _ t29
  have t32 := @xsh_l _ [(100, 9)] _ _ t30
  refine y_putF rfl t31 (by decide) rfl ⟨rfl, rfl⟩ (by first | exact Or.inl rfl | exact Or.inr ⟨rfl, rfl⟩) h38 (by omega) (fun (h39 : Fw (131) _) => ?_)
  refine y_s rfl rfl ?_
  refine y_s rfl rfl ?_
  refine y_newa (n := 950) (t := 100) rfl h39 (by omega) rfl rfl rfl rfl rfl (by decide) (by decide) (fun (h40 : Fw (132) _) => ?_)
  have t33 := @xsh_l _ [(100, 950)] _ _ t31
  have t34 := @xsh_l _ [(100, 950)] _ _ t32
  refine y_putF rfl t33 (by decide) rfl ⟨rfl, rfl⟩ (by first | exact Or.inl rfl | exact Or.inr ⟨rfl, rfl⟩) h40 (by omega) (fun (h41 : Fw (132) _) => ?_)
  refine y_s rfl rfl ?_
  refine y_s rfl rfl ?_
  refine y_newa (n := 120) (t := 100) rfl h41 (by omega) rfl rfl rfl rfl rfl (by decide) (by decide) (fun (h42 : Fw (133) _) => ?_)
  have t35 := @xsh_l _ [(100, 120)] _ _ t33
  have t36 := @xsh_l _ [(100, 120)] _ _ t34
  refine y_putF rfl t35 (by decide) rfl ⟨rfl, rfl⟩ (by first | exact Or.inl rfl | exact Or.inr ⟨rfl, rfl⟩) h42 (by omega) (fun (h43 : Fw (133) _) => ?_)
  refine y_s rfl rfl ?_
  refine y_s rfl rfl ?_
  refine y_newa (n := 120) (t := 100) rfl h43 (by omega) rfl rfl rfl rfl rfl (by decide) (by decide) (fun (h44 : Fw (134) _) => ?_)
  have t37 := @xsh_l _ [(100, 120)] _ _ t35
  have t38 := @xsh_l _ [(100, 120)] _ _ t36
  refine y_putF rfl t37 (by decide) rfl ⟨rfl, rfl⟩ (by first | exact Or.inl rfl | exact Or.inr ⟨rfl, rfl⟩) h44 (by omega) (fun (h45 : Fw (134) _) => ?_)
  refine y_s rfl rfl ?_
  refine y_s rfl rfl ?_
  refine y_newa (n := 120) (t := 100) rfl h45 (by omega) rfl rfl rfl rfl rfl (by decide) (by decide) (fun (h46 : Fw (135) _) => ?_)
  have t39 := @xsh_l _ [(100, 120)] _ _ t37
  have t40 := @xsh_l _ [(100, 120)] _ _ t38
  refine y_putF rfl t39 (by decide) rfl ⟨rfl, rfl⟩ (by first | exact Or.inl rfl | exact Or.inr ⟨rfl, rfl⟩) h46 (by omega) (fun (h47 : Fw (135) _) => ?_)
  refine y_s rfl rfl ?_
  refine y_s rfl rfl ?_
  refine y_newa (n := 7) (t := 100) rfl h47 (by omega) rfl rfl rfl rfl rfl (by decide) (by decide) (fun (h48 : Fw (136) _) => ?_)
  have t41 := @xsh_l _ [(100, 7)] _ _ t39
  have t42 := @xsh_l _ [(100, 7)] _ _ t40
  refine y_putF rfl t41 (by decide) rfl ⟨rfl, rfl⟩ (by first | exact Or.inl rfl | exact Or.inr ⟨rfl, rfl⟩) h48 (by omega) (fun (h49 : Fw (136) _) => ?_)
  refine y_s rfl rfl ?_
  refine y_s rfl rfl ?_
  refine y_newa (n := 7) (t := 100) rfl h49 (by omega) rfl rfl rfl rfl rfl (by decide) (by decide) (fun (h50 : Fw (137) _) => ?_)
  have t43 := @xsh_l _ [(100, 7)] _ _ t41
  have t44 := @xsh_l _ [(100, 7)] _ _ t42
  refine y_putF rfl t43 (by decide) rfl ⟨rfl, rfl⟩ (by first | exact Or.inl rfl | exact Or.inr ⟨rfl, rfl⟩) h50 (by omega) (fun (h51 : Fw (137) _) => ?_)
  refine y_s rfl rfl ?_
  refine y_s rfl rfl ?_
  refine y_newa (n := 7) (t := 100) rfl h51 (by omega) rfl rfl rfl rfl rfl (by decide) (by decide) (fun (h52 : Fw (138) _) => ?_)
  have t45 := @xsh_l _ [(100, 7)] _ _ t43
  have t46 := @xsh_l _ [(100, 7)] _ _ t44
  refine y_putF rfl t45 (by decide) rfl ⟨rfl, rfl⟩ (by first | exact Or.inl rfl | exact Or.inr ⟨rfl, rfl⟩) h52 (by omega) (fun (h53 : Fw (138) _) => ?_)
  refine y_s rfl rfl ?_
  refine y_s rfl rfl ?_
  refine y_newa (n := 7) (t := 100) rfl h53 (by omega) rfl rfl rfl rfl rfl (by decide) (by decide) (fun (h54 : Fw (139) _) => ?_)
  have t47 := @xsh_l _ [(100, 7)] _ _ t45
  have t48 := @xsh_l _ [(100, 7)] _ _ t46
  refine y_putF rfl t47 (by decide) rfl ⟨rfl, rfl⟩ (by first | exact Or.inl rfl | exact Or.inr ⟨rfl, rfl⟩) h54 (by omega) (fun (h55 : Fw (139) _) => ?_)
  refine y_s rfl rfl ?_
  refine y_s rfl rfl ?_
  refine y_newa (n := 6) (t := 100) rfl h55 (by omega) rfl rfl rfl rfl rfl (by decide) (by decide) (fun (h56 : Fw (140) _) => ?_)
  have t49 := @xsh_l _ [(100, 6)] _ _ t47
  have t50 := @xsh_l _ [(100, 6)] _ _ t48
  refine y_putF rfl t49 (by decide) rfl ⟨rfl, rfl⟩ (by first | exact Or.inl rfl | exact Or.inr ⟨rfl, rfl⟩) h56 (by omega) (fun (h57 : Fw (140) _) => ?_)
  refine y_s rfl rfl ?_
  refine y_s rfl rfl ?_
  refine y_newa (n := 70) (t := 100) rfl h57 (by omega) rfl rfl rfl rfl rfl (by decide) (by decide) (fun (h58 : Fw (141) _) => ?_)
  have t51 := @xsh_l _ [(100, 70)] _ _ t49
  have t52 := @xsh_l _ [(100, 70)] _ _ t50
  refine y_putF rfl t51 (by decide) rfl ⟨rfl, rfl⟩ (by first | exact Or.inl rfl | exact Or.inr ⟨rfl, rfl⟩) h58 (by omega) (fun (h59 : Fw (141) _) => ?_)
  refine y_s rfl rfl ?_
  refine y_s rfl rfl ?_
  refine y_newa (n := 24) (t := 100) rfl h59 (by omega) rfl rfl rfl rfl rfl (by decide) (by decide) (fun (h60 : Fw (142) _) => ?_)
  have t53 := @xsh_l _ [(100, 24)] _ _ t51
  have t54 := @xsh_l _ [(100, 24)] _ _ t52
  refine y_putF rfl t53 (by decide) rfl ⟨rfl, rfl⟩ (by first | exact Or.inl rfl | exact Or.inr ⟨rfl, rfl⟩) h60 (by omega) (fun (h61 : Fw (142) _) => ?_)
  refine y_s rfl rfl ?_
  refine y_s rfl rfl ?_
  refine y_newa (n := 67) (t := 100) rfl h61 (by omega) rfl rfl rfl rfl rfl (by decide) (by decide) (fun (h62 : Fw (143) _) => ?_)
  have t55 := @xsh_l _ [(100, 67)] _ _ t53
  have t56 := @xsh_l _ [(100, 67)] _ _ t54
  refine y_putF rfl t55 (by decide) rfl ⟨rfl, rfl⟩ (by first | exact Or.inl rfl | exact Or.inr ⟨rfl, rfl⟩) h62 (by omega) (fun (h63 : Fw (143) _) => ?_)
  refine y_s rfl rfl ?_
  refine y_s rfl rfl ?_
  refine y_newa (n := 2680) (t := 100) rfl h63 (by omega) rfl rfl rfl rfl rfl (by decide) (by decide) (fun (h64 : Fw (144) _) => ?_)
  have t57 := @xsh_l _ [(100, 2680)] _ _ t55
  have t58 := @xsh_l _ [(100, 2680)] _ _ t56
  refine y_putF rfl t57 (by decide) rfl ⟨rfl, rfl⟩ (by first | exact Or.inl rfl | exact Or.inr ⟨rfl, rfl⟩) h64 (by omega) (fun (h65 : Fw (144) _) => ?_)
  refine y_s rfl rfl ?_
  refine y_s rfl rfl ?_
  refine y_newa (n := 24) (t := 100) rfl h65 (by omega) rfl rfl rfl rfl rfl (by decide) (by decide) (fun (h66 : Fw (145) _) => ?_)
  have t59 := @xsh_l _ [(100, 24)] _ _ t57
  have t60 := @xsh_l _ [(100, 24)] _ _ t58
  refine y_putF rfl t59 (by decide) rfl ⟨rfl, rfl⟩ (by first | exact Or.inl rfl | exact Or.inr ⟨rfl, rfl⟩) h66 (by omega) (fun (h67 : Fw (145) _) => ?_)
  refine y_s rfl rfl ?_
  refine y_get rfl t59 (by decide) rfl ?_
  refine y_s rfl rfl ?_
  refine y_s rfl rfl ?_
  refine y_iast (k := 6) rfl t60 rfl (by decide) (by decide) rfl ?_
  have h99 : Fw 145 _ := Fw_i (cl := 116) (k := 6) (v := 60) (by omega) h67
  exact y_vret rfl rfl ⟨rfl, rfl, h99⟩
