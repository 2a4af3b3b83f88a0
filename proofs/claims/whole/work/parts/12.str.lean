/-! STRINGS: the methods of the JDK that isWord needs, over the constants (cells 5000 and on; their bytes: 6000 and on) -/
set_option maxRecDepth 100000 in
def pJ0_length_8abf5 : List xRow := [(0, 1, .aload_n 0, [], 0, 0),
  (1, 4, .getfield 9, [], 0, 0),
  (4, 5, .arraylength, [], 0, 0),
  (5, 6, .aload_n 0, [], 0, 0),
  (6, 9, .invokevirtual 335, [0, 292], 0, 0),
  (9, 10, .ishr, [], 0, 0),
  (10, 11, .ireturn, [], 0, 0)]
def mJ0_length_8abf5 : xM := (290, 16, cJ0_length_8abf5, 1, (some .int), pJ0_length_8abf5)
set_option maxRecDepth 100000 in
theorem gJ0_length_8abf5 : xgd mJ0_length_8abf5 := ⟨by decide +kernel, xat_in (p := 4005) rfl, by decide +kernel, by decide +kernel, by decide, by decide +kernel, by decide +kernel⟩
set_option maxRecDepth 100000 in
def pJ0_charAt_5068e : List xRow := [(0, 1, .aload_n 0, [], 0, 0),
  (1, 4, .invokevirtual 492, [0, 293], 0, 0),
  (4, 7, .ifCond .eq 12, [16], 0, 0),
  (7, 8, .aload_n 0, [], 0, 0),
  (8, 11, .getfield 9, [], 0, 0),
  (11, 12, .iload_n 1, [], 0, 0),
  (12, 15, .invokestatic 495, [1, 295], 0, 0),
  (15, 16, .ireturn, [], 0, 0),
  (16, 17, .aload_n 0, [], 0, 0),
  (17, 20, .getfield 9, [], 0, 0),
  (20, 21, .iload_n 1, [], 0, 0),
  (21, 24, .invokestatic 498, [1, 298], 0, 0),
  (24, 25, .ireturn, [], 0, 0)]
def mJ0_charAt_5068e : xM := (291, 16, cJ0_charAt_5068e, 2, (some .char), pJ0_charAt_5068e)
set_option maxRecDepth 100000 in
theorem gJ0_charAt_5068e : xgd mJ0_charAt_5068e := ⟨by decide +kernel, xat_in (p := 4015) rfl, by decide +kernel, by decide +kernel, by decide, by decide +kernel, by decide +kernel⟩
set_option maxRecDepth 100000 in
def pJ0_coder_7d493 : List xRow := [(0, 3, .getstatic 38, [], 0, 0),
  (3, 6, .ifCond .eq 10, [13], 0, 0),
  (6, 7, .aload_n 0, [], 0, 0),
  (7, 10, .getfield 15, [], 0, 0),
  (10, 13, .goto 4, [14], 0, 0),
  (13, 14, .iconst 1, [], 1, 0),
  (14, 15, .ireturn, [], 0, 0)]
def mJ0_coder_7d493 : xM := (292, 16, cJ0_coder_7d493, 1, (some .byte), pJ0_coder_7d493)
set_option maxRecDepth 100000 in
theorem gJ0_coder_7d493 : xgd mJ0_coder_7d493 := ⟨by decide +kernel, xat_in (p := 4009) rfl, by decide +kernel, by decide +kernel, by decide, by decide +kernel, by decide +kernel⟩
set_option maxRecDepth 100000 in
def pJ0_isLatin1_aae02 : List xRow := [(0, 3, .getstatic 38, [], 0, 0),
  (3, 6, .ifCond .eq 14, [17], 0, 0),
  (6, 7, .aload_n 0, [], 0, 0),
  (7, 10, .getfield 15, [], 0, 0),
  (10, 13, .ifCond .ne 7, [17], 0, 0),
  (13, 14, .iconst 1, [], 1, 0),
  (14, 17, .goto 4, [18], 0, 0),
  (17, 18, .iconst 0, [], 0, 0),
  (18, 19, .ireturn, [], 0, 0)]
def mJ0_isLatin1_aae02 : xM := (293, 16, cJ0_isLatin1_aae02, 1, (some .boolean), pJ0_isLatin1_aae02)
set_option maxRecDepth 100000 in
theorem gJ0_isLatin1_aae02 : xgd mJ0_isLatin1_aae02 := ⟨by decide +kernel, xat_in (p := 4019) rfl, by decide +kernel, by decide +kernel, by decide, by decide +kernel, by decide +kernel⟩
set_option maxRecDepth 100000 in
def pJ0_checkIndex_df160 : List xRow := [(0, 1, .iload_n 0, [], 0, 0),
  (1, 2, .iload_n 1, [], 0, 0),
  (2, 5, .getstatic 1053, [], 0, 0),
  (5, 8, .invokestatic 1059, [1, 301], 0, 0),
  (8, 9, .pop, [], 0, 0),
  (9, 10, .return_, [], 0, 0)]
def mJ0_checkIndex_df160 : xM := (294, 16, cJ0_checkIndex_df160, 2, none, pJ0_checkIndex_df160)
set_option maxRecDepth 100000 in
theorem gJ0_checkIndex_df160 : xgd mJ0_checkIndex_df160 := ⟨by decide +kernel, xat_in (p := 4025) rfl, by decide +kernel, by decide +kernel, by decide, by decide +kernel, by decide +kernel⟩
set_option maxRecDepth 100000 in
def pJ1_charAt_3b067 : List xRow := [(0, 1, .iload_n 1, [], 0, 0),
  (1, 2, .aload_n 0, [], 0, 0),
  (2, 3, .arraylength, [], 0, 0),
  (3, 6, .invokestatic 9, [1, 294], 0, 0),
  (6, 7, .aload_n 0, [], 0, 0),
  (7, 8, .iload_n 1, [], 0, 0),
  (8, 9, .baload, [], 0, 0),
  (9, 12, .sipush 255, [], 255, 0),
  (12, 13, .iand, [], 0, 0),
  (13, 14, .i2c, [], 0, 0),
  (14, 15, .ireturn, [], 0, 0)]
def mJ1_charAt_3b067 : xM := (295, 17, cJ1_charAt_3b067, 2, (some .char), pJ1_charAt_3b067)
set_option maxRecDepth 100000 in
theorem gJ1_charAt_3b067 : xgd mJ1_charAt_3b067 := ⟨by decide +kernel, xat_in (p := 4022) rfl, by decide +kernel, by decide +kernel, by decide, by decide +kernel, by decide +kernel⟩
set_option maxRecDepth 100000 in
def pJ3_checkIndex_8e157 : List xRow := [(0, 1, .iload_n 0, [], 0, 0),
  (1, 4, .ifCond .lt 8, [9], 0, 0),
  (4, 5, .iload_n 0, [], 0, 0),
  (5, 6, .iload_n 1, [], 0, 0),
  (6, 9, .if_icmp .lt 10, [16], 0, 0),
  (9, 10, .aload_n 2, [], 0, 0),
  (10, 11, .iload_n 0, [], 0, 0),
  (11, 12, .iload_n 1, [], 0, 0),
  (12, 15, .invokestatic 95, [], 0, 0),
  (15, 16, .athrow, [], 0, 0),
  (16, 17, .iload_n 0, [], 0, 0),
  (17, 18, .ireturn, [], 0, 0)]
def mJ3_checkIndex_8e157 : xM := (301, 18, cJ3_checkIndex_8e157, 3, (some .int), pJ3_checkIndex_8e157)
set_option maxRecDepth 100000 in
theorem gJ3_checkIndex_8e157 : xgd mJ3_checkIndex_8e157 := ⟨by decide +kernel, xat_in (p := 4030) rfl, by decide +kernel, by decide +kernel, by decide, by decide +kernel, by decide +kernel⟩
section XST
variable {M : xM} {fr : Bool} {dp kc ks pc nx i j : Nat} {rs : List Nat} {li : Int32} {ll : Int64} {ls : List (Option Value)} {st : List Value} {h : xHp} {Q : xPost} {X : Nat → xHp → Prop} {q : String × Nat × String × List Int32}
theorem xL_val : Cond.fieldLink RJ0 9 "java/lang/String" "value" "[B" ∈ xTG := xTG_in (xat_in (p := 9094) (by decide +kernel)) rfl
theorem xL_cod : Cond.fieldLink RJ0 15 "java/lang/String" "coder" "B" ∈ xTG := xTG_in (xat_in (p := 9095) (by decide +kernel)) rfl
theorem xL_cmp : Cond.fieldLink RJ0 38 "java/lang/String" "COMPACT_STRINGS" "Z" ∈ xTG := xTG_in (xat_in (p := 4010) (by decide +kernel)) rfl
theorem xL_sio : Cond.fieldLink RJ0 1053 "jdk/internal/util/Preconditions" "SIOOBE_FORMATTER" "Ljava/util/function/BiFunction;" ∈ xTG := xTG_in (xat_in (p := 4026) (by decide +kernel)) rfl
theorem x_sval (hi : xSL[i]? = some q) (hM : M.2.1 = 16) (hf : xft M.2.2.2.2.2 pc = some (nx, .getfield 9, rs, li, ll)) (k : Ex M fr dp kc ks nx ls (.ref (6000 + i) :: st) h Q X) : Ex M fr dp kc ks pc ls (.ref (5000 + i) :: st) h Q X := by
  intro hg p l e R s m args below meth c D ka al A H locs cells slots mc ms lsA C R0 B hW hS hl
  obtain ⟨hd, rfl, -⟩ := xft_dec hg.1 hf rfl
  have hF := C.2.2.2.2.2.2.2.2.2.1
  have hown := C.2.2.2.2.1
  rw [hM] at hown
  exact vk_getf (own := RJ0) C.1 C.2.1 (hF.2.1 i q hi).2.2.2.1 hS hown (C.2.2.2.2.2.1 _ xL_val) (fun x h => h) hd (k hg p l e R s m args below meth c D ka al A H locs cells slots mc ms lsA C R0 B hW hS hl)
theorem x_scod (hi : xSL[i]? = some q) (hM : M.2.1 = 16) (hf : xft M.2.2.2.2.2 pc = some (nx, .getfield 15, rs, li, ll)) (k : Ex M fr dp kc ks nx ls (.int 0 :: st) h Q X) : Ex M fr dp kc ks pc ls (.ref (5000 + i) :: st) h Q X := by
  intro hg p l e R s m args below meth c D ka al A H locs cells slots mc ms lsA C R0 B hW hS hl
  obtain ⟨hd, rfl, -⟩ := xft_dec hg.1 hf rfl
  have hF := C.2.2.2.2.2.2.2.2.2.1
  have hown := C.2.2.2.2.1
  rw [hM] at hown
  exact vk_getf (own := RJ0) C.1 C.2.1 (hF.2.1 i q hi).2.2.1 hS hown (C.2.2.2.2.2.1 _ xL_cod) (fun x h => h) hd (k hg p l e R s m args below meth c D ka al A H locs cells slots mc ms lsA C R0 B hW hS hl)
theorem x_scmp (hM : M.2.1 = 16) (hf : xft M.2.2.2.2.2 pc = some (nx, .getstatic 38, rs, li, ll)) (k : Ex M fr dp kc ks nx ls (.int 1 :: st) h Q X) : Ex M fr dp kc ks pc ls st h Q X := by
  intro hg p l e R s m args below meth c D ka al A H locs cells slots mc ms lsA C R0 B hW hS hl
  obtain ⟨hd, rfl, -⟩ := xft_dec hg.1 hf rfl
  have hF := C.2.2.2.2.2.2.2.2.2.1
  have hown := C.2.2.2.2.1
  rw [hM] at hown
  exact va_gets (own := RJ0) C.1 C.2.1 hF.2.2.2.2.1.1 hS hown (C.2.2.2.2.2.1 _ xL_cmp) (fun x h => h) hd (k hg p l e R s m args below meth c D ka al A H locs cells slots mc ms lsA C R0 B hW hS hl)
theorem x_sio (hM : M.2.1 = 16) (hf : xft M.2.2.2.2.2 pc = some (nx, .getstatic 1053, rs, li, ll)) (k : ∀ v, (v = .ref 4998 ∨ v = .null) → Ex M fr dp kc ks nx ls (v :: st) h Q X) : Ex M fr dp kc ks pc ls st h Q X := by
  intro hg p l e R s m args below meth c D ka al A H locs cells slots mc ms lsA C R0 B hW hS hl
  obtain ⟨hd, rfl, -⟩ := xft_dec hg.1 hf rfl
  have hF := C.2.2.2.2.2.2.2.2.2.1
  have hown := C.2.2.2.2.1
  rw [hM] at hown
  rcases hF.2.2.2.2.1.2 with z | z
  · exact va_gets (own := RJ0) C.1 C.2.1 z hS hown (C.2.2.2.2.2.1 _ xL_sio) (fun x h => h) hd (k (.ref 4998) (Or.inl rfl) hg p l e R s m args below meth c D ka al A H locs cells slots mc ms lsA C R0 B hW hS hl)
  · exact va_gets (own := RJ0) C.1 C.2.1 z hS hown (C.2.2.2.2.2.1 _ xL_sio) (fun x h => h) hd (k .null (Or.inr rfl) hg p l e R s m args below meth c D ka al A H locs cells slots mc ms lsA C R0 B hW hS hl)
theorem x_stl (hi : xSL[i]? = some q) (hf : xft M.2.2.2.2.2 pc = some (nx, .arraylength, rs, li, ll)) (k : Ex M fr dp kc ks nx ls (.int (nI q.2.2.2.length) :: st) h Q X) : Ex M fr dp kc ks pc ls (.ref (6000 + i) :: st) h Q X := by
  intro hg p l e R s m args below meth c D ka al A H locs cells slots mc ms lsA C R0 B hW hS hl
  obtain ⟨hd, rfl, -⟩ := xft_dec hg.1 hf rfl
  have hF := C.2.2.2.2.2.2.2.2.2.1
  exact va_tlen C.1 C.2.1 (hF.2.1 i q hi).2.2.2.2 hS rfl hd (k hg p l e R s m args below meth c D ka al A H locs cells slots mc ms lsA C R0 B hW hS hl)
theorem x_stb {b : Nat} (hi : xSL[i]? = some q) (hb : b < q.2.2.2.length) (hq : q.2.2.2.length < 100) (hf : xft M.2.2.2.2.2 pc = some (nx, .baload, rs, li, ll)) (k : Ex M fr dp kc ks nx ls (.int (q.2.2.2.getD b 0) :: st) h Q X) : Ex M fr dp kc ks pc ls (.int (nI b) :: .ref (6000 + i) :: st) h Q X := by
  intro hg p l e R s m args below meth c D ka al A H locs cells slots mc ms lsA C R0 B hW hS hl
  obtain ⟨hd, rfl, -⟩ := xft_dec hg.1 hf rfl
  have hF := C.2.2.2.2.2.2.2.2.2.1
  exact va_tb C.1 C.2.1 (hF.2.1 i q hi).2.2.2.2 hS (nI_vin hb (by omega)) (by rw [nI_cl hb (by omega)]; rfl) hd (k hg p l e R s m args below meth c D ka al A H locs cells slots mc ms lsA C R0 B hW hS hl)
set_option maxHeartbeats 4000000 in
/-- a method of a String constant is called -/
theorem x_cvS {M' : xM} {dp' kc' ks' ix : Nat} {As r : List Value} {Q' : xPost} (hi : xSL[i]? = some q)
    (hC : Cn M' fr dp' kc' ks' (.ref (5000 + i) :: As) h Q') (hf : xft M.2.2.2.2.2 pc = some (nx, .invokevirtual ix, rs, li, ll)) (hw1 : Cond.methodLink (xOwn M.2.1) ix (xY M'.1) ∈ xTG) (w2 : Cond.instanceMethod (xY M'.1) ∈ xTG) (w3 : Cond.selects (xY M'.1).cls (xY M'.1) (xY M'.1) ∈ xTG) (w4 : Cond.initialized (xY M'.1).cls ∈ xTG) (hst : st = As.reverse ++ .ref (5000 + i) :: r) (hn : As.length = xNp M'.1) (hm : M'.1 < 335) (hcl : M'.2.1 = 16) (hr : (r.map fun v => v.category).sum ≤ 8) (hdp : dp' + 1 ≤ dp) (hkc : kc' ≤ kc) (hks : ks' ≤ ks)
    (k : ∀ v h', Q' v h' → Ex M fr dp (kc - kc') (ks - ks') nx ls (v.toList ++ r) h' Q X) : Ex M fr dp kc ks pc ls st h Q X := by
  intro hg p l e R s m args below meth c D ka al A H locs cells slots mc ms lsA C R0 B hW hS hl
  obtain ⟨hd, rfl, hres⟩ := xft_dec hg.1 hf rfl
  obtain ⟨hg', hh', hM⟩ := hC
  have hF := C.2.2.2.2.2.2.2.2.2.1
  have hts := C.2.2.2.2.2.1
  have hcs : (xY M'.1).cls = "java/lang/String" := by rw [hg'.2.2.1, hcl]; rfl
  have hmL := hg'.2.2.2.2.1
  refine xback (Q' := Q') (a := (Value.ref (al (5000 + i)) :: As.map (xcv al)).toArray) hg C R0 B hkc hks hW hS hl rfl (va_runV (Ts := xTG) (own := xOwn M.2.1) (C := (xY M'.1).cls) (As := As.map (xcv al)) (bytes := M'.2.2.1) (maxL := M'.2.2.2.1) (ret := M'.2.2.2.2.1) ⟨C.1, C.2.1, C.2.2.2.1, C.2.2.2.2.1, hts⟩ (hM l C.2.2.2.2.2.2.2.2.2.2.1 D ka al H.size) ⟨callB_of As.length hts (xGoodIn hg' hh') (by rw [← xcw_code hh']; rfl) rfl rfl (hts _ w4) (hts _ hw1) ⟨hg'.2.2.2.2.2.1, hg'.2.2.2.2.2.2, by rw [hn]; exact xNp_ok _ hm⟩ ⟨by show dp' + 1 ≤ R.frames; omega, by show 8 + (M'.2.2.2.1 + 11) + 64 * dp' ≤ R.locals; omega⟩, hts _ w2, hts _ w3⟩ ⟨xPc_blind, ?_, ?_⟩ rfl (by simp) hl.1 ?_ (lv_room ?_) hd ⟨by omega, by omega⟩) k
  · obtain ⟨cell, h1, h2, h3, -⟩ := (hF.2.1 i q hi).2.1.kept hS.2.1
    rw [hcs]
    exact ⟨cell, h1, h2, h3⟩
  · exact xpre (av := .ref (5000 + i) :: As) C hW hS
  · show List.map (xcv al) st = _
    rw [hst]
    simp [xcv]
  · simpa [xcv_cat, Function.comp_def] using hr
theorem xw_cod : Cond.methodLink RJ0 335 yJ0_coder_7d493 ∈ xTG ∧ Cond.instanceMethod yJ0_coder_7d493 ∈ xTG ∧ Cond.selects RJ0 yJ0_coder_7d493 yJ0_coder_7d493 ∈ xTG := ⟨xTG_in (xat_in (p := 4006) (by decide +kernel)) rfl, xTG_in (xat_in (p := 4007) (by decide +kernel)) rfl, xTG_in (xat_in (p := 4008) (by decide +kernel)) rfl⟩
theorem xw_lat : Cond.methodLink RJ0 492 yJ0_isLatin1_aae02 ∈ xTG ∧ Cond.instanceMethod yJ0_isLatin1_aae02 ∈ xTG ∧ Cond.selects RJ0 yJ0_isLatin1_aae02 yJ0_isLatin1_aae02 ∈ xTG := ⟨xTG_in (xat_in (p := 4016) (by decide +kernel)) rfl, xTG_in (xat_in (p := 4017) (by decide +kernel)) rfl, xTG_in (xat_in (p := 4018) (by decide +kernel)) rfl⟩
theorem xw_len : Cond.instanceMethod yJ0_length_8abf5 ∈ xTG ∧ Cond.selects RJ0 yJ0_length_8abf5 yJ0_length_8abf5 ∈ xTG := ⟨xTG_in (xat_in (p := 4003) (by decide +kernel)) rfl, xTG_in (xat_in (p := 4004) (by decide +kernel)) rfl⟩
theorem xw_chr : Cond.instanceMethod yJ0_charAt_5068e ∈ xTG ∧ Cond.selects RJ0 yJ0_charAt_5068e yJ0_charAt_5068e ∈ xTG := ⟨xTG_in (xat_in (p := 4013) (by decide +kernel)) rfl, xTG_in (xat_in (p := 4014) (by decide +kernel)) rfl⟩
theorem xw_ini : Cond.initialized RJ0 ∈ xTG := xTG_in (xat_in (p := 1019) (by decide +kernel)) rfl
end XST
section XSM
variable (h : xHp) {i : Nat} {q : String × Nat × String × List Int32}
set_option maxRecDepth 100000 in
theorem s_coder (hi : xSL[i]? = some q) : Cn mJ0_coder_7d493 false 1 0 0 [.ref (5000 + i)] h (fun r h' => r = some (.int 0) ∧ h' = h) := by
  refine Cn.intro gJ0_coder_7d493 rfl (Nat.le_of_ble_eq_true rfl) rfl ?_
  refine x_scmp rfl rfl ?_
  refine x_br rfl rfl (fun c => absurd c (by decide)) (fun c => ?_)
  repeat refine x_s rfl rfl ?_
  refine x_scod hi rfl rfl ?_
  repeat refine x_s rfl rfl ?_
  exact x_iret rfl rfl rfl ⟨rfl, rfl⟩
set_option maxRecDepth 100000 in
theorem s_latin (hi : xSL[i]? = some q) : Cn mJ0_isLatin1_aae02 false 1 0 0 [.ref (5000 + i)] h (fun r h' => r = some (.int 1) ∧ h' = h) := by
  refine Cn.intro gJ0_isLatin1_aae02 rfl (Nat.le_of_ble_eq_true rfl) rfl ?_
  refine x_scmp rfl rfl ?_
  refine x_br rfl rfl (fun c => absurd c (by decide)) (fun c => ?_)
  repeat refine x_s rfl rfl ?_
  refine x_scod hi rfl rfl ?_
  refine x_br rfl rfl (fun c => absurd rfl c) (fun c => ?_)
  repeat refine x_s rfl rfl ?_
  exact x_iret rfl rfl rfl ⟨rfl, rfl⟩
theorem shr0 (x : Int32) : x >>> ((0 : Int32) &&& 31) = x := by
  rw [show ((0 : Int32) &&& 31) = 0 from by decide]
  exact Int32.shiftRight_zero
set_option maxRecDepth 100000 in
theorem s_length (hi : xSL[i]? = some q) : Cn mJ0_length_8abf5 false 2 0 0 [.ref (5000 + i)] h (fun r h' => r = some (.int (nI q.2.2.2.length)) ∧ h' = h) := by
  refine Cn.intro gJ0_length_8abf5 rfl (Nat.le_of_ble_eq_true rfl) rfl ?_
  refine x_s rfl rfl ?_
  refine x_sval hi rfl rfl ?_
  refine x_stl hi rfl ?_
  refine x_s rfl rfl ?_
  refine x_cvS hi (s_coder h hi) rfl xw_cod.1 xw_cod.2.1 xw_cod.2.2 xw_ini rfl rfl (by decide) rfl (Nat.le_of_ble_eq_true rfl) (by decide) (by decide) (by decide) ?_
  rintro _ _ ⟨rfl, rfl⟩
  repeat refine x_s rfl rfl ?_
  exact x_iret rfl rfl rfl ⟨congrArg (fun z => some (Value.int z)) (shr0 _), rfl⟩
set_option maxRecDepth 100000 in
theorem s_chkP {b n : Nat} {v : Value} (hv : v = .ref 4998 ∨ v = .null) (hb : b < n) (hn : n < 100000) : Cn mJ3_checkIndex_8e157 false 1 0 0 [.int (nI b), .int (nI n), v] h (fun r h' => r = some (.int (nI b)) ∧ h' = h) := by
  rcases hv with rfl | rfl
  · refine Cn.intro gJ3_checkIndex_8e157 rfl (Nat.le_of_ble_eq_true rfl) rfl ?_
    repeat refine x_s rfl rfl ?_
    refine x_br rfl rfl (fun c => absurd c (nI_pos (by omega))) (fun c => ?_)
    repeat refine x_s rfl rfl ?_
    refine x_br rfl rfl (fun c => ?_) (fun c => absurd (nI_lt hb (by omega)) c)
    repeat refine x_s rfl rfl ?_
    exact x_iret rfl rfl rfl ⟨rfl, rfl⟩
  · refine Cn.intro gJ3_checkIndex_8e157 rfl (Nat.le_of_ble_eq_true rfl) rfl ?_
    repeat refine x_s rfl rfl ?_
    refine x_br rfl rfl (fun c => absurd c (nI_pos (by omega))) (fun c => ?_)
    repeat refine x_s rfl rfl ?_
    refine x_br rfl rfl (fun c => ?_) (fun c => absurd (nI_lt hb (by omega)) c)
    repeat refine x_s rfl rfl ?_
    exact x_iret rfl rfl rfl ⟨rfl, rfl⟩
set_option maxRecDepth 100000 in
theorem s_chk {b n : Nat} (hb : b < n) (hn : n < 100000) : Cn mJ0_checkIndex_df160 false 2 0 0 [.int (nI b), .int (nI n)] h (fun r h' => r = none ∧ h' = h) := by
  refine Cn.intro gJ0_checkIndex_df160 rfl (Nat.le_of_ble_eq_true rfl) rfl ?_
  repeat refine x_s rfl rfl ?_
  refine x_sio rfl rfl (fun v hv => ?_)
  refine x_cs (s_chkP h hv hb hn) rfl rfl rfl (by decide) (Nat.le_of_ble_eq_true rfl) (by decide) (by decide) (by decide) ?_
  rintro _ _ ⟨rfl, rfl⟩
  repeat refine x_s rfl rfl ?_
  exact x_vret rfl rfl ⟨rfl, rfl⟩
theorem s_byt : ∀ q ∈ xSL, q.2.2.2.length < 100 ∧ ∀ b, b < q.2.2.2.length → ((q.2.2.2.getD b 0 &&& 255).toUInt32.toUInt16.toUInt32.toInt32) = q.2.2.2.getD b 0 ∧ narrow .char (.int (q.2.2.2.getD b 0)) = .int (q.2.2.2.getD b 0) := by decide +kernel
set_option maxRecDepth 100000 in
theorem s_chr1 {b : Nat} (hi : xSL[i]? = some q) (hb : b < q.2.2.2.length) : Cn mJ1_charAt_3b067 false 3 0 0 [.ref (6000 + i), .int (nI b)] h (fun r h' => r = some (.int (q.2.2.2.getD b 0)) ∧ h' = h) := by
  obtain ⟨l1, l2⟩ := s_byt q (List.mem_of_getElem? hi)
  refine Cn.intro gJ1_charAt_3b067 rfl (Nat.le_of_ble_eq_true rfl) rfl ?_
  repeat refine x_s rfl rfl ?_
  refine x_stl hi rfl ?_
  refine x_cs (s_chk h hb (by omega)) rfl rfl rfl (by decide) (Nat.le_of_ble_eq_true rfl) (by decide) (by decide) (by decide) ?_
  rintro _ _ ⟨rfl, rfl⟩
  iterate 2 refine x_s rfl rfl ?_
  refine x_stb hi hb l1 rfl ?_
  repeat refine x_s rfl rfl ?_
  have e := (l2 b hb).1
  refine (show Ex mJ1_charAt_3b067 false 3 0 0 14 _ [.int ((q.2.2.2.getD b 0 &&& 255).toUInt32.toUInt16.toUInt32.toInt32)] _ _ _ from ?_)
  rw [e]
  exact x_iret rfl rfl (l2 b hb).2 ⟨rfl, rfl⟩
set_option maxRecDepth 100000 in
theorem s_chr {b : Nat} (hi : xSL[i]? = some q) (hb : b < q.2.2.2.length) : Cn mJ0_charAt_5068e false 4 0 0 [.ref (5000 + i), .int (nI b)] h (fun r h' => r = some (.int (q.2.2.2.getD b 0)) ∧ h' = h) := by
  obtain ⟨l1, l2⟩ := s_byt q (List.mem_of_getElem? hi)
  refine Cn.intro gJ0_charAt_5068e rfl (Nat.le_of_ble_eq_true rfl) rfl ?_
  repeat refine x_s rfl rfl ?_
  refine x_cvS hi (s_latin h hi) rfl xw_lat.1 xw_lat.2.1 xw_lat.2.2 xw_ini rfl rfl (by decide) rfl (Nat.le_of_ble_eq_true rfl) (by decide) (by decide) (by decide) ?_
  rintro _ h1 ⟨rfl, e1⟩
  rw [e1]
  refine x_br rfl rfl (fun c => absurd c (by decide)) (fun c => ?_)
  refine x_s rfl rfl ?_
  refine x_sval hi rfl rfl ?_
  refine x_s rfl rfl ?_
  refine x_cs (s_chr1 h hi hb) rfl rfl rfl (by decide) (Nat.le_of_ble_eq_true rfl) (by decide) (by decide) (by decide) ?_
  rintro _ _ ⟨rfl, rfl⟩
  exact x_iret rfl rfl (l2 b hb).2 ⟨rfl, rfl⟩
end XSM
