/-! THE LAW'S BYTES, read once from left to right -/
abbrev xDc : Type → Type := ClassFile.Reader ClassFile.DecodeError
def By (c : ByteArray) (p b : Nat) : Prop := ∃ h : p < c.size, (c[p]'h).toNat = b
theorem u1_run {c : ByteArray} {p b : Nat} (h : By c p b) : (ClassFile.Reader.u1 : xDc Nat) c p = .ok (b, p + 1) := by
  obtain ⟨hp, rfl⟩ := h
  have e : (ClassFile.Reader.u1 : xDc Nat) c p = (if h : p < c.size then (do set (p + 1); pure c[p].toNat : xDc Nat) else throw (ClassFile.HasTruncated.truncated p)) c p := rfl
  rw [e, dif_pos hp]
  rfl
theorem bnd {α β : Type} {c : ByteArray} {p q : Nat} {x : xDc α} {a : α} (h : x c p = .ok (a, q)) (K : α → xDc β) : (bind x K) c p = K a c q := by
  have e : (bind x K) c p = Except.bind (x c p) (fun y => K y.1 c y.2) := rfl
  rw [e, h]
  rfl
theorem mpd {α β : Type} {c : ByteArray} {p q : Nat} {x : xDc α} {a : α} (h : x c p = .ok (a, q)) (f : α → β) : (f <$> x) c p = .ok (f a, q) := by
  have e : (f <$> x) c p = Except.bind (x c p) (fun y => .ok (f y.1, y.2)) := rfl
  rw [e, h]
  rfl
theorem u2_run {c : ByteArray} {p b b' : Nat} (h : By c p b) (h' : By c (p + 1) b') : (ClassFile.Reader.u2 : xDc Nat) c p = .ok (b * 256 + b', p + 1 + 1) := by
  unfold ClassFile.Reader.u2
  rw [bnd (u1_run h), bnd (u1_run h')]
  rfl
theorem decF {c : ByteArray} {pc nx : Nat} {i : Instr} (h : ClassFile.Decoder.instr pc c pc = .ok (i, nx)) {n : Nat} (hn : nx = pc + n) : decode c pc = .ok (i, n) := by
  have e : decode c pc = Except.bind (ClassFile.Decoder.instr pc c pc) (fun y => .ok (y.1, y.2 - pc)) := rfl
  rw [e, h, hn]
  show Except.ok (i, pc + n - pc) = _
  rw [Nat.add_sub_cancel_left]
set_option maxRecDepth 100000 in
theorem dl3 {c : ByteArray} {pc : Nat} (h : By c pc 3) : decode c pc = .ok (.iconst 0, 1) := by
  refine decF (nx := pc + 1) ?_ rfl
  refine (bnd (u1_run h) _).trans ?_
  rfl
set_option maxRecDepth 100000 in
theorem dl4 {c : ByteArray} {pc : Nat} (h : By c pc 4) : decode c pc = .ok (.iconst 1, 1) := by
  refine decF (nx := pc + 1) ?_ rfl
  refine (bnd (u1_run h) _).trans ?_
  rfl
set_option maxRecDepth 100000 in
theorem dl5 {c : ByteArray} {pc : Nat} (h : By c pc 5) : decode c pc = .ok (.iconst 2, 1) := by
  refine decF (nx := pc + 1) ?_ rfl
  refine (bnd (u1_run h) _).trans ?_
  rfl
set_option maxRecDepth 100000 in
theorem dl6 {c : ByteArray} {pc : Nat} (h : By c pc 6) : decode c pc = .ok (.iconst 3, 1) := by
  refine decF (nx := pc + 1) ?_ rfl
  refine (bnd (u1_run h) _).trans ?_
  rfl
set_option maxRecDepth 100000 in
theorem dl7 {c : ByteArray} {pc : Nat} (h : By c pc 7) : decode c pc = .ok (.iconst 4, 1) := by
  refine decF (nx := pc + 1) ?_ rfl
  refine (bnd (u1_run h) _).trans ?_
  rfl
set_option maxRecDepth 100000 in
theorem dl8 {c : ByteArray} {pc : Nat} (h : By c pc 8) : decode c pc = .ok (.iconst 5, 1) := by
  refine decF (nx := pc + 1) ?_ rfl
  refine (bnd (u1_run h) _).trans ?_
  rfl
set_option maxRecDepth 100000 in
theorem dl42 {c : ByteArray} {pc : Nat} (h : By c pc 42) : decode c pc = .ok (.aload_n 0, 1) := by
  refine decF (nx := pc + 1) ?_ rfl
  refine (bnd (u1_run h) _).trans ?_
  rfl
set_option maxRecDepth 100000 in
theorem dl43 {c : ByteArray} {pc : Nat} (h : By c pc 43) : decode c pc = .ok (.aload_n 1, 1) := by
  refine decF (nx := pc + 1) ?_ rfl
  refine (bnd (u1_run h) _).trans ?_
  rfl
set_option maxRecDepth 100000 in
theorem dl44 {c : ByteArray} {pc : Nat} (h : By c pc 44) : decode c pc = .ok (.aload_n 2, 1) := by
  refine decF (nx := pc + 1) ?_ rfl
  refine (bnd (u1_run h) _).trans ?_
  rfl
set_option maxRecDepth 100000 in
theorem dl45 {c : ByteArray} {pc : Nat} (h : By c pc 45) : decode c pc = .ok (.aload_n 3, 1) := by
  refine decF (nx := pc + 1) ?_ rfl
  refine (bnd (u1_run h) _).trans ?_
  rfl
set_option maxRecDepth 100000 in
theorem dl46 {c : ByteArray} {pc : Nat} (h : By c pc 46) : decode c pc = .ok (.iaload, 1) := by
  refine decF (nx := pc + 1) ?_ rfl
  refine (bnd (u1_run h) _).trans ?_
  rfl
set_option maxRecDepth 100000 in
theorem dl47 {c : ByteArray} {pc : Nat} (h : By c pc 47) : decode c pc = .ok (.laload, 1) := by
  refine decF (nx := pc + 1) ?_ rfl
  refine (bnd (u1_run h) _).trans ?_
  rfl
set_option maxRecDepth 100000 in
theorem dl75 {c : ByteArray} {pc : Nat} (h : By c pc 75) : decode c pc = .ok (.astore_n 0, 1) := by
  refine decF (nx := pc + 1) ?_ rfl
  refine (bnd (u1_run h) _).trans ?_
  rfl
set_option maxRecDepth 100000 in
theorem dl76 {c : ByteArray} {pc : Nat} (h : By c pc 76) : decode c pc = .ok (.astore_n 1, 1) := by
  refine decF (nx := pc + 1) ?_ rfl
  refine (bnd (u1_run h) _).trans ?_
  rfl
set_option maxRecDepth 100000 in
theorem dl77 {c : ByteArray} {pc : Nat} (h : By c pc 77) : decode c pc = .ok (.astore_n 2, 1) := by
  refine decF (nx := pc + 1) ?_ rfl
  refine (bnd (u1_run h) _).trans ?_
  rfl
set_option maxRecDepth 100000 in
theorem dl78 {c : ByteArray} {pc : Nat} (h : By c pc 78) : decode c pc = .ok (.astore_n 3, 1) := by
  refine decF (nx := pc + 1) ?_ rfl
  refine (bnd (u1_run h) _).trans ?_
  rfl
set_option maxRecDepth 100000 in
theorem dl89 {c : ByteArray} {pc : Nat} (h : By c pc 89) : decode c pc = .ok (.dup, 1) := by
  refine decF (nx := pc + 1) ?_ rfl
  refine (bnd (u1_run h) _).trans ?_
  rfl
set_option maxRecDepth 100000 in
theorem dl96 {c : ByteArray} {pc : Nat} (h : By c pc 96) : decode c pc = .ok (.iadd, 1) := by
  refine decF (nx := pc + 1) ?_ rfl
  refine (bnd (u1_run h) _).trans ?_
  rfl
set_option maxRecDepth 100000 in
theorem dl100 {c : ByteArray} {pc : Nat} (h : By c pc 100) : decode c pc = .ok (.isub, 1) := by
  refine decF (nx := pc + 1) ?_ rfl
  refine (bnd (u1_run h) _).trans ?_
  rfl
set_option maxRecDepth 100000 in
theorem dl126 {c : ByteArray} {pc : Nat} (h : By c pc 126) : decode c pc = .ok (.iand, 1) := by
  refine decF (nx := pc + 1) ?_ rfl
  refine (bnd (u1_run h) _).trans ?_
  rfl
set_option maxRecDepth 100000 in
theorem dl133 {c : ByteArray} {pc : Nat} (h : By c pc 133) : decode c pc = .ok (.i2l, 1) := by
  refine decF (nx := pc + 1) ?_ rfl
  refine (bnd (u1_run h) _).trans ?_
  rfl
set_option maxRecDepth 100000 in
theorem dl148 {c : ByteArray} {pc : Nat} (h : By c pc 148) : decode c pc = .ok (.lcmp, 1) := by
  refine decF (nx := pc + 1) ?_ rfl
  refine (bnd (u1_run h) _).trans ?_
  rfl
set_option maxRecDepth 100000 in
theorem dl172 {c : ByteArray} {pc : Nat} (h : By c pc 172) : decode c pc = .ok (.ireturn, 1) := by
  refine decF (nx := pc + 1) ?_ rfl
  refine (bnd (u1_run h) _).trans ?_
  rfl
set_option maxRecDepth 100000 in
theorem dl190 {c : ByteArray} {pc : Nat} (h : By c pc 190) : decode c pc = .ok (.arraylength, 1) := by
  refine decF (nx := pc + 1) ?_ rfl
  refine (bnd (u1_run h) _).trans ?_
  rfl
set_option maxRecDepth 100000 in
theorem dl21 {c : ByteArray} {pc a : Nat} (h : By c pc 21) (h1 : By c (pc + 1) a) : decode c pc = .ok (.iload a, 2) := by
  refine decF (nx := pc + 1 + 1) ?_ rfl
  refine (bnd (u1_run h) _).trans ?_
  exact bnd (u1_run h1) (fun x => (Pure.pure (Instr.iload x) : xDc Instr))
set_option maxRecDepth 100000 in
theorem dl54 {c : ByteArray} {pc a : Nat} (h : By c pc 54) (h1 : By c (pc + 1) a) : decode c pc = .ok (.istore a, 2) := by
  refine decF (nx := pc + 1 + 1) ?_ rfl
  refine (bnd (u1_run h) _).trans ?_
  exact bnd (u1_run h1) (fun x => (Pure.pure (Instr.istore x) : xDc Instr))
set_option maxRecDepth 100000 in
theorem dl182 {c : ByteArray} {pc a a' : Nat} (h : By c pc 182) (h1 : By c (pc + 1) a) (h2 : By c (pc + 2) a') : decode c pc = .ok (.invokevirtual (a * 256 + a'), 3) := by
  refine decF (nx := pc + 1 + 1 + 1) ?_ rfl
  refine (bnd (u1_run h) _).trans ?_
  exact bnd (u2_run h1 h2) (fun x => (Pure.pure (Instr.invokevirtual x) : xDc Instr))
set_option maxRecDepth 100000 in
theorem dl183 {c : ByteArray} {pc a a' : Nat} (h : By c pc 183) (h1 : By c (pc + 1) a) (h2 : By c (pc + 2) a') : decode c pc = .ok (.invokespecial (a * 256 + a'), 3) := by
  refine decF (nx := pc + 1 + 1 + 1) ?_ rfl
  refine (bnd (u1_run h) _).trans ?_
  exact bnd (u2_run h1 h2) (fun x => (Pure.pure (Instr.invokespecial x) : xDc Instr))
set_option maxRecDepth 100000 in
theorem dl184 {c : ByteArray} {pc a a' : Nat} (h : By c pc 184) (h1 : By c (pc + 1) a) (h2 : By c (pc + 2) a') : decode c pc = .ok (.invokestatic (a * 256 + a'), 3) := by
  refine decF (nx := pc + 1 + 1 + 1) ?_ rfl
  refine (bnd (u1_run h) _).trans ?_
  exact bnd (u2_run h1 h2) (fun x => (Pure.pure (Instr.invokestatic x) : xDc Instr))
set_option maxRecDepth 100000 in
theorem dl187 {c : ByteArray} {pc a a' : Nat} (h : By c pc 187) (h1 : By c (pc + 1) a) (h2 : By c (pc + 2) a') : decode c pc = .ok (.new (a * 256 + a'), 3) := by
  refine decF (nx := pc + 1 + 1 + 1) ?_ rfl
  refine (bnd (u1_run h) _).trans ?_
  exact bnd (u2_run h1 h2) (fun x => (Pure.pure (Instr.new x) : xDc Instr))
set_option maxRecDepth 100000 in
theorem dl153 {c : ByteArray} {pc a a' : Nat} (h : By c pc 153) (h1 : By c (pc + 1) a) (h2 : By c (pc + 2) a') : decode c pc = .ok (.ifCond .eq (ClassFile.Reader.signed 16 (a * 256 + a')), 3) := by
  refine decF (nx := pc + 1 + 1 + 1) ?_ rfl
  refine (bnd (u1_run h) _).trans ?_
  exact bnd (mpd (u2_run h1 h2) (ClassFile.Reader.signed 16)) (fun x => (Pure.pure (Instr.ifCond .eq x) : xDc Instr))
set_option maxRecDepth 100000 in
theorem dl154 {c : ByteArray} {pc a a' : Nat} (h : By c pc 154) (h1 : By c (pc + 1) a) (h2 : By c (pc + 2) a') : decode c pc = .ok (.ifCond .ne (ClassFile.Reader.signed 16 (a * 256 + a')), 3) := by
  refine decF (nx := pc + 1 + 1 + 1) ?_ rfl
  refine (bnd (u1_run h) _).trans ?_
  exact bnd (mpd (u2_run h1 h2) (ClassFile.Reader.signed 16)) (fun x => (Pure.pure (Instr.ifCond .ne x) : xDc Instr))
set_option maxRecDepth 100000 in
theorem dl159 {c : ByteArray} {pc a a' : Nat} (h : By c pc 159) (h1 : By c (pc + 1) a) (h2 : By c (pc + 2) a') : decode c pc = .ok (.if_icmp .eq (ClassFile.Reader.signed 16 (a * 256 + a')), 3) := by
  refine decF (nx := pc + 1 + 1 + 1) ?_ rfl
  refine (bnd (u1_run h) _).trans ?_
  exact bnd (mpd (u2_run h1 h2) (ClassFile.Reader.signed 16)) (fun x => (Pure.pure (Instr.if_icmp .eq x) : xDc Instr))
set_option maxRecDepth 100000 in
theorem dl163 {c : ByteArray} {pc a a' : Nat} (h : By c pc 163) (h1 : By c (pc + 1) a) (h2 : By c (pc + 2) a') : decode c pc = .ok (.if_icmp .gt (ClassFile.Reader.signed 16 (a * 256 + a')), 3) := by
  refine decF (nx := pc + 1 + 1 + 1) ?_ rfl
  refine (bnd (u1_run h) _).trans ?_
  exact bnd (mpd (u2_run h1 h2) (ClassFile.Reader.signed 16)) (fun x => (Pure.pure (Instr.if_icmp .gt x) : xDc Instr))
set_option maxRecDepth 100000 in
theorem dl167 {c : ByteArray} {pc a a' : Nat} (h : By c pc 167) (h1 : By c (pc + 1) a) (h2 : By c (pc + 2) a') : decode c pc = .ok (.goto (ClassFile.Reader.signed 16 (a * 256 + a')), 3) := by
  refine decF (nx := pc + 1 + 1 + 1) ?_ rfl
  refine (bnd (u1_run h) _).trans ?_
  exact bnd (mpd (u2_run h1 h2) (ClassFile.Reader.signed 16)) (fun x => (Pure.pure (Instr.goto x) : xDc Instr))
set_option maxRecDepth 100000 in
theorem dl16 {c : ByteArray} {pc a : Nat} (h : By c pc 16) (h1 : By c (pc + 1) a) : decode c pc = .ok (.bipush (ClassFile.Reader.signed 8 a), 2) := by
  refine decF (nx := pc + 1 + 1) ?_ rfl
  refine (bnd (u1_run h) _).trans ?_
  exact bnd (mpd (u1_run h1) (ClassFile.Reader.signed 8)) (fun x => (Pure.pure (Instr.bipush x) : xDc Instr))
set_option maxRecDepth 100000 in
theorem dl132 {c : ByteArray} {pc a a' : Nat} (h : By c pc 132) (h1 : By c (pc + 1) a) (h2 : By c (pc + 2) a') : decode c pc = .ok (.iinc a (ClassFile.Reader.signed 8 a'), 3) := by
  refine decF (nx := pc + 1 + 1 + 1) ?_ rfl
  refine (bnd (u1_run h) _).trans ?_
  refine (bnd (u1_run h1) (fun x => (bind (ClassFile.Reader.s1 : xDc Int) (fun y => (Pure.pure (Instr.iinc x y) : xDc Instr))))).trans ?_
  exact bnd (mpd (u1_run h2) (ClassFile.Reader.signed 8)) (fun y => (Pure.pure (Instr.iinc a y) : xDc Instr))
set_option maxRecDepth 100000 in
theorem dl188 {c : ByteArray} {pc : Nat} (h : By c pc 188) (h1 : By c (pc + 1) 11) : decode c pc = .ok (.newarray .long, 2) := by
  refine decF (nx := pc + 1 + 1) ?_ rfl
  refine (bnd (u1_run h) _).trans ?_
  refine (show (ClassFile.Decoder.newarray pc) c (pc + 1) = _ from ?_)
  refine (bnd (u1_run h1) _).trans ?_
  rfl
/-- the instruction with which these bytes begin -/
def dk (bs : List Nat) : Option (Instr × Nat) := match bs with
  | 3 :: _ => some (.iconst 0, 1)
  | 4 :: _ => some (.iconst 1, 1)
  | 5 :: _ => some (.iconst 2, 1)
  | 6 :: _ => some (.iconst 3, 1)
  | 7 :: _ => some (.iconst 4, 1)
  | 8 :: _ => some (.iconst 5, 1)
  | 42 :: _ => some (.aload_n 0, 1)
  | 43 :: _ => some (.aload_n 1, 1)
  | 44 :: _ => some (.aload_n 2, 1)
  | 45 :: _ => some (.aload_n 3, 1)
  | 46 :: _ => some (.iaload, 1)
  | 47 :: _ => some (.laload, 1)
  | 75 :: _ => some (.astore_n 0, 1)
  | 76 :: _ => some (.astore_n 1, 1)
  | 77 :: _ => some (.astore_n 2, 1)
  | 78 :: _ => some (.astore_n 3, 1)
  | 89 :: _ => some (.dup, 1)
  | 96 :: _ => some (.iadd, 1)
  | 100 :: _ => some (.isub, 1)
  | 126 :: _ => some (.iand, 1)
  | 133 :: _ => some (.i2l, 1)
  | 148 :: _ => some (.lcmp, 1)
  | 172 :: _ => some (.ireturn, 1)
  | 190 :: _ => some (.arraylength, 1)
  | 21 :: a :: _ => some (.iload a, 2)
  | 54 :: a :: _ => some (.istore a, 2)
  | 182 :: a :: a' :: _ => some (.invokevirtual (a * 256 + a'), 3)
  | 183 :: a :: a' :: _ => some (.invokespecial (a * 256 + a'), 3)
  | 184 :: a :: a' :: _ => some (.invokestatic (a * 256 + a'), 3)
  | 187 :: a :: a' :: _ => some (.new (a * 256 + a'), 3)
  | 153 :: a :: a' :: _ => some (.ifCond .eq (ClassFile.Reader.signed 16 (a * 256 + a')), 3)
  | 154 :: a :: a' :: _ => some (.ifCond .ne (ClassFile.Reader.signed 16 (a * 256 + a')), 3)
  | 159 :: a :: a' :: _ => some (.if_icmp .eq (ClassFile.Reader.signed 16 (a * 256 + a')), 3)
  | 163 :: a :: a' :: _ => some (.if_icmp .gt (ClassFile.Reader.signed 16 (a * 256 + a')), 3)
  | 167 :: a :: a' :: _ => some (.goto (ClassFile.Reader.signed 16 (a * 256 + a')), 3)
  | 16 :: a :: _ => some (.bipush (ClassFile.Reader.signed 8 a), 2)
  | 132 :: a :: a' :: _ => some (.iinc a (ClassFile.Reader.signed 8 a'), 3)
  | 188 :: 11 :: _ => some (.newarray .long, 2)
  | _ => none
set_option maxHeartbeats 2000000 in
theorem dk_ok {c : ByteArray} {pc n : Nat} {i : Instr} {bs : List Nat} (hb : ∀ k b, bs[k]? = some b → By c (pc + k) b) (h : dk bs = some (i, n)) : decode c pc = .ok (i, n) := by
  unfold dk at h
  split at h
  · cases h; exact dl3 (hb 0 _ rfl)
  · cases h; exact dl4 (hb 0 _ rfl)
  · cases h; exact dl5 (hb 0 _ rfl)
  · cases h; exact dl6 (hb 0 _ rfl)
  · cases h; exact dl7 (hb 0 _ rfl)
  · cases h; exact dl8 (hb 0 _ rfl)
  · cases h; exact dl42 (hb 0 _ rfl)
  · cases h; exact dl43 (hb 0 _ rfl)
  · cases h; exact dl44 (hb 0 _ rfl)
  · cases h; exact dl45 (hb 0 _ rfl)
  · cases h; exact dl46 (hb 0 _ rfl)
  · cases h; exact dl47 (hb 0 _ rfl)
  · cases h; exact dl75 (hb 0 _ rfl)
  · cases h; exact dl76 (hb 0 _ rfl)
  · cases h; exact dl77 (hb 0 _ rfl)
  · cases h; exact dl78 (hb 0 _ rfl)
  · cases h; exact dl89 (hb 0 _ rfl)
  · cases h; exact dl96 (hb 0 _ rfl)
  · cases h; exact dl100 (hb 0 _ rfl)
  · cases h; exact dl126 (hb 0 _ rfl)
  · cases h; exact dl133 (hb 0 _ rfl)
  · cases h; exact dl148 (hb 0 _ rfl)
  · cases h; exact dl172 (hb 0 _ rfl)
  · cases h; exact dl190 (hb 0 _ rfl)
  · cases h; exact dl21 (hb 0 _ rfl) (hb 1 _ rfl)
  · cases h; exact dl54 (hb 0 _ rfl) (hb 1 _ rfl)
  · cases h; exact dl182 (hb 0 _ rfl) (hb 1 _ rfl) (hb 2 _ rfl)
  · cases h; exact dl183 (hb 0 _ rfl) (hb 1 _ rfl) (hb 2 _ rfl)
  · cases h; exact dl184 (hb 0 _ rfl) (hb 1 _ rfl) (hb 2 _ rfl)
  · cases h; exact dl187 (hb 0 _ rfl) (hb 1 _ rfl) (hb 2 _ rfl)
  · cases h; exact dl153 (hb 0 _ rfl) (hb 1 _ rfl) (hb 2 _ rfl)
  · cases h; exact dl154 (hb 0 _ rfl) (hb 1 _ rfl) (hb 2 _ rfl)
  · cases h; exact dl159 (hb 0 _ rfl) (hb 1 _ rfl) (hb 2 _ rfl)
  · cases h; exact dl163 (hb 0 _ rfl) (hb 1 _ rfl) (hb 2 _ rfl)
  · cases h; exact dl167 (hb 0 _ rfl) (hb 1 _ rfl) (hb 2 _ rfl)
  · cases h; exact dl16 (hb 0 _ rfl) (hb 1 _ rfl)
  · cases h; exact dl132 (hb 0 _ rfl) (hb 1 _ rfl) (hb 2 _ rfl)
  · cases h; exact dl188 (hb 0 _ rfl) (hb 1 _ rfl)
  · cases h
/-- rows in their order against the bytes -/
def chk (o : Nat) : List Nat → Nat → List xRow → Bool
  | _, _, [] => true
  | bs, pc, r :: t => Nat.beq r.1 pc && (match dk bs with
    | some (i, n) => decide (i = r.2.2.1) && Nat.beq n (xlen r.2.2.1) && Nat.beq r.2.1 (r.1 + n) && !xtab r && xres o r && chk o (bs.drop n) (pc + n) t
    | none => false)
theorem chk_ok {M : xM} : ∀ (rows : List xRow) (bs : List Nat) (pc : Nat), (∀ k b, bs[k]? = some b → By M.2.2.1 (pc + k) b) → chk M.2.1 bs pc rows = true → rows.all (xrok M) = true
  | [], _, _, _, _ => rfl
  | r :: t, bs, pc, hb, h => by
    unfold chk at h
    rw [Bool.and_eq_true] at h
    obtain ⟨h1, h2⟩ := h
    have e1 := Nat.eq_of_beq_eq_true h1
    split at h2
    · rename_i i n hd
      simp only [Bool.and_eq_true, decide_eq_true_eq, Bool.not_eq_true'] at h2
      obtain ⟨⟨⟨⟨⟨g1, g2⟩, g3⟩, g4⟩, g5⟩, g6⟩ := h2
      have e2 := Nat.eq_of_beq_eq_true g2
      have e3 := Nat.eq_of_beq_eq_true g3
      have hdec := dk_ok hb hd
      rw [List.all_cons, Bool.and_eq_true]
      refine ⟨?_, chk_ok t (bs.drop n) (pc + n) (fun k b hk => ?_) g6⟩
      · unfold xrok
        rw [g4]
        simp only [Bool.false_eq_true, if_false, Bool.and_eq_true, decide_eq_true_eq]
        refine ⟨⟨?_, ?_⟩, g5⟩
        · rw [e1, hdec, g1, e2]
        · rw [e3, e2]
      · rw [List.getElem?_drop] at hk
        have := hb (n + k) b hk
        rwa [← Nat.add_assoc] at this
    · cases h2
set_option maxRecDepth 100000 in
def BL : List Nat := [187, 0, 8, 89, 183, 0, 114, 76, 187, 0, 115, 89, 183, 0, 117, 77, 4, 188, 11, 78, 3, 54, 4, 21, 4, 42, 190, 16, 6, 100, 163, 10, 91, 42, 21, 4, 46, 16, 63, 126, 170, 0, 0, 0, 0, 0, 10, 75, 0, 0, 0, 0, 0, 0, 0, 42, 0, 0, 0, 188, 0, 0, 1, 5, 0, 0, 1, 61, 0, 0, 1, 74, 0, 0, 1, 130, 0, 0, 1, 198, 0, 0, 2, 10, 0, 0, 2, 78, 0, 0, 2, 146, 0, 0, 2, 214, 0, 0, 3, 26, 0, 0, 3, 63, 0, 0, 3, 119, 0, 0, 3, 199, 0, 0, 3, 212, 0, 0, 4, 24, 0, 0, 4, 104, 0, 0, 4, 117, 0, 0, 4, 130, 0, 0, 4, 210, 0, 0, 5, 22, 0, 0, 5, 102, 0, 0, 5, 182, 0, 0, 6, 6, 0, 0, 6, 17, 0, 0, 6, 30, 0, 0, 6, 86, 0, 0, 6, 154, 0, 0, 6, 234, 0, 0, 7, 82, 0, 0, 7, 162, 0, 0, 7, 230, 0, 0, 8, 42, 0, 0, 8, 98, 0, 0, 8, 154, 0, 0, 8, 222, 0, 0, 9, 58, 0, 0, 9, 126, 0, 0, 9, 182, 0, 0, 9, 195, 0, 0, 9, 251, 0, 0, 10, 51, 0, 0, 10, 62, 43, 42, 21, 4, 4, 96, 46, 42, 21, 4, 5, 96, 46, 42, 21, 4, 6, 96, 46, 42, 21, 4, 7, 96, 46, 42, 21, 4, 8, 96, 46, 182, 0, 118, 44, 42, 21, 4, 4, 96, 46, 42, 21, 4, 5, 96, 46, 42, 21, 4, 6, 96, 46, 42, 21, 4, 7, 96, 46, 42, 21, 4, 8, 96, 46, 182, 0, 121, 159, 9, 75, 3, 172, 43, 42, 21, 4, 4, 96, 46, 45, 184, 0, 122, 54, 5, 44, 42, 21, 4, 4, 96, 46, 182, 0, 127, 54, 6, 44, 182, 0, 128, 21, 5, 159, 0, 5, 3, 172, 21, 5, 154, 0, 15, 45, 3, 47, 21, 6, 133, 148, 153, 0, 5, 3, 172, 167, 9, 17, 43, 182, 0, 132, 44, 182, 0, 135, 159, 9, 6, 3, 172, 43, 42, 21, 4, 4, 96, 46, 45, 184, 0, 136, 54, 5, 44, 42, 21, 4, 4, 96, 46, 182, 0, 138, 54, 6, 44, 182, 0, 128, 21, 5, 159, 0, 5, 3, 172, 21, 5, 154, 0, 15, 45, 3, 47, 21, 6, 133, 148, 153, 0, 5, 3, 172, 167, 8, 204, 43, 42, 21, 4, 4, 96, 46, 42, 21, 4, 5, 96, 46, 45, 184, 0, 139, 54, 5, 44, 42, 21, 4, 4, 96, 46, 42, 21, 4, 5, 96, 46, 182, 0, 142, 54, 6, 44, 182, 0, 128, 21, 5, 159, 0, 5, 3, 172, 21, 5, 154, 0, 15, 45, 3, 47, 21, 6, 133, 148, 153, 0, 5, 3, 172, 167, 8, 136, 43, 42, 21, 4, 4, 96, 46, 42, 21, 4, 5, 96, 46, 45, 184, 0, 143, 54, 5, 44, 42, 21, 4, 4, 96, 46, 42, 21, 4, 5, 96, 46, 182, 0, 145, 54, 6, 44, 182, 0, 128, 21, 5, 159, 0, 5, 3, 172, 21, 5, 154, 0, 15, 45, 3, 47, 21, 6, 133, 148, 153, 0, 5, 3, 172, 167, 8, 68, 43, 42, 21, 4, 4, 96, 46, 42, 21, 4, 5, 96, 46, 45, 184, 0, 146, 54, 5, 44, 42, 21, 4, 4, 96, 46, 42, 21, 4, 5, 96, 46, 182, 0, 148, 54, 6, 44, 182, 0, 128, 21, 5, 159, 0, 5, 3, 172, 21, 5, 154, 0, 15, 45, 3, 47, 21, 6, 133, 148, 153, 0, 5, 3, 172, 167, 8, 0, 43, 42, 21, 4, 4, 96, 46, 42, 21, 4, 5, 96, 46, 45, 184, 0, 149, 54, 5, 44, 42, 21, 4, 4, 96, 46, 42, 21, 4, 5, 96, 46, 182, 0, 151, 54, 6, 44, 182, 0, 128, 21, 5, 159, 0, 5, 3, 172, 21, 5, 154, 0, 15, 45, 3, 47, 21, 6, 133, 148, 153, 0, 5, 3, 172, 167, 7, 188, 43, 42, 21, 4, 4, 96, 46, 42, 21, 4, 5, 96, 46, 45, 184, 0, 152, 54, 5, 44, 42, 21, 4, 4, 96, 46, 42, 21, 4, 5, 96, 46, 182, 0, 154, 54, 6, 44, 182, 0, 128, 21, 5, 159, 0, 5, 3, 172, 21, 5, 154, 0, 15, 45, 3, 47, 21, 6, 133, 148, 153, 0, 5, 3, 172, 167, 7, 120, 43, 42, 21, 4, 4, 96, 46, 42, 21, 4, 5, 96, 46, 45, 184, 0, 155, 54, 5, 44, 42, 21, 4, 4, 96, 46, 42, 21, 4, 5, 96, 46, 182, 0, 157, 54, 6, 44, 182, 0, 128, 21, 5, 159, 0, 5, 3, 172, 21, 5, 154, 0, 15, 45, 3, 47, 21, 6, 133, 148, 153, 0, 5, 3, 172, 167, 7, 52, 43, 42, 21, 4, 4, 96, 46, 42, 21, 4, 5, 96, 46, 182, 0, 158, 44, 42, 21, 4, 4, 96, 46, 42, 21, 4, 5, 96, 46, 182, 0, 161, 159, 7, 17, 3, 172, 43, 42, 21, 4, 4, 96, 46, 45, 184, 0, 162, 54, 5, 44, 42, 21, 4, 4, 96, 46, 182, 0, 164, 54, 6, 44, 182, 0, 128, 21, 5, 159, 0, 5, 3, 172, 21, 5, 154, 0, 15, 45, 3, 47, 21, 6, 133, 148, 153, 0, 5, 3, 172, 167, 6, 215, 43, 42, 21, 4, 4, 96, 46, 42, 21, 4, 5, 96, 46, 42, 21, 4, 6, 96, 46, 45, 184, 0, 165, 54, 5, 44, 42, 21, 4, 4, 96, 46, 42, 21, 4, 5, 96, 46, 42, 21, 4, 6, 96, 46, 182, 0, 168, 54, 6, 44, 182, 0, 128, 21, 5, 159, 0, 5, 3, 172, 21, 5, 154, 0, 15, 45, 3, 47, 21, 6, 133, 148, 153, 0, 5, 3, 172, 167, 6, 135, 43, 182, 0, 169, 44, 182, 0, 172, 159, 6, 124, 3, 172, 43, 42, 21, 4, 4, 96, 46, 42, 21, 4, 5, 96, 46, 45, 184, 0, 173, 54, 5, 44, 42, 21, 4, 4, 96, 46, 42, 21, 4, 5, 96, 46, 182, 0, 175, 54, 6, 44, 182, 0, 128, 21, 5, 159, 0, 5, 3, 172, 21, 5, 154, 0, 15, 45, 3, 47, 21, 6, 133, 148, 153, 0, 5, 3, 172, 167, 6, 54, 43, 42, 21, 4, 4, 96, 46, 42, 21, 4, 5, 96, 46, 42, 21, 4, 6, 96, 46, 45, 184, 0, 176, 54, 5, 44, 42, 21, 4, 4, 96, 46, 42, 21, 4, 5, 96, 46, 42, 21, 4, 6, 96, 46, 182, 0, 178, 54, 6, 44, 182, 0, 128, 21, 5, 159, 0, 5, 3, 172, 21, 5, 154, 0, 15, 45, 3, 47, 21, 6, 133, 148, 153, 0, 5, 3, 172, 167, 5, 230, 43, 182, 0, 179, 44, 182, 0, 182, 159, 5, 219, 3, 172, 43, 182, 0, 183, 44, 182, 0, 186, 159, 5, 206, 3, 172, 43, 42, 21, 4, 4, 96, 46, 42, 21, 4, 5, 96, 46, 42, 21, 4, 6, 96, 46, 45, 184, 0, 187, 54, 5, 44, 42, 21, 4, 4, 96, 46, 42, 21, 4, 5, 96, 46, 42, 21, 4, 6, 96, 46, 182, 0, 189, 54, 6, 44, 182, 0, 128, 21, 5, 159, 0, 5, 3, 172, 21, 5, 154, 0, 15, 45, 3, 47, 21, 6, 133, 148, 153, 0, 5, 3, 172, 167, 5, 124, 43, 42, 21, 4, 4, 96, 46, 42, 21, 4, 5, 96, 46, 45, 184, 0, 190, 54, 5, 44, 42, 21, 4, 4, 96, 46, 42, 21, 4, 5, 96, 46, 182, 0, 192, 54, 6, 44, 182, 0, 128, 21, 5, 159, 0, 5, 3, 172, 21, 5, 154, 0, 15, 45, 3, 47, 21, 6, 133, 148, 153, 0, 5, 3, 172, 167, 5, 56, 43, 42, 21, 4, 4, 96, 46, 42, 21, 4, 5, 96, 46, 42, 21, 4, 6, 96, 46, 45, 184, 0, 193, 54, 5, 44, 42, 21, 4, 4, 96, 46, 42, 21, 4, 5, 96, 46, 42, 21, 4, 6, 96, 46, 182, 0, 195, 54, 6, 44, 182, 0, 128, 21, 5, 159, 0, 5, 3, 172, 21, 5, 154, 0, 15, 45, 3, 47, 21, 6, 133, 148, 153, 0, 5, 3, 172, 167, 4, 232, 43, 42, 21, 4, 4, 96, 46, 42, 21, 4, 5, 96, 46, 42, 21, 4, 6, 96, 46, 45, 184, 0, 196, 54, 5, 44, 42, 21, 4, 4, 96, 46, 42, 21, 4, 5, 96, 46, 42, 21, 4, 6, 96, 46, 182, 0, 198, 54, 6, 44, 182, 0, 128, 21, 5, 159, 0, 5, 3, 172, 21, 5, 154, 0, 15, 45, 3, 47, 21, 6, 133, 148, 153, 0, 5, 3, 172, 167, 4, 152, 43, 42, 21, 4, 4, 96, 46, 42, 21, 4, 5, 96, 46, 42, 21, 4, 6, 96, 46, 45, 184, 0, 199, 54, 5, 44, 42, 21, 4, 4, 96, 46, 42, 21, 4, 5, 96, 46, 42, 21, 4, 6, 96, 46, 182, 0, 201, 54, 6, 44, 182, 0, 128, 21, 5, 159, 0, 5, 3, 172, 21, 5, 154, 0, 15, 45, 3, 47, 21, 6, 133, 148, 153, 0, 5, 3, 172, 167, 4, 72, 43, 182, 0, 202, 44, 182, 0, 205, 167, 4, 61, 43, 182, 0, 206, 44, 182, 0, 209, 159, 4, 50, 3, 172, 43, 42, 21, 4, 4, 96, 46, 45, 184, 0, 210, 54, 5, 44, 42, 21, 4, 4, 96, 46, 182, 0, 212, 54, 6, 44, 182, 0, 128, 21, 5, 159, 0, 5, 3, 172, 21, 5, 154, 0, 15, 45, 3, 47, 21, 6, 133, 148, 153, 0, 5, 3, 172, 167, 3, 248, 43, 42, 21, 4, 4, 96, 46, 42, 21, 4, 5, 96, 46, 45, 184, 0, 213, 54, 5, 44, 42, 21, 4, 4, 96, 46, 42, 21, 4, 5, 96, 46, 182, 0, 215, 54, 6, 44, 182, 0, 128, 21, 5, 159, 0, 5, 3, 172, 21, 5, 154, 0, 15, 45, 3, 47, 21, 6, 133, 148, 153, 0, 5, 3, 172, 167, 3, 180, 43, 42, 21, 4, 4, 96, 46, 42, 21, 4, 5, 96, 46, 42, 21, 4, 6, 96, 46, 45, 184, 0, 216, 54, 5, 44, 42, 21, 4, 4, 96, 46, 42, 21, 4, 5, 96, 46, 42, 21, 4, 6, 96, 46, 182, 0, 218, 54, 6, 44, 182, 0, 128, 21, 5, 159, 0, 5, 3, 172, 21, 5, 154, 0, 15, 45, 3, 47, 21, 6, 133, 148, 153, 0, 5, 3, 172, 167, 3, 100, 43, 42, 21, 4, 4, 96, 46, 42, 21, 4, 5, 96, 46, 42, 21, 4, 6, 96, 46, 42, 21, 4, 7, 96, 46, 42, 21, 4, 8, 96, 46, 45, 184, 0, 219, 54, 5, 44, 42, 21, 4, 4, 96, 46, 42, 21, 4, 5, 96, 46, 42, 21, 4, 6, 96, 46, 42, 21, 4, 7, 96, 46, 42, 21, 4, 8, 96, 46, 182, 0, 222, 54, 6, 44, 182, 0, 128, 21, 5, 159, 0, 5, 3, 172, 21, 5, 154, 0, 15, 45, 3, 47, 21, 6, 133, 148, 153, 0, 5, 3, 172, 167, 2, 252, 43, 42, 21, 4, 4, 96, 46, 42, 21, 4, 5, 96, 46, 42, 21, 4, 6, 96, 46, 45, 184, 0, 223, 54, 5, 44, 42, 21, 4, 4, 96, 46, 42, 21, 4, 5, 96, 46, 42, 21, 4, 6, 96, 46, 182, 0, 225, 54, 6, 44, 182, 0, 128, 21, 5, 159, 0, 5, 3, 172, 21, 5, 154, 0, 15, 45, 3, 47, 21, 6, 133, 148, 153, 0, 5, 3, 172, 167, 2, 172, 43, 42, 21, 4, 4, 96, 46, 42, 21, 4, 5, 96, 46, 45, 184, 0, 226, 54, 5, 44, 42, 21, 4, 4, 96, 46, 42, 21, 4, 5, 96, 46, 182, 0, 228, 54, 6, 44, 182, 0, 128, 21, 5, 159, 0, 5, 3, 172, 21, 5, 154, 0, 15, 45, 3, 47, 21, 6, 133, 148, 153, 0, 5, 3, 172, 167, 2, 104, 43, 42, 21, 4, 4, 96, 46, 42, 21, 4, 5, 96, 46, 45, 184, 0, 229, 54, 5, 44, 42, 21, 4, 4, 96, 46, 42, 21, 4, 5, 96, 46, 182, 0, 231, 54, 6, 44, 182, 0, 128, 21, 5, 159, 0, 5, 3, 172, 21, 5, 154, 0, 15, 45, 3, 47, 21, 6, 133, 148, 153, 0, 5, 3, 172, 167, 2, 36, 43, 42, 21, 4, 4, 96, 46, 45, 184, 0, 232, 54, 5, 44, 42, 21, 4, 4, 96, 46, 182, 0, 234, 54, 6, 44, 182, 0, 128, 21, 5, 159, 0, 5, 3, 172, 21, 5, 154, 0, 15, 45, 3, 47, 21, 6, 133, 148, 153, 0, 5, 3, 172, 167, 1, 236, 43, 42, 21, 4, 4, 96, 46, 45, 184, 0, 235, 54, 5, 44, 42, 21, 4, 4, 96, 46, 182, 0, 237, 54, 6, 44, 182, 0, 128, 21, 5, 159, 0, 5, 3, 172, 21, 5, 154, 0, 15, 45, 3, 47, 21, 6, 133, 148, 153, 0, 5, 3, 172, 167, 1, 180, 43, 42, 21, 4, 4, 96, 46, 42, 21, 4, 5, 96, 46, 45, 184, 0, 238, 54, 5, 44, 42, 21, 4, 4, 96, 46, 42, 21, 4, 5, 96, 46, 182, 0, 240, 54, 6, 44, 182, 0, 128, 21, 5, 159, 0, 5, 3, 172, 21, 5, 154, 0, 15, 45, 3, 47, 21, 6, 133, 148, 153, 0, 5, 3, 172, 167, 1, 112, 43, 42, 21, 4, 4, 96, 46, 42, 21, 4, 5, 96, 46, 42, 21, 4, 6, 96, 46, 42, 21, 4, 7, 96, 46, 45, 184, 0, 241, 54, 5, 44, 42, 21, 4, 4, 96, 46, 42, 21, 4, 5, 96, 46, 42, 21, 4, 6, 96, 46, 42, 21, 4, 7, 96, 46, 182, 0, 244, 54, 6, 44, 182, 0, 128, 21, 5, 159, 0, 5, 3, 172, 21, 5, 154, 0, 15, 45, 3, 47, 21, 6, 133, 148, 153, 0, 5, 3, 172, 167, 1, 20, 43, 42, 21, 4, 4, 96, 46, 42, 21, 4, 5, 96, 46, 45, 184, 0, 245, 54, 5, 44, 42, 21, 4, 4, 96, 46, 42, 21, 4, 5, 96, 46, 182, 0, 247, 54, 6, 44, 182, 0, 128, 21, 5, 159, 0, 5, 3, 172, 21, 5, 154, 0, 15, 45, 3, 47, 21, 6, 133, 148, 153, 0, 5, 3, 172, 167, 0, 208, 43, 42, 21, 4, 4, 96, 46, 45, 184, 0, 248, 54, 5, 44, 42, 21, 4, 4, 96, 46, 182, 0, 250, 54, 6, 44, 182, 0, 128, 21, 5, 159, 0, 5, 3, 172, 21, 5, 154, 0, 15, 45, 3, 47, 21, 6, 133, 148, 153, 0, 5, 3, 172, 167, 0, 152, 43, 182, 0, 251, 44, 182, 0, 254, 159, 0, 141, 3, 172, 43, 42, 21, 4, 4, 96, 46, 45, 184, 0, 255, 54, 5, 44, 42, 21, 4, 4, 96, 46, 182, 1, 1, 54, 6, 44, 182, 0, 128, 21, 5, 159, 0, 5, 3, 172, 21, 5, 154, 0, 15, 45, 3, 47, 21, 6, 133, 148, 153, 0, 5, 3, 172, 167, 0, 83, 43, 42, 21, 4, 4, 96, 46, 45, 184, 1, 2, 54, 5, 44, 42, 21, 4, 4, 96, 46, 182, 1, 4, 54, 6, 44, 182, 0, 128, 21, 5, 159, 0, 5, 3, 172, 21, 5, 154, 0, 15, 45, 3, 47, 21, 6, 133, 148, 153, 0, 5, 3, 172, 167, 0, 27, 43, 182, 1, 5, 44, 182, 1, 8, 167, 0, 16, 43, 182, 1, 9, 44, 182, 1, 13, 159, 0, 5, 3, 172, 132, 4, 6, 167, 245, 161, 4, 172]
set_option maxRecDepth 100000 in
theorem BL_ok : code.data.toList.map UInt8.toNat = BL := by decide +kernel
theorem BL_by {k b : Nat} (h : BL[k]? = some b) : By code k b := by
  rw [← BL_ok, List.getElem?_map] at h
  cases hq : code.data.toList[k]? with
  | none => rw [hq] at h; cases h
  | some x =>
    rw [hq] at h
    cases h
    rw [Array.getElem?_toList] at hq
    obtain ⟨h1, h2⟩ := Array.getElem?_eq_some_iff.mp hq
    exact ⟨h1, congrArg UInt8.toNat h2⟩
theorem BL_from (s : Nat) : ∀ k b, (BL.drop s)[k]? = some b → By code (s + k) b := fun k b h => by
  rw [List.getElem?_drop] at h
  exact BL_by h
