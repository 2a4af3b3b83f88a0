/-! RULES: an EXPR as tokens (numbers 0 and up, values -1 - index, operators -11 to -19), reckoned over a pile -/
def evj (t a b : Int32) : Int32 :=
  if t = -11 then (if a ≠ 0 ∨ b ≠ 0 then 1 else 0)
  else if t = -12 then (if a ≠ 0 ∧ b ≠ 0 then 1 else 0)
  else if t = -13 then (if a < b then 1 else 0)
  else if t = -14 then (if a = b then 1 else 0)
  else if t = -15 then a + b
  else if t = -16 then a - b
  else if t = -17 then a * b
  else (if b = 0 then 0 else a / b)
def evA (vals : Int32 → Int32) : List Int32 → Nat → (Nat → Int32) → Int32
  | [], m, f => if 0 < m then f 0 else 0
  | t :: r, m, f => if -11 < t then evA vals r (m + 1) (upd f m (if 0 ≤ t then t else vals (-1 - t)))
    else if t = -19 then evA vals r m (upd f (m - 1) (if f (m - 1) = 0 then 1 else 0))
    else evA vals r (m - 1) (upd f (m - 2) (evj t (f (m - 2)) (f (m - 1))))
/-- the pile never runs empty and never grows beyond 40 -/
def wfA : List Int32 → Nat → Bool
  | [], m => decide (0 < m)
  | t :: r, m => if -11 < t then decide (m < 40) && wfA r (m + 1) else if t = -19 then decide (0 < m) && wfA r m else decide (1 < m) && wfA r (m - 1)
theorem evA_cong (vals : Int32 → Int32) : ∀ (T : List Int32) (m : Nat) (f g : Nat → Int32), wfA T m = true → (∀ i, i < m → f i = g i) → evA vals T m f = evA vals T m g
  | [], m, f, g, h, e => by
    have h' : 0 < m := of_decide_eq_true h
    simp only [evA, h', if_true]
    exact e 0 h'
  | t :: r, m, f, g, h, e => by
    unfold wfA at h
    unfold evA
    split
    · rename_i ht
      rw [if_pos ht, Bool.and_eq_true] at h
      refine evA_cong vals r (m + 1) _ _ h.2 fun i hi => ?_
      by_cases hm : i = m
      · rw [hm, pk_us, pk_us]
      · rw [pk_un hm, pk_un hm]
        exact e i (by omega)
    · rename_i ht
      rw [if_neg ht] at h
      split
      · rename_i ht2
        rw [if_pos ht2, Bool.and_eq_true, decide_eq_true_eq] at h
        refine evA_cong vals r m _ _ h.2 fun i hi => ?_
        by_cases hm : i = m - 1
        · rw [hm, pk_us, pk_us, e (m - 1) (by omega)]
        · rw [pk_un hm, pk_un hm]
          exact e i hi
      · rename_i ht2
        rw [if_neg ht2, Bool.and_eq_true, decide_eq_true_eq] at h
        refine evA_cong vals r (m - 1) _ _ h.2 fun i hi => ?_
        by_cases hm : i = m - 2
        · rw [hm, pk_us, pk_us, e (m - 1) (by omega), e (m - 2) (by omega)]
        · rw [pk_un hm, pk_un hm]
          exact e i (by omega)
section
variable (d : Nat → Nat → Int32) (L : Nat → Nat → Int64)
def vlA (d : Nat → Nat → Int32) (v nv : Nat) (i : Int32) : Int32 := if inB i nv then d v i.toInt.toNat else 0
set_option maxRecDepth 100000 in
set_option maxHeartbeats 4000000 in
theorem c_valueAt {v nv : Nat} (hv : (v = 70 ∧ nv = 6) ∨ (v = 80 ∧ nv = 5)) (i : Int32) : Cn mX6_valueAt false 1 0 0 [.ref v, .int i] (W0 d L) (fun r h => r = some (.int (vlA d v nv i)) ∧ h = W0 d L) := by
  have hr := i32_rng i
  rcases hv with ⟨rfl, rfl⟩ | ⟨rfl, rfl⟩
  · refine Cn.intro gX6_valueAt rfl (Nat.le_of_ble_eq_true rfl) rfl ?_
    repeat refine x_s rfl rfl ?_
    refine x_br rfl rfl (fun c => ?_) (fun c => ?_)
    · repeat refine x_s rfl rfl ?_
      refine x_iret rfl rfl rfl ⟨?_, rfl⟩
      have : inB i 6 = false := by simp [inB]; have := lt0.mp c; omega
      simp [vlA, this]
    repeat refine x_s rfl rfl ?_
    have c' := mt lt0.mpr c
    refine x_br rfl rfl (fun c2 => ?_) (fun c2 => ?_)
    · repeat refine x_s rfl rfl ?_
      refine x_iret rfl rfl rfl ⟨?_, rfl⟩
      have h2 := ile.mp c2
      rw [nI_toI (by decide)] at h2
      have : inB i 6 = false := by simp [inB]; omega
      simp [vlA, this]
    · have h2 := mt ile.mpr c2
      rw [nI_toI (by decide)] at h2
      have hb : inB i 6 = true := by simp [inB]; omega
      obtain ⟨k, hk, hk2, rfl⟩ := inB_of hb
      repeat refine x_s rfl rfl ?_
      refine x_ald rfl rfl rfl rfl (k := k) hk (by decide) rfl ?_
      repeat refine x_s rfl rfl ?_
      refine x_iret rfl rfl rfl ⟨?_, rfl⟩
      simp [vlA, hb, nI_toI hk2]
  · refine Cn.intro gX6_valueAt rfl (Nat.le_of_ble_eq_true rfl) rfl ?_
    repeat refine x_s rfl rfl ?_
    refine x_br rfl rfl (fun c => ?_) (fun c => ?_)
    · repeat refine x_s rfl rfl ?_
      refine x_iret rfl rfl rfl ⟨?_, rfl⟩
      have : inB i 5 = false := by simp [inB]; have := lt0.mp c; omega
      simp [vlA, this]
    repeat refine x_s rfl rfl ?_
    have c' := mt lt0.mpr c
    refine x_br rfl rfl (fun c2 => ?_) (fun c2 => ?_)
    · repeat refine x_s rfl rfl ?_
      refine x_iret rfl rfl rfl ⟨?_, rfl⟩
      have h2 := ile.mp c2
      rw [nI_toI (by decide)] at h2
      have : inB i 5 = false := by simp [inB]; omega
      simp [vlA, this]
    · have h2 := mt ile.mpr c2
      rw [nI_toI (by decide)] at h2
      have hb : inB i 5 = true := by simp [inB]; omega
      obtain ⟨k, hk, hk2, rfl⟩ := inB_of hb
      repeat refine x_s rfl rfl ?_
      refine x_ald rfl rfl rfl rfl (k := k) hk (by decide) rfl ?_
      repeat refine x_s rfl rfl ?_
      refine x_iret rfl rfl rfl ⟨?_, rfl⟩
      simp [vlA, hb, nI_toI hk2]
set_option maxRecDepth 100000 in
set_option maxHeartbeats 4000000 in
theorem c_join (t a b : Int32) : Cn mX6_join false 1 0 0 [.int t, .int a, .int b] (W0 d L) (fun r h => r = some (.int (evj t a b)) ∧ h = W0 d L) := by
  refine Cn.intro gX6_join rfl (Nat.le_of_ble_eq_true rfl) rfl ?_
  refine x_s rfl rfl ?_
  have hr := i32_rng t
  by_cases h1 : t = -11
  · subst h1
    refine x_tsw (i := .iadd) (tgt := 44) rfl (Or.inl ⟨by decide, 43, rfl, by decide⟩) ?_
    repeat' (first | refine x_s rfl rfl ?_ | refine x_br rfl rfl (fun c => ?_) (fun c => ?_))
    all_goals refine x_iret rfl rfl rfl ⟨congrArg (fun z => some (Value.int z)) ?_, rfl⟩
    all_goals simp_all [evj]
  by_cases h2 : t = -12
  · subst h2
    refine x_tsw (i := .iadd) (tgt := 58) rfl (Or.inl ⟨by decide, 57, rfl, by decide⟩) ?_
    repeat' (first | refine x_s rfl rfl ?_ | refine x_br rfl rfl (fun c => ?_) (fun c => ?_))
    all_goals refine x_iret rfl rfl rfl ⟨congrArg (fun z => some (Value.int z)) ?_, rfl⟩
    all_goals simp_all [evj]
  by_cases h3 : t = -13
  · subst h3
    refine x_tsw (i := .iadd) (tgt := 72) rfl (Or.inl ⟨by decide, 71, rfl, by decide⟩) ?_
    repeat' (first | refine x_s rfl rfl ?_ | refine x_br rfl rfl (fun c => ?_) (fun c => ?_))
    · refine x_iret rfl rfl rfl ⟨congrArg (fun z => some (Value.int z)) ?_, rfl⟩
      have : ¬ a < b := Int32.not_lt.mpr c
      simp [evj, this]
    · refine x_iret rfl rfl rfl ⟨congrArg (fun z => some (Value.int z)) ?_, rfl⟩
      have : a < b := Int32.not_le.mp c
      simp [evj, this]
  by_cases h4 : t = -14
  · subst h4
    refine x_tsw (i := .iadd) (tgt := 83) rfl (Or.inl ⟨by decide, 82, rfl, by decide⟩) ?_
    repeat' (first | refine x_s rfl rfl ?_ | refine x_br rfl rfl (fun c => ?_) (fun c => ?_))
    all_goals refine x_iret rfl rfl rfl ⟨congrArg (fun z => some (Value.int z)) ?_, rfl⟩
    all_goals simp_all [evj]
  by_cases h5 : t = -15
  · subst h5
    refine x_tsw (i := .iadd) (tgt := 94) rfl (Or.inl ⟨by decide, 93, rfl, by decide⟩) ?_
    repeat refine x_s rfl rfl ?_
    exact x_iret rfl rfl rfl ⟨rfl, rfl⟩
  by_cases h6 : t = -16
  · subst h6
    refine x_tsw (i := .iadd) (tgt := 98) rfl (Or.inl ⟨by decide, 97, rfl, by decide⟩) ?_
    repeat refine x_s rfl rfl ?_
    exact x_iret rfl rfl rfl ⟨rfl, rfl⟩
  by_cases h7 : t = -17
  · subst h7
    refine x_tsw (i := .iadd) (tgt := 102) rfl (Or.inl ⟨by decide, 101, rfl, by decide⟩) ?_
    repeat refine x_s rfl rfl ?_
    exact x_iret rfl rfl rfl ⟨rfl, rfl⟩
  have hout : t.toInt < -17 ∨ -11 < t.toInt := by
    have e : ∀ k : Int32, t ≠ k → t.toInt ≠ k.toInt := fun k hk z => hk (Int32.toInt_inj.mp z)
    have a1 := e _ h1
    have a2 := e _ h2
    have a3 := e _ h3
    have a4 := e _ h4
    have a5 := e _ h5
    have a6 := e _ h6
    have a7 := e _ h7
    simp only [show (-11 : Int32).toInt = -11 from rfl, show (-12 : Int32).toInt = -12 from rfl, show (-13 : Int32).toInt = -13 from rfl, show (-14 : Int32).toInt = -14 from rfl, show (-15 : Int32).toInt = -15 from rfl, show (-16 : Int32).toInt = -16 from rfl, show (-17 : Int32).toInt = -17 from rfl] at a1 a2 a3 a4 a5 a6 a7
    omega
  refine x_tsw (i := .iadd) (tgt := 106) rfl (Or.inr ⟨hout, by decide⟩) ?_
  refine x_s rfl rfl ?_
  refine x_br rfl rfl (fun c => ?_) (fun c => ?_)
  · repeat refine x_s rfl rfl ?_
    refine x_idiv rfl c ?_
    refine x_iret rfl rfl rfl ⟨congrArg (fun z => some (Value.int z)) ?_, rfl⟩
    simp [evj, h1, h2, h3, h4, h5, h6, h7, c]
  · repeat refine x_s rfl rfl ?_
    refine x_iret rfl rfl rfl ⟨congrArg (fun z => some (Value.int z)) ?_, rfl⟩
    simp [evj, h1, h2, h3, h4, h5, h6, h7, c]
end
