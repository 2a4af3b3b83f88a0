/-! THE FAIR IN NUMBERS: F.1 i k: 0 people (1 x, 2 y, 3 skill), 4 needles (5 x, 6 y, 7 reach, 8 rust), 9 sayings (10 hour, 11 who, 12 degree); F.2.1, F.2.2: the two rules, as functions of their values -/
abbrev Gr : Type := Option ((Nat → Int32) → Int32)
abbrev Fr : Type := (Nat → Nat → Nat) × Gr × Gr
def dif (a b : Nat) : Nat := if a < b then b - a else a - b
def far (F : Fr) (n p : Nat) : Nat := if dif (F.1 1 p) (F.1 5 n) < dif (F.1 2 p) (F.1 6 n) then dif (F.1 2 p) (F.1 6 n) else dif (F.1 1 p) (F.1 5 n)
def vt (dg sk fa re ru ho : Nat) : Nat → Int32
  | 0 => nI dg
  | 1 => nI sk
  | 2 => nI fa
  | 3 => nI re
  | 4 => nI ru
  | 5 => nI ho
  | _ => 0
def tn (g : Gr) (dg sk fa re ru ho : Nat) : Bool := decide (0 < dg) && (match g with
  | none => decide (fa ≤ re) && decide (ru < dg)
  | some g => decide (0 < g (vt dg sk fa re ru ho)))
/-- needle n hears a lie of p of this degree in this hour -/
def hl (F : Fr) (n p dg ho : Nat) : Bool := tn F.2.1 dg (F.1 3 p) (far F n p) (F.1 7 n) (F.1 8 n) ho
/-- needle n, with this rust, hears saying s -/
def hu (F : Fr) (n ru s : Nat) : Bool := tn F.2.1 (F.1 12 s) (F.1 3 (F.1 11 s)) (far F n (F.1 11 s)) (F.1 7 n) ru (F.1 10 s)
def hr (F : Fr) (n s : Nat) : Bool := hl F n (F.1 11 s) (F.1 12 s) (F.1 10 s)
/-- of the sayings s below k with B s: the latest hour up to h, and 1; 0: none -/
def l1 (F : Fr) (B : Nat → Bool) (h : Nat) : Nat → Nat
  | 0 => 0
  | k + 1 => if B k && (decide (F.1 10 k ≤ h) && decide (l1 F B h k ≤ F.1 10 k)) then F.1 10 k + 1 else l1 F B h k
def dx (F : Fr) (n p : Nat) : Int := (F.1 1 p : Int) - (F.1 5 n : Int)
def dy (F : Fr) (n p : Nat) : Int := (F.1 2 p : Int) - (F.1 6 n : Int)
def mv (F : Fr) (n p : Nat) : Bool := decide (dx F n p ≠ 0) || decide (dy F n p ≠ 0)
/-- the ways from needle n to those who said s below k with B s -/
def wx (F : Fr) (n : Nat) (B : Nat → Bool) : Nat → Int
  | 0 => 0
  | k + 1 => if B k then wx F n B k + dx F n (F.1 11 k) else wx F n B k
def wy (F : Fr) (n : Nat) (B : Nat → Bool) : Nat → Int
  | 0 => 0
  | k + 1 => if B k then wy F n B k + dy F n (F.1 11 k) else wy F n B k
def wm (F : Fr) (n : Nat) (B : Nat → Bool) : Nat → Bool
  | 0 => false
  | k + 1 => if B k then wm F n B k || mv F n (F.1 11 k) else wm F n B k
/-- what is shown by a sum of ways -/
def sg (a b : Int) (m : Bool) : Nat := if m then (if a = 0 ∧ b = 0 then 9 else sd a b) else 8
def sB (F : Fr) (n : Nat) (B : Nat → Bool) : Nat := sg (wx F n B (F.1 9 0)) (wy F n B (F.1 9 0)) (wm F n B (F.1 9 0))
/-- what needle n shows in hour h if it hears the sayings B -/
def shB (F : Fr) (n : Nat) (B : Nat → Bool) (h : Nat) : Int32 := if l1 F B h (F.1 9 0) = 0 then -1 else nI (sB F n (fun s => B s && decide (F.1 10 s + 1 = l1 F B h (F.1 9 0))))
def sh (F : Fr) (n h : Nat) : Int32 := shB F n (hr F n) h
def m1 (k : Nat) : Int32 := nI k - 1
def la (F : Fr) (n h : Nat) : Int32 := m1 (l1 F (hr F n) h (F.1 9 0))
/-- the side from needle n to p -/
def sid (F : Fr) (n p : Nat) : Int32 := nI (sd (dx F n p) (dy F n p))
/-- whether what is shown points at p -/
def pt (F : Fr) (n p : Nat) (v : Int32) : Bool := decide (v ≠ 8) && decide (v = sid F n p)
def fl (F : Fr) (n p : Nat) (v : Int32) : Bool := decide (v = 8) && decide (v = sid F n p)
def vc (po fa sk sa ho : Nat) : Nat → Int32
  | 0 => nI po
  | 1 => nI fa
  | 2 => nI sk
  | 3 => nI sa
  | 4 => nI ho
  | _ => 0
/-- what the court reckons of p: v what each needle shows, sa how often he has spoken, ms which needles count -/
def wgh (F : Fr) (v : Nat → Int32) (sa : Nat → Nat) (ho : Nat) (ms : Nat → Bool) (p : Nat) : Int32 := match F.2.2 with
  | none => nI (cF (fun n => ms n && pt F n p (v n)) (F.1 4 0))
  | some g => g (vc (cF (fun n => ms n && pt F n p (v n)) (F.1 4 0)) (cF (fun n => ms n && fl F n p (v n)) (F.1 4 0)) (F.1 3 p) (sa p) ho)
/-- the first that has the most, above 0: who, and how much -/
def bst (w : Nat → Int32) : Nat → Int32 × Int32
  | 0 => (-1, 0)
  | p + 1 => if (bst w p).2 < w p then (nI p, w p) else bst w p
theorem bst_cong {w u : Nat → Int32} : ∀ {n : Nat}, (∀ i, i < n → w i = u i) → bst w n = bst u n
  | 0, _ => rfl
  | n + 1, h => by
    unfold bst
    rw [bst_cong (fun i hi => h i (by omega)), h n (by omega)]
def acc (F : Fr) (v : Nat → Int32) (sa : Nat → Nat) (ho : Nat) (ms : Nat → Bool) : Int32 := (bst (wgh F v sa ho ms) (F.1 0 0)).1
/-- how often p has spoken up to an hour -/
def sai (F : Fr) (h p : Nat) : Nat := cF (fun s => decide (F.1 11 s = p) && decide (F.1 10 s ≤ h)) (F.1 9 0)
/-- the bounds that every fair keeps -/
def RG (F : Fr) : Prop := F.1 0 0 ≤ 10 ∧ F.1 4 0 ≤ 6 ∧ F.1 9 0 ≤ 16 ∧ (∀ p, p < F.1 0 0 → F.1 1 p ≤ 40 ∧ F.1 2 p ≤ 40 ∧ F.1 3 p ≤ 9) ∧ (∀ n, n < F.1 4 0 → F.1 5 n ≤ 40 ∧ F.1 6 n ≤ 40 ∧ F.1 7 n ≤ 60 ∧ F.1 8 n ≤ 9) ∧ ∀ s, s < F.1 9 0 → F.1 10 s < 100 ∧ F.1 11 s < F.1 0 0 ∧ F.1 12 s ≤ 9
/-- cells that stand as they stood, but for these -/
def sm (S : List Nat) (d d' : Nat → Nat → Int32) : Prop := ∀ c, c ∉ S → d' c = d c
theorem sm_rfl {S : List Nat} {d : Nat → Nat → Int32} : sm S d d := fun _ _ => rfl
theorem sm_tr {S T U : List Nat} {d d' d'' : Nat → Nat → Int32} (h : sm S d d') (h' : sm T d' d'') (hs : ∀ c, c ∈ S ∨ c ∈ T → c ∈ U) : sm U d d'' := fun c hc => (h' c (fun z => hc (hs c (Or.inr z)))).trans (h c (fun z => hc (hs c (Or.inl z))))
theorem sm_in {S U : List Nat} {d d' : Nat → Nat → Int32} (h : sm S d d') (hs : ∀ c, c ∈ S → c ∈ U) : sm U d d' := fun c hc => h c (fun z => hc (hs c z))
theorem sm_up {S : List Nat} {d d' : Nat → Nat → Int32} {b k : Nat} {x : Int32} (h : sm S d d') (hb : b ∈ S) : sm S d (up2 d' b k x) := fun c hc => (up2_ne (c' := c) (c := b) (fun z => hc (by rw [z]; exact hb))).trans (h c hc)
theorem sm_uC {S : List Nat} {d d' : Nat → Nat → Int32} {b : Nat} {f : Nat → Int32} (h : sm S d d') (hb : b ∈ S) : sm S d (upC d' b f) := fun c hc => (upC_ne (c := c) (b := b) (fun z => hc (by rw [z]; exact hb))).trans (h c hc)
/-- the component's rule b over nv values is g -/
def RlC (d : Nat → Nat → Int32) (b nv : Nat) (g : Gr) : Prop := match g with
  | none => d b 0 = 0
  | some g => ∃ T : List Int32, 0 < T.length ∧ T.length ≤ 700 ∧ d b 0 = nI T.length ∧ (∀ (i : Nat) (t : Int32), T[i]? = some t → d (b + 1) i = t) ∧ wfA T 0 = true ∧ ∀ vals : Nat → Int32, evA (fun i => if inB i nv then vals i.toInt.toNat else 0) T 0 (fun _ => 0) = g vals
/-- the component's live fair is F -/
def HC (d : Nat → Nat → Int32) (F : Fr) : Prop := d 25 0 = nI (F.1 0 0) ∧ d 29 0 = nI (F.1 4 0) ∧ d 34 0 = nI (F.1 9 0) ∧ (∀ p, p < F.1 0 0 → d 26 p = nI (F.1 1 p) ∧ d 27 p = nI (F.1 2 p) ∧ d 28 p = nI (F.1 3 p)) ∧ (∀ n, n < F.1 4 0 → d 30 n = nI (F.1 5 n) ∧ d 31 n = nI (F.1 6 n) ∧ d 32 n = nI (F.1 7 n) ∧ d 33 n = nI (F.1 8 n)) ∧ (∀ s, s < F.1 9 0 → d 35 s = nI (F.1 10 s) ∧ d 36 s = nI (F.1 11 s) ∧ d 37 s = nI (F.1 12 s)) ∧ RlC d 38 6 F.2.1 ∧ RlC d 41 5 F.2.2
def HCc : List Nat := [25, 26, 27, 28, 29, 30, 31, 32, 33, 34, 35, 36, 37, 38, 39, 41, 42]
theorem HC_sm {S : List Nat} {d d' : Nat → Nat → Int32} {F : Fr} (H : HC d F) (h : sm S d d') (hS : ∀ c, c ∈ HCc → c ∉ S) : HC d' F := by
  have e : ∀ c, c ∈ HCc → d' c = d c := fun c hc => h c (hS c hc)
  unfold HC RlC at H ⊢
  rw [e 25 (by decide), e 26 (by decide), e 27 (by decide), e 28 (by decide), e 29 (by decide), e 30 (by decide), e 31 (by decide), e 32 (by decide), e 33 (by decide), e 34 (by decide), e 35 (by decide), e 36 (by decide), e 37 (by decide), e 38 (by decide), e 39 (by decide), e 41 (by decide), e 42 (by decide)]
  exact H
