/-! The memory as a pure value: kinds, lengths, fields by number and address, rows by address, the heap's size. -/
abbrev Mm : Type := (Nat → Nat) × (Nat → Nat) × (Nat → Nat → Int32) × (Nat → Nat → Int64) × (Nat → Nat → Option Nat) × (Nat → Nat → Int32) × (Nat → Nat → Int64) × (Nat → Nat → Option Nat) × Nat
def mK (M : Mm) : Nat → Nat := M.1
def mN (M : Mm) : Nat → Nat := M.2.1
def mI (M : Mm) : Nat → Nat → Int32 := M.2.2.1
def mJ (M : Mm) : Nat → Nat → Int64 := M.2.2.2.1
def mR (M : Mm) : Nat → Nat → Option Nat := M.2.2.2.2.1
def mA (M : Mm) : Nat → Nat → Int32 := M.2.2.2.2.2.1
def mB (M : Mm) : Nat → Nat → Int64 := M.2.2.2.2.2.2.1
def mQ (M : Mm) : Nat → Nat → Option Nat := M.2.2.2.2.2.2.2.1
def mS (M : Mm) : Nat := M.2.2.2.2.2.2.2.2
def up2 {α : Type} (f : Nat → Nat → α) (k a : Nat) (v : α) : Nat → Nat → α := fun x y => if x = k then (if y = a then v else f x y) else f x y
def sI (M : Mm) (k a : Nat) (v : Int32) : Mm := (mK M, mN M, up2 (mI M) k a v, mJ M, mR M, mA M, mB M, mQ M, mS M)
def sJ (M : Mm) (k a : Nat) (v : Int64) : Mm := (mK M, mN M, mI M, up2 (mJ M) k a v, mR M, mA M, mB M, mQ M, mS M)
def sR (M : Mm) (k a : Nat) (v : Option Nat) : Mm := (mK M, mN M, mI M, mJ M, up2 (mR M) k a v, mA M, mB M, mQ M, mS M)
def sA (M : Mm) (a : Nat) (g : Nat → Int32) : Mm := (mK M, mN M, mI M, mJ M, mR M, va_up (mA M) a g, mB M, mQ M, mS M)
def sB (M : Mm) (a : Nat) (g : Nat → Int64) : Mm := (mK M, mN M, mI M, mJ M, mR M, mA M, va_up (mB M) a g, mQ M, mS M)
def sQ (M : Mm) (a : Nat) (g : Nat → Option Nat) : Mm := (mK M, mN M, mI M, mJ M, mR M, mA M, mB M, va_up (mQ M) a g, mS M)
/-- a new object of kind kd at the heap's end: all its fields are 0 or null -/
def nO (M : Mm) (kd : Nat) : Mm := (va_up (mK M) (mS M) kd, mN M, (fun k a => if a = mS M then 0 else mI M k a), (fun k a => if a = mS M then 0 else mJ M k a), (fun k a => if a = mS M then none else mR M k a), mA M, mB M, mQ M, mS M + 1)
/-- a new row of kind kd (20 int, 21 long, 22 boolean, from 23 on of references) and length n -/
def nA (M : Mm) (kd n : Nat) : Mm := (va_up (mK M) (mS M) kd, va_up (mN M) (mS M) n, mI M, mJ M, mR M, va_up (mA M) (mS M) (fun _ => 0), va_up (mB M) (mS M) (fun _ => 0), va_up (mQ M) (mS M) (fun _ => none), mS M + 1)
def ix (i : Int32) : Nat := i.toNatClampNeg
def vin (i : Int32) (n : Nat) : Bool := decide (0 ≤ i.toInt) && decide (i.toInt < (n : Int))
def gI (M : Mm) (kd num a : Nat) : Option Int32 := if mK M a = kd then some (mI M num a) else none
def gJ (M : Mm) (kd num a : Nat) : Option Int64 := if mK M a = kd then some (mJ M num a) else none
/-- a reference that isn't null -/
def gR (M : Mm) (kd num a : Nat) : Option Nat := if mK M a = kd then mR M num a else none
/-- a reference or null -/
def gN (M : Mm) (kd num a : Nat) : Option (Option Nat) := if mK M a = kd then some (mR M num a) else none
def pI (M : Mm) (kd num a : Nat) (v : Int32) : Option Mm := if mK M a = kd then some (sI M num a v) else none
def pZ (M : Mm) (kd num a : Nat) (v : Int32) : Option Mm := if mK M a = kd then if v = 0 ∨ v = 1 then some (sI M num a v) else none else none
def pJ (M : Mm) (kd num a : Nat) (v : Int64) : Option Mm := if mK M a = kd then some (sJ M num a v) else none
def pR (M : Mm) (kd num a : Nat) (v : Option Nat) : Option Mm := if mK M a = kd then some (sR M num a v) else none
def aI (M : Mm) (a : Nat) (i : Int32) : Option Int32 := if mK M a = 20 then if vin i (mN M a) then some (mA M a (ix i)) else none else none
def aZ (M : Mm) (a : Nat) (i : Int32) : Option Int32 := if mK M a = 22 then if vin i (mN M a) then some (mA M a (ix i)) else none else none
def aJ (M : Mm) (a : Nat) (i : Int32) : Option Int64 := if mK M a = 21 then if vin i (mN M a) then some (mB M a (ix i)) else none else none
def aR (M : Mm) (kd a : Nat) (i : Int32) : Option Nat := if mK M a = kd then if vin i (mN M a) then mQ M a (ix i) else none else none
def aN (M : Mm) (kd a : Nat) (i : Int32) : Option (Option Nat) := if mK M a = kd then if vin i (mN M a) then some (mQ M a (ix i)) else none else none
def wI (M : Mm) (a : Nat) (i : Int32) (v : Int32) : Option Mm := if mK M a = 20 then if vin i (mN M a) then some (sA M a (va_up (mA M a) (ix i) v)) else none else none
def wZ (M : Mm) (a : Nat) (i : Int32) (v : Int32) : Option Mm := if mK M a = 22 then if vin i (mN M a) then some (sA M a (va_up (mA M a) (ix i) (vp_nar .boolean v))) else none else none
def wJ (M : Mm) (a : Nat) (i : Int32) (v : Int64) : Option Mm := if mK M a = 21 then if vin i (mN M a) then some (sB M a (va_up (mB M a) (ix i) v)) else none else none
/-- store of a reference to an object of kind ke into a row of kind kd -/
def wR (M : Mm) (kd ke a : Nat) (i : Int32) (v : Nat) : Option Mm := if mK M a = kd then if vin i (mN M a) then if mK M v = ke then some (sQ M a (va_up (mQ M a) (ix i) (some v))) else none else none else none
def aL (M : Mm) (a : Nat) : Option Int32 := if 20 ≤ mK M a then if mK M a < 28 then some (nI (mN M a)) else none else none
/-- a new row of n places, n of the machine: refused here beyond B -/
def mA0 (M : Mm) (kd B : Nat) (n : Int32) : Option Mm := if 0 ≤ n.toInt then if n.toInt ≤ (B : Int) then some (nA M kd (ix n)) else none else none
def cpI (M : Mm) (a : Nat) (i : Int32) (b : Nat) (j n : Int32) : Option Mm := if mK M a = 20 then if mK M b = 20 then if 0 ≤ i.toInt then if 0 ≤ j.toInt then if 0 ≤ n.toInt then if i.toInt + n.toInt ≤ (mN M a : Int) then if j.toInt + n.toInt ≤ (mN M b : Int) then some (sA M b (va_cpy (mA M a) (mA M b) (ix i) (ix j) (ix n))) else none else none else none else none else none else none else none
def cpJ (M : Mm) (a : Nat) (i : Int32) (b : Nat) (j n : Int32) : Option Mm := if mK M a = 21 then if mK M b = 21 then if 0 ≤ i.toInt then if 0 ≤ j.toInt then if 0 ≤ n.toInt then if i.toInt + n.toInt ≤ (mN M a : Int) then if j.toInt + n.toInt ≤ (mN M b : Int) then some (sB M b (va_cpy (mB M a) (mB M b) (ix i) (ix j) (ix n))) else none else none else none else none else none else none else none
/-- a clone of an int row -/
def clI (M : Mm) (B a : Nat) : Option Mm := if mK M a = 20 then if mN M a ≤ B then some (sA (nA M 20 (mN M a)) (mS M) (mA M a)) else none else none
def ob2 {α β : Type} (x : Option (Mm × α)) (f : Mm → α → Option β) : Option β := match x with
  | none => none
  | some q => f q.1 q.2
def nm {β : Type} (x : Option Nat) (A : Option β) (B : Nat → Option β) : Option β := match x with
  | none => A
  | some a => B a
def ck {β : Type} (c : Bool) (x : Option β) : Option β := if c then x else none
theorem ob_some {α β : Type} {x : Option α} {f : α → Option β} {r : β} (h : x.bind f = some r) : ∃ v, x = some v ∧ f v = some r := by
  cases x with
  | none => cases h
  | some v => exact ⟨v, rfl, h⟩
theorem ob2_some {α β : Type} {x : Option (Mm × α)} {f : Mm → α → Option β} {r : β} (h : ob2 x f = some r) : ∃ M v, x = some (M, v) ∧ f M v = some r := by
  cases x with
  | none => cases h
  | some q => exact ⟨q.1, q.2, rfl, h⟩
theorem ck_some {β : Type} {c : Bool} {x : Option β} {r : β} (h : ck c x = some r) : c = true ∧ x = some r := by
  cases c with
  | false => cases h
  | true => exact ⟨rfl, h⟩
theorem it_t {α : Type} {c : Prop} [Decidable c] {A B : α} {r : α} (h : (if c then A else B) = r) (hc : c) : A = r := by rw [if_pos hc] at h; exact h
theorem it_f {α : Type} {c : Prop} [Decidable c] {A B : α} {r : α} (h : (if c then A else B) = r) (hc : ¬ c) : B = r := by rw [if_neg hc] at h; exact h
theorem if_some {α : Type} {c : Prop} [Decidable c] {A : Option α} {r : α} (h : (if c then A else none) = some r) : c ∧ A = some r := by
  by_cases hc : c
  · rw [if_pos hc] at h; exact ⟨hc, h⟩
  · rw [if_neg hc] at h; cases h
theorem vin_in {i : Int32} {n : Nat} (h : vin i n = true) : vp_in i n := by
  unfold vin at h
  rw [Bool.and_eq_true, decide_eq_true_eq, decide_eq_true_eq] at h
  exact vp_in_iff.mpr h
