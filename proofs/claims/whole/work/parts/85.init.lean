/-! The constructors run on the empty memory. -/
def T00 : Mm := (fun _ => 0, fun _ => 0, fun _ _ => 0, fun _ _ => 0, fun _ _ => none, fun _ _ => 0, fun _ _ => 0, fun _ _ => none, 0)
def runI (v : Int32) : Option Mm := (f_X10_init (nO T00 11) 0 v).bind fun M1 => f_X11_init (nO M1 12) (mS M1) v
def all0 (n : Nat) (p : Nat → Bool) : Bool := (List.range n).all p
def ckS (M : Mm) : Bool := all0 270 (fun o => decide (mK M o = kT o)) && (all0 270 (fun o => decide (20 ≤ kT o → mN M o = nT o)) && (rT.all (fun q => decide (mR M q.1 q.2.1 = some q.2.2)) && (qT.all (fun q => decide (mQ M q.1 q.2.1 = some q.2.2)) && decide (mS M = 270))))
def ckI (w : Nat) (M : Mm) : Bool := decide (mI M 1000 0 = nI w ∧ mI M 1107 226 = nI w ∧ mI M 604 1 = 0 ∧ mI M 1101 226 = 0 ∧ mI M 1010 0 = 0 ∧ mI M 1116 226 = 0 ∧ mI M 1106 226 = 0 ∧ mI M 204 222 = 0 ∧ mI M 1135 226 = 0 ∧ mI M 1011 0 = 0)
def ckA (M : Mm) : Bool := all0 8 (fun i => decide (mB M 7 i = 0 ∧ mI M 901 (aSq 0 i) = 0 ∧ mA M 232 i = 0 ∧ mI M 902 (aSq 0 i) = 0 ∧ mA M 233 i = 0 ∧ mI M 903 (aSq 0 i) = 1 ∧ mA M 235 i = 1 ∧ mI M 904 (aSq 0 i) = 0 ∧ mA M 236 i = 0 ∧ mI M 906 (aSq 0 i) = 0 ∧ mI M 103 (aCx 0 i) = 0 ∧ mA M 252 i = 0 ∧ mI M 801 (aSh 0 i) = 0 ∧ mA M 265 i = 0) && all0 8 (fun f => decide (mA M 234 (8 * i + f) = 1 ∧ mA M (aSt 0 i) f = 1)))
def ckO (w : Nat) (o : Option Mm) : Bool := match o with
  | none => false
  | some M => ckS M && (ckI w M && ckA M)
theorem runI_0 : ckO 1 (runI 0) = true := by decide +kernel
