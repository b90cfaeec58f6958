/-! The constructors run on the empty memory. -/
def T00 : Mm := (fun _ => 0, fun _ => 0, fun _ _ => 0, fun _ _ => 0, fun _ _ => none, fun _ _ => 0, fun _ _ => 0, fun _ _ => none, 0)
def runI (v : Int32) : Option Mm := (f_X10_init (nO T00 11) 0 v).bind fun M1 => if mS M1 = 226 then f_X11_init (nO M1 12) 226 v else none
def all0 (n : Nat) (p : Nat → Bool) : Bool := (List.range n).all p
def ckS (M : Mm) : Bool := all0 270 (fun o => decide (mK M o = kT o)) && (all0 270 (fun o => decide (20 ≤ kT o → mN M o = nT o)) && (rT.all (fun q => decide (mR M q.1 q.2.1 = some q.2.2)) && (qT.all (fun q => decide (mQ M q.1 q.2.1 = some q.2.2)) && decide (mS M = 270))))
def ckI (w : Nat) (M : Mm) : Bool := decide (mI M 1000 0 = nI w ∧ mI M 1107 226 = nI w ∧ mI M 604 1 = 0 ∧ mI M 1101 226 = 0 ∧ mI M 1010 0 = 0 ∧ mI M 1116 226 = 0 ∧ mI M 1106 226 = 0 ∧ mI M 204 222 = 0 ∧ mI M 1135 226 = 0 ∧ mI M 1011 0 = 0)
def ckA (M : Mm) : Bool := all0 8 (fun i => decide (mB M 7 i = 0 ∧ mI M 901 (10 + 23 * i) = 0 ∧ mA M 232 i = 0 ∧ mI M 902 (10 + 23 * i) = 0 ∧ mA M 233 i = 0 ∧ mI M 903 (10 + 23 * i) = 1 ∧ mA M 235 i = 1 ∧ mI M 904 (10 + 23 * i) = 0 ∧ mA M 236 i = 0 ∧ mI M 906 (10 + 23 * i) = 0 ∧ mI M 103 (29 + 23 * i) = 0 ∧ mA M 252 i = 0 ∧ mI M 801 (196 + 2 * i) = 0 ∧ mA M 265 i = 0) && all0 8 (fun f => decide (mA M 234 (8 * i + f) = 1 ∧ mA M (11 + 23 * i) f = 1)))
def ckO (w : Nat) (o : Option Mm) : Bool := match o with
  | none => false
  | some M => ckS M && (ckI w M && ckA M)
theorem runI_0 : ckO (0 + 1) (runI (nI 0)) = true := by decide +kernel
theorem runI_1 : ckO (1 + 1) (runI (nI 1)) = true := by decide +kernel
theorem runI_2 : ckO (2 + 1) (runI (nI 2)) = true := by decide +kernel
theorem runI_3 : ckO (3 + 1) (runI (nI 3)) = true := by decide +kernel
theorem runI_4 : ckO (4 + 1) (runI (nI 4)) = true := by decide +kernel
theorem runI_5 : ckO (5 + 1) (runI (nI 5)) = true := by decide +kernel
theorem runI_6 : ckO (6 + 1) (runI (nI 6)) = true := by decide +kernel
theorem runI_7 : ckO (7 + 1) (runI (nI 7)) = true := by decide +kernel
