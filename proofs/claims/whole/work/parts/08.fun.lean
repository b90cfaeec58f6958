def f_X3_init (M : Mm) (a0 : Nat) : Option Mm :=
if mK M a0 = 4 then ((mA0 M 21 8 8).bind fun M1 =>
(pR M1 4 300 a0 (some (mS M))).bind fun M2 =>
some M2) else none


def f_X0_init (M : Mm) (a0 : Nat) : Option Mm :=
if mK M a0 = 1 then ((f_X3_init (nO M 4) (mS M)).bind fun M2 =>
(pR M2 1 0 a0 (some (mS M))).bind fun M3 =>
(mA0 M3 20 8 8).bind fun M4 =>
(pR M4 1 1 a0 (some (mS M3))).bind fun M5 =>
(mA0 M5 20 8 8).bind fun M6 =>
(pR M6 1 2 a0 (some (mS M5))).bind fun M7 =>
(mA0 M7 20 8 8).bind fun M8 =>
(pR M8 1 3 a0 (some (mS M7))).bind fun M9 =>
(mA0 M9 21 8 8).bind fun M10 =>
(pR M10 1 4 a0 (some (mS M9))).bind fun M11 =>
(mA0 M11 20 0 0).bind fun M12 =>
(pR M12 1 9 a0 (some (mS M11))).bind fun M13 =>
some M13) else none


def f_X0_read_L36 : Nat → Mm → Nat → Int32 → Int64 → Int32 → Option (Mm × Int64)
  | 0, _, _, _, _, _ => none
  | fu + 1, M, x0, x1, x2, x4 =>
    if x1 ≤ x4 then (some (M, x2)) else ((gR M 1 9 x0).bind fun v2 =>
    (gI M 1 10 x0).bind fun v3 =>
    (aI M v2 (v3 >>> (3 &&& 31))).bind fun v4 =>
    (gI M 1 10 x0).bind fun v5 =>
    (gI M 1 10 x0).bind fun v6 =>
    (pI M 1 10 x0 (v6 + 1)).bind fun M7 =>
    f_X0_read_L36 fu M7 x0 x1 ((x2 <<< ((1 : Int32).toInt64 &&& 63)) ||| (((v4 >>> ((7 - (v5 &&& 7)) &&& 31)) &&& 1).toInt64)) (x4 + 1))

def f_X0_read (M : Mm) (a0 : Nat) (a1 : Int32) : Option (Mm × Int64) :=
if mK M a0 = 1 then ((gI M 1 11 a0).bind fun v1 =>
if v1 = 0 then ((gI M 1 10 a0).bind fun v4 =>
(gR M 1 9 a0).bind fun v5 =>
(aL M v5).bind fun v6 =>
if (v4 + a1) ≤ (v6 * 8) then (f_X0_read_L36 1000 M a0 a1 0 0) else ((pZ M 1 11 a0 1).bind fun M8 =>
some (M8, 0))) else ((pZ M 1 11 a0 1).bind fun M3 =>
some (M3, 0))) else none


def f_X0_readValue (M : Mm) (a0 : Nat) (a1 : Int32) (a2 : Int32) (a3 : Int32) : Option Mm :=
if mK M a0 = 1 then ((gR M 1 2 a0).bind fun v1 =>
(wI M v1 a1 a2).bind fun M2 =>
(gR M2 1 3 a0).bind fun v3 =>
(wI M2 v3 a1 a3).bind fun M4 =>
(gR M4 1 4 a0).bind fun v5 =>
ob2 (f_X0_read M4 a0 a3) fun M7 v8 =>
(wJ M7 v5 a1 v8).bind fun M9 =>
some M9) else none


def f_X6_has (M : Mm) (a0 : Nat) (a1 : Int32) : Option Int32 :=
if mK M a0 = 7 then (if a1 < 0 then (some 0) else ((gI M 7 604 a0).bind fun v2 =>
if v2 ≤ a1 then (some 0) else (some 1))) else none


def f_X6_hasStride (M : Mm) (a0 : Nat) (a1 : Int32) : Option Int32 :=
if mK M a0 = 7 then ((f_X6_has M a0 a1).bind fun v2 =>
if v2 = 0 then (some 0) else ((gR M 7 600 a0).bind fun v4 =>
(aI M v4 a1).bind fun v5 =>
if v5 = 2 then (some 1) else ((gR M 7 600 a0).bind fun v7 =>
(aI M v7 a1).bind fun v8 =>
if v8 = 3 then (some 1) else (some 0)))) else none


def f_X0_readField_J166 (M : Mm) (x0 : Nat) (x2 : Int32) (x4 : Int32) (s0 : Nat) (s1 : Int32) : Option Mm :=
(pZ M 1 11 s0 s1).bind fun M1 =>
(f_X0_readValue M1 x0 x2 1 x4).bind fun M3 =>
some M3

def f_X0_readField_J161 (M : Mm) (x0 : Nat) (x2 : Int32) (x4 : Int32) (s0 : Nat) : Option Mm :=
f_X0_readField_J166 M x0 x2 x4 s0 1

def f_X0_readField_J119 (M : Mm) (s0 : Nat) (s1 : Int32) (s2 : Int32) (s3 : Int32) : Option Mm :=
(f_X0_readValue M s0 s1 s2 s3).bind fun M2 =>
some M2

def f_X0_readField_J104 (M : Mm) (x1 : Nat) (x2 : Int32) (x4 : Int32) (s0 : Nat) (s1 : Int32) (s2 : Int32) : Option Mm :=
if x4 = 0 then (f_X0_readField_J119 M s0 s1 s2 0) else ((gR M 7 601 x1).bind fun v2 =>
(aI M v2 x2).bind fun v3 =>
f_X0_readField_J119 M s0 s1 s2 v3)

def f_X0_readField_J90 (M : Mm) (x0 : Nat) (x1 : Nat) (x2 : Int32) (s0 : Int32) : Option Mm :=
if s0 = 0 then (f_X0_readField_J104 M x1 x2 s0 x0 x2 0) else (f_X0_readField_J104 M x1 x2 s0 x0 x2 2)

def f_X0_readField_J27 (M : Mm) (x0 : Nat) (x1 : Nat) (x2 : Int32) : Option Mm :=
(gR M 7 601 x1).bind fun v1 =>
(aI M v1 x2).bind fun v2 =>
(f_X0_readValue M x0 x2 2 v2).bind fun M4 =>
(gR M4 1 1 x0).bind fun v5 =>
(f_X6_hasStride M4 x1 x2).bind fun v7 =>
if v7 = 0 then ((wI M4 v5 x2 1).bind fun M9 =>
some M9) else (ob2 (f_X0_read M4 x0 8) fun M11 v12 =>
(wI M11 v5 x2 v12.toInt32).bind fun M13 =>
some M13)

def f_X0_readField_J15 (M : Mm) (x0 : Nat) (x1 : Nat) (x2 : Int32) (s0 : Int32) : Option Mm :=
(gI M 1 5 x0).bind fun v1 =>
if v1 = 0 then (f_X0_readField_J27 M x0 x1 x2) else (if s0 = 0 then ((gI M 1 5 x0).bind fun v4 =>
if v4 = 1 then (ob2 (f_X0_read M x0 1) fun M20 v21 =>
if (lg_cmp v21 1) = 0 then (f_X0_readField_J90 M20 x0 x1 x2 1) else (f_X0_readField_J90 M20 x0 x1 x2 0)) else ((f_X6_hasStride M x1 x2).bind fun v7 =>
if v7 = 0 then ((f_X0_readValue M x0 x2 0 0).bind fun M10 =>
some M10) else (ob2 (f_X0_read M x0 6) fun M12 v13 =>
(gI M12 1 11 x0).bind fun v14 =>
if v14 = 0 then ((gR M12 7 601 x1).bind fun v16 =>
(aI M12 v16 x2).bind fun v17 =>
if v13.toInt32 ≤ v17 then (f_X0_readField_J166 M12 x0 x2 v13.toInt32 x0 0) else (f_X0_readField_J161 M12 x0 x2 v13.toInt32 x0)) else (f_X0_readField_J161 M12 x0 x2 v13.toInt32 x0)))) else (f_X0_readField_J27 M x0 x1 x2))

def f_X0_readField (M : Mm) (a0 : Nat) (a1 : Nat) (a2 : Int32) : Option Mm :=
if mK M a0 = 1 then ((gR M 7 600 a1).bind fun v1 =>
(aI M v1 a2).bind fun v2 =>
if v2 = 4 then (f_X0_readField_J15 M a0 a1 a2 1) else (f_X0_readField_J15 M a0 a1 a2 0)) else none


def f_X10_endsInCheck (a0 : Int32) : Option Int32 :=
if a0 = 1 then (some 0) else (if a0 = 2 then (some 0) else (some 1))


def f_X10_wholeBytes (a0 : Int32) : Option Int32 :=
some ((a0 + 7) >>> (3 &&& 31))


def f_X10_checkOf_L4 (M : Mm) : Nat → Nat → Int32 → Int32 → Int32 → Option Int32
  | 0, _, _, _, _ => none
  | fu + 1, x0, x1, x2, x3 =>
    if x1 ≤ x3 then (some (255 - (x2 &&& 255))) else ((aL M x0).bind fun v2 =>
    if v2 ≤ x3 then (some (255 - (x2 &&& 255))) else ((aI M x0 x3).bind fun v4 =>
    f_X10_checkOf_L4 M fu x0 x1 (x2 + v4) (x3 + 1)))

def f_X10_checkOf (M : Mm) (a0 : Nat) (a1 : Int32) : Option Int32 :=
f_X10_checkOf_L4 M 1000 a0 a1 0 0


def f_X0_isEndRight_J31 (M : Mm) (x0 : Nat) (x1 : Int32) (x2 : Int32) (s0 : Int32) (s1 : Int32) (s2 : Int32) : Option (Mm × Int32) :=
if s0 = (s1 + s2) then ((gI M 1 10 x0).bind fun v2 =>
ob2 (f_X0_read M x0 ((x1 * 8) - v2)) fun M4 v5 =>
if (lg_cmp v5 0) = 0 then (if x2 = 0 then (some (M4, 1)) else ((gR M4 1 9 x0).bind fun v8 =>
(aI M4 v8 x1).bind fun v9 =>
(gR M4 1 9 x0).bind fun v10 =>
(f_X10_checkOf M4 v10 x1).bind fun v12 =>
if v9 = v12 then (some (M4, 1)) else (some (M4, 0)))) else (some (M4, 0))) else (some (M, 0))

def f_X0_isEndRight (M : Mm) (a0 : Nat) : Option (Mm × Int32) :=
if mK M a0 = 1 then ((gI M 1 10 a0).bind fun v1 =>
(f_X10_wholeBytes v1).bind fun v3 =>
(gI M 1 5 a0).bind fun v4 =>
(f_X10_endsInCheck v4).bind fun v6 =>
(gR M 1 9 a0).bind fun v7 =>
(aL M v7).bind fun v8 =>
if v6 = 0 then (f_X0_isEndRight_J31 M a0 v3 v6 v8 v3 0) else (f_X0_isEndRight_J31 M a0 v3 v6 v8 v3 1)) else none


def f_X0_parse_J120 (M : Mm) (x0 : Nat) : Option (Mm × Int32) :=
(gI M 1 11 x0).bind fun v1 =>
if v1 = 0 then (ob2 (f_X0_isEndRight M x0) fun M4 v5 =>
if v5 = 0 then (some (M4, 0)) else (some (M4, 1))) else (some (M, 0))

def f_X0_parse_J99 (M : Mm) (x0 : Nat) : Option (Mm × Int32) :=
(gI M 1 5 x0).bind fun v1 =>
(f_X10_endsInCheck v1).bind fun v3 =>
if v3 = 0 then (ob2 (f_X0_read M x0 8) fun M6 v7 =>
(pI M6 1 8 x0 v7.toInt32).bind fun M8 =>
f_X0_parse_J120 M8 x0) else (f_X0_parse_J120 M x0)

def f_X0_parse_L79 : Nat → Mm → Nat → Nat → Int32 → Option (Mm × Int32)
  | 0, _, _, _, _ => none
  | fu + 1, M, x0, x1, x3 =>
    (gI M 7 604 x1).bind fun v1 =>
    if v1 ≤ x3 then (f_X0_parse_J99 M x0) else ((f_X0_readField M x0 x1 x3).bind fun M4 =>
    f_X0_parse_L79 fu M4 x0 x1 (x3 + 1))

def f_X0_parse (M : Mm) (a0 : Nat) (a1 : Nat) (a2 : Nat) : Option (Mm × Int32) :=
if mK M a0 = 1 then ((pR M 1 9 a0 (some a2)).bind fun M1 =>
(pI M1 1 10 a0 0).bind fun M2 =>
(pZ M2 1 11 a0 0).bind fun M3 =>
ob2 (f_X0_read M3 a0 3) fun M5 v6 =>
(pI M5 1 5 a0 v6.toInt32).bind fun M7 =>
ob2 (f_X0_read M7 a0 3) fun M9 v10 =>
(pI M9 1 6 a0 v10.toInt32).bind fun M11 =>
(gR M11 1 0 a0).bind fun v12 =>
ob2 (f_X0_read M11 a0 16) fun M14 v15 =>
(pI M14 4 301 v12 v15.toInt32).bind fun M16 =>
(gI M16 1 5 a0).bind fun v17 =>
if v17 ≤ 5 then ((gI M16 1 5 a0).bind fun v19 =>
if 2 < v19 then (f_X0_parse_J99 M16 a0) else (ob2 (f_X0_read M16 a0 4) fun M22 v23 =>
(pI M22 1 7 a0 v23.toInt32).bind fun M24 =>
f_X0_parse_L79 1000 M24 a0 a1 0)) else (some (M16, 0))) else none


def f_X10_lowest (a0 : Int64) (a2 : Int32) : Option Int64 :=
some (a0 &&& (((1 : Int64) <<< (a2.toInt64 &&& 63)) - 1))


def f_X6_lowBits (M : Mm) (a0 : Nat) (a1 : Int32) (a2 : Int64) : Option Int64 :=
if mK M a0 = 7 then ((gR M 7 601 a0).bind fun v1 =>
(aI M v1 a1).bind fun v2 =>
(f_X10_lowest a2 v2).bind fun v4 =>
some v4) else none


def f_X6_given (M : Mm) (a0 : Nat) (a1 : Int32) (a2 : Nat) (a3 : Nat) (a4 : Nat) : Option Int64 :=
if mK M a0 = 7 then ((gI M 4 301 a4).bind fun v1 =>
(gI M 4 301 a2).bind fun v2 =>
(aI M a3 a1).bind fun v3 =>
(gR M 7 600 a0).bind fun v4 =>
(aI M v4 a1).bind fun v5 =>
if v5 = 0 then ((gR M 4 300 a2).bind fun v7 =>
(aJ M v7 a1).bind fun v8 =>
some v8) else (if v5 = 1 then ((gR M 4 300 a4).bind fun v10 =>
(gR M 7 602 a0).bind fun v11 =>
(aI M v11 a1).bind fun v12 =>
(aJ M v10 v12).bind fun v13 =>
(gR M 7 603 a0).bind fun v14 =>
(aI M v14 a1).bind fun v15 =>
(f_X6_lowBits M a0 a1 (v13 + v15.toInt64)).bind fun v17 =>
some v17) else (if v5 = 2 then ((gR M 4 300 a2).bind fun v19 =>
(aJ M v19 a1).bind fun v20 =>
(f_X6_lowBits M a0 a1 (v20 + (((v1 - v2).toInt64) * v3.toInt64))).bind fun v22 =>
some v22) else (if v5 = 3 then ((gR M 4 300 a2).bind fun v24 =>
(aJ M v24 a1).bind fun v25 =>
(gR M 7 603 a0).bind fun v26 =>
(aI M v26 a1).bind fun v27 =>
(f_X6_lowBits M a0 a1 (v25 + ((((v1 - v2).toInt64) * v3.toInt64) * v27.toInt64))).bind fun v29 =>
some v29) else ((some 0)))))) else none


def f_X6_found (M : Mm) (a0 : Nat) (a1 : Int32) (a2 : Int64) (a4 : Int32) (a5 : Int64) : Option Int64 :=
if mK M a0 = 7 then (if 1 ≤ a4 then ((f_X10_lowest (a5 - (a2 - ((1 : Int64) <<< ((a4 - 1).toInt64 &&& 63)))) a4).bind fun v3 =>
(f_X6_lowBits M a0 a1 ((a2 - ((1 : Int64) <<< ((a4 - 1).toInt64 &&& 63))) + v3)).bind fun v5 =>
some v5) else (some a2)) else none


def f_X0_rebuild_J79 (k2 : Mm → Nat → Nat → Nat → Int32 → Option Mm) (M : Mm) (x0 : Nat) (x1 : Nat) (x2 : Nat) (x3 : Int32) (x4 : Int64) : Option Mm :=
(gR M 1 0 x0).bind fun v1 =>
(gR M 4 300 v1).bind fun v2 =>
(wJ M v2 x3 x4).bind fun M3 =>
k2 M3 x0 x1 x2 (x3 + 1)

def f_X0_rebuild_J77 (k2 : Mm → Nat → Nat → Nat → Int32 → Option Mm) (M : Mm) (x0 : Nat) (x1 : Nat) (x2 : Nat) (x3 : Int32) (s0 : Int64) : Option Mm :=
f_X0_rebuild_J79 k2 M x0 x1 x2 x3 s0

def f_X0_rebuild_L2 : Nat → Mm → Nat → Nat → Nat → Int32 → Option Mm
  | 0, _, _, _, _, _ => none
  | fu + 1, M, x0, x1, x2, x3 =>
    (gI M 7 604 x1).bind fun v1 =>
    if v1 ≤ x3 then (some M) else ((gR M 1 4 x0).bind fun v3 =>
    (aJ M v3 x3).bind fun v4 =>
    (gR M 1 2 x0).bind fun v5 =>
    (aI M v5 x3).bind fun v6 =>
    if v6 = 2 then (f_X0_rebuild_J79 (f_X0_rebuild_L2 fu) M x0 x1 x2 x3 v4) else ((gR M 2 100 x2).bind fun v8 =>
    (gR M 2 101 x2).bind fun v9 =>
    (gR M 1 0 x0).bind fun v10 =>
    (f_X6_given M x1 x3 v8 v9 v10).bind fun v12 =>
    (gR M 1 2 x0).bind fun v13 =>
    (aI M v13 x3).bind fun v14 =>
    if v14 = 1 then ((gR M 1 3 x0).bind fun v16 =>
    (aI M v16 x3).bind fun v17 =>
    (f_X6_found M x1 x3 v12 v17 v4).bind fun v19 =>
    f_X0_rebuild_J77 (f_X0_rebuild_L2 fu) M x0 x1 x2 x3 v19) else (f_X0_rebuild_J77 (f_X0_rebuild_L2 fu) M x0 x1 x2 x3 v12)))

def f_X0_rebuild (M : Mm) (a0 : Nat) (a1 : Nat) (a2 : Nat) : Option Mm :=
if mK M a0 = 1 then (f_X0_rebuild_L2 1000 M a0 a1 a2 0) else none


def f_X1_init (M : Mm) (a0 : Nat) : Option Mm :=
if mK M a0 = 2 then ((f_X3_init (nO M 4) (mS M)).bind fun M2 =>
(pR M2 2 100 a0 (some (mS M))).bind fun M3 =>
(mA0 M3 20 8 8).bind fun M4 =>
(pR M4 2 101 a0 (some (mS M3))).bind fun M5 =>
some M5) else none


def f_X3_become (M : Mm) (a0 : Nat) (a1 : Nat) : Option Mm :=
if mK M a0 = 4 then ((gR M 4 300 a1).bind fun v1 =>
(gR M 4 300 a0).bind fun v2 =>
(cpJ M v1 0 v2 0 8).bind fun M3 =>
(gI M3 4 301 a1).bind fun v4 =>
(pI M3 4 301 a0 v4).bind fun M5 =>
some M5) else none


def f_X1_accept (M : Mm) (a0 : Nat) (a1 : Nat) : Option Mm :=
if mK M a0 = 2 then ((gR M 2 100 a0).bind fun v1 =>
(gR M 1 0 a1).bind fun v2 =>
(f_X3_become M v1 v2).bind fun M4 =>
(pZ M4 2 103 a0 1).bind fun M5 =>
(gI M5 1 5 a1).bind fun v6 =>
if v6 = 0 then ((gI M5 1 7 a1).bind fun v8 =>
(pI M5 2 102 a0 v8).bind fun M9 =>
(gR M9 1 1 a1).bind fun v10 =>
(gR M9 2 101 a0).bind fun v11 =>
(cpI M9 v10 0 v11 0 8).bind fun M12 =>
some M12) else (some M5)) else none


def f_X2_init (M : Mm) (a0 : Nat) : Option Mm :=
if mK M a0 = 3 then ((f_X3_init (nO M 4) (mS M)).bind fun M2 =>
(pR M2 3 200 a0 (some (mS M))).bind fun M3 =>
(mA0 M3 20 8 8).bind fun M4 =>
(pR M4 3 201 a0 (some (mS M3))).bind fun M5 =>
some M5) else none


def f_X2_accept (M : Mm) (a0 : Nat) (a1 : Nat) (a2 : Int32) : Option Mm :=
if mK M a0 = 3 then ((gR M 3 200 a0).bind fun v1 =>
(gR M 1 0 a1).bind fun v2 =>
(f_X3_become M v1 v2).bind fun M4 =>
(gR M4 1 2 a1).bind fun v5 =>
(gR M4 3 201 a0).bind fun v6 =>
(cpI M4 v5 0 v6 0 8).bind fun M7 =>
(gI M7 1 6 a1).bind fun v8 =>
(pI M7 3 202 a0 v8).bind fun M9 =>
(pI M9 3 203 a0 a2).bind fun M10 =>
(gI M10 3 204 a0).bind fun v11 =>
(pI M10 3 204 a0 (v11 + 1)).bind fun M12 =>
some M12) else none


def f_X4_init (M : Mm) (a0 : Nat) (a1 : Int32) (a2 : Int32) (a3 : Int32) (a4 : Nat) (a5 : Int32) : Option Mm :=
if mK M a0 = 5 then ((pI M 5 405 a0 (-1)).bind fun M1 =>
(pI M1 5 400 a0 a1).bind fun M2 =>
(pI M2 5 401 a0 a2).bind fun M3 =>
(pI M3 5 402 a0 a3).bind fun M4 =>
(pR M4 5 403 a0 (some a4)).bind fun M5 =>
(pI M5 5 404 a0 a5).bind fun M6 =>
some M6) else none


def f_X4_hasByte (M : Mm) (a0 : Nat) (a1 : Int32) : Option Int32 :=
if mK M a0 = 5 then (if a1 < 0 then (some 0) else ((gR M 5 403 a0).bind fun v2 =>
(aL M v2).bind fun v3 =>
if v3 ≤ a1 then (some 0) else (some 1))) else none


def f_X5_init (M : Mm) (a0 : Nat) : Option Mm :=
if mK M a0 = 6 then ((mA0 M 20 60 60).bind fun M1 =>
(pR M1 6 500 a0 (some (mS M))).bind fun M2 =>
some M2) else none


def f_J7_fill_53178_L5 : Nat → Mm → Nat → Int32 → Int32 → Int32 → Option Mm
  | 0, _, _, _, _, _ => none
  | fu + 1, M, x0, x1, x2, x3 =>
    if x3 ≤ x2 then (some M) else ((wI M x0 x2 x1).bind fun M2 =>
    f_J7_fill_53178_L5 fu M2 x0 x1 (x2 + 1) x3)

def f_J7_fill_53178 (M : Mm) (a0 : Nat) (a1 : Int32) : Option Mm :=
(aL M a0).bind fun v1 =>
f_J7_fill_53178_L5 1000 M a0 a1 0 v1


def f_X5_write_L5 : Nat → Mm → Nat → Int64 → Int32 → Option Mm
  | 0, _, _, _, _ => none
  | fu + 1, M, x0, x1, x4 =>
    if x4 < 0 then (some M) else ((gI M 6 501 x0).bind fun v2 =>
    (f_X10_wholeBytes (v2 + 1)).bind fun v4 =>
    (gR M 6 500 x0).bind fun v5 =>
    (aL M v5).bind fun v6 =>
    if v6 < v4 then (some M) else ((gR M 6 500 x0).bind fun v8 =>
    (gI M 6 501 x0).bind fun v9 =>
    (aI M v8 (v9 >>> (3 &&& 31))).bind fun v10 =>
    (gI M 6 501 x0).bind fun v11 =>
    (wI M v8 (v9 >>> (3 &&& 31)) (v10 ||| ((((x1 >>> (x4.toInt64 &&& 63)).toInt32) &&& 1) <<< ((7 - (v11 &&& 7)) &&& 31)))).bind fun M12 =>
    (gI M12 6 501 x0).bind fun v13 =>
    (pI M12 6 501 x0 (v13 + 1)).bind fun M14 =>
    f_X5_write_L5 fu M14 x0 x1 (x4 + (-1))))

def f_X5_write (M : Mm) (a0 : Nat) (a1 : Int64) (a3 : Int32) : Option Mm :=
if mK M a0 = 6 then (f_X5_write_L5 1000 M a0 a1 (a3 - 1)) else none


def f_X5_begin (M : Mm) (a0 : Nat) (a1 : Int32) (a2 : Int32) (a3 : Int32) : Option Mm :=
if mK M a0 = 6 then ((gR M 6 500 a0).bind fun v1 =>
(f_J7_fill_53178 M v1 0).bind fun M3 =>
(pI M3 6 501 a0 0).bind fun M4 =>
(f_X5_write M4 a0 a1.toInt64 3).bind fun M6 =>
(f_X5_write M6 a0 a2.toInt64 3).bind fun M8 =>
(f_X5_write M8 a0 a3.toInt64 16).bind fun M10 =>
some M10) else none


def f_J7_copyOf_59c91 (M : Mm) (a0 : Nat) (a1 : Int32) : Option (Mm × Nat) :=
(aL M a0).bind fun v1 =>
if a1 = v1 then ((clI M 64 a0).bind fun M6 =>
some (M6, (mS M))) else ((mA0 M 20 64 a1).bind fun M3 =>
(aL M3 a0).bind fun v4 =>
(cpI M3 a0 0 (mS M) 0 (if a1 < v4 then a1 else v4)).bind fun M5 =>
some (M5, (mS M)))


def f_X5_finished (M : Mm) (a0 : Nat) (a1 : Int32) : Option (Mm × Nat) :=
if mK M a0 = 6 then ((gI M 6 501 a0).bind fun v1 =>
(f_X10_wholeBytes v1).bind fun v3 =>
if a1 = 0 then ((gR M 6 500 a0).bind fun v12 =>
ob2 (f_J7_copyOf_59c91 M v12 v3) fun M14 v15 =>
some (M14, v15)) else ((gR M 6 500 a0).bind fun v5 =>
ob2 (f_J7_copyOf_59c91 M v5 (v3 + 1)) fun M7 v8 =>
(f_X10_checkOf M7 v8 v3).bind fun v10 =>
(wI M7 v8 v3 v10).bind fun M11 =>
some (M11, v8))) else none


def f_X6_init (M : Mm) (a0 : Nat) : Option Mm :=
if mK M a0 = 7 then ((mA0 M 20 8 8).bind fun M1 =>
(pR M1 7 600 a0 (some (mS M))).bind fun M2 =>
(mA0 M2 20 8 8).bind fun M3 =>
(pR M3 7 601 a0 (some (mS M2))).bind fun M4 =>
(mA0 M4 20 8 8).bind fun M5 =>
(pR M5 7 602 a0 (some (mS M4))).bind fun M6 =>
(mA0 M6 20 8 8).bind fun M7 =>
(pR M7 7 603 a0 (some (mS M6))).bind fun M8 =>
some M8) else none


def f_X6_allows (M : Mm) (a0 : Nat) (a1 : Int32) (a2 : Int32) (a3 : Int32) (a4 : Int32) : Option Int32 :=
if mK M a0 = 7 then (if a1 < 0 then (some 0) else (if 4 < a1 then (some 0) else (if a2 < 1 then (some 0) else (if a2 ≤ 32 then (if a1 = 1 then ((f_X6_has M a0 a3).bind fun v10 =>
if v10 = 0 ∨ v10 = 1 then
some v10 else none) else (if a1 = 3 then (if a4 < 1 then (some 0) else (if 1000 < a4 then (some 0) else (some 1))) else (some 1))) else (some 0))))) else none


def f_X6_append_J50 (M : Mm) (x0 : Nat) (x4 : Int32) (s0 : Nat) (s1 : Int32) (s2 : Int32) : Option (Mm × Int32) :=
(wI M s0 s1 s2).bind fun M1 =>
(gR M1 7 603 x0).bind fun v2 =>
(gI M1 7 604 x0).bind fun v3 =>
(wI M1 v2 v3 x4).bind fun M4 =>
(gI M4 7 604 x0).bind fun v5 =>
(pI M4 7 604 x0 (v5 + 1)).bind fun M6 =>
(gI M6 7 604 x0).bind fun v7 =>
some (M6, v7 - 1)

def f_X6_append (M : Mm) (a0 : Nat) (a1 : Int32) (a2 : Int32) (a3 : Int32) (a4 : Int32) : Option (Mm × Int32) :=
if mK M a0 = 7 then ((gI M 7 604 a0).bind fun v1 =>
if v1 < 8 then ((gR M 7 600 a0).bind fun v3 =>
(gI M 7 604 a0).bind fun v4 =>
(wI M v3 v4 a1).bind fun M5 =>
(gR M5 7 601 a0).bind fun v6 =>
(gI M5 7 604 a0).bind fun v7 =>
(wI M5 v6 v7 a2).bind fun M8 =>
(gR M8 7 602 a0).bind fun v9 =>
(gI M8 7 604 a0).bind fun v10 =>
if a1 = 1 then (f_X6_append_J50 M8 a0 a4 v9 v10 a3) else (f_X6_append_J50 M8 a0 a4 v9 v10 0)) else (some (M, (-2)))) else none


def f_X6_wholeBits_J34 (k5 : Nat → Int32 → Int32 → Option Int32) (M : Mm) (x0 : Nat) (x2 : Int32) (s0 : Int32) (s1 : Int32) (s2 : Int32) : Option Int32 :=
k5 x0 (s0 + (s1 + s2)) (x2 + 1)

def f_X6_wholeBits_L5 (M : Mm) : Nat → Nat → Int32 → Int32 → Option Int32
  | 0, _, _, _ => none
  | fu + 1, x0, x1, x2 =>
    (gI M 7 604 x0).bind fun v1 =>
    if v1 ≤ x2 then (some x1) else ((gR M 7 601 x0).bind fun v3 =>
    (aI M v3 x2).bind fun v4 =>
    (f_X6_hasStride M x0 x2).bind fun v6 =>
    if v6 = 0 then (f_X6_wholeBits_J34 (f_X6_wholeBits_L5 M fu) M x0 x2 x1 v4 0) else (f_X6_wholeBits_J34 (f_X6_wholeBits_L5 M fu) M x0 x2 x1 v4 8))

def f_X6_wholeBits (M : Mm) (a0 : Nat) : Option Int32 :=
if mK M a0 = 7 then (f_X6_wholeBits_L5 M 1000 a0 26 0) else none


def f_X6_sumOf_L7 (M : Mm) : Nat → Nat → Nat → Int64 → Int32 → Option Int32
  | 0, _, _, _, _ => none
  | fu + 1, x0, x1, x2, x4 =>
    (gI M 7 604 x0).bind fun v1 =>
    if v1 ≤ x4 then (some x2.toInt32) else ((gR M 4 300 x1).bind fun v3 =>
    (aJ M v3 x4).bind fun v4 =>
    (f_X10_lowest ((x2 * 31) + v4) 8).bind fun v6 =>
    f_X6_sumOf_L7 M fu x0 x1 v6 (x4 + 1))

def f_X6_sumOf (M : Mm) (a0 : Nat) (a1 : Nat) : Option Int32 :=
if mK M a0 = 7 then (f_X6_sumOf_L7 M 1000 a0 a1 17 0) else none


def f_X7_init (M : Mm) (a0 : Nat) : Option Mm :=
if mK M a0 = 8 then ((mA0 M 20 8 8).bind fun M1 =>
(pR M1 8 700 a0 (some (mS M))).bind fun M2 =>
(mA0 M2 20 8 8).bind fun M3 =>
(pR M3 8 701 a0 (some (mS M2))).bind fun M4 =>
some M4) else none


def f_X8_init (M : Mm) (a0 : Nat) : Option Mm :=
if mK M a0 = 9 then ((mA0 M 21 60 60).bind fun M1 =>
(pR M1 9 800 a0 (some (mS M))).bind fun M2 =>
some M2) else none


def f_X8_holdLetter (M : Mm) (a0 : Nat) (a1 : Nat) : Option Mm :=
if mK M a0 = 9 then ((pI M 9 801 a0 1).bind fun M1 =>
(gI M1 5 400 a1).bind fun v2 =>
(pI M1 9 803 a0 v2).bind fun M3 =>
(gR M3 5 403 a1).bind fun v4 =>
(aL M3 v4).bind fun v5 =>
(pI M3 9 804 a0 v5).bind fun M6 =>
some M6) else none


def f_J7_fill_d0a16_L6 : Nat → Mm → Nat → Int64 → Int32 → Int32 → Option Mm
  | 0, _, _, _, _, _ => none
  | fu + 1, M, x0, x1, x3, x4 =>
    if x4 ≤ x3 then (some M) else ((wJ M x0 x3 x1).bind fun M2 =>
    f_J7_fill_d0a16_L6 fu M2 x0 x1 (x3 + 1) x4)

def f_J7_fill_d0a16 (M : Mm) (a0 : Nat) (a1 : Int64) : Option Mm :=
(aL M a0).bind fun v1 =>
f_J7_fill_d0a16_L6 1000 M a0 a1 0 v1


def f_X8_holdRow (M : Mm) (a0 : Nat) (a1 : Int32) (a2 : Int32) : Option Mm :=
if mK M a0 = 9 then ((pI M 9 801 a0 a1).bind fun M1 =>
(pI M1 9 802 a0 (if 0 < (if 60 < a2 then 60 else a2) then (if 60 < a2 then 60 else a2) else 0)).bind fun M2 =>
(gR M2 9 800 a0).bind fun v3 =>
(f_J7_fill_d0a16 M2 v3 0).bind fun M5 =>
some M5) else none


def f_X8_hasPlaces (M : Mm) (a0 : Nat) (a1 : Int32) (a2 : Int32) : Option Int32 :=
if mK M a0 = 9 then (if a1 < 0 then (some 0) else (if a2 < 0 then (some 0) else ((gI M 9 802 a0).bind fun v3 =>
if (v3 - a2) < a1 then (some 0) else (some 1)))) else none


def f_X9_init (M : Mm) (a0 : Nat) : Option Mm :=
if mK M a0 = 10 then ((mA0 M 20 8 8).bind fun M1 =>
(pR M1 10 900 a0 (some (mS M))).bind fun M2 =>
(pZ M2 10 903 a0 1).bind fun M3 =>
(mA0 M3 24 8 8).bind fun M4 =>
(pR M4 10 905 a0 (some (mS M3))).bind fun M5 =>
(gR M5 10 900 a0).bind fun v6 =>
(f_J7_fill_53178 M5 v6 1).bind fun M8 =>
(gR M8 10 905 a0).bind fun v9 =>
(f_X3_init (nO M8 4) (mS M8)).bind fun M11 =>
(wR M11 24 4 v9 0 (mS M8)).bind fun M12 =>
(gR M12 10 905 a0).bind fun v13 =>
(f_X3_init (nO M12 4) (mS M12)).bind fun M15 =>
(wR M15 24 4 v13 1 (mS M12)).bind fun M16 =>
(gR M16 10 905 a0).bind fun v17 =>
(f_X3_init (nO M16 4) (mS M16)).bind fun M19 =>
(wR M19 24 4 v17 2 (mS M16)).bind fun M20 =>
(gR M20 10 905 a0).bind fun v21 =>
(f_X3_init (nO M20 4) (mS M20)).bind fun M23 =>
(wR M23 24 4 v21 3 (mS M20)).bind fun M24 =>
(gR M24 10 905 a0).bind fun v25 =>
(f_X3_init (nO M24 4) (mS M24)).bind fun M27 =>
(wR M27 24 4 v25 4 (mS M24)).bind fun M28 =>
(gR M28 10 905 a0).bind fun v29 =>
(f_X3_init (nO M28 4) (mS M28)).bind fun M31 =>
(wR M31 24 4 v29 5 (mS M28)).bind fun M32 =>
(gR M32 10 905 a0).bind fun v33 =>
(f_X3_init (nO M32 4) (mS M32)).bind fun M35 =>
(wR M35 24 4 v33 6 (mS M32)).bind fun M36 =>
(gR M36 10 905 a0).bind fun v37 =>
(f_X3_init (nO M36 4) (mS M36)).bind fun M39 =>
(wR M39 24 4 v37 7 (mS M36)).bind fun M40 =>
some M40) else none


def f_J9_floorMod_7cf53 (a0 : Int32) (a1 : Int32) : Option Int32 :=
if a1 = 0 then none else
if 0 ≤ (a0 ^^^ a1) then (some (a0 - a0 / a1 * a1)) else (if (a0 - a0 / a1 * a1) = 0 then (some (a0 - a0 / a1 * a1)) else (some ((a0 - a0 / a1 * a1) + a1)))


def f_X9_reference (M : Mm) (a0 : Nat) (a1 : Int32) : Option Nat :=
if mK M a0 = 10 then ((gR M 10 905 a0).bind fun v1 =>
(gI M 10 906 a0).bind fun v2 =>
(f_J9_floorMod_7cf53 (v2 + a1) 8).bind fun v4 =>
(aR M 24 v1 v4).bind fun v5 =>
some v5) else none


def f_X9_oldestNumber (M : Mm) (a0 : Nat) : Option Int32 :=
if mK M a0 = 10 then ((gI M 10 904 a0).bind fun v1 =>
if v1 = 0 then (some (-2)) else ((f_X9_reference M a0 0).bind fun v4 =>
(gI M 4 301 v4).bind fun v5 =>
some v5)) else none


def f_X9_oldestMiss_L11 (M : Mm) : Nat → Nat → Nat → Nat → Int32 → Int32 → Int64 → Int32 → Option Int32
  | 0, _, _, _, _, _, _, _ => none
  | fu + 1, x0, x1, x2, x3, x4, x5, x7 =>
    (gI M 10 904 x0).bind fun v1 =>
    if v1 ≤ x7 then (some (-2)) else ((f_X9_reference M x0 x7).bind fun v4 =>
    (gR M 10 900 x0).bind fun v5 =>
    (f_X6_given M x1 x3 v4 v5 x2).bind fun v7 =>
    (f_X6_found M x1 x3 v7 x4 x5).bind fun v9 =>
    if (lg_cmp v9 x5) = 0 then (f_X9_oldestMiss_L11 M fu x0 x1 x2 x3 x4 x5 (x7 + 1)) else ((f_X9_reference M x0 x7).bind fun v12 =>
    (gI M 4 301 v12).bind fun v13 =>
    some v13))

def f_X9_oldestMiss (M : Mm) (a0 : Nat) (a1 : Nat) (a2 : Nat) (a3 : Int32) (a4 : Int32) : Option Int32 :=
if mK M a0 = 10 then ((gR M 4 300 a2).bind fun v1 =>
(aJ M v1 a3).bind fun v2 =>
f_X9_oldestMiss_L11 M 1000 a0 a1 a2 a3 a4 v2 0) else none


def f_X9_isGivenByAll (M : Mm) (a0 : Nat) (a1 : Nat) (a2 : Nat) (a3 : Int32) : Option Int32 :=
if mK M a0 = 10 then ((f_X9_oldestMiss M a0 a1 a2 a3 0).bind fun v2 =>
if v2 = (-2) then (some 1) else (some 0)) else none


def f_X9_kindFor_J78 (k23 : Nat → Nat → Nat → Int32 → Option Int32) (M : Mm) (x0 : Nat) (x1 : Nat) (x2 : Nat) (x4 : Int32) : Option Int32 :=
k23 x0 x1 x2 (x4 + 1)

def f_X9_kindFor_J58 (k23 : Nat → Nat → Nat → Int32 → Option Int32) (M : Mm) (x0 : Nat) (x1 : Nat) (x2 : Nat) (x4 : Int32) (s0 : Int32) : Option Int32 :=
if s0 = 0 then (f_X9_kindFor_J78 k23 M x0 x1 x2 x4) else ((f_X9_isGivenByAll M x0 x1 x2 x4).bind fun v3 =>
if v3 = 0 then (some 1) else (f_X9_kindFor_J78 k23 M x0 x1 x2 x4))

def f_X9_kindFor_J53 (k23 : Nat → Nat → Nat → Int32 → Option Int32) (M : Mm) (x0 : Nat) (x1 : Nat) (x2 : Nat) (x4 : Int32) : Option Int32 :=
f_X9_kindFor_J58 k23 M x0 x1 x2 x4 1

def f_X9_kindFor_L23 (M : Mm) : Nat → Nat → Nat → Nat → Int32 → Option Int32
  | 0, _, _, _, _ => none
  | fu + 1, x0, x1, x2, x4 =>
    (gI M 7 604 x1).bind fun v1 =>
    if v1 ≤ x4 then (some 2) else ((gR M 7 600 x1).bind fun v3 =>
    (aI M v3 x4).bind fun v4 =>
    if v4 = 0 then (f_X9_kindFor_J53 (f_X9_kindFor_L23 M fu) M x0 x1 x2 x4) else ((gR M 7 600 x1).bind fun v6 =>
    (aI M v6 x4).bind fun v7 =>
    if v7 = 1 then (f_X9_kindFor_J53 (f_X9_kindFor_L23 M fu) M x0 x1 x2 x4) else (f_X9_kindFor_J58 (f_X9_kindFor_L23 M fu) M x0 x1 x2 x4 0)))

def f_X9_kindFor (M : Mm) (a0 : Nat) (a1 : Nat) (a2 : Nat) (a3 : Int32) : Option Int32 :=
if mK M a0 = 10 then (if a3 = 0 then ((gI M 10 903 a0).bind fun v2 =>
if v2 = 0 then ((gI M 10 904 a0).bind fun v4 =>
if v4 = 0 then (some 0) else (f_X9_kindFor_L23 M 1000 a0 a1 a2 0)) else (some 0)) else (some 0)) else none


def f_X9_beginRound (M : Mm) (a0 : Nat) : Option Mm :=
if mK M a0 = 10 then ((gI M 10 902 a0).bind fun v1 =>
(pI M 10 902 a0 ((v1 + 1) - (v1 + 1) / 16 * 16)).bind fun M2 =>
(pI M2 10 904 a0 0).bind fun M3 =>
(pZ M3 10 903 a0 0).bind fun M4 =>
some M4) else none


def f_X9_writeWhole_J63 (k13 : Mm → Nat → Nat → Nat → Nat → Int32 → Option Mm) (M : Mm) (x0 : Nat) (x1 : Nat) (x2 : Nat) (x3 : Nat) (x4 : Int32) : Option Mm :=
k13 M x0 x1 x2 x3 (x4 + 1)

def f_X9_writeWhole_L13 : Nat → Mm → Nat → Nat → Nat → Nat → Int32 → Option Mm
  | 0, _, _, _, _, _, _ => none
  | fu + 1, M, x0, x1, x2, x3, x4 =>
    (gI M 7 604 x1).bind fun v1 =>
    if v1 ≤ x4 then (some M) else ((gR M 4 300 x2).bind fun v3 =>
    (aJ M v3 x4).bind fun v4 =>
    (gR M 7 601 x1).bind fun v5 =>
    (aI M v5 x4).bind fun v6 =>
    (f_X5_write M x3 v4 v6).bind fun M8 =>
    (f_X6_hasStride M8 x1 x4).bind fun v10 =>
    if v10 = 0 then (f_X9_writeWhole_J63 (f_X9_writeWhole_L13 fu) M8 x0 x1 x2 x3 x4) else ((gR M8 10 900 x0).bind fun v12 =>
    (aI M8 v12 x4).bind fun v13 =>
    (f_X5_write M8 x3 v13.toInt64 8).bind fun M15 =>
    f_X9_writeWhole_J63 (f_X9_writeWhole_L13 fu) M15 x0 x1 x2 x3 x4))

def f_X9_writeWhole (M : Mm) (a0 : Nat) (a1 : Nat) (a2 : Nat) (a3 : Nat) : Option Mm :=
if mK M a0 = 10 then ((gI M 10 902 a0).bind fun v1 =>
(f_X5_write M a3 v1.toInt64 4).bind fun M3 =>
f_X9_writeWhole_L13 1000 M3 a0 a1 a2 a3 0) else none


def f_X9_writePart_J106 (k13 : Mm → Nat → Nat → Nat → Nat → Int32 → Option Mm) (M : Mm) (x0 : Nat) (x1 : Nat) (x2 : Nat) (x3 : Nat) (x4 : Int32) : Option Mm :=
k13 M x0 x1 x2 x3 (x4 + 1)

def f_X9_writePart_J83 (k13 : Mm → Nat → Nat → Nat → Nat → Int32 → Option Mm) (M : Mm) (x0 : Nat) (x1 : Nat) (x2 : Nat) (x3 : Nat) (x4 : Int32) (x6 : Int32) : Option Mm :=
if x6 = 0 then (f_X9_writePart_J106 k13 M x0 x1 x2 x3 x4) else ((gR M 4 300 x2).bind fun v2 =>
(aJ M v2 x4).bind fun v3 =>
(gR M 7 601 x1).bind fun v4 =>
(aI M v4 x4).bind fun v5 =>
(f_X5_write M x3 v3 v5).bind fun M7 =>
f_X9_writePart_J106 k13 M7 x0 x1 x2 x3 x4)

def f_X9_writePart_J79 (k13 : Mm → Nat → Nat → Nat → Nat → Int32 → Option Mm) (M : Mm) (x0 : Nat) (x1 : Nat) (x2 : Nat) (x3 : Nat) (x4 : Int32) (x6 : Int32) (s0 : Nat) (s1 : Int64) : Option Mm :=
(f_X5_write M s0 s1 1).bind fun M2 =>
f_X9_writePart_J83 k13 M2 x0 x1 x2 x3 x4 x6

def f_X9_writePart_J61 (k13 : Mm → Nat → Nat → Nat → Nat → Int32 → Option Mm) (M : Mm) (x0 : Nat) (x1 : Nat) (x2 : Nat) (x3 : Nat) (x4 : Int32) (x5 : Int32) (s0 : Int32) : Option Mm :=
if x5 = 0 then (if s0 = 0 then (f_X9_writePart_J79 k13 M x0 x1 x2 x3 x4 s0 x3 0) else (f_X9_writePart_J79 k13 M x0 x1 x2 x3 x4 s0 x3 1)) else (f_X9_writePart_J83 k13 M x0 x1 x2 x3 x4 s0)

def f_X9_writePart_J56 (k13 : Mm → Nat → Nat → Nat → Nat → Int32 → Option Mm) (M : Mm) (x0 : Nat) (x1 : Nat) (x2 : Nat) (x3 : Nat) (x4 : Int32) (x5 : Int32) : Option Mm :=
f_X9_writePart_J61 k13 M x0 x1 x2 x3 x4 x5 1

def f_X9_writePart_J38 (k13 : Mm → Nat → Nat → Nat → Nat → Int32 → Option Mm) (M : Mm) (x0 : Nat) (x1 : Nat) (x2 : Nat) (x3 : Nat) (x4 : Int32) (s0 : Int32) : Option Mm :=
if s0 = 0 then ((f_X9_isGivenByAll M x0 x1 x2 x4).bind fun v3 =>
if v3 = 0 then (f_X9_writePart_J56 k13 M x0 x1 x2 x3 x4 s0) else (f_X9_writePart_J61 k13 M x0 x1 x2 x3 x4 s0 0)) else (f_X9_writePart_J56 k13 M x0 x1 x2 x3 x4 s0)

def f_X9_writePart_L13 : Nat → Mm → Nat → Nat → Nat → Nat → Int32 → Option Mm
  | 0, _, _, _, _, _, _ => none
  | fu + 1, M, x0, x1, x2, x3, x4 =>
    (gI M 7 604 x1).bind fun v1 =>
    if v1 ≤ x4 then ((f_X6_sumOf M x1 x2).bind fun v4 =>
    (f_X5_write M x3 v4.toInt64 8).bind fun M6 =>
    some M6) else ((gR M 7 600 x1).bind fun v7 =>
    (aI M v7 x4).bind fun v8 =>
    if v8 = 4 then (f_X9_writePart_J38 (f_X9_writePart_L13 fu) M x0 x1 x2 x3 x4 1) else (f_X9_writePart_J38 (f_X9_writePart_L13 fu) M x0 x1 x2 x3 x4 0))

def f_X9_writePart (M : Mm) (a0 : Nat) (a1 : Nat) (a2 : Nat) (a3 : Nat) : Option Mm :=
if mK M a0 = 10 then ((gI M 10 902 a0).bind fun v1 =>
(f_X5_write M a3 v1.toInt64 4).bind fun M3 =>
f_X9_writePart_L13 1000 M3 a0 a1 a2 a3 0) else none


def f_X9_findLeast_L7 : Nat → Mm → Nat → Nat → Nat → Int32 → Nat → Int32 → Int32 → Option Mm
  | 0, _, _, _, _, _, _, _, _ => none
  | fu + 1, M, x0, x1, x2, x3, x4, x5, x6 =>
    (gR M 7 601 x1).bind fun v1 =>
    (aI M v1 x3).bind fun v2 =>
    if v2 < x6 then (some M) else ((gR M 8 700 x4).bind fun v4 =>
    (wI M v4 x3 x6).bind fun M5 =>
    (gR M5 8 701 x4).bind fun v6 =>
    (wI M5 v6 x3 x5).bind fun M7 =>
    (f_X9_oldestMiss M7 x0 x1 x2 x3 x6).bind fun v9 =>
    if v9 = (-2) then (some M7) else (f_X9_findLeast_L7 fu M7 x0 x1 x2 x3 x4 v9 (x6 + 1)))

def f_X9_findLeast (M : Mm) (a0 : Nat) (a1 : Nat) (a2 : Nat) (a3 : Int32) (a4 : Nat) : Option Mm :=
if mK M a0 = 10 then (f_X9_findLeast_L7 1000 M a0 a1 a2 a3 a4 (-2) 0) else none


def f_X9_writeShort_J125 (k31 : Mm → Nat → Nat → Nat → Nat → Nat → Int32 → Option Mm) (M : Mm) (x0 : Nat) (x1 : Nat) (x2 : Nat) (x3 : Nat) (x4 : Nat) (x5 : Int32) : Option Mm :=
k31 M x0 x1 x2 x3 x4 (x5 + 1)

def f_X9_writeShort_L31 : Nat → Mm → Nat → Nat → Nat → Nat → Nat → Int32 → Option Mm
  | 0, _, _, _, _, _, _, _ => none
  | fu + 1, M, x0, x1, x2, x3, x4, x5 =>
    (gI M 7 604 x1).bind fun v1 =>
    if v1 ≤ x5 then ((f_X6_sumOf M x1 x2).bind fun v4 =>
    (f_X5_write M x3 v4.toInt64 8).bind fun M6 =>
    some M6) else ((f_X6_hasStride M x1 x5).bind fun v8 =>
    if v8 = 0 then ((gR M 7 600 x1).bind fun v10 =>
    (aI M v10 x5).bind fun v11 =>
    if v11 = 4 then ((gR M 4 300 x2).bind fun v13 =>
    (aJ M v13 x5).bind fun v14 =>
    (gR M 7 601 x1).bind fun v15 =>
    (aI M v15 x5).bind fun v16 =>
    (f_X5_write M x3 v14 v16).bind fun M18 =>
    f_X9_writeShort_J125 (f_X9_writeShort_L31 fu) M18 x0 x1 x2 x3 x4 x5) else (f_X9_writeShort_J125 (f_X9_writeShort_L31 fu) M x0 x1 x2 x3 x4 x5)) else ((f_X9_findLeast M x0 x1 x2 x5 x4).bind fun M20 =>
    (gR M20 8 700 x4).bind fun v21 =>
    (aI M20 v21 x5).bind fun v22 =>
    (f_X5_write M20 x3 v22.toInt64 6).bind fun M24 =>
    (gR M24 4 300 x2).bind fun v25 =>
    (aJ M24 v25 x5).bind fun v26 =>
    (gR M24 8 700 x4).bind fun v27 =>
    (aI M24 v27 x5).bind fun v28 =>
    (f_X5_write M24 x3 v26 v28).bind fun M30 =>
    f_X9_writeShort_J125 (f_X9_writeShort_L31 fu) M30 x0 x1 x2 x3 x4 x5))

def f_X9_writeShort (M : Mm) (a0 : Nat) (a1 : Nat) (a2 : Nat) (a3 : Nat) (a4 : Nat) : Option Mm :=
if mK M a0 = 10 then ((gI M 10 904 a0).bind fun v1 =>
(pI M 8 702 a4 v1).bind fun M2 =>
(f_X9_oldestNumber M2 a0).bind fun v4 =>
(pI M2 8 703 a4 v4).bind fun M5 =>
(gI M5 10 902 a0).bind fun v6 =>
(f_X5_write M5 a3 v6.toInt64 4).bind fun M8 =>
f_X9_writeShort_L31 1000 M8 a0 a1 a2 a3 a4 0) else none


def f_X9_dropOldest (M : Mm) (a0 : Nat) (a1 : Int32) : Option Mm :=
if mK M a0 = 10 then ((gI M 10 906 a0).bind fun v1 =>
(f_J9_floorMod_7cf53 (v1 + a1) 8).bind fun v3 =>
(pI M 10 906 a0 v3).bind fun M4 =>
(gI M4 10 904 a0).bind fun v5 =>
(pI M4 10 904 a0 (v5 - a1)).bind fun M6 =>
some M6) else none


def f_X9_remember_J20 (M : Mm) (x0 : Nat) (x1 : Nat) : Option Mm :=
(gI M 10 904 x0).bind fun v1 =>
(f_X9_reference M x0 v1).bind fun v3 =>
(f_X3_become M v3 x1).bind fun M5 =>
(gI M5 10 904 x0).bind fun v6 =>
(pI M5 10 904 x0 (v6 + 1)).bind fun M7 =>
(gI M7 10 901 x0).bind fun v8 =>
(pI M7 10 901 x0 (v8 + 1)).bind fun M9 =>
some M9

def f_X9_remember (M : Mm) (a0 : Nat) (a1 : Nat) (a2 : Int32) : Option Mm :=
if mK M a0 = 10 then ((gI M 10 904 a0).bind fun v1 =>
if v1 < a2 then (f_X9_remember_J20 M a0 a1) else ((gI M 10 904 a0).bind fun v3 =>
(f_X9_dropOldest M a0 ((v3 - a2) + 1)).bind fun M5 =>
f_X9_remember_J20 M5 a0 a1)) else none


def f_X9_heed_L29 : Nat → Mm → Nat → Int32 → Int32 → Option (Mm × Int32)
  | 0, _, _, _, _ => none
  | fu + 1, M, x0, x2, x3 =>
    (gI M 10 904 x0).bind fun v1 =>
    if v1 ≤ x3 then (some (M, 7)) else ((f_X9_reference M x0 x3).bind fun v4 =>
    (gI M 4 301 v4).bind fun v5 =>
    if (v5 - v5 / 65536 * 65536) = x2 then ((f_X9_dropOldest M x0 x3).bind fun M8 =>
    some (M8, 6)) else (f_X9_heed_L29 fu M x0 x2 (x3 + 1)))

def f_X9_heed (M : Mm) (a0 : Nat) (a1 : Int32) (a2 : Int32) : Option (Mm × Int32) :=
if mK M a0 = 10 then (if a1 = 3 then (f_X9_heed_L29 1000 M a0 a2 0) else ((gI M 10 903 a0).bind fun v2 =>
(pZ M 10 903 a0 1).bind fun M3 =>
if v2 = 0 then (some (M3, 6)) else (some (M3, 7)))) else none


def f_X10_init (M : Mm) (a0 : Nat) (a1 : Int32) : Option Mm :=
if mK M a0 = 11 then ((f_J9_floorMod_7cf53 a1 8).bind fun v2 =>
(pI M 11 1000 a0 (1 + v2)).bind fun M3 =>
(f_X6_init (nO M3 7) (mS M3)).bind fun M5 =>
(pR M5 11 1001 a0 (some (mS M3))).bind fun M6 =>
(f_X3_init (nO M6 4) (mS M6)).bind fun M8 =>
(pR M8 11 1002 a0 (some (mS M6))).bind fun M9 =>
(mA0 M9 27 8 8).bind fun M10 =>
(pR M10 11 1003 a0 (some (mS M9))).bind fun M11 =>
(mA0 M11 23 8 8).bind fun M12 =>
(pR M12 11 1004 a0 (some (mS M11))).bind fun M13 =>
(gR M13 11 1003 a0).bind fun v14 =>
(f_X9_init (nO M13 10) (mS M13)).bind fun M16 =>
(wR M16 27 10 v14 0 (mS M13)).bind fun M17 =>
(gR M17 11 1004 a0).bind fun v18 =>
(f_X1_init (nO M17 2) (mS M17)).bind fun M20 =>
(wR M20 23 2 v18 0 (mS M17)).bind fun M21 =>
(gR M21 11 1003 a0).bind fun v22 =>
(f_X9_init (nO M21 10) (mS M21)).bind fun M24 =>
(wR M24 27 10 v22 1 (mS M21)).bind fun M25 =>
(gR M25 11 1004 a0).bind fun v26 =>
(f_X1_init (nO M25 2) (mS M25)).bind fun M28 =>
(wR M28 23 2 v26 1 (mS M25)).bind fun M29 =>
(gR M29 11 1003 a0).bind fun v30 =>
(f_X9_init (nO M29 10) (mS M29)).bind fun M32 =>
(wR M32 27 10 v30 2 (mS M29)).bind fun M33 =>
(gR M33 11 1004 a0).bind fun v34 =>
(f_X1_init (nO M33 2) (mS M33)).bind fun M36 =>
(wR M36 23 2 v34 2 (mS M33)).bind fun M37 =>
(gR M37 11 1003 a0).bind fun v38 =>
(f_X9_init (nO M37 10) (mS M37)).bind fun M40 =>
(wR M40 27 10 v38 3 (mS M37)).bind fun M41 =>
(gR M41 11 1004 a0).bind fun v42 =>
(f_X1_init (nO M41 2) (mS M41)).bind fun M44 =>
(wR M44 23 2 v42 3 (mS M41)).bind fun M45 =>
(gR M45 11 1003 a0).bind fun v46 =>
(f_X9_init (nO M45 10) (mS M45)).bind fun M48 =>
(wR M48 27 10 v46 4 (mS M45)).bind fun M49 =>
(gR M49 11 1004 a0).bind fun v50 =>
(f_X1_init (nO M49 2) (mS M49)).bind fun M52 =>
(wR M52 23 2 v50 4 (mS M49)).bind fun M53 =>
(gR M53 11 1003 a0).bind fun v54 =>
(f_X9_init (nO M53 10) (mS M53)).bind fun M56 =>
(wR M56 27 10 v54 5 (mS M53)).bind fun M57 =>
(gR M57 11 1004 a0).bind fun v58 =>
(f_X1_init (nO M57 2) (mS M57)).bind fun M60 =>
(wR M60 23 2 v58 5 (mS M57)).bind fun M61 =>
(gR M61 11 1003 a0).bind fun v62 =>
(f_X9_init (nO M61 10) (mS M61)).bind fun M64 =>
(wR M64 27 10 v62 6 (mS M61)).bind fun M65 =>
(gR M65 11 1004 a0).bind fun v66 =>
(f_X1_init (nO M65 2) (mS M65)).bind fun M68 =>
(wR M68 23 2 v66 6 (mS M65)).bind fun M69 =>
(gR M69 11 1003 a0).bind fun v70 =>
(f_X9_init (nO M69 10) (mS M69)).bind fun M72 =>
(wR M72 27 10 v70 7 (mS M69)).bind fun M73 =>
(gR M73 11 1004 a0).bind fun v74 =>
(f_X1_init (nO M73 2) (mS M73)).bind fun M76 =>
(wR M76 23 2 v74 7 (mS M73)).bind fun M77 =>
(mA0 M77 25 200 200).bind fun M78 =>
(pR M78 11 1005 a0 (some (mS M77))).bind fun M79 =>
(mA0 M79 26 8 8).bind fun M80 =>
(pR M80 11 1006 a0 (some (mS M79))).bind fun M81 =>
(gR M81 11 1006 a0).bind fun v82 =>
(f_X8_init (nO M81 9) (mS M81)).bind fun M84 =>
(wR M84 26 9 v82 0 (mS M81)).bind fun M85 =>
(gR M85 11 1006 a0).bind fun v86 =>
(f_X8_init (nO M85 9) (mS M85)).bind fun M88 =>
(wR M88 26 9 v86 1 (mS M85)).bind fun M89 =>
(gR M89 11 1006 a0).bind fun v90 =>
(f_X8_init (nO M89 9) (mS M89)).bind fun M92 =>
(wR M92 26 9 v90 2 (mS M89)).bind fun M93 =>
(gR M93 11 1006 a0).bind fun v94 =>
(f_X8_init (nO M93 9) (mS M93)).bind fun M96 =>
(wR M96 26 9 v94 3 (mS M93)).bind fun M97 =>
(gR M97 11 1006 a0).bind fun v98 =>
(f_X8_init (nO M97 9) (mS M97)).bind fun M100 =>
(wR M100 26 9 v98 4 (mS M97)).bind fun M101 =>
(gR M101 11 1006 a0).bind fun v102 =>
(f_X8_init (nO M101 9) (mS M101)).bind fun M104 =>
(wR M104 26 9 v102 5 (mS M101)).bind fun M105 =>
(gR M105 11 1006 a0).bind fun v106 =>
(f_X8_init (nO M105 9) (mS M105)).bind fun M108 =>
(wR M108 26 9 v106 6 (mS M105)).bind fun M109 =>
(gR M109 11 1006 a0).bind fun v110 =>
(f_X8_init (nO M109 9) (mS M109)).bind fun M112 =>
(wR M112 26 9 v110 7 (mS M109)).bind fun M113 =>
(f_X5_init (nO M113 6) (mS M113)).bind fun M115 =>
(pR M115 11 1007 a0 (some (mS M113))).bind fun M116 =>
(f_X0_init (nO M116 1) (mS M116)).bind fun M118 =>
(pR M118 11 1008 a0 (some (mS M116))).bind fun M119 =>
(f_X2_init (nO M119 3) (mS M119)).bind fun M121 =>
(pR M121 11 1009 a0 (some (mS M119))).bind fun M122 =>
some M122) else none


def f_X10_field (M : Mm) (a0 : Nat) (a1 : Int32) (a2 : Int32) (a3 : Int32) (a4 : Int32) : Option (Mm × Int32) :=
if mK M a0 = 11 then ((gR M 11 1001 a0).bind fun v1 =>
(f_X6_allows M v1 a1 a2 a3 a4).bind fun v3 =>
if v3 = 0 then (some (M, (-1))) else ((gR M 11 1001 a0).bind fun v5 =>
(gI M 7 604 v5).bind fun v6 =>
if v6 < 8 then ((gI M 11 1010 a0).bind fun v8 =>
if v8 ≤ 0 then ((gR M 11 1001 a0).bind fun v10 =>
ob2 (f_X6_append M v10 a1 a2 a3 a4) fun M12 v13 =>
some (M12, v13)) else (some (M, (-3)))) else (some (M, (-2))))) else none


def f_X10_set (M : Mm) (a0 : Nat) (a1 : Int32) (a2 : Int64) : Option (Mm × Int64) :=
if mK M a0 = 11 then ((gR M 11 1001 a0).bind fun v1 =>
(f_X6_has M v1 a1).bind fun v3 =>
if v3 = 0 then (some (M, (-1))) else ((gR M 11 1002 a0).bind fun v5 =>
(gR M 4 300 v5).bind fun v6 =>
(aJ M v6 a1).bind fun v7 =>
(gR M 11 1002 a0).bind fun v8 =>
(gR M 4 300 v8).bind fun v9 =>
(gR M 11 1001 a0).bind fun v10 =>
(f_X6_lowBits M v10 a1 a2).bind fun v12 =>
(wJ M v9 a1 v12).bind fun M13 =>
some (M13, v7))) else none


def f_X10_isFlow (a0 : Int32) : Option Int32 :=
if a0 < 0 then (some 0) else (if 8 ≤ a0 then (some 0) else (some 1))


def f_X10_stride (M : Mm) (a0 : Nat) (a1 : Int32) (a2 : Int32) (a3 : Int32) : Option (Mm × Int32) :=
if mK M a0 = 11 then ((f_X10_isFlow a1).bind fun v2 =>
if v2 = 0 then (some (M, (-1))) else ((gR M 11 1001 a0).bind fun v4 =>
(f_X6_hasStride M v4 a2).bind fun v6 =>
if v6 = 0 then (some (M, (-1))) else (if a3 < 0 then (some (M, (-1))) else (if a3 ≤ 255 then ((gR M 11 1003 a0).bind fun v10 =>
(aR M 27 v10 a1).bind fun v11 =>
(gR M 10 900 v11).bind fun v12 =>
(aI M v12 a2).bind fun v13 =>
(gR M 10 900 v11).bind fun v14 =>
(wI M v14 a2 a3).bind fun M15 =>
(pZ M15 10 903 v11 1).bind fun M16 =>
some (M16, v13)) else (some (M, (-1))))))) else none


def f_X10_isLineFull (M : Mm) (a0 : Nat) : Option Int32 :=
if mK M a0 = 11 then ((gI M 11 1010 a0).bind fun v1 =>
if v1 < 200 then (some 0) else (some 1)) else none


def f_X10_add (M : Mm) (a0 : Nat) (a1 : Nat) : Option (Mm × Int32) :=
if mK M a0 = 11 then ((f_X10_isLineFull M a0).bind fun v2 =>
if v2 = 0 then ((gR M 11 1005 a0).bind fun v4 =>
(gI M 11 1010 a0).bind fun v5 =>
(wR M 25 5 v4 v5 a1).bind fun M6 =>
(gI M6 11 1010 a0).bind fun v7 =>
(pI M6 11 1010 a0 (v7 + 1)).bind fun M8 =>
(gI M8 11 1010 a0).bind fun v9 =>
some (M8, v9 - 1)) else (some (M, (-2)))) else none


def f_X10_addWritten (M : Mm) (a0 : Nat) (a1 : Int32) (a2 : Int32) (a3 : Int32) (a4 : Option Nat) : Option (Mm × Int32) :=
if mK M a0 = 11 then ((gR M 11 1007 a0).bind fun v1 =>
(f_X10_endsInCheck a1).bind fun v3 =>
ob2 (f_X5_finished M v1 v3) fun M5 v6 =>
(gR (nO M5 5) 11 1007 a0).bind fun v7 =>
(gI (nO M5 5) 6 501 v7).bind fun v8 =>
(f_X4_init (nO M5 5) (mS M5) a1 a2 (a3 - a3 / 65536 * 65536) v6 v8).bind fun M10 =>
(pR M10 5 408 (mS M5) a4).bind fun M11 =>
ob2 (f_X10_add M11 a0 (mS M5)) fun M13 v14 =>
some (M13, v14)) else none


def f_X10_send_J165 (M : Mm) (x0 : Nat) (x1 : Int32) (x3 : Nat) (x4 : Int32) (x5 : Option Nat) : Option (Mm × Int32) :=
(gR M 11 1002 x0).bind fun v1 =>
(gI M 11 1000 x0).bind fun v2 =>
(f_X9_remember M x3 v1 v2).bind fun M4 =>
(gR M4 11 1002 x0).bind fun v5 =>
(gI M4 4 301 v5).bind fun v6 =>
ob2 (f_X10_addWritten M4 x0 x4 x1 v6 x5) fun M8 v9 =>
some (M8, v9)

def f_X10_send (M : Mm) (a0 : Nat) (a1 : Int32) (a2 : Int32) : Option (Mm × Int32) :=
if mK M a0 = 11 then ((f_X10_isFlow a1).bind fun v2 =>
if v2 = 0 then (some (M, (-1))) else ((f_X10_isLineFull M a0).bind fun v5 =>
if v5 = 0 then ((gR M 11 1001 a0).bind fun v7 =>
(gI M 7 604 v7).bind fun v8 =>
if v8 = 0 then (some (M, (-3))) else ((gR M 11 1003 a0).bind fun v10 =>
(aR M 27 v10 a1).bind fun v11 =>
(gR M 11 1002 a0).bind fun v12 =>
(gI M 10 901 v11).bind fun v13 =>
(pI M 4 301 v12 v13).bind fun M14 =>
(gR M14 11 1001 a0).bind fun v15 =>
(gR M14 11 1002 a0).bind fun v16 =>
(f_X9_kindFor M14 v11 v15 v16 a2).bind fun v18 =>
(gR M14 11 1007 a0).bind fun v19 =>
(gR M14 11 1002 a0).bind fun v20 =>
(gI M14 4 301 v20).bind fun v21 =>
(f_X5_begin M14 v19 v18 a1 v21).bind fun M23 =>
if v18 = 0 then ((f_X9_beginRound M23 v11).bind fun M39 =>
(gR M39 11 1001 a0).bind fun v40 =>
(gR M39 11 1002 a0).bind fun v41 =>
(gR M39 11 1007 a0).bind fun v42 =>
(f_X9_writeWhole M39 v11 v40 v41 v42).bind fun M44 =>
f_X10_send_J165 M44 a0 a1 v11 v18 none) else (if v18 = 1 then ((gR M23 11 1001 a0).bind fun v33 =>
(gR M23 11 1002 a0).bind fun v34 =>
(gR M23 11 1007 a0).bind fun v35 =>
(f_X9_writePart M23 v11 v33 v34 v35).bind fun M37 =>
f_X10_send_J165 M37 a0 a1 v11 v18 none) else ((f_X7_init (nO M23 8) (mS M23)).bind fun M27 =>
(gR M27 11 1001 a0).bind fun v28 =>
(gR M27 11 1002 a0).bind fun v29 =>
(gR M27 11 1007 a0).bind fun v30 =>
(f_X9_writeShort M27 v11 v28 v29 v30 (mS M23)).bind fun M32 =>
f_X10_send_J165 M32 a0 a1 v11 v18 (some (mS M23)))))) else (some (M, (-2))))) else none


def f_X10_addAnswer (M : Mm) (a0 : Nat) (a1 : Int32) (a2 : Int32) (a3 : Int32) : Option (Mm × Int32) :=
if mK M a0 = 11 then ((gR M 11 1007 a0).bind fun v1 =>
(f_X5_begin M v1 a1 a2 a3).bind fun M3 =>
ob2 (f_X10_addWritten M3 a0 a1 a2 a3 none) fun M5 v6 =>
some (M5, v6)) else none


def f_X10_ack (M : Mm) (a0 : Nat) (a1 : Int32) : Option (Mm × Int32) :=
if mK M a0 = 11 then ((f_X10_isFlow a1).bind fun v2 =>
if v2 = 0 then (some (M, (-1))) else ((f_X10_isLineFull M a0).bind fun v5 =>
if v5 = 0 then ((gR M 11 1004 a0).bind fun v7 =>
(aR M 23 v7 a1).bind fun v8 =>
(gI M 2 103 v8).bind fun v9 =>
if v9 = 0 then (some (M, (-3))) else ((gR M 11 1004 a0).bind fun v11 =>
(aR M 23 v11 a1).bind fun v12 =>
(gR M 2 100 v12).bind fun v13 =>
(gI M 4 301 v13).bind fun v14 =>
ob2 (f_X10_addAnswer M a0 3 a1 v14) fun M16 v17 =>
some (M16, v17))) else (some (M, (-2))))) else none


def f_X10_nack (M : Mm) (a0 : Nat) (a1 : Int32) : Option (Mm × Int32) :=
if mK M a0 = 11 then ((f_X10_isFlow a1).bind fun v2 =>
if v2 = 0 then (some (M, (-1))) else ((f_X10_isLineFull M a0).bind fun v5 =>
if v5 = 0 then ((gR M 11 1004 a0).bind fun v7 =>
(aR M 23 v7 a1).bind fun v8 =>
(gI M 2 103 v8).bind fun v9 =>
if v9 = 0 then (ob2 (f_X10_addAnswer M a0 5 a1 0) fun M19 v20 =>
some (M19, v20)) else ((gR M 11 1004 a0).bind fun v11 =>
(aR M 23 v11 a1).bind fun v12 =>
(gR M 2 100 v12).bind fun v13 =>
(gI M 4 301 v13).bind fun v14 =>
ob2 (f_X10_addAnswer M a0 4 a1 (v14 + 1)) fun M16 v17 =>
some (M16, v17))) else (some (M, (-2))))) else none


def f_X10_letterAt (M : Mm) (a0 : Nat) (a1 : Int32) : Option (Option Nat) :=
if mK M a0 = 11 then (if a1 < 0 then (some none) else ((gI M 11 1010 a0).bind fun v2 =>
if v2 ≤ a1 then (some none) else ((gR M 11 1005 a0).bind fun v4 =>
(aN M 25 v4 a1).bind fun v5 =>
some v5))) else none


def f_X10_letterUnderWay (M : Mm) (a0 : Nat) (a1 : Int32) : Option (Option Nat) :=
if mK M a0 = 11 then ((f_X10_letterAt M a0 a1).bind fun v2 =>
nm v2 (some none) (fun w3 => (gI M 5 406 w3).bind fun v4 =>
if v4 = 0 then (some (some w3)) else (some none))) else none


def f_X10_open_J154 (M : Mm) (x0 : Nat) (x1 : Nat) (s0 : Nat) (s1 : Nat) (s2 : Int32) : Option (Mm × Int32) :=
(f_X2_accept M s0 s1 s2).bind fun M2 =>
(gR M2 11 1008 x0).bind fun v3 =>
(f_X1_accept M2 x1 v3).bind fun M5 =>
some (M5, 0)

def f_X10_open_J131 (M : Mm) (x0 : Nat) (x1 : Nat) (x2 : Int32) : Option (Mm × Int32) :=
(gR M 11 1009 x0).bind fun v1 =>
(gR M 11 1008 x0).bind fun v2 =>
if x2 = 0 then ((gR M 2 100 x1).bind fun v4 =>
(gI M 4 301 v4).bind fun v5 =>
f_X10_open_J154 M x0 x1 v1 v2 v5) else (f_X10_open_J154 M x0 x1 v1 v2 (-1))

def f_X10_open_J89 (M : Mm) (x0 : Nat) (x1 : Nat) (x2 : Int32) : Option (Mm × Int32) :=
(gR M 11 1008 x0).bind fun v1 =>
(gR M 11 1001 x0).bind fun v2 =>
(f_X0_rebuild M v1 v2 x1).bind fun M4 =>
if x2 = 0 then ((gR M4 11 1001 x0).bind fun v6 =>
(gR M4 11 1008 x0).bind fun v7 =>
(gR M4 1 0 v7).bind fun v8 =>
(f_X6_sumOf M4 v6 v8).bind fun v10 =>
(gR M4 11 1008 x0).bind fun v11 =>
(gI M4 1 8 v11).bind fun v12 =>
if v10 = v12 then (f_X10_open_J131 M4 x0 x1 x2) else (some (M4, 4))) else (f_X10_open_J131 M4 x0 x1 x2)

def f_X10_open_J75 (M : Mm) (x0 : Nat) (x1 : Nat) (x2 : Int32) (x3 : Int32) : Option (Mm × Int32) :=
if x2 = 0 then ((gI M 11 1000 x0).bind fun v2 =>
if x3 ≤ v2 then (f_X10_open_J89 M x0 x1 x2) else (some (M, 2))) else (f_X10_open_J89 M x0 x1 x2)

def f_X10_open_J43 (M : Mm) (x0 : Nat) (x1 : Nat) (x2 : Int32) : Option (Mm × Int32) :=
(gR M 11 1008 x0).bind fun v1 =>
(gR M 1 0 v1).bind fun v2 =>
(gI M 4 301 v2).bind fun v3 =>
(gR M 2 100 x1).bind fun v4 =>
(gI M 4 301 v4).bind fun v5 =>
(gI M 2 103 x1).bind fun v6 =>
if v6 = 0 then (f_X10_open_J75 M x0 x1 x2 (v3 - v5)) else (if 0 < (v3 - v5) then (f_X10_open_J75 M x0 x1 x2 (v3 - v5)) else (some (M, 1)))

def f_X10_open_J15 (M : Mm) (x0 : Nat) (x1 : Nat) (s0 : Int32) : Option (Mm × Int32) :=
if s0 = 0 then ((gI M 2 103 x1).bind fun v2 =>
if v2 = 0 then (some (M, 3)) else ((gI M 2 102 x1).bind fun v4 =>
(gR M 11 1008 x0).bind fun v5 =>
(gI M 1 7 v5).bind fun v6 =>
if v4 = v6 then (f_X10_open_J43 M x0 x1 s0) else (some (M, 3)))) else (f_X10_open_J43 M x0 x1 s0)

def f_X10_open (M : Mm) (a0 : Nat) (a1 : Nat) : Option (Mm × Int32) :=
if mK M a0 = 11 then ((gR M 11 1008 a0).bind fun v1 =>
(gI M 1 5 v1).bind fun v2 =>
if v2 = 0 then (f_X10_open_J15 M a0 a1 1) else (f_X10_open_J15 M a0 a1 0)) else none


def f_X10_outcomeOf (M : Mm) (a0 : Nat) (a1 : Nat) : Option (Mm × Int32) :=
if mK M a0 = 11 then ((gR M 11 1008 a0).bind fun v1 =>
(gR M 11 1001 a0).bind fun v2 =>
ob2 (f_X0_parse M v1 v2 a1) fun M4 v5 =>
if v5 = 0 then (some (M4, 5)) else ((gR M4 11 1008 a0).bind fun v7 =>
(gI M4 1 6 v7).bind fun v8 =>
(f_X10_isFlow v8).bind fun v10 =>
if v10 = 0 then (some (M4, 5)) else ((gR M4 11 1008 a0).bind fun v12 =>
(gI M4 1 5 v12).bind fun v13 =>
if v13 ≤ 2 then ((gR M4 11 1004 a0).bind fun v15 =>
(gR M4 11 1008 a0).bind fun v16 =>
(gI M4 1 6 v16).bind fun v17 =>
(aR M4 23 v15 v17).bind fun v18 =>
ob2 (f_X10_open M4 a0 v18) fun M20 v21 =>
some (M20, v21)) else ((gR M4 11 1003 a0).bind fun v22 =>
(gR M4 11 1008 a0).bind fun v23 =>
(gI M4 1 6 v23).bind fun v24 =>
(aR M4 27 v22 v24).bind fun v25 =>
(gR M4 11 1008 a0).bind fun v26 =>
(gI M4 1 5 v26).bind fun v27 =>
(gR M4 11 1008 a0).bind fun v28 =>
(gR M4 1 0 v28).bind fun v29 =>
(gI M4 4 301 v29).bind fun v30 =>
ob2 (f_X9_heed M4 v25 v27 v30) fun M32 v33 =>
some (M32, v33))))) else none


def f_X10_deliver (M : Mm) (a0 : Nat) (a1 : Int32) : Option (Mm × Int32) :=
if mK M a0 = 11 then ((f_X10_letterUnderWay M a0 a1).bind fun v2 =>
nm v2 (some (M, (-1))) (fun w3 => (gR M 5 403 w3).bind fun v4 =>
ob2 (f_X10_outcomeOf M a0 v4) fun M6 v7 =>
(pI M6 5 405 w3 v7).bind fun M8 =>
(gI M8 5 405 w3).bind fun v9 =>
some (M8, v9))) else none


def f_X10_lose (M : Mm) (a0 : Nat) (a1 : Int32) : Option (Mm × Int32) :=
if mK M a0 = 11 then ((f_X10_letterUnderWay M a0 a1).bind fun v2 =>
nm v2 (some (M, (-1))) (fun w3 => (pZ M 5 406 w3 1).bind fun M4 =>
(gI M4 11 1011 a0).bind fun v5 =>
(pI M4 11 1011 a0 (v5 + 1)).bind fun M6 =>
some (M6, 0))) else none


def f_X10_twice (M : Mm) (a0 : Nat) (a1 : Int32) : Option (Mm × Int32) :=
if mK M a0 = 11 then ((f_X10_letterUnderWay M a0 a1).bind fun v2 =>
nm v2 (some (M, (-1))) (fun w3 => (f_X10_isLineFull M a0).bind fun v5 =>
if v5 = 0 then ((gR M 5 403 w3).bind fun v7 =>
(gR M 5 403 w3).bind fun v8 =>
(aL M v8).bind fun v9 =>
ob2 (f_J7_copyOf_59c91 M v7 v9) fun M11 v12 =>
(gI (nO M11 5) 5 400 w3).bind fun v13 =>
(gI (nO M11 5) 5 401 w3).bind fun v14 =>
(gI (nO M11 5) 5 402 w3).bind fun v15 =>
(gI (nO M11 5) 5 404 w3).bind fun v16 =>
(f_X4_init (nO M11 5) (mS M11) v13 v14 v15 v12 v16).bind fun M18 =>
(pZ M18 5 407 (mS M11) 1).bind fun M19 =>
ob2 (f_X10_add M19 a0 (mS M11)) fun M21 v22 =>
some (M21, v22)) else (some (M, (-2))))) else none


def f_X10_bend (M : Mm) (a0 : Nat) (a1 : Int32) (a2 : Int32) (a3 : Int32) : Option (Mm × Int32) :=
if mK M a0 = 11 then ((f_X10_letterUnderWay M a0 a1).bind fun v2 =>
nm v2 (some (M, (-1))) (fun w3 => (f_X4_hasByte M w3 a2).bind fun v5 =>
if v5 = 0 then (some (M, (-1))) else (if a3 < 1 then (some (M, (-1))) else (if a3 ≤ 255 then ((gR M 5 403 w3).bind fun v9 =>
(aI M v9 a2).bind fun v10 =>
(wI M v9 a2 (v10 ^^^ a3)).bind fun M11 =>
(gR M11 5 403 w3).bind fun v12 =>
(aI M11 v12 a2).bind fun v13 =>
some (M11, v13)) else (some (M, (-1))))))) else none


def f_X10_octet (M : Mm) (a0 : Nat) (a1 : Int32) (a2 : Int32) : Option Int32 :=
if mK M a0 = 11 then ((f_X10_letterAt M a0 a1).bind fun v2 =>
nm v2 (some (-1)) (fun w3 => (f_X4_hasByte M w3 a2).bind fun v5 =>
if v5 = 0 then (some (-1)) else ((gR M 5 403 w3).bind fun v7 =>
(aI M v7 a2).bind fun v8 =>
some v8))) else none


def f_X10_look (M : Mm) (a0 : Nat) (a1 : Int32) (a2 : Int32) : Option Int32 :=
if mK M a0 = 11 then ((f_X10_letterAt M a0 a1).bind fun v2 =>
nm v2 (some (-1)) (fun w3 => if a2 = 0 then ((gI M 5 400 w3).bind fun v5 =>
some v5) else (if a2 = 1 then ((gI M 5 401 w3).bind fun v7 =>
some v7) else (if a2 = 2 then ((gI M 5 402 w3).bind fun v9 =>
some v9) else (if a2 = 3 then ((gR M 5 403 w3).bind fun v11 =>
(aL M v11).bind fun v12 =>
some v12) else (if a2 = 4 then ((gI M 5 404 w3).bind fun v14 =>
some v14) else (if a2 = 5 then ((gI M 5 405 w3).bind fun v16 =>
some v16) else (if a2 = 6 then ((gI M 5 406 w3).bind fun v18 =>
if v18 = 0 then (some 0) else (some 1)) else ((some (-1))))))))))) else none


def f_X10_prove (M : Mm) (a0 : Nat) (a1 : Int32) (a2 : Int32) (a3 : Int32) : Option Int32 :=
if mK M a0 = 11 then ((f_X10_letterAt M a0 a1).bind fun v2 =>
nm v2 (some (-1)) (fun w3 => (gN M 5 408 w3).bind fun v4 =>
nm v4 (some (-1)) (fun w5 => (gR M 11 1001 a0).bind fun v6 =>
(f_X6_hasStride M v6 a2).bind fun v8 =>
if v8 = 0 then (some (-1)) else ((gN M 5 408 w3).bind fun v10 =>
if a3 = 0 then (v10.bind fun w12 =>
(gR M 8 700 w12).bind fun v14 =>
(aI M v14 a2).bind fun v15 =>
some v15) else (if a3 = 1 then (v10.bind fun w17 =>
(gR M 8 701 w17).bind fun v19 =>
(aI M v19 a2).bind fun v20 =>
some v20) else (if a3 = 2 then (v10.bind fun w22 =>
(gI M 8 702 w22).bind fun v24 =>
some v24) else (if a3 = 3 then (v10.bind fun w26 =>
(gI M 8 703 w26).bind fun v28 =>
some v28) else ((some (-1)))))))))) else none


def f_X10_got (M : Mm) (a0 : Nat) (a1 : Int32) : Option Int64 :=
if mK M a0 = 11 then ((gR M 11 1001 a0).bind fun v1 =>
(f_X6_has M v1 a1).bind fun v3 =>
if v3 = 0 then (some (-1)) else ((gR M 11 1009 a0).bind fun v5 =>
(gI M 3 204 v5).bind fun v6 =>
if v6 = 0 then (some (-2)) else ((gR M 11 1009 a0).bind fun v8 =>
(gR M 3 200 v8).bind fun v9 =>
(gR M 4 300 v9).bind fun v10 =>
(aJ M v10 a1).bind fun v11 =>
some v11))) else none


def f_X10_way (M : Mm) (a0 : Nat) (a1 : Int32) : Option Int32 :=
if mK M a0 = 11 then ((gR M 11 1001 a0).bind fun v1 =>
(f_X6_has M v1 a1).bind fun v3 =>
if v3 = 0 then (some (-1)) else ((gR M 11 1009 a0).bind fun v5 =>
(gI M 3 204 v5).bind fun v6 =>
if v6 = 0 then (some (-2)) else ((gR M 11 1009 a0).bind fun v8 =>
(gR M 3 201 v8).bind fun v9 =>
(aI M v9 a1).bind fun v10 =>
some v10))) else none


def f_X10_hung (M : Mm) (a0 : Nat) (a1 : Int32) : Option Int32 :=
if mK M a0 = 11 then (if a1 < 0 then (some (-1)) else (if a1 ≤ 3 then (if a1 = 3 then ((gR M 11 1009 a0).bind fun v16 =>
(gI M 3 204 v16).bind fun v17 =>
some v17) else ((gR M 11 1009 a0).bind fun v4 =>
(gI M 3 204 v4).bind fun v5 =>
if v5 = 0 then (some (-2)) else (if a1 = 0 then ((gR M 11 1009 a0).bind fun v8 =>
(gI M 3 202 v8).bind fun v9 =>
some v9) else (if a1 = 1 then ((gR M 11 1009 a0).bind fun v11 =>
(gR M 3 200 v11).bind fun v12 =>
(gI M 4 301 v12).bind fun v13 =>
some v13) else (((gR M 11 1009 a0).bind fun v14 =>
(gI M 3 203 v14).bind fun v15 =>
some v15)))))) else (some (-1)))) else none


def f_X10_context (M : Mm) (a0 : Nat) (a1 : Int32) (a2 : Int32) : Option Int32 :=
if mK M a0 = 11 then ((f_X10_isFlow a1).bind fun v2 =>
if v2 = 0 then (some (-1)) else (if a2 < 0 then (some (-1)) else (if a2 ≤ 2 then ((gR M 11 1004 a0).bind fun v6 =>
(aR M 23 v6 a1).bind fun v7 =>
if a2 = 0 then ((gI M 2 103 v7).bind fun v15 =>
if v15 = 0 then (some 0) else (some 1)) else ((gI M 2 103 v7).bind fun v9 =>
if v9 = 0 then (some (-2)) else (if a2 = 1 then ((gR M 2 100 v7).bind fun v13 =>
(gI M 4 301 v13).bind fun v14 =>
some v14) else ((gI M 2 102 v7).bind fun v12 =>
some v12)))) else (some (-1))))) else none


def f_X10_known (M : Mm) (a0 : Nat) (a1 : Int32) (a2 : Int32) (a3 : Int32) : Option Int64 :=
if mK M a0 = 11 then ((f_X10_isFlow a1).bind fun v2 =>
if v2 = 0 then (some (-1)) else ((gR M 11 1001 a0).bind fun v4 =>
(f_X6_has M v4 a2).bind fun v6 =>
if v6 = 0 then (some (-1)) else ((gR M 11 1004 a0).bind fun v8 =>
(aR M 23 v8 a1).bind fun v9 =>
(gI M 2 103 v9).bind fun v10 =>
if v10 = 0 then (some (-2)) else (if a3 = 0 then ((gR M 2 100 v9).bind fun v13 =>
(gR M 4 300 v13).bind fun v14 =>
(aJ M v14 a2).bind fun v15 =>
some v15) else ((gR M 2 101 v9).bind fun v16 =>
(aI M v16 a2).bind fun v17 =>
some v17.toInt64))))) else none


def f_X10_squeezer (M : Mm) (a0 : Nat) (a1 : Int32) (a2 : Int32) : Option Int32 :=
if mK M a0 = 11 then ((f_X10_isFlow a1).bind fun v2 =>
if v2 = 0 then (some (-1)) else ((gR M 11 1003 a0).bind fun v4 =>
(aR M 27 v4 a1).bind fun v5 =>
if a2 = 0 then ((gI M 10 901 v5).bind fun v7 =>
some v7) else (if a2 = 1 then ((gI M 10 902 v5).bind fun v9 =>
some v9) else (if a2 = 2 then ((gI M 10 904 v5).bind fun v11 =>
some v11) else (if a2 = 3 then ((f_X9_oldestNumber M v5).bind fun v14 =>
some v14) else (if a2 = 4 then ((gI M 10 903 v5).bind fun v16 =>
if v16 = 0 then (some 0) else (some 1)) else ((some (-1))))))))) else none


def f_X10_forget_J63 (M : Mm) (x0 : Nat) (x1 : Int32) (s0 : Int32) : Option (Mm × Int32) :=
(gR M 11 1003 x0).bind fun v1 =>
(aR M 27 v1 x1).bind fun v2 =>
(pI M 10 904 v2 0).bind fun M3 =>
(gR M3 11 1003 x0).bind fun v4 =>
(aR M3 27 v4 x1).bind fun v5 =>
(pZ M3 10 903 v5 1).bind fun M6 =>
if s0 = 0 then (some (M6, 0)) else (some (M6, 1))

def f_X10_forget (M : Mm) (a0 : Nat) (a1 : Int32) (a2 : Int32) : Option (Mm × Int32) :=
if mK M a0 = 11 then ((f_X10_isFlow a1).bind fun v2 =>
if v2 = 0 then (some (M, (-1))) else (if a2 < 0 then (some (M, (-1))) else (if a2 ≤ 1 then (if a2 = 1 then ((gR M 11 1004 a0).bind fun v11 =>
(aR M 23 v11 a1).bind fun v12 =>
(gI M 2 103 v12).bind fun v13 =>
(gR M 11 1004 a0).bind fun v14 =>
(aR M 23 v14 a1).bind fun v15 =>
(pZ M 2 103 v15 0).bind fun M16 =>
if v13 = 0 then (some (M16, 0)) else (some (M16, 1))) else ((gR M 11 1003 a0).bind fun v7 =>
(aR M 27 v7 a1).bind fun v8 =>
(gI M 10 904 v8).bind fun v9 =>
if v9 ≤ 0 then (f_X10_forget_J63 M a0 a1 0) else (f_X10_forget_J63 M a0 a1 1))) else (some (M, (-1)))))) else none


def f_X10_spent_J104 (k38 : Nat → Int32 → Int32 → Int32 → Int64 → Int64 → Int32 → Option Int64) (M : Mm) (x0 : Nat) (x1 : Int32) (x2 : Int32) (x3 : Int32) (x4 : Int64) (x6 : Int64) (x8 : Int32) : Option Int64 :=
k38 x0 x1 x2 x3 x4 x6 (x8 + 1)

def f_X10_spent_L38 (M : Mm) : Nat → Nat → Int32 → Int32 → Int32 → Int64 → Int64 → Int32 → Option Int64
  | 0, _, _, _, _, _, _, _ => none
  | fu + 1, x0, x1, x2, x3, x4, x6, x8 =>
    (gI M 11 1010 x0).bind fun v1 =>
    if v1 ≤ x8 then (if x3 = 0 then (some x4) else (if x3 = 1 then (some x6) else (if x2 ≤ 2 then ((gR M 11 1001 x0).bind fun v6 =>
    (f_X6_wholeBits M v6).bind fun v8 =>
    some ((x4 * v8.toInt64) - x6)) else (some 0)))) else ((gR M 11 1005 x0).bind fun v9 =>
    (aN M 25 v9 x8).bind fun v10 =>
    nm v10 (f_X10_spent_J104 (f_X10_spent_L38 M fu) M x0 x1 x2 x3 x4 x6 x8) (fun w11 => (gI M 5 407 w11).bind fun v12 =>
    if v12 = 0 then ((gI M 5 400 w11).bind fun v14 =>
    if v14 = x2 then ((gI M 5 401 w11).bind fun v16 =>
    if v16 = x1 then ((gI M 5 404 w11).bind fun v18 =>
    f_X10_spent_J104 (f_X10_spent_L38 M fu) M x0 x1 x2 x3 (x4 + 1) (x6 + v18.toInt64) x8) else (f_X10_spent_J104 (f_X10_spent_L38 M fu) M x0 x1 x2 x3 x4 x6 x8)) else (f_X10_spent_J104 (f_X10_spent_L38 M fu) M x0 x1 x2 x3 x4 x6 x8)) else (f_X10_spent_J104 (f_X10_spent_L38 M fu) M x0 x1 x2 x3 x4 x6 x8)))

def f_X10_spent (M : Mm) (a0 : Nat) (a1 : Int32) (a2 : Int32) (a3 : Int32) : Option Int64 :=
if mK M a0 = 11 then ((f_X10_isFlow a1).bind fun v2 =>
if v2 = 0 then (some (-1)) else (if a2 < 0 then (some (-1)) else (if 5 < a2 then (some (-1)) else (if a3 < 0 then (some (-1)) else (if a3 ≤ 2 then (f_X10_spent_L38 M 1000 a0 a1 a2 a3 0 0 0) else (some (-1))))))) else none


def f_X10_isShelf (a0 : Int32) : Option Int32 :=
if a0 < 0 then (some 0) else (if 8 ≤ a0 then (some 0) else (some 1))


def f_X10_keepLetter_L30 : Nat → Mm → Nat → Nat → Int32 → Option (Mm × Int32)
  | 0, _, _, _, _ => none
  | fu + 1, M, x0, x2, x3 =>
    (gI M 9 802 x0).bind fun v1 =>
    if v1 ≤ x3 then (some (M, 0)) else ((gR M 9 800 x0).bind fun v3 =>
    (gR M 5 403 x2).bind fun v4 =>
    (aI M v4 x3).bind fun v5 =>
    (wJ M v3 x3 v5.toInt64).bind fun M6 =>
    f_X10_keepLetter_L30 fu M6 x0 x2 (x3 + 1))

def f_X10_keepLetter (M : Mm) (a0 : Nat) (a1 : Int32) (a2 : Option Nat) : Option (Mm × Int32) :=
nm a2 (some (M, (-1))) (fun w1 => if a1 = 1 then ((f_X8_holdLetter M a0 w1).bind fun M8 =>
some (M8, 0)) else ((gR M 5 403 w1).bind fun v3 =>
(aL M v3).bind fun v4 =>
(f_X8_holdRow M a0 2 v4).bind fun M6 =>
f_X10_keepLetter_L30 1000 M6 a0 w1 0))


def f_X10_keepReferences_L28 : Nat → Mm → Nat → Nat → Int32 → Option (Mm × Int32)
  | 0, _, _, _, _ => none
  | fu + 1, M, x1, x3, x4 =>
    (gI M 9 802 x1).bind fun v1 =>
    if v1 ≤ x4 then (some (M, 0)) else ((gR M 9 800 x1).bind fun v3 =>
    (f_X9_reference M x3 x4).bind fun v5 =>
    (gI M 4 301 v5).bind fun v6 =>
    (wJ M v3 x4 v6.toInt64).bind fun M7 =>
    f_X10_keepReferences_L28 fu M7 x1 x3 (x4 + 1))

def f_X10_keepReferences (M : Mm) (a0 : Nat) (a1 : Nat) (a2 : Int32) : Option (Mm × Int32) :=
if mK M a0 = 11 then ((f_X10_isFlow a2).bind fun v2 =>
if v2 = 0 then (some (M, (-1))) else ((gR M 11 1003 a0).bind fun v4 =>
(aR M 27 v4 a2).bind fun v5 =>
(gI M 10 904 v5).bind fun v6 =>
(f_X8_holdRow M a1 3 v6).bind fun M8 =>
f_X10_keepReferences_L28 1000 M8 a1 v5 0)) else none


def f_X10_keepContext_L35 : Nat → Mm → Nat → Nat → Int32 → Int32 → Option (Mm × Int32)
  | 0, _, _, _, _, _ => none
  | fu + 1, M, x0, x1, x2, x3 =>
    (gI M 9 802 x1).bind fun v1 =>
    if v1 ≤ x3 then (some (M, 0)) else ((gR M 9 800 x1).bind fun v3 =>
    (gR M 11 1004 x0).bind fun v4 =>
    (aR M 23 v4 x2).bind fun v5 =>
    (gR M 2 100 v5).bind fun v6 =>
    (gR M 4 300 v6).bind fun v7 =>
    (aJ M v7 x3).bind fun v8 =>
    (wJ M v3 x3 v8).bind fun M9 =>
    f_X10_keepContext_L35 fu M9 x0 x1 x2 (x3 + 1))

def f_X10_keepContext (M : Mm) (a0 : Nat) (a1 : Nat) (a2 : Int32) : Option (Mm × Int32) :=
if mK M a0 = 11 then ((f_X10_isFlow a2).bind fun v2 =>
if v2 = 0 then (some (M, (-1))) else ((gR M 11 1004 a0).bind fun v4 =>
(aR M 23 v4 a2).bind fun v5 =>
(gI M 2 103 v5).bind fun v6 =>
if v6 = 0 then (some (M, (-1))) else ((gR M 11 1001 a0).bind fun v8 =>
(gI M 7 604 v8).bind fun v9 =>
(f_X8_holdRow M a1 4 v9).bind fun M11 =>
f_X10_keepContext_L35 1000 M11 a0 a1 a2 0))) else none


def f_X10_keep_J60 (M : Mm) (x0 : Nat) (x2 : Int32) (x3 : Int32) (x4 : Nat) : Option (Mm × Int32) :=
(f_X10_letterAt M x0 x3).bind fun v2 =>
ob2 (f_X10_keepLetter M x4 x2 v2) fun M4 v5 =>
some (M4, v5)

def f_X10_keep (M : Mm) (a0 : Nat) (a1 : Int32) (a2 : Int32) (a3 : Int32) : Option (Mm × Int32) :=
if mK M a0 = 11 then ((f_X10_isShelf a1).bind fun v2 =>
if v2 = 0 then (some (M, (-1))) else ((gR M 11 1006 a0).bind fun v4 =>
(aR M 26 v4 a1).bind fun v5 =>
if a2 = 0 then ((pI M 9 801 v5 0).bind fun M7 =>
some (M7, 0)) else (if a2 = 1 then (f_X10_keep_J60 M a0 a2 a3 v5) else (if a2 = 2 then (f_X10_keep_J60 M a0 a2 a3 v5) else (if a2 = 3 then (ob2 (f_X10_keepReferences M a0 v5 a3) fun M12 v13 =>
some (M12, v13)) else (if a2 = 4 then (ob2 (f_X10_keepContext M a0 v5 a3) fun M16 v17 =>
some (M16, v17)) else ((some (M, (-1)))))))))) else none


def f_X10_make (M : Mm) (a0 : Nat) (a1 : Int32) (a2 : Int32) (a3 : Int32) : Option (Mm × Int32) :=
if mK M a0 = 11 then ((f_X10_isShelf a1).bind fun v2 =>
if v2 = 0 then (some (M, (-1))) else (if a2 < 2 then (some (M, (-1))) else (if 4 < a2 then (some (M, (-1))) else (if a3 ≤ 60 then (if 0 ≤ a3 then ((gR M 11 1006 a0).bind fun v8 =>
(aR M 26 v8 a1).bind fun v9 =>
(f_X8_holdRow M v9 a2 a3).bind fun M11 =>
some (M11, 0)) else (some (M, (-14)))) else (some (M, (-1))))))) else none


def f_X10_put (M : Mm) (a0 : Nat) (a1 : Int32) (a2 : Int32) (a3 : Int32) : Option (Mm × Int64) :=
if mK M a0 = 11 then ((f_X10_isShelf a1).bind fun v2 =>
if v2 = 0 then (some (M, (-1))) else (if a3 < 0 then (some (M, (-1))) else (if a3 ≤ 30000 then ((gR M 11 1006 a0).bind fun v6 =>
(aR M 26 v6 a1).bind fun v7 =>
(gI M 9 801 v7).bind fun v8 =>
if v8 = 0 then (some (M, (-11))) else ((gI M 9 801 v7).bind fun v10 =>
if v10 = 1 then (some (M, (-12))) else ((f_X8_hasPlaces M v7 a2 1).bind fun v13 =>
if v13 = 0 then (some (M, (-13))) else ((gR M 9 800 v7).bind fun v15 =>
(aJ M v15 a2).bind fun v16 =>
(gR M 9 800 v7).bind fun v17 =>
(wJ M v17 a2 a3.toInt64).bind fun M18 =>
some (M18, v16))))) else (some (M, (-1)))))) else none


def f_X10_copy (M : Mm) (a0 : Nat) (a1 : Int32) (a2 : Int32) (a3 : Int32) (a4 : Int32) (a5 : Int32) : Option (Mm × Int32) :=
if mK M a0 = 11 then ((f_X10_isShelf a1).bind fun v2 =>
if v2 = 0 then (some (M, (-1))) else ((f_X10_isShelf a3).bind fun v5 =>
if v5 = 0 then (some (M, (-1))) else ((gR M 11 1006 a0).bind fun v7 =>
(aR M 26 v7 a1).bind fun v8 =>
(gR M 11 1006 a0).bind fun v9 =>
(aR M 26 v9 a3).bind fun v10 =>
(gI M 9 801 v8).bind fun v11 =>
if v11 = 0 then (some (M, (-11))) else ((gI M 9 801 v10).bind fun v13 =>
if v13 = 0 then (some (M, (-11))) else ((gI M 9 801 v8).bind fun v15 =>
if v15 = 1 then (some (M, (-12))) else ((gI M 9 801 v8).bind fun v17 =>
(gI M 9 801 v10).bind fun v18 =>
if v17 = v18 then ((f_X8_hasPlaces M v8 a2 a5).bind fun v21 =>
if v21 = 0 then (some (M, (-13))) else ((f_X8_hasPlaces M v10 a4 a5).bind fun v24 =>
if v24 = 0 then (some (M, (-13))) else ((gR M 9 800 v8).bind fun v26 =>
(gR M 9 800 v10).bind fun v27 =>
(cpJ M v26 a2 v27 a4 a5).bind fun M28 =>
some (M28, a5)))) else (some (M, (-12))))))))) else none


def f_X10_refusalOfLetterOn (M : Mm) (a0 : Nat) (a1 : Int32) : Option Int32 :=
if mK M a0 = 11 then ((f_X10_isShelf a1).bind fun v2 =>
if v2 = 0 then (some (-1)) else ((gR M 11 1006 a0).bind fun v4 =>
(aR M 26 v4 a1).bind fun v5 =>
(gI M 9 801 v5).bind fun v6 =>
if v6 = 0 then (some (-11)) else ((gR M 11 1006 a0).bind fun v8 =>
(aR M 26 v8 a1).bind fun v9 =>
(gI M 9 801 v9).bind fun v10 =>
if v10 = 1 then (some 0) else (some (-12))))) else none


def f_X10_worth (M : Mm) (a0 : Nat) (a1 : Int32) : Option Int32 :=
if mK M a0 = 11 then ((f_X10_refusalOfLetterOn M a0 a1).bind fun v2 =>
if v2 = 0 then ((gR M 11 1006 a0).bind fun v4 =>
(aR M 26 v4 a1).bind fun v5 =>
(gI M 9 803 v5).bind fun v6 =>
(gR M 11 1006 a0).bind fun v7 =>
(aR M 26 v7 a1).bind fun v8 =>
(gI M 9 804 v8).bind fun v9 =>
if v6 = 1 then (some (((v9 * 10) + v6) + 3)) else (if v6 = 2 then (some ((((v9 * 10) + v6) + 3) * 2)) else (if v6 = 3 then (some (((v9 * 10) + v6) + 1)) else (if v6 = 4 then (some ((((v9 * 10) + v6) + 1) + 5)) else (if v6 = 5 then (some (((((v9 * 10) + v6) + 1) + 5) * 3)) else ((some ((v9 * 10) + v6)))))))) else (some v2)) else none


def f_X10_toss (M : Mm) (a0 : Nat) (a1 : Int32) : Option Int32 :=
if mK M a0 = 11 then ((f_X10_refusalOfLetterOn M a0 a1).bind fun v2 =>
if v2 = 0 then ((gR M 11 1006 a0).bind fun v4 =>
(aR M 26 v4 a1).bind fun v5 =>
(gI M 9 803 v5).bind fun v6 =>
if v6 = 0 then (some (-15)) else (if v6 = 3 then (some (-15)) else (some v6))) else (some v2)) else none


def f_X10_count (M : Mm) (a0 : Nat) (a1 : Int32) : Option Int32 :=
if mK M a0 = 11 then (if a1 = 0 then ((gR M 11 1001 a0).bind fun v2 =>
(gI M 7 604 v2).bind fun v3 =>
some v3) else (if a1 = 1 then ((gI M 11 1010 a0).bind fun v5 =>
some v5) else (if a1 = 2 then ((gI M 11 1000 a0).bind fun v7 =>
some v7) else (if a1 = 3 then ((gI M 11 1011 a0).bind fun v9 =>
some v9) else ((some (-1))))))) else none


def f_X11_init_L410 : Nat → Mm → Nat → Int32 → Option Mm
  | 0, _, _, _ => none
  | fu + 1, M, x0, x2 =>
    if 8 ≤ x2 then (some M) else ((gR M 12 1112 x0).bind fun v2 =>
    (wZ M v2 x2 1).bind fun M3 =>
    f_X11_init_L410 fu M3 x0 (x2 + 1))

def f_X11_init_L382 : Nat → Mm → Nat → Int32 → Option Mm
  | 0, _, _, _ => none
  | fu + 1, M, x0, x2 =>
    if 64 ≤ x2 then (f_X11_init_L410 1000 M x0 0) else ((gR M 12 1111 x0).bind fun v2 =>
    (wI M v2 x2 1).bind fun M3 =>
    (gR M3 12 1133 x0).bind fun v4 =>
    (wI M3 v4 x2 1).bind fun M5 =>
    f_X11_init_L382 fu M5 x0 (x2 + 1))

def f_X11_init (M : Mm) (a0 : Nat) (a1 : Int32) : Option Mm :=
if mK M a0 = 12 then ((mA0 M 20 8 8).bind fun M1 =>
(pR M1 12 1102 a0 (some (mS M))).bind fun M2 =>
(mA0 M2 20 8 8).bind fun M3 =>
(pR M3 12 1103 a0 (some (mS M2))).bind fun M4 =>
(mA0 M4 20 8 8).bind fun M5 =>
(pR M5 12 1104 a0 (some (mS M4))).bind fun M6 =>
(mA0 M6 21 8 8).bind fun M7 =>
(pR M7 12 1105 a0 (some (mS M6))).bind fun M8 =>
(mA0 M8 21 8 8).bind fun M9 =>
(pR M9 12 1108 a0 (some (mS M8))).bind fun M10 =>
(mA0 M10 20 8 8).bind fun M11 =>
(pR M11 12 1109 a0 (some (mS M10))).bind fun M12 =>
(mA0 M12 20 8 8).bind fun M13 =>
(pR M13 12 1110 a0 (some (mS M12))).bind fun M14 =>
(mA0 M14 20 64 64).bind fun M15 =>
(pR M15 12 1111 a0 (some (mS M14))).bind fun M16 =>
(mA0 M16 22 8 8).bind fun M17 =>
(pR M17 12 1112 a0 (some (mS M16))).bind fun M18 =>
(mA0 M18 20 8 8).bind fun M19 =>
(pR M19 12 1113 a0 (some (mS M18))).bind fun M20 =>
(mA0 M20 20 72 72).bind fun M21 =>
(pR M21 12 1114 a0 (some (mS M20))).bind fun M22 =>
(mA0 M22 21 576 576).bind fun M23 =>
(pR M23 12 1115 a0 (some (mS M22))).bind fun M24 =>
(mA0 M24 20 200 200).bind fun M25 =>
(pR M25 12 1117 a0 (some (mS M24))).bind fun M26 =>
(mA0 M26 20 12800 12800).bind fun M27 =>
(pR M27 12 1118 a0 (some (mS M26))).bind fun M28 =>
(mA0 M28 20 200 200).bind fun M29 =>
(pR M29 12 1119 a0 (some (mS M28))).bind fun M30 =>
(mA0 M30 20 200 200).bind fun M31 =>
(pR M31 12 1120 a0 (some (mS M30))).bind fun M32 =>
(mA0 M32 20 200 200).bind fun M33 =>
(pR M33 12 1121 a0 (some (mS M32))).bind fun M34 =>
(mA0 M34 20 200 200).bind fun M35 =>
(pR M35 12 1122 a0 (some (mS M34))).bind fun M36 =>
(mA0 M36 20 200 200).bind fun M37 =>
(pR M37 12 1123 a0 (some (mS M36))).bind fun M38 =>
(mA0 M38 22 200 200).bind fun M39 =>
(pR M39 12 1124 a0 (some (mS M38))).bind fun M40 =>
(mA0 M40 22 200 200).bind fun M41 =>
(pR M41 12 1125 a0 (some (mS M40))).bind fun M42 =>
(mA0 M42 20 1600 1600).bind fun M43 =>
(pR M43 12 1126 a0 (some (mS M42))).bind fun M44 =>
(mA0 M44 20 1600 1600).bind fun M45 =>
(pR M45 12 1127 a0 (some (mS M44))).bind fun M46 =>
(mA0 M46 20 200 200).bind fun M47 =>
(pR M47 12 1128 a0 (some (mS M46))).bind fun M48 =>
(mA0 M48 20 200 200).bind fun M49 =>
(pR M49 12 1129 a0 (some (mS M48))).bind fun M50 =>
(mA0 M50 22 8 8).bind fun M51 =>
(pR M51 12 1130 a0 (some (mS M50))).bind fun M52 =>
(mA0 M52 20 8 8).bind fun M53 =>
(pR M53 12 1131 a0 (some (mS M52))).bind fun M54 =>
(mA0 M54 20 8 8).bind fun M55 =>
(pR M55 12 1132 a0 (some (mS M54))).bind fun M56 =>
(mA0 M56 20 64 64).bind fun M57 =>
(pR M57 12 1133 a0 (some (mS M56))).bind fun M58 =>
(mA0 M58 21 64 64).bind fun M59 =>
(pR M59 12 1134 a0 (some (mS M58))).bind fun M60 =>
(mA0 M60 21 8 8).bind fun M61 =>
(pR M61 12 1139 a0 (some (mS M60))).bind fun M62 =>
(mA0 M62 20 8 8).bind fun M63 =>
(pR M63 12 1140 a0 (some (mS M62))).bind fun M64 =>
(mA0 M64 20 600 600).bind fun M65 =>
(pR M65 12 1141 a0 (some (mS M64))).bind fun M66 =>
(mA0 M66 20 8 8).bind fun M67 =>
(pR M67 12 1146 a0 (some (mS M66))).bind fun M68 =>
(mA0 M68 20 8 8).bind fun M69 =>
(pR M69 12 1147 a0 (some (mS M68))).bind fun M70 =>
(mA0 M70 21 8 8).bind fun M71 =>
(pR M71 12 1148 a0 (some (mS M70))).bind fun M72 =>
(mA0 M72 20 8 8).bind fun M73 =>
(pR M73 12 1149 a0 (some (mS M72))).bind fun M74 =>
(mA0 M74 21 8 8).bind fun M75 =>
(pR M75 12 1152 a0 (some (mS M74))).bind fun M76 =>
(mA0 M76 20 8 8).bind fun M77 =>
(pR M77 12 1153 a0 (some (mS M76))).bind fun M78 =>
(mA0 M78 20 8 8).bind fun M79 =>
(pR M79 12 1154 a0 (some (mS M78))).bind fun M80 =>
(mA0 M80 20 8 8).bind fun M81 =>
(pR M81 12 1155 a0 (some (mS M80))).bind fun M82 =>
(mA0 M82 21 512 512).bind fun M83 =>
(pR M83 12 1156 a0 (some (mS M82))).bind fun M84 =>
(mA0 M84 21 64 64).bind fun M85 =>
(pR M85 12 1157 a0 (some (mS M84))).bind fun M86 =>
(pI M86 12 1107 a0 (1 + (((a1 - a1 / 8 * 8) + 8) - ((a1 - a1 / 8 * 8) + 8) / 8 * 8))).bind fun M87 =>
f_X11_init_L382 1000 M87 a0 0) else none


def f_X11_isIn (a0 : Int64) (a2 : Int64) (a4 : Int64) : Option Int32 :=
if (lg_cmp a0 a2) < 0 then (some 0) else (if 0 < (lg_cmp a0 a4) then (some 0) else (some 1))


def f_X11_isField (M : Mm) (a0 : Nat) (a1 : Int32) : Option Int32 :=
if mK M a0 = 12 then (if a1 < 0 then (some 0) else ((gI M 12 1101 a0).bind fun v2 =>
if v2 ≤ a1 then (some 0) else (some 1))) else none


def f_X11_isFlow (a0 : Int32) : Option Int32 :=
if a0 < 0 then (some 0) else (if 8 ≤ a0 then (some 0) else (some 1))


def f_X11_cut (M : Mm) (a0 : Nat) (a1 : Int32) (a2 : Int64) : Option Int64 :=
if mK M a0 = 12 then ((gR M 12 1103 a0).bind fun v1 =>
(aI M v1 a1).bind fun v2 =>
some (a2 &&& (((1 : Int64) <<< (v2.toInt64 &&& 63)) - 1))) else none


def f_X11_runs (M : Mm) (a0 : Nat) (a1 : Int32) : Option Int32 :=
if mK M a0 = 12 then ((gR M 12 1102 a0).bind fun v1 =>
(aI M v1 a1).bind fun v2 =>
if v2 = 2 then (some 1) else ((gR M 12 1102 a0).bind fun v4 =>
(aI M v4 a1).bind fun v5 =>
if v5 = 3 then (some 1) else (some 0))) else none


def f_X11_field_J65 (M : Mm) (x0 : Nat) (x1 : Int32) (x2 : Int32) (x3 : Int32) (x4 : Int32) (s0 : Int32) : Option (Mm × Int32) :=
if s0 = 0 then (some (M, (-1))) else ((gI M 12 1101 x0).bind fun v2 =>
if v2 = 8 then (some (M, (-2))) else ((gI M 12 1106 x0).bind fun v4 =>
if v4 = 0 then ((gR M 12 1102 x0).bind fun v6 =>
(gI M 12 1101 x0).bind fun v7 =>
(wI M v6 v7 x1).bind fun M8 =>
(gR M8 12 1103 x0).bind fun v9 =>
(gI M8 12 1101 x0).bind fun v10 =>
(wI M8 v9 v10 x2).bind fun M11 =>
(gR M11 12 1104 x0).bind fun v12 =>
(gI M11 12 1101 x0).bind fun v13 =>
(wI M11 v12 v13 x3).bind fun M14 =>
(gR M14 12 1105 x0).bind fun v15 =>
(gI M14 12 1101 x0).bind fun v16 =>
(wJ M14 v15 v16 x4.toInt64).bind fun M17 =>
(gR M17 12 1108 x0).bind fun v18 =>
(gI M17 12 1101 x0).bind fun v19 =>
(wJ M17 v18 v19 0).bind fun M20 =>
(gI M20 12 1101 x0).bind fun v21 =>
(pI M20 12 1101 x0 (v21 + 1)).bind fun M22 =>
(gI M22 12 1101 x0).bind fun v23 =>
some (M22, v23 - 1)) else (some (M, (-3)))))

def f_X11_field_J64 (M : Mm) (x0 : Nat) (x1 : Int32) (x2 : Int32) (x3 : Int32) (x4 : Int32) : Option (Mm × Int32) :=
f_X11_field_J65 M x0 x1 x2 x3 x4 0

def f_X11_field_J60 (M : Mm) (x0 : Nat) (x1 : Int32) (x2 : Int32) (x3 : Int32) (x4 : Int32) : Option (Mm × Int32) :=
f_X11_field_J65 M x0 x1 x2 x3 x4 1

def f_X11_field_J42 (M : Mm) (x0 : Nat) (x1 : Int32) (x2 : Int32) (x3 : Int32) (x4 : Int32) : Option (Mm × Int32) :=
if x1 = 3 then ((f_X11_isIn x4.toInt64 1 1000).bind fun v3 =>
if v3 = 0 then (f_X11_field_J64 M x0 x1 x2 x3 x4) else (f_X11_field_J60 M x0 x1 x2 x3 x4)) else (f_X11_field_J60 M x0 x1 x2 x3 x4)

def f_X11_field (M : Mm) (a0 : Nat) (a1 : Int32) (a2 : Int32) (a3 : Int32) (a4 : Int32) : Option (Mm × Int32) :=
if mK M a0 = 12 then ((pI M 12 1100 a0 0).bind fun M1 =>
(f_X11_isIn a1.toInt64 0 4).bind fun v3 =>
if v3 = 0 then (f_X11_field_J64 M1 a0 a1 a2 a3 a4) else ((f_X11_isIn a2.toInt64 1 32).bind fun v6 =>
if v6 = 0 then (f_X11_field_J64 M1 a0 a1 a2 a3 a4) else (if a1 = 1 then ((f_X11_isField M1 a0 a3).bind fun v10 =>
if v10 = 0 then (f_X11_field_J64 M1 a0 a1 a2 a3 a4) else (f_X11_field_J42 M1 a0 a1 a2 a3 a4)) else (f_X11_field_J42 M1 a0 a1 a2 a3 a4)))) else none


def f_X11_set (M : Mm) (a0 : Nat) (a1 : Int32) (a2 : Int64) : Option (Mm × Int64) :=
if mK M a0 = 12 then ((pI M 12 1100 a0 0).bind fun M1 =>
(f_X11_isField M1 a0 a1).bind fun v3 =>
if v3 = 0 then (some (M1, (-1))) else ((gR M1 12 1108 a0).bind fun v5 =>
(aJ M1 v5 a1).bind fun v6 =>
(gR M1 12 1108 a0).bind fun v7 =>
(f_X11_cut M1 a0 a1 a2).bind fun v9 =>
(wJ M1 v7 a1 v9).bind fun M10 =>
some (M10, v6))) else none


def f_X11_stride (M : Mm) (a0 : Nat) (a1 : Int32) (a2 : Int32) (a3 : Int32) : Option (Mm × Int32) :=
if mK M a0 = 12 then ((pI M 12 1100 a0 0).bind fun M1 =>
(f_X11_isFlow a1).bind fun v3 =>
if v3 = 0 then (some (M1, (-1))) else ((f_X11_isField M1 a0 a2).bind fun v6 =>
if v6 = 0 then (some (M1, (-1))) else ((f_X11_runs M1 a0 a2).bind fun v9 =>
if v9 = 0 then (some (M1, (-1))) else ((f_X11_isIn a3.toInt64 0 255).bind fun v12 =>
if v12 = 0 then (some (M1, (-1))) else ((gR M1 12 1111 a0).bind fun v14 =>
(aI M1 v14 ((8 * a1) + a2)).bind fun v15 =>
(gR M1 12 1111 a0).bind fun v16 =>
(wI M1 v16 ((8 * a1) + a2) a3).bind fun M17 =>
(gR M17 12 1112 a0).bind fun v18 =>
(wZ M17 v18 a1 1).bind fun M19 =>
some (M19, v15)))))) else none


def f_X11_onwards_J54 (M : Mm) (s0 : Nat) (s1 : Int32) (s2 : Int64) (s3 : Int64) (s4 : Int64) : Option Int64 :=
(f_X11_cut M s0 s1 (s2 + (s3 * s4))).bind fun v2 =>
some v2

def f_X11_onwards (M : Mm) (a0 : Nat) (a1 : Int32) (a2 : Int64) (a4 : Int32) (a5 : Int32) : Option Int64 :=
if mK M a0 = 12 then ((gR M 12 1102 a0).bind fun v1 =>
(aI M v1 a1).bind fun v2 =>
if v2 = 4 then (some 0) else ((gR M 12 1102 a0).bind fun v4 =>
(aI M v4 a1).bind fun v5 =>
if 2 ≤ v5 then ((gR M 12 1102 a0).bind fun v7 =>
(aI M v7 a1).bind fun v8 =>
if v8 = 3 then ((gR M 12 1105 a0).bind fun v10 =>
(aJ M v10 a1).bind fun v11 =>
f_X11_onwards_J54 M a0 a1 a2 (a4.toInt64 * a5.toInt64) v11) else (f_X11_onwards_J54 M a0 a1 a2 (a4.toInt64 * a5.toInt64) 1)) else (some a2))) else none


def f_X11_given (M : Mm) (a0 : Nat) (a1 : Int32) (a2 : Int32) (a3 : Int32) (a4 : Int32) : Option Int64 :=
if mK M a0 = 12 then ((gR M 12 1102 a0).bind fun v1 =>
(aI M v1 a3).bind fun v2 =>
if v2 = 1 then ((gR M 12 1108 a0).bind fun v12 =>
(gR M 12 1104 a0).bind fun v13 =>
(aI M v13 a3).bind fun v14 =>
(aJ M v12 v14).bind fun v15 =>
(gR M 12 1105 a0).bind fun v16 =>
(aJ M v16 a3).bind fun v17 =>
(f_X11_cut M a0 a3 (v15 + v17)).bind fun v19 =>
some v19) else ((gR M 12 1115 a0).bind fun v4 =>
(aJ M v4 ((8 * ((9 * a1) + a2)) + a3)).bind fun v5 =>
(gR M 12 1114 a0).bind fun v6 =>
(aI M v6 ((9 * a1) + a2)).bind fun v7 =>
(gR M 12 1111 a0).bind fun v8 =>
(aI M v8 ((8 * a1) + a3)).bind fun v9 =>
(f_X11_onwards M a0 a3 v5 (a4 - v7) v9).bind fun v11 =>
some v11)) else none


def f_X11_finds (M : Mm) (a0 : Nat) (a1 : Int32) (a2 : Int64) (a4 : Int64) (a6 : Int32) : Option Int32 :=
if mK M a0 = 12 then (if a6 = 0 then (if (lg_cmp a2 a4) = 0 then (some 1) else (some 0)) else ((f_X11_cut M a0 a1 ((a4 - a2) + ((1 : Int64) <<< ((a6 - 1).toInt64 &&& 63)))).bind fun v3 =>
if 0 ≤ (lg_cmp v3 ((1 : Int64) <<< (a6.toInt64 &&& 63))) then (some 0) else (some 1))) else none


def f_X11_giveAll_J46 (k6 : Nat → Int32 → Int32 → Int32 → Int32 → Int32 → Option Int32) (M : Mm) (x0 : Nat) (x1 : Int32) (x2 : Int32) (x3 : Int32) (x5 : Int32) (s0 : Int32) : Option Int32 :=
k6 x0 x1 x2 x3 s0 (x5 + 1)

def f_X11_giveAll_J45 (k6 : Nat → Int32 → Int32 → Int32 → Int32 → Int32 → Option Int32) (M : Mm) (x0 : Nat) (x1 : Int32) (x2 : Int32) (x3 : Int32) (x5 : Int32) : Option Int32 :=
f_X11_giveAll_J46 k6 M x0 x1 x2 x3 x5 0

def f_X11_giveAll_L6 (M : Mm) : Nat → Nat → Int32 → Int32 → Int32 → Int32 → Int32 → Option Int32
  | 0, _, _, _, _, _, _ => none
  | fu + 1, x0, x1, x2, x3, x4, x5 =>
    (gR M 12 1113 x0).bind fun v1 =>
    (aI M v1 x1).bind fun v2 =>
    if v2 ≤ x5 then (if x4 = 0 ∨ x4 = 1 then
    some x4 else none) else (if x4 = 0 then (f_X11_giveAll_J45 (f_X11_giveAll_L6 M fu) M x0 x1 x2 x3 x5) else ((f_X11_given M x0 x1 x5 x2 x3).bind fun v7 =>
    (gR M 12 1108 x0).bind fun v8 =>
    (aJ M v8 x2).bind fun v9 =>
    if (lg_cmp v7 v9) = 0 then (f_X11_giveAll_J46 (f_X11_giveAll_L6 M fu) M x0 x1 x2 x3 x5 1) else (f_X11_giveAll_J45 (f_X11_giveAll_L6 M fu) M x0 x1 x2 x3 x5)))

def f_X11_giveAll (M : Mm) (a0 : Nat) (a1 : Int32) (a2 : Int32) (a3 : Int32) : Option Int32 :=
if mK M a0 = 12 then (f_X11_giveAll_L6 M 1000 a0 a1 a2 a3 1 0) else none


def f_X11_serves_J52 (k6 : Nat → Int32 → Int32 → Int32 → Int32 → Int32 → Int32 → Option Int32) (M : Mm) (x0 : Nat) (x1 : Int32) (x2 : Int32) (x3 : Int32) (x4 : Int32) (x6 : Int32) (s0 : Int32) : Option Int32 :=
k6 x0 x1 x2 x3 x4 s0 (x6 + 1)

def f_X11_serves_J51 (k6 : Nat → Int32 → Int32 → Int32 → Int32 → Int32 → Int32 → Option Int32) (M : Mm) (x0 : Nat) (x1 : Int32) (x2 : Int32) (x3 : Int32) (x4 : Int32) (x6 : Int32) : Option Int32 :=
f_X11_serves_J52 k6 M x0 x1 x2 x3 x4 x6 0

def f_X11_serves_L6 (M : Mm) : Nat → Nat → Int32 → Int32 → Int32 → Int32 → Int32 → Int32 → Option Int32
  | 0, _, _, _, _, _, _, _ => none
  | fu + 1, x0, x1, x2, x3, x4, x5, x6 =>
    (gR M 12 1113 x0).bind fun v1 =>
    (aI M v1 x1).bind fun v2 =>
    if v2 ≤ x6 then (if x5 = 0 ∨ x5 = 1 then
    some x5 else none) else (if x5 = 0 then (f_X11_serves_J51 (f_X11_serves_L6 M fu) M x0 x1 x2 x3 x4 x6) else ((f_X11_given M x0 x1 x6 x2 x3).bind fun v7 =>
    (gR M 12 1108 x0).bind fun v8 =>
    (aJ M v8 x2).bind fun v9 =>
    (f_X11_finds M x0 x2 v7 v9 x4).bind fun v11 =>
    if v11 = 0 then (f_X11_serves_J51 (f_X11_serves_L6 M fu) M x0 x1 x2 x3 x4 x6) else (f_X11_serves_J52 (f_X11_serves_L6 M fu) M x0 x1 x2 x3 x4 x6 1)))

def f_X11_serves (M : Mm) (a0 : Nat) (a1 : Int32) (a2 : Int32) (a3 : Int32) (a4 : Int32) : Option Int32 :=
if mK M a0 = 12 then (f_X11_serves_L6 M 1000 a0 a1 a2 a3 a4 1 0) else none


def f_X11_say_L5 : Nat → Mm → Nat → Int64 → Int32 → Option Mm
  | 0, _, _, _, _ => none
  | fu + 1, M, x0, x1, x4 =>
    if x4 < 0 then (some M) else ((gR M 12 1141 x0).bind fun v2 =>
    (gI M 12 1142 x0).bind fun v3 =>
    (wI M v2 v3 (((x1 >>> (x4.toInt64 &&& 63)) &&& 1).toInt32)).bind fun M4 =>
    (gI M4 12 1142 x0).bind fun v5 =>
    (pI M4 12 1142 x0 (v5 + 1)).bind fun M6 =>
    f_X11_say_L5 fu M6 x0 x1 (x4 + (-1)))

def f_X11_say (M : Mm) (a0 : Nat) (a1 : Int64) (a3 : Int32) : Option Mm :=
if mK M a0 = 12 then (f_X11_say_L5 1000 M a0 a1 (a3 - 1)) else none


def f_X11_sumOf (M : Mm) (a0 : Nat) (a1 : Int64) (a3 : Int64) : Option Int32 :=
if mK M a0 = 12 then (some ((((31 * a1) + a3) &&& 255).toInt32)) else none


def f_X11_draftSum_L5 (M : Mm) : Nat → Nat → Int32 → Int32 → Option Int32
  | 0, _, _, _ => none
  | fu + 1, x0, x1, x2 =>
    (gI M 12 1101 x0).bind fun v1 =>
    if v1 ≤ x2 then (some x1) else ((gR M 12 1108 x0).bind fun v3 =>
    (aJ M v3 x2).bind fun v4 =>
    (f_X11_sumOf M x0 x1.toInt64 v4).bind fun v6 =>
    f_X11_draftSum_L5 M fu x0 v6 (x2 + 1))

def f_X11_draftSum (M : Mm) (a0 : Nat) : Option Int32 :=
if mK M a0 = 12 then (f_X11_draftSum_L5 M 1000 a0 17 0) else none


def f_X11_checkOf_L5 (M : Mm) : Nat → Nat → Int32 → Int32 → Int32 → Int32 → Option Int32
  | 0, _, _, _, _, _ => none
  | fu + 1, x0, x1, x2, x3, x4 =>
    if x2 ≤ x4 then (some (255 - (x3 - x3 / 256 * 256))) else ((gR M 12 1118 x0).bind fun v2 =>
    (aI M v2 ((64 * x1) + x4)).bind fun v3 =>
    f_X11_checkOf_L5 M fu x0 x1 x2 (x3 + v3) (x4 + 1))

def f_X11_checkOf (M : Mm) (a0 : Nat) (a1 : Int32) (a2 : Int32) : Option Int32 :=
if mK M a0 = 12 then (f_X11_checkOf_L5 M 1000 a0 a1 a2 0 0) else none


def f_X11_laid_J186 (M : Mm) (x0 : Nat) (x5 : Int32) (x6 : Int32) : Option (Mm × Int32) :=
(gR M 12 1117 x0).bind fun v1 =>
(wI M v1 x5 x6).bind fun M2 =>
(gI M2 12 1116 x0).bind fun v3 =>
(pI M2 12 1116 x0 (v3 + 1)).bind fun M4 =>
(pZ M4 12 1106 x0 1).bind fun M5 =>
some (M5, x5)

def f_X11_laid_J124 (k74 : Mm → Nat → Int32 → Int32 → Int32 → Int32 → Option (Mm × Int32)) (k90 : Mm → Nat → Int32 → Int32 → Int32 → Int32 → Int32 → Int32 → Option (Mm × Int32)) (M : Mm) (x0 : Nat) (x4 : Int32) (x5 : Int32) (x6 : Int32) (x7 : Int32) (x9 : Int32) (s0 : Int32) (s1 : Int32) : Option (Mm × Int32) :=
k90 M x0 x4 x5 x6 x7 (s0 + s1) (x9 + 1)

def f_X11_laid_L90 (k74 : Mm → Nat → Int32 → Int32 → Int32 → Int32 → Option (Mm × Int32)) : Nat → Mm → Nat → Int32 → Int32 → Int32 → Int32 → Int32 → Int32 → Option (Mm × Int32)
  | 0, _, _, _, _, _, _, _, _ => none
  | fu + 1, M, x0, x4, x5, x6, x7, x8, x9 =>
    if (x7 + 8) ≤ x9 then ((gR M 12 1118 x0).bind fun v2 =>
    (wI M v2 ((64 * x5) + x6) x8).bind fun M3 =>
    k74 M3 x0 x4 x5 (x6 + 1) (x7 + 8)) else ((gI M 12 1142 x0).bind fun v4 =>
    if v4 ≤ x9 then (f_X11_laid_J124 k74 (f_X11_laid_L90 k74 fu) M x0 x4 x5 x6 x7 x9 (2 * x8) 0) else ((gR M 12 1141 x0).bind fun v6 =>
    (aI M v6 x9).bind fun v7 =>
    f_X11_laid_J124 k74 (f_X11_laid_L90 k74 fu) M x0 x4 x5 x6 x7 x9 (2 * x8) v7))

def f_X11_laid_L74 : Nat → Mm → Nat → Int32 → Int32 → Int32 → Int32 → Option (Mm × Int32)
  | 0, _, _, _, _, _, _ => none
  | fu + 1, M, x0, x4, x5, x6, x7 =>
    (gI M 12 1142 x0).bind fun v1 =>
    if v1 ≤ x7 then (if x4 = 0 then (f_X11_laid_J186 M x0 x5 x6) else ((gR M 12 1118 x0).bind fun v4 =>
    (f_X11_checkOf M x0 x5 x6).bind fun v6 =>
    (wI M v4 ((64 * x5) + x6) v6).bind fun M7 =>
    f_X11_laid_J186 M7 x0 x5 (x6 + 1))) else (f_X11_laid_L90 (f_X11_laid_L74 fu) 1000 M x0 x4 x5 x6 x7 0 x7)

def f_X11_laid (M : Mm) (a0 : Nat) (a1 : Int32) (a2 : Int32) (a3 : Int32) (a4 : Int32) : Option (Mm × Int32) :=
if mK M a0 = 12 then ((gI M 12 1116 a0).bind fun v1 =>
(gR M 12 1119 a0).bind fun v2 =>
(wI M v2 v1 a1).bind fun M3 =>
(gR M3 12 1120 a0).bind fun v4 =>
(wI M3 v4 v1 a2).bind fun M5 =>
(gR M5 12 1121 a0).bind fun v6 =>
(wI M5 v6 v1 (a3 - a3 / 65536 * 65536)).bind fun M7 =>
(gR M7 12 1122 a0).bind fun v8 =>
(gI M7 12 1142 a0).bind fun v9 =>
(wI M7 v8 v1 v9).bind fun M10 =>
(gR M10 12 1123 a0).bind fun v11 =>
(wI M10 v11 v1 (-1)).bind fun M12 =>
(gR M12 12 1124 a0).bind fun v13 =>
(wZ M12 v13 v1 0).bind fun M14 =>
(gR M14 12 1125 a0).bind fun v15 =>
(wZ M14 v15 v1 0).bind fun M16 =>
f_X11_laid_L74 1000 M16 a0 a4 v1 0 0) else none


def f_X11_head (M : Mm) (a0 : Nat) (a1 : Int32) (a2 : Int32) (a3 : Int32) : Option Mm :=
if mK M a0 = 12 then ((pI M 12 1142 a0 0).bind fun M1 =>
(f_X11_say M1 a0 a1.toInt64 3).bind fun M3 =>
(f_X11_say M3 a0 a2.toInt64 3).bind fun M5 =>
(f_X11_say M5 a0 ((a3 - a3 / 65536 * 65536).toInt64) 16).bind fun M7 =>
some M7) else none


def f_X11_sendWhole_J102 (k52 : Mm → Nat → Int32 → Int32 → Int32 → Option (Mm × Int32)) (M : Mm) (x0 : Nat) (x1 : Int32) (x2 : Int32) (x3 : Int32) : Option (Mm × Int32) :=
k52 M x0 x1 x2 (x3 + 1)

def f_X11_sendWhole_L52 : Nat → Mm → Nat → Int32 → Int32 → Int32 → Option (Mm × Int32)
  | 0, _, _, _, _, _ => none
  | fu + 1, M, x0, x1, x2, x3 =>
    (gI M 12 1101 x0).bind fun v1 =>
    if v1 ≤ x3 then (ob2 (f_X11_laid M x0 0 x1 x2 1) fun M4 v5 =>
    some (M4, v5)) else ((gR M 12 1108 x0).bind fun v6 =>
    (aJ M v6 x3).bind fun v7 =>
    (gR M 12 1103 x0).bind fun v8 =>
    (aI M v8 x3).bind fun v9 =>
    (f_X11_say M x0 v7 v9).bind fun M11 =>
    (f_X11_runs M11 x0 x3).bind fun v13 =>
    if v13 = 0 then (f_X11_sendWhole_J102 (f_X11_sendWhole_L52 fu) M11 x0 x1 x2 x3) else ((gR M11 12 1111 x0).bind fun v15 =>
    (aI M11 v15 ((8 * x1) + x3)).bind fun v16 =>
    (f_X11_say M11 x0 v16.toInt64 8).bind fun M18 =>
    f_X11_sendWhole_J102 (f_X11_sendWhole_L52 fu) M18 x0 x1 x2 x3))

def f_X11_sendWhole (M : Mm) (a0 : Nat) (a1 : Int32) (a2 : Int32) : Option (Mm × Int32) :=
if mK M a0 = 12 then ((gR M 12 1110 a0).bind fun v1 =>
(gR M 12 1110 a0).bind fun v2 =>
(aI M v2 a1).bind fun v3 =>
(wI M v1 a1 ((v3 + 1) - (v3 + 1) / 16 * 16)).bind fun M4 =>
(gR M4 12 1113 a0).bind fun v5 =>
(wI M4 v5 a1 0).bind fun M6 =>
(gR M6 12 1112 a0).bind fun v7 =>
(wZ M6 v7 a1 0).bind fun M8 =>
(f_X11_head M8 a0 0 a1 a2).bind fun M10 =>
(gR M10 12 1110 a0).bind fun v11 =>
(aI M10 v11 a1).bind fun v12 =>
(f_X11_say M10 a0 v12.toInt64 4).bind fun M14 =>
f_X11_sendWhole_L52 1000 M14 a0 a1 a2 0) else none


def f_X11_sendPart_J102 (k21 : Mm → Nat → Int32 → Int32 → Int32 → Option (Mm × Int32)) (M : Mm) (x0 : Nat) (x1 : Int32) (x2 : Int32) (x3 : Int32) : Option (Mm × Int32) :=
k21 M x0 x1 x2 (x3 + 1)

def f_X11_sendPart_J81 (k21 : Mm → Nat → Int32 → Int32 → Int32 → Option (Mm × Int32)) (M : Mm) (x0 : Nat) (x1 : Int32) (x2 : Int32) (x3 : Int32) (x4 : Int32) : Option (Mm × Int32) :=
if x4 = 0 then ((gR M 12 1108 x0).bind fun v2 =>
(aJ M v2 x3).bind fun v3 =>
(gR M 12 1103 x0).bind fun v4 =>
(aI M v4 x3).bind fun v5 =>
(f_X11_say M x0 v3 v5).bind fun M7 =>
f_X11_sendPart_J102 k21 M7 x0 x1 x2 x3) else (f_X11_sendPart_J102 k21 M x0 x1 x2 x3)

def f_X11_sendPart_J77 (k21 : Mm → Nat → Int32 → Int32 → Int32 → Option (Mm × Int32)) (M : Mm) (x0 : Nat) (x1 : Int32) (x2 : Int32) (x3 : Int32) (x4 : Int32) (s0 : Nat) (s1 : Int64) : Option (Mm × Int32) :=
(f_X11_say M s0 s1 1).bind fun M2 =>
f_X11_sendPart_J81 k21 M2 x0 x1 x2 x3 x4

def f_X11_sendPart_J54 (k21 : Mm → Nat → Int32 → Int32 → Int32 → Option (Mm × Int32)) (M : Mm) (x0 : Nat) (x1 : Int32) (x2 : Int32) (x3 : Int32) (s0 : Int32) : Option (Mm × Int32) :=
(gR M 12 1102 x0).bind fun v1 =>
(aI M v1 x3).bind fun v2 =>
if v2 = 4 then (f_X11_sendPart_J81 k21 M x0 x1 x2 x3 s0) else (if s0 = 0 then (f_X11_sendPart_J77 k21 M x0 x1 x2 x3 s0 x0 1) else (f_X11_sendPart_J77 k21 M x0 x1 x2 x3 s0 x0 0))

def f_X11_sendPart_J53 (k21 : Mm → Nat → Int32 → Int32 → Int32 → Option (Mm × Int32)) (M : Mm) (x0 : Nat) (x1 : Int32) (x2 : Int32) (x3 : Int32) : Option (Mm × Int32) :=
f_X11_sendPart_J54 k21 M x0 x1 x2 x3 0

def f_X11_sendPart_L21 : Nat → Mm → Nat → Int32 → Int32 → Int32 → Option (Mm × Int32)
  | 0, _, _, _, _, _ => none
  | fu + 1, M, x0, x1, x2, x3 =>
    (gI M 12 1101 x0).bind fun v1 =>
    if v1 ≤ x3 then ((f_X11_draftSum M x0).bind fun v4 =>
    (f_X11_say M x0 v4.toInt64 8).bind fun M6 =>
    ob2 (f_X11_laid M6 x0 1 x1 x2 0) fun M8 v9 =>
    some (M8, v9)) else ((gR M 12 1102 x0).bind fun v10 =>
    (aI M v10 x3).bind fun v11 =>
    if v11 = 4 then (f_X11_sendPart_J53 (f_X11_sendPart_L21 fu) M x0 x1 x2 x3) else ((f_X11_giveAll M x0 x1 x3 x2).bind fun v14 =>
    if v14 = 0 then (f_X11_sendPart_J53 (f_X11_sendPart_L21 fu) M x0 x1 x2 x3) else (f_X11_sendPart_J54 (f_X11_sendPart_L21 fu) M x0 x1 x2 x3 1)))

def f_X11_sendPart (M : Mm) (a0 : Nat) (a1 : Int32) (a2 : Int32) : Option (Mm × Int32) :=
if mK M a0 = 12 then ((f_X11_head M a0 1 a1 a2).bind fun M2 =>
(gR M2 12 1110 a0).bind fun v3 =>
(aI M2 v3 a1).bind fun v4 =>
(f_X11_say M2 a0 v4.toInt64 4).bind fun M6 =>
f_X11_sendPart_L21 1000 M6 a0 a1 a2 0) else none


def f_X11_fails_J66 (k14 : Nat → Int32 → Int32 → Int32 → Int32 → Int32 → Int32 → Option Int32) (M : Mm) (x0 : Nat) (x1 : Int32) (x2 : Int32) (x3 : Int32) (x4 : Int32) (x6 : Int32) (s0 : Int32) : Option Int32 :=
k14 x0 x1 x2 x3 x4 s0 (x6 + (-1))

def f_X11_fails_L14 (M : Mm) : Nat → Nat → Int32 → Int32 → Int32 → Int32 → Int32 → Int32 → Option Int32
  | 0, _, _, _, _, _, _, _ => none
  | fu + 1, x0, x1, x2, x3, x4, x5, x6 =>
    if x6 < 0 then (some x5) else (if x4 < 0 then (some x5) else ((f_X11_given M x0 x1 x6 x2 x3).bind fun v4 =>
    (gR M 12 1108 x0).bind fun v5 =>
    (aJ M v5 x2).bind fun v6 =>
    (f_X11_finds M x0 x2 v4 v6 x4).bind fun v8 =>
    if v8 = 0 then ((gR M 12 1114 x0).bind fun v10 =>
    (aI M v10 ((9 * x1) + x6)).bind fun v11 =>
    f_X11_fails_J66 (f_X11_fails_L14 M fu) M x0 x1 x2 x3 x4 x6 v11) else (f_X11_fails_J66 (f_X11_fails_L14 M fu) M x0 x1 x2 x3 x4 x6 x5)))

def f_X11_fails (M : Mm) (a0 : Nat) (a1 : Int32) (a2 : Int32) (a3 : Int32) (a4 : Int32) : Option Int32 :=
if mK M a0 = 12 then ((gR M 12 1113 a0).bind fun v1 =>
(aI M v1 a1).bind fun v2 =>
f_X11_fails_L14 M 1000 a0 a1 a2 a3 a4 (-2) (v2 - 1)) else none


def f_X11_sendShort_J149 (k21 : Mm → Nat → Int32 → Int32 → Int32 → Option (Mm × Int32)) (M : Mm) (x0 : Nat) (x1 : Int32) (x2 : Int32) (x3 : Int32) : Option (Mm × Int32) :=
k21 M x0 x1 x2 (x3 + 1)

def f_X11_sendShort_L40 (k21 : Mm → Nat → Int32 → Int32 → Int32 → Option (Mm × Int32)) : Nat → Mm → Nat → Int32 → Int32 → Int32 → Int32 → Option (Mm × Int32)
  | 0, _, _, _, _, _, _ => none
  | fu + 1, M, x0, x1, x2, x3, x4 =>
    (f_X11_serves M x0 x1 x3 x2 x4).bind fun v2 =>
    if v2 = 0 then (f_X11_sendShort_L40 k21 fu M x0 x1 x2 x3 (x4 + 1)) else ((f_X11_say M x0 x4.toInt64 6).bind fun M5 =>
    (gR M5 12 1108 x0).bind fun v6 =>
    (aJ M5 v6 x3).bind fun v7 =>
    (f_X11_say M5 x0 v7 x4).bind fun M9 =>
    (gR M9 12 1126 x0).bind fun v10 =>
    (gI M9 12 1116 x0).bind fun v11 =>
    (wI M9 v10 ((8 * v11) + x3) x4).bind fun M12 =>
    (gR M12 12 1127 x0).bind fun v13 =>
    (gI M12 12 1116 x0).bind fun v14 =>
    (f_X11_fails M12 x0 x1 x3 x2 (x4 - 1)).bind fun v16 =>
    (wI M12 v13 ((8 * v14) + x3) v16).bind fun M17 =>
    f_X11_sendShort_J149 k21 M17 x0 x1 x2 x3)

def f_X11_sendShort_L21 : Nat → Mm → Nat → Int32 → Int32 → Int32 → Option (Mm × Int32)
  | 0, _, _, _, _, _ => none
  | fu + 1, M, x0, x1, x2, x3 =>
    (gI M 12 1101 x0).bind fun v1 =>
    if v1 ≤ x3 then ((gR M 12 1128 x0).bind fun v3 =>
    (gI M 12 1116 x0).bind fun v4 =>
    (gR M 12 1113 x0).bind fun v5 =>
    (aI M v5 x1).bind fun v6 =>
    (wI M v3 v4 v6).bind fun M7 =>
    (gR M7 12 1129 x0).bind fun v8 =>
    (gI M7 12 1116 x0).bind fun v9 =>
    (gR M7 12 1114 x0).bind fun v10 =>
    (aI M7 v10 (9 * x1)).bind fun v11 =>
    (wI M7 v8 v9 v11).bind fun M12 =>
    (f_X11_draftSum M12 x0).bind fun v14 =>
    (f_X11_say M12 x0 v14.toInt64 8).bind fun M16 =>
    ob2 (f_X11_laid M16 x0 2 x1 x2 0) fun M18 v19 =>
    some (M18, v19)) else ((f_X11_runs M x0 x3).bind fun v21 =>
    if v21 = 0 then ((gR M 12 1102 x0).bind fun v23 =>
    (aI M v23 x3).bind fun v24 =>
    if v24 = 4 then ((gR M 12 1108 x0).bind fun v26 =>
    (aJ M v26 x3).bind fun v27 =>
    (gR M 12 1103 x0).bind fun v28 =>
    (aI M v28 x3).bind fun v29 =>
    (f_X11_say M x0 v27 v29).bind fun M31 =>
    f_X11_sendShort_J149 (f_X11_sendShort_L21 fu) M31 x0 x1 x2 x3) else (f_X11_sendShort_J149 (f_X11_sendShort_L21 fu) M x0 x1 x2 x3)) else (f_X11_sendShort_L40 (f_X11_sendShort_L21 fu) 1000 M x0 x1 x2 x3 0))

def f_X11_sendShort (M : Mm) (a0 : Nat) (a1 : Int32) (a2 : Int32) : Option (Mm × Int32) :=
if mK M a0 = 12 then ((f_X11_head M a0 2 a1 a2).bind fun M2 =>
(gR M2 12 1110 a0).bind fun v3 =>
(aI M2 v3 a1).bind fun v4 =>
(f_X11_say M2 a0 v4.toInt64 4).bind fun M6 =>
f_X11_sendShort_L21 1000 M6 a0 a1 a2 0) else none


def f_X11_drop_L49 (k12 : Mm → Nat → Int32 → Int32 → Int32 → Option Mm) : Nat → Mm → Nat → Int32 → Int32 → Int32 → Int32 → Int32 → Option Mm
  | 0, _, _, _, _, _, _, _ => none
  | fu + 1, M, x0, x1, x2, x3, x4, x5 =>
    (gI M 12 1101 x0).bind fun v1 =>
    if v1 ≤ x5 then (k12 M x0 x1 x2 (x3 + 1)) else ((gR M 12 1115 x0).bind fun v3 =>
    (gR M 12 1115 x0).bind fun v4 =>
    (aJ M v4 (((8 * x4) + (8 * x2)) + x5)).bind fun v5 =>
    (wJ M v3 ((8 * x4) + x5) v5).bind fun M6 =>
    f_X11_drop_L49 k12 fu M6 x0 x1 x2 x3 x4 (x5 + 1))

def f_X11_drop_L12 : Nat → Mm → Nat → Int32 → Int32 → Int32 → Option Mm
  | 0, _, _, _, _, _ => none
  | fu + 1, M, x0, x1, x2, x3 =>
    (gR M 12 1113 x0).bind fun v1 =>
    (aI M v1 x1).bind fun v2 =>
    if v2 ≤ x3 then (some M) else ((gR M 12 1114 x0).bind fun v4 =>
    (gR M 12 1114 x0).bind fun v5 =>
    (aI M v5 (((9 * x1) + x3) + x2)).bind fun v6 =>
    (wI M v4 ((9 * x1) + x3) v6).bind fun M7 =>
    f_X11_drop_L49 (f_X11_drop_L12 fu) 1000 M7 x0 x1 x2 x3 ((9 * x1) + x3) 0)

def f_X11_drop (M : Mm) (a0 : Nat) (a1 : Int32) (a2 : Int32) : Option Mm :=
if mK M a0 = 12 then ((gR M 12 1113 a0).bind fun v1 =>
(aI M v1 a1).bind fun v2 =>
(wI M v1 a1 (v2 - a2)).bind fun M3 =>
f_X11_drop_L12 1000 M3 a0 a1 a2 0) else none


def f_X11_refer_L22 : Nat → Mm → Nat → Int32 → Int32 → Int32 → Option Mm
  | 0, _, _, _, _, _ => none
  | fu + 1, M, x0, x1, x3, x4 =>
    (gI M 12 1101 x0).bind fun v1 =>
    if v1 ≤ x4 then ((gR M 12 1113 x0).bind fun v3 =>
    (aI M v3 x1).bind fun v4 =>
    (wI M v3 x1 (v4 + 1)).bind fun M5 =>
    (gR M5 12 1113 x0).bind fun v6 =>
    (aI M5 v6 x1).bind fun v7 =>
    (gI M5 12 1107 x0).bind fun v8 =>
    if v7 ≤ v8 then (some M5) else ((f_X11_drop M5 x0 x1 1).bind fun M11 =>
    some M11)) else ((gR M 12 1115 x0).bind fun v12 =>
    (gR M 12 1108 x0).bind fun v13 =>
    (aJ M v13 x4).bind fun v14 =>
    (wJ M v12 ((8 * x3) + x4) v14).bind fun M15 =>
    f_X11_refer_L22 fu M15 x0 x1 x3 (x4 + 1))

def f_X11_refer (M : Mm) (a0 : Nat) (a1 : Int32) (a2 : Int32) : Option Mm :=
if mK M a0 = 12 then ((gR M 12 1113 a0).bind fun v1 =>
(aI M v1 a1).bind fun v2 =>
(gR M 12 1114 a0).bind fun v3 =>
(wI M v3 ((9 * a1) + v2) a2).bind fun M4 =>
f_X11_refer_L22 1000 M4 a0 a1 ((9 * a1) + v2) 0) else none


def f_X11_send_J184 (M : Mm) (x0 : Nat) (x1 : Int32) (x3 : Int32) (s0 : Int32) : Option (Mm × Int32) :=
(f_X11_refer M x0 x1 x3).bind fun M2 =>
some (M2, s0)

def f_X11_send_J148 (M : Mm) (x0 : Nat) (x1 : Int32) (x3 : Int32) (x4 : Int32) (s0 : Int32) : Option (Mm × Int32) :=
if s0 = 0 then (if x4 = 0 then (ob2 (f_X11_sendPart M x0 x1 x3) fun M4 v5 =>
f_X11_send_J184 M4 x0 x1 x3 v5) else (ob2 (f_X11_sendShort M x0 x1 x3) fun M7 v8 =>
f_X11_send_J184 M7 x0 x1 x3 v8)) else (ob2 (f_X11_sendWhole M x0 x1 x3) fun M10 v11 =>
f_X11_send_J184 M10 x0 x1 x3 v11)

def f_X11_send_J143 (M : Mm) (x0 : Nat) (x1 : Int32) (x3 : Int32) (x4 : Int32) : Option (Mm × Int32) :=
f_X11_send_J148 M x0 x1 x3 x4 1

def f_X11_send_J113 (k72 : Mm → Nat → Int32 → Int32 → Int32 → Int32 → Int32 → Option (Mm × Int32)) (M : Mm) (x0 : Nat) (x1 : Int32) (x2 : Int32) (x3 : Int32) (x5 : Int32) (s0 : Int32) : Option (Mm × Int32) :=
k72 M x0 x1 x2 x3 s0 (x5 + 1)

def f_X11_send_J112 (k72 : Mm → Nat → Int32 → Int32 → Int32 → Int32 → Int32 → Option (Mm × Int32)) (M : Mm) (x0 : Nat) (x1 : Int32) (x2 : Int32) (x3 : Int32) (x5 : Int32) : Option (Mm × Int32) :=
f_X11_send_J113 k72 M x0 x1 x2 x3 x5 0

def f_X11_send_J108 (k72 : Mm → Nat → Int32 → Int32 → Int32 → Int32 → Int32 → Option (Mm × Int32)) (M : Mm) (x0 : Nat) (x1 : Int32) (x2 : Int32) (x3 : Int32) (x5 : Int32) : Option (Mm × Int32) :=
f_X11_send_J113 k72 M x0 x1 x2 x3 x5 1

def f_X11_send_L72 : Nat → Mm → Nat → Int32 → Int32 → Int32 → Int32 → Int32 → Option (Mm × Int32)
  | 0, _, _, _, _, _, _, _ => none
  | fu + 1, M, x0, x1, x2, x3, x4, x5 =>
    (gI M 12 1101 x0).bind fun v1 =>
    if v1 ≤ x5 then (if x2 = 0 then ((gR M 12 1112 x0).bind fun v4 =>
    (aZ M v4 x1).bind fun v5 =>
    if v5 = 0 then ((gR M 12 1113 x0).bind fun v7 =>
    (aI M v7 x1).bind fun v8 =>
    if v8 = 0 then (f_X11_send_J143 M x0 x1 x3 x4) else (f_X11_send_J148 M x0 x1 x3 x4 0)) else (f_X11_send_J143 M x0 x1 x3 x4)) else (f_X11_send_J143 M x0 x1 x3 x4)) else (if x4 = 0 then (f_X11_send_J112 (f_X11_send_L72 fu) M x0 x1 x2 x3 x5) else ((gR M 12 1102 x0).bind fun v11 =>
    (aI M v11 x5).bind fun v12 =>
    if 1 < v12 then (f_X11_send_J108 (f_X11_send_L72 fu) M x0 x1 x2 x3 x5) else ((f_X11_giveAll M x0 x1 x5 x3).bind fun v15 =>
    if v15 = 0 then (f_X11_send_J112 (f_X11_send_L72 fu) M x0 x1 x2 x3 x5) else (f_X11_send_J108 (f_X11_send_L72 fu) M x0 x1 x2 x3 x5))))

def f_X11_send_J31 (M : Mm) (x0 : Nat) : Option (Mm × Int32) :=
(gI M 12 1116 x0).bind fun v1 =>
if v1 = 200 then (some (M, (-2))) else (some (M, (-3)))

def f_X11_send (M : Mm) (a0 : Nat) (a1 : Int32) (a2 : Int32) : Option (Mm × Int32) :=
if mK M a0 = 12 then ((pI M 12 1100 a0 0).bind fun M1 =>
(f_X11_isFlow a1).bind fun v3 =>
if v3 = 0 then (some (M1, (-1))) else ((gI M1 12 1116 a0).bind fun v5 =>
if v5 = 200 then (f_X11_send_J31 M1 a0) else ((gI M1 12 1101 a0).bind fun v7 =>
if v7 = 0 then (f_X11_send_J31 M1 a0) else ((gR M1 12 1109 a0).bind fun v9 =>
(aI M1 v9 a1).bind fun v10 =>
(gR M1 12 1109 a0).bind fun v11 =>
(aI M1 v11 a1).bind fun v12 =>
(wI M1 v11 a1 (v12 + 1)).bind fun M13 =>
f_X11_send_L72 1000 M13 a0 a1 a2 v10 1 0)))) else none


def f_X11_ack (M : Mm) (a0 : Nat) (a1 : Int32) : Option (Mm × Int32) :=
if mK M a0 = 12 then ((pI M 12 1100 a0 0).bind fun M1 =>
(f_X11_isFlow a1).bind fun v3 =>
if v3 = 0 then (some (M1, (-1))) else ((gI M1 12 1116 a0).bind fun v5 =>
if v5 = 200 then (some (M1, (-2))) else ((gR M1 12 1130 a0).bind fun v7 =>
(aZ M1 v7 a1).bind fun v8 =>
if v8 = 0 then (some (M1, (-3))) else ((gR M1 12 1131 a0).bind fun v10 =>
(aI M1 v10 a1).bind fun v11 =>
(f_X11_head M1 a0 3 a1 v11).bind fun M13 =>
(gR M13 12 1131 a0).bind fun v14 =>
(aI M13 v14 a1).bind fun v15 =>
ob2 (f_X11_laid M13 a0 3 a1 v15 1) fun M17 v18 =>
some (M17, v18))))) else none


def f_X11_nack_J63 (M : Mm) (x0 : Nat) (x1 : Int32) (x2 : Int32) (s0 : Int32) : Option (Mm × Int32) :=
(f_X11_head M x0 x2 x1 s0).bind fun M2 =>
ob2 (f_X11_laid M2 x0 x2 x1 s0 1) fun M4 v5 =>
some (M4, v5)

def f_X11_nack_J41 (M : Mm) (x0 : Nat) (x1 : Int32) (s0 : Int32) : Option (Mm × Int32) :=
(gR M 12 1130 x0).bind fun v1 =>
(aZ M v1 x1).bind fun v2 =>
if v2 = 0 then (f_X11_nack_J63 M x0 x1 s0 0) else ((gR M 12 1131 x0).bind fun v4 =>
(aI M v4 x1).bind fun v5 =>
f_X11_nack_J63 M x0 x1 s0 (v5 + 1))

def f_X11_nack (M : Mm) (a0 : Nat) (a1 : Int32) : Option (Mm × Int32) :=
if mK M a0 = 12 then ((pI M 12 1100 a0 0).bind fun M1 =>
(f_X11_isFlow a1).bind fun v3 =>
if v3 = 0 then (some (M1, (-1))) else ((gI M1 12 1116 a0).bind fun v5 =>
if v5 = 200 then (some (M1, (-2))) else ((gR M1 12 1130 a0).bind fun v7 =>
(aZ M1 v7 a1).bind fun v8 =>
if v8 = 0 then (f_X11_nack_J41 M1 a0 a1 5) else (f_X11_nack_J41 M1 a0 a1 4)))) else none


def f_X11_take_L5 : Nat → Mm → Nat → Int32 → Int32 → Int64 → Int32 → Option (Mm × Int64)
  | 0, _, _, _, _, _, _ => none
  | fu + 1, M, x0, x1, x2, x3, x5 =>
    if x2 ≤ x5 then (some (M, x3)) else ((gI M 12 1143 x0).bind fun v2 =>
    (gI M 12 1144 x0).bind fun v3 =>
    if v2 < v3 then ((gR M 12 1118 x0).bind fun v5 =>
    (gI M 12 1143 x0).bind fun v6 =>
    (aI M v5 ((64 * x1) + (v6 / 8))).bind fun v7 =>
    (gI M 12 1143 x0).bind fun v8 =>
    (gI M 12 1143 x0).bind fun v9 =>
    (pI M 12 1143 x0 (v9 + 1)).bind fun M10 =>
    f_X11_take_L5 fu M10 x0 x1 x2 ((2 * x3) + (((v7 >>> ((7 - (v8 - v8 / 8 * 8)) &&& 31)) &&& 1).toInt64)) (x5 + 1)) else ((pZ M 12 1145 x0 1).bind fun M11 =>
    some (M11, 0)))

def f_X11_take (M : Mm) (a0 : Nat) (a1 : Int32) (a2 : Int32) : Option (Mm × Int64) :=
if mK M a0 = 12 then (f_X11_take_L5 1000 M a0 a1 a2 0 0) else none


def f_X11_takeEnd_J101 (M : Mm) (x0 : Nat) (x1 : Int32) (x3 : Int32) : Option Mm :=
(gI M 12 1145 x0).bind fun v1 =>
if v1 = 0 then ((gR M 12 1117 x0).bind fun v4 =>
(aI M v4 x1).bind fun v5 =>
if x3 = v5 then ((pZ M 12 1145 x0 0).bind fun M7 =>
some M7) else ((pZ M 12 1145 x0 1).bind fun M8 =>
some M8)) else ((pZ M 12 1145 x0 1).bind fun M3 =>
some M3)

def f_X11_takeEnd_J95 (M : Mm) (x0 : Nat) (x1 : Int32) (x3 : Int32) (s0 : Nat) (s1 : Int32) : Option Mm :=
(pZ M 12 1145 s0 s1).bind fun M1 =>
f_X11_takeEnd_J101 M1 x0 x1 (x3 + 1)

def f_X11_takeEnd_J90 (M : Mm) (x0 : Nat) (x1 : Int32) (x3 : Int32) (s0 : Nat) : Option Mm :=
f_X11_takeEnd_J95 M x0 x1 x3 s0 1

def f_X11_takeEnd_J40 (M : Mm) (x0 : Nat) (x1 : Int32) (x2 : Int32) : Option Mm :=
(gI M 12 1143 x0).bind fun v1 =>
if x2 = 0 then (f_X11_takeEnd_J101 M x0 x1 (v1 / 8)) else ((gI M 12 1145 x0).bind fun v3 =>
if v3 = 0 then ((gR M 12 1117 x0).bind fun v5 =>
(aI M v5 x1).bind fun v6 =>
if v6 ≤ (v1 / 8) then (f_X11_takeEnd_J90 M x0 x1 (v1 / 8) x0) else ((gR M 12 1118 x0).bind fun v8 =>
(aI M v8 ((64 * x1) + (v1 / 8))).bind fun v9 =>
(f_X11_checkOf M x0 x1 (v1 / 8)).bind fun v11 =>
if v9 = v11 then (f_X11_takeEnd_J95 M x0 x1 (v1 / 8) x0 0) else (f_X11_takeEnd_J90 M x0 x1 (v1 / 8) x0))) else (f_X11_takeEnd_J101 M x0 x1 (v1 / 8)))

def f_X11_takeEnd_J34 (k0 : Mm → Nat → Int32 → Int32 → Option Mm) (M : Mm) (x0 : Nat) (x1 : Int32) (x2 : Int32) (s0 : Nat) (s1 : Int32) : Option Mm :=
(pZ M 12 1145 s0 s1).bind fun M1 =>
k0 M1 x0 x1 x2

def f_X11_takeEnd_L0 : Nat → Mm → Nat → Int32 → Int32 → Option Mm
  | 0, _, _, _, _ => none
  | fu + 1, M, x0, x1, x2 =>
    (gI M 12 1145 x0).bind fun v1 =>
    if v1 = 0 then ((gI M 12 1143 x0).bind fun v3 =>
    if (v3 - v3 / 8 * 8) = 0 then (f_X11_takeEnd_J40 M x0 x1 x2) else (ob2 (f_X11_take M x0 x1 1) fun M6 v7 =>
    if (lg_cmp v7 0) = 0 then (f_X11_takeEnd_J34 (f_X11_takeEnd_L0 fu) M6 x0 x1 x2 x0 0) else (f_X11_takeEnd_J34 (f_X11_takeEnd_L0 fu) M6 x0 x1 x2 x0 1))) else (f_X11_takeEnd_J40 M x0 x1 x2)

def f_X11_takeEnd (M : Mm) (a0 : Nat) (a1 : Int32) (a2 : Int32) : Option Mm :=
if mK M a0 = 12 then (f_X11_takeEnd_L0 1000 M a0 a1 a2) else none


def f_X11_takeFields_J281 (M : Mm) (s0 : Nat) (s1 : Int32) (s2 : Int32) : Option Mm :=
(f_X11_takeEnd M s0 s1 s2).bind fun M2 =>
some M2

def f_X11_takeFields_J267 (M : Mm) (x0 : Nat) (x1 : Int32) (x2 : Int32) (s0 : Nat) (s1 : Int64) : Option Mm :=
(pJ M 12 1151 s0 s1).bind fun M1 =>
if x2 = 0 then (f_X11_takeFields_J281 M1 x0 x1 1) else (f_X11_takeFields_J281 M1 x0 x1 0)

def f_X11_takeFields_J251 (M : Mm) (x0 : Nat) (x1 : Int32) (x2 : Int32) : Option Mm :=
if x2 = 0 then (f_X11_takeFields_J267 M x0 x1 x2 x0 0) else (ob2 (f_X11_take M x0 x1 8) fun M3 v4 =>
f_X11_takeFields_J267 M3 x0 x1 x2 x0 v4)

def f_X11_takeFields_J245 (k13 : Mm → Nat → Int32 → Int32 → Int32 → Option Mm) (M : Mm) (x0 : Nat) (x1 : Int32) (x2 : Int32) (x3 : Int32) : Option Mm :=
k13 M x0 x1 x2 (x3 + 1)

def f_X11_takeFields_J219 (k13 : Mm → Nat → Int32 → Int32 → Int32 → Option Mm) (M : Mm) (x0 : Nat) (x1 : Int32) (x2 : Int32) (x3 : Int32) : Option Mm :=
if x2 = 0 then ((f_X11_runs M x0 x3).bind fun v3 =>
if v3 = 0 then (f_X11_takeFields_J245 k13 M x0 x1 x2 x3) else ((gR M 12 1149 x0).bind fun v5 =>
ob2 (f_X11_take M x0 x1 8) fun M7 v8 =>
(wI M7 v5 x3 v8.toInt32).bind fun M9 =>
f_X11_takeFields_J245 k13 M9 x0 x1 x2 x3)) else (f_X11_takeFields_J245 k13 M x0 x1 x2 x3)

def f_X11_takeFields_J215 (k13 : Mm → Nat → Int32 → Int32 → Int32 → Option Mm) (M : Mm) (x0 : Nat) (x1 : Int32) (x2 : Int32) (x3 : Int32) (s0 : Nat) (s1 : Int32) (s2 : Nat) (s3 : Int32) (s4 : Int32) : Option Mm :=
ob2 (f_X11_take M s2 s3 s4) fun M2 v3 =>
(wJ M2 s0 s1 v3).bind fun M4 =>
f_X11_takeFields_J219 k13 M4 x0 x1 x2 x3

def f_X11_takeFields_J167 (k13 : Mm → Nat → Int32 → Int32 → Int32 → Option Mm) (M : Mm) (x0 : Nat) (x1 : Int32) (x2 : Int32) (x3 : Int32) : Option Mm :=
(gR M 12 1146 x0).bind fun v1 =>
(aI M v1 x3).bind fun v2 =>
if v2 ≤ 0 then (f_X11_takeFields_J219 k13 M x0 x1 x2 x3) else ((gI M 12 1145 x0).bind fun v4 =>
if v4 = 0 then ((gR M 12 1148 x0).bind fun v6 =>
(gR M 12 1146 x0).bind fun v7 =>
(aI M v7 x3).bind fun v8 =>
if v8 = 2 then ((gR M 12 1103 x0).bind fun v12 =>
(aI M v12 x3).bind fun v13 =>
f_X11_takeFields_J215 k13 M x0 x1 x2 x3 v6 x3 x0 x1 v13) else ((gR M 12 1147 x0).bind fun v10 =>
(aI M v10 x3).bind fun v11 =>
f_X11_takeFields_J215 k13 M x0 x1 x2 x3 v6 x3 x0 x1 v11)) else (f_X11_takeFields_J219 k13 M x0 x1 x2 x3))

def f_X11_takeFields_J164 (k13 : Mm → Nat → Int32 → Int32 → Int32 → Option Mm) (M : Mm) (x0 : Nat) (x1 : Int32) (x2 : Int32) (x3 : Int32) (s0 : Nat) (s1 : Int32) : Option Mm :=
(pZ M 12 1145 s0 s1).bind fun M1 =>
f_X11_takeFields_J167 k13 M1 x0 x1 x2 x3

def f_X11_takeFields_J159 (k13 : Mm → Nat → Int32 → Int32 → Int32 → Option Mm) (M : Mm) (x0 : Nat) (x1 : Int32) (x2 : Int32) (x3 : Int32) (s0 : Nat) : Option Mm :=
f_X11_takeFields_J164 k13 M x0 x1 x2 x3 s0 1

def f_X11_takeFields_J111 (k13 : Mm → Nat → Int32 → Int32 → Int32 → Option Mm) (M : Mm) (x0 : Nat) (x1 : Int32) (x2 : Int32) (x3 : Int32) (s0 : Nat) (s1 : Int32) (s2 : Int32) : Option Mm :=
(wI M s0 s1 s2).bind fun M1 =>
(gR M1 12 1146 x0).bind fun v2 =>
(aI M1 v2 x3).bind fun v3 =>
if v3 = 1 then ((gR M1 12 1147 x0).bind fun v5 =>
ob2 (f_X11_take M1 x0 x1 6) fun M7 v8 =>
(wI M7 v5 x3 v8.toInt32).bind fun M9 =>
(gI M9 12 1145 x0).bind fun v10 =>
if v10 = 0 then ((gR M9 12 1147 x0).bind fun v12 =>
(aI M9 v12 x3).bind fun v13 =>
(gR M9 12 1103 x0).bind fun v14 =>
(aI M9 v14 x3).bind fun v15 =>
if v13 ≤ v15 then (f_X11_takeFields_J164 k13 M9 x0 x1 x2 x3 x0 0) else (f_X11_takeFields_J159 k13 M9 x0 x1 x2 x3 x0)) else (f_X11_takeFields_J159 k13 M9 x0 x1 x2 x3 x0)) else (f_X11_takeFields_J167 k13 M1 x0 x1 x2 x3)

def f_X11_takeFields_J110 (k13 : Mm → Nat → Int32 → Int32 → Int32 → Option Mm) (M : Mm) (x0 : Nat) (x1 : Int32) (x2 : Int32) (x3 : Int32) (s0 : Nat) (s1 : Int32) : Option Mm :=
f_X11_takeFields_J111 k13 M x0 x1 x2 x3 s0 s1 0

def f_X11_takeFields_J77 (k13 : Mm → Nat → Int32 → Int32 → Int32 → Option Mm) (M : Mm) (x0 : Nat) (x1 : Int32) (x2 : Int32) (x3 : Int32) (s0 : Int32) : Option Mm :=
(gR M 12 1146 x0).bind fun v1 =>
if s0 = 0 then (if x2 = 2 then ((f_X11_runs M x0 x3).bind fun v5 =>
if v5 = 0 then (f_X11_takeFields_J110 k13 M x0 x1 x2 x3 v1 x3) else (f_X11_takeFields_J111 k13 M x0 x1 x2 x3 v1 x3 1)) else (f_X11_takeFields_J110 k13 M x0 x1 x2 x3 v1 x3)) else (f_X11_takeFields_J111 k13 M x0 x1 x2 x3 v1 x3 2)

def f_X11_takeFields_J76 (k13 : Mm → Nat → Int32 → Int32 → Int32 → Option Mm) (M : Mm) (x0 : Nat) (x1 : Int32) (x2 : Int32) (x3 : Int32) : Option Mm :=
f_X11_takeFields_J77 k13 M x0 x1 x2 x3 0

def f_X11_takeFields_J72 (k13 : Mm → Nat → Int32 → Int32 → Int32 → Option Mm) (M : Mm) (x0 : Nat) (x1 : Int32) (x2 : Int32) (x3 : Int32) : Option Mm :=
f_X11_takeFields_J77 k13 M x0 x1 x2 x3 1

def f_X11_takeFields_L13 : Nat → Mm → Nat → Int32 → Int32 → Int32 → Option Mm
  | 0, _, _, _, _, _ => none
  | fu + 1, M, x0, x1, x2, x3 =>
    (gI M 12 1101 x0).bind fun v1 =>
    if v1 ≤ x3 then (f_X11_takeFields_J251 M x0 x1 x2) else ((gI M 12 1145 x0).bind fun v3 =>
    if v3 = 0 then ((gR M 12 1149 x0).bind fun v5 =>
    (wI M v5 x3 1).bind fun M6 =>
    (gR M6 12 1147 x0).bind fun v7 =>
    (wI M6 v7 x3 0).bind fun M8 =>
    if x2 = 0 then (f_X11_takeFields_J72 (f_X11_takeFields_L13 fu) M8 x0 x1 x2 x3) else ((gR M8 12 1102 x0).bind fun v10 =>
    (aI M8 v10 x3).bind fun v11 =>
    if v11 = 4 then (f_X11_takeFields_J72 (f_X11_takeFields_L13 fu) M8 x0 x1 x2 x3) else (if x2 = 1 then (ob2 (f_X11_take M8 x0 x1 1) fun M15 v16 =>
    if (lg_cmp v16 1) = 0 then (f_X11_takeFields_J72 (f_X11_takeFields_L13 fu) M15 x0 x1 x2 x3) else (f_X11_takeFields_J76 (f_X11_takeFields_L13 fu) M15 x0 x1 x2 x3)) else (f_X11_takeFields_J76 (f_X11_takeFields_L13 fu) M8 x0 x1 x2 x3)))) else (f_X11_takeFields_J251 M x0 x1 x2))

def f_X11_takeFields (M : Mm) (a0 : Nat) (a1 : Int32) (a2 : Int32) : Option Mm :=
if mK M a0 = 12 then (ob2 (f_X11_take M a0 a1 4) fun M2 v3 =>
(pI M2 12 1150 a0 v3.toInt32).bind fun M4 =>
f_X11_takeFields_L13 1000 M4 a0 a1 a2 0) else none


def f_X11_found (M : Mm) (a0 : Nat) (a1 : Int32) (a2 : Int64) (a4 : Int32) (a5 : Int64) : Option Int64 :=
if mK M a0 = 12 then (if a4 = 0 then (some a2) else ((f_X11_cut M a0 a1 (a2 - ((1 : Int64) <<< ((a4 - 1).toInt64 &&& 63)))).bind fun v3 =>
(f_X11_cut M a0 a1 (v3 + ((a5 - v3) &&& (((1 : Int64) <<< (a4.toInt64 &&& 63)) - 1)))).bind fun v5 =>
some v5)) else none


def f_X11_open_J141 (k2 : Mm → Nat → Int32 → Int32 → Int32 → Option Mm) (M : Mm) (x0 : Nat) (x1 : Int32) (x2 : Int32) (x3 : Int32) (s0 : Nat) (s1 : Int32) (s2 : Int64) : Option Mm :=
(wJ M s0 s1 s2).bind fun M1 =>
k2 M1 x0 x1 x2 (x3 + 1)

def f_X11_open_J81 (k2 : Mm → Nat → Int32 → Int32 → Int32 → Option Mm) (M : Mm) (x0 : Nat) (x1 : Int32) (x2 : Int32) (x3 : Int32) (s0 : Int64) : Option Mm :=
(gR M 12 1152 x0).bind fun v1 =>
(gR M 12 1146 x0).bind fun v2 =>
(aI M v2 x3).bind fun v3 =>
if v3 = 2 then ((gR M 12 1148 x0).bind fun v14 =>
(aJ M v14 x3).bind fun v15 =>
f_X11_open_J141 k2 M x0 x1 x2 x3 v1 x3 v15) else ((gR M 12 1146 x0).bind fun v5 =>
(aI M v5 x3).bind fun v6 =>
if v6 = 1 then ((gR M 12 1147 x0).bind fun v8 =>
(aI M v8 x3).bind fun v9 =>
(gR M 12 1148 x0).bind fun v10 =>
(aJ M v10 x3).bind fun v11 =>
(f_X11_found M x0 x3 s0 v9 v11).bind fun v13 =>
f_X11_open_J141 k2 M x0 x1 x2 x3 v1 x3 v13) else (f_X11_open_J141 k2 M x0 x1 x2 x3 v1 x3 s0))

def f_X11_open_L2 : Nat → Mm → Nat → Int32 → Int32 → Int32 → Option Mm
  | 0, _, _, _, _, _ => none
  | fu + 1, M, x0, x1, x2, x3 =>
    (gI M 12 1101 x0).bind fun v1 =>
    if v1 ≤ x3 then (some M) else ((gR M 12 1102 x0).bind fun v3 =>
    (aI M v3 x3).bind fun v4 =>
    if v4 = 1 then ((gR M 12 1152 x0).bind fun v14 =>
    (gR M 12 1104 x0).bind fun v15 =>
    (aI M v15 x3).bind fun v16 =>
    (aJ M v14 v16).bind fun v17 =>
    (gR M 12 1105 x0).bind fun v18 =>
    (aJ M v18 x3).bind fun v19 =>
    (f_X11_cut M x0 x3 (v17 + v19)).bind fun v21 =>
    f_X11_open_J81 (f_X11_open_L2 fu) M x0 x1 x2 x3 v21) else ((gR M 12 1134 x0).bind fun v6 =>
    (aJ M v6 ((8 * x1) + x3)).bind fun v7 =>
    (gR M 12 1131 x0).bind fun v8 =>
    (aI M v8 x1).bind fun v9 =>
    (gR M 12 1133 x0).bind fun v10 =>
    (aI M v10 ((8 * x1) + x3)).bind fun v11 =>
    (f_X11_onwards M x0 x3 v7 (x2 - v9) v11).bind fun v13 =>
    f_X11_open_J81 (f_X11_open_L2 fu) M x0 x1 x2 x3 v13))

def f_X11_open (M : Mm) (a0 : Nat) (a1 : Int32) (a2 : Int32) : Option Mm :=
if mK M a0 = 12 then (f_X11_open_L2 1000 M a0 a1 a2 0) else none


def f_X11_isUnlike_L5 (M : Mm) : Nat → Nat → Int32 → Int32 → Option Int32
  | 0, _, _, _ => none
  | fu + 1, x0, x1, x2 =>
    (gI M 12 1101 x0).bind fun v1 =>
    if v1 ≤ x2 then ((gJ M 12 1151 x0).bind fun v3 =>
    if (lg_cmp x1.toInt64 v3) = 0 then (some 0) else (some 1)) else ((gR M 12 1152 x0).bind fun v5 =>
    (aJ M v5 x2).bind fun v6 =>
    (f_X11_sumOf M x0 x1.toInt64 v6).bind fun v8 =>
    f_X11_isUnlike_L5 M fu x0 v8 (x2 + 1))

def f_X11_isUnlike (M : Mm) (a0 : Nat) : Option Int32 :=
if mK M a0 = 12 then (f_X11_isUnlike_L5 M 1000 a0 17 0) else none


def f_X11_opened_J257 (k164 : Mm → Nat → Int32 → Int32 → Int32 → Option (Mm × Int32)) (M : Mm) (x0 : Nat) (x2 : Int32) (x3 : Int32) (x5 : Int32) (s0 : Nat) (s1 : Int32) (s2 : Int32) : Option (Mm × Int32) :=
(wI M s0 s1 s2).bind fun M1 =>
k164 M1 x0 x2 x3 (x5 + 1)

def f_X11_opened_L164 : Nat → Mm → Nat → Int32 → Int32 → Int32 → Option (Mm × Int32)
  | 0, _, _, _, _, _ => none
  | fu + 1, M, x0, x2, x3, x5 =>
    (gI M 12 1101 x0).bind fun v1 =>
    if v1 ≤ x5 then ((gR M 12 1132 x0).bind fun v3 =>
    (gI M 12 1150 x0).bind fun v4 =>
    (wI M v3 x3 v4).bind fun M5 =>
    some (M5, 0)) else ((gR M 12 1139 x0).bind fun v6 =>
    (gR M 12 1152 x0).bind fun v7 =>
    (aJ M v7 x5).bind fun v8 =>
    (wJ M v6 x5 v8).bind fun M9 =>
    (gR M9 12 1140 x0).bind fun v10 =>
    (gR M9 12 1146 x0).bind fun v11 =>
    (aI M9 v11 x5).bind fun v12 =>
    (wI M9 v10 x5 v12).bind fun M13 =>
    (gR M13 12 1134 x0).bind fun v14 =>
    (gR M13 12 1152 x0).bind fun v15 =>
    (aJ M13 v15 x5).bind fun v16 =>
    (wJ M13 v14 ((8 * x3) + x5) v16).bind fun M17 =>
    (gR M17 12 1133 x0).bind fun v18 =>
    if x2 = 0 then ((gR M17 12 1149 x0).bind fun v22 =>
    (aI M17 v22 x5).bind fun v23 =>
    f_X11_opened_J257 (f_X11_opened_L164 fu) M17 x0 x2 x3 x5 v18 ((8 * x3) + x5) v23) else ((gR M17 12 1133 x0).bind fun v20 =>
    (aI M17 v20 ((8 * x3) + x5)).bind fun v21 =>
    f_X11_opened_J257 (f_X11_opened_L164 fu) M17 x0 x2 x3 x5 v18 ((8 * x3) + x5) v21))

def f_X11_opened_J122 (M : Mm) (x0 : Nat) (x2 : Int32) (x3 : Int32) (x4 : Int32) (s0 : Nat) (s1 : Int32) : Option (Mm × Int32) :=
(pI M 12 1138 s0 s1).bind fun M1 =>
(pI M1 12 1136 x0 x3).bind fun M2 =>
(pI M2 12 1137 x0 x4).bind fun M3 =>
(gI M3 12 1135 x0).bind fun v4 =>
(pI M3 12 1135 x0 (v4 + 1)).bind fun M5 =>
(gR M5 12 1130 x0).bind fun v6 =>
(wZ M5 v6 x3 1).bind fun M7 =>
(gR M7 12 1131 x0).bind fun v8 =>
(wI M7 v8 x3 x4).bind fun M9 =>
f_X11_opened_L164 1000 M9 x0 x2 x3 0

def f_X11_opened_J107 (M : Mm) (x0 : Nat) (x2 : Int32) (x3 : Int32) (x4 : Int32) : Option (Mm × Int32) :=
if x2 ≤ 0 then (f_X11_opened_J122 M x0 x2 x3 x4 x0 (-1)) else ((gR M 12 1131 x0).bind fun v2 =>
(aI M v2 x3).bind fun v3 =>
f_X11_opened_J122 M x0 x2 x3 x4 x0 v3)

def f_X11_opened_J87 (M : Mm) (x0 : Nat) (x2 : Int32) (x3 : Int32) (x4 : Int32) : Option (Mm × Int32) :=
(f_X11_open M x0 x3 x4).bind fun M2 =>
if x2 ≤ 0 then (f_X11_opened_J107 M2 x0 x2 x3 x4) else ((f_X11_isUnlike M2 x0).bind fun v5 =>
if v5 = 0 then (f_X11_opened_J107 M2 x0 x2 x3 x4) else (some (M2, 4)))

def f_X11_opened_J65 (M : Mm) (x0 : Nat) (x2 : Int32) (x3 : Int32) (x4 : Int32) : Option (Mm × Int32) :=
if x2 ≤ 0 then (f_X11_opened_J87 M x0 x2 x3 x4) else ((gR M 12 1131 x0).bind fun v2 =>
(aI M v2 x3).bind fun v3 =>
(gI M 12 1107 x0).bind fun v4 =>
if x4 ≤ (v3 + v4) then (f_X11_opened_J87 M x0 x2 x3 x4) else (some (M, 2)))

def f_X11_opened_J43 (M : Mm) (x0 : Nat) (x2 : Int32) (x3 : Int32) (x4 : Int32) : Option (Mm × Int32) :=
(gR M 12 1130 x0).bind fun v1 =>
(aZ M v1 x3).bind fun v2 =>
if v2 = 0 then (f_X11_opened_J65 M x0 x2 x3 x4) else ((gR M 12 1131 x0).bind fun v4 =>
(aI M v4 x3).bind fun v5 =>
if v5 < x4 then (f_X11_opened_J65 M x0 x2 x3 x4) else (some (M, 1)))

def f_X11_opened (M : Mm) (a0 : Nat) (a1 : Int32) (a2 : Int32) (a3 : Int32) (a4 : Int32) : Option (Mm × Int32) :=
if mK M a0 = 12 then ((f_X11_takeFields M a0 a1 a2).bind fun M2 =>
(gI M2 12 1145 a0).bind fun v3 =>
if v3 = 0 then (if a2 ≤ 0 then (f_X11_opened_J43 M2 a0 a2 a3 a4) else ((gR M2 12 1130 a0).bind fun v6 =>
(aZ M2 v6 a3).bind fun v7 =>
if v7 = 0 then (some (M2, 3)) else ((gR M2 12 1132 a0).bind fun v9 =>
(aI M2 v9 a3).bind fun v10 =>
(gI M2 12 1150 a0).bind fun v11 =>
if v10 = v11 then (f_X11_opened_J43 M2 a0 a2 a3 a4) else (some (M2, 3))))) else (some (M2, 5))) else none


def f_X11_answered_L51 : Nat → Mm → Nat → Int32 → Int32 → Int32 → Option (Mm × Int32)
  | 0, _, _, _, _, _ => none
  | fu + 1, M, x0, x3, x4, x5 =>
    (gR M 12 1113 x0).bind fun v1 =>
    (aI M v1 x3).bind fun v2 =>
    if v2 ≤ x5 then (some (M, 7)) else ((gR M 12 1114 x0).bind fun v4 =>
    (aI M v4 ((9 * x3) + x5)).bind fun v5 =>
    if (v5 - v5 / 65536 * 65536) = x4 then ((f_X11_drop M x0 x3 x5).bind fun M8 =>
    some (M8, 6)) else (f_X11_answered_L51 fu M x0 x3 x4 (x5 + 1)))

def f_X11_answered_J36 (M : Mm) (x0 : Nat) (x3 : Int32) (s0 : Int32) : Option (Mm × Int32) :=
(gR M 12 1112 x0).bind fun v1 =>
(wZ M v1 x3 1).bind fun M2 =>
some (M2, s0)

def f_X11_answered (M : Mm) (a0 : Nat) (a1 : Int32) (a2 : Int32) (a3 : Int32) (a4 : Int32) : Option (Mm × Int32) :=
if mK M a0 = 12 then ((f_X11_takeEnd M a0 a1 1).bind fun M2 =>
(gI M2 12 1145 a0).bind fun v3 =>
if v3 = 0 then (if a2 ≤ 3 then (f_X11_answered_L51 1000 M2 a0 a3 a4 0) else ((gR M2 12 1112 a0).bind fun v6 =>
(aZ M2 v6 a3).bind fun v7 =>
if v7 = 0 then (f_X11_answered_J36 M2 a0 a3 6) else (f_X11_answered_J36 M2 a0 a3 7))) else (some (M2, 5))) else none


def f_X11_isUnderWay (M : Mm) (a0 : Nat) (a1 : Int32) : Option Int32 :=
if mK M a0 = 12 then (if a1 < 0 then (some 0) else ((gI M 12 1116 a0).bind fun v2 =>
if v2 ≤ a1 then (some 0) else ((gR M 12 1124 a0).bind fun v4 =>
(aZ M v4 a1).bind fun v5 =>
if v5 = 0 then (some 1) else (some 0)))) else none


def f_X11_deliver (M : Mm) (a0 : Nat) (a1 : Int32) : Option (Mm × Int32) :=
if mK M a0 = 12 then ((pI M 12 1100 a0 0).bind fun M1 =>
(f_X11_isUnderWay M1 a0 a1).bind fun v3 =>
if v3 = 0 then (some (M1, (-1))) else ((pI M1 12 1143 a0 0).bind fun M5 =>
(gR M5 12 1117 a0).bind fun v6 =>
(aI M5 v6 a1).bind fun v7 =>
(pI M5 12 1144 a0 (8 * v7)).bind fun M8 =>
(pZ M8 12 1145 a0 0).bind fun M9 =>
ob2 (f_X11_take M9 a0 a1 3) fun M11 v12 =>
ob2 (f_X11_take M11 a0 a1 3) fun M14 v15 =>
ob2 (f_X11_take M14 a0 a1 16) fun M17 v18 =>
(gR M17 12 1123 a0).bind fun v19 =>
if v12.toInt32 ≤ 5 then (if v12.toInt32 ≤ 2 then (ob2 (f_X11_opened M17 a0 a1 v12.toInt32 v15.toInt32 v18.toInt32) fun M23 v24 =>
(wI M23 v19 a1 v24).bind fun M25 =>
(gR M25 12 1123 a0).bind fun v26 =>
(aI M25 v26 a1).bind fun v27 =>
some (M25, v27)) else (ob2 (f_X11_answered M17 a0 a1 v12.toInt32 v15.toInt32 v18.toInt32) fun M29 v30 =>
(wI M29 v19 a1 v30).bind fun M31 =>
(gR M31 12 1123 a0).bind fun v32 =>
(aI M31 v32 a1).bind fun v33 =>
some (M31, v33))) else ((wI M17 v19 a1 5).bind fun M34 =>
(gR M34 12 1123 a0).bind fun v35 =>
(aI M34 v35 a1).bind fun v36 =>
some (M34, v36)))) else none


def f_X11_lose (M : Mm) (a0 : Nat) (a1 : Int32) : Option (Mm × Int32) :=
if mK M a0 = 12 then ((pI M 12 1100 a0 0).bind fun M1 =>
(f_X11_isUnderWay M1 a0 a1).bind fun v3 =>
if v3 = 0 then (some (M1, (-1))) else ((gR M1 12 1124 a0).bind fun v5 =>
(wZ M1 v5 a1 1).bind fun M6 =>
some (M6, 0))) else none


def f_X11_twice_L116 : Nat → Mm → Nat → Int32 → Int32 → Int32 → Option (Mm × Int32)
  | 0, _, _, _, _, _ => none
  | fu + 1, M, x0, x1, x2, x3 =>
    (gR M 12 1117 x0).bind fun v1 =>
    (aI M v1 x1).bind fun v2 =>
    if v2 ≤ x3 then ((gI M 12 1116 x0).bind fun v4 =>
    (pI M 12 1116 x0 (v4 + 1)).bind fun M5 =>
    some (M5, x2)) else ((gR M 12 1118 x0).bind fun v6 =>
    (gR M 12 1118 x0).bind fun v7 =>
    (aI M v7 ((64 * x1) + x3)).bind fun v8 =>
    (wI M v6 ((64 * x2) + x3) v8).bind fun M9 =>
    f_X11_twice_L116 fu M9 x0 x1 x2 (x3 + 1))

def f_X11_twice (M : Mm) (a0 : Nat) (a1 : Int32) : Option (Mm × Int32) :=
if mK M a0 = 12 then ((pI M 12 1100 a0 0).bind fun M1 =>
(f_X11_isUnderWay M1 a0 a1).bind fun v3 =>
if v3 = 0 then (some (M1, (-1))) else ((gI M1 12 1116 a0).bind fun v5 =>
if v5 = 200 then (some (M1, (-2))) else ((gI M1 12 1116 a0).bind fun v7 =>
(gR M1 12 1119 a0).bind fun v8 =>
(gR M1 12 1119 a0).bind fun v9 =>
(aI M1 v9 a1).bind fun v10 =>
(wI M1 v8 v7 v10).bind fun M11 =>
(gR M11 12 1120 a0).bind fun v12 =>
(gR M11 12 1120 a0).bind fun v13 =>
(aI M11 v13 a1).bind fun v14 =>
(wI M11 v12 v7 v14).bind fun M15 =>
(gR M15 12 1121 a0).bind fun v16 =>
(gR M15 12 1121 a0).bind fun v17 =>
(aI M15 v17 a1).bind fun v18 =>
(wI M15 v16 v7 v18).bind fun M19 =>
(gR M19 12 1122 a0).bind fun v20 =>
(gR M19 12 1122 a0).bind fun v21 =>
(aI M19 v21 a1).bind fun v22 =>
(wI M19 v20 v7 v22).bind fun M23 =>
(gR M23 12 1117 a0).bind fun v24 =>
(gR M23 12 1117 a0).bind fun v25 =>
(aI M23 v25 a1).bind fun v26 =>
(wI M23 v24 v7 v26).bind fun M27 =>
(gR M27 12 1123 a0).bind fun v28 =>
(wI M27 v28 v7 (-1)).bind fun M29 =>
(gR M29 12 1124 a0).bind fun v30 =>
(wZ M29 v30 v7 0).bind fun M31 =>
(gR M31 12 1125 a0).bind fun v32 =>
(wZ M31 v32 v7 1).bind fun M33 =>
f_X11_twice_L116 1000 M33 a0 a1 v7 0))) else none


def f_X11_bend (M : Mm) (a0 : Nat) (a1 : Int32) (a2 : Int32) (a3 : Int32) : Option (Mm × Int32) :=
if mK M a0 = 12 then ((pI M 12 1100 a0 0).bind fun M1 =>
(f_X11_isUnderWay M1 a0 a1).bind fun v3 =>
if v3 = 0 then (some (M1, (-1))) else (if a2 < 0 then (some (M1, (-1))) else ((gR M1 12 1117 a0).bind fun v6 =>
(aI M1 v6 a1).bind fun v7 =>
if v7 ≤ a2 then (some (M1, (-1))) else ((f_X11_isIn a3.toInt64 1 255).bind fun v10 =>
if v10 = 0 then (some (M1, (-1))) else ((gR M1 12 1118 a0).bind fun v12 =>
(aI M1 v12 ((64 * a1) + a2)).bind fun v13 =>
(wI M1 v12 ((64 * a1) + a2) (v13 ^^^ a3)).bind fun M14 =>
(gR M14 12 1118 a0).bind fun v15 =>
(aI M14 v15 ((64 * a1) + a2)).bind fun v16 =>
some (M14, v16)))))) else none


def f_X11_octet (M : Mm) (a0 : Nat) (a1 : Int32) (a2 : Int32) : Option (Mm × Int32) :=
if mK M a0 = 12 then ((pI M 12 1100 a0 0).bind fun M1 =>
if a1 < 0 then (some (M1, (-1))) else ((gI M1 12 1116 a0).bind fun v3 =>
if v3 ≤ a1 then (some (M1, (-1))) else (if a2 < 0 then (some (M1, (-1))) else ((gR M1 12 1117 a0).bind fun v6 =>
(aI M1 v6 a1).bind fun v7 =>
if a2 < v7 then ((gR M1 12 1118 a0).bind fun v9 =>
(aI M1 v9 ((64 * a1) + a2)).bind fun v10 =>
some (M1, v10)) else (some (M1, (-1))))))) else none


def f_X11_look (M : Mm) (a0 : Nat) (a1 : Int32) (a2 : Int32) : Option (Mm × Int32) :=
if mK M a0 = 12 then ((pI M 12 1100 a0 0).bind fun M1 =>
if a1 < 0 then (some (M1, (-1))) else ((gI M1 12 1116 a0).bind fun v3 =>
if a1 < v3 then (if a2 = 0 then ((gR M1 12 1119 a0).bind fun v6 =>
(aI M1 v6 a1).bind fun v7 =>
some (M1, v7)) else (if a2 = 1 then ((gR M1 12 1120 a0).bind fun v9 =>
(aI M1 v9 a1).bind fun v10 =>
some (M1, v10)) else (if a2 = 2 then ((gR M1 12 1121 a0).bind fun v12 =>
(aI M1 v12 a1).bind fun v13 =>
some (M1, v13)) else (if a2 = 3 then ((gR M1 12 1117 a0).bind fun v15 =>
(aI M1 v15 a1).bind fun v16 =>
some (M1, v16)) else (if a2 = 4 then ((gR M1 12 1122 a0).bind fun v18 =>
(aI M1 v18 a1).bind fun v19 =>
some (M1, v19)) else (if a2 = 5 then ((gR M1 12 1123 a0).bind fun v21 =>
(aI M1 v21 a1).bind fun v22 =>
some (M1, v22)) else (if a2 = 6 then ((gR M1 12 1124 a0).bind fun v24 =>
(aZ M1 v24 a1).bind fun v25 =>
if v25 = 0 then (some (M1, 0)) else (some (M1, 1))) else ((some (M1, (-1))))))))))) else (some (M1, (-1))))) else none


def f_X11_prove (M : Mm) (a0 : Nat) (a1 : Int32) (a2 : Int32) (a3 : Int32) : Option (Mm × Int32) :=
if mK M a0 = 12 then ((pI M 12 1100 a0 0).bind fun M1 =>
if a1 < 0 then (some (M1, (-1))) else ((gI M1 12 1116 a0).bind fun v3 =>
if v3 ≤ a1 then (some (M1, (-1))) else ((gR M1 12 1125 a0).bind fun v5 =>
(aZ M1 v5 a1).bind fun v6 =>
if v6 = 0 then ((gR M1 12 1119 a0).bind fun v8 =>
(aI M1 v8 a1).bind fun v9 =>
if v9 = 2 then ((f_X11_isField M1 a0 a2).bind fun v12 =>
if v12 = 0 then (some (M1, (-1))) else ((f_X11_runs M1 a0 a2).bind fun v15 =>
if v15 = 0 then (some (M1, (-1))) else ((f_X11_isIn a3.toInt64 0 3).bind fun v18 =>
if v18 = 0 then (some (M1, (-1))) else (if a3 = 0 then ((gR M1 12 1126 a0).bind fun v29 =>
(aI M1 v29 ((8 * a1) + a2)).bind fun v30 =>
some (M1, v30)) else (if a3 = 1 then ((gR M1 12 1127 a0).bind fun v27 =>
(aI M1 v27 ((8 * a1) + a2)).bind fun v28 =>
some (M1, v28)) else (if a3 = 2 then ((gR M1 12 1128 a0).bind fun v25 =>
(aI M1 v25 a1).bind fun v26 =>
some (M1, v26)) else ((gR M1 12 1129 a0).bind fun v23 =>
(aI M1 v23 a1).bind fun v24 =>
some (M1, v24)))))))) else (some (M1, (-1)))) else (some (M1, (-1)))))) else none


def f_X11_got (M : Mm) (a0 : Nat) (a1 : Int32) : Option (Mm × Int64) :=
if mK M a0 = 12 then ((pI M 12 1100 a0 0).bind fun M1 =>
(f_X11_isField M1 a0 a1).bind fun v3 =>
if v3 = 0 then (some (M1, (-1))) else ((gI M1 12 1135 a0).bind fun v5 =>
if v5 = 0 then (some (M1, (-2))) else ((gR M1 12 1139 a0).bind fun v7 =>
(aJ M1 v7 a1).bind fun v8 =>
some (M1, v8)))) else none


def f_X11_way (M : Mm) (a0 : Nat) (a1 : Int32) : Option (Mm × Int32) :=
if mK M a0 = 12 then ((pI M 12 1100 a0 0).bind fun M1 =>
(f_X11_isField M1 a0 a1).bind fun v3 =>
if v3 = 0 then (some (M1, (-1))) else ((gI M1 12 1135 a0).bind fun v5 =>
if v5 = 0 then (some (M1, (-2))) else ((gR M1 12 1140 a0).bind fun v7 =>
(aI M1 v7 a1).bind fun v8 =>
some (M1, v8)))) else none


def f_X11_hung (M : Mm) (a0 : Nat) (a1 : Int32) : Option (Mm × Int32) :=
if mK M a0 = 12 then ((pI M 12 1100 a0 0).bind fun M1 =>
(f_X11_isIn a1.toInt64 0 3).bind fun v3 =>
if v3 = 0 then (some (M1, (-1))) else (if a1 = 3 then ((gI M1 12 1135 a0).bind fun v13 =>
some (M1, v13)) else ((gI M1 12 1135 a0).bind fun v6 =>
if v6 = 0 then (some (M1, (-2))) else (if a1 = 0 then ((gI M1 12 1136 a0).bind fun v12 =>
some (M1, v12)) else (if a1 = 1 then ((gI M1 12 1137 a0).bind fun v11 =>
some (M1, v11)) else ((gI M1 12 1138 a0).bind fun v10 =>
some (M1, v10))))))) else none


def f_X11_context (M : Mm) (a0 : Nat) (a1 : Int32) (a2 : Int32) : Option (Mm × Int32) :=
if mK M a0 = 12 then ((pI M 12 1100 a0 0).bind fun M1 =>
(f_X11_isFlow a1).bind fun v3 =>
if v3 = 0 then (some (M1, (-1))) else ((f_X11_isIn a2.toInt64 0 2).bind fun v6 =>
if v6 = 0 then (some (M1, (-1))) else (if a2 = 0 then ((gR M1 12 1130 a0).bind fun v17 =>
(aZ M1 v17 a1).bind fun v18 =>
if v18 = 0 then (some (M1, 0)) else (some (M1, 1))) else ((gR M1 12 1130 a0).bind fun v9 =>
(aZ M1 v9 a1).bind fun v10 =>
if v10 = 0 then (some (M1, (-2))) else (if a2 = 1 then ((gR M1 12 1131 a0).bind fun v15 =>
(aI M1 v15 a1).bind fun v16 =>
some (M1, v16)) else ((gR M1 12 1132 a0).bind fun v13 =>
(aI M1 v13 a1).bind fun v14 =>
some (M1, v14))))))) else none


def f_X11_known (M : Mm) (a0 : Nat) (a1 : Int32) (a2 : Int32) (a3 : Int32) : Option (Mm × Int64) :=
if mK M a0 = 12 then ((pI M 12 1100 a0 0).bind fun M1 =>
(f_X11_isFlow a1).bind fun v3 =>
if v3 = 0 then (some (M1, (-1))) else ((f_X11_isField M1 a0 a2).bind fun v6 =>
if v6 = 0 then (some (M1, (-1))) else ((gR M1 12 1130 a0).bind fun v8 =>
(aZ M1 v8 a1).bind fun v9 =>
if v9 = 0 then (some (M1, (-2))) else (if a3 = 0 then ((gR M1 12 1134 a0).bind fun v12 =>
(aJ M1 v12 ((8 * a1) + a2)).bind fun v13 =>
some (M1, v13)) else ((gR M1 12 1133 a0).bind fun v14 =>
(aI M1 v14 ((8 * a1) + a2)).bind fun v15 =>
some (M1, v15.toInt64)))))) else none


def f_X11_squeezer (M : Mm) (a0 : Nat) (a1 : Int32) (a2 : Int32) : Option (Mm × Int32) :=
if mK M a0 = 12 then ((pI M 12 1100 a0 0).bind fun M1 =>
(f_X11_isFlow a1).bind fun v3 =>
if v3 = 0 then (some (M1, (-1))) else ((f_X11_isIn a2.toInt64 0 4).bind fun v6 =>
if v6 = 0 then (some (M1, (-1))) else (if a2 = 0 then ((gR M1 12 1109 a0).bind fun v9 =>
(aI M1 v9 a1).bind fun v10 =>
some (M1, v10)) else (if a2 = 1 then ((gR M1 12 1110 a0).bind fun v12 =>
(aI M1 v12 a1).bind fun v13 =>
some (M1, v13)) else (if a2 = 2 then ((gR M1 12 1113 a0).bind fun v15 =>
(aI M1 v15 a1).bind fun v16 =>
some (M1, v16)) else (if a2 = 3 then ((gR M1 12 1113 a0).bind fun v18 =>
(aI M1 v18 a1).bind fun v19 =>
if v19 = 0 then (some (M1, (-2))) else ((gR M1 12 1114 a0).bind fun v21 =>
(aI M1 v21 (9 * a1)).bind fun v22 =>
some (M1, v22))) else (((gR M1 12 1112 a0).bind fun v23 =>
(aZ M1 v23 a1).bind fun v24 =>
if v24 = 0 then (some (M1, 0)) else (some (M1, 1)))))))))) else none


def f_X11_forget_J52 (M : Mm) (x0 : Nat) (x1 : Int32) (x2 : Int32) (s0 : Int32) : Option (Mm × Int32) :=
if x2 = 1 then ((gR M 12 1130 x0).bind fun v7 =>
(wZ M v7 x1 0).bind fun M8 =>
if s0 = 0 then (some (M8, 0)) else (some (M8, 1))) else ((gR M 12 1112 x0).bind fun v2 =>
(wZ M v2 x1 1).bind fun M3 =>
(gR M3 12 1113 x0).bind fun v4 =>
(wI M3 v4 x1 0).bind fun M5 =>
if s0 = 0 then (some (M5, 0)) else (some (M5, 1)))

def f_X11_forget (M : Mm) (a0 : Nat) (a1 : Int32) (a2 : Int32) : Option (Mm × Int32) :=
if mK M a0 = 12 then ((pI M 12 1100 a0 0).bind fun M1 =>
(f_X11_isFlow a1).bind fun v3 =>
if v3 = 0 then (some (M1, (-1))) else ((f_X11_isIn a2.toInt64 0 1).bind fun v6 =>
if v6 = 0 then (some (M1, (-1))) else (if a2 = 1 then ((gR M1 12 1130 a0).bind fun v12 =>
(aZ M1 v12 a1).bind fun v13 =>
f_X11_forget_J52 M1 a0 a1 a2 v13) else ((gR M1 12 1113 a0).bind fun v9 =>
(aI M1 v9 a1).bind fun v10 =>
if v10 ≤ 0 then (f_X11_forget_J52 M1 a0 a1 a2 0) else (f_X11_forget_J52 M1 a0 a1 a2 1))))) else none


def f_X11_wholeBits_J34 (k5 : Nat → Int32 → Int32 → Option Int32) (M : Mm) (x0 : Nat) (x2 : Int32) (s0 : Int32) (s1 : Int32) (s2 : Int32) : Option Int32 :=
k5 x0 (s0 + (s1 + s2)) (x2 + 1)

def f_X11_wholeBits_L5 (M : Mm) : Nat → Nat → Int32 → Int32 → Option Int32
  | 0, _, _, _ => none
  | fu + 1, x0, x1, x2 =>
    (gI M 12 1101 x0).bind fun v1 =>
    if v1 ≤ x2 then (some x1) else ((gR M 12 1103 x0).bind fun v3 =>
    (aI M v3 x2).bind fun v4 =>
    (f_X11_runs M x0 x2).bind fun v6 =>
    if v6 = 0 then (f_X11_wholeBits_J34 (f_X11_wholeBits_L5 M fu) M x0 x2 x1 v4 0) else (f_X11_wholeBits_J34 (f_X11_wholeBits_L5 M fu) M x0 x2 x1 v4 8))

def f_X11_wholeBits (M : Mm) (a0 : Nat) : Option Int32 :=
if mK M a0 = 12 then (f_X11_wholeBits_L5 M 1000 a0 26 0) else none


def f_X11_spent_J138 (k46 : Mm → Nat → Int32 → Int32 → Int32 → Int64 → Int32 → Option (Mm × Int64)) (M : Mm) (x0 : Nat) (x1 : Int32) (x2 : Int32) (x3 : Int32) (x4 : Int64) (x6 : Int32) : Option (Mm × Int64) :=
k46 M x0 x1 x2 x3 x4 (x6 + 1)

def f_X11_spent_J135 (k46 : Mm → Nat → Int32 → Int32 → Int32 → Int64 → Int32 → Option (Mm × Int64)) (M : Mm) (x0 : Nat) (x1 : Int32) (x2 : Int32) (x3 : Int32) (x6 : Int32) (s0 : Int64) (s1 : Int64) : Option (Mm × Int64) :=
f_X11_spent_J138 k46 M x0 x1 x2 x3 (s0 + s1) x6

def f_X11_spent_L46 : Nat → Mm → Nat → Int32 → Int32 → Int32 → Int64 → Int32 → Option (Mm × Int64)
  | 0, _, _, _, _, _, _, _ => none
  | fu + 1, M, x0, x1, x2, x3, x4, x6 =>
    (gI M 12 1116 x0).bind fun v1 =>
    if v1 ≤ x6 then (some (M, x4)) else ((gR M 12 1125 x0).bind fun v3 =>
    (aZ M v3 x6).bind fun v4 =>
    if v4 = 0 then ((gR M 12 1120 x0).bind fun v6 =>
    (aI M v6 x6).bind fun v7 =>
    if v7 = x1 then ((gR M 12 1119 x0).bind fun v9 =>
    (aI M v9 x6).bind fun v10 =>
    if v10 = x2 then (if x3 = 0 then (f_X11_spent_J135 (f_X11_spent_L46 fu) M x0 x1 x2 x3 x6 x4 1) else (if x3 = 1 then ((gR M 12 1122 x0).bind fun v19 =>
    (aI M v19 x6).bind fun v20 =>
    f_X11_spent_J135 (f_X11_spent_L46 fu) M x0 x1 x2 x3 x6 x4 v20.toInt64) else (if 3 ≤ x2 then (f_X11_spent_J135 (f_X11_spent_L46 fu) M x0 x1 x2 x3 x6 x4 0) else ((f_X11_wholeBits M x0).bind fun v16 =>
    (gR M 12 1122 x0).bind fun v17 =>
    (aI M v17 x6).bind fun v18 =>
    f_X11_spent_J135 (f_X11_spent_L46 fu) M x0 x1 x2 x3 x6 x4 ((v16 - v18).toInt64))))) else (f_X11_spent_J138 (f_X11_spent_L46 fu) M x0 x1 x2 x3 x4 x6)) else (f_X11_spent_J138 (f_X11_spent_L46 fu) M x0 x1 x2 x3 x4 x6)) else (f_X11_spent_J138 (f_X11_spent_L46 fu) M x0 x1 x2 x3 x4 x6))

def f_X11_spent (M : Mm) (a0 : Nat) (a1 : Int32) (a2 : Int32) (a3 : Int32) : Option (Mm × Int64) :=
if mK M a0 = 12 then ((pI M 12 1100 a0 0).bind fun M1 =>
(f_X11_isFlow a1).bind fun v3 =>
if v3 = 0 then (some (M1, (-1))) else ((f_X11_isIn a2.toInt64 0 5).bind fun v6 =>
if v6 = 0 then (some (M1, (-1))) else ((f_X11_isIn a3.toInt64 0 2).bind fun v9 =>
if v9 = 0 then (some (M1, (-1))) else (f_X11_spent_L46 1000 M1 a0 a1 a2 a3 0 0)))) else none


def f_X11_isShelf (a0 : Int32) : Option Int32 :=
if a0 < 0 then (some 0) else (if 8 ≤ a0 then (some 0) else (some 1))


def f_X11_canKeep_J10 (M : Mm) (x0 : Nat) (x2 : Int32) : Option Int32 :=
if x2 < 0 then (some 0) else ((gI M 12 1116 x0).bind fun v2 =>
if v2 ≤ x2 then (some 0) else (some 1))

def f_X11_canKeep (M : Mm) (a0 : Nat) (a1 : Int32) (a2 : Int32) : Option Int32 :=
if mK M a0 = 12 then (if a1 = 1 then (f_X11_canKeep_J10 M a0 a2) else (if a1 = 2 then (f_X11_canKeep_J10 M a0 a2) else (if a1 = 0 then (some 1) else ((f_X11_isFlow a2).bind fun v5 =>
if v5 = 0 then (some 0) else (if a1 = 3 then (some 1) else ((gR M 12 1130 a0).bind fun v8 =>
(aZ M v8 a2).bind fun v9 =>
if v9 = 0 then (some 0) else (some 1))))))) else none


def f_X11_keep_J188 (k112 : Mm → Nat → Int32 → Int32 → Int32 → Int32 → Option (Mm × Int32)) (M : Mm) (x0 : Nat) (x1 : Int32) (x2 : Int32) (x3 : Int32) (x4 : Int32) (s0 : Nat) (s1 : Int32) (s2 : Int64) : Option (Mm × Int32) :=
(wJ M s0 s1 s2).bind fun M1 =>
k112 M1 x0 x1 x2 x3 (x4 + 1)

def f_X11_keep_L112 : Nat → Mm → Nat → Int32 → Int32 → Int32 → Int32 → Option (Mm × Int32)
  | 0, _, _, _, _, _, _ => none
  | fu + 1, M, x0, x1, x2, x3, x4 =>
    (gR M 12 1154 x0).bind fun v1 =>
    (aI M v1 x1).bind fun v2 =>
    if v2 ≤ x4 then (some (M, 0)) else ((gR M 12 1156 x0).bind fun v4 =>
    if 3 ≤ x2 then (if x2 = 3 then ((gR M 12 1114 x0).bind fun v9 =>
    (aI M v9 ((9 * x3) + x4)).bind fun v10 =>
    f_X11_keep_J188 (f_X11_keep_L112 fu) M x0 x1 x2 x3 x4 v4 ((64 * x1) + x4) v10.toInt64) else ((gR M 12 1134 x0).bind fun v7 =>
    (aJ M v7 ((8 * x3) + x4)).bind fun v8 =>
    f_X11_keep_J188 (f_X11_keep_L112 fu) M x0 x1 x2 x3 x4 v4 ((64 * x1) + x4) v8)) else ((gR M 12 1118 x0).bind fun v11 =>
    (aI M v11 ((64 * x3) + x4)).bind fun v12 =>
    f_X11_keep_J188 (f_X11_keep_L112 fu) M x0 x1 x2 x3 x4 v4 ((64 * x1) + x4) v12.toInt64))

def f_X11_keep_J108 (M : Mm) (x0 : Nat) (x1 : Int32) (x2 : Int32) (x3 : Int32) (s0 : Nat) (s1 : Int32) (s2 : Int32) : Option (Mm × Int32) :=
(wI M s0 s1 s2).bind fun M1 =>
f_X11_keep_L112 1000 M1 x0 x1 x2 x3 0

def f_X11_keep_J87 (M : Mm) (x0 : Nat) (x1 : Int32) (x2 : Int32) (x3 : Int32) (s0 : Nat) (s1 : Int32) (s2 : Int32) : Option (Mm × Int32) :=
(wI M s0 s1 s2).bind fun M1 =>
(gR M1 12 1155 x0).bind fun v2 =>
if x2 = 1 then ((gR M1 12 1119 x0).bind fun v4 =>
(aI M1 v4 x3).bind fun v5 =>
f_X11_keep_J108 M1 x0 x1 x2 x3 v2 x1 v5) else (f_X11_keep_J108 M1 x0 x1 x2 x3 v2 x1 0)

def f_X11_keep (M : Mm) (a0 : Nat) (a1 : Int32) (a2 : Int32) (a3 : Int32) : Option (Mm × Int32) :=
if mK M a0 = 12 then ((pI M 12 1100 a0 0).bind fun M1 =>
(f_X11_isShelf a1).bind fun v3 =>
if v3 = 0 then (some (M1, (-1))) else ((f_X11_isIn a2.toInt64 0 4).bind fun v6 =>
if v6 = 0 then (some (M1, (-1))) else ((f_X11_canKeep M1 a0 a2 a3).bind fun v9 =>
if v9 = 0 then (some (M1, (-1))) else ((gR M1 12 1153 a0).bind fun v11 =>
(wI M1 v11 a1 a2).bind fun M12 =>
(gR M12 12 1154 a0).bind fun v13 =>
if a2 = 0 then (f_X11_keep_J87 M12 a0 a1 a2 a3 v13 a1 0) else (if 3 ≤ a2 then (if a2 = 3 then ((gR M12 12 1113 a0).bind fun v18 =>
(aI M12 v18 a3).bind fun v19 =>
f_X11_keep_J87 M12 a0 a1 a2 a3 v13 a1 v19) else ((gI M12 12 1101 a0).bind fun v17 =>
f_X11_keep_J87 M12 a0 a1 a2 a3 v13 a1 v17)) else ((gR M12 12 1117 a0).bind fun v20 =>
(aI M12 v20 a3).bind fun v21 =>
f_X11_keep_J87 M12 a0 a1 a2 a3 v13 a1 v21)))))) else none


def f_X11_make_L58 : Nat → Mm → Nat → Int32 → Int32 → Int32 → Option (Mm × Int32)
  | 0, _, _, _, _, _ => none
  | fu + 1, M, x0, x1, x3, x4 =>
    if x3 ≤ x4 then (some (M, 0)) else ((gR M 12 1156 x0).bind fun v2 =>
    (wJ M v2 ((64 * x1) + x4) 0).bind fun M3 =>
    f_X11_make_L58 fu M3 x0 x1 x3 (x4 + 1))

def f_X11_make (M : Mm) (a0 : Nat) (a1 : Int32) (a2 : Int32) (a3 : Int32) : Option (Mm × Int32) :=
if mK M a0 = 12 then ((pI M 12 1100 a0 0).bind fun M1 =>
(f_X11_isShelf a1).bind fun v3 =>
if v3 = 0 then (some (M1, (-1))) else ((f_X11_isIn a2.toInt64 2 4).bind fun v6 =>
if v6 = 0 then (some (M1, (-1))) else (if a3 ≤ 60 then (if 0 ≤ a3 then ((gR M1 12 1153 a0).bind fun v10 =>
(wI M1 v10 a1 a2).bind fun M11 =>
(gR M11 12 1154 a0).bind fun v12 =>
(wI M11 v12 a1 a3).bind fun M13 =>
f_X11_make_L58 1000 M13 a0 a1 a3 0) else (some (M1, (-14)))) else (some (M1, (-1)))))) else none


def f_X11_put (M : Mm) (a0 : Nat) (a1 : Int32) (a2 : Int32) (a3 : Int32) : Option (Mm × Int64) :=
if mK M a0 = 12 then ((pI M 12 1100 a0 0).bind fun M1 =>
(f_X11_isShelf a1).bind fun v3 =>
if v3 = 0 then (some (M1, (-1))) else ((f_X11_isIn a3.toInt64 0 30000).bind fun v6 =>
if v6 = 0 then (some (M1, (-1))) else ((gR M1 12 1153 a0).bind fun v8 =>
(aI M1 v8 a1).bind fun v9 =>
if 2 ≤ v9 then (if a2 < 0 then (some (M1, (-13))) else ((gR M1 12 1154 a0).bind fun v12 =>
(aI M1 v12 a1).bind fun v13 =>
if a2 < v13 then ((gR M1 12 1156 a0).bind fun v15 =>
(aJ M1 v15 ((64 * a1) + a2)).bind fun v16 =>
(gR M1 12 1156 a0).bind fun v17 =>
(wJ M1 v17 ((64 * a1) + a2) a3.toInt64).bind fun M18 =>
some (M18, v16)) else (some (M1, (-13))))) else ((gR M1 12 1153 a0).bind fun v19 =>
(aI M1 v19 a1).bind fun v20 =>
if v20 = 0 then (some (M1, (-11))) else (some (M1, (-12))))))) else none


def f_X11_hasPlaces (M : Mm) (a0 : Nat) (a1 : Int32) (a2 : Int32) (a3 : Int32) : Option Int32 :=
if mK M a0 = 12 then (if a3 < 0 then (some 0) else (if a2 < 0 then (some 0) else ((gR M 12 1154 a0).bind fun v3 =>
(aI M v3 a1).bind fun v4 =>
if v4 < a2 then (some 0) else ((gR M 12 1154 a0).bind fun v6 =>
(aI M v6 a1).bind fun v7 =>
if (v7 - a2) < a3 then (some 0) else (some 1))))) else none


def f_X11_copy_L136 : Nat → Mm → Nat → Int32 → Int32 → Int32 → Int32 → Option (Mm × Int32)
  | 0, _, _, _, _, _, _ => none
  | fu + 1, M, x0, x3, x4, x5, x6 =>
    if x5 ≤ x6 then (some (M, x5)) else ((gR M 12 1156 x0).bind fun v2 =>
    (gR M 12 1157 x0).bind fun v3 =>
    (aJ M v3 x6).bind fun v4 =>
    (wJ M v2 (((64 * x3) + x4) + x6) v4).bind fun M5 =>
    f_X11_copy_L136 fu M5 x0 x3 x4 x5 (x6 + 1))

def f_X11_copy_L99 : Nat → Mm → Nat → Int32 → Int32 → Int32 → Int32 → Int32 → Int32 → Option (Mm × Int32)
  | 0, _, _, _, _, _, _, _, _ => none
  | fu + 1, M, x0, x1, x2, x3, x4, x5, x6 =>
    if x5 ≤ x6 then (f_X11_copy_L136 1000 M x0 x3 x4 x5 0) else ((gR M 12 1157 x0).bind fun v2 =>
    (gR M 12 1156 x0).bind fun v3 =>
    (aJ M v3 (((64 * x1) + x2) + x6)).bind fun v4 =>
    (wJ M v2 x6 v4).bind fun M5 =>
    f_X11_copy_L99 fu M5 x0 x1 x2 x3 x4 x5 (x6 + 1))

def f_X11_copy (M : Mm) (a0 : Nat) (a1 : Int32) (a2 : Int32) (a3 : Int32) (a4 : Int32) (a5 : Int32) : Option (Mm × Int32) :=
if mK M a0 = 12 then ((pI M 12 1100 a0 0).bind fun M1 =>
(f_X11_isShelf a1).bind fun v3 =>
if v3 = 0 then (some (M1, (-1))) else ((f_X11_isShelf a3).bind fun v6 =>
if v6 = 0 then (some (M1, (-1))) else ((gR M1 12 1153 a0).bind fun v8 =>
(aI M1 v8 a1).bind fun v9 =>
if v9 = 0 then (some (M1, (-11))) else ((gR M1 12 1153 a0).bind fun v11 =>
(aI M1 v11 a3).bind fun v12 =>
if v12 = 0 then (some (M1, (-11))) else ((gR M1 12 1153 a0).bind fun v14 =>
(aI M1 v14 a1).bind fun v15 =>
if v15 = 1 then (some (M1, (-12))) else ((gR M1 12 1153 a0).bind fun v17 =>
(aI M1 v17 a1).bind fun v18 =>
(gR M1 12 1153 a0).bind fun v19 =>
(aI M1 v19 a3).bind fun v20 =>
if v18 = v20 then ((f_X11_hasPlaces M1 a0 a1 a2 a5).bind fun v23 =>
if v23 = 0 then (some (M1, (-13))) else ((f_X11_hasPlaces M1 a0 a3 a4 a5).bind fun v26 =>
if v26 = 0 then (some (M1, (-13))) else (f_X11_copy_L99 1000 M1 a0 a1 a2 a3 a4 a5 0))) else (some (M1, (-12))))))))) else none


def f_X11_denied (M : Mm) (a0 : Nat) (a1 : Int32) : Option Int32 :=
if mK M a0 = 12 then ((f_X11_isShelf a1).bind fun v2 =>
if v2 = 0 then (some (-1)) else ((gR M 12 1153 a0).bind fun v4 =>
(aI M v4 a1).bind fun v5 =>
if v5 = 0 then (some (-11)) else ((gR M 12 1153 a0).bind fun v7 =>
(aI M v7 a1).bind fun v8 =>
if v8 ≤ 1 then (some 0) else (some (-12))))) else none


def f_X11_worth (M : Mm) (a0 : Nat) (a1 : Int32) : Option (Mm × Int32) :=
if mK M a0 = 12 then ((pI M 12 1100 a0 0).bind fun M1 =>
(f_X11_denied M1 a0 a1).bind fun v3 =>
if 0 ≤ v3 then ((gR M1 12 1155 a0).bind fun v5 =>
(aI M1 v5 a1).bind fun v6 =>
(gR M1 12 1154 a0).bind fun v7 =>
(aI M1 v7 a1).bind fun v8 =>
if v6 = 0 then (some (M1, (10 * v8) + v6)) else (if v6 = 1 then (some (M1, ((10 * v8) + v6) + 3)) else (if v6 = 2 then (some (M1, 2 * (((10 * v8) + v6) + 3))) else (if v6 = 3 then (some (M1, ((10 * v8) + v6) + 1)) else (if v6 = 4 then (some (M1, ((10 * v8) + v6) + 6)) else ((some (M1, 3 * (((10 * v8) + v6) + 6))))))))) else (some (M1, v3))) else none


def f_X11_toss (M : Mm) (a0 : Nat) (a1 : Int32) : Option (Mm × Int32) :=
if mK M a0 = 12 then ((pI M 12 1100 a0 0).bind fun M1 =>
(f_X11_denied M1 a0 a1).bind fun v3 =>
if 0 ≤ v3 then ((gR M1 12 1155 a0).bind fun v5 =>
(aI M1 v5 a1).bind fun v6 =>
if v6 = 0 then (some (M1, (-15))) else ((gR M1 12 1155 a0).bind fun v8 =>
(aI M1 v8 a1).bind fun v9 =>
if v9 = 3 then (some (M1, (-15))) else ((gR M1 12 1155 a0).bind fun v11 =>
(aI M1 v11 a1).bind fun v12 =>
some (M1, v12)))) else (some (M1, v3))) else none


def f_X11_count_J32 (k9 : Mm → Nat → Int32 → Int32 → Int32 → Option (Mm × Int32)) (M : Mm) (x0 : Nat) (x1 : Int32) (x3 : Int32) (s0 : Int32) (s1 : Int32) : Option (Mm × Int32) :=
k9 M x0 x1 (s0 + s1) (x3 + 1)

def f_X11_count_L9 : Nat → Mm → Nat → Int32 → Int32 → Int32 → Option (Mm × Int32)
  | 0, _, _, _, _, _ => none
  | fu + 1, M, x0, x1, x2, x3 =>
    (gI M 12 1116 x0).bind fun v1 =>
    if v1 ≤ x3 then (if x1 = 0 then ((gI M 12 1101 x0).bind fun v9 =>
    some (M, v9)) else (if x1 = 1 then ((gI M 12 1116 x0).bind fun v8 =>
    some (M, v8)) else (if x1 = 2 then ((gI M 12 1107 x0).bind fun v7 =>
    some (M, v7)) else (if x1 = 3 then (some (M, x2)) else (some (M, (-1))))))) else ((gR M 12 1124 x0).bind fun v10 =>
    (aZ M v10 x3).bind fun v11 =>
    if v11 = 0 then (f_X11_count_J32 (f_X11_count_L9 fu) M x0 x1 x3 x2 0) else (f_X11_count_J32 (f_X11_count_L9 fu) M x0 x1 x3 x2 1))

def f_X11_count (M : Mm) (a0 : Nat) (a1 : Int32) : Option (Mm × Int32) :=
if mK M a0 = 12 then ((pI M 12 1100 a0 0).bind fun M1 =>
f_X11_count_L9 1000 M1 a0 a1 0 0) else none

