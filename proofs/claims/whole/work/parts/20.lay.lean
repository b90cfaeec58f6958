/-! The layout: where each cell of the class and of the reference lies, from the address X of the HeaderLine on. -/
def kTab : List Nat := [11, 7, 20, 20, 20, 20, 4, 21, 27, 23, 10, 20, 24, 4, 21, 4, 21, 4, 21, 4, 21, 4, 21, 4, 21, 4, 21, 4, 21, 2, 4, 21, 20, 10, 20, 24, 4, 21, 4, 21, 4, 21, 4, 21, 4, 21, 4, 21, 4, 21, 4, 21, 2, 4, 21, 20, 10, 20, 24, 4, 21, 4, 21, 4, 21, 4, 21, 4, 21, 4, 21, 4, 21, 4, 21, 2, 4, 21, 20, 10, 20, 24, 4, 21, 4, 21, 4, 21, 4, 21, 4, 21, 4, 21, 4, 21, 4, 21, 2, 4, 21, 20, 10, 20, 24, 4, 21, 4, 21, 4, 21, 4, 21, 4, 21, 4, 21, 4, 21, 4, 21, 2, 4, 21, 20, 10, 20, 24, 4, 21, 4, 21, 4, 21, 4, 21, 4, 21, 4, 21, 4, 21, 4, 21, 2, 4, 21, 20, 10, 20, 24, 4, 21, 4, 21, 4, 21, 4, 21, 4, 21, 4, 21, 4, 21, 4, 21, 2, 4, 21, 20, 10, 20, 24, 4, 21, 4, 21, 4, 21, 4, 21, 4, 21, 4, 21, 4, 21, 4, 21, 2, 4, 21, 20, 25, 26, 9, 21, 9, 21, 9, 21, 9, 21, 9, 21, 9, 21, 9, 21, 9, 21, 6, 20, 1, 4, 21, 20, 20, 20, 21, 20, 3, 4, 21, 20, 12, 20, 20, 20, 21, 21, 20, 20, 20, 22, 20, 20, 21, 20, 20, 20, 20, 20, 20, 20, 22, 22, 20, 20, 20, 20, 22, 20, 20, 20, 21, 21, 20, 20, 20, 20, 21, 20, 21, 20, 20, 20, 21, 21]
def nTab : List Nat := [0, 0, 8, 8, 8, 8, 0, 8, 8, 8, 0, 8, 8, 0, 8, 0, 8, 0, 8, 0, 8, 0, 8, 0, 8, 0, 8, 0, 8, 0, 0, 8, 8, 0, 8, 8, 0, 8, 0, 8, 0, 8, 0, 8, 0, 8, 0, 8, 0, 8, 0, 8, 0, 0, 8, 8, 0, 8, 8, 0, 8, 0, 8, 0, 8, 0, 8, 0, 8, 0, 8, 0, 8, 0, 8, 0, 0, 8, 8, 0, 8, 8, 0, 8, 0, 8, 0, 8, 0, 8, 0, 8, 0, 8, 0, 8, 0, 8, 0, 0, 8, 8, 0, 8, 8, 0, 8, 0, 8, 0, 8, 0, 8, 0, 8, 0, 8, 0, 8, 0, 8, 0, 0, 8, 8, 0, 8, 8, 0, 8, 0, 8, 0, 8, 0, 8, 0, 8, 0, 8, 0, 8, 0, 8, 0, 0, 8, 8, 0, 8, 8, 0, 8, 0, 8, 0, 8, 0, 8, 0, 8, 0, 8, 0, 8, 0, 8, 0, 0, 8, 8, 0, 8, 8, 0, 8, 0, 8, 0, 8, 0, 8, 0, 8, 0, 8, 0, 8, 0, 8, 0, 0, 8, 8, 200, 8, 0, 60, 0, 60, 0, 60, 0, 60, 0, 60, 0, 60, 0, 60, 0, 60, 0, 60, 0, 0, 8, 8, 8, 8, 8, 0, 0, 0, 8, 8, 0, 8, 8, 8, 8, 8, 8, 8, 64, 8, 8, 72, 576, 200, 12800, 200, 200, 200, 200, 200, 200, 200, 1600, 1600, 200, 200, 8, 8, 8, 64, 64, 8, 8, 600, 8, 8, 8, 8, 8, 8, 8, 8, 512, 64]
def kT (o : Nat) : Nat := kTab.getD o 0
def nT (o : Nat) : Nat := nTab.getD o 0
def rT : List (Nat × Nat × Nat) := [(1001, 0, 1), (1002, 0, 6), (1003, 0, 8), (1004, 0, 9), (1005, 0, 194), (1006, 0, 195), (1007, 0, 212), (1008, 0, 214), (1009, 0, 222), (600, 1, 2), (601, 1, 3), (602, 1, 4), (603, 1, 5), (300, 6, 7), (900, 10, 11), (905, 10, 12), (300, 13, 14), (300, 15, 16), (300, 17, 18), (300, 19, 20), (300, 21, 22), (300, 23, 24), (300, 25, 26), (300, 27, 28), (100, 29, 30), (101, 29, 32), (300, 30, 31), (900, 33, 34), (905, 33, 35), (300, 36, 37), (300, 38, 39), (300, 40, 41), (300, 42, 43), (300, 44, 45), (300, 46, 47), (300, 48, 49), (300, 50, 51), (100, 52, 53), (101, 52, 55), (300, 53, 54), (900, 56, 57), (905, 56, 58), (300, 59, 60), (300, 61, 62), (300, 63, 64), (300, 65, 66), (300, 67, 68), (300, 69, 70), (300, 71, 72), (300, 73, 74), (100, 75, 76), (101, 75, 78), (300, 76, 77), (900, 79, 80), (905, 79, 81), (300, 82, 83), (300, 84, 85), (300, 86, 87), (300, 88, 89), (300, 90, 91), (300, 92, 93), (300, 94, 95), (300, 96, 97), (100, 98, 99), (101, 98, 101), (300, 99, 100), (900, 102, 103), (905, 102, 104), (300, 105, 106), (300, 107, 108), (300, 109, 110), (300, 111, 112), (300, 113, 114), (300, 115, 116), (300, 117, 118), (300, 119, 120), (100, 121, 122), (101, 121, 124), (300, 122, 123), (900, 125, 126), (905, 125, 127), (300, 128, 129), (300, 130, 131), (300, 132, 133), (300, 134, 135), (300, 136, 137), (300, 138, 139), (300, 140, 141), (300, 142, 143), (100, 144, 145), (101, 144, 147), (300, 145, 146), (900, 148, 149), (905, 148, 150), (300, 151, 152), (300, 153, 154), (300, 155, 156), (300, 157, 158), (300, 159, 160), (300, 161, 162), (300, 163, 164), (300, 165, 166), (100, 167, 168), (101, 167, 170), (300, 168, 169), (900, 171, 172), (905, 171, 173), (300, 174, 175), (300, 176, 177), (300, 178, 179), (300, 180, 181), (300, 182, 183), (300, 184, 185), (300, 186, 187), (300, 188, 189), (100, 190, 191), (101, 190, 193), (300, 191, 192), (800, 196, 197), (800, 198, 199), (800, 200, 201), (800, 202, 203), (800, 204, 205), (800, 206, 207), (800, 208, 209), (800, 210, 211), (500, 212, 213), (0, 214, 215), (1, 214, 217), (2, 214, 218), (3, 214, 219), (4, 214, 220), (300, 215, 216), (200, 222, 223), (201, 222, 225), (300, 223, 224), (1102, 226, 227), (1103, 226, 228), (1104, 226, 229), (1105, 226, 230), (1108, 226, 231), (1109, 226, 232), (1110, 226, 233), (1111, 226, 234), (1112, 226, 235), (1113, 226, 236), (1114, 226, 237), (1115, 226, 238), (1117, 226, 239), (1118, 226, 240), (1119, 226, 241), (1120, 226, 242), (1121, 226, 243), (1122, 226, 244), (1123, 226, 245), (1124, 226, 246), (1125, 226, 247), (1126, 226, 248), (1127, 226, 249), (1128, 226, 250), (1129, 226, 251), (1130, 226, 252), (1131, 226, 253), (1132, 226, 254), (1133, 226, 255), (1134, 226, 256), (1139, 226, 257), (1140, 226, 258), (1141, 226, 259), (1146, 226, 260), (1147, 226, 261), (1148, 226, 262), (1149, 226, 263), (1152, 226, 264), (1153, 226, 265), (1154, 226, 266), (1155, 226, 267), (1156, 226, 268), (1157, 226, 269)]
def qT : List (Nat × Nat × Nat) := [(8, 0, 10), (12, 0, 13), (12, 1, 15), (12, 2, 17), (12, 3, 19), (12, 4, 21), (12, 5, 23), (12, 6, 25), (12, 7, 27), (9, 0, 29), (8, 1, 33), (35, 0, 36), (35, 1, 38), (35, 2, 40), (35, 3, 42), (35, 4, 44), (35, 5, 46), (35, 6, 48), (35, 7, 50), (9, 1, 52), (8, 2, 56), (58, 0, 59), (58, 1, 61), (58, 2, 63), (58, 3, 65), (58, 4, 67), (58, 5, 69), (58, 6, 71), (58, 7, 73), (9, 2, 75), (8, 3, 79), (81, 0, 82), (81, 1, 84), (81, 2, 86), (81, 3, 88), (81, 4, 90), (81, 5, 92), (81, 6, 94), (81, 7, 96), (9, 3, 98), (8, 4, 102), (104, 0, 105), (104, 1, 107), (104, 2, 109), (104, 3, 111), (104, 4, 113), (104, 5, 115), (104, 6, 117), (104, 7, 119), (9, 4, 121), (8, 5, 125), (127, 0, 128), (127, 1, 130), (127, 2, 132), (127, 3, 134), (127, 4, 136), (127, 5, 138), (127, 6, 140), (127, 7, 142), (9, 5, 144), (8, 6, 148), (150, 0, 151), (150, 1, 153), (150, 2, 155), (150, 3, 157), (150, 4, 159), (150, 5, 161), (150, 6, 163), (150, 7, 165), (9, 6, 167), (8, 7, 171), (173, 0, 174), (173, 1, 176), (173, 2, 178), (173, 3, 180), (173, 4, 182), (173, 5, 184), (173, 6, 186), (173, 7, 188), (9, 7, 190), (195, 0, 196), (195, 1, 198), (195, 2, 200), (195, 3, 202), (195, 4, 204), (195, 5, 206), (195, 6, 208), (195, 7, 210)]
def St (M : Mm) (X : Nat) : Prop := (∀ o, o < 270 → mK M (X + o) = kT o) ∧ (∀ o, o < 270 → 20 ≤ kT o → mN M (X + o) = nT o) ∧ (∀ q ∈ rT, mR M q.1 (X + q.2.1) = some (X + q.2.2)) ∧ (∀ q ∈ qT, mQ M (X + q.1) q.2.1 = some (X + q.2.2)) ∧ X + 270 ≤ mS M
theorem St.K {M : Mm} {X : Nat} (h : St M X) (o k : Nat) (ho : o < 270) (hk : kT o = k) : mK M (X + o) = k := (h.1 o ho).trans hk
theorem St.N {M : Mm} {X : Nat} (h : St M X) (o n : Nat) (ho : o < 270) (hk : 20 ≤ kT o) (hn : nT o = n) : mN M (X + o) = n := (h.2.1 o ho hk).trans hn
theorem St.R {M : Mm} {X : Nat} (h : St M X) (num o t : Nat) (hm : (num, o, t) ∈ rT) : mR M num (X + o) = some (X + t) := h.2.2.1 _ hm
theorem St.Q {M : Mm} {X : Nat} (h : St M X) (o i t : Nat) (hm : (o, i, t) ∈ qT) : mQ M (X + o) i = some (X + t) := h.2.2.2.1 _ hm
def aSq (X i : Nat) : Nat := X + (10 + 23 * i)
def aSt (X i : Nat) : Nat := X + (11 + 23 * i)
def aRg (X i : Nat) : Nat := X + (12 + 23 * i)
def aHd (X i j : Nat) : Nat := X + (13 + 23 * i + 2 * j)
def aHv (X i j : Nat) : Nat := X + (14 + 23 * i + 2 * j)
def aCx (X i : Nat) : Nat := X + (29 + 23 * i)
def aCh (X i : Nat) : Nat := X + (30 + 23 * i)
def aCv (X i : Nat) : Nat := X + (31 + 23 * i)
def aCs (X i : Nat) : Nat := X + (32 + 23 * i)
def aSh (X s : Nat) : Nat := X + (196 + 2 * s)
def aSr (X s : Nat) : Nat := X + (197 + 2 * s)
theorem gR_of {M : Mm} {kd num a t : Nat} (hk : mK M a = kd) (hr : mR M num a = some t) : gR M kd num a = some t := by unfold gR; rw [if_pos hk, hr]
theorem gI_of {M : Mm} {kd num a : Nat} (hk : mK M a = kd) : gI M kd num a = some (mI M num a) := by unfold gI; rw [if_pos hk]
theorem gJ_of {M : Mm} {kd num a : Nat} (hk : mK M a = kd) : gJ M kd num a = some (mJ M num a) := by unfold gJ; rw [if_pos hk]
theorem gN_of {M : Mm} {kd num a : Nat} (hk : mK M a = kd) : gN M kd num a = some (mR M num a) := by unfold gN; rw [if_pos hk]
theorem pI_of {M : Mm} {kd num a : Nat} {v : Int32} (hk : mK M a = kd) : pI M kd num a v = some (sI M num a v) := by unfold pI; rw [if_pos hk]
theorem pJ_of {M : Mm} {kd num a : Nat} {v : Int64} (hk : mK M a = kd) : pJ M kd num a v = some (sJ M num a v) := by unfold pJ; rw [if_pos hk]
theorem pR_of {M : Mm} {kd num a : Nat} {v : Option Nat} (hk : mK M a = kd) : pR M kd num a v = some (sR M num a v) := by unfold pR; rw [if_pos hk]
theorem pZ_of {M : Mm} {kd num a : Nat} {v : Int32} (hk : mK M a = kd) (hv : v = 0 ∨ v = 1) : pZ M kd num a v = some (sI M num a v) := by unfold pZ; rw [if_pos hk, if_pos hv]
theorem ix_nI {k : Nat} (h : k < 2 ^ 31) : ix (nI k) = k := nI_clamp h
theorem vin_nI {k n : Nat} (h : k < n) (hs : n < 2 ^ 31) : vin (nI k) n = true := by
  unfold vin
  rw [nI_toInt (by omega), Bool.and_eq_true, decide_eq_true_eq, decide_eq_true_eq]
  omega
theorem aI_of {M : Mm} {a k n : Nat} (hk : mK M a = 20) (hn : mN M a = n) (h : k < n) (hs : n < 2 ^ 31) : aI M a (nI k) = some (mA M a k) := by
  unfold aI; rw [if_pos hk, hn, if_pos (vin_nI h hs), ix_nI (by omega)]
theorem aZ_of {M : Mm} {a k n : Nat} (hk : mK M a = 22) (hn : mN M a = n) (h : k < n) (hs : n < 2 ^ 31) : aZ M a (nI k) = some (mA M a k) := by
  unfold aZ; rw [if_pos hk, hn, if_pos (vin_nI h hs), ix_nI (by omega)]
theorem aJ_of {M : Mm} {a k n : Nat} (hk : mK M a = 21) (hn : mN M a = n) (h : k < n) (hs : n < 2 ^ 31) : aJ M a (nI k) = some (mB M a k) := by
  unfold aJ; rw [if_pos hk, hn, if_pos (vin_nI h hs), ix_nI (by omega)]
theorem aR_of {M : Mm} {kd a k n t : Nat} (hk : mK M a = kd) (hn : mN M a = n) (h : k < n) (hs : n < 2 ^ 31) (ht : mQ M a k = some t) : aR M kd a (nI k) = some t := by
  unfold aR; rw [if_pos hk, hn, if_pos (vin_nI h hs), ix_nI (by omega), ht]
theorem aN_of {M : Mm} {kd a k n : Nat} (hk : mK M a = kd) (hn : mN M a = n) (h : k < n) (hs : n < 2 ^ 31) : aN M kd a (nI k) = some (mQ M a k) := by
  unfold aN; rw [if_pos hk, hn, if_pos (vin_nI h hs), ix_nI (by omega)]
theorem wI_of {M : Mm} {a k n : Nat} {v : Int32} (hk : mK M a = 20) (hn : mN M a = n) (h : k < n) (hs : n < 2 ^ 31) : wI M a (nI k) v = some (sA M a (va_up (mA M a) k v)) := by
  unfold wI; rw [if_pos hk, hn, if_pos (vin_nI h hs), ix_nI (by omega)]
theorem wZ_of {M : Mm} {a k n : Nat} {v : Int32} (hk : mK M a = 22) (hn : mN M a = n) (h : k < n) (hs : n < 2 ^ 31) : wZ M a (nI k) v = some (sA M a (va_up (mA M a) k (vp_nar .boolean v))) := by
  unfold wZ; rw [if_pos hk, hn, if_pos (vin_nI h hs), ix_nI (by omega)]
theorem wJ_of {M : Mm} {a k n : Nat} {v : Int64} (hk : mK M a = 21) (hn : mN M a = n) (h : k < n) (hs : n < 2 ^ 31) : wJ M a (nI k) v = some (sB M a (va_up (mB M a) k v)) := by
  unfold wJ; rw [if_pos hk, hn, if_pos (vin_nI h hs), ix_nI (by omega)]
theorem aL_of {M : Mm} {a k n : Nat} (hk : mK M a = k) (h1 : 20 ≤ k) (h2 : k < 28) (hn : mN M a = n) : aL M a = some (nI n) := by
  unfold aL; rw [hk, if_pos h1, if_pos h2, hn]
theorem vz0 : vp_nar .boolean 0 = 0 := by decide
theorem vz1 : vp_nar .boolean 1 = 1 := by decide
theorem k_0 {M : Mm} {X : Nat} (h : St M X) : mK M (X) = 11 := h.K 0 _ (by decide) (by decide)
theorem k_1 {M : Mm} {X : Nat} (h : St M X) : mK M (X + 1) = 7 := h.K 1 _ (by decide) (by decide)
theorem k_2 {M : Mm} {X : Nat} (h : St M X) : mK M (X + 2) = 20 := h.K 2 _ (by decide) (by decide)
theorem n_2 {M : Mm} {X : Nat} (h : St M X) : mN M (X + 2) = 8 := h.N 2 _ (by decide) (by decide) (by decide)
theorem k_3 {M : Mm} {X : Nat} (h : St M X) : mK M (X + 3) = 20 := h.K 3 _ (by decide) (by decide)
theorem n_3 {M : Mm} {X : Nat} (h : St M X) : mN M (X + 3) = 8 := h.N 3 _ (by decide) (by decide) (by decide)
theorem k_4 {M : Mm} {X : Nat} (h : St M X) : mK M (X + 4) = 20 := h.K 4 _ (by decide) (by decide)
theorem n_4 {M : Mm} {X : Nat} (h : St M X) : mN M (X + 4) = 8 := h.N 4 _ (by decide) (by decide) (by decide)
theorem k_5 {M : Mm} {X : Nat} (h : St M X) : mK M (X + 5) = 20 := h.K 5 _ (by decide) (by decide)
theorem n_5 {M : Mm} {X : Nat} (h : St M X) : mN M (X + 5) = 8 := h.N 5 _ (by decide) (by decide) (by decide)
theorem k_6 {M : Mm} {X : Nat} (h : St M X) : mK M (X + 6) = 4 := h.K 6 _ (by decide) (by decide)
theorem k_7 {M : Mm} {X : Nat} (h : St M X) : mK M (X + 7) = 21 := h.K 7 _ (by decide) (by decide)
theorem n_7 {M : Mm} {X : Nat} (h : St M X) : mN M (X + 7) = 8 := h.N 7 _ (by decide) (by decide) (by decide)
theorem k_8 {M : Mm} {X : Nat} (h : St M X) : mK M (X + 8) = 27 := h.K 8 _ (by decide) (by decide)
theorem n_8 {M : Mm} {X : Nat} (h : St M X) : mN M (X + 8) = 8 := h.N 8 _ (by decide) (by decide) (by decide)
theorem k_9 {M : Mm} {X : Nat} (h : St M X) : mK M (X + 9) = 23 := h.K 9 _ (by decide) (by decide)
theorem n_9 {M : Mm} {X : Nat} (h : St M X) : mN M (X + 9) = 8 := h.N 9 _ (by decide) (by decide) (by decide)
theorem k_194 {M : Mm} {X : Nat} (h : St M X) : mK M (X + 194) = 25 := h.K 194 _ (by decide) (by decide)
theorem n_194 {M : Mm} {X : Nat} (h : St M X) : mN M (X + 194) = 200 := h.N 194 _ (by decide) (by decide) (by decide)
theorem k_195 {M : Mm} {X : Nat} (h : St M X) : mK M (X + 195) = 26 := h.K 195 _ (by decide) (by decide)
theorem n_195 {M : Mm} {X : Nat} (h : St M X) : mN M (X + 195) = 8 := h.N 195 _ (by decide) (by decide) (by decide)
theorem k_212 {M : Mm} {X : Nat} (h : St M X) : mK M (X + 212) = 6 := h.K 212 _ (by decide) (by decide)
theorem k_213 {M : Mm} {X : Nat} (h : St M X) : mK M (X + 213) = 20 := h.K 213 _ (by decide) (by decide)
theorem n_213 {M : Mm} {X : Nat} (h : St M X) : mN M (X + 213) = 60 := h.N 213 _ (by decide) (by decide) (by decide)
theorem k_214 {M : Mm} {X : Nat} (h : St M X) : mK M (X + 214) = 1 := h.K 214 _ (by decide) (by decide)
theorem k_215 {M : Mm} {X : Nat} (h : St M X) : mK M (X + 215) = 4 := h.K 215 _ (by decide) (by decide)
theorem k_216 {M : Mm} {X : Nat} (h : St M X) : mK M (X + 216) = 21 := h.K 216 _ (by decide) (by decide)
theorem n_216 {M : Mm} {X : Nat} (h : St M X) : mN M (X + 216) = 8 := h.N 216 _ (by decide) (by decide) (by decide)
theorem k_217 {M : Mm} {X : Nat} (h : St M X) : mK M (X + 217) = 20 := h.K 217 _ (by decide) (by decide)
theorem n_217 {M : Mm} {X : Nat} (h : St M X) : mN M (X + 217) = 8 := h.N 217 _ (by decide) (by decide) (by decide)
theorem k_218 {M : Mm} {X : Nat} (h : St M X) : mK M (X + 218) = 20 := h.K 218 _ (by decide) (by decide)
theorem n_218 {M : Mm} {X : Nat} (h : St M X) : mN M (X + 218) = 8 := h.N 218 _ (by decide) (by decide) (by decide)
theorem k_219 {M : Mm} {X : Nat} (h : St M X) : mK M (X + 219) = 20 := h.K 219 _ (by decide) (by decide)
theorem n_219 {M : Mm} {X : Nat} (h : St M X) : mN M (X + 219) = 8 := h.N 219 _ (by decide) (by decide) (by decide)
theorem k_220 {M : Mm} {X : Nat} (h : St M X) : mK M (X + 220) = 21 := h.K 220 _ (by decide) (by decide)
theorem n_220 {M : Mm} {X : Nat} (h : St M X) : mN M (X + 220) = 8 := h.N 220 _ (by decide) (by decide) (by decide)
theorem k_221 {M : Mm} {X : Nat} (h : St M X) : mK M (X + 221) = 20 := h.K 221 _ (by decide) (by decide)
theorem n_221 {M : Mm} {X : Nat} (h : St M X) : mN M (X + 221) = 0 := h.N 221 _ (by decide) (by decide) (by decide)
theorem k_222 {M : Mm} {X : Nat} (h : St M X) : mK M (X + 222) = 3 := h.K 222 _ (by decide) (by decide)
theorem k_223 {M : Mm} {X : Nat} (h : St M X) : mK M (X + 223) = 4 := h.K 223 _ (by decide) (by decide)
theorem k_224 {M : Mm} {X : Nat} (h : St M X) : mK M (X + 224) = 21 := h.K 224 _ (by decide) (by decide)
theorem n_224 {M : Mm} {X : Nat} (h : St M X) : mN M (X + 224) = 8 := h.N 224 _ (by decide) (by decide) (by decide)
theorem k_225 {M : Mm} {X : Nat} (h : St M X) : mK M (X + 225) = 20 := h.K 225 _ (by decide) (by decide)
theorem n_225 {M : Mm} {X : Nat} (h : St M X) : mN M (X + 225) = 8 := h.N 225 _ (by decide) (by decide) (by decide)
theorem k_226 {M : Mm} {X : Nat} (h : St M X) : mK M (X + 226) = 12 := h.K 226 _ (by decide) (by decide)
theorem k_227 {M : Mm} {X : Nat} (h : St M X) : mK M (X + 227) = 20 := h.K 227 _ (by decide) (by decide)
theorem n_227 {M : Mm} {X : Nat} (h : St M X) : mN M (X + 227) = 8 := h.N 227 _ (by decide) (by decide) (by decide)
theorem k_228 {M : Mm} {X : Nat} (h : St M X) : mK M (X + 228) = 20 := h.K 228 _ (by decide) (by decide)
theorem n_228 {M : Mm} {X : Nat} (h : St M X) : mN M (X + 228) = 8 := h.N 228 _ (by decide) (by decide) (by decide)
theorem k_229 {M : Mm} {X : Nat} (h : St M X) : mK M (X + 229) = 20 := h.K 229 _ (by decide) (by decide)
theorem n_229 {M : Mm} {X : Nat} (h : St M X) : mN M (X + 229) = 8 := h.N 229 _ (by decide) (by decide) (by decide)
theorem k_230 {M : Mm} {X : Nat} (h : St M X) : mK M (X + 230) = 21 := h.K 230 _ (by decide) (by decide)
theorem n_230 {M : Mm} {X : Nat} (h : St M X) : mN M (X + 230) = 8 := h.N 230 _ (by decide) (by decide) (by decide)
theorem k_231 {M : Mm} {X : Nat} (h : St M X) : mK M (X + 231) = 21 := h.K 231 _ (by decide) (by decide)
theorem n_231 {M : Mm} {X : Nat} (h : St M X) : mN M (X + 231) = 8 := h.N 231 _ (by decide) (by decide) (by decide)
theorem k_232 {M : Mm} {X : Nat} (h : St M X) : mK M (X + 232) = 20 := h.K 232 _ (by decide) (by decide)
theorem n_232 {M : Mm} {X : Nat} (h : St M X) : mN M (X + 232) = 8 := h.N 232 _ (by decide) (by decide) (by decide)
theorem k_233 {M : Mm} {X : Nat} (h : St M X) : mK M (X + 233) = 20 := h.K 233 _ (by decide) (by decide)
theorem n_233 {M : Mm} {X : Nat} (h : St M X) : mN M (X + 233) = 8 := h.N 233 _ (by decide) (by decide) (by decide)
theorem k_234 {M : Mm} {X : Nat} (h : St M X) : mK M (X + 234) = 20 := h.K 234 _ (by decide) (by decide)
theorem n_234 {M : Mm} {X : Nat} (h : St M X) : mN M (X + 234) = 64 := h.N 234 _ (by decide) (by decide) (by decide)
theorem k_235 {M : Mm} {X : Nat} (h : St M X) : mK M (X + 235) = 22 := h.K 235 _ (by decide) (by decide)
theorem n_235 {M : Mm} {X : Nat} (h : St M X) : mN M (X + 235) = 8 := h.N 235 _ (by decide) (by decide) (by decide)
theorem k_236 {M : Mm} {X : Nat} (h : St M X) : mK M (X + 236) = 20 := h.K 236 _ (by decide) (by decide)
theorem n_236 {M : Mm} {X : Nat} (h : St M X) : mN M (X + 236) = 8 := h.N 236 _ (by decide) (by decide) (by decide)
theorem k_237 {M : Mm} {X : Nat} (h : St M X) : mK M (X + 237) = 20 := h.K 237 _ (by decide) (by decide)
theorem n_237 {M : Mm} {X : Nat} (h : St M X) : mN M (X + 237) = 72 := h.N 237 _ (by decide) (by decide) (by decide)
theorem k_238 {M : Mm} {X : Nat} (h : St M X) : mK M (X + 238) = 21 := h.K 238 _ (by decide) (by decide)
theorem n_238 {M : Mm} {X : Nat} (h : St M X) : mN M (X + 238) = 576 := h.N 238 _ (by decide) (by decide) (by decide)
theorem k_239 {M : Mm} {X : Nat} (h : St M X) : mK M (X + 239) = 20 := h.K 239 _ (by decide) (by decide)
theorem n_239 {M : Mm} {X : Nat} (h : St M X) : mN M (X + 239) = 200 := h.N 239 _ (by decide) (by decide) (by decide)
theorem k_240 {M : Mm} {X : Nat} (h : St M X) : mK M (X + 240) = 20 := h.K 240 _ (by decide) (by decide)
theorem n_240 {M : Mm} {X : Nat} (h : St M X) : mN M (X + 240) = 12800 := h.N 240 _ (by decide) (by decide) (by decide)
theorem k_241 {M : Mm} {X : Nat} (h : St M X) : mK M (X + 241) = 20 := h.K 241 _ (by decide) (by decide)
theorem n_241 {M : Mm} {X : Nat} (h : St M X) : mN M (X + 241) = 200 := h.N 241 _ (by decide) (by decide) (by decide)
theorem k_242 {M : Mm} {X : Nat} (h : St M X) : mK M (X + 242) = 20 := h.K 242 _ (by decide) (by decide)
theorem n_242 {M : Mm} {X : Nat} (h : St M X) : mN M (X + 242) = 200 := h.N 242 _ (by decide) (by decide) (by decide)
theorem k_243 {M : Mm} {X : Nat} (h : St M X) : mK M (X + 243) = 20 := h.K 243 _ (by decide) (by decide)
theorem n_243 {M : Mm} {X : Nat} (h : St M X) : mN M (X + 243) = 200 := h.N 243 _ (by decide) (by decide) (by decide)
theorem k_244 {M : Mm} {X : Nat} (h : St M X) : mK M (X + 244) = 20 := h.K 244 _ (by decide) (by decide)
theorem n_244 {M : Mm} {X : Nat} (h : St M X) : mN M (X + 244) = 200 := h.N 244 _ (by decide) (by decide) (by decide)
theorem k_245 {M : Mm} {X : Nat} (h : St M X) : mK M (X + 245) = 20 := h.K 245 _ (by decide) (by decide)
theorem n_245 {M : Mm} {X : Nat} (h : St M X) : mN M (X + 245) = 200 := h.N 245 _ (by decide) (by decide) (by decide)
theorem k_246 {M : Mm} {X : Nat} (h : St M X) : mK M (X + 246) = 22 := h.K 246 _ (by decide) (by decide)
theorem n_246 {M : Mm} {X : Nat} (h : St M X) : mN M (X + 246) = 200 := h.N 246 _ (by decide) (by decide) (by decide)
theorem k_247 {M : Mm} {X : Nat} (h : St M X) : mK M (X + 247) = 22 := h.K 247 _ (by decide) (by decide)
theorem n_247 {M : Mm} {X : Nat} (h : St M X) : mN M (X + 247) = 200 := h.N 247 _ (by decide) (by decide) (by decide)
theorem k_248 {M : Mm} {X : Nat} (h : St M X) : mK M (X + 248) = 20 := h.K 248 _ (by decide) (by decide)
theorem n_248 {M : Mm} {X : Nat} (h : St M X) : mN M (X + 248) = 1600 := h.N 248 _ (by decide) (by decide) (by decide)
theorem k_249 {M : Mm} {X : Nat} (h : St M X) : mK M (X + 249) = 20 := h.K 249 _ (by decide) (by decide)
theorem n_249 {M : Mm} {X : Nat} (h : St M X) : mN M (X + 249) = 1600 := h.N 249 _ (by decide) (by decide) (by decide)
theorem k_250 {M : Mm} {X : Nat} (h : St M X) : mK M (X + 250) = 20 := h.K 250 _ (by decide) (by decide)
theorem n_250 {M : Mm} {X : Nat} (h : St M X) : mN M (X + 250) = 200 := h.N 250 _ (by decide) (by decide) (by decide)
theorem k_251 {M : Mm} {X : Nat} (h : St M X) : mK M (X + 251) = 20 := h.K 251 _ (by decide) (by decide)
theorem n_251 {M : Mm} {X : Nat} (h : St M X) : mN M (X + 251) = 200 := h.N 251 _ (by decide) (by decide) (by decide)
theorem k_252 {M : Mm} {X : Nat} (h : St M X) : mK M (X + 252) = 22 := h.K 252 _ (by decide) (by decide)
theorem n_252 {M : Mm} {X : Nat} (h : St M X) : mN M (X + 252) = 8 := h.N 252 _ (by decide) (by decide) (by decide)
theorem k_253 {M : Mm} {X : Nat} (h : St M X) : mK M (X + 253) = 20 := h.K 253 _ (by decide) (by decide)
theorem n_253 {M : Mm} {X : Nat} (h : St M X) : mN M (X + 253) = 8 := h.N 253 _ (by decide) (by decide) (by decide)
theorem k_254 {M : Mm} {X : Nat} (h : St M X) : mK M (X + 254) = 20 := h.K 254 _ (by decide) (by decide)
theorem n_254 {M : Mm} {X : Nat} (h : St M X) : mN M (X + 254) = 8 := h.N 254 _ (by decide) (by decide) (by decide)
theorem k_255 {M : Mm} {X : Nat} (h : St M X) : mK M (X + 255) = 20 := h.K 255 _ (by decide) (by decide)
theorem n_255 {M : Mm} {X : Nat} (h : St M X) : mN M (X + 255) = 64 := h.N 255 _ (by decide) (by decide) (by decide)
theorem k_256 {M : Mm} {X : Nat} (h : St M X) : mK M (X + 256) = 21 := h.K 256 _ (by decide) (by decide)
theorem n_256 {M : Mm} {X : Nat} (h : St M X) : mN M (X + 256) = 64 := h.N 256 _ (by decide) (by decide) (by decide)
theorem k_257 {M : Mm} {X : Nat} (h : St M X) : mK M (X + 257) = 21 := h.K 257 _ (by decide) (by decide)
theorem n_257 {M : Mm} {X : Nat} (h : St M X) : mN M (X + 257) = 8 := h.N 257 _ (by decide) (by decide) (by decide)
theorem k_258 {M : Mm} {X : Nat} (h : St M X) : mK M (X + 258) = 20 := h.K 258 _ (by decide) (by decide)
theorem n_258 {M : Mm} {X : Nat} (h : St M X) : mN M (X + 258) = 8 := h.N 258 _ (by decide) (by decide) (by decide)
theorem k_259 {M : Mm} {X : Nat} (h : St M X) : mK M (X + 259) = 20 := h.K 259 _ (by decide) (by decide)
theorem n_259 {M : Mm} {X : Nat} (h : St M X) : mN M (X + 259) = 600 := h.N 259 _ (by decide) (by decide) (by decide)
theorem k_260 {M : Mm} {X : Nat} (h : St M X) : mK M (X + 260) = 20 := h.K 260 _ (by decide) (by decide)
theorem n_260 {M : Mm} {X : Nat} (h : St M X) : mN M (X + 260) = 8 := h.N 260 _ (by decide) (by decide) (by decide)
theorem k_261 {M : Mm} {X : Nat} (h : St M X) : mK M (X + 261) = 20 := h.K 261 _ (by decide) (by decide)
theorem n_261 {M : Mm} {X : Nat} (h : St M X) : mN M (X + 261) = 8 := h.N 261 _ (by decide) (by decide) (by decide)
theorem k_262 {M : Mm} {X : Nat} (h : St M X) : mK M (X + 262) = 21 := h.K 262 _ (by decide) (by decide)
theorem n_262 {M : Mm} {X : Nat} (h : St M X) : mN M (X + 262) = 8 := h.N 262 _ (by decide) (by decide) (by decide)
theorem k_263 {M : Mm} {X : Nat} (h : St M X) : mK M (X + 263) = 20 := h.K 263 _ (by decide) (by decide)
theorem n_263 {M : Mm} {X : Nat} (h : St M X) : mN M (X + 263) = 8 := h.N 263 _ (by decide) (by decide) (by decide)
theorem k_264 {M : Mm} {X : Nat} (h : St M X) : mK M (X + 264) = 21 := h.K 264 _ (by decide) (by decide)
theorem n_264 {M : Mm} {X : Nat} (h : St M X) : mN M (X + 264) = 8 := h.N 264 _ (by decide) (by decide) (by decide)
theorem k_265 {M : Mm} {X : Nat} (h : St M X) : mK M (X + 265) = 20 := h.K 265 _ (by decide) (by decide)
theorem n_265 {M : Mm} {X : Nat} (h : St M X) : mN M (X + 265) = 8 := h.N 265 _ (by decide) (by decide) (by decide)
theorem k_266 {M : Mm} {X : Nat} (h : St M X) : mK M (X + 266) = 20 := h.K 266 _ (by decide) (by decide)
theorem n_266 {M : Mm} {X : Nat} (h : St M X) : mN M (X + 266) = 8 := h.N 266 _ (by decide) (by decide) (by decide)
theorem k_267 {M : Mm} {X : Nat} (h : St M X) : mK M (X + 267) = 20 := h.K 267 _ (by decide) (by decide)
theorem n_267 {M : Mm} {X : Nat} (h : St M X) : mN M (X + 267) = 8 := h.N 267 _ (by decide) (by decide) (by decide)
theorem k_268 {M : Mm} {X : Nat} (h : St M X) : mK M (X + 268) = 21 := h.K 268 _ (by decide) (by decide)
theorem n_268 {M : Mm} {X : Nat} (h : St M X) : mN M (X + 268) = 512 := h.N 268 _ (by decide) (by decide) (by decide)
theorem k_269 {M : Mm} {X : Nat} (h : St M X) : mK M (X + 269) = 21 := h.K 269 _ (by decide) (by decide)
theorem n_269 {M : Mm} {X : Nat} (h : St M X) : mN M (X + 269) = 64 := h.N 269 _ (by decide) (by decide) (by decide)
theorem r_0_1001 {M : Mm} {X : Nat} (h : St M X) : gR M 11 1001 (X) = some (X + 1) := gR_of (k_0 h) (h.R 1001 0 1 (by decide))
theorem r_0_1002 {M : Mm} {X : Nat} (h : St M X) : gR M 11 1002 (X) = some (X + 6) := gR_of (k_0 h) (h.R 1002 0 6 (by decide))
theorem r_0_1003 {M : Mm} {X : Nat} (h : St M X) : gR M 11 1003 (X) = some (X + 8) := gR_of (k_0 h) (h.R 1003 0 8 (by decide))
theorem r_0_1004 {M : Mm} {X : Nat} (h : St M X) : gR M 11 1004 (X) = some (X + 9) := gR_of (k_0 h) (h.R 1004 0 9 (by decide))
theorem r_0_1005 {M : Mm} {X : Nat} (h : St M X) : gR M 11 1005 (X) = some (X + 194) := gR_of (k_0 h) (h.R 1005 0 194 (by decide))
theorem r_0_1006 {M : Mm} {X : Nat} (h : St M X) : gR M 11 1006 (X) = some (X + 195) := gR_of (k_0 h) (h.R 1006 0 195 (by decide))
theorem r_0_1007 {M : Mm} {X : Nat} (h : St M X) : gR M 11 1007 (X) = some (X + 212) := gR_of (k_0 h) (h.R 1007 0 212 (by decide))
theorem r_0_1008 {M : Mm} {X : Nat} (h : St M X) : gR M 11 1008 (X) = some (X + 214) := gR_of (k_0 h) (h.R 1008 0 214 (by decide))
theorem r_0_1009 {M : Mm} {X : Nat} (h : St M X) : gR M 11 1009 (X) = some (X + 222) := gR_of (k_0 h) (h.R 1009 0 222 (by decide))
theorem r_1_600 {M : Mm} {X : Nat} (h : St M X) : gR M 7 600 (X + 1) = some (X + 2) := gR_of (k_1 h) (h.R 600 1 2 (by decide))
theorem r_1_601 {M : Mm} {X : Nat} (h : St M X) : gR M 7 601 (X + 1) = some (X + 3) := gR_of (k_1 h) (h.R 601 1 3 (by decide))
theorem r_1_602 {M : Mm} {X : Nat} (h : St M X) : gR M 7 602 (X + 1) = some (X + 4) := gR_of (k_1 h) (h.R 602 1 4 (by decide))
theorem r_1_603 {M : Mm} {X : Nat} (h : St M X) : gR M 7 603 (X + 1) = some (X + 5) := gR_of (k_1 h) (h.R 603 1 5 (by decide))
theorem r_6_300 {M : Mm} {X : Nat} (h : St M X) : gR M 4 300 (X + 6) = some (X + 7) := gR_of (k_6 h) (h.R 300 6 7 (by decide))
theorem r_212_500 {M : Mm} {X : Nat} (h : St M X) : gR M 6 500 (X + 212) = some (X + 213) := gR_of (k_212 h) (h.R 500 212 213 (by decide))
theorem r_214_0 {M : Mm} {X : Nat} (h : St M X) : gR M 1 0 (X + 214) = some (X + 215) := gR_of (k_214 h) (h.R 0 214 215 (by decide))
theorem r_214_1 {M : Mm} {X : Nat} (h : St M X) : gR M 1 1 (X + 214) = some (X + 217) := gR_of (k_214 h) (h.R 1 214 217 (by decide))
theorem r_214_2 {M : Mm} {X : Nat} (h : St M X) : gR M 1 2 (X + 214) = some (X + 218) := gR_of (k_214 h) (h.R 2 214 218 (by decide))
theorem r_214_3 {M : Mm} {X : Nat} (h : St M X) : gR M 1 3 (X + 214) = some (X + 219) := gR_of (k_214 h) (h.R 3 214 219 (by decide))
theorem r_214_4 {M : Mm} {X : Nat} (h : St M X) : gR M 1 4 (X + 214) = some (X + 220) := gR_of (k_214 h) (h.R 4 214 220 (by decide))
theorem r_215_300 {M : Mm} {X : Nat} (h : St M X) : gR M 4 300 (X + 215) = some (X + 216) := gR_of (k_215 h) (h.R 300 215 216 (by decide))
theorem r_222_200 {M : Mm} {X : Nat} (h : St M X) : gR M 3 200 (X + 222) = some (X + 223) := gR_of (k_222 h) (h.R 200 222 223 (by decide))
theorem r_222_201 {M : Mm} {X : Nat} (h : St M X) : gR M 3 201 (X + 222) = some (X + 225) := gR_of (k_222 h) (h.R 201 222 225 (by decide))
theorem r_223_300 {M : Mm} {X : Nat} (h : St M X) : gR M 4 300 (X + 223) = some (X + 224) := gR_of (k_223 h) (h.R 300 223 224 (by decide))
theorem r_226_1102 {M : Mm} {X : Nat} (h : St M X) : gR M 12 1102 (X + 226) = some (X + 227) := gR_of (k_226 h) (h.R 1102 226 227 (by decide))
theorem r_226_1103 {M : Mm} {X : Nat} (h : St M X) : gR M 12 1103 (X + 226) = some (X + 228) := gR_of (k_226 h) (h.R 1103 226 228 (by decide))
theorem r_226_1104 {M : Mm} {X : Nat} (h : St M X) : gR M 12 1104 (X + 226) = some (X + 229) := gR_of (k_226 h) (h.R 1104 226 229 (by decide))
theorem r_226_1105 {M : Mm} {X : Nat} (h : St M X) : gR M 12 1105 (X + 226) = some (X + 230) := gR_of (k_226 h) (h.R 1105 226 230 (by decide))
theorem r_226_1108 {M : Mm} {X : Nat} (h : St M X) : gR M 12 1108 (X + 226) = some (X + 231) := gR_of (k_226 h) (h.R 1108 226 231 (by decide))
theorem r_226_1109 {M : Mm} {X : Nat} (h : St M X) : gR M 12 1109 (X + 226) = some (X + 232) := gR_of (k_226 h) (h.R 1109 226 232 (by decide))
theorem r_226_1110 {M : Mm} {X : Nat} (h : St M X) : gR M 12 1110 (X + 226) = some (X + 233) := gR_of (k_226 h) (h.R 1110 226 233 (by decide))
theorem r_226_1111 {M : Mm} {X : Nat} (h : St M X) : gR M 12 1111 (X + 226) = some (X + 234) := gR_of (k_226 h) (h.R 1111 226 234 (by decide))
theorem r_226_1112 {M : Mm} {X : Nat} (h : St M X) : gR M 12 1112 (X + 226) = some (X + 235) := gR_of (k_226 h) (h.R 1112 226 235 (by decide))
theorem r_226_1113 {M : Mm} {X : Nat} (h : St M X) : gR M 12 1113 (X + 226) = some (X + 236) := gR_of (k_226 h) (h.R 1113 226 236 (by decide))
theorem r_226_1114 {M : Mm} {X : Nat} (h : St M X) : gR M 12 1114 (X + 226) = some (X + 237) := gR_of (k_226 h) (h.R 1114 226 237 (by decide))
theorem r_226_1115 {M : Mm} {X : Nat} (h : St M X) : gR M 12 1115 (X + 226) = some (X + 238) := gR_of (k_226 h) (h.R 1115 226 238 (by decide))
theorem r_226_1117 {M : Mm} {X : Nat} (h : St M X) : gR M 12 1117 (X + 226) = some (X + 239) := gR_of (k_226 h) (h.R 1117 226 239 (by decide))
theorem r_226_1118 {M : Mm} {X : Nat} (h : St M X) : gR M 12 1118 (X + 226) = some (X + 240) := gR_of (k_226 h) (h.R 1118 226 240 (by decide))
theorem r_226_1119 {M : Mm} {X : Nat} (h : St M X) : gR M 12 1119 (X + 226) = some (X + 241) := gR_of (k_226 h) (h.R 1119 226 241 (by decide))
theorem r_226_1120 {M : Mm} {X : Nat} (h : St M X) : gR M 12 1120 (X + 226) = some (X + 242) := gR_of (k_226 h) (h.R 1120 226 242 (by decide))
theorem r_226_1121 {M : Mm} {X : Nat} (h : St M X) : gR M 12 1121 (X + 226) = some (X + 243) := gR_of (k_226 h) (h.R 1121 226 243 (by decide))
theorem r_226_1122 {M : Mm} {X : Nat} (h : St M X) : gR M 12 1122 (X + 226) = some (X + 244) := gR_of (k_226 h) (h.R 1122 226 244 (by decide))
theorem r_226_1123 {M : Mm} {X : Nat} (h : St M X) : gR M 12 1123 (X + 226) = some (X + 245) := gR_of (k_226 h) (h.R 1123 226 245 (by decide))
theorem r_226_1124 {M : Mm} {X : Nat} (h : St M X) : gR M 12 1124 (X + 226) = some (X + 246) := gR_of (k_226 h) (h.R 1124 226 246 (by decide))
theorem r_226_1125 {M : Mm} {X : Nat} (h : St M X) : gR M 12 1125 (X + 226) = some (X + 247) := gR_of (k_226 h) (h.R 1125 226 247 (by decide))
theorem r_226_1126 {M : Mm} {X : Nat} (h : St M X) : gR M 12 1126 (X + 226) = some (X + 248) := gR_of (k_226 h) (h.R 1126 226 248 (by decide))
theorem r_226_1127 {M : Mm} {X : Nat} (h : St M X) : gR M 12 1127 (X + 226) = some (X + 249) := gR_of (k_226 h) (h.R 1127 226 249 (by decide))
theorem r_226_1128 {M : Mm} {X : Nat} (h : St M X) : gR M 12 1128 (X + 226) = some (X + 250) := gR_of (k_226 h) (h.R 1128 226 250 (by decide))
theorem r_226_1129 {M : Mm} {X : Nat} (h : St M X) : gR M 12 1129 (X + 226) = some (X + 251) := gR_of (k_226 h) (h.R 1129 226 251 (by decide))
theorem r_226_1130 {M : Mm} {X : Nat} (h : St M X) : gR M 12 1130 (X + 226) = some (X + 252) := gR_of (k_226 h) (h.R 1130 226 252 (by decide))
theorem r_226_1131 {M : Mm} {X : Nat} (h : St M X) : gR M 12 1131 (X + 226) = some (X + 253) := gR_of (k_226 h) (h.R 1131 226 253 (by decide))
theorem r_226_1132 {M : Mm} {X : Nat} (h : St M X) : gR M 12 1132 (X + 226) = some (X + 254) := gR_of (k_226 h) (h.R 1132 226 254 (by decide))
theorem r_226_1133 {M : Mm} {X : Nat} (h : St M X) : gR M 12 1133 (X + 226) = some (X + 255) := gR_of (k_226 h) (h.R 1133 226 255 (by decide))
theorem r_226_1134 {M : Mm} {X : Nat} (h : St M X) : gR M 12 1134 (X + 226) = some (X + 256) := gR_of (k_226 h) (h.R 1134 226 256 (by decide))
theorem r_226_1139 {M : Mm} {X : Nat} (h : St M X) : gR M 12 1139 (X + 226) = some (X + 257) := gR_of (k_226 h) (h.R 1139 226 257 (by decide))
theorem r_226_1140 {M : Mm} {X : Nat} (h : St M X) : gR M 12 1140 (X + 226) = some (X + 258) := gR_of (k_226 h) (h.R 1140 226 258 (by decide))
theorem r_226_1141 {M : Mm} {X : Nat} (h : St M X) : gR M 12 1141 (X + 226) = some (X + 259) := gR_of (k_226 h) (h.R 1141 226 259 (by decide))
theorem r_226_1146 {M : Mm} {X : Nat} (h : St M X) : gR M 12 1146 (X + 226) = some (X + 260) := gR_of (k_226 h) (h.R 1146 226 260 (by decide))
theorem r_226_1147 {M : Mm} {X : Nat} (h : St M X) : gR M 12 1147 (X + 226) = some (X + 261) := gR_of (k_226 h) (h.R 1147 226 261 (by decide))
theorem r_226_1148 {M : Mm} {X : Nat} (h : St M X) : gR M 12 1148 (X + 226) = some (X + 262) := gR_of (k_226 h) (h.R 1148 226 262 (by decide))
theorem r_226_1149 {M : Mm} {X : Nat} (h : St M X) : gR M 12 1149 (X + 226) = some (X + 263) := gR_of (k_226 h) (h.R 1149 226 263 (by decide))
theorem r_226_1152 {M : Mm} {X : Nat} (h : St M X) : gR M 12 1152 (X + 226) = some (X + 264) := gR_of (k_226 h) (h.R 1152 226 264 (by decide))
theorem r_226_1153 {M : Mm} {X : Nat} (h : St M X) : gR M 12 1153 (X + 226) = some (X + 265) := gR_of (k_226 h) (h.R 1153 226 265 (by decide))
theorem r_226_1154 {M : Mm} {X : Nat} (h : St M X) : gR M 12 1154 (X + 226) = some (X + 266) := gR_of (k_226 h) (h.R 1154 226 266 (by decide))
theorem r_226_1155 {M : Mm} {X : Nat} (h : St M X) : gR M 12 1155 (X + 226) = some (X + 267) := gR_of (k_226 h) (h.R 1155 226 267 (by decide))
theorem r_226_1156 {M : Mm} {X : Nat} (h : St M X) : gR M 12 1156 (X + 226) = some (X + 268) := gR_of (k_226 h) (h.R 1156 226 268 (by decide))
theorem r_226_1157 {M : Mm} {X : Nat} (h : St M X) : gR M 12 1157 (X + 226) = some (X + 269) := gR_of (k_226 h) (h.R 1157 226 269 (by decide))
theorem kk_aSq : ∀ i, i < 8 → kT (10 + 23 * i) = 10 := by decide
theorem k_aSq {M : Mm} {X : Nat} (h : St M X) {i : Nat} (hi : i < 8) : mK M (aSq X i) = 10 := h.K _ _ (by omega) (kk_aSq i hi)
theorem kk_aSt : ∀ i, i < 8 → kT (11 + 23 * i) = 20 := by decide
theorem k_aSt {M : Mm} {X : Nat} (h : St M X) {i : Nat} (hi : i < 8) : mK M (aSt X i) = 20 := h.K _ _ (by omega) (kk_aSt i hi)
theorem nn_aSt : ∀ i, i < 8 → nT (11 + 23 * i) = 8 := by decide
theorem n_aSt {M : Mm} {X : Nat} (h : St M X) {i : Nat} (hi : i < 8) : mN M (aSt X i) = 8 := h.N _ _ (by omega) (by rw [kk_aSt i hi]; decide) (nn_aSt i hi)
theorem kk_aRg : ∀ i, i < 8 → kT (12 + 23 * i) = 24 := by decide
theorem k_aRg {M : Mm} {X : Nat} (h : St M X) {i : Nat} (hi : i < 8) : mK M (aRg X i) = 24 := h.K _ _ (by omega) (kk_aRg i hi)
theorem nn_aRg : ∀ i, i < 8 → nT (12 + 23 * i) = 8 := by decide
theorem n_aRg {M : Mm} {X : Nat} (h : St M X) {i : Nat} (hi : i < 8) : mN M (aRg X i) = 8 := h.N _ _ (by omega) (by rw [kk_aRg i hi]; decide) (nn_aRg i hi)
theorem kk_aHd : ∀ i, i < 8 → ∀ j, j < 8 → kT (13 + 23 * i + 2 * j) = 4 := by decide
theorem k_aHd {M : Mm} {X : Nat} (h : St M X) {i j : Nat} (hi : i < 8) (hj : j < 8) : mK M (aHd X i j) = 4 := h.K _ _ (by omega) (kk_aHd i hi j hj)
theorem kk_aHv : ∀ i, i < 8 → ∀ j, j < 8 → kT (14 + 23 * i + 2 * j) = 21 := by decide
theorem k_aHv {M : Mm} {X : Nat} (h : St M X) {i j : Nat} (hi : i < 8) (hj : j < 8) : mK M (aHv X i j) = 21 := h.K _ _ (by omega) (kk_aHv i hi j hj)
theorem nn_aHv : ∀ i, i < 8 → ∀ j, j < 8 → nT (14 + 23 * i + 2 * j) = 8 := by decide
theorem n_aHv {M : Mm} {X : Nat} (h : St M X) {i j : Nat} (hi : i < 8) (hj : j < 8) : mN M (aHv X i j) = 8 := h.N _ _ (by omega) (by rw [kk_aHv i hi j hj]; decide) (nn_aHv i hi j hj)
theorem kk_aCx : ∀ i, i < 8 → kT (29 + 23 * i) = 2 := by decide
theorem k_aCx {M : Mm} {X : Nat} (h : St M X) {i : Nat} (hi : i < 8) : mK M (aCx X i) = 2 := h.K _ _ (by omega) (kk_aCx i hi)
theorem kk_aCh : ∀ i, i < 8 → kT (30 + 23 * i) = 4 := by decide
theorem k_aCh {M : Mm} {X : Nat} (h : St M X) {i : Nat} (hi : i < 8) : mK M (aCh X i) = 4 := h.K _ _ (by omega) (kk_aCh i hi)
theorem kk_aCv : ∀ i, i < 8 → kT (31 + 23 * i) = 21 := by decide
theorem k_aCv {M : Mm} {X : Nat} (h : St M X) {i : Nat} (hi : i < 8) : mK M (aCv X i) = 21 := h.K _ _ (by omega) (kk_aCv i hi)
theorem nn_aCv : ∀ i, i < 8 → nT (31 + 23 * i) = 8 := by decide
theorem n_aCv {M : Mm} {X : Nat} (h : St M X) {i : Nat} (hi : i < 8) : mN M (aCv X i) = 8 := h.N _ _ (by omega) (by rw [kk_aCv i hi]; decide) (nn_aCv i hi)
theorem kk_aCs : ∀ i, i < 8 → kT (32 + 23 * i) = 20 := by decide
theorem k_aCs {M : Mm} {X : Nat} (h : St M X) {i : Nat} (hi : i < 8) : mK M (aCs X i) = 20 := h.K _ _ (by omega) (kk_aCs i hi)
theorem nn_aCs : ∀ i, i < 8 → nT (32 + 23 * i) = 8 := by decide
theorem n_aCs {M : Mm} {X : Nat} (h : St M X) {i : Nat} (hi : i < 8) : mN M (aCs X i) = 8 := h.N _ _ (by omega) (by rw [kk_aCs i hi]; decide) (nn_aCs i hi)
theorem kk_aSh : ∀ i, i < 8 → kT (196 + 2 * i) = 9 := by decide
theorem k_aSh {M : Mm} {X : Nat} (h : St M X) {i : Nat} (hi : i < 8) : mK M (aSh X i) = 9 := h.K _ _ (by omega) (kk_aSh i hi)
theorem kk_aSr : ∀ i, i < 8 → kT (197 + 2 * i) = 21 := by decide
theorem k_aSr {M : Mm} {X : Nat} (h : St M X) {i : Nat} (hi : i < 8) : mK M (aSr X i) = 21 := h.K _ _ (by omega) (kk_aSr i hi)
theorem nn_aSr : ∀ i, i < 8 → nT (197 + 2 * i) = 60 := by decide
theorem n_aSr {M : Mm} {X : Nat} (h : St M X) {i : Nat} (hi : i < 8) : mN M (aSr X i) = 60 := h.N _ _ (by omega) (by rw [kk_aSr i hi]; decide) (nn_aSr i hi)
theorem rr_aSq_900 : ∀ i, i < 8 → (900, 10 + 23 * i, 11 + 23 * i) ∈ rT := by decide +kernel
theorem r_aSq_900 {M : Mm} {X : Nat} (h : St M X) {i : Nat} (hi : i < 8) : gR M 10 900 (aSq X i) = some (aSt X i) := gR_of (k_aSq h hi) (h.R _ _ _ (rr_aSq_900 i hi))
theorem rr_aSq_905 : ∀ i, i < 8 → (905, 10 + 23 * i, 12 + 23 * i) ∈ rT := by decide +kernel
theorem r_aSq_905 {M : Mm} {X : Nat} (h : St M X) {i : Nat} (hi : i < 8) : gR M 10 905 (aSq X i) = some (aRg X i) := gR_of (k_aSq h hi) (h.R _ _ _ (rr_aSq_905 i hi))
theorem rr_aHd_300 : ∀ i, i < 8 → ∀ j, j < 8 → (300, 13 + 23 * i + 2 * j, 14 + 23 * i + 2 * j) ∈ rT := by decide +kernel
theorem r_aHd_300 {M : Mm} {X : Nat} (h : St M X) {i j : Nat} (hi : i < 8) (hj : j < 8) : gR M 4 300 (aHd X i j) = some (aHv X i j) := gR_of (k_aHd h hi hj) (h.R _ _ _ (rr_aHd_300 i hi j hj))
theorem rr_aCx_100 : ∀ i, i < 8 → (100, 29 + 23 * i, 30 + 23 * i) ∈ rT := by decide +kernel
theorem r_aCx_100 {M : Mm} {X : Nat} (h : St M X) {i : Nat} (hi : i < 8) : gR M 2 100 (aCx X i) = some (aCh X i) := gR_of (k_aCx h hi) (h.R _ _ _ (rr_aCx_100 i hi))
theorem rr_aCx_101 : ∀ i, i < 8 → (101, 29 + 23 * i, 32 + 23 * i) ∈ rT := by decide +kernel
theorem r_aCx_101 {M : Mm} {X : Nat} (h : St M X) {i : Nat} (hi : i < 8) : gR M 2 101 (aCx X i) = some (aCs X i) := gR_of (k_aCx h hi) (h.R _ _ _ (rr_aCx_101 i hi))
theorem rr_aCh_300 : ∀ i, i < 8 → (300, 30 + 23 * i, 31 + 23 * i) ∈ rT := by decide +kernel
theorem r_aCh_300 {M : Mm} {X : Nat} (h : St M X) {i : Nat} (hi : i < 8) : gR M 4 300 (aCh X i) = some (aCv X i) := gR_of (k_aCh h hi) (h.R _ _ _ (rr_aCh_300 i hi))
theorem rr_aSh_800 : ∀ i, i < 8 → (800, 196 + 2 * i, 197 + 2 * i) ∈ rT := by decide +kernel
theorem r_aSh_800 {M : Mm} {X : Nat} (h : St M X) {i : Nat} (hi : i < 8) : gR M 9 800 (aSh X i) = some (aSr X i) := gR_of (k_aSh h hi) (h.R _ _ _ (rr_aSh_800 i hi))
theorem qq_sq : ∀ i, i < 8 → (8, i, 10 + 23 * i) ∈ qT := by decide +kernel
theorem q_sq {M : Mm} {X : Nat} (h : St M X) {i : Nat} (hi : i < 8) : aR M 27 (X + 8) (nI i) = some (aSq X i) := aR_of (k_8 h) (n_8 h) hi (by decide) (h.Q _ _ _ (qq_sq i hi))
theorem qq_cx : ∀ i, i < 8 → (9, i, 29 + 23 * i) ∈ qT := by decide +kernel
theorem q_cx {M : Mm} {X : Nat} (h : St M X) {i : Nat} (hi : i < 8) : aR M 23 (X + 9) (nI i) = some (aCx X i) := aR_of (k_9 h) (n_9 h) hi (by decide) (h.Q _ _ _ (qq_cx i hi))
theorem qq_sh : ∀ i, i < 8 → (195, i, 196 + 2 * i) ∈ qT := by decide +kernel
theorem q_sh {M : Mm} {X : Nat} (h : St M X) {i : Nat} (hi : i < 8) : aR M 26 (X + 195) (nI i) = some (aSh X i) := aR_of (k_195 h) (n_195 h) hi (by decide) (h.Q _ _ _ (qq_sh i hi))
theorem qq_rg : ∀ i, i < 8 → ∀ j, j < 8 → (12 + 23 * i, j, 13 + 23 * i + 2 * j) ∈ qT := by decide +kernel
theorem q_rg {M : Mm} {X : Nat} (h : St M X) {i j : Nat} (hi : i < 8) (hj : j < 8) : aR M 24 (aRg X i) (nI j) = some (aHd X i j) := aR_of (k_aRg h hi) (n_aRg h hi) hj (by decide) (h.Q _ _ _ (qq_rg i hi j hj))
