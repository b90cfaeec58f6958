/-! The invariant: what ties the class's memory to the reference's. X: the HeaderLine; p fields, n letters, window w; letter l lies in [z l, z (l+1)). -/
def lA (z : Nat → Nat) (l : Nat) : Nat := z (l + 1) - 1
def lB (z : Nat → Nat) (l : Nat) : Nat := z (l + 1) - 2
def lP (z : Nat → Nat) (l : Nat) : Nat := z (l + 1) - 5
def lU (z : Nat → Nat) (l : Nat) : Nat := z (l + 1) - 4
def lV (z : Nat → Nat) (l : Nat) : Nat := z (l + 1) - 3
def IW (M : Mm) (X w : Nat) : Prop := mI M 1000 X = nI w ∧ mI M 1107 (X + 226) = nI w ∧ 1 ≤ w ∧ w ≤ 8
def IF (M : Mm) (X f : Nat) : Prop := mA M (X + 227) f = mA M (X + 2) f ∧ mA M (X + 228) f = mA M (X + 3) f ∧ (∃ k, k ≤ 4 ∧ mA M (X + 2) f = nI k) ∧ (∃ wd, 1 ≤ wd ∧ wd ≤ 32 ∧ mA M (X + 3) f = nI wd) ∧ mB M (X + 230) f = (mA M (X + 5) f).toInt64 ∧ (mA M (X + 2) f = 1 → mA M (X + 229) f = mA M (X + 4) f ∧ ∃ t, t < f ∧ mA M (X + 4) f = nI t)
def IP (M : Mm) (X p : Nat) : Prop := p ≤ 8 ∧ mI M 604 (X + 1) = nI p ∧ mI M 1101 (X + 226) = nI p ∧ ∀ f, f < p → IF M X f
def ID (M : Mm) (X p : Nat) : Prop := (∀ f, f < p → mB M (X + 231) f = mB M (X + 7) f ∧ ∃ wd u, mA M (X + 3) f = nI wd ∧ 1 ≤ wd ∧ wd ≤ 32 ∧ u < 2 ^ wd ∧ mB M (X + 7) f = lN u) ∧ ∀ f, p ≤ f → f < 8 → mB M (X + 7) f = 0
def IC (M : Mm) (X n : Nat) : Prop := n ≤ 200 ∧ mI M 1010 X = nI n ∧ mI M 1116 (X + 226) = nI n ∧ mI M 1106 (X + 226) = (if n = 0 then 0 else 1)
def IR (M : Mm) (X p k i j d : Nat) : Prop := (∃ u, u < k ∧ mA M (X + 237) (9 * i + j) = nI u ∧ mI M 301 (aHd X i d) = nI u) ∧ ∀ f, f < p → mB M (X + 238) (8 * (9 * i + j) + f) = mB M (aHv X i d) f
def IQ' (M : Mm) (X p w n i k r h f0 : Nat) : Prop := k ≤ n ∧ mI M 901 (aSq X i) = nI k ∧ mA M (X + 232) i = nI k ∧ r < 16 ∧ mI M 902 (aSq X i) = nI r ∧ mA M (X + 233) i = nI r ∧ mI M 903 (aSq X i) = mA M (X + 235) i ∧ (mA M (X + 235) i = 0 ∨ mA M (X + 235) i = 1) ∧ h ≤ w ∧ mI M 904 (aSq X i) = nI h ∧ mA M (X + 236) i = nI h ∧ f0 < 8 ∧ mI M 906 (aSq X i) = nI f0 ∧ (∀ f, f < 8 → mA M (X + 234) (8 * i + f) = mA M (aSt X i) f) ∧ ∀ j, j < h → IR M X p k i j ((f0 + j) % 8)
def IQ (M : Mm) (X p w n i : Nat) : Prop := ∃ k r h f0 : Nat, IQ' M X p w n i k r h f0
def IX (M : Mm) (X p n i : Nat) : Prop := mI M 103 (aCx X i) = mA M (X + 252) i ∧ (mA M (X + 252) i = 0 ∨ (mA M (X + 252) i = 1 ∧ 0 < n ∧ (∃ u, u < 65536 ∧ mI M 301 (aCh X i) = nI u ∧ mA M (X + 253) i = nI u) ∧ (∃ r, r < 16 ∧ mI M 102 (aCx X i) = nI r ∧ mA M (X + 254) i = nI r) ∧ ∀ f, f < p → mA M (X + 255) (8 * i + f) = mA M (aCs X i) f ∧ mB M (X + 256) (8 * i + f) = mB M (aCv X i) f))
def IZ (M : Mm) (X n : Nat) (z : Nat → Nat) : Prop := z 0 = X + 270 ∧ (∀ l, l < n → z l + 2 ≤ z (l + 1)) ∧ z n ≤ mS M
def ILp (M : Mm) (X p : Nat) (z : Nat → Nat) (l : Nat) : Prop := mR M 408 (lA z l) = some (lP z l) ∧ z l + 5 ≤ z (l + 1) ∧ mK M (lP z l) = 8 ∧ mR M 700 (lP z l) = some (lU z l) ∧ mR M 701 (lP z l) = some (lV z l) ∧ mK M (lU z l) = 20 ∧ mN M (lU z l) = 8 ∧ mK M (lV z l) = 20 ∧ mN M (lV z l) = 8 ∧ mA M (X + 250) l = mI M 702 (lP z l) ∧ mA M (X + 251) l = mI M 703 (lP z l) ∧ ∀ f, f < p → (mA M (X + 2) f = 2 ∨ mA M (X + 2) f = 3) → mA M (X + 248) (8 * l + f) = mA M (lU z l) f ∧ mA M (X + 249) (8 * l + f) = mA M (lV z l) f
def ILb (M : Mm) (X : Nat) (z : Nat → Nat) (l : Nat) : Prop := ∃ len, 3 ≤ len ∧ len ≤ 60 ∧ mN M (lB z l) = len ∧ mA M (X + 239) l = nI len ∧ ∀ k, k < len → ∃ b, b < 256 ∧ mA M (lB z l) k = nI b ∧ mA M (X + 240) (64 * l + k) = nI b
def IL (M : Mm) (X p : Nat) (z : Nat → Nat) (l : Nat) : Prop := mQ M (X + 194) l = some (lA z l) ∧ mK M (lA z l) = 5 ∧ mR M 403 (lA z l) = some (lB z l) ∧ mK M (lB z l) = 20 ∧ (∃ k, k ≤ 5 ∧ mI M 400 (lA z l) = nI k ∧ mA M (X + 241) l = nI k) ∧ (∃ i, i < 8 ∧ mI M 401 (lA z l) = nI i ∧ mA M (X + 242) l = nI i) ∧ mA M (X + 243) l = mI M 402 (lA z l) ∧ (∃ nb, nb ≤ 480 ∧ mI M 404 (lA z l) = nI nb ∧ mA M (X + 244) l = nI nb) ∧ mA M (X + 245) l = mI M 405 (lA z l) ∧ mA M (X + 246) l = mI M 406 (lA z l) ∧ (mI M 406 (lA z l) = 0 ∨ mI M 406 (lA z l) = 1) ∧ mA M (X + 247) l = mI M 407 (lA z l) ∧ (mI M 407 (lA z l) = 0 ∨ mI M 407 (lA z l) = 1) ∧ ILb M X z l ∧ ((mI M 400 (lA z l) = 2 ∧ mI M 407 (lA z l) = 0 ∧ ILp M X p z l) ∨ (¬ (mI M 400 (lA z l) = 2 ∧ mI M 407 (lA z l) = 0) ∧ mR M 408 (lA z l) = none))
def IG (M : Mm) (X p n : Nat) : Prop := mI M 204 (X + 222) = mI M 1135 (X + 226) ∧ (mI M 204 (X + 222) = 0 ∨ (0 < n ∧ mI M 202 (X + 222) = mI M 1136 (X + 226) ∧ mI M 301 (X + 223) = mI M 1137 (X + 226) ∧ mI M 203 (X + 222) = mI M 1138 (X + 226) ∧ ∀ f, f < p → mB M (X + 257) f = mB M (X + 224) f ∧ mA M (X + 258) f = mA M (X + 225) f))
def IH (M : Mm) (X s : Nat) : Prop := mI M 801 (aSh X s) = mA M (X + 265) s ∧ ∃ hk, hk ≤ 4 ∧ mA M (X + 265) s = nI hk ∧ (hk = 1 → (∃ k, k ≤ 5 ∧ mI M 803 (aSh X s) = nI k ∧ mA M (X + 267) s = nI k) ∧ mI M 804 (aSh X s) = mA M (X + 266) s) ∧ (2 ≤ hk → ∃ sz, sz ≤ 60 ∧ mI M 802 (aSh X s) = nI sz ∧ mA M (X + 266) s = nI sz ∧ ∀ k, k < sz → mB M (X + 268) (64 * s + k) = mB M (aSr X s) k)
def lc (g : Nat → Int32) : Nat → Nat
  | 0 => 0
  | n + 1 => lc g n + (if g n = 0 then 0 else 1)
def IT (M : Mm) (X n : Nat) : Prop := mI M 1011 X = nI (lc (mA M (X + 246)) n)
def Inv (M : Mm) (X p n w : Nat) (z : Nat → Nat) : Prop := St M X ∧ IW M X w ∧ IP M X p ∧ ID M X p ∧ IC M X n ∧ (∀ i, i < 8 → IQ M X p w n i) ∧ (∀ i, i < 8 → IX M X p n i) ∧ IZ M X n z ∧ (∀ l, l < n → IL M X p z l) ∧ IG M X p n ∧ (∀ s, s < 8 → IH M X s) ∧ IT M X n
/-! What each part hangs on. -/
theorem IW_ag {M M1 : Mm} {X w : Nat} (h : IW M X w) (e1 : mI M1 1000 X = mI M 1000 X) (e2 : mI M1 1107 (X + 226) = mI M 1107 (X + 226)) : IW M1 X w := by
  unfold IW; rw [e1, e2]; exact h
theorem IP_ag {M M1 : Mm} {X p : Nat} (h : IP M X p) (e1 : mI M1 604 (X + 1) = mI M 604 (X + 1)) (e2 : mI M1 1101 (X + 226) = mI M 1101 (X + 226)) (a1 : ∀ o, (o = 2 ∨ o = 3 ∨ o = 4 ∨ o = 5 ∨ o = 227 ∨ o = 228 ∨ o = 229) → mA M1 (X + o) = mA M (X + o)) (b1 : mB M1 (X + 230) = mB M (X + 230)) : IP M1 X p := by
  unfold IP IF; rw [e1, e2, a1 2 (by omega), a1 3 (by omega), a1 4 (by omega), a1 5 (by omega), a1 227 (by omega), a1 228 (by omega), a1 229 (by omega), b1]; exact h
theorem ID_ag {M M1 : Mm} {X p : Nat} (h : ID M X p) (a1 : mA M1 (X + 3) = mA M (X + 3)) (b1 : mB M1 (X + 7) = mB M (X + 7)) (b2 : mB M1 (X + 231) = mB M (X + 231)) : ID M1 X p := by
  unfold ID; rw [a1, b1, b2]; exact h
theorem IC_ag {M M1 : Mm} {X n : Nat} (h : IC M X n) (e1 : mI M1 1010 X = mI M 1010 X) (e2 : mI M1 1116 (X + 226) = mI M 1116 (X + 226)) (e3 : mI M1 1106 (X + 226) = mI M 1106 (X + 226)) : IC M1 X n := by
  unfold IC; rw [e1, e2, e3]; exact h
theorem IQ'_ag {M M1 : Mm} {X p w n i k r h f0 : Nat} (hp : p ≤ 8) (hw : w ≤ 8) (H : IQ' M X p w n i k r h f0) (e : ∀ num, (num = 901 ∨ num = 902 ∨ num = 903 ∨ num = 904 ∨ num = 906) → mI M1 num (aSq X i) = mI M num (aSq X i)) (a : ∀ o, (o = 232 ∨ o = 233 ∨ o = 235 ∨ o = 236) → mA M1 (X + o) i = mA M (X + o) i) (a2 : ∀ f, f < 8 → mA M1 (X + 234) (8 * i + f) = mA M (X + 234) (8 * i + f)) (a3 : ∀ j, j < 8 → mA M1 (X + 237) (9 * i + j) = mA M (X + 237) (9 * i + j)) (a4 : mA M1 (aSt X i) = mA M (aSt X i))
    (e2 : ∀ d, d < 8 → mI M1 301 (aHd X i d) = mI M 301 (aHd X i d)) (b1 : ∀ d, d < 8 → mB M1 (aHv X i d) = mB M (aHv X i d)) (b2 : ∀ j f, j < 8 → f < 8 → mB M1 (X + 238) (8 * (9 * i + j) + f) = mB M (X + 238) (8 * (9 * i + j) + f)) : IQ' M1 X p w n i k r h f0 := by
  obtain ⟨h1, h2, h3, h4, h5, h6, h7, h8, h9, h10, h11, h12, h13, h14, h15⟩ := H
  refine ⟨h1, by rw [e 901 (by omega)]; exact h2, by rw [a 232 (by omega)]; exact h3, h4, by rw [e 902 (by omega)]; exact h5, by rw [a 233 (by omega)]; exact h6, by rw [e 903 (by omega), a 235 (by omega)]; exact h7, by rw [a 235 (by omega)]; exact h8, h9, by rw [e 904 (by omega)]; exact h10, by rw [a 236 (by omega)]; exact h11, h12, by rw [e 906 (by omega)]; exact h13, fun f hf => by rw [a2 f hf, a4]; exact h14 f hf, fun j hj => ?_⟩
  obtain ⟨g1, g2⟩ := h15 j hj
  have hm : (f0 + j) % 8 < 8 := Nat.mod_lt _ (by decide)
  refine ⟨by rw [a3 j (by omega), e2 _ hm]; exact g1, fun f hf => by rw [b2 j f (by omega) (by omega), b1 _ hm]; exact g2 f hf⟩
theorem IQ_ag {M M1 : Mm} {X p w n i : Nat} (hp : p ≤ 8) (hw : w ≤ 8) (H : IQ M X p w n i) (e : ∀ num, (num = 901 ∨ num = 902 ∨ num = 903 ∨ num = 904 ∨ num = 906) → mI M1 num (aSq X i) = mI M num (aSq X i)) (a : ∀ o, (o = 232 ∨ o = 233 ∨ o = 235 ∨ o = 236) → mA M1 (X + o) i = mA M (X + o) i) (a2 : ∀ f, f < 8 → mA M1 (X + 234) (8 * i + f) = mA M (X + 234) (8 * i + f)) (a3 : ∀ j, j < 8 → mA M1 (X + 237) (9 * i + j) = mA M (X + 237) (9 * i + j)) (a4 : mA M1 (aSt X i) = mA M (aSt X i))
    (e2 : ∀ d, d < 8 → mI M1 301 (aHd X i d) = mI M 301 (aHd X i d)) (b1 : ∀ d, d < 8 → mB M1 (aHv X i d) = mB M (aHv X i d)) (b2 : ∀ j f, j < 8 → f < 8 → mB M1 (X + 238) (8 * (9 * i + j) + f) = mB M (X + 238) (8 * (9 * i + j) + f)) : IQ M1 X p w n i := by
  obtain ⟨k, r, h, f0, H⟩ := H
  exact ⟨k, r, h, f0, IQ'_ag hp hw H e a a2 a3 a4 e2 b1 b2⟩
theorem IX_ag {M M1 : Mm} {X p n i : Nat} (hp : p ≤ 8) (H : IX M X p n i) (e1 : mI M1 103 (aCx X i) = mI M 103 (aCx X i)) (e2 : mI M1 102 (aCx X i) = mI M 102 (aCx X i)) (e3 : mI M1 301 (aCh X i) = mI M 301 (aCh X i)) (a : ∀ o, (o = 252 ∨ o = 253 ∨ o = 254) → mA M1 (X + o) i = mA M (X + o) i) (a2 : ∀ f, f < 8 → mA M1 (X + 255) (8 * i + f) = mA M (X + 255) (8 * i + f)) (a3 : mA M1 (aCs X i) = mA M (aCs X i)) (b1 : ∀ f, f < 8 → mB M1 (X + 256) (8 * i + f) = mB M (X + 256) (8 * i + f)) (b2 : mB M1 (aCv X i) = mB M (aCv X i)) : IX M1 X p n i := by
  obtain ⟨h1, h2⟩ := H
  unfold IX
  rw [e1, e2, e3, a 252 (by omega), a 253 (by omega), a 254 (by omega), a3, b2]
  refine ⟨h1, h2.imp_right (fun ⟨g1, g2, g3, g4, g5⟩ => ⟨g1, g2, g3, g4, fun f hf => ?_⟩)⟩
  rw [a2 f (by omega), b1 f (by omega)]
  exact g5 f hf
theorem IG_ag {M M1 : Mm} {X p n : Nat} (H : IG M X p n) (e1 : ∀ num, (num = 204 ∨ num = 202 ∨ num = 203) → mI M1 num (X + 222) = mI M num (X + 222)) (e2 : mI M1 301 (X + 223) = mI M 301 (X + 223)) (e3 : ∀ num, (num = 1135 ∨ num = 1136 ∨ num = 1137 ∨ num = 1138) → mI M1 num (X + 226) = mI M num (X + 226)) (b1 : mB M1 (X + 257) = mB M (X + 257)) (b2 : mB M1 (X + 224) = mB M (X + 224)) (a1 : mA M1 (X + 258) = mA M (X + 258)) (a2 : mA M1 (X + 225) = mA M (X + 225)) : IG M1 X p n := by
  unfold IG
  rw [e1 204 (by omega), e1 202 (by omega), e1 203 (by omega), e2, e3 1135 (by omega), e3 1136 (by omega), e3 1137 (by omega), e3 1138 (by omega), b1, b2, a1, a2]
  exact H
theorem IH_ag {M M1 : Mm} {X s : Nat} (H : IH M X s) (e : ∀ num, (num = 801 ∨ num = 802 ∨ num = 803 ∨ num = 804) → mI M1 num (aSh X s) = mI M num (aSh X s)) (a : ∀ o, (o = 265 ∨ o = 266 ∨ o = 267) → mA M1 (X + o) s = mA M (X + o) s) (b1 : ∀ k, k < 60 → mB M1 (X + 268) (64 * s + k) = mB M (X + 268) (64 * s + k)) (b2 : mB M1 (aSr X s) = mB M (aSr X s)) : IH M1 X s := by
  obtain ⟨h1, hk, h2, h3, h4, h5⟩ := H
  unfold IH
  rw [e 801 (by omega), e 802 (by omega), e 803 (by omega), e 804 (by omega), a 265 (by omega), a 266 (by omega), a 267 (by omega), b2]
  refine ⟨h1, hk, h2, h3, h4, fun g => ?_⟩
  obtain ⟨sz, g1, g2, g3, g4⟩ := h5 g
  exact ⟨sz, g1, g2, g3, fun k hk => by rw [b1 k (by omega)]; exact g4 k hk⟩
theorem IZ_ag {M M1 : Mm} {X n : Nat} {z : Nat → Nat} (H : IZ M X n z) (e : mS M ≤ mS M1) : IZ M1 X n z := ⟨H.1, H.2.1, Nat.le_trans H.2.2 e⟩
theorem lc_congr {g g2 : Nat → Int32} : ∀ {n : Nat}, (∀ l, l < n → g2 l = g l) → lc g2 n = lc g n
  | 0, _ => rfl
  | n + 1, h => by
    show lc g2 n + _ = lc g n + _
    rw [lc_congr (fun l hl => h l (by omega)), h n (by omega)]
theorem IT_ag {M M1 : Mm} {X n : Nat} (H : IT M X n) (e1 : mI M1 1011 X = mI M 1011 X) (a1 : ∀ l, l < n → mA M1 (X + 246) l = mA M (X + 246) l) : IT M1 X n := by
  unfold IT
  rw [e1, lc_congr a1]
  exact H
theorem IL_ag {M M1 : Mm} {X p l : Nat} {z : Nat → Nat} (hp : p ≤ 8) (H : IL M X p z l) (q1 : mQ M1 (X + 194) l = mQ M (X + 194) l) (k1 : ∀ a, a < z (l + 1) → X + 270 ≤ a → mK M1 a = mK M a) (n1 : ∀ a, a < z (l + 1) → X + 270 ≤ a → mN M1 a = mN M a) (r1 : ∀ num a, a < z (l + 1) → X + 270 ≤ a → mR M1 num a = mR M num a) (z1 : X + 270 ≤ z l) (z2 : z l + 2 ≤ z (l + 1))
    (e1 : ∀ num, (num = 400 ∨ num = 401 ∨ num = 402 ∨ num = 404 ∨ num = 405 ∨ num = 406 ∨ num = 407) → mI M1 num (lA z l) = mI M num (lA z l)) (e2 : z l + 5 ≤ z (l + 1) → mI M1 702 (lP z l) = mI M 702 (lP z l) ∧ mI M1 703 (lP z l) = mI M 703 (lP z l)) (a1 : ∀ o, (o = 239 ∨ o = 241 ∨ o = 242 ∨ o = 243 ∨ o = 244 ∨ o = 245 ∨ o = 246 ∨ o = 247 ∨ o = 250 ∨ o = 251) → mA M1 (X + o) l = mA M (X + o) l) (a2 : ∀ k, k < 60 → mA M1 (X + 240) (64 * l + k) = mA M (X + 240) (64 * l + k)) (a3 : mA M1 (lB z l) = mA M (lB z l)) (a4 : z l + 5 ≤ z (l + 1) → mA M1 (lU z l) = mA M (lU z l) ∧ mA M1 (lV z l) = mA M (lV z l)) (a5 : ∀ f, f < 8 → mA M1 (X + 248) (8 * l + f) = mA M (X + 248) (8 * l + f) ∧ mA M1 (X + 249) (8 * l + f) = mA M (X + 249) (8 * l + f)) (a6 : mA M1 (X + 2) = mA M (X + 2)) : IL M1 X p z l := by
  obtain ⟨h1, h2, h3, h4, h5, h6, h7, h8, h9, h10, h11, h12, h13, h14, h15⟩ := H
  have kA : mK M1 (lA z l) = mK M (lA z l) := k1 _ (by unfold lA; omega) (by unfold lA; omega)
  have kB : mK M1 (lB z l) = mK M (lB z l) := k1 _ (by unfold lB; omega) (by unfold lB; omega)
  have nB : mN M1 (lB z l) = mN M (lB z l) := n1 _ (by unfold lB; omega) (by unfold lB; omega)
  have rA : ∀ num, mR M1 num (lA z l) = mR M num (lA z l) := fun num => r1 num _ (by unfold lA; omega) (by unfold lA; omega)
  unfold IL
  rw [q1, kA, kB, rA, rA, e1 400 (by omega), e1 401 (by omega), e1 402 (by omega), e1 404 (by omega), e1 405 (by omega), e1 406 (by omega), e1 407 (by omega), a1 241 (by omega), a1 242 (by omega), a1 243 (by omega), a1 244 (by omega), a1 245 (by omega), a1 246 (by omega), a1 247 (by omega)]
  refine ⟨h1, h2, h3, h4, h5, h6, h7, h8, h9, h10, h11, h12, h13, ?_, ?_⟩
  · obtain ⟨len, g1, g2, g3, g4, g5⟩ := h14
    refine ⟨len, g1, g2, by rw [nB]; exact g3, by rw [a1 239 (by omega)]; exact g4, fun k hk => ?_⟩
    rw [a3, a2 k (by omega)]
    exact g5 k hk
  · refine h15.imp_left (fun ⟨g1, g2, g3⟩ => ⟨g1, g2, ?_⟩)
    obtain ⟨p1, p2, p3, p4, p5, p6, p7, p8, p9, p10, p11, p12⟩ := g3
    have kP := k1 (lP z l) (by unfold lP; omega) (by unfold lP; omega)
    have kU := k1 (lU z l) (by unfold lU; omega) (by unfold lU; omega)
    have kV := k1 (lV z l) (by unfold lV; omega) (by unfold lV; omega)
    have nU := n1 (lU z l) (by unfold lU; omega) (by unfold lU; omega)
    have nV := n1 (lV z l) (by unfold lV; omega) (by unfold lV; omega)
    have rP : ∀ num, mR M1 num (lP z l) = mR M num (lP z l) := fun num => r1 num _ (by unfold lP; omega) (by unfold lP; omega)
    unfold ILp
    rw [rA, rP, rP, kP, kU, kV, nU, nV, (e2 p2).1, (e2 p2).2, a1 250 (by omega), a1 251 (by omega), (a4 p2).1, (a4 p2).2, a6]
    refine ⟨p1, p2, p3, p4, p5, p6, p7, p8, p9, p10, p11, fun f hf g => ?_⟩
    rw [(a5 f (by omega)).1, (a5 f (by omega)).2]
    exact p12 f hf g
