/-! What a reference gives, what n bits find: the same at both. -/
def tN (x : Int64) : Nat := x.toBitVec.toNat
theorem lN_tN (x : Int64) : lN (tN x) = x := by
  apply Int64.toBitVec_inj.1
  show BitVec.ofNat 64 x.toBitVec.toNat = x.toBitVec
  simp
theorem tN_lt (x : Int64) : tN x < 2 ^ 64 := x.toBitVec.isLt
def VC (X k : Nat) (M M' : Mm) : Prop := St M' X ∧ (∀ num a, a < X + 212 → ¬ (num = 301 ∧ a = X + 6) → mI M' num a = mI M num a) ∧ (∀ a, a < X + 212 → mA M' a = mA M a) ∧ (∀ a, a < X + 212 → mB M' a = mB M a) ∧ mI M' 301 (X + 6) = nI k
def RV (X : Nat) (M R : Mm) : Prop := St R X ∧ (∀ o, (o = 227 ∨ o = 228 ∨ o = 229 ∨ o = 234 ∨ o = 237) → mA R (X + o) = mA M (X + o)) ∧ (∀ o, (o = 230 ∨ o = 231 ∨ o = 238) → mB R (X + o) = mB M (X + o)) ∧ mI R 1101 (X + 226) = mI M 1101 (X + 226)
def gv (M : Mm) (X i k f d : Nat) : Int64 :=
  if mA M (X + 2) f = 0 then mB M (aHv X i d) f
  else if mA M (X + 2) f = 1 then (mB M (X + 7) (ix (mA M (X + 4) f)) + (mA M (X + 5) f).toInt64) &&& mk (mA M (X + 3) f)
  else if mA M (X + 2) f = 2 then (mB M (aHv X i d) f + (nI k - mI M 301 (aHd X i d)).toInt64 * (mA M (aSt X i) f).toInt64) &&& mk (mA M (X + 3) f)
  else if mA M (X + 2) f = 3 then (mB M (aHv X i d) f + (nI k - mI M 301 (aHd X i d)).toInt64 * (mA M (aSt X i) f).toInt64 * (mA M (X + 5) f).toInt64) &&& mk (mA M (X + 3) f)
  else 0
theorem gvc {M M' : Mm} {X i k f d p : Nat} (V : VC X k M M') (hi : i < 8) (hd : d < 8) (hP : IP M X p) (hf : f < p) : f_X6_given M' (X + 1) (nI f) (aHd X i d) (aSt X i) (X + 6) = some (gv M X i k f d) := by
  obtain ⟨hS, v2, v3, v4, v5⟩ := V
  have p8 := hP.1
  have f8 : f < 8 := by omega
  obtain ⟨-, -, -, -, -, ft⟩ := hP.2.2.2 f hf
  have l1 : aHd X i d < X + 212 := by unfold aHd; omega
  have l2 : aHv X i d < X + 212 := by unfold aHv; omega
  have l3 : aSt X i < X + 212 := by unfold aSt; omega
  have n1 : ¬ (301 = 301 ∧ aHd X i d = X + 6) := by unfold aHd; omega
  unfold f_X6_given
  rw [if_pos (k_1 hS), gi_6 hS, ob_eq, v5, gi_aHd hS hi hd, ob_eq, v2 _ _ l1 n1, ai_aSt hS hi f8, ob_eq, v3 _ l3, r_1_600 hS, ob_eq, ai_2 hS f8, ob_eq, v3 _ (by omega)]
  unfold gv
  by_cases q0 : mA M (X + 2) f = 0
  · rw [if_pos q0, if_pos q0, r_aHd_300 hS hi hd, ob_eq, aj_aHv hS hi hd f8, ob_eq, v4 _ l2]
  rw [if_neg q0, if_neg q0]
  by_cases q1 : mA M (X + 2) f = 1
  · obtain ⟨-, t, ht, et⟩ := ft q1
    rw [if_pos q1, if_pos q1, r_6_300 hS, ob_eq, r_1_602 hS, ob_eq, ai_4 hS f8, ob_eq, v3 _ (by omega), et, aj_7 hS (by omega), ob_eq, v4 _ (by omega), r_1_603 hS, ob_eq, ai_5 hS f8, ob_eq, v3 _ (by omega), lb_in hS f8, ob_eq, v3 _ (by omega), ix_nI (by omega)]
  rw [if_neg q1, if_neg q1]
  by_cases q2 : mA M (X + 2) f = 2
  · rw [if_pos q2, if_pos q2, r_aHd_300 hS hi hd, ob_eq, aj_aHv hS hi hd f8, ob_eq, v4 _ l2, lb_in hS f8, ob_eq, v3 _ (by omega)]
  rw [if_neg q2, if_neg q2]
  by_cases q3 : mA M (X + 2) f = 3
  · rw [if_pos q3, if_pos q3, r_aHd_300 hS hi hd, ob_eq, aj_aHv hS hi hd f8, ob_eq, v4 _ l2, r_1_603 hS, ob_eq, ai_5 hS f8, ob_eq, v3 _ (by omega), lb_in hS f8, ob_eq, v3 _ (by omega)]
  rw [if_neg q3, if_neg q3]
theorem gvr {M R : Mm} {X i k f j p w n kk r h f0 : Nat} (V : RV X M R) (hi : i < 8) (hP : IP M X p) (hD : ID M X p) (hf : f < p) (hw : w ≤ 8) (hQ : IQ' M X p w n i kk r h f0) (hj : j < h) : f_X11_given R (X + 226) (nI i) (nI j) (nI f) (nI k) = some (gv M X i k f ((f0 + j) % 8)) := by
  obtain ⟨hS, v2, v3, v4⟩ := V
  have p8 := hP.1
  have f8 : f < 8 := by omega
  obtain ⟨k1, k2, ⟨kd, k3, ek⟩, k4, k5, ft⟩ := hP.2.2.2 f hf
  obtain ⟨q1, q2, q3, q4, q5, q6, q7, q8, q9, q10, q11, q12, q13, q14, q15⟩ := hQ
  obtain ⟨⟨u, hu, u1, u2⟩, g2⟩ := q15 j hj
  have d10 : ¬ (1 : Int32) = 0 := by decide
  have eo : ∀ (own : Int64) (b s : Int32), f_X11_onwards R (X + 226) (nI f) own b s = if mA M (X + 2) f = 4 then some 0 else if 2 ≤ mA M (X + 2) f then (if mA M (X + 2) f = 3 then some ((own + b.toInt64 * s.toInt64 * (mA M (X + 5) f).toInt64) &&& mk (mA M (X + 3) f)) else some ((own + b.toInt64 * s.toInt64 * 1) &&& mk (mA M (X + 3) f))) else some own := by
    intro own b s
    unfold f_X11_onwards f_X11_onwards_J54
    rw [if_pos (k_226 hS), r_226_1102 hS, ob_eq, ai_227 hS f8, ob_eq, v2 _ (by omega), k1]
    by_cases c4 : mA M (X + 2) f = 4
    · rw [if_pos c4, if_pos c4]
    rw [if_neg c4, if_neg c4, ob_eq, ob_eq, ai_227 hS f8, ob_eq, v2 _ (by omega), k1, ob_eq]
    by_cases c2 : 2 ≤ mA M (X + 2) f
    rotate_left
    · rw [if_neg c2, if_neg c2]
    rw [if_pos c2, if_pos c2]
    by_cases c3 : mA M (X + 2) f = 3
    · rw [if_pos c3, if_pos c3, r_226_1105 hS, ob_eq, aj_230 hS f8, ob_eq, v3 _ (by omega), k5, ct_in hS f8, ob_eq, v2 _ (by omega), k2]
    · rw [if_neg c3, if_neg c3, ct_in hS f8, ob_eq, v2 _ (by omega), k2]
  unfold f_X11_given
  rw [if_pos (k_226 hS), r_226_1102 hS, ob_eq, ai_227 hS f8, ob_eq, v2 _ (by omega), k1, r_226_1115 hS, ob_eq, m9, nI_add, m8, nI_add, aj_238 hS (by omega), ob_eq, v3 _ (by omega), g2 f hf, r_226_1114 hS, ob_eq, ai_237 hS (by omega), ob_eq, v2 _ (by omega), u1, ← u2, r_226_1111 hS, ob_eq, m8, nI_add, ai_234 hS (by omega), ob_eq, v2 _ (by omega), q14 f f8, eo]
  have hk : kd = 0 ∨ kd = 1 ∨ kd = 2 ∨ kd = 3 ∨ kd = 4 := by omega
  unfold gv
  by_cases c1 : mA M (X + 2) f = 1
  · obtain ⟨t1, t, ht, et⟩ := ft c1
    have c0 : ¬ mA M (X + 2) f = 0 := by rw [c1]; exact d10
    rw [if_pos c1, if_neg c0, if_pos c1, r_226_1108 hS, ob_eq, r_226_1104 hS, ob_eq, ai_229 hS f8, ob_eq, v2 _ (by omega), t1, et, aj_231 hS (by omega), ob_eq, v3 _ (by omega), (hD.1 t (by omega)).1, r_226_1105 hS, ob_eq, aj_230 hS f8, ob_eq, v3 _ (by omega), k5, ct_in hS f8, ob_eq, v2 _ (by omega), k2, ix_nI (by omega)]
  rw [if_neg c1]
  rcases hk with rfl | rfl | rfl | rfl | rfl
  · rw [ek, if_neg (show ¬ nI 0 = 4 by decide), if_neg (show ¬ (2 : Int32) ≤ nI 0 by decide), ob_eq, if_pos (show nI 0 = 0 from rfl)]
  · exact absurd ek c1
  · rw [ek, if_neg (show ¬ nI 2 = 4 by decide), if_pos (show (2 : Int32) ≤ nI 2 by decide), if_neg (show ¬ nI 2 = 3 by decide), ob_eq, if_neg (show ¬ nI 2 = 0 by decide), if_neg (show ¬ nI 2 = 1 by decide), if_pos (show nI 2 = 2 from rfl), Int64.mul_one]
  · rw [ek, if_neg (show ¬ nI 3 = 4 by decide), if_pos (show (2 : Int32) ≤ nI 3 by decide), if_pos (show nI 3 = 3 from rfl), ob_eq, if_neg (show ¬ nI 3 = 0 by decide), if_neg (show ¬ nI 3 = 1 by decide), if_neg (show ¬ nI 3 = 2 by decide), if_pos (show nI 3 = 3 from rfl)]
  · rw [ek, if_pos (show nI 4 = 4 from rfl), ob_eq, if_neg (show ¬ nI 4 = 0 by decide), if_neg (show ¬ nI 4 = 1 by decide), if_neg (show ¬ nI 4 = 2 by decide), if_neg (show ¬ nI 4 = 3 by decide)]
/-! found by n bits -/
def hf2 (n : Int32) : Int64 := (1 : Int64) <<< ((n - 1).toInt64 &&& 63)
def fo (wd : Int32) (g : Int64) (n : Int32) (v : Int64) : Int64 := if 1 ≤ n then ((g - hf2 n) + ((v - (g - hf2 n)) &&& mk n)) &&& mk wd else g
theorem fo_c {M : Mm} {X f : Nat} {g v : Int64} {n : Int32} (hS : St M X) (hf : f < 8) : f_X6_found M (X + 1) (nI f) g n v = some (fo (mA M (X + 3) f) g n v) := by
  unfold f_X6_found f_X10_lowest
  rw [if_pos (k_1 hS), ob_eq, lb_in hS hf, ob_eq]
  unfold fo
  by_cases q : 1 ≤ n
  · rw [if_pos q, if_pos q]; rfl
  · rw [if_neg q, if_neg q]
theorem lN_m {a b : Nat} (ha : a < 2 ^ 64) (h : lN a = lN b) : a = b % 2 ^ 64 := by
  have e := congrArg (fun x : Int64 => x.toBitVec.toNat) h
  have e1 : (lN a).toBitVec.toNat = a % 2 ^ 64 := by show (BitVec.ofNat 64 a).toNat = _; simp
  have e2 : (lN b).toBitVec.toNat = b % 2 ^ 64 := by show (BitVec.ofNat 64 b).toNat = _; simp
  rw [e1, e2, Nat.mod_eq_of_lt ha] at e
  exact e
theorem lN_wrap (a : Nat) : lN (a % 2 ^ 64) = lN a := by
  apply Int64.toBitVec_inj.1
  show BitVec.ofNat 64 (a % 2 ^ 64) = BitVec.ofNat 64 a
  apply BitVec.eq_of_toNat_eq
  simp
theorem shl1 : ∀ n, n < 33 → (1 : Int64) <<< ((nI n).toInt64 &&& 63) = lN (2 ^ n) := by decide
theorem fo_iff {wd n u : Nat} {g : Int64} (h1 : 1 ≤ n) (h2 : n ≤ wd) (h3 : wd ≤ 32) (hu : u < 2 ^ wd) : fo (nI wd) g (nI n) (lN u) = lN u ↔ ((lN u - g) + hf2 (nI n)) &&& mk (nI wd) < (1 : Int64) <<< ((nI n).toInt64 &&& 63) := by
  have q1 : (1 : Int32) ≤ nI n := nI_le (a := 1) h1 (by omega)
  have e0 : lN u - g + hf2 (nI n) = lN u - (g - hf2 (nI n)) := by
    rw [Int64.sub_eq_add_neg, Int64.sub_eq_add_neg, Int64.sub_eq_add_neg, Int64.neg_add, Int64.sub_eq_add_neg, Int64.neg_neg, Int64.add_assoc]
  unfold fo
  rw [if_pos q1, e0]
  generalize ha : g - hf2 (nI n) = a
  generalize ht : lN u - a = t
  have hv : lN u = a + t := by rw [← ht, Int64.add_comm, Int64.sub_add_cancel]
  have p64 : (2 : Nat) ^ 64 = 2 ^ wd * 2 ^ (64 - wd) := by rw [← Nat.pow_add, show wd + (64 - wd) = 64 by omega]
  have dv : 2 ^ wd ∣ 2 ^ 64 := ⟨_, p64⟩
  have pw : (2 : Nat) ^ wd ≤ 2 ^ 32 := Nat.pow_le_pow_right (by decide) h3
  have pn' : (2 : Nat) ^ n ≤ 2 ^ wd := Nat.pow_le_pow_right (by decide) h2
  have ea := lN_tN a
  have et := lN_tN t
  rw [← ea, ← et, lN_add] at hv
  have hu2 : u = (tN a + tN t) % 2 ^ wd := by
    have e := lN_m (by omega) hv
    have e2 : u % 2 ^ wd = ((tN a + tN t) % 2 ^ 64) % 2 ^ wd := by rw [← e]
    rw [Nat.mod_eq_of_lt hu, Nat.mod_mod_of_dvd _ dv] at e2
    exact e2
  have key : (tN a + tN t % 2 ^ n) % 2 ^ wd = u ↔ tN t % 2 ^ wd < 2 ^ n := by
    rw [hu2]
    have hn0 : 0 < 2 ^ n := Nat.two_pow_pos n
    have hw0 : 0 < 2 ^ wd := Nat.two_pow_pos wd
    have dn : 2 ^ n ∣ 2 ^ wd := ⟨2 ^ (wd - n), by rw [← Nat.pow_add, show n + (wd - n) = wd by omega]⟩
    have hmm : tN t % 2 ^ wd % 2 ^ n = tN t % 2 ^ n := Nat.mod_mod_of_dvd _ dn
    have hlt : tN t % 2 ^ n < 2 ^ n := Nat.mod_lt _ hn0
    constructor
    · intro h
      have h5 : tN t % 2 ^ n % 2 ^ wd = tN t % 2 ^ wd := by
        have h6 : (tN a % 2 ^ wd + tN t % 2 ^ n % 2 ^ wd) % 2 ^ wd = (tN a % 2 ^ wd + tN t % 2 ^ wd) % 2 ^ wd := by
          rw [← Nat.add_mod, ← Nat.add_mod]; exact h
        have b1 := Nat.mod_lt (tN a) hw0
        have b2 := Nat.mod_lt (tN t % 2 ^ n) hw0
        have b3 := Nat.mod_lt (tN t) hw0
        generalize tN a % 2 ^ wd = A at *
        generalize tN t % 2 ^ n % 2 ^ wd = B at *
        generalize tN t % 2 ^ wd = C at *
        generalize 2 ^ wd = W at *
        by_cases c1 : A + B < W
        · rw [Nat.mod_eq_of_lt c1] at h6
          by_cases c2 : A + C < W
          · rw [Nat.mod_eq_of_lt c2] at h6; omega
          · rw [Nat.mod_eq_sub_mod (by omega), Nat.mod_eq_of_lt (by omega)] at h6; omega
        · rw [Nat.mod_eq_sub_mod (by omega), Nat.mod_eq_of_lt (a := A + B - W) (by omega)] at h6
          by_cases c2 : A + C < W
          · rw [Nat.mod_eq_of_lt c2] at h6; omega
          · rw [Nat.mod_eq_sub_mod (a := A + C) (by omega), Nat.mod_eq_of_lt (a := A + C - W) (by omega)] at h6; omega
      rw [Nat.mod_eq_of_lt (a := tN t % 2 ^ n) (by omega)] at h5
      omega
    · intro h
      have h5 : tN t % 2 ^ n = tN t % 2 ^ wd := by rw [← hmm, Nat.mod_eq_of_lt h]
      rw [h5, Nat.add_mod_mod]
  have l1 : (a + (t &&& mk (nI n))) &&& mk (nI wd) = lN ((tN a + tN t % 2 ^ n) % 2 ^ wd) := by
    have x1 : t &&& mk (nI n) = lN (tN t % 2 ^ n) := by
      have := mk_and (u := tN t) (wd := n) (by omega)
      rw [et] at this; exact this
    have x2 : a + lN (tN t % 2 ^ n) = lN (tN a + tN t % 2 ^ n) := by
      have := lN_add (tN a) (tN t % 2 ^ n)
      rw [ea] at this; exact this
    rw [x1, x2, mk_and (by omega)]
  have l2 : t &&& mk (nI wd) = lN (tN t % 2 ^ wd) := by
    have := mk_and (u := tN t) (wd := wd) (by omega)
    rw [et] at this; exact this
  have hw0 : 0 < 2 ^ wd := Nat.two_pow_pos wd
  have b1 := Nat.mod_lt (tN a + tN t % 2 ^ n) hw0
  have b2 := Nat.mod_lt (tN t) hw0
  rw [l1, l2, shl1 n (by omega), pk_lEQ (by omega) (by omega), pk_lLT (by omega) (by omega)]
  exact key
theorem fo_r {M : Mm} {X f wd n u : Nat} {g : Int64} (hS : St M X) (hf : f < 8) (hw : mA M (X + 228) f = nI wd) (h2 : n ≤ wd) (h3 : wd ≤ 32) (hu : u < 2 ^ wd) : f_X11_finds M (X + 226) (nI f) g (lN u) (nI n) = some (if fo (nI wd) g (nI n) (lN u) = lN u then 1 else 0) := by
  unfold f_X11_finds
  rw [if_pos (k_226 hS)]
  by_cases q : n = 0
  · subst q
    have e : fo (nI wd) g (nI 0) (lN u) = g := by unfold fo; rw [if_neg (by decide)]
    rw [if_pos (show nI 0 = 0 from rfl), e]
    by_cases c : g = lN u
    · rw [if_pos c, if_pos ((lgc_eq _ _).mpr c)]
    · rw [if_neg c, if_neg (fun q => c ((lgc_eq _ _).mp q))]
  · rw [if_neg (nI_ne0 (by omega) (by omega)), ct_in hS hf, ob_eq, hw]
    have k := fo_iff (g := g) (n := n) (wd := wd) (u := u) (by omega) h2 h3 hu
    unfold hf2 at k
    by_cases c : fo (nI wd) g (nI n) (lN u) = lN u
    · rw [if_pos c, if_neg (fun q => (lgc_ge _ _).mp q (k.mp c))]
    · rw [if_neg c, if_pos ((lgc_ge _ _).mpr (fun q => c (k.mpr q)))]
