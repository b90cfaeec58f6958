/-! More calls that only look: strides, references, shelves, sums over the letters. -/
theorem xorI (a b : Nat) : nI a ^^^ nI b = nI (a ^^^ b) := by
  apply Int32.toBitVec_inj.1
  show BitVec.ofNat 32 a ^^^ BitVec.ofNat 32 b = BitVec.ofNat 32 (a ^^^ b)
  apply BitVec.eq_of_getLsbD_eq
  intro i hi
  simp [hi]
theorem fmod8 {k : Nat} (h : k < 2 ^ 30) : f_J9_floorMod_7cf53 (nI k) 8 = some (nI (k % 8)) := by
  unfold f_J9_floorMod_7cf53
  have e8 : (8 : Int32) = nI 8 := rfl
  have hx : k ^^^ 8 < 2 ^ 31 := Nat.xor_lt_two_pow (by omega) (by decide)
  have h1 : 0 ≤ (nI k ^^^ (8 : Int32)) := by
    rw [e8, xorI]
    exact nI_pos' hx
  rw [if_neg (by decide), if_pos h1]
  exact congrArg some (pk_rem (a := k) (d := 8) (by omega) (by decide) (by decide))
theorem rf_in {M : Mm} {X i f0 j : Nat} (hS : St M X) (hi : i < 8) (h : mI M 906 (aSq X i) = nI f0) (hf : f0 < 8) (hj : j < 1000) : f_X9_reference M (aSq X i) (nI j) = some (aHd X i ((f0 + j) % 8)) := by
  unfold f_X9_reference
  rw [if_pos (k_aSq hS hi), r_aSq_905 hS hi, ob_eq, gi_aSq hS hi, ob_eq, h, nI_add, fmod8 (by omega), ob_eq, q_rg hS hi (Nat.mod_lt _ (by decide)), ob_eq]
theorem on_eq {M : Mm} {X i f0 hh : Nat} (hS : St M X) (hi : i < 8) (h : mI M 906 (aSq X i) = nI f0) (hf : f0 < 8) (hd : mI M 904 (aSq X i) = nI hh) (h8 : hh ≤ 8) : f_X9_oldestNumber M (aSq X i) = some (if hh = 0 then -2 else mI M 301 (aHd X i f0)) := by
  unfold f_X9_oldestNumber
  rw [if_pos (k_aSq hS hi), gi_aSq hS hi, ob_eq, hd]
  by_cases c : hh = 0
  · subst c; rw [if_pos (show nI 0 = 0 from rfl), if_pos rfl]
  · rw [if_neg (nI_ne0 (by omega) (by omega)), show f_X9_reference M (aSq X i) 0 = _ from rf_in (j := 0) hS hi h hf (by decide), ob_eq, Nat.add_zero, Nat.mod_eq_of_lt hf, gi_aHd hS hi hf, ob_eq, if_neg c]
theorem hs_in {M : Mm} {X p f : Nat} (hS : St M X) (p1 : mI M 604 (X + 1) = nI p) (p8 : p ≤ 8) (hf : f < p) : f_X6_hasStride M (X + 1) (nI f) = some (if mA M (X + 2) f = 2 then 1 else if mA M (X + 2) f = 3 then 1 else 0) := by
  unfold f_X6_hasStride
  rw [if_pos (k_1 hS), has_in hS p1 p8 hf, ob_eq, if_neg (by decide), r_1_600 hS, ob_eq, ai_2 hS (by omega), ob_eq]
  by_cases c : mA M (X + 2) f = 2
  · rw [if_pos c, if_pos c]
  · rw [if_neg c, if_neg c, ob_eq, ai_2 hS (by omega), ob_eq]
    by_cases d : mA M (X + 2) f = 3
    · rw [if_pos d, if_pos d]
    · rw [if_neg d, if_neg d]
theorem hs_out {M : Mm} {X p : Nat} {a : Int32} (hS : St M X) (p1 : mI M 604 (X + 1) = nI p) (h : a < 0 ∨ nI p ≤ a) : f_X6_hasStride M (X + 1) a = some 0 := by
  unfold f_X6_hasStride
  rw [if_pos (k_1 hS), has_out hS p1 h, ob_eq, if_pos rfl]
theorem ru_in {M : Mm} {X f : Nat} (hS : St M X) (hf : f < 8) : f_X11_runs M (X + 226) (nI f) = some (if mA M (X + 227) f = 2 then 1 else if mA M (X + 227) f = 3 then 1 else 0) := by
  unfold f_X11_runs
  rw [if_pos (k_226 hS), r_226_1102 hS, ob_eq, ai_227 hS hf, ob_eq]
  by_cases c : mA M (X + 227) f = 2
  · rw [if_pos c, if_pos c]
  · rw [if_neg c, if_neg c, ob_eq, ai_227 hS hf, ob_eq]
    by_cases d : mA M (X + 227) f = 3
    · rw [if_pos d, if_pos d]
    · rw [if_neg d, if_neg d]
theorem op_squeezer {M : Mm} {X p n w : Nat} {z : Nat → Nat} (H : Inv M X p n w z) (a b : Int32) : ∃ r, f_X10_squeezer M X a b = some r ∧ f_X11_squeezer M (X + 226) a b = some (sI M 1100 (X + 226) 0, r) := by
  obtain ⟨hS, hW, hP, hD, hC, hQ, hX, hZ, hL, hG, hH, hT⟩ := H
  have hS1 : St (sI M 1100 (X + 226) 0) X := hS
  unfold f_X10_squeezer f_X11_squeezer
  simp only [if_pos (k_0 hS), if_pos (k_226 hS), pi_226 hS, ob_eq, isIn_0_4]
  rcases ix_cases a (n := 8) (by omega) with h | ⟨i, hi, rfl⟩
  · simp only [(fl_out h).1, (fl_out h).2.1, ob_eq]; exact ⟨_, rfl, rfl⟩
  obtain ⟨k, r, hh, f0, q1, q2, q3, q4, q5, q6, q7, q8, q9, q10, q11, q12, q13, q14, q15⟩ := hQ i hi
  have hw8 := hW.2.2.2
  simp only [(fl_in hi).1, (fl_in hi).2.1, ob_eq, if_neg (by decide : ¬ (1 : Int32) = 0), r_0_1003 hS, q_sq hS hi, gi_aSq hS hi, q2, q5, q7, q10, on_eq hS hi q13 q12 q10 (by omega), r_226_1109 hS1, r_226_1110 hS1, r_226_1113 hS1, r_226_1114 hS1, r_226_1112 hS1, ai_232 hS1 hi, ai_233 hS1 hi, ai_236 hS1 hi, az_235 hS1 hi, mA_sI, q3, q6, q11, m9, ai_237 hS1 (by omega : 9 * i < 72)]
  by_cases c0 : b = 0
  · subst c0; exact ⟨_, rfl, rfl⟩
  by_cases c1 : b = 1
  · subst c1; exact ⟨_, rfl, rfl⟩
  by_cases c2 : b = 2
  · subst c2; exact ⟨_, rfl, rfl⟩
  by_cases c3 : b = 3
  · subst c3
    simp only [if_neg c0, if_neg c1, if_neg c2, if_pos rfl, if_neg (by decide : ¬ (3 : Int32) < 0), if_neg (by decide : ¬ (4 : Int32) < 3), if_neg (by decide : ¬ (1 : Int32) = 0)]
    by_cases e : hh = 0
    · subst e; exact ⟨_, rfl, rfl⟩
    · obtain ⟨⟨u, u1, u2, u3⟩, -⟩ := q15 0 (by omega)
      rw [Nat.add_zero, Nat.mod_eq_of_lt q12] at u3
      rw [Nat.add_zero] at u2
      simp only [if_neg e, if_neg (nI_ne0 (by omega : 0 < hh) (by omega)), if_true, u3]
      rw [show mA M (X + 237) (9 * i) = nI u from u2]
      exact ⟨_, rfl, rfl⟩
  by_cases c4 : b = 4
  · subst c4
    simp only [if_neg c0, if_neg c1, if_neg c2, if_neg c3, if_pos rfl, if_neg (by decide : ¬ (4 : Int32) < 0), if_neg (by decide : ¬ (4 : Int32) < 4), if_neg (by decide : ¬ (1 : Int32) = 0)]
    rcases q8 with e | e
    · simp only [e, if_pos rfl]; exact ⟨_, rfl, rfl⟩
    · simp only [e, if_neg (by decide : ¬ (1 : Int32) = 0)]; exact ⟨_, rfl, rfl⟩
  · simp only [if_neg c0, if_neg c1, if_neg c2, if_neg c3, if_neg c4]
    by_cases d0 : b < 0
    · simp only [if_pos d0]; exact ⟨_, rfl, rfl⟩
    · have d1 : 4 < b := by
        rcases ix_cases b (n := 5) (by decide) with h | ⟨j, hj, rfl⟩
        · have h2 := Int32.le_iff_toInt_le.mp (h.resolve_left d0)
          refine Int32.lt_iff_toInt_lt.mpr ?_
          have e5 : (nI 5).toInt = 5 := by decide
          have e4 : (4 : Int32).toInt = 4 := by decide
          omega
        · exfalso
          rcases (show j = 0 ∨ j = 1 ∨ j = 2 ∨ j = 3 ∨ j = 4 by omega) with rfl | rfl | rfl | rfl | rfl
          · exact c0 rfl
          · exact c1 rfl
          · exact c2 rfl
          · exact c3 rfl
          · exact c4 rfl
      simp only [if_neg d0, if_pos d1]; exact ⟨_, rfl, rfl⟩
theorem rg_out {b : Int32} {m : Nat} (hm : m < 2 ^ 30) (h : ¬ ∃ j, j ≤ m ∧ b = nI j) (d0 : ¬ b < 0) : nI m < b := by
  rcases ix_cases b (n := m + 1) (by omega) with g | ⟨j, hj, rfl⟩
  · have h2 := Int32.le_iff_toInt_le.mp (g.resolve_left d0)
    refine Int32.lt_iff_toInt_lt.mpr ?_
    rw [nI_toInt (by omega)] at h2
    rw [nI_toInt (by omega)]
    omega
  · exact absurd ⟨j, by omega, rfl⟩ h
theorem rg_cases (b : Int32) (m : Nat) (hm : m < 2 ^ 30) : b < 0 ∨ nI m < b ∨ ∃ j, j ≤ m ∧ b = nI j := by
  by_cases d0 : b < 0
  · exact Or.inl d0
  · by_cases h : ∃ j, j ≤ m ∧ b = nI j
    · exact Or.inr (Or.inr h)
    · exact Or.inr (Or.inl (rg_out hm h d0))
theorem nI_gt {a b : Nat} (h : a ≤ b) (hb : b < 2 ^ 31) : ¬ nI b < nI a := nI_nlt h hb
theorem op_prove {M : Mm} {X p n w : Nat} {z : Nat → Nat} (H : Inv M X p n w z) (a b c : Int32) : ∃ r, f_X10_prove M X a b c = some r ∧ f_X11_prove M (X + 226) a b c = some (sI M 1100 (X + 226) 0, r) := by
  obtain ⟨hS, hW, ⟨p8, p1, p2, p3⟩, hD, hC, hQ, hX, hZ, hL, hG, hH, hT⟩ := H
  have h200 := hC.1
  have hS1 : St (sI M 1100 (X + 226) 0) X := hS
  have p2' : mI (sI M 1100 (X + 226) 0) 1101 (X + 226) = nI p := p2
  unfold f_X10_prove f_X11_prove
  rw [if_pos (k_0 hS), if_pos (k_226 hS), pi_226 hS, ob_eq, gi_226 hS1, ob_eq, show mI (sI M 1100 (X + 226) 0) 1116 (X + 226) = nI n from hC.2.2.1]
  rcases ix_cases a (n := n) (by omega) with h | ⟨l, hl, rfl⟩
  · rw [lt_out hS hC h, ob_eq]
    refine ⟨-1, rfl, ?_⟩
    by_cases h1 : a < 0
    · rw [if_pos h1]
    · rw [if_neg h1, if_pos (h.resolve_left h1)]
  rw [lt_in hS hC (hL l hl) hl, ob_eq, if_neg (nI_pos (by omega)), if_neg (nI_ge hl (by omega)), nm_some]
  obtain ⟨l1, l2, l3, l4, ⟨k, k1, k2, k3⟩, ⟨i, i1, i2, i3⟩, l7, l8, l9, l10, l11, l12, l13, -, l15⟩ := hL l hl
  have hl8 : l < 200 := by omega
  simp only [gN_of l2, ob_eq, r_226_1125 hS1, az_247 hS1 hl8, r_226_1119 hS1, ai_241 hS1 hl8, mA_sI, l12, k3, r_0_1001 hS]
  rcases l15 with ⟨e1, e2, g1, g2, g3, g4, g5, g6, g7, g8, g9, g10, g11, g12⟩ | ⟨e1, e2⟩
  · rw [k2] at e1
    simp only [g1, nm_some, e1, e2, if_pos rfl]
    rcases ix_cases b (n := p) (by omega) with h | ⟨f, hf, rfl⟩
    · simp only [hs_out hS p1 h, fd_out hS1 p2' h, ob_eq]; exact ⟨_, rfl, rfl⟩
    simp only [hs_in hS p1 p8 hf, fd_in hS1 p2' p8 hf, ob_eq, if_neg (by decide : ¬ (1 : Int32) = 0), ru_in hS1 (by omega : f < 8), mA_sI, (p3 f hf).1]
    by_cases hr : mA M (X + 2) f = 2 ∨ mA M (X + 2) f = 3
    · have hrr : (if mA M (X + 2) f = 2 then (1 : Int32) else if mA M (X + 2) f = 3 then 1 else 0) = 1 := by
        rcases hr with q | q
        · rw [if_pos q]
        · by_cases q2 : mA M (X + 2) f = 2
          · rw [if_pos q2]
          · rw [if_neg q2, if_pos q]
      simp only [hrr, if_neg (by decide : ¬ (1 : Int32) = 0), isIn_0_3, ob_eq, gR_of g3 g4, gR_of g3 g5, gI_of g3, aI_of g6 g7 (by omega : f < 8) (by decide), aI_of g8 g9 (by omega : f < 8) (by decide), r_226_1126 hS1, r_226_1127 hS1, r_226_1128 hS1, r_226_1129 hS1, m8, nI_add, ai_248 hS1 (by omega : 8 * l + f < 1600), ai_249 hS1 (by omega : 8 * l + f < 1600), ai_250 hS1 hl8, ai_251 hS1 hl8, mA_sI, (g12 f hf hr).1, (g12 f hf hr).2, g10, g11]
      by_cases c0 : c = 0
      · subst c0; exact ⟨_, rfl, rfl⟩
      by_cases c1 : c = 1
      · subst c1; exact ⟨_, rfl, rfl⟩
      by_cases c2 : c = 2
      · subst c2; exact ⟨_, rfl, rfl⟩
      by_cases c3 : c = 3
      · subst c3; exact ⟨_, rfl, rfl⟩
      simp only [if_neg c0, if_neg c1, if_neg c2, if_neg c3]
      rcases rg_cases c 3 (by decide) with d | d | ⟨j, hj, rfl⟩
      · simp only [if_pos d]; exact ⟨_, rfl, rfl⟩
      · have d3 : (3 : Int32) < c := d
        by_cases dn : c < 0
        · simp only [if_pos dn]; exact ⟨_, rfl, rfl⟩
        · simp only [if_neg dn, if_pos d3]; exact ⟨_, rfl, rfl⟩
      · exfalso
        rcases (show j = 0 ∨ j = 1 ∨ j = 2 ∨ j = 3 by omega) with rfl | rfl | rfl | rfl
        · exact c0 rfl
        · exact c1 rfl
        · exact c2 rfl
        · exact c3 rfl
    · have hrr : (if mA M (X + 2) f = 2 then (1 : Int32) else if mA M (X + 2) f = 3 then 1 else 0) = 0 := by
        rw [if_neg (fun q => hr (Or.inl q)), if_neg (fun q => hr (Or.inr q))]
      simp only [hrr, if_pos rfl]; exact ⟨_, rfl, rfl⟩
  · simp only [e2, nm_none]
    rw [k2] at e1
    rcases l13 with e3 | e3
    · have e4 : ¬ nI k = 2 := fun q => e1 ⟨q, e3⟩
      simp only [e3, if_pos rfl, if_neg e4]; exact ⟨_, rfl, rfl⟩
    · simp only [e3, if_neg (by decide : ¬ (1 : Int32) = 0)]; exact ⟨_, rfl, rfl⟩
