/-! The calls that only look. -/
theorem lt_in {M : Mm} {X p n l : Nat} {z : Nat → Nat} (hS : St M X) (hC : IC M X n) (hL : IL M X p z l) (hl : l < n) : f_X10_letterAt M X (nI l) = some (some (lA z l)) := by
  have h200 := hC.1
  unfold f_X10_letterAt
  rw [if_pos (k_0 hS), if_neg (nI_pos (by omega)), gi_0 hS, ob_eq, hC.2.1, if_neg (nI_ge hl (by omega)), r_0_1005 hS, ob_eq, aN_of (k_194 hS) (n_194 hS) (by omega) (by decide), ob_eq, hL.1]
theorem lt_out {M : Mm} {X n : Nat} {a : Int32} (hS : St M X) (hC : IC M X n) (h : a < 0 ∨ nI n ≤ a) : f_X10_letterAt M X a = some none := by
  unfold f_X10_letterAt
  rw [if_pos (k_0 hS), gi_0 hS, ob_eq, hC.2.1]
  by_cases h1 : a < 0
  · rw [if_pos h1]
  · rw [if_neg h1, if_pos (h.resolve_left h1)]
theorem le_of {a b : Int32} (h : ¬ a < b) : b ≤ a := Int32.not_lt.mp h
theorem not_le_of_out {a : Int32} {n : Nat} (h : a < 0 ∨ nI n ≤ a) (h1 : ¬ a < 0) : ¬ a < nI n := fun q => by
  have h2 := Int32.lt_iff_toInt_lt.mp q
  have h3 := Int32.le_iff_toInt_le.mp (h.resolve_left h1)
  omega
theorem op_octet {M : Mm} {X p n w : Nat} {z : Nat → Nat} (H : Inv M X p n w z) (a b : Int32) : ∃ r, f_X10_octet M X a b = some r ∧ f_X11_octet M (X + 226) a b = some (sI M 1100 (X + 226) 0, r) := by
  obtain ⟨hS, hW, hP, hD, hC, hQ, hX, hZ, hL, hG, hH, hT⟩ := H
  have h200 := hC.1
  have hS1 : St (sI M 1100 (X + 226) 0) X := hS
  unfold f_X10_octet f_X11_octet
  rw [if_pos (k_0 hS), if_pos (k_226 hS), pi_226 hS, ob_eq, gi_226 hS1, ob_eq, show mI (sI M 1100 (X + 226) 0) 1116 (X + 226) = nI n from hC.2.2.1]
  rcases ix_cases a (n := n) (by omega) with h | ⟨l, hl, rfl⟩
  · rw [lt_out hS hC h, ob_eq]
    refine ⟨-1, rfl, ?_⟩
    by_cases h1 : a < 0
    · rw [if_pos h1]
    · rw [if_neg h1, if_pos (h.resolve_left h1)]
  · rw [lt_in hS hC (hL l hl) hl, ob_eq, if_neg (nI_pos (by omega)), if_neg (nI_ge hl (by omega))]
    obtain ⟨l1, l2, l3, l4, -, -, -, -, -, -, -, -, -, ⟨len, b1, b2, b3, b4, b5⟩, -⟩ := hL l hl
    have hB : f_X4_hasByte M (lA z l) b = some (if b < 0 then 0 else if nI len ≤ b then 0 else 1) := by
      unfold f_X4_hasByte
      rw [if_pos l2, gR_of l2 l3, ob_eq, aL_of l4 (by decide) (by decide) b3, ob_eq]
      by_cases h1 : b < 0
      · simp only [if_pos h1]
      · by_cases h2 : nI len ≤ b
        · simp only [if_neg h1, if_pos h2]
        · simp only [if_neg h1, if_neg h2]
    show ∃ r, ((f_X4_hasByte M (lA z l) b).bind _) = some r ∧ _
    rw [hB, ob_eq, r_226_1117 hS1, ob_eq, ai_239 hS1 (by omega), ob_eq, show mA (sI M 1100 (X + 226) 0) (X + 239) l = nI len from b4, r_226_1118 hS1, ob_eq, gR_of l2 l3, ob_eq]
    rcases ix_cases b (n := len) (by omega) with h | ⟨k, hk, rfl⟩
    · by_cases h1 : b < 0
      · simp only [if_pos h1]
        exact ⟨-1, rfl, rfl⟩
      · have h2 := h.resolve_left h1
        simp only [if_neg h1, if_pos h2, if_neg (not_le_of_out h h1)]
        exact ⟨-1, rfl, rfl⟩
    · obtain ⟨v, v1, v2, v3⟩ := b5 k hk
      have e1 : ¬ nI k < 0 := nI_pos (by omega)
      have e2 : ¬ nI len ≤ nI k := nI_ge hk (by omega)
      have e3 : nI k < nI len := nI_lt hk (by omega)
      simp only [if_neg e1, if_neg e2, if_pos e3]
      rw [aI_of l4 b3 hk (by omega), m64, nI_add, ai_240 hS1 (by omega), ob_eq, ob_eq, show mA (sI M 1100 (X + 226) 0) (X + 240) (64 * l + k) = nI v from v3, v2]
      exact ⟨nI v, rfl, rfl⟩
theorem nm_none {β : Type} (A : Option β) (B : Nat → Option β) : nm none A B = A := rfl
theorem nm_some {β : Type} (x : Nat) (A : Option β) (B : Nat → Option β) : nm (some x) A B = B x := rfl
theorem op_look {M : Mm} {X p n w : Nat} {z : Nat → Nat} (H : Inv M X p n w z) (a b : Int32) : ∃ r, f_X10_look M X a b = some r ∧ f_X11_look M (X + 226) a b = some (sI M 1100 (X + 226) 0, r) := by
  obtain ⟨hS, hW, hP, hD, hC, hQ, hX, hZ, hL, hG, hH, hT⟩ := H
  have h200 := hC.1
  have hS1 : St (sI M 1100 (X + 226) 0) X := hS
  unfold f_X10_look f_X11_look
  rw [if_pos (k_0 hS), if_pos (k_226 hS), pi_226 hS, ob_eq, gi_226 hS1, ob_eq, show mI (sI M 1100 (X + 226) 0) 1116 (X + 226) = nI n from hC.2.2.1]
  rcases ix_cases a (n := n) (by omega) with h | ⟨l, hl, rfl⟩
  · rw [lt_out hS hC h, ob_eq]
    refine ⟨-1, rfl, ?_⟩
    by_cases h1 : a < 0
    · rw [if_pos h1]
    · rw [if_neg h1, if_neg (not_le_of_out h h1)]
  · rw [lt_in hS hC (hL l hl) hl, ob_eq, if_neg (nI_pos (by omega)), if_pos (nI_lt hl (by omega)), nm_some]
    obtain ⟨l1, l2, l3, l4, ⟨k, k1, k2, k3⟩, ⟨i, i1, i2, i3⟩, l7, ⟨nb, nb1, nb2, nb3⟩, l9, l10, l11, l12, l13, ⟨len, b1, b2, b3, b4, b5⟩, -⟩ := hL l hl
    have g400 : ∀ num, gI M 5 num (lA z l) = some (mI M num (lA z l)) := fun num => gI_of l2
    have hl8 : l < 200 := by omega
    simp only [g400, gR_of l2 l3, aL_of l4 (by decide) (by decide) b3, ob_eq, r_226_1119 hS1, r_226_1120 hS1, r_226_1121 hS1, r_226_1117 hS1, r_226_1122 hS1, r_226_1123 hS1, r_226_1124 hS1, ai_241 hS1 hl8, ai_242 hS1 hl8, ai_243 hS1 hl8, ai_239 hS1 hl8, ai_244 hS1 hl8, ai_245 hS1 hl8, az_246 hS1 hl8, mA_sI, k2, k3, i2, i3, l7, nb2, nb3, l9, l10, b4]
    by_cases c0 : b = 0
    · simp only [if_pos c0]; exact ⟨_, rfl, rfl⟩
    by_cases c1 : b = 1
    · simp only [if_neg c0, if_pos c1]; exact ⟨_, rfl, rfl⟩
    by_cases c2 : b = 2
    · simp only [if_neg c0, if_neg c1, if_pos c2]; exact ⟨_, rfl, rfl⟩
    by_cases c3 : b = 3
    · simp only [if_neg c0, if_neg c1, if_neg c2, if_pos c3]; exact ⟨_, rfl, rfl⟩
    by_cases c4 : b = 4
    · simp only [if_neg c0, if_neg c1, if_neg c2, if_neg c3, if_pos c4]; exact ⟨_, rfl, rfl⟩
    by_cases c5 : b = 5
    · simp only [if_neg c0, if_neg c1, if_neg c2, if_neg c3, if_neg c4, if_pos c5]; exact ⟨_, rfl, rfl⟩
    by_cases c6 : b = 6
    · simp only [if_neg c0, if_neg c1, if_neg c2, if_neg c3, if_neg c4, if_neg c5, if_pos c6]
      by_cases c7 : mI M 406 (lA z l) = 0
      · simp only [if_pos c7]; exact ⟨_, rfl, rfl⟩
      · simp only [if_neg c7]; exact ⟨_, rfl, rfl⟩
    · simp only [if_neg c0, if_neg c1, if_neg c2, if_neg c3, if_neg c4, if_neg c5, if_neg c6]; exact ⟨_, rfl, rfl⟩
theorem op_got {M : Mm} {X p n w : Nat} {z : Nat → Nat} (H : Inv M X p n w z) (a : Int32) : ∃ r, f_X10_got M X a = some r ∧ f_X11_got M (X + 226) a = some (sI M 1100 (X + 226) 0, r) := by
  obtain ⟨hS, hW, ⟨p8, p1, p2, p3⟩, hD, hC, hQ, hX, hZ, hL, hG, hH, hT⟩ := H
  have hS1 : St (sI M 1100 (X + 226) 0) X := hS
  have p2' : mI (sI M 1100 (X + 226) 0) 1101 (X + 226) = nI p := p2
  have g1 : mI (sI M 1100 (X + 226) 0) 1135 (X + 226) = mI M 204 (X + 222) := hG.1.symm
  unfold f_X10_got f_X11_got
  rw [if_pos (k_0 hS), if_pos (k_226 hS), pi_226 hS, ob_eq, r_0_1001 hS, ob_eq]
  rcases ix_cases a (n := p) (by omega) with h | ⟨f, hf, rfl⟩
  · rw [has_out hS p1 h, fd_out hS1 p2' h]
    exact ⟨_, rfl, rfl⟩
  · rw [has_in hS p1 p8 hf, fd_in hS1 p2' p8 hf]
    have hf8 : f < 8 := by omega
    simp only [ob_eq, r_0_1009 hS, gi_222 hS, r_222_200 hS, r_223_300 hS, aj_224 hS hf8, gi_226 hS1, r_226_1139 hS1, aj_257 hS1 hf8, g1, mB_sI, if_neg (by decide : ¬ (1 : Int32) = 0)]
    by_cases c0 : mI M 204 (X + 222) = 0
    · simp only [if_pos c0]; exact ⟨_, rfl, rfl⟩
    · simp only [if_neg c0, ((hG.2.resolve_left c0).2.2.2.2 f hf).1]; exact ⟨_, rfl, rfl⟩
theorem op_way {M : Mm} {X p n w : Nat} {z : Nat → Nat} (H : Inv M X p n w z) (a : Int32) : ∃ r, f_X10_way M X a = some r ∧ f_X11_way M (X + 226) a = some (sI M 1100 (X + 226) 0, r) := by
  obtain ⟨hS, hW, ⟨p8, p1, p2, p3⟩, hD, hC, hQ, hX, hZ, hL, hG, hH, hT⟩ := H
  have hS1 : St (sI M 1100 (X + 226) 0) X := hS
  have p2' : mI (sI M 1100 (X + 226) 0) 1101 (X + 226) = nI p := p2
  have g1 : mI (sI M 1100 (X + 226) 0) 1135 (X + 226) = mI M 204 (X + 222) := hG.1.symm
  unfold f_X10_way f_X11_way
  rw [if_pos (k_0 hS), if_pos (k_226 hS), pi_226 hS, ob_eq, r_0_1001 hS, ob_eq]
  rcases ix_cases a (n := p) (by omega) with h | ⟨f, hf, rfl⟩
  · rw [has_out hS p1 h, fd_out hS1 p2' h]
    exact ⟨_, rfl, rfl⟩
  · rw [has_in hS p1 p8 hf, fd_in hS1 p2' p8 hf]
    have hf8 : f < 8 := by omega
    simp only [ob_eq, r_0_1009 hS, gi_222 hS, r_222_201 hS, ai_225 hS hf8, gi_226 hS1, r_226_1140 hS1, ai_258 hS1 hf8, g1, mA_sI, if_neg (by decide : ¬ (1 : Int32) = 0)]
    by_cases c0 : mI M 204 (X + 222) = 0
    · simp only [if_pos c0]; exact ⟨_, rfl, rfl⟩
    · simp only [if_neg c0, ((hG.2.resolve_left c0).2.2.2.2 f hf).2]; exact ⟨_, rfl, rfl⟩
theorem lt_le_flip {a b : Int32} : (b < a) ↔ ¬ a ≤ b := Int32.not_le.symm
theorem op_hung {M : Mm} {X p n w : Nat} {z : Nat → Nat} (H : Inv M X p n w z) (a : Int32) : ∃ r, f_X10_hung M X a = some r ∧ f_X11_hung M (X + 226) a = some (sI M 1100 (X + 226) 0, r) := by
  obtain ⟨hS, hW, hP, hD, hC, hQ, hX, hZ, hL, hG, hH, hT⟩ := H
  have hS1 : St (sI M 1100 (X + 226) 0) X := hS
  have g1 : mI (sI M 1100 (X + 226) 0) 1135 (X + 226) = mI M 204 (X + 222) := hG.1.symm
  unfold f_X10_hung f_X11_hung
  simp only [if_pos (k_0 hS), if_pos (k_226 hS), pi_226 hS, ob_eq, isIn_0_3, r_0_1009 hS, gi_222 hS, gi_226 hS1, r_222_200 hS, gi_223 hS, g1]
  by_cases c0 : a < 0
  · simp only [if_pos c0]; exact ⟨_, rfl, rfl⟩
  by_cases c1 : a ≤ 3
  · simp only [if_neg c0, if_pos c1, if_neg (Int32.not_lt.mpr c1), if_neg (by decide : ¬ (1 : Int32) = 0)]
    by_cases c2 : a = 3
    · simp only [if_pos c2]; exact ⟨_, rfl, rfl⟩
    simp only [if_neg c2]
    by_cases c3 : mI M 204 (X + 222) = 0
    · simp only [if_pos c3]; exact ⟨_, rfl, rfl⟩
    obtain ⟨-, q1, q2, q3, -⟩ := hG.2.resolve_left c3
    have q1' : mI (sI M 1100 (X + 226) 0) 1136 (X + 226) = mI M 202 (X + 222) := q1.symm
    have q2' : mI (sI M 1100 (X + 226) 0) 1137 (X + 226) = mI M 301 (X + 223) := q2.symm
    have q3' : mI (sI M 1100 (X + 226) 0) 1138 (X + 226) = mI M 203 (X + 222) := q3.symm
    simp only [if_neg c3, q1', q2', q3']
    by_cases c4 : a = 0
    · simp only [if_pos c4]; exact ⟨_, rfl, rfl⟩
    by_cases c5 : a = 1
    · simp only [if_neg c4, if_pos c5]; exact ⟨_, rfl, rfl⟩
    · simp only [if_neg c4, if_neg c5]; exact ⟨_, rfl, rfl⟩
  · simp only [if_neg c0, if_neg c1, if_pos (Int32.not_le.mp c1)]; exact ⟨_, rfl, rfl⟩
theorem op_context {M : Mm} {X p n w : Nat} {z : Nat → Nat} (H : Inv M X p n w z) (a b : Int32) : ∃ r, f_X10_context M X a b = some r ∧ f_X11_context M (X + 226) a b = some (sI M 1100 (X + 226) 0, r) := by
  obtain ⟨hS, hW, hP, hD, hC, hQ, hX, hZ, hL, hG, hH, hT⟩ := H
  have hS1 : St (sI M 1100 (X + 226) 0) X := hS
  unfold f_X10_context f_X11_context
  simp only [if_pos (k_0 hS), if_pos (k_226 hS), pi_226 hS, ob_eq, isIn_0_2]
  rcases ix_cases a (n := 8) (by omega) with h | ⟨i, hi, rfl⟩
  · simp only [(fl_out h).1, (fl_out h).2.1, ob_eq]; exact ⟨_, rfl, rfl⟩
  obtain ⟨x1, x2⟩ := hX i hi
  simp only [(fl_in hi).1, (fl_in hi).2.1, ob_eq, if_neg (by decide : ¬ (1 : Int32) = 0)]
  by_cases c0 : b < 0
  · simp only [if_pos c0]; exact ⟨_, rfl, rfl⟩
  by_cases c1 : b ≤ 2
  · simp only [if_neg c0, if_pos c1, if_neg (Int32.not_lt.mpr c1), if_neg (by decide : ¬ (1 : Int32) = 0), r_0_1004 hS, ob_eq, q_cx hS hi, gi_aCx hS hi, r_aCx_100 hS hi, gi_aCh hS hi, r_226_1130 hS1, r_226_1131 hS1, r_226_1132 hS1, az_252 hS1 hi, ai_253 hS1 hi, ai_254 hS1 hi, mA_sI, x1]
    rcases x2 with c2 | ⟨c2, -, ⟨u, u1, u2, u3⟩, ⟨r, r1, r2, r3⟩, -⟩
    · simp only [c2, if_true]
      by_cases c4 : b = 0
      · simp only [if_pos c4]; exact ⟨_, rfl, rfl⟩
      · simp only [if_neg c4]; exact ⟨_, rfl, rfl⟩
    · simp only [c2, u2, u3, r2, r3, if_neg (by decide : ¬ (1 : Int32) = 0)]
      by_cases c4 : b = 0
      · simp only [if_pos c4]; exact ⟨_, rfl, rfl⟩
      by_cases c5 : b = 1
      · simp only [if_neg c4, if_pos c5]; exact ⟨_, rfl, rfl⟩
      · simp only [if_neg c4, if_neg c5]; exact ⟨_, rfl, rfl⟩
  · simp only [if_neg c0, if_neg c1, if_pos (Int32.not_le.mp c1)]; exact ⟨_, rfl, rfl⟩
theorem op_known {M : Mm} {X p n w : Nat} {z : Nat → Nat} (H : Inv M X p n w z) (a b c : Int32) : ∃ r, f_X10_known M X a b c = some r ∧ f_X11_known M (X + 226) a b c = some (sI M 1100 (X + 226) 0, r) := by
  obtain ⟨hS, hW, ⟨p8, p1, p2, p3⟩, hD, hC, hQ, hX, hZ, hL, hG, hH, hT⟩ := H
  have hS1 : St (sI M 1100 (X + 226) 0) X := hS
  have p2' : mI (sI M 1100 (X + 226) 0) 1101 (X + 226) = nI p := p2
  unfold f_X10_known f_X11_known
  simp only [if_pos (k_0 hS), if_pos (k_226 hS), pi_226 hS, ob_eq, r_0_1001 hS]
  rcases ix_cases a (n := 8) (by omega) with h | ⟨i, hi, rfl⟩
  · simp only [(fl_out h).1, (fl_out h).2.1, ob_eq]; exact ⟨_, rfl, rfl⟩
  obtain ⟨x1, x2⟩ := hX i hi
  simp only [(fl_in hi).1, (fl_in hi).2.1, ob_eq, if_neg (by decide : ¬ (1 : Int32) = 0)]
  rcases ix_cases b (n := p) (by omega) with h | ⟨f, hf, rfl⟩
  · simp only [has_out hS p1 h, fd_out hS1 p2' h, ob_eq]; exact ⟨_, rfl, rfl⟩
  have hf8 : f < 8 := by omega
  simp only [has_in hS p1 p8 hf, fd_in hS1 p2' p8 hf, ob_eq, if_neg (by decide : ¬ (1 : Int32) = 0), r_0_1004 hS, q_cx hS hi, gi_aCx hS hi, r_aCx_100 hS hi, r_aCx_101 hS hi, r_aCh_300 hS hi, aj_aCv hS hi hf8, ai_aCs hS hi hf8, r_226_1130 hS1, r_226_1133 hS1, r_226_1134 hS1, az_252 hS1 hi, m8, nI_add, aj_256 hS1 (by omega : 8 * i + f < 64), ai_255 hS1 (by omega : 8 * i + f < 64), mA_sI, mB_sI, x1]
  rcases x2 with c2 | ⟨c2, -, -, -, g⟩
  · simp only [c2, if_true]; exact ⟨_, rfl, rfl⟩
  · simp only [c2, if_neg (by decide : ¬ (1 : Int32) = 0), (g f hf).1, (g f hf).2]
    by_cases c4 : c = 0
    · simp only [if_pos c4]; exact ⟨_, rfl, rfl⟩
    · simp only [if_neg c4]; exact ⟨_, rfl, rfl⟩
