theorem hb_eq {M : Mm} {X p l len : Nat} {z : Nat → Nat} {b : Int32} (hL : IL M X p z l) (b3 : mN M (lB z l) = len) : f_X4_hasByte M (lA z l) b = some (if b < 0 then 0 else if nI len ≤ b then 0 else 1) := by
  unfold f_X4_hasByte
  rw [if_pos hL.2.1, gR_of hL.2.1 hL.2.2.1, ob_eq, aL_of hL.2.2.2.1 (by decide) (by decide) b3, ob_eq]
  by_cases h1 : b < 0
  · simp only [if_pos h1]
  · by_cases h2 : nI len ≤ b
    · simp only [if_neg h1, if_pos h2]
    · simp only [if_neg h1, if_neg h2]
theorem op_bend {M : Mm} {X p n w : Nat} {z : Nat → Nat} (H : Inv M X p n w z) (a b c : Int32) : ∃ M1 M2 r, f_X10_bend M X a b c = some (M1, r) ∧ f_X11_bend M1 (X + 226) a b c = some (M2, r) ∧ Inv M2 X p n w z := by
  obtain ⟨hS, hW, ⟨p8, p1, p2, p3⟩, hD, hC, hQ, hX, hZ, hL, hG, hH, hT⟩ := id H
  have hS1 : St (sI M 1100 (X + 226) 0) X := hS
  have hC1 : IC (sI M 1100 (X + 226) 0) X n := hC
  have d10 : ¬ (1 : Int32) = 0 := by decide
  have hN := z_ge hZ n (Nat.le_refl _)
  have h200 := hC.1
  rcases ix_cases a (n := n) (by omega) with h | ⟨l, hl, rfl⟩
  · refine ⟨M, _, -1, ?_, ?_, inv_thr (v := 0) H⟩
    · unfold f_X10_bend
      simp only [if_pos (k_0 hS), (uw_out hS hC h).1, ob_eq, nm_none]
    · unfold f_X11_bend
      simp only [if_pos (k_226 hS), pi_226 hS, ob_eq, (uw_out hS1 hC1 h).2, if_true]
  have hl8 : l < 200 := by omega
  have z1 := z_ge hZ l (by omega)
  have z2 := hZ.2.1 l hl
  have z3 := z_mo hZ (l := l + 1) (m := n) (by omega) (Nat.le_refl _)
  have hL1 : IL (sI M 1100 (X + 226) 0) X p z l := (inv_thr (v := 0) H).2.2.2.2.2.2.2.2.1 l hl
  have u1 := (uw hS hC (hL l hl) hl).1
  have u2 := (uw hS1 hC1 hL1 hl).2
  rw [show mA (sI M 1100 (X + 226) 0) (X + 246) l = mA M (X + 246) l from rfl] at u2
  by_cases c0 : mA M (X + 246) l = 0
  rotate_left
  · rw [if_neg c0] at u1 u2
    refine ⟨M, _, -1, ?_, ?_, inv_thr (v := 0) H⟩
    · unfold f_X10_bend
      simp only [if_pos (k_0 hS), u1, ob_eq, nm_none]
    · unfold f_X11_bend
      simp only [if_pos (k_226 hS), pi_226 hS, ob_eq, u2, if_true]
  rw [if_pos c0] at u1 u2
  obtain ⟨l1, l2, l3, l4, l5, l6, l7, l8, l9, l10, l11, l12, l13, ⟨len, b1, b2, b3, b4, b5⟩, l15⟩ := id (hL l hl)
  have hb := hb_eq (b := b) (hL l hl) b3
  have b4' : mA (sI M 1100 (X + 226) 0) (X + 239) l = nI len := b4
  rcases ix_cases b (n := len) (by omega) with h | ⟨k, hk, rfl⟩
  · have hb0 : f_X4_hasByte M (lA z l) b = some 0 := by
      rw [hb]
      by_cases q : b < 0
      · rw [if_pos q]
      · rw [if_neg q, if_pos (h.resolve_left q)]
    refine ⟨M, _, -1, ?_, ?_, inv_thr (v := 0) H⟩
    · unfold f_X10_bend
      simp only [if_pos (k_0 hS), u1, ob_eq, nm_some, hb0, if_true]
    · unfold f_X11_bend
      simp only [if_pos (k_226 hS), pi_226 hS, ob_eq, u2, if_neg d10, r_226_1117 hS1, ai_239 hS1 hl8, b4']
      by_cases q : b < 0
      · simp only [if_pos q]
      · simp only [if_neg q, if_pos (h.resolve_left q)]
  have e1 : ¬ nI k < 0 := nI_pos (by omega)
  have e2 : ¬ nI len ≤ nI k := nI_ge hk (by omega)
  rw [if_neg e1, if_neg e2] at hb
  by_cases c1 : c < 1
  · refine ⟨M, _, -1, ?_, ?_, inv_thr (v := 0) H⟩
    · unfold f_X10_bend
      simp only [if_pos (k_0 hS), u1, ob_eq, nm_some, hb, if_neg d10, if_pos c1]
    · unfold f_X11_bend
      simp only [if_pos (k_226 hS), pi_226 hS, ob_eq, u2, if_neg d10, r_226_1117 hS1, ai_239 hS1 hl8, b4', if_neg e1, if_neg e2, isIn_1_255, if_pos c1, if_true]
  by_cases c2 : c ≤ 255
  rotate_left
  · refine ⟨M, _, -1, ?_, ?_, inv_thr (v := 0) H⟩
    · unfold f_X10_bend
      simp only [if_pos (k_0 hS), u1, ob_eq, nm_some, hb, if_neg d10, if_neg c1, if_neg c2]
    · unfold f_X11_bend
      simp only [if_pos (k_226 hS), pi_226 hS, ob_eq, u2, if_neg d10, r_226_1117 hS1, ai_239 hS1 hl8, b4', if_neg e1, if_neg e2, isIn_1_255, if_neg c1, if_pos (Int32.not_le.mp c2), if_true]
  obtain ⟨m, hm, rfl⟩ : ∃ m, m ≤ 255 ∧ c = nI m := by
    refine nI_of2 (by decide) (fun q => c1 ?_) c2
    have h1 := Int32.lt_iff_toInt_lt.mp q
    refine Int32.lt_iff_toInt_lt.mpr ?_
    have e0 : (0 : Int32).toInt = 0 := by decide
    have e1 : (1 : Int32).toInt = 1 := by decide
    omega
  obtain ⟨v, v1, v2, v3⟩ := b5 k hk
  have hx : v ^^^ m < 256 := Nat.xor_lt_two_pow (n := 8) (by omega) (by omega)
  generalize hM1 : sA M (lB z l) (va_up (mA M (lB z l)) k (nI (v ^^^ m))) = M1
  have hS1 : St M1 X := by rw [← hM1]; exact hS
  generalize hMt : sI M1 1100 (X + 226) 0 = Mt
  have hSt : St Mt X := by rw [← hMt]; exact hS1
  have hlB : X + 270 ≤ lB z l ∧ lB z l < z n := by unfold lB; omega
  have eo : ∀ o, o < 270 → mA Mt (X + o) = mA M (X + o) := fun o ho => by
    rw [← hMt, ← hM1, mA_sI, mA_sA, if_neg (by omega)]
  have u3 : f_X11_isUnderWay Mt (X + 226) (nI l) = some 1 := by
    unfold f_X11_isUnderWay
    simp only [if_pos (k_226 hSt), if_neg (nI_pos (by omega : l < 2 ^ 31)), gi_226 hSt, ob_eq, show mI Mt 1116 (X + 226) = nI n by rw [← hMt, ← hM1]; exact hC.2.2.1, if_neg (nI_ge hl (by omega)), r_226_1124 hSt, az_246 hSt hl8, eo 246 (by decide), if_pos c0]
  have m1b : mA M1 (lB z l) = va_up (mA M (lB z l)) k (nI (v ^^^ m)) := by rw [← hM1, mA_sA, if_pos rfl]
  have k1b : mK M1 (lB z l) = 20 := by rw [← hM1]; exact l4
  have n1b : mN M1 (lB z l) = len := by rw [← hM1]; exact b3
  have k1a : mK M1 (lA z l) = 5 := by rw [← hM1]; exact l2
  have r1a : mR M1 403 (lA z l) = some (lB z l) := by rw [← hM1]; exact l3
  have hkk : 64 * l + k < 12800 := by omega
  have e240 : mA Mt (X + 240) (64 * l + k) = nI v := by rw [eo 240 (by decide)]; exact v3
  generalize hM2 : sA Mt (X + 240) (va_up (mA M (X + 240)) (64 * l + k) (nI (v ^^^ m))) = M2
  have hS2 : St M2 X := by rw [← hM2]; exact hSt
  have m2r : mA M2 (X + 240) = va_up (mA M (X + 240)) (64 * l + k) (nI (v ^^^ m)) := by rw [← hM2, mA_sA, if_pos rfl]
  refine ⟨M1, M2, nI (v ^^^ m), ?_, ?_, ?_⟩
  · unfold f_X10_bend
    simp only [if_pos (k_0 hS), u1, ob_eq, nm_some, hb, if_neg d10, if_neg c1, if_pos c2, gR_of l2 l3, aI_of l4 b3 hk (by omega), v2, xorI, wI_of l4 b3 hk (by omega), hM1, gR_of k1a r1a, aI_of k1b n1b hk (by omega), m1b, vau_eq]
  · unfold f_X11_bend
    simp only [if_pos (k_226 hS1), pi_226 hS1, ob_eq, hMt, u3, if_neg d10, if_neg e1, r_226_1117 hSt, ai_239 hSt hl8, eo 239 (by decide), b4, if_neg e2, isIn_1_255, if_neg c1, if_neg (Int32.not_lt.mpr c2), r_226_1118 hSt, m64, nI_add, ai_240 hSt hkk, wi_240 hSt hkk, e240, xorI, eo 240 (by decide), hM2, r_226_1118 hS2, ai_240 hS2 hkk, m2r, vau_eq]
  · have A1 : Ag X (z n) n T0 (fun a j => a = lB z l ∨ (a = X + 240 ∧ j = 64 * l + k)) T0 M M1 := by rw [← hM1]; exact Ag_sA (Or.inr (Or.inr (fun j q => absurd (Or.inl rfl) q)))
    have A2 : Ag X (z n) n T0 (fun a j => a = lB z l ∨ (a = X + 240 ∧ j = 64 * l + k)) T0 M1 Mt := by rw [← hMt]; exact Ag_sI (Or.inl (by unfold ScI; omega))
    have A3 : Ag X (z n) n T0 (fun a j => a = lB z l ∨ (a = X + 240 ∧ j = 64 * l + k)) T0 Mt M2 := by rw [← hM2]; exact Ag_sA (Or.inr (Or.inr (fun j q => (vau_ne (fun e => q (Or.inr ⟨rfl, e⟩))).trans (by rw [eo 240 (by decide)]))))
    have A := (A1.tr' A2).tr' A3
    refine ⟨St_Ag hN A hS, tr_W hN A hW (by intro a j h; first | exact False.elim h | ((try dsimp only at h); (try simp only [aSq, aSt, aRg, aHd, aHv, aCx, aCh, aCv, aCs, aSh, aSr] at h ⊢); omega)), tr_P hN A ⟨p8, p1, p2, p3⟩ (by intro a j h; first | exact False.elim h | ((try dsimp only at h); (try simp only [aSq, aSt, aRg, aHd, aHv, aCx, aCh, aCv, aCs, aSh, aSr] at h ⊢); omega)) (by intro a j h; first | exact False.elim h | ((try dsimp only at h); (try simp only [aSq, aSt, aRg, aHd, aHv, aCx, aCh, aCv, aCs, aSh, aSr] at h ⊢); omega)) (by intro a j h; first | exact False.elim h | ((try dsimp only at h); (try simp only [aSq, aSt, aRg, aHd, aHv, aCx, aCh, aCv, aCs, aSh, aSr] at h ⊢); omega)), tr_D hN A hD (by intro a j h; first | exact False.elim h | ((try dsimp only at h); (try simp only [aSq, aSt, aRg, aHd, aHv, aCx, aCh, aCv, aCs, aSh, aSr] at h ⊢); omega)) (by intro a j h; first | exact False.elim h | ((try dsimp only at h); (try simp only [aSq, aSt, aRg, aHd, aHv, aCx, aCh, aCv, aCs, aSh, aSr] at h ⊢); omega)), tr_C hN A hC (by intro a j h; first | exact False.elim h | ((try dsimp only at h); (try simp only [aSq, aSt, aRg, aHd, aHv, aCx, aCh, aCv, aCs, aSh, aSr] at h ⊢); omega)), fun i hi => tr_Q hN p8 hW.2.2.2 hi A (hQ i hi) (by intro a j h; first | exact False.elim h | ((try dsimp only at h); (try simp only [aSq, aSt, aRg, aHd, aHv, aCx, aCh, aCv, aCs, aSh, aSr] at h ⊢); omega)) (by intro a j h; first | exact False.elim h | ((try dsimp only at h); (try simp only [aSq, aSt, aRg, aHd, aHv, aCx, aCh, aCv, aCs, aSh, aSr] at h ⊢); omega)) (by intro a j h; first | exact False.elim h | ((try dsimp only at h); (try simp only [aSq, aSt, aRg, aHd, aHv, aCx, aCh, aCv, aCs, aSh, aSr] at h ⊢); omega)), fun i hi => tr_X hN p8 hi A (hX i hi) (by intro a j h; first | exact False.elim h | ((try dsimp only at h); (try simp only [aSq, aSt, aRg, aHd, aHv, aCx, aCh, aCv, aCs, aSh, aSr] at h ⊢); omega)) (by intro a j h; first | exact False.elim h | ((try dsimp only at h); (try simp only [aSq, aSt, aRg, aHd, aHv, aCx, aCh, aCv, aCs, aSh, aSr] at h ⊢); omega)) (by intro a j h; first | exact False.elim h | ((try dsimp only at h); (try simp only [aSq, aSt, aRg, aHd, aHv, aCx, aCh, aCv, aCs, aSh, aSr] at h ⊢); omega)), tr_Z A hZ, fun l0 hl0 => ?_, tr_G hN A hG (by intro a j h; first | exact False.elim h | ((try dsimp only at h); (try simp only [aSq, aSt, aRg, aHd, aHv, aCx, aCh, aCv, aCs, aSh, aSr] at h ⊢); omega)) (by intro a j h; first | exact False.elim h | ((try dsimp only at h); (try simp only [aSq, aSt, aRg, aHd, aHv, aCx, aCh, aCv, aCs, aSh, aSr] at h ⊢); omega)) (by intro a j h; first | exact False.elim h | ((try dsimp only at h); (try simp only [aSq, aSt, aRg, aHd, aHv, aCx, aCh, aCv, aCs, aSh, aSr] at h ⊢); omega)), fun s hs => tr_H hN hs A (hH s hs) (by intro a j h; first | exact False.elim h | ((try dsimp only at h); (try simp only [aSq, aSt, aRg, aHd, aHv, aCx, aCh, aCv, aCs, aSh, aSr] at h ⊢); omega)) (by intro a j h; first | exact False.elim h | ((try dsimp only at h); (try simp only [aSq, aSt, aRg, aHd, aHv, aCx, aCh, aCv, aCs, aSh, aSr] at h ⊢); omega)) (by intro a j h; first | exact False.elim h | ((try dsimp only at h); (try simp only [aSq, aSt, aRg, aHd, aHv, aCx, aCh, aCv, aCs, aSh, aSr] at h ⊢); omega)), tr_T hN A hT (by intro a j h; first | exact False.elim h | ((try dsimp only at h); (try simp only [aSq, aSt, aRg, aHd, aHv, aCx, aCh, aCv, aCs, aSh, aSr] at h ⊢); omega)) (by intro a j h; first | exact False.elim h | ((try dsimp only at h); (try simp only [aSq, aSt, aRg, aHd, aHv, aCx, aCh, aCv, aCs, aSh, aSr] at h ⊢); omega))⟩
    by_cases e : l0 = l
    rotate_left
    · have y1 := z_ge hZ l0 (by omega)
      have y3 := z_apart hZ hl hl0 e (a := lB z l) (by unfold lB; omega) (by unfold lB; omega)
      exact tr_L p8 hZ hl0 (Nat.le_refl _) (Nat.le_refl _) A (hL l0 hl0) (by intro num a h; exact False.elim h) (by intro a j h; omega)
    · subst e
      have m2b : mA M2 (lB z l0) = va_up (mA M (lB z l0)) k (nI (v ^^^ m)) := by
        rw [← hM2, mA_sA, if_neg (by omega), ← hMt, mA_sI, m1b]
      refine IL_mk p8 hZ hl (Nat.le_refl _) (Nat.le_refl _) A (hL l0 hl) (by intro num a h; exact False.elim h) (by intro a j h; unfold lB at *; omega) ?_ ?_ ?_ ?_
      · rw [A.2.1 (X + 245) l0 (by unfold ScA; omega) (by omega) (by omega), A.1 405 (lA z l0) (by unfold ScI; omega) (fun q => q.elim) (by unfold lA; omega)]
        exact l9
      · rw [A.2.1 (X + 246) l0 (by unfold ScA; omega) (by omega) (by omega), A.1 406 (lA z l0) (by unfold ScI; omega) (fun q => q.elim) (by unfold lA; omega)]
        exact l10
      · rw [A.1 406 (lA z l0) (by unfold ScI; omega) (fun q => q.elim) (by unfold lA; omega)]
        exact l11
      · refine ⟨len, b1, b2, by rw [(A.2.2.2.1 (lB z l0) (by omega)).2]; exact b3, by rw [A.2.1 (X + 239) l0 (by unfold ScA; omega) (by omega) (by omega)]; exact b4, fun k2 hk2 => ?_⟩
        rw [m2b, m2r]
        by_cases e3 : k2 = k
        · subst e3
          rw [vau_eq, vau_eq]
          exact ⟨v ^^^ m, hx, rfl, rfl⟩
        · rw [vau_ne e3, vau_ne (by omega)]
          exact b5 k2 hk2
