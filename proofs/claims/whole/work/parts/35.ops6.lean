theorem ILb_Ag {X N n0 : Nat} {TI TA TB : Nat → Nat → Prop} {M M1 : Mm} {n l : Nat} {z : Nat → Nat} (hz : IZ M X n z) (hl : l < n) (hN : z n ≤ N) (h : Ag X N n0 TI TA TB M M1) (H : ILb M X z l) (t2 : ∀ a j, TA a j → ¬ ((a = X + 239 ∧ j = l) ∨ (a = X + 240 ∧ 64 * l ≤ j ∧ j < 64 * l + 60) ∨ a = lB z l)) : ILb M1 X z l := by
  have z1 := z_ge hz l (by omega)
  have z2 := hz.2.1 l hl
  have z3 := z_mo hz (l := l + 1) (m := n) (by omega) (Nat.le_refl _)
  obtain ⟨len, g1, g2, g3, g4, g5⟩ := H
  refine ⟨len, g1, g2, by rw [(h.2.2.2.1 (lB z l) (by unfold lB; omega)).2]; exact g3, by rw [h.2.1 (X + 239) l (by unfold ScA; omega) (fun q => t2 _ _ q (by omega)) (by omega)]; exact g4, fun k hk => ?_⟩
  rw [h.2.1 (lB z l) k (by unfold ScA lB; omega) (fun q => t2 _ _ q (by omega)) (by unfold lB; omega), h.2.1 (X + 240) (64 * l + k) (by unfold ScA; omega) (fun q => t2 _ _ q (by omega)) (by omega)]
  exact g5 k hk
/-- a letter whose outcome, loss or bytes have changed -/
theorem IL_mk {X N n0 : Nat} {TI TA TB : Nat → Nat → Prop} {M M1 : Mm} {p n l : Nat} {z : Nat → Nat} (hp : p ≤ 8) (hz : IZ M X n z) (hl : l < n) (hN : z n ≤ N) (hn : n ≤ n0) (h : Ag X N n0 TI TA TB M M1) (H : IL M X p z l) (t1 : ∀ num a, TI num a → ¬ (z l ≤ a ∧ a < z (l + 1) ∧ num ≠ 405 ∧ num ≠ 406)) (t2 : ∀ a j, TA a j → ¬ ((X + 241 ≤ a ∧ a ≤ X + 251 ∧ a ≠ X + 245 ∧ a ≠ X + 246 ∧ a ≠ X + 248 ∧ a ≠ X + 249 ∧ j = l) ∨ ((a = X + 248 ∨ a = X + 249) ∧ 8 * l ≤ j ∧ j < 8 * l + 8) ∨ a = X + 2 ∨ (z l ≤ a ∧ a < z (l + 1) ∧ a ≠ lB z l)))
    (h9 : mA M1 (X + 245) l = mI M1 405 (lA z l)) (h10 : mA M1 (X + 246) l = mI M1 406 (lA z l)) (h11 : mI M1 406 (lA z l) = 0 ∨ mI M1 406 (lA z l) = 1) (h14 : ILb M1 X z l) : IL M1 X p z l := by
  have z1 := z_ge hz l (by omega)
  have z2 := hz.2.1 l hl
  have z3 := z_mo hz (l := l + 1) (m := n) (by omega) (Nat.le_refl _)
  obtain ⟨g1, g2, g3, g4, g5, g6, g7, g8, -, -, -, g12, g13, -, g15⟩ := H
  have kA := (h.2.2.2.1 (lA z l) (by unfold lA; omega)).1
  have kB := (h.2.2.2.1 (lB z l) (by unfold lB; omega)).1
  have rA : ∀ num, mR M1 num (lA z l) = mR M num (lA z l) := fun num => h.2.2.2.2.2.1 num _ (by unfold lA; omega) (by unfold lA; omega)
  have e1 : ∀ num, (num = 400 ∨ num = 401 ∨ num = 402 ∨ num = 404 ∨ num = 407) → mI M1 num (lA z l) = mI M num (lA z l) := fun num hnum => h.1 _ _ (by unfold ScI lA; omega) (fun q => t1 _ _ q (by unfold lA; omega)) (by unfold lA; omega)
  have a1 : ∀ o, (o = 241 ∨ o = 242 ∨ o = 243 ∨ o = 244 ∨ o = 247 ∨ o = 250 ∨ o = 251) → mA M1 (X + o) l = mA M (X + o) l := fun o ho => h.2.1 _ _ (by unfold ScA; omega) (fun q => t2 _ _ q (by omega)) (by omega)
  have q1 : mQ M1 (X + 194) l = mQ M (X + 194) l := h.2.2.2.2.1 _ _ (by omega) (fun _ => by omega)
  refine ⟨by rw [q1]; exact g1, by rw [kA]; exact g2, by rw [rA]; exact g3, by rw [kB]; exact g4, by rw [e1 400 (by omega), a1 241 (by omega)]; exact g5, by rw [e1 401 (by omega), a1 242 (by omega)]; exact g6, by rw [e1 402 (by omega), a1 243 (by omega)]; exact g7, by rw [e1 404 (by omega), a1 244 (by omega)]; exact g8, h9, h10, h11, by rw [e1 407 (by omega), a1 247 (by omega)]; exact g12, by rw [e1 407 (by omega)]; exact g13, h14, ?_⟩
  rw [e1 400 (by omega), e1 407 (by omega), rA]
  refine g15.imp_left (fun ⟨y1, y2, y3⟩ => ⟨y1, y2, ?_⟩)
  obtain ⟨p1, p2, p3, p4, p5, p6, p7, p8, p9, p10, p11, p12⟩ := y3
  have kP := (h.2.2.2.1 (lP z l) (by unfold lP; omega)).1
  have kU := h.2.2.2.1 (lU z l) (by unfold lU; omega)
  have kV := h.2.2.2.1 (lV z l) (by unfold lV; omega)
  have rP : ∀ num, mR M1 num (lP z l) = mR M num (lP z l) := fun num => h.2.2.2.2.2.1 num _ (by unfold lP; omega) (by unfold lP; omega)
  have e2 : ∀ num, (num = 702 ∨ num = 703) → mI M1 num (lP z l) = mI M num (lP z l) := fun num hnum => h.1 _ _ (by unfold ScI lP; omega) (fun q => t1 _ _ q (by unfold lP; omega)) (by unfold lP; omega)
  have aU : mA M1 (lU z l) = mA M (lU z l) := funext fun j => h.2.1 _ _ (by unfold ScA lU; omega) (fun q => t2 _ _ q (by unfold lU lB; omega)) (by unfold lU; omega)
  have aV : mA M1 (lV z l) = mA M (lV z l) := funext fun j => h.2.1 _ _ (by unfold ScA lV; omega) (fun q => t2 _ _ q (by unfold lV lB; omega)) (by unfold lV; omega)
  have a2 : mA M1 (X + 2) = mA M (X + 2) := funext fun j => h.2.1 _ _ (by unfold ScA; omega) (fun q => t2 _ _ q (by omega)) (by omega)
  unfold ILp
  rw [rA, rP, rP, kP, kU.1, kU.2, kV.1, kV.2, e2 702 (by omega), e2 703 (by omega), a1 250 (by omega), a1 251 (by omega), aU, aV, a2]
  refine ⟨p1, p2, p3, p4, p5, p6, p7, p8, p9, p10, p11, fun f hf g => ?_⟩
  rw [h.2.1 (X + 248) (8 * l + f) (by unfold ScA; omega) (fun q => t2 _ _ q (by omega)) (by omega), h.2.1 (X + 249) (8 * l + f) (by unfold ScA; omega) (fun q => t2 _ _ q (by omega)) (by omega)]
  exact p12 f hf g
/-- another letter's cells -/
theorem z_apart {M : Mm} {X n l l0 a : Nat} {z : Nat → Nat} (hZ : IZ M X n z) (hl : l < n) (hl0 : l0 < n) (e : l0 ≠ l) (h1 : z l ≤ a) (h2 : a < z (l + 1)) : ¬ (z l0 ≤ a ∧ a < z (l0 + 1)) := by
  rcases Nat.lt_or_ge l l0 with q | q
  · have := z_mo hZ (l := l + 1) (m := l0) (by omega) (by omega); omega
  · have := z_mo hZ (l := l0 + 1) (m := l) (by omega) (by omega); omega
theorem op_lose {M : Mm} {X p n w : Nat} {z : Nat → Nat} (H : Inv M X p n w z) (a : Int32) : ∃ M1 M2 r, f_X10_lose M X a = some (M1, r) ∧ f_X11_lose M1 (X + 226) a = some (M2, r) ∧ Inv M2 X p n w z := by
  obtain ⟨hS, hW, ⟨p8, p1, p2, p3⟩, hD, hC, hQ, hX, hZ, hL, hG, hH, hT⟩ := id H
  have hS1 : St (sI M 1100 (X + 226) 0) X := hS
  have hC1 : IC (sI M 1100 (X + 226) 0) X n := hC
  have d10 : ¬ (1 : Int32) = 0 := by decide
  have hN := z_ge hZ n (Nat.le_refl _)
  have h200 := hC.1
  rcases ix_cases a (n := n) (by omega) with h | ⟨l, hl, rfl⟩
  · refine ⟨M, _, -1, ?_, ?_, inv_thr (v := 0) H⟩
    · unfold f_X10_lose
      simp only [if_pos (k_0 hS), (uw_out hS hC h).1, ob_eq, nm_none]
    · unfold f_X11_lose
      simp only [if_pos (k_226 hS), pi_226 hS, ob_eq, (uw_out hS1 hC1 h).2, if_true]
  have hl8 : l < 200 := by omega
  have z1 := z_ge hZ l (by omega)
  have z2 := hZ.2.1 l hl
  have z3 := z_mo hZ (l := l + 1) (m := n) (by omega) (Nat.le_refl _)
  by_cases c : mA M (X + 246) l = 0
  rotate_left
  · have hL1 : IL (sI M 1100 (X + 226) 0) X p z l := by
      have := inv_thr (v := 0) H
      exact this.2.2.2.2.2.2.2.2.1 l hl
    refine ⟨M, _, -1, ?_, ?_, inv_thr (v := 0) H⟩
    · unfold f_X10_lose
      simp only [if_pos (k_0 hS), (uw hS hC (hL l hl) hl).1, ob_eq, if_neg c, nm_none]
    · unfold f_X11_lose
      have e := (uw hS1 hC1 hL1 hl).2
      rw [show (sI M 1100 (X + 226) 0) = (sI M 1100 (X + 226) 0) from rfl, show mA (sI M 1100 (X + 226) 0) (X + 246) l = mA M (X + 246) l from rfl, if_neg c] at e
      simp only [if_pos (k_226 hS), pi_226 hS, ob_eq, e, if_true]
  obtain ⟨l1, l2, l3, l4, l5, l6, l7, l8, l9, l10, l11, l12, l13, l14, l15⟩ := hL l hl
  have hlA : X + 270 ≤ lA z l ∧ lA z l < z n := by unfold lA; omega
  generalize hMa : sI M 406 (lA z l) 1 = Ma
  have hSa : St Ma X := by rw [← hMa]; exact hS
  have e1011 : mI Ma 1011 X = nI (lc (mA M (X + 246)) n) := by rw [← hMa, mI_sI, if_neg (by decide)]; exact hT
  generalize hM1 : sI Ma 1011 X (nI (lc (mA M (X + 246)) n + 1)) = M1
  have hS1 : St M1 X := by rw [← hM1]; exact hSa
  generalize hMt : sI M1 1100 (X + 226) 0 = Mt
  have hSt : St Mt X := by rw [← hMt]; exact hS1
  have eo : ∀ o, mA Mt (X + o) = mA M (X + o) := fun o => by rw [← hMt, ← hM1, ← hMa]; rfl
  have u1 : f_X11_isUnderWay Mt (X + 226) (nI l) = some 1 := by
    unfold f_X11_isUnderWay
    simp only [if_pos (k_226 hSt), if_neg (nI_pos (by omega : l < 2 ^ 31)), gi_226 hSt, ob_eq, show mI Mt 1116 (X + 226) = nI n by rw [← hMt, ← hM1, ← hMa]; exact hC.2.2.1, if_neg (nI_ge hl (by omega)), r_226_1124 hSt, az_246 hSt hl8, eo, if_pos c]
  refine ⟨M1, sA Mt (X + 246) (va_up (mA M (X + 246)) l 1), 0, ?_, ?_, ?_⟩
  · unfold f_X10_lose
    simp only [if_pos (k_0 hS), (uw hS hC (hL l hl) hl).1, ob_eq, if_pos c, nm_some, pZ_of (v := 1) (num := 406) l2 (Or.inr rfl), hMa, gi_0 hSa, e1011, nI_1, pi_0 hSa, hM1]
  · unfold f_X11_lose
    simp only [if_pos (k_226 hS1), pi_226 hS1, ob_eq, hMt, u1, if_neg d10, r_226_1124 hSt, wz_246 hSt hl8, vz1, eo]
  · have A1 : Ag X (z n) n (fun num a => (num = 406 ∧ a = lA z l) ∨ (num = 1011 ∧ a = X)) (fun a j => a = X + 246 ∧ j = l) T0 M Ma := by rw [← hMa]; exact Ag_sI (Or.inr (Or.inl (Or.inl ⟨rfl, rfl⟩)))
    have A2 : Ag X (z n) n (fun num a => (num = 406 ∧ a = lA z l) ∨ (num = 1011 ∧ a = X)) (fun a j => a = X + 246 ∧ j = l) T0 Ma M1 := by rw [← hM1]; exact Ag_sI (Or.inr (Or.inl (Or.inr ⟨rfl, rfl⟩)))
    have A3 : Ag X (z n) n (fun num a => (num = 406 ∧ a = lA z l) ∨ (num = 1011 ∧ a = X)) (fun a j => a = X + 246 ∧ j = l) T0 M1 Mt := by rw [← hMt]; exact Ag_sI (Or.inl (by unfold ScI; omega))
    have A4 : Ag X (z n) n (fun num a => (num = 406 ∧ a = lA z l) ∨ (num = 1011 ∧ a = X)) (fun a j => a = X + 246 ∧ j = l) T0 Mt (sA Mt (X + 246) (va_up (mA M (X + 246)) l 1)) := Ag_sA (Or.inr (Or.inr (fun j q => (vau_ne (fun e => q ⟨rfl, e⟩)).trans (by rw [eo]))))
    have A := ((A1.tr' A2).tr' A3).tr' A4
    have g246 : mA (sA Mt (X + 246) (va_up (mA M (X + 246)) l 1)) (X + 246) = va_up (mA M (X + 246)) l 1 := by rw [mA_sA, if_pos rfl]
    have g406 : mI (sA Mt (X + 246) (va_up (mA M (X + 246)) l 1)) 406 (lA z l) = 1 := by
      rw [mI_sA, ← hMt, mI_sI, if_neg (by decide), ← hM1, mI_sI, if_neg (by decide), ← hMa, mI_sI, if_pos rfl, if_pos rfl]
    have g1011 : mI (sA Mt (X + 246) (va_up (mA M (X + 246)) l 1)) 1011 X = nI (lc (mA M (X + 246)) n + 1) := by
      rw [mI_sA, ← hMt, mI_sI, if_neg (by decide), ← hM1, mI_sI, if_pos rfl, if_pos rfl]
    refine ⟨St_Ag hN A hS, tr_W hN A hW (by intro a j h; first | exact False.elim h | ((try dsimp only at h); (try simp only [aSq, aSt, aRg, aHd, aHv, aCx, aCh, aCv, aCs, aSh, aSr] at h ⊢); omega)), tr_P hN A ⟨p8, p1, p2, p3⟩ (by intro a j h; first | exact False.elim h | ((try dsimp only at h); (try simp only [aSq, aSt, aRg, aHd, aHv, aCx, aCh, aCv, aCs, aSh, aSr] at h ⊢); omega)) (by intro a j h; first | exact False.elim h | ((try dsimp only at h); (try simp only [aSq, aSt, aRg, aHd, aHv, aCx, aCh, aCv, aCs, aSh, aSr] at h ⊢); omega)) (by intro a j h; first | exact False.elim h | ((try dsimp only at h); (try simp only [aSq, aSt, aRg, aHd, aHv, aCx, aCh, aCv, aCs, aSh, aSr] at h ⊢); omega)), tr_D hN A hD (by intro a j h; first | exact False.elim h | ((try dsimp only at h); (try simp only [aSq, aSt, aRg, aHd, aHv, aCx, aCh, aCv, aCs, aSh, aSr] at h ⊢); omega)) (by intro a j h; first | exact False.elim h | ((try dsimp only at h); (try simp only [aSq, aSt, aRg, aHd, aHv, aCx, aCh, aCv, aCs, aSh, aSr] at h ⊢); omega)), tr_C hN A hC (by intro a j h; first | exact False.elim h | ((try dsimp only at h); (try simp only [aSq, aSt, aRg, aHd, aHv, aCx, aCh, aCv, aCs, aSh, aSr] at h ⊢); omega)), fun i hi => tr_Q hN p8 hW.2.2.2 hi A (hQ i hi) (by intro a j h; first | exact False.elim h | ((try dsimp only at h); (try simp only [aSq, aSt, aRg, aHd, aHv, aCx, aCh, aCv, aCs, aSh, aSr] at h ⊢); omega)) (by intro a j h; first | exact False.elim h | ((try dsimp only at h); (try simp only [aSq, aSt, aRg, aHd, aHv, aCx, aCh, aCv, aCs, aSh, aSr] at h ⊢); omega)) (by intro a j h; first | exact False.elim h | ((try dsimp only at h); (try simp only [aSq, aSt, aRg, aHd, aHv, aCx, aCh, aCv, aCs, aSh, aSr] at h ⊢); omega)), fun i hi => tr_X hN p8 hi A (hX i hi) (by intro a j h; first | exact False.elim h | ((try dsimp only at h); (try simp only [aSq, aSt, aRg, aHd, aHv, aCx, aCh, aCv, aCs, aSh, aSr] at h ⊢); omega)) (by intro a j h; first | exact False.elim h | ((try dsimp only at h); (try simp only [aSq, aSt, aRg, aHd, aHv, aCx, aCh, aCv, aCs, aSh, aSr] at h ⊢); omega)) (by intro a j h; first | exact False.elim h | ((try dsimp only at h); (try simp only [aSq, aSt, aRg, aHd, aHv, aCx, aCh, aCv, aCs, aSh, aSr] at h ⊢); omega)), tr_Z A hZ, fun l0 hl0 => ?_, tr_G hN A hG (by intro a j h; first | exact False.elim h | ((try dsimp only at h); (try simp only [aSq, aSt, aRg, aHd, aHv, aCx, aCh, aCv, aCs, aSh, aSr] at h ⊢); omega)) (by intro a j h; first | exact False.elim h | ((try dsimp only at h); (try simp only [aSq, aSt, aRg, aHd, aHv, aCx, aCh, aCv, aCs, aSh, aSr] at h ⊢); omega)) (by intro a j h; first | exact False.elim h | ((try dsimp only at h); (try simp only [aSq, aSt, aRg, aHd, aHv, aCx, aCh, aCv, aCs, aSh, aSr] at h ⊢); omega)), fun s hs => tr_H hN hs A (hH s hs) (by intro a j h; first | exact False.elim h | ((try dsimp only at h); (try simp only [aSq, aSt, aRg, aHd, aHv, aCx, aCh, aCv, aCs, aSh, aSr] at h ⊢); omega)) (by intro a j h; first | exact False.elim h | ((try dsimp only at h); (try simp only [aSq, aSt, aRg, aHd, aHv, aCx, aCh, aCv, aCs, aSh, aSr] at h ⊢); omega)) (by intro a j h; first | exact False.elim h | ((try dsimp only at h); (try simp only [aSq, aSt, aRg, aHd, aHv, aCx, aCh, aCv, aCs, aSh, aSr] at h ⊢); omega)), ?_⟩
    · by_cases e : l0 = l
      rotate_left
      · have y1 := z_ge hZ l0 (by omega)
        have y3 := z_apart hZ hl hl0 e (a := lA z l) (by unfold lA; omega) (by unfold lA; omega)
        exact tr_L p8 hZ hl0 (Nat.le_refl _) (Nat.le_refl _) A (hL l0 hl0) (by intro num a h; rcases h with ⟨-, rfl⟩ | ⟨-, rfl⟩; exact y3; omega) (by intro a j h; omega)
      · subst e
        refine IL_mk p8 hZ hl (Nat.le_refl _) (Nat.le_refl _) A (hL l0 hl) (by intro num a h; omega) (by intro a j h; omega) ?_ (by rw [g246, vau_eq, g406]) (Or.inr g406) (ILb_Ag hZ hl (Nat.le_refl _) A l14 (by intro a j h; unfold lB; omega))
        rw [A.2.1 (X + 245) l0 (by unfold ScA; omega) (by omega) (by omega), A.1 405 (lA z l0) (by unfold ScI; omega) (by omega) (by omega)]
        exact l9
    · unfold IT
      rw [g1011, g246, lc_up c hl]
