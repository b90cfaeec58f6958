theorem op_forget {M : Mm} {X p n w : Nat} {z : Nat → Nat} (H : Inv M X p n w z) (a b : Int32) : ∃ M1 M2 r, f_X10_forget M X a b = some (M1, r) ∧ f_X11_forget M1 (X + 226) a b = some (M2, r) ∧ Inv M2 X p n w z := by
  obtain ⟨hS, hW, ⟨p8, p1, p2, p3⟩, hD, hC, hQ, hX, hZ, hL, hG, hH, hT⟩ := id H
  have d10 : ¬ (1 : Int32) = 0 := by decide
  have hN := z_ge hZ n (Nat.le_refl _)
  rcases ix_cases a (n := 8) (by omega) with h | ⟨i, hi, rfl⟩
  · refine ⟨M, _, -1, ?_, ?_, inv_thr (v := 0) H⟩
    · unfold f_X10_forget
      simp only [if_pos (k_0 hS), (fl_out h).1, ob_eq, if_true]
    · unfold f_X11_forget
      simp only [if_pos (k_226 hS), pi_226 hS, (fl_out h).2.1, ob_eq, if_true]
  by_cases c0 : b < 0
  · refine ⟨M, _, -1, ?_, ?_, inv_thr (v := 0) H⟩
    · unfold f_X10_forget
      simp only [if_pos (k_0 hS), (fl_in hi).1, ob_eq, if_neg d10, if_pos c0]
    · unfold f_X11_forget
      simp only [if_pos (k_226 hS), pi_226 hS, (fl_in hi).2.1, ob_eq, if_neg d10, isIn_0_1, if_pos c0, if_true]
  by_cases c1 : b ≤ 1
  rotate_left
  · refine ⟨M, _, -1, ?_, ?_, inv_thr (v := 0) H⟩
    · unfold f_X10_forget
      simp only [if_pos (k_0 hS), (fl_in hi).1, ob_eq, if_neg d10, if_neg c0, if_neg c1]
    · unfold f_X11_forget
      simp only [if_pos (k_226 hS), pi_226 hS, (fl_in hi).2.1, ob_eq, if_neg d10, isIn_0_1, if_neg c0, if_pos (Int32.not_le.mp c1), if_true]
  by_cases c2 : b = 1
  · -- the opener's end
    obtain ⟨x1, x2⟩ := hX i hi
    generalize hM1 : sI M 103 (aCx X i) 0 = M1
    have hS1 : St M1 X := by rw [← hM1]; exact hS
    generalize hMt : sI M1 1100 (X + 226) 0 = Mt
    have hSt : St Mt X := by rw [← hMt]; exact hS1
    have e252 : mA Mt (X + 252) = mA M (X + 252) := by rw [← hMt, ← hM1]; rfl
    refine ⟨M1, sA Mt (X + 252) (va_up (mA M (X + 252)) i 0), if mA M (X + 252) i = 0 then 0 else 1, ?_, ?_, ?_⟩
    · unfold f_X10_forget
      simp only [if_pos (k_0 hS), (fl_in hi).1, ob_eq, if_neg d10, if_neg c0, if_pos c1, if_pos c2, r_0_1004 hS, q_cx hS hi, gi_aCx hS hi, pZ_of (v := 0) (num := 103) (k_aCx hS hi) (Or.inl rfl), hM1, x1]
      by_cases c3 : mA M (X + 252) i = 0
      · simp only [if_pos c3]
      · simp only [if_neg c3]
    · unfold f_X11_forget f_X11_forget_J52
      simp only [if_pos (k_226 hS1), pi_226 hS1, (fl_in hi).2.1, ob_eq, if_neg d10, isIn_0_1, if_neg c0, if_neg (Int32.not_lt.mpr c1), if_pos c2, hMt, r_226_1130 hSt, az_252 hSt hi, wz_252 hSt hi, vz0, e252]
      by_cases c3 : mA M (X + 252) i = 0
      · simp only [if_pos c3]
      · simp only [if_neg c3]
    · have A1 : Ag X (z n) n (fun num a => num = 103 ∧ a = aCx X i) (fun a j => a = X + 252 ∧ j = i) T0 M M1 := by rw [← hM1]; exact Ag_sI (Or.inr (Or.inl ⟨rfl, rfl⟩))
      have A2 : Ag X (z n) n (fun num a => num = 103 ∧ a = aCx X i) (fun a j => a = X + 252 ∧ j = i) T0 M1 Mt := by rw [← hMt]; exact Ag_sI (Or.inl (by unfold ScI; omega))
      have A3 : Ag X (z n) n (fun num a => num = 103 ∧ a = aCx X i) (fun a j => a = X + 252 ∧ j = i) T0 Mt (sA Mt (X + 252) (va_up (mA M (X + 252)) i 0)) := Ag_sA (Or.inr (Or.inr (fun j q => (vau_ne (fun e => q ⟨rfl, e⟩)).trans (by rw [e252]))))
      have A := (A1.tr' A2).tr' A3
      refine ⟨St_Ag hN A hS, tr_W hN A hW (by intro a j h; first | exact False.elim h | ((try dsimp only at h); (try simp only [aSq, aSt, aRg, aHd, aHv, aCx, aCh, aCv, aCs, aSh, aSr] at h ⊢); omega)), tr_P hN A ⟨p8, p1, p2, p3⟩ (by intro a j h; first | exact False.elim h | ((try dsimp only at h); (try simp only [aSq, aSt, aRg, aHd, aHv, aCx, aCh, aCv, aCs, aSh, aSr] at h ⊢); omega)) (by intro a j h; first | exact False.elim h | ((try dsimp only at h); (try simp only [aSq, aSt, aRg, aHd, aHv, aCx, aCh, aCv, aCs, aSh, aSr] at h ⊢); omega)) (by intro a j h; first | exact False.elim h | ((try dsimp only at h); (try simp only [aSq, aSt, aRg, aHd, aHv, aCx, aCh, aCv, aCs, aSh, aSr] at h ⊢); omega)), tr_D hN A hD (by intro a j h; first | exact False.elim h | ((try dsimp only at h); (try simp only [aSq, aSt, aRg, aHd, aHv, aCx, aCh, aCv, aCs, aSh, aSr] at h ⊢); omega)) (by intro a j h; first | exact False.elim h | ((try dsimp only at h); (try simp only [aSq, aSt, aRg, aHd, aHv, aCx, aCh, aCv, aCs, aSh, aSr] at h ⊢); omega)), tr_C hN A hC (by intro a j h; first | exact False.elim h | ((try dsimp only at h); (try simp only [aSq, aSt, aRg, aHd, aHv, aCx, aCh, aCv, aCs, aSh, aSr] at h ⊢); omega)), fun i hi => tr_Q hN p8 hW.2.2.2 hi A (hQ i hi) (by intro a j h; first | exact False.elim h | ((try dsimp only at h); (try simp only [aSq, aSt, aRg, aHd, aHv, aCx, aCh, aCv, aCs, aSh, aSr] at h ⊢); omega)) (by intro a j h; first | exact False.elim h | ((try dsimp only at h); (try simp only [aSq, aSt, aRg, aHd, aHv, aCx, aCh, aCv, aCs, aSh, aSr] at h ⊢); omega)) (by intro a j h; first | exact False.elim h | ((try dsimp only at h); (try simp only [aSq, aSt, aRg, aHd, aHv, aCx, aCh, aCv, aCs, aSh, aSr] at h ⊢); omega)), fun i2 hi2 => ?_, tr_Z A hZ, fun l hl => tr_L p8 hZ hl (Nat.le_refl _) (Nat.le_refl _) A (hL l hl) (by have zz := z_ge hZ l (by omega); intro a j h; first | exact False.elim h | ((try dsimp only at h); (try simp only [aSq, aSt, aRg, aHd, aHv, aCx, aCh, aCv, aCs, aSh, aSr] at h ⊢); omega)) (by have zz := z_ge hZ l (by omega); intro a j h; first | exact False.elim h | ((try dsimp only at h); (try simp only [aSq, aSt, aRg, aHd, aHv, aCx, aCh, aCv, aCs, aSh, aSr] at h ⊢); omega)), tr_G hN A hG (by intro a j h; first | exact False.elim h | ((try dsimp only at h); (try simp only [aSq, aSt, aRg, aHd, aHv, aCx, aCh, aCv, aCs, aSh, aSr] at h ⊢); omega)) (by intro a j h; first | exact False.elim h | ((try dsimp only at h); (try simp only [aSq, aSt, aRg, aHd, aHv, aCx, aCh, aCv, aCs, aSh, aSr] at h ⊢); omega)) (by intro a j h; first | exact False.elim h | ((try dsimp only at h); (try simp only [aSq, aSt, aRg, aHd, aHv, aCx, aCh, aCv, aCs, aSh, aSr] at h ⊢); omega)), fun s hs => tr_H hN hs A (hH s hs) (by intro a j h; first | exact False.elim h | ((try dsimp only at h); (try simp only [aSq, aSt, aRg, aHd, aHv, aCx, aCh, aCv, aCs, aSh, aSr] at h ⊢); omega)) (by intro a j h; first | exact False.elim h | ((try dsimp only at h); (try simp only [aSq, aSt, aRg, aHd, aHv, aCx, aCh, aCv, aCs, aSh, aSr] at h ⊢); omega)) (by intro a j h; first | exact False.elim h | ((try dsimp only at h); (try simp only [aSq, aSt, aRg, aHd, aHv, aCx, aCh, aCv, aCs, aSh, aSr] at h ⊢); omega)), tr_T hN A hT (by intro a j h; first | exact False.elim h | ((try dsimp only at h); (try simp only [aSq, aSt, aRg, aHd, aHv, aCx, aCh, aCv, aCs, aSh, aSr] at h ⊢); omega)) (by intro a j h; first | exact False.elim h | ((try dsimp only at h); (try simp only [aSq, aSt, aRg, aHd, aHv, aCx, aCh, aCv, aCs, aSh, aSr] at h ⊢); omega))⟩
      by_cases e : i2 = i
      rotate_left
      · exact tr_X hN p8 hi2 A (hX i2 hi2) (by intro a j h; first | exact False.elim h | ((try dsimp only at h); (try simp only [aSq, aSt, aRg, aHd, aHv, aCx, aCh, aCv, aCs, aSh, aSr] at h ⊢); omega)) (by intro a j h; first | exact False.elim h | ((try dsimp only at h); (try simp only [aSq, aSt, aRg, aHd, aHv, aCx, aCh, aCv, aCs, aSh, aSr] at h ⊢); omega)) (by intro a j h; first | exact False.elim h | ((try dsimp only at h); (try simp only [aSq, aSt, aRg, aHd, aHv, aCx, aCh, aCv, aCs, aSh, aSr] at h ⊢); omega))
      subst e
      have g1 : mA (sA Mt (X + 252) (va_up (mA M (X + 252)) i2 0)) (X + 252) i2 = 0 := by rw [mA_sA, if_pos rfl, vau_eq]
      refine ⟨?_, Or.inl g1⟩
      rw [g1, mI_sA, ← hMt, mI_sI, if_neg (by decide), ← hM1, mI_sI, if_pos rfl, if_pos rfl]
  · -- the squeezer's end
    obtain ⟨k, r, hh, f0, q1, q2, q3, q4, q5, q6, q7, q8, q9, q10, q11, q12, q13, q14, q15⟩ := hQ i hi
    have w8 := hW.2.2.2
    generalize hMa : sI M 904 (aSq X i) 0 = Ma
    have hSa : St Ma X := by rw [← hMa]; exact hS
    generalize hM1 : sI Ma 903 (aSq X i) 1 = M1
    have hS1 : St M1 X := by rw [← hM1]; exact hSa
    generalize hMt : sI M1 1100 (X + 226) 0 = Mt
    have hSt : St Mt X := by rw [← hMt]; exact hS1
    have eo : ∀ o, mA Mt (X + o) = mA M (X + o) := fun o => by rw [← hMt, ← hM1, ← hMa]; rfl
    generalize hMb : sA Mt (X + 235) (va_up (mA M (X + 235)) i 1) = Mb
    have hSb : St Mb X := by rw [← hMb]; exact hSt
    have e236 : mA Mb (X + 236) = mA M (X + 236) := by rw [← hMb, mA_sA, if_neg (by omega), eo]
    have hle : nI hh ≤ 0 ↔ hh = 0 := by
      constructor
      · intro q
        exact Classical.byContradiction fun hne => absurd q (nI_nle (by omega) (by omega))
      · intro q; subst q; exact (by decide : nI 0 ≤ 0)
    refine ⟨M1, sA Mb (X + 236) (va_up (mA M (X + 236)) i 0), if hh = 0 then 0 else 1, ?_, ?_, ?_⟩
    · unfold f_X10_forget f_X10_forget_J63
      simp only [if_pos (k_0 hS), (fl_in hi).1, ob_eq, if_neg d10, if_neg c0, if_pos c1, if_neg c2, r_0_1003 hS, q_sq hS hi, gi_aSq hS hi, q10, pi_aSq hS hi, hMa, r_0_1003 hSa, q_sq hSa hi, pZ_of (v := 1) (num := 903) (k_aSq hSa hi) (Or.inr rfl), hM1, if_true, hle]
      by_cases c3 : hh = 0
      · simp only [if_pos c3]
      · simp only [if_neg c3]
    · unfold f_X11_forget f_X11_forget_J52
      simp only [if_pos (k_226 hS1), pi_226 hS1, (fl_in hi).2.1, ob_eq, if_neg d10, isIn_0_1, if_neg c0, if_neg (Int32.not_lt.mpr c1), if_neg c2, hMt, r_226_1113 hSt, ai_236 hSt hi, eo, q11, hle, r_226_1112 hSt, wz_235 hSt hi, vz1, hMb, r_226_1113 hSb, wi_236 hSb hi, e236, if_true]
      by_cases c3 : hh = 0
      · simp only [if_pos c3]
      · simp only [if_neg c3]
    · have A1 : Ag X (z n) n (fun num a => (num = 903 ∨ num = 904) ∧ a = aSq X i) (fun a j => (a = X + 235 ∨ a = X + 236) ∧ j = i) T0 M Ma := by rw [← hMa]; exact Ag_sI (Or.inr (Or.inl ⟨Or.inr rfl, rfl⟩))
      have A2 : Ag X (z n) n (fun num a => (num = 903 ∨ num = 904) ∧ a = aSq X i) (fun a j => (a = X + 235 ∨ a = X + 236) ∧ j = i) T0 Ma M1 := by rw [← hM1]; exact Ag_sI (Or.inr (Or.inl ⟨Or.inl rfl, rfl⟩))
      have A3 : Ag X (z n) n (fun num a => (num = 903 ∨ num = 904) ∧ a = aSq X i) (fun a j => (a = X + 235 ∨ a = X + 236) ∧ j = i) T0 M1 Mt := by rw [← hMt]; exact Ag_sI (Or.inl (by unfold ScI; omega))
      have A4 : Ag X (z n) n (fun num a => (num = 903 ∨ num = 904) ∧ a = aSq X i) (fun a j => (a = X + 235 ∨ a = X + 236) ∧ j = i) T0 Mt Mb := by rw [← hMb]; exact Ag_sA (Or.inr (Or.inr (fun j q => (vau_ne (fun e => q ⟨Or.inl rfl, e⟩)).trans (by rw [eo]))))
      have A5 : Ag X (z n) n (fun num a => (num = 903 ∨ num = 904) ∧ a = aSq X i) (fun a j => (a = X + 235 ∨ a = X + 236) ∧ j = i) T0 Mb (sA Mb (X + 236) (va_up (mA M (X + 236)) i 0)) := Ag_sA (Or.inr (Or.inr (fun j q => (vau_ne (fun e => q ⟨Or.inr rfl, e⟩)).trans (by rw [e236]))))
      have A := (((A1.tr' A2).tr' A3).tr' A4).tr' A5
      refine ⟨St_Ag hN A hS, tr_W hN A hW (by intro a j h; first | exact False.elim h | ((try dsimp only at h); (try simp only [aSq, aSt, aRg, aHd, aHv, aCx, aCh, aCv, aCs, aSh, aSr] at h ⊢); omega)), tr_P hN A ⟨p8, p1, p2, p3⟩ (by intro a j h; first | exact False.elim h | ((try dsimp only at h); (try simp only [aSq, aSt, aRg, aHd, aHv, aCx, aCh, aCv, aCs, aSh, aSr] at h ⊢); omega)) (by intro a j h; first | exact False.elim h | ((try dsimp only at h); (try simp only [aSq, aSt, aRg, aHd, aHv, aCx, aCh, aCv, aCs, aSh, aSr] at h ⊢); omega)) (by intro a j h; first | exact False.elim h | ((try dsimp only at h); (try simp only [aSq, aSt, aRg, aHd, aHv, aCx, aCh, aCv, aCs, aSh, aSr] at h ⊢); omega)), tr_D hN A hD (by intro a j h; first | exact False.elim h | ((try dsimp only at h); (try simp only [aSq, aSt, aRg, aHd, aHv, aCx, aCh, aCv, aCs, aSh, aSr] at h ⊢); omega)) (by intro a j h; first | exact False.elim h | ((try dsimp only at h); (try simp only [aSq, aSt, aRg, aHd, aHv, aCx, aCh, aCv, aCs, aSh, aSr] at h ⊢); omega)), tr_C hN A hC (by intro a j h; first | exact False.elim h | ((try dsimp only at h); (try simp only [aSq, aSt, aRg, aHd, aHv, aCx, aCh, aCv, aCs, aSh, aSr] at h ⊢); omega)), fun i2 hi2 => ?_, fun i hi => tr_X hN p8 hi A (hX i hi) (by intro a j h; first | exact False.elim h | ((try dsimp only at h); (try simp only [aSq, aSt, aRg, aHd, aHv, aCx, aCh, aCv, aCs, aSh, aSr] at h ⊢); omega)) (by intro a j h; first | exact False.elim h | ((try dsimp only at h); (try simp only [aSq, aSt, aRg, aHd, aHv, aCx, aCh, aCv, aCs, aSh, aSr] at h ⊢); omega)) (by intro a j h; first | exact False.elim h | ((try dsimp only at h); (try simp only [aSq, aSt, aRg, aHd, aHv, aCx, aCh, aCv, aCs, aSh, aSr] at h ⊢); omega)), tr_Z A hZ, fun l hl => tr_L p8 hZ hl (Nat.le_refl _) (Nat.le_refl _) A (hL l hl) (by have zz := z_ge hZ l (by omega); intro a j h; first | exact False.elim h | ((try dsimp only at h); (try simp only [aSq, aSt, aRg, aHd, aHv, aCx, aCh, aCv, aCs, aSh, aSr] at h ⊢); omega)) (by have zz := z_ge hZ l (by omega); intro a j h; first | exact False.elim h | ((try dsimp only at h); (try simp only [aSq, aSt, aRg, aHd, aHv, aCx, aCh, aCv, aCs, aSh, aSr] at h ⊢); omega)), tr_G hN A hG (by intro a j h; first | exact False.elim h | ((try dsimp only at h); (try simp only [aSq, aSt, aRg, aHd, aHv, aCx, aCh, aCv, aCs, aSh, aSr] at h ⊢); omega)) (by intro a j h; first | exact False.elim h | ((try dsimp only at h); (try simp only [aSq, aSt, aRg, aHd, aHv, aCx, aCh, aCv, aCs, aSh, aSr] at h ⊢); omega)) (by intro a j h; first | exact False.elim h | ((try dsimp only at h); (try simp only [aSq, aSt, aRg, aHd, aHv, aCx, aCh, aCv, aCs, aSh, aSr] at h ⊢); omega)), fun s hs => tr_H hN hs A (hH s hs) (by intro a j h; first | exact False.elim h | ((try dsimp only at h); (try simp only [aSq, aSt, aRg, aHd, aHv, aCx, aCh, aCv, aCs, aSh, aSr] at h ⊢); omega)) (by intro a j h; first | exact False.elim h | ((try dsimp only at h); (try simp only [aSq, aSt, aRg, aHd, aHv, aCx, aCh, aCv, aCs, aSh, aSr] at h ⊢); omega)) (by intro a j h; first | exact False.elim h | ((try dsimp only at h); (try simp only [aSq, aSt, aRg, aHd, aHv, aCx, aCh, aCv, aCs, aSh, aSr] at h ⊢); omega)), tr_T hN A hT (by intro a j h; first | exact False.elim h | ((try dsimp only at h); (try simp only [aSq, aSt, aRg, aHd, aHv, aCx, aCh, aCv, aCs, aSh, aSr] at h ⊢); omega)) (by intro a j h; first | exact False.elim h | ((try dsimp only at h); (try simp only [aSq, aSt, aRg, aHd, aHv, aCx, aCh, aCv, aCs, aSh, aSr] at h ⊢); omega))⟩
      by_cases e : i2 = i
      rotate_left
      · exact tr_Q hN p8 hW.2.2.2 hi2 A (hQ i2 hi2) (by intro a j h; first | exact False.elim h | ((try dsimp only at h); (try simp only [aSq, aSt, aRg, aHd, aHv, aCx, aCh, aCv, aCs, aSh, aSr] at h ⊢); omega)) (by intro a j h; first | exact False.elim h | ((try dsimp only at h); (try simp only [aSq, aSt, aRg, aHd, aHv, aCx, aCh, aCv, aCs, aSh, aSr] at h ⊢); omega)) (by intro a j h; first | exact False.elim h | ((try dsimp only at h); (try simp only [aSq, aSt, aRg, aHd, aHv, aCx, aCh, aCv, aCs, aSh, aSr] at h ⊢); omega))
      subst e
      have gI : ∀ num, num ≠ 903 → num ≠ 904 → 901 ≤ num → num ≤ 906 → mI (sA Mb (X + 236) (va_up (mA M (X + 236)) i2 0)) num (aSq X i2) = mI M num (aSq X i2) := fun num h0 h1 h2 h3 => A.1 _ _ (by unfold ScI; omega) (by omega) (by unfold aSq; omega)
      have gA : ∀ o, (o = 232 ∨ o = 233 ∨ o = 234) → mA (sA Mb (X + 236) (va_up (mA M (X + 236)) i2 0)) (X + o) = mA M (X + o) := fun o ho => funext fun j => A.2.1 _ _ (by unfold ScA; omega) (by omega) (by omega)
      have g903 : mI (sA Mb (X + 236) (va_up (mA M (X + 236)) i2 0)) 903 (aSq X i2) = 1 := by
        rw [mI_sA, ← hMb, mI_sA, ← hMt, mI_sI, if_neg (by decide), ← hM1, mI_sI, if_pos rfl, if_pos rfl]
      have g904 : mI (sA Mb (X + 236) (va_up (mA M (X + 236)) i2 0)) 904 (aSq X i2) = 0 := by
        rw [mI_sA, ← hMb, mI_sA, ← hMt, mI_sI, if_neg (by decide), ← hM1, mI_sI, if_neg (by decide), ← hMa, mI_sI, if_pos rfl, if_pos rfl]
      have g235 : mA (sA Mb (X + 236) (va_up (mA M (X + 236)) i2 0)) (X + 235) i2 = 1 := by rw [mA_sA, if_neg (by omega), ← hMb, mA_sA, if_pos rfl, vau_eq]
      have g236 : mA (sA Mb (X + 236) (va_up (mA M (X + 236)) i2 0)) (X + 236) i2 = 0 := by rw [mA_sA, if_pos rfl, vau_eq]
      have gSt : mA (sA Mb (X + 236) (va_up (mA M (X + 236)) i2 0)) (aSt X i2) = mA M (aSt X i2) := funext fun j => A.2.1 _ _ (by unfold ScA aSt; omega) (by unfold aSt; omega) (by unfold aSt; omega)
      exact ⟨k, r, 0, f0, q1, by rw [gI 901 (by decide) (by decide) (by decide) (by decide)]; exact q2, by rw [gA 232 (by omega)]; exact q3, q4, by rw [gI 902 (by decide) (by decide) (by decide) (by decide)]; exact q5, by rw [gA 233 (by omega)]; exact q6, by rw [g903, g235], Or.inr g235, Nat.zero_le _, g904, g236, q12, by rw [gI 906 (by decide) (by decide) (by decide) (by decide)]; exact q13, fun g hg => by rw [gA 234 (by omega), gSt]; exact q14 g hg, fun j hj => absurd hj (Nat.not_lt_zero j)⟩
/-- a letter under way -/
theorem uw {M : Mm} {X p n l : Nat} {z : Nat → Nat} (hS : St M X) (hC : IC M X n) (hL : IL M X p z l) (hl : l < n) : f_X10_letterUnderWay M X (nI l) = some (if mA M (X + 246) l = 0 then some (lA z l) else none) ∧ f_X11_isUnderWay M (X + 226) (nI l) = some (if mA M (X + 246) l = 0 then 1 else 0) := by
  have h200 := hC.1
  unfold f_X10_letterUnderWay f_X11_isUnderWay
  simp only [if_pos (k_0 hS), if_pos (k_226 hS), lt_in hS hC hL hl, ob_eq, nm_some, gI_of hL.2.1, if_neg (nI_pos (by omega : l < 2 ^ 31)), gi_226 hS, hC.2.2.1, if_neg (nI_ge hl (by omega)), r_226_1124 hS, az_246 hS (by omega : l < 200), ← hL.2.2.2.2.2.2.2.2.2.1]
  by_cases c : mA M (X + 246) l = 0
  · simp only [if_pos c, and_self]
  · simp only [if_neg c, and_self]
theorem uw_out {M : Mm} {X n : Nat} {a : Int32} (hS : St M X) (hC : IC M X n) (h : a < 0 ∨ nI n ≤ a) : f_X10_letterUnderWay M X a = some none ∧ f_X11_isUnderWay M (X + 226) a = some 0 := by
  unfold f_X10_letterUnderWay f_X11_isUnderWay
  simp only [if_pos (k_0 hS), if_pos (k_226 hS), lt_out hS hC h, ob_eq, nm_none, gi_226 hS, hC.2.2.1, true_and]
  by_cases h1 : a < 0
  · simp only [if_pos h1]
  · simp only [if_neg h1, if_pos (h.resolve_left h1)]
theorem lc_up {g : Nat → Int32} {l : Nat} (h0 : g l = 0) : ∀ {n : Nat}, l < n → lc (va_up g l 1) n = lc g n + 1
  | 0, h => absurd h (Nat.not_lt_zero l)
  | n + 1, h => by
    show lc (va_up g l 1) n + (if va_up g l 1 n = 0 then 0 else 1) = lc g n + (if g n = 0 then 0 else 1) + 1
    by_cases e : l = n
    · subst e
      rw [vau_eq, h0, if_neg (by decide), if_pos rfl, lc_congr (g := g) (fun m hm => vau_ne (by omega))]
    · rw [vau_ne (by omega), lc_up h0 (by omega)]
      omega
