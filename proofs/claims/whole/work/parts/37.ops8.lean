/-! Shelves. -/
theorem sB_sB (M : Mm) (a : Nat) (g g2 : Nat → Int64) : sB (sB M a g) a g2 = sB M a g2 := by
  have e : va_up (va_up (mB M) a g) a g2 = va_up (mB M) a g2 := bx_uu _ _ _ _
  show (mK M, mN M, mI M, mJ M, mR M, mA M, va_up (va_up (mB M) a g) a g2, mQ M, mS M) = _
  rw [e]; rfl
theorem sB_self (M : Mm) (a : Nat) {g : Nat → Int64} (h : ∀ j, g j = mB M a j) : sB M a g = M := by
  have e : va_up (mB M) a g = mB M := by
    funext x
    by_cases q : x = a
    · subst q; rw [vau_eq]; exact funext h
    · rw [vau_ne q]
  show (mK M, mN M, mI M, mJ M, mR M, mA M, va_up (mB M) a g, mQ M, mS M) = _
  rw [e]; rfl
theorem sA_sA (M : Mm) (a : Nat) (g g2 : Nat → Int32) : sA (sA M a g) a g2 = sA M a g2 := by
  have e : va_up (va_up (mA M) a g) a g2 = va_up (mA M) a g2 := bx_uu _ _ _ _
  show (mK M, mN M, mI M, mJ M, mR M, va_up (va_up (mA M) a g) a g2, mB M, mQ M, mS M) = _
  rw [e]; rfl
theorem sA_self (M : Mm) (a : Nat) {g : Nat → Int32} (h : ∀ j, g j = mA M a j) : sA M a g = M := by
  have e : va_up (mA M) a g = mA M := by
    funext x
    by_cases q : x = a
    · subst q; rw [vau_eq]; exact funext h
    · rw [vau_ne q]
  show (mK M, mN M, mI M, mJ M, mR M, va_up (mA M) a g, mB M, mQ M, mS M) = _
  rw [e]; rfl
theorem fillJ_loop {M : Mm} {a n : Nat} {v : Int64} (hk : mK M a = 21) (hn : mN M a = n) (h9 : n < 900) : ∀ d i fu, i + d = n → d < fu → f_J7_fill_d0a16_L6 fu (sB M a (fun j => if j < i then v else mB M a j)) a v (nI i) (nI n) = some (sB M a (fun j => if j < n then v else mB M a j)) := by
  intro d
  induction d with
  | zero =>
    intro i fu h1 h2
    obtain ⟨fu, rfl⟩ : ∃ k, fu = k + 1 := ⟨fu - 1, by omega⟩
    have e : i = n := by omega
    subst e
    rw [f_J7_fill_d0a16_L6, if_pos (nI_le (Nat.le_refl _) (by omega))]
  | succ d ih =>
    intro i fu h1 h2
    obtain ⟨fu, rfl⟩ : ∃ k, fu = k + 1 := ⟨fu - 1, by omega⟩
    rw [f_J7_fill_d0a16_L6, if_neg (nI_ge (by omega) (by omega)), wJ_of (n := n) (show mK (sB M a _) a = 21 from hk) (show mN (sB M a _) a = n from hn) (by omega) (by omega), ob_eq, sB_sB, nI_1]
    have e := ih (i + 1) fu (by omega) (by omega)
    have e2 : va_up (mB (sB M a (fun j => if j < i then v else mB M a j)) a) i v = fun j => if j < i + 1 then v else mB M a j := by
      funext j
      rw [mB_sB, if_pos rfl]
      by_cases q : j = i
      · subst q; rw [vau_eq, if_pos (by omega)]
      · rw [vau_ne q]
        by_cases q2 : j < i
        · rw [if_pos q2, if_pos (by omega)]
        · rw [if_neg q2, if_neg (by omega)]
    rw [e2]
    exact e
theorem fillJ {M : Mm} {a n : Nat} {v : Int64} (hk : mK M a = 21) (hn : mN M a = n) (h9 : n < 900) : f_J7_fill_d0a16 M a v = some (sB M a (fun j => if j < n then v else mB M a j)) := by
  unfold f_J7_fill_d0a16
  rw [aL_of hk (by decide) (by decide) hn, ob_eq]
  have e := fillJ_loop (v := v) hk hn h9 n 0 1000 (by omega) (by omega)
  rw [sB_self M a (g := fun j => if j < 0 then v else mB M a j) (fun j => if_neg (Nat.not_lt_zero j))] at e
  exact e
theorem fillI_loop {M : Mm} {a n : Nat} {v : Int32} (hk : mK M a = 20) (hn : mN M a = n) (h9 : n < 900) : ∀ d i fu, i + d = n → d < fu → f_J7_fill_53178_L5 fu (sA M a (fun j => if j < i then v else mA M a j)) a v (nI i) (nI n) = some (sA M a (fun j => if j < n then v else mA M a j)) := by
  intro d
  induction d with
  | zero =>
    intro i fu h1 h2
    obtain ⟨fu, rfl⟩ : ∃ k, fu = k + 1 := ⟨fu - 1, by omega⟩
    have e : i = n := by omega
    subst e
    rw [f_J7_fill_53178_L5, if_pos (nI_le (Nat.le_refl _) (by omega))]
  | succ d ih =>
    intro i fu h1 h2
    obtain ⟨fu, rfl⟩ : ∃ k, fu = k + 1 := ⟨fu - 1, by omega⟩
    rw [f_J7_fill_53178_L5, if_neg (nI_ge (by omega) (by omega)), wI_of (n := n) (show mK (sA M a _) a = 20 from hk) (show mN (sA M a _) a = n from hn) (by omega) (by omega), ob_eq, sA_sA, nI_1]
    have e := ih (i + 1) fu (by omega) (by omega)
    have e2 : va_up (mA (sA M a (fun j => if j < i then v else mA M a j)) a) i v = fun j => if j < i + 1 then v else mA M a j := by
      funext j
      rw [mA_sA, if_pos rfl]
      by_cases q : j = i
      · subst q; rw [vau_eq, if_pos (by omega)]
      · rw [vau_ne q]
        by_cases q2 : j < i
        · rw [if_pos q2, if_pos (by omega)]
        · rw [if_neg q2, if_neg (by omega)]
    rw [e2]
    exact e
theorem fillI {M : Mm} {a n : Nat} {v : Int32} (hk : mK M a = 20) (hn : mN M a = n) (h9 : n < 900) : f_J7_fill_53178 M a v = some (sA M a (fun j => if j < n then v else mA M a j)) := by
  unfold f_J7_fill_53178
  rw [aL_of hk (by decide) (by decide) hn, ob_eq]
  have e := fillI_loop (v := v) hk hn h9 n 0 1000 (by omega) (by omega)
  rw [sA_self M a (g := fun j => if j < 0 then v else mA M a j) (fun j => if_neg (Nat.not_lt_zero j))] at e
  exact e
theorem hr_eq {M : Mm} {X s sz : Nat} {what : Int32} (hS : St M X) (hs : s < 8) (hz : sz ≤ 60) : f_X8_holdRow M (aSh X s) what (nI sz) = some (sB (sI (sI M 801 (aSh X s) what) 802 (aSh X s) (nI sz)) (aSr X s) (fun j => if j < 60 then 0 else mB M (aSr X s) j)) := by
  have h1 : ¬ (60 : Int32) < nI sz := nI_nlt (a := 60) (b := sz) hz (by omega)
  have h2 : (if 0 < nI sz then nI sz else 0) = nI sz := by
    by_cases q : sz = 0
    · subst q; rfl
    · have q2 : (0 : Int32) < nI sz := nI_lt (a := 0) (by omega) (by omega)
      rw [if_pos q2]
  unfold f_X8_holdRow
  rw [if_pos (k_aSh hS hs), pi_aSh hS hs, ob_eq, if_neg h1, h2, pi_aSh (M := sI M 801 (aSh X s) what) hS hs, ob_eq, r_aSh_800 (M := sI (sI M 801 (aSh X s) what) 802 (aSh X s) (nI sz)) hS hs, ob_eq, fillJ (n := 60) (k_aSr (M := sI (sI M 801 (aSh X s) what) 802 (aSh X s) (nI sz)) hS hs) (n_aSr (M := sI (sI M 801 (aSh X s) what) 802 (aSh X s) (nI sz)) hS hs) (by decide), ob_eq]
  rfl
theorem op_put {M : Mm} {X p n w : Nat} {z : Nat → Nat} (H : Inv M X p n w z) (a b c : Int32) : ∃ M1 M2 r, f_X10_put M X a b c = some (M1, r) ∧ f_X11_put M1 (X + 226) a b c = some (M2, r) ∧ Inv M2 X p n w z := by
  obtain ⟨hS, hW, ⟨p8, p1, p2, p3⟩, hD, hC, hQ, hX, hZ, hL, hG, hH, hT⟩ := id H
  have hS1 : St (sI M 1100 (X + 226) 0) X := hS
  have d10 : ¬ (1 : Int32) = 0 := by decide
  have hN := z_ge hZ n (Nat.le_refl _)
  rcases ix_cases a (n := 8) (by omega) with h | ⟨s, hs, rfl⟩
  · refine ⟨M, _, -1, ?_, ?_, inv_thr (v := 0) H⟩
    · unfold f_X10_put
      simp only [if_pos (k_0 hS), (fl_out h).2.2.1, ob_eq, if_true]
    · unfold f_X11_put
      simp only [if_pos (k_226 hS), pi_226 hS, (fl_out h).2.2.2, ob_eq, if_true]
  by_cases c0 : c < 0
  · refine ⟨M, _, -1, ?_, ?_, inv_thr (v := 0) H⟩
    · unfold f_X10_put
      simp only [if_pos (k_0 hS), (fl_in hs).2.2.1, ob_eq, if_neg d10, if_pos c0]
    · unfold f_X11_put
      simp only [if_pos (k_226 hS), pi_226 hS, (fl_in hs).2.2.2, ob_eq, if_neg d10, isIn_0_30000, if_pos c0, if_true]
  by_cases c1 : c ≤ 30000
  rotate_left
  · refine ⟨M, _, -1, ?_, ?_, inv_thr (v := 0) H⟩
    · unfold f_X10_put
      simp only [if_pos (k_0 hS), (fl_in hs).2.2.1, ob_eq, if_neg d10, if_neg c0, if_neg c1]
    · unfold f_X11_put
      simp only [if_pos (k_226 hS), pi_226 hS, (fl_in hs).2.2.2, ob_eq, if_neg d10, isIn_0_30000, if_neg c0, if_pos (Int32.not_le.mp c1), if_true]
  obtain ⟨h1, hk, h2, h3, h4, h5⟩ := id (hH s hs)
  have h3' : mA (sI M 1100 (X + 226) 0) (X + 265) s = nI hk := h3
  by_cases e0 : hk = 0
  · subst e0
    refine ⟨M, _, -11, ?_, ?_, inv_thr (v := 0) H⟩
    · unfold f_X10_put
      simp only [if_pos (k_0 hS), (fl_in hs).2.2.1, ob_eq, if_neg d10, if_neg c0, if_pos c1, r_0_1006 hS, q_sh hS hs, gi_aSh hS hs, h1, h3, if_pos (show nI 0 = 0 from rfl)]
    · unfold f_X11_put
      simp only [if_pos (k_226 hS), pi_226 hS, (fl_in hs).2.2.2, ob_eq, if_neg d10, isIn_0_30000, if_neg c0, if_neg (Int32.not_lt.mpr c1), r_226_1153 hS1, ai_265 hS1 hs, h3', if_neg (by decide : ¬ (2 : Int32) ≤ nI 0), if_pos (show nI 0 = 0 from rfl)]
  by_cases e1 : hk = 1
  · subst e1
    refine ⟨M, _, -12, ?_, ?_, inv_thr (v := 0) H⟩
    · unfold f_X10_put
      simp only [if_pos (k_0 hS), (fl_in hs).2.2.1, ob_eq, if_neg d10, if_neg c0, if_pos c1, r_0_1006 hS, q_sh hS hs, gi_aSh hS hs, h1, h3, if_neg (by decide : ¬ nI 1 = 0), if_pos (show nI 1 = 1 from rfl)]
    · unfold f_X11_put
      simp only [if_pos (k_226 hS), pi_226 hS, (fl_in hs).2.2.2, ob_eq, if_neg d10, isIn_0_30000, if_neg c0, if_neg (Int32.not_lt.mpr c1), r_226_1153 hS1, ai_265 hS1 hs, h3', if_neg (by decide : ¬ (2 : Int32) ≤ nI 1), if_neg (by decide : ¬ nI 1 = 0)]
  obtain ⟨sz, s1, s2, s3, s4⟩ := h5 (by omega)
  have n0 : ¬ nI hk = 0 := nI_ne0 (by omega) (by omega)
  have n1 : ¬ nI hk = 1 := fun q => e1 ((nI_eq (a := hk) (b := 1) (by omega) (by decide)).mp q)
  have n2 : (2 : Int32) ≤ nI hk := nI_le (a := 2) (by omega) (by omega)
  have hpl : f_X8_hasPlaces M (aSh X s) b 1 = some (if b < 0 then 0 else if nI sz - 1 < b then 0 else 1) := by
    unfold f_X8_hasPlaces
    simp only [if_pos (k_aSh hS hs), if_neg (by decide : ¬ (1 : Int32) < 0), gi_aSh hS hs, ob_eq, s2]
    by_cases q : b < 0
    · simp only [if_pos q]
    · by_cases q2 : nI sz - 1 < b
      · simp only [if_neg q, if_pos q2]
      · simp only [if_neg q, if_neg q2]
  have s3' : mA (sI M 1100 (X + 226) 0) (X + 266) s = nI sz := s3
  rcases ix_cases b (n := sz) (by omega) with h | ⟨k, hkk, rfl⟩
  · have hp0 : f_X8_hasPlaces M (aSh X s) b 1 = some 0 := by
      rw [hpl]
      by_cases q : b < 0
      · rw [if_pos q]
      · have q2 := Int32.le_iff_toInt_le.mp (h.resolve_left q)
        have q3 : nI sz - 1 < b := by
          refine Int32.lt_iff_toInt_lt.mpr ?_
          have q4 := pk_sub_toInt (a := sz) (b := 1) (by omega) (by decide)
          rw [show (nI sz - 1).toInt = _ from q4]
          rw [nI_toInt (by omega)] at q2
          omega
        rw [if_neg q, if_pos q3]
    refine ⟨M, _, -13, ?_, ?_, inv_thr (v := 0) H⟩
    · unfold f_X10_put
      simp only [if_pos (k_0 hS), (fl_in hs).2.2.1, ob_eq, if_neg d10, if_neg c0, if_pos c1, r_0_1006 hS, q_sh hS hs, gi_aSh hS hs, h1, h3, if_neg n0, if_neg n1, hp0, if_true]
    · unfold f_X11_put
      simp only [if_pos (k_226 hS), pi_226 hS, (fl_in hs).2.2.2, ob_eq, if_neg d10, isIn_0_30000, if_neg c0, if_neg (Int32.not_lt.mpr c1), r_226_1153 hS1, ai_265 hS1 hs, h3', if_pos n2, r_226_1154 hS1, ai_266 hS1 hs, s3']
      by_cases q : b < 0
      · simp only [if_pos q]
      · simp only [if_neg q, if_neg (not_le_of_out h q)]
  have hp1 : f_X8_hasPlaces M (aSh X s) (nI k) 1 = some 1 := by
    rw [hpl, if_neg (nI_pos (by omega)), if_neg]
    intro q
    have q1 := Int32.lt_iff_toInt_lt.mp q
    rw [show (nI sz - 1).toInt = _ from pk_sub_toInt (a := sz) (b := 1) (by omega) (by decide), nI_toInt (by omega)] at q1
    omega
  have hk60 : k < 60 := by omega
  have hk5 : 64 * s + k < 512 := by omega
  generalize hM1 : sB M (aSr X s) (va_up (mB M (aSr X s)) k c.toInt64) = M1
  have hS1 : St M1 X := by rw [← hM1]; exact hS
  generalize hMt : sI M1 1100 (X + 226) 0 = Mt
  have hSt : St Mt X := by rw [← hMt]; exact hS1
  have eA : mA Mt = mA M := by rw [← hMt, ← hM1]; rfl
  have e268 : mB Mt (X + 268) = mB M (X + 268) := by rw [← hMt, mB_sI, ← hM1, mB_sB, if_neg (by unfold aSr; omega)]
  generalize hM2 : sB Mt (X + 268) (va_up (mB M (X + 268)) (64 * s + k) c.toInt64) = M2
  refine ⟨M1, M2, mB M (aSr X s) k, ?_, ?_, ?_⟩
  · unfold f_X10_put
    simp only [if_pos (k_0 hS), (fl_in hs).2.2.1, ob_eq, if_neg d10, if_neg c0, if_pos c1, r_0_1006 hS, q_sh hS hs, gi_aSh hS hs, h1, h3, if_neg n0, if_neg n1, hp1, r_aSh_800 hS hs, aj_aSr hS hs hk60, wj_aSr hS hs hk60, hM1]
  · unfold f_X11_put
    simp only [if_pos (k_226 hS1), pi_226 hS1, (fl_in hs).2.2.2, ob_eq, if_neg d10, isIn_0_30000, if_neg c0, if_neg (Int32.not_lt.mpr c1), hMt, r_226_1153 hSt, ai_265 hSt hs, eA, h3, if_pos n2, if_neg (nI_pos (by omega : k < 2 ^ 31)), r_226_1154 hSt, ai_266 hSt hs, s3, if_pos (nI_lt hkk (by omega)), r_226_1156 hSt, m64, nI_add, aj_268 hSt hk5, wj_268 hSt hk5, e268, hM2, s4 k hkk]
  · have A1 : Ag X (z n) n T0 T0 (fun a j => a = aSr X s ∨ (a = X + 268 ∧ j = 64 * s + k)) M M1 := by rw [← hM1]; exact Ag_sB (Or.inr (Or.inr (fun j q => absurd (Or.inl rfl) q)))
    have A2 : Ag X (z n) n T0 T0 (fun a j => a = aSr X s ∨ (a = X + 268 ∧ j = 64 * s + k)) M1 Mt := by rw [← hMt]; exact Ag_sI (Or.inl (by unfold ScI; omega))
    have A3 : Ag X (z n) n T0 T0 (fun a j => a = aSr X s ∨ (a = X + 268 ∧ j = 64 * s + k)) Mt M2 := by rw [← hM2]; exact Ag_sB (Or.inr (Or.inr (fun j q => (vau_ne (fun e => q (Or.inr ⟨rfl, e⟩))).trans (by rw [e268]))))
    have A := (A1.tr' A2).tr' A3
    refine ⟨St_Ag hN A hS, tr_W hN A hW (by intro a j h; first | exact False.elim h | ((try dsimp only at h); (try simp only [aSq, aSt, aRg, aHd, aHv, aCx, aCh, aCv, aCs, aSh, aSr] at h ⊢); omega)), tr_P hN A ⟨p8, p1, p2, p3⟩ (by intro a j h; first | exact False.elim h | ((try dsimp only at h); (try simp only [aSq, aSt, aRg, aHd, aHv, aCx, aCh, aCv, aCs, aSh, aSr] at h ⊢); omega)) (by intro a j h; first | exact False.elim h | ((try dsimp only at h); (try simp only [aSq, aSt, aRg, aHd, aHv, aCx, aCh, aCv, aCs, aSh, aSr] at h ⊢); omega)) (by intro a j h; first | exact False.elim h | ((try dsimp only at h); (try simp only [aSq, aSt, aRg, aHd, aHv, aCx, aCh, aCv, aCs, aSh, aSr] at h ⊢); omega)), tr_D hN A hD (by intro a j h; first | exact False.elim h | ((try dsimp only at h); (try simp only [aSq, aSt, aRg, aHd, aHv, aCx, aCh, aCv, aCs, aSh, aSr] at h ⊢); omega)) (by intro a j h; first | exact False.elim h | ((try dsimp only at h); (try simp only [aSq, aSt, aRg, aHd, aHv, aCx, aCh, aCv, aCs, aSh, aSr] at h ⊢); omega)), tr_C hN A hC (by intro a j h; first | exact False.elim h | ((try dsimp only at h); (try simp only [aSq, aSt, aRg, aHd, aHv, aCx, aCh, aCv, aCs, aSh, aSr] at h ⊢); omega)), fun i hi => tr_Q hN p8 hW.2.2.2 hi A (hQ i hi) (by intro a j h; first | exact False.elim h | ((try dsimp only at h); (try simp only [aSq, aSt, aRg, aHd, aHv, aCx, aCh, aCv, aCs, aSh, aSr] at h ⊢); omega)) (by intro a j h; first | exact False.elim h | ((try dsimp only at h); (try simp only [aSq, aSt, aRg, aHd, aHv, aCx, aCh, aCv, aCs, aSh, aSr] at h ⊢); omega)) (by intro a j h; first | exact False.elim h | ((try dsimp only at h); (try simp only [aSq, aSt, aRg, aHd, aHv, aCx, aCh, aCv, aCs, aSh, aSr] at h ⊢); omega)), fun i hi => tr_X hN p8 hi A (hX i hi) (by intro a j h; first | exact False.elim h | ((try dsimp only at h); (try simp only [aSq, aSt, aRg, aHd, aHv, aCx, aCh, aCv, aCs, aSh, aSr] at h ⊢); omega)) (by intro a j h; first | exact False.elim h | ((try dsimp only at h); (try simp only [aSq, aSt, aRg, aHd, aHv, aCx, aCh, aCv, aCs, aSh, aSr] at h ⊢); omega)) (by intro a j h; first | exact False.elim h | ((try dsimp only at h); (try simp only [aSq, aSt, aRg, aHd, aHv, aCx, aCh, aCv, aCs, aSh, aSr] at h ⊢); omega)), tr_Z A hZ, fun l hl => tr_L p8 hZ hl (Nat.le_refl _) (Nat.le_refl _) A (hL l hl) (by have zz := z_ge hZ l (by omega); intro a j h; first | exact False.elim h | ((try dsimp only at h); (try simp only [aSq, aSt, aRg, aHd, aHv, aCx, aCh, aCv, aCs, aSh, aSr] at h ⊢); omega)) (by have zz := z_ge hZ l (by omega); intro a j h; first | exact False.elim h | ((try dsimp only at h); (try simp only [aSq, aSt, aRg, aHd, aHv, aCx, aCh, aCv, aCs, aSh, aSr] at h ⊢); omega)), tr_G hN A hG (by intro a j h; first | exact False.elim h | ((try dsimp only at h); (try simp only [aSq, aSt, aRg, aHd, aHv, aCx, aCh, aCv, aCs, aSh, aSr] at h ⊢); omega)) (by intro a j h; first | exact False.elim h | ((try dsimp only at h); (try simp only [aSq, aSt, aRg, aHd, aHv, aCx, aCh, aCv, aCs, aSh, aSr] at h ⊢); omega)) (by intro a j h; first | exact False.elim h | ((try dsimp only at h); (try simp only [aSq, aSt, aRg, aHd, aHv, aCx, aCh, aCv, aCs, aSh, aSr] at h ⊢); omega)), fun s0 hs0 => ?_, tr_T hN A hT (by intro a j h; first | exact False.elim h | ((try dsimp only at h); (try simp only [aSq, aSt, aRg, aHd, aHv, aCx, aCh, aCv, aCs, aSh, aSr] at h ⊢); omega)) (by intro a j h; first | exact False.elim h | ((try dsimp only at h); (try simp only [aSq, aSt, aRg, aHd, aHv, aCx, aCh, aCv, aCs, aSh, aSr] at h ⊢); omega))⟩
    by_cases e : s0 = s
    rotate_left
    · exact tr_H hN hs0 A (hH s0 hs0) (by intro a j h; first | exact False.elim h | ((try dsimp only at h); (try simp only [aSq, aSt, aRg, aHd, aHv, aCx, aCh, aCv, aCs, aSh, aSr] at h ⊢); omega)) (by intro a j h; first | exact False.elim h | ((try dsimp only at h); (try simp only [aSq, aSt, aRg, aHd, aHv, aCx, aCh, aCv, aCs, aSh, aSr] at h ⊢); omega)) (by intro a j h; first | exact False.elim h | ((try dsimp only at h); (try simp only [aSq, aSt, aRg, aHd, aHv, aCx, aCh, aCv, aCs, aSh, aSr] at h ⊢); omega))
    subst e
    have gI : ∀ num, 801 ≤ num → num ≤ 804 → mI M2 num (aSh X s0) = mI M num (aSh X s0) := fun num q1 q2 => A.1 _ _ (by unfold ScI; omega) (fun q => q.elim) (by unfold aSh; omega)
    have gA : ∀ o, 265 ≤ o → o ≤ 267 → mA M2 (X + o) s0 = mA M (X + o) s0 := fun o q1 q2 => A.2.1 _ _ (by unfold ScA; omega) (fun q => q.elim) (by omega)
    have m2 : mB M2 (X + 268) = va_up (mB M (X + 268)) (64 * s0 + k) c.toInt64 := by rw [← hM2, mB_sB, if_pos rfl]
    have m1 : mB M2 (aSr X s0) = va_up (mB M (aSr X s0)) k c.toInt64 := by rw [← hM2, mB_sB, if_neg (by unfold aSr; omega), ← hMt, mB_sI, ← hM1, mB_sB, if_pos rfl]
    refine ⟨by rw [gI 801 (by decide) (by decide), gA 265 (by decide) (by decide)]; exact h1, hk, h2, by rw [gA 265 (by decide) (by decide)]; exact h3, fun q => absurd q e1, fun _ => ⟨sz, s1, by rw [gI 802 (by decide) (by decide)]; exact s2, by rw [gA 266 (by decide) (by decide)]; exact s3, fun k2 hk2 => ?_⟩⟩
    rw [m2, m1]
    by_cases e3 : k2 = k
    · subst e3; rw [vau_eq, vau_eq]
    · rw [vau_ne (by omega), vau_ne e3]; exact s4 k2 hk2
