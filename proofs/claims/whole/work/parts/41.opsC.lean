theorem op_keep {M : Mm} {X p n w : Nat} {z : Nat → Nat} (H : Inv M X p n w z) (a b c : Int32) : ∃ M1 M2 r, f_X10_keep M X a b c = some (M1, r) ∧ f_X11_keep M1 (X + 226) a b c = some (M2, r) ∧ Inv M2 X p n w z := by
  obtain ⟨hS, hW, ⟨p8, p1, p2, p3⟩, hD, hC, hQ, hX, hZ, hL, hG, hH, hT⟩ := id H
  have hSt : St (sI M 1100 (X + 226) 0) X := St_sI hS
  have hC' : IC (sI M 1100 (X + 226) 0) X n := by
    obtain ⟨c1, c2, c3, c4⟩ := hC
    exact ⟨c1, by rw [mI_sI, if_neg (by decide)]; exact c2, by rw [mI_sI, if_neg (by decide)]; exact c3, by rw [mI_sI, if_neg (by decide)]; exact c4⟩
  have d10 : ¬ (1 : Int32) = 0 := by decide
  rcases ix_cases a (n := 8) (by omega) with h | ⟨s, hs, rfl⟩
  · refine ⟨M, _, -1, ?_, ?_, inv_thr (v := 0) H⟩
    · unfold f_X10_keep
      simp only [if_pos (k_0 hS), (fl_out h).2.2.1, ob_eq, if_true]
    · unfold f_X11_keep
      simp only [if_pos (k_226 hS), pi_226 hS, (fl_out h).2.2.2, ob_eq, if_true]
  have bad : ∀ hk, hk ≤ 4 → f_X11_canKeep (sI M 1100 (X + 226) 0) (X + 226) (nI hk) c = some 0 → f_X11_keep M (X + 226) (nI s) (nI hk) c = some (sI M 1100 (X + 226) 0, -1) := by
    intro hk h4 hc
    have q1 : ¬ nI hk < 0 := nI_pos (by omega)
    have q2 : ¬ (4 : Int32) < nI hk := nI_nlt (a := 4) (b := hk) (by omega) (by decide)
    unfold f_X11_keep
    rw [if_pos (k_226 hS), pi_226 hS, ob_eq, (fl_in hs).2.2.2, ob_eq, if_neg d10, isIn_0_4, ob_eq, if_neg q1, if_neg q2, if_neg d10, hc, ob_eq, if_pos rfl]
  have e10 : ∀ b, f_X10_keep M X (nI s) b c = if b = 0 then some (sI M 801 (aSh X s) 0, 0) else if b = 1 then f_X10_keep_J60 M X b c (aSh X s) else if b = 2 then f_X10_keep_J60 M X b c (aSh X s) else if b = 3 then ob2 (f_X10_keepReferences M X (aSh X s) c) (fun M v => some (M, v)) else if b = 4 then ob2 (f_X10_keepContext M X (aSh X s) c) (fun M v => some (M, v)) else some (M, -1) := by
    intro b
    unfold f_X10_keep
    rw [if_pos (k_0 hS), (fl_in hs).2.2.1, ob_eq, if_neg d10, r_0_1006 hS, ob_eq, q_sh hS hs, ob_eq, pi_aSh hS hs, ob_eq]
  rcases rg_cases b 4 (by decide) with hb | hb | ⟨hk, hk4, rfl⟩
  · refine ⟨M, _, -1, ?_, ?_, inv_thr (v := 0) H⟩
    · have g0 : ¬ b = 0 := fun e => by subst e; exact absurd hb (by decide)
      have g1 : ¬ b = 1 := fun e => by subst e; exact absurd hb (by decide)
      have g2 : ¬ b = 2 := fun e => by subst e; exact absurd hb (by decide)
      have g3 : ¬ b = 3 := fun e => by subst e; exact absurd hb (by decide)
      have g4 : ¬ b = 4 := fun e => by subst e; exact absurd hb (by decide)
      rw [e10, if_neg g0, if_neg g1, if_neg g2, if_neg g3, if_neg g4]
    · unfold f_X11_keep
      simp only [if_pos (k_226 hS), pi_226 hS, (fl_in hs).2.2.2, ob_eq, if_neg d10, isIn_0_4, if_pos hb, if_true]
  · have hb' : (4 : Int32) < b := hb
    refine ⟨M, _, -1, ?_, ?_, inv_thr (v := 0) H⟩
    · have g0 : ¬ b = 0 := fun e => by subst e; exact absurd hb' (by decide)
      have g1 : ¬ b = 1 := fun e => by subst e; exact absurd hb' (by decide)
      have g2 : ¬ b = 2 := fun e => by subst e; exact absurd hb' (by decide)
      have g3 : ¬ b = 3 := fun e => by subst e; exact absurd hb' (by decide)
      have g4 : ¬ b = 4 := fun e => by subst e; exact absurd hb' (by decide)
      rw [e10, if_neg g0, if_neg g1, if_neg g2, if_neg g3, if_neg g4]
    · have g5 : ¬ b < 0 := fun e => Int32.lt_irrefl (Int32.lt_trans e (Int32.lt_trans (by decide) hb'))
      unfold f_X11_keep
      simp only [if_pos (k_226 hS), pi_226 hS, (fl_in hs).2.2.2, ob_eq, if_neg d10, isIn_0_4, if_neg g5, if_pos hb', if_true]
  have hkc : hk = 0 ∨ hk = 1 ∨ hk = 2 ∨ hk = 3 ∨ hk = 4 := by omega
  rcases hkc with rfl | rfl | rfl | rfl | rfl
  · -- nothing
    refine ⟨sI M 801 (aSh X s) 0, _, 0, by rw [e10, if_pos (by decide)], km0 (St_sI hS) hs, inv_shelf H hs ((Ag_sI (Or.inr (Or.inl ⟨by decide, by decide, rfl⟩))).tr' Ag_kS) ?_⟩
    refine ⟨by rw [kS_I (by decide), kS_265, mI_sI, if_pos rfl, if_pos rfl]; rfl, 0, by decide, kS_265, fun q => absurd q (by decide), fun q => absurd q (by decide)⟩
  · -- a letter
    rcases ix_cases c (n := n) (by have := hC.1; omega) with h | ⟨l, hl, rfl⟩
    · refine ⟨M, _, -1, ?_, bad 1 (by decide) ?_, inv_thr (v := 0) H⟩
      · rw [e10, if_neg (by decide), if_pos (by decide)]
        unfold f_X10_keep_J60
        rw [lt_out hS hC h, ob_eq]
        unfold f_X10_keepLetter
        rw [nm_none, ob2_eq]
      · unfold f_X11_canKeep
        rw [if_pos (k_226 hSt), if_pos (by decide)]
        unfold f_X11_canKeep_J10
        by_cases g : c < 0
        · rw [if_pos g]
        · rw [if_neg g, gi_226 hSt, ob_eq, hC'.2.2.1, if_pos (h.resolve_left g)]
    have hLl := hL l hl
    obtain ⟨h1, h2, h3, h4, ⟨k, hk5, h5, h5b⟩, h6, h7, h8, h9, h10, h11, h12, h13, ⟨len, b1, b2, b3, b4, b5⟩, h15⟩ := id hLl
    generalize hM1 : sI (sI (sI M 801 (aSh X s) 1) 803 (aSh X s) (nI k)) 804 (aSh X s) (nI len) = M1
    have hS1 : St M1 X := by rw [← hM1]; exact St_sI (St_sI (St_sI hS))
    have eA : mA M1 = mA M := by rw [← hM1, mA_sI, mA_sI, mA_sI]
    have eI : ∀ num, num ≠ 801 → num ≠ 803 → num ≠ 804 → mI M1 num = mI M num := by
      intro num g1 g2 g3; rw [← hM1]; funext y; rw [mI_sI, if_neg g3, mI_sI, if_neg g2, mI_sI, if_neg g1]
    have hn1 : mI M1 1116 (X + 226) = nI n := by rw [eI 1116 (by decide) (by decide) (by decide)]; exact hC.2.2.1
    refine ⟨M1, _, 0, ?_, km12 (hk := 1) hS1 hs hl hC.1 b2 hn1 (by rw [eA]; exact b4) (Or.inl rfl), inv_shelf H hs ?_ ?_⟩
    · rw [e10, if_neg (by decide), if_pos (by decide)]
      unfold f_X10_keep_J60
      rw [lt_in hS hC hLl hl, ob_eq]
      unfold f_X10_keepLetter
      rw [nm_some, if_pos (by decide)]
      unfold f_X8_holdLetter
      rw [if_pos (k_aSh hS hs), pi_aSh hS hs, ob_eq, gI_of (by rw [mK_sI]; exact h2), ob_eq, mI_sI, if_neg (by decide), h5, pi_aSh (St_sI hS) hs, ob_eq, gR_of (by rw [mK_sI, mK_sI]; exact h2) (by rw [mR_sI, mR_sI]; exact h3), ob_eq, aL_of (k := 20) (n := len) (by rw [mK_sI, mK_sI]; exact h4) (by decide) (by decide) (by rw [mN_sI, mN_sI]; exact b3), ob_eq, pi_aSh (St_sI (St_sI hS)) hs, ob_eq, ob_eq, ob2_eq, hM1]
    · have A1 : Ag X (z n) n (TIs X s) (TAs X s) (TBs X s) M M1 := by
        rw [← hM1]
        exact Ag.cI (Ag.cI (Ag.cI Ag.rf (Or.inr (Or.inl ⟨by decide, by decide, rfl⟩))) (Or.inr (Or.inl ⟨by decide, by decide, rfl⟩))) (Or.inr (Or.inl ⟨by decide, by decide, rfl⟩))
      exact Ag.cBw (A1.tr' Ag_kS) (fun j q1 q2 => Or.inr ⟨rfl, q1, by omega⟩)
    · rw [if_pos rfl]
      have i801 : mI M1 801 (aSh X s) = nI 1 := by rw [← hM1, mI_sI, if_neg (by decide), mI_sI, if_neg (by decide), mI_sI, if_pos rfl, if_pos rfl]; rfl
      have i803 : mI M1 803 (aSh X s) = nI k := by rw [← hM1, mI_sI, if_neg (by decide), mI_sI, if_pos rfl, if_pos rfl]
      have i804 : mI M1 804 (aSh X s) = nI len := by rw [← hM1, mI_sI, if_pos rfl, if_pos rfl]
      refine ⟨by rw [mI_sB, kS_I (by decide), mA_sB, kS_265]; exact i801, 1, by decide, by rw [mA_sB, kS_265], fun _ => ⟨⟨k, hk5, by rw [mI_sB, kS_I (by decide)]; exact i803, by rw [mA_sB, kS_267, eA]; exact h5b⟩, by rw [mI_sB, kS_I (by decide), mA_sB, kS_266]; exact i804⟩, fun q => absurd q (by decide)⟩
  · -- shorts
    rcases ix_cases c (n := n) (by have := hC.1; omega) with h | ⟨l, hl, rfl⟩
    · refine ⟨M, _, -1, ?_, bad 2 (by decide) ?_, inv_thr (v := 0) H⟩
      · rw [e10, if_neg (by decide), if_neg (by decide), if_pos (by decide)]
        unfold f_X10_keep_J60
        rw [lt_out hS hC h, ob_eq]
        unfold f_X10_keepLetter
        rw [nm_none, ob2_eq]
      · unfold f_X11_canKeep
        rw [if_pos (k_226 hSt), if_neg (by decide), if_pos (by decide)]
        unfold f_X11_canKeep_J10
        by_cases g : c < 0
        · rw [if_pos g]
        · rw [if_neg g, gi_226 hSt, ob_eq, hC'.2.2.1, if_pos (h.resolve_left g)]
    have hLl := hL l hl
    obtain ⟨h1, h2, h3, h4, ⟨k, hk5, h5, h5b⟩, h6, h7, h8, h9, h10, h11, h12, h13, ⟨len, b1, b2, b3, b4, b5⟩, h15⟩ := id hLl
    have ev : (fun i => (mA (kR M X s 2 len) (lB z l) i).toInt64) = fun i => (mA M (lB z l) i).toInt64 := by rw [kR_A]
    have eC : f_X10_keep M X (nI s) (nI 2) (nI l) = some (kV M X s 2 len (fun i => (mA M (lB z l) i).toInt64), 0) := by
      rw [e10, if_neg (by decide), if_neg (by decide), if_pos (by decide)]
      unfold f_X10_keep_J60
      rw [lt_in hS hC hLl hl, ob_eq]
      unfold f_X10_keepLetter
      have hr := hr_kR (hk := 2) hS hs b2
      have hr2 : f_X8_holdRow M (aSh X s) 2 (nI len) = some (kR M X s 2 len) := hr
      rw [nm_some, if_neg (by decide), gR_of h2 h3, ob_eq, aL_of h4 (by decide) (by decide) b3, ob_eq, hr2, ob_eq, kc2_loop (St_kR hS) hs b2 kR_802 (by rw [kR_K]; exact h2) (by rw [kR_R]; exact h3) (by rw [kR_K]; exact h4) (by rw [kR_N]; exact b3), ob2_eq, ev]
      rfl
    have hn1 : mI (kV M X s 2 len (fun i => (mA M (lB z l) i).toInt64)) 1116 (X + 226) = nI n := by
      unfold kV; rw [mI_sB, kR_I (by decide) (by decide)]; exact hC.2.2.1
    have eA : mA (kV M X s 2 len (fun i => (mA M (lB z l) i).toInt64)) = mA M := by unfold kV; rw [mA_sB, kR_A]
    refine ⟨_, _, 0, eC, km12 (hk := 2) (St_kV hS) hs hl hC.1 b2 hn1 (by rw [eA]; exact b4) (Or.inr rfl), ?_⟩
    have e3 : (wr (mB (kS (kV M X s 2 len (fun i => (mA M (lB z l) i).toInt64)) X s 2 len (if 2 = 1 then mA (kV M X s 2 len (fun i => (mA M (lB z l) i).toInt64)) (X + 241) l else 0)) (X + 268)) (64 * s) len (fun i => (mA (kV M X s 2 len (fun i => (mA M (lB z l) i).toInt64)) (X + 240) (64 * l + i)).toInt64)) = wr (mB (kS (kV M X s 2 len (fun i => (mA M (lB z l) i).toInt64)) X s 2 len (if 2 = 1 then mA (kV M X s 2 len (fun i => (mA M (lB z l) i).toInt64)) (X + 241) l else 0)) (X + 268)) (64 * s) len (fun i => (mA M (lB z l) i).toInt64) := by
      funext j
      unfold wr
      by_cases q : 64 * s ≤ j ∧ j < 64 * s + len
      · rw [if_pos q, if_pos q, eA]
        obtain ⟨bb, g1, g2, g3⟩ := b5 (j - 64 * s) (by omega)
        dsimp only
        rw [g2, g3]
      · rw [if_neg q, if_neg q]
    rw [e3]
    exact inv_row H hs (by decide) (by decide) b2
  · -- ints
    rcases ix_cases c (n := 8) (by omega) with h | ⟨q, hq, rfl⟩
    · refine ⟨M, _, -1, ?_, bad 3 (by decide) ?_, inv_thr (v := 0) H⟩
      · rw [e10, if_neg (by decide), if_neg (by decide), if_neg (by decide), if_pos (by decide)]
        unfold f_X10_keepReferences
        rw [if_pos (k_0 hS), (fl_out h).1, ob_eq, if_pos rfl, ob2_eq]
      · unfold f_X11_canKeep
        rw [if_pos (k_226 hSt), if_neg (by decide), if_neg (by decide), if_neg (by decide), (fl_out h).2.1, ob_eq, if_pos rfl]
    obtain ⟨k, r, hh, f0, q1, q2, q3, q4, q5, q6, q7, q8, q9, q10, q11, q12, q13, q14, q15⟩ := id (hQ q hq)
    have h8 : hh ≤ 8 := Nat.le_trans q9 hW.2.2.2
    have ev : (fun i => (mI (kR M X s 3 hh) 301 (aHd X q ((f0 + i) % 8))).toInt64) = fun i => (mI M 301 (aHd X q ((f0 + i) % 8))).toInt64 := by rw [kR_I (by decide) (by decide)]
    have eC : f_X10_keep M X (nI s) (nI 3) (nI q) = some (kV M X s 3 hh (fun i => (mI M 301 (aHd X q ((f0 + i) % 8))).toInt64), 0) := by
      rw [e10, if_neg (by decide), if_neg (by decide), if_neg (by decide), if_pos (by decide)]
      unfold f_X10_keepReferences
      have hr2 : f_X8_holdRow M (aSh X s) 3 (nI hh) = some (kR M X s 3 hh) := hr_kR (hk := 3) hS hs (by omega)
      rw [if_pos (k_0 hS), (fl_in hq).1, ob_eq, if_neg d10, r_0_1003 hS, ob_eq, q_sq hS hq, ob_eq, gi_aSq hS hq, ob_eq, q10, hr2, ob_eq, kc3_loop (St_kR hS) hs hq h8 kR_802 (by rw [kR_I (by decide) (by decide)]; exact q13) q12, ob2_eq, ev]
      rfl
    have eA : mA (kV M X s 3 hh (fun i => (mI M 301 (aHd X q ((f0 + i) % 8))).toInt64)) = mA M := by unfold kV; rw [mA_sB, kR_A]
    refine ⟨_, _, 0, eC, km3 (St_kV hS) hs hq h8 (by rw [eA]; exact q11), ?_⟩
    generalize hV : kV M X s 3 hh (fun i => (mI M 301 (aHd X q ((f0 + i) % 8))).toInt64) = V at eA
    have e3 : wr (mB (kS V X s 3 hh 0) (X + 268)) (64 * s) hh (fun i => (mA V (X + 237) (9 * q + i)).toInt64) = wr (mB (kS V X s 3 hh 0) (X + 268)) (64 * s) hh (fun i => (mI M 301 (aHd X q ((f0 + i) % 8))).toInt64) := by
      funext j
      unfold wr
      by_cases g : 64 * s ≤ j ∧ j < 64 * s + hh
      · rw [if_pos g, if_pos g, eA]
        obtain ⟨⟨u, g1, g2, g3⟩, -⟩ := q15 (j - 64 * s) (by omega)
        dsimp only
        rw [g2, g3]
      · rw [if_neg g, if_neg g]
    rw [e3, ← hV]
    exact inv_row H hs (by decide) (by decide) (by omega)
  · -- longs
    rcases ix_cases c (n := 8) (by omega) with h | ⟨q, hq, rfl⟩
    · refine ⟨M, _, -1, ?_, bad 4 (by decide) ?_, inv_thr (v := 0) H⟩
      · rw [e10, if_neg (by decide), if_neg (by decide), if_neg (by decide), if_neg (by decide), if_pos (by decide)]
        unfold f_X10_keepContext
        rw [if_pos (k_0 hS), (fl_out h).1, ob_eq, if_pos rfl, ob2_eq]
      · unfold f_X11_canKeep
        rw [if_pos (k_226 hSt), if_neg (by decide), if_neg (by decide), if_neg (by decide), (fl_out h).2.1, ob_eq, if_pos rfl]
    obtain ⟨x1, x2⟩ := id (hX q hq)
    rcases x2 with x2 | ⟨x2, -, x3, x4, x5⟩
    · refine ⟨M, _, -1, ?_, bad 4 (by decide) ?_, inv_thr (v := 0) H⟩
      · rw [e10, if_neg (by decide), if_neg (by decide), if_neg (by decide), if_neg (by decide), if_pos (by decide)]
        unfold f_X10_keepContext
        rw [if_pos (k_0 hS), (fl_in hq).1, ob_eq, if_neg d10, r_0_1004 hS, ob_eq, q_cx hS hq, ob_eq, gi_aCx hS hq, ob_eq, x1, x2, if_pos rfl, ob2_eq]
      · unfold f_X11_canKeep
        rw [if_pos (k_226 hSt), if_neg (by decide), if_neg (by decide), if_neg (by decide), (fl_in hq).2.1, ob_eq, if_neg d10, if_neg (by decide), r_226_1130 hSt, ob_eq, az_252 hSt hq, ob_eq, mA_sI, x2, if_pos rfl]
    have ev : (fun i => mB (kR M X s 4 p) (aCv X q) i) = fun i => mB M (aCv X q) i := by rw [kR_B (by unfold aCv aSr; omega)]
    have eC : f_X10_keep M X (nI s) (nI 4) (nI q) = some (kV M X s 4 p (fun i => mB M (aCv X q) i), 0) := by
      rw [e10, if_neg (by decide), if_neg (by decide), if_neg (by decide), if_neg (by decide), if_pos (by decide)]
      unfold f_X10_keepContext
      have hr2 : f_X8_holdRow M (aSh X s) 4 (nI p) = some (kR M X s 4 p) := hr_kR (hk := 4) hS hs (by omega)
      rw [if_pos (k_0 hS), (fl_in hq).1, ob_eq, if_neg d10, r_0_1004 hS, ob_eq, q_cx hS hq, ob_eq, gi_aCx hS hq, ob_eq, x1, x2, if_neg d10, r_0_1001 hS, ob_eq, gi_1 hS, ob_eq, p1, hr2, ob_eq, kc4_loop (St_kR hS) hs hq p8 kR_802, ob2_eq, ev]
      rfl
    generalize hV : kV M X s 4 p (fun i => mB M (aCv X q) i) = V at eC
    have hSV : St V X := by rw [← hV]; exact St_kV hS
    have eA : mA V = mA M := by rw [← hV]; unfold kV; rw [mA_sB, kR_A]
    have e256 : mB V (X + 256) = mB M (X + 256) := by rw [← hV]; unfold kV; rw [mB_sB, if_neg (by unfold aSr; omega), kR_B (by unfold aSr; omega)]
    have hp1 : mI V 1101 (X + 226) = nI p := by rw [← hV]; unfold kV; rw [mI_sB, kR_I (by decide) (by decide)]; exact p2
    refine ⟨_, _, 0, eC, km4 hSV hs hq p8 (by rw [eA]; exact x2) hp1, ?_⟩
    have e3 : wr (mB (kS V X s 4 p 0) (X + 268)) (64 * s) p (fun i => mB V (X + 256) (8 * q + i)) = wr (mB (kS V X s 4 p 0) (X + 268)) (64 * s) p (fun i => mB M (aCv X q) i) := by
      funext j
      unfold wr
      by_cases g : 64 * s ≤ j ∧ j < 64 * s + p
      · rw [if_pos g, if_pos g, e256]
        exact (x5 (j - 64 * s) (by omega)).2
      · rw [if_neg g, if_neg g]
    rw [e3, ← hV]
    exact inv_row H hs (by decide) (by decide) (by omega)
