theorem hr_kR {M : Mm} {X s hk sz : Nat} (hS : St M X) (hs : s < 8) (hz : sz ≤ 60) : f_X8_holdRow M (aSh X s) (nI hk) (nI sz) = some (kR M X s hk sz) := hr_eq hS hs hz
theorem kR_802 {M : Mm} {X s hk sz : Nat} : mI (kR M X s hk sz) 802 (aSh X s) = nI sz := by unfold kR; rw [mI_sB, mI_sI, if_pos rfl, if_pos rfl]
theorem kR_I {M : Mm} {X s hk sz num : Nat} (h : num ≠ 801) (h2 : num ≠ 802) : mI (kR M X s hk sz) num = mI M num := by unfold kR; rw [mI_sB]; funext y; rw [mI_sI, if_neg h2, mI_sI, if_neg h]
theorem kR_A {M : Mm} {X s hk sz : Nat} : mA (kR M X s hk sz) = mA M := by unfold kR; rw [mA_sB, mA_sI, mA_sI]
theorem kR_B {M : Mm} {X s hk sz a : Nat} (h : a ≠ aSr X s) : mB (kR M X s hk sz) a = mB M a := by unfold kR; rw [mB_sB, if_neg h, mB_sI, mB_sI]
theorem kR_K {M : Mm} {X s hk sz : Nat} : mK (kR M X s hk sz) = mK M := by unfold kR; rw [mK_sB, mK_sI, mK_sI]
theorem kR_N {M : Mm} {X s hk sz : Nat} : mN (kR M X s hk sz) = mN M := by unfold kR; rw [mN_sB, mN_sI, mN_sI]
theorem kR_R {M : Mm} {X s hk sz : Nat} : mR (kR M X s hk sz) = mR M := by unfold kR; rw [mR_sB, mR_sI, mR_sI]
theorem kc2_loop {M : Mm} {X s A B sz : Nat} (hS : St M X) (hs : s < 8) (hz : sz ≤ 60) (h802 : mI M 802 (aSh X s) = nI sz) (kA : mK M A = 5) (rA : mR M 403 A = some B) (kB : mK M B = 20) (nB : mN M B = sz) : f_X10_keepLetter_L30 1000 M (aSh X s) A 0 = some (sB M (aSr X s) (wr (mB M (aSr X s)) 0 sz (fun i => (mA M B i).toInt64)), 0) := by
  have e := loop_run (fun fu i => f_X10_keepLetter_L30 fu (sB M (aSr X s) (wr (mB M (aSr X s)) 0 i (fun i => (mA M B i).toInt64))) (aSh X s) A (nI i)) sz (some (sB M (aSr X s) (wr (mB M (aSr X s)) 0 sz (fun i => (mA M B i).toInt64)), 0))
    (fun i fu hi => by
      have hS1 : St (sB M (aSr X s) (wr (mB M (aSr X s)) 0 i (fun i => (mA M B i).toInt64))) X := St_sB hS
      show f_X10_keepLetter_L30 (fu + 1) (sB M (aSr X s) (wr (mB M (aSr X s)) 0 i (fun i => (mA M B i).toInt64))) (aSh X s) A (nI i) = f_X10_keepLetter_L30 fu (sB M (aSr X s) (wr (mB M (aSr X s)) 0 (i + 1) (fun i => (mA M B i).toInt64))) (aSh X s) A (nI (i + 1))
      rw [f_X10_keepLetter_L30, gi_aSh hS1 hs, ob_eq, mI_sB, h802, if_neg (nI_ge hi (by omega)), r_aSh_800 hS1 hs, ob_eq, gR_of (by rw [mK_sB]; exact kA) (by rw [mR_sB]; exact rA), ob_eq, aI_of (by rw [mK_sB]; exact kB) (by rw [mN_sB]; exact nB) hi (by omega), ob_eq, wj_aSr hS1 hs (by omega), ob_eq, mB_sB, if_pos rfl, sB_sB, mA_sB, nI_1]
      exact congrArg (fun g => f_X10_keepLetter_L30 fu (sB M (aSr X s) g) (aSh X s) A (nI (i + 1))) (wr0_s (mB M (aSr X s)) i (fun i => (mA M B i).toInt64)))
    (fun fu => by
      have hS1 : St (sB M (aSr X s) (wr (mB M (aSr X s)) 0 sz (fun i => (mA M B i).toInt64))) X := St_sB hS
      show f_X10_keepLetter_L30 (fu + 1) _ (aSh X s) A (nI sz) = _
      rw [f_X10_keepLetter_L30, gi_aSh hS1 hs, ob_eq, mI_sB, h802, if_pos (nI_le (Nat.le_refl _) (by omega))]) 1000 (by omega)
  have e2 : sB M (aSr X s) (wr (mB M (aSr X s)) 0 0 (fun i => (mA M B i).toInt64)) = M := sB_self _ _ (fun j => by rw [wr_0])
  rw [e2] at e
  exact e
theorem kc3_loop {M : Mm} {X s q f0 sz : Nat} (hS : St M X) (hs : s < 8) (hq : q < 8) (hz : sz ≤ 8) (h802 : mI M 802 (aSh X s) = nI sz) (h906 : mI M 906 (aSq X q) = nI f0) (hf : f0 < 8) : f_X10_keepReferences_L28 1000 M (aSh X s) (aSq X q) 0 = some (sB M (aSr X s) (wr (mB M (aSr X s)) 0 sz (fun i => (mI M 301 (aHd X q ((f0 + i) % 8))).toInt64)), 0) := by
  have e := loop_run (fun fu i => f_X10_keepReferences_L28 fu (sB M (aSr X s) (wr (mB M (aSr X s)) 0 i (fun i => (mI M 301 (aHd X q ((f0 + i) % 8))).toInt64))) (aSh X s) (aSq X q) (nI i)) sz (some (sB M (aSr X s) (wr (mB M (aSr X s)) 0 sz (fun i => (mI M 301 (aHd X q ((f0 + i) % 8))).toInt64)), 0))
    (fun i fu hi => by
      have hS1 : St (sB M (aSr X s) (wr (mB M (aSr X s)) 0 i (fun i => (mI M 301 (aHd X q ((f0 + i) % 8))).toInt64))) X := St_sB hS
      show f_X10_keepReferences_L28 (fu + 1) (sB M (aSr X s) (wr (mB M (aSr X s)) 0 i (fun i => (mI M 301 (aHd X q ((f0 + i) % 8))).toInt64))) (aSh X s) (aSq X q) (nI i) = f_X10_keepReferences_L28 fu (sB M (aSr X s) (wr (mB M (aSr X s)) 0 (i + 1) (fun i => (mI M 301 (aHd X q ((f0 + i) % 8))).toInt64))) (aSh X s) (aSq X q) (nI (i + 1))
      rw [f_X10_keepReferences_L28, gi_aSh hS1 hs, ob_eq, mI_sB, h802, if_neg (nI_ge hi (by omega)), r_aSh_800 hS1 hs, ob_eq, rf_in hS1 hq (by rw [mI_sB]; exact h906) hf (by omega), ob_eq, gi_aHd hS1 hq (Nat.mod_lt _ (by decide)), ob_eq, wj_aSr hS1 hs (by omega), ob_eq, mB_sB, if_pos rfl, sB_sB, mI_sB, nI_1]
      exact congrArg (fun g => f_X10_keepReferences_L28 fu (sB M (aSr X s) g) (aSh X s) (aSq X q) (nI (i + 1))) (wr0_s (mB M (aSr X s)) i (fun i => (mI M 301 (aHd X q ((f0 + i) % 8))).toInt64)))
    (fun fu => by
      have hS1 : St (sB M (aSr X s) (wr (mB M (aSr X s)) 0 sz (fun i => (mI M 301 (aHd X q ((f0 + i) % 8))).toInt64))) X := St_sB hS
      show f_X10_keepReferences_L28 (fu + 1) _ (aSh X s) (aSq X q) (nI sz) = _
      rw [f_X10_keepReferences_L28, gi_aSh hS1 hs, ob_eq, mI_sB, h802, if_pos (nI_le (Nat.le_refl _) (by omega))]) 1000 (by omega)
  have e2 : sB M (aSr X s) (wr (mB M (aSr X s)) 0 0 (fun i => (mI M 301 (aHd X q ((f0 + i) % 8))).toInt64)) = M := sB_self _ _ (fun j => by rw [wr_0])
  rw [e2] at e
  exact e
theorem kc4_loop {M : Mm} {X s q sz : Nat} (hS : St M X) (hs : s < 8) (hq : q < 8) (hz : sz ≤ 8) (h802 : mI M 802 (aSh X s) = nI sz) : f_X10_keepContext_L35 1000 M X (aSh X s) (nI q) 0 = some (sB M (aSr X s) (wr (mB M (aSr X s)) 0 sz (fun i => mB M (aCv X q) i)), 0) := by
  have e := loop_run (fun fu i => f_X10_keepContext_L35 fu (sB M (aSr X s) (wr (mB M (aSr X s)) 0 i (fun i => mB M (aCv X q) i))) X (aSh X s) (nI q) (nI i)) sz (some (sB M (aSr X s) (wr (mB M (aSr X s)) 0 sz (fun i => mB M (aCv X q) i)), 0))
    (fun i fu hi => by
      have hS1 : St (sB M (aSr X s) (wr (mB M (aSr X s)) 0 i (fun i => mB M (aCv X q) i))) X := St_sB hS
      show f_X10_keepContext_L35 (fu + 1) (sB M (aSr X s) (wr (mB M (aSr X s)) 0 i (fun i => mB M (aCv X q) i))) X (aSh X s) (nI q) (nI i) = f_X10_keepContext_L35 fu (sB M (aSr X s) (wr (mB M (aSr X s)) 0 (i + 1) (fun i => mB M (aCv X q) i))) X (aSh X s) (nI q) (nI (i + 1))
      rw [f_X10_keepContext_L35, gi_aSh hS1 hs, ob_eq, mI_sB, h802, if_neg (nI_ge hi (by omega)), r_aSh_800 hS1 hs, ob_eq, r_0_1004 hS1, ob_eq, q_cx hS1 hq, ob_eq, r_aCx_100 hS1 hq, ob_eq, r_aCh_300 hS1 hq, ob_eq, aj_aCv hS1 hq (by omega), ob_eq, wj_aSr hS1 hs (by omega), ob_eq, mB_sB, if_pos rfl, sB_sB, mB_sB, if_neg (by unfold aCv aSr; omega), nI_1]
      exact congrArg (fun g => f_X10_keepContext_L35 fu (sB M (aSr X s) g) X (aSh X s) (nI q) (nI (i + 1))) (wr0_s (mB M (aSr X s)) i (fun i => mB M (aCv X q) i)))
    (fun fu => by
      have hS1 : St (sB M (aSr X s) (wr (mB M (aSr X s)) 0 sz (fun i => mB M (aCv X q) i))) X := St_sB hS
      show f_X10_keepContext_L35 (fu + 1) _ X (aSh X s) (nI q) (nI sz) = _
      rw [f_X10_keepContext_L35, gi_aSh hS1 hs, ob_eq, mI_sB, h802, if_pos (nI_le (Nat.le_refl _) (by omega))]) 1000 (by omega)
  have e2 : sB M (aSr X s) (wr (mB M (aSr X s)) 0 0 (fun i => mB M (aCv X q) i)) = M := sB_self _ _ (fun j => by rw [wr_0])
  rw [e2] at e
  exact e
/-! the reference's keep, by what is kept -/
theorem km0 {M : Mm} {X s : Nat} {c : Int32} (hS : St M X) (hs : s < 8) : f_X11_keep M (X + 226) (nI s) (nI 0) c = some (kS M X s 0 0 0, 0) := by
  have d10 : ¬ (1 : Int32) = 0 := by decide
  have hSt : St (sI M 1100 (X + 226) 0) X := St_sI hS
  have e1 : ¬ nI 0 = 1 := by decide
  have e2 : ¬ nI 0 = 2 := by decide
  have e0 : nI 0 = 0 := rfl
  have q1 : ¬ nI 0 < 0 := by decide
  have q2 : ¬ (4 : Int32) < nI 0 := by decide
  have hc : f_X11_canKeep (sI M 1100 (X + 226) 0) (X + 226) (nI 0) c = some 1 := by
    unfold f_X11_canKeep
    rw [if_pos (k_226 hSt), if_neg e1, if_neg e2, if_pos e0]
  have ht := ks_tail (c := c) (sz := 0) (hk := 0) hS hs
  rw [if_neg e1] at ht
  unfold f_X11_keep
  rw [if_pos (k_226 hS), pi_226 hS, ob_eq, (fl_in hs).2.2.2, ob_eq, if_neg d10, isIn_0_4, ob_eq, if_neg q1, if_neg q2, if_neg d10, hc, ob_eq, if_neg d10, r_226_1153 hSt, ob_eq, wi_265 hSt hs, ob_eq, r_226_1154 (St_sA hSt), ob_eq, if_pos e0]
  refine Eq.trans ht ?_
  have hK : St (kS M X s 0 0 0) X := St_kS hS
  rw [f_X11_keep_L112, r_226_1154 hK, ob_eq, ai_266 hK hs, ob_eq, kS_266, if_pos (by decide : nI 0 ≤ 0)]
theorem km12 {M : Mm} {X s l n sz hk : Nat} (hS : St M X) (hs : s < 8) (hl : l < n) (h2 : n ≤ 200) (hz : sz ≤ 60) (hn : mI M 1116 (X + 226) = nI n) (h239 : mA M (X + 239) l = nI sz) (hh : hk = 1 ∨ hk = 2) : f_X11_keep M (X + 226) (nI s) (nI hk) (nI l) = some (sB (kS M X s hk sz (if hk = 1 then mA M (X + 241) l else 0)) (X + 268) (wr (mB (kS M X s hk sz (if hk = 1 then mA M (X + 241) l else 0)) (X + 268)) (64 * s) sz (fun i => (mA M (X + 240) (64 * l + i)).toInt64)), 0) := by
  have d10 : ¬ (1 : Int32) = 0 := by decide
  have hSt : St (sI M 1100 (X + 226) 0) X := St_sI hS
  have l2 : l < 200 := by omega
  have hn' : mI (sI M 1100 (X + 226) 0) 1116 (X + 226) = nI n := by rw [mI_sI, if_neg (by decide)]; exact hn
  have q1 : ¬ nI hk < 0 := nI_pos (by omega)
  have q2 : ¬ (4 : Int32) < nI hk := nI_nlt (a := 4) (b := hk) (by omega) (by decide)
  have q3 : ¬ nI hk = 0 := nI_ne0 (by omega) (by omega)
  have q4 : ¬ (3 : Int32) ≤ nI hk := nI_ge (b := 3) (by omega) (by decide)
  have hj : f_X11_canKeep_J10 (sI M 1100 (X + 226) 0) (X + 226) (nI l) = some 1 := by
    unfold f_X11_canKeep_J10
    rw [if_neg (nI_pos (by omega)), gi_226 hSt, ob_eq, hn', if_neg (nI_ge hl (by omega))]
  have hc : f_X11_canKeep (sI M 1100 (X + 226) 0) (X + 226) (nI hk) (nI l) = some 1 := by
    unfold f_X11_canKeep
    rw [if_pos (k_226 hSt)]
    rcases hh with rfl | rfl
    · rw [if_pos (by decide), hj]
    · rw [if_neg (by decide), if_pos (by decide), hj]
  have h239' : mA (sA (sI M 1100 (X + 226) 0) (X + 265) (va_up (mA (sI M 1100 (X + 226) 0) (X + 265)) s (nI hk))) (X + 239) l = nI sz := by rw [mA_sA, if_neg (by omega), mA_sI]; exact h239
  have ht := ks_tail (c := nI l) (sz := sz) (hk := hk) hS hs
  have main : f_X11_keep M (X + 226) (nI s) (nI hk) (nI l) = f_X11_keep_L112 1000 (kS M X s hk sz (if hk = 1 then mA M (X + 241) l else 0)) (X + 226) (nI s) (nI hk) (nI l) 0 := by
    unfold f_X11_keep
    rw [if_pos (k_226 hS), pi_226 hS, ob_eq, (fl_in hs).2.2.2, ob_eq, if_neg d10, isIn_0_4, ob_eq, if_neg q1, if_neg q2, if_neg d10, hc, ob_eq, if_neg d10, r_226_1153 hSt, ob_eq, wi_265 hSt hs, ob_eq, r_226_1154 (St_sA hSt), ob_eq, if_neg q3, if_neg q4, r_226_1117 (St_sA hSt), ob_eq, ai_239 (St_sA hSt) l2, ob_eq, h239', ht]
    rcases hh with rfl | rfl
    · rw [if_pos (by decide), ai_241 (St_sA (St_sA hSt)) l2, ob_eq, mA_sA, if_neg (by omega), mA_sA, if_neg (by omega), mA_sI, if_pos rfl]
    · rw [if_neg (by decide), if_neg (by decide)]
  rw [main, kl12 (St_kS hS) hs l2 hz (by omega) kS_266]
  have e240 : mA (kS M X s hk sz (if hk = 1 then mA M (X + 241) l else 0)) (X + 240) = mA M (X + 240) := kS_A (by omega) (by omega) (by omega)
  rw [e240]
theorem km3 {M : Mm} {X s l sz : Nat} (hS : St M X) (hs : s < 8) (hl : l < 8) (hz : sz ≤ 8) (h236 : mA M (X + 236) l = nI sz) : f_X11_keep M (X + 226) (nI s) (nI 3) (nI l) = some (sB (kS M X s 3 sz 0) (X + 268) (wr (mB (kS M X s 3 sz 0) (X + 268)) (64 * s) sz (fun i => (mA M (X + 237) (9 * l + i)).toInt64)), 0) := by
  have d10 : ¬ (1 : Int32) = 0 := by decide
  have hSt : St (sI M 1100 (X + 226) 0) X := St_sI hS
  have q1 : ¬ nI 3 < 0 := by decide
  have q2 : ¬ (4 : Int32) < nI 3 := by decide
  have q3 : ¬ nI 3 = 0 := by decide
  have q4 : (3 : Int32) ≤ nI 3 := by decide
  have q5 : nI 3 = 3 := rfl
  have q6 : ¬ nI 3 = 1 := by decide
  have q7 : ¬ nI 3 = 2 := by decide
  have hc : f_X11_canKeep (sI M 1100 (X + 226) 0) (X + 226) (nI 3) (nI l) = some 1 := by
    unfold f_X11_canKeep
    rw [if_pos (k_226 hSt), if_neg q6, if_neg q7, if_neg q3, (fl_in hl).2.1, ob_eq, if_neg d10, if_pos q5]
  have h236' : mA (sA (sI M 1100 (X + 226) 0) (X + 265) (va_up (mA (sI M 1100 (X + 226) 0) (X + 265)) s (nI 3))) (X + 236) l = nI sz := by rw [mA_sA, if_neg (by omega), mA_sI]; exact h236
  have ht := ks_tail (c := nI l) (sz := sz) (hk := 3) hS hs
  rw [if_neg q6] at ht
  unfold f_X11_keep
  rw [if_pos (k_226 hS), pi_226 hS, ob_eq, (fl_in hs).2.2.2, ob_eq, if_neg d10, isIn_0_4, ob_eq, if_neg q1, if_neg q2, if_neg d10, hc, ob_eq, if_neg d10, r_226_1153 hSt, ob_eq, wi_265 hSt hs, ob_eq, r_226_1154 (St_sA hSt), ob_eq, if_neg q3, if_pos q4, if_pos q5, r_226_1113 (St_sA hSt), ob_eq, ai_236 (St_sA hSt) hl, ob_eq, h236', ht]
  refine (kl3 (St_kS hS) hs hl hz kS_266).trans ?_
  have e240 : mA (kS M X s 3 sz 0) (X + 237) = mA M (X + 237) := kS_A (by omega) (by omega) (by omega)
  rw [e240]
theorem km4 {M : Mm} {X s l sz : Nat} (hS : St M X) (hs : s < 8) (hl : l < 8) (hz : sz ≤ 8) (h252 : mA M (X + 252) l = 1) (hp : mI M 1101 (X + 226) = nI sz) : f_X11_keep M (X + 226) (nI s) (nI 4) (nI l) = some (sB (kS M X s 4 sz 0) (X + 268) (wr (mB (kS M X s 4 sz 0) (X + 268)) (64 * s) sz (fun i => mB M (X + 256) (8 * l + i))), 0) := by
  have d10 : ¬ (1 : Int32) = 0 := by decide
  have hSt : St (sI M 1100 (X + 226) 0) X := St_sI hS
  have q1 : ¬ nI 4 < 0 := by decide
  have q2 : ¬ (4 : Int32) < nI 4 := by decide
  have q3 : ¬ nI 4 = 0 := by decide
  have q4 : (3 : Int32) ≤ nI 4 := by decide
  have q5 : ¬ nI 4 = 3 := by decide
  have q6 : ¬ nI 4 = 1 := by decide
  have q7 : ¬ nI 4 = 2 := by decide
  have hc : f_X11_canKeep (sI M 1100 (X + 226) 0) (X + 226) (nI 4) (nI l) = some 1 := by
    unfold f_X11_canKeep
    rw [if_pos (k_226 hSt), if_neg q6, if_neg q7, if_neg q3, (fl_in hl).2.1, ob_eq, if_neg d10, if_neg q5, r_226_1130 hSt, ob_eq, az_252 hSt hl, ob_eq, mA_sI, h252, if_neg d10]
  have hp' : mI (sA (sI M 1100 (X + 226) 0) (X + 265) (va_up (mA (sI M 1100 (X + 226) 0) (X + 265)) s (nI 4))) 1101 (X + 226) = nI sz := by rw [mI_sA, mI_sI, if_neg (by decide)]; exact hp
  have ht := ks_tail (c := nI l) (sz := sz) (hk := 4) hS hs
  rw [if_neg q6] at ht
  unfold f_X11_keep
  rw [if_pos (k_226 hS), pi_226 hS, ob_eq, (fl_in hs).2.2.2, ob_eq, if_neg d10, isIn_0_4, ob_eq, if_neg q1, if_neg q2, if_neg d10, hc, ob_eq, if_neg d10, r_226_1153 hSt, ob_eq, wi_265 hSt hs, ob_eq, r_226_1154 (St_sA hSt), ob_eq, if_neg q3, if_pos q4, if_neg q5, gi_226 (St_sA hSt), ob_eq, hp', ht]
  refine (kl4 (St_kS hS) hs hl hz kS_266).trans ?_
  rw [kS_B]
