theorem RV_rS {M R : Mm} {X : Nat} {s : Bs} (W : RV X M R) : RV X M (rS R X s) := RV_rm W
theorem VC_pS {M M' : Mm} {X k : Nat} {s : Bs} (W : VC X k M M') : VC X k M (pS M' X s) := VC_pn W
theorem ru_r {M R : Mm} {X p f : Nat} (V : RV X M R) (hP : IP M X p) (hf : f < p) : f_X11_runs R (X + 226) (nI f) = some (if rub M X f then 1 else 0) := by
  have p8 := hP.1
  rw [ru_in V.1 (by omega), V.2.1 227 (by omega), (hP.2.2.2 f hf).1, rub_if]
theorem kd_r {M R : Mm} {X p f : Nat} (V : RV X M R) (hP : IP M X p) (hf : f < p) : aI R (X + 227) (nI f) = some (mA M (X + 2) f) := by
  have p8 := hP.1
  rw [ai_227 V.1 (by omega), V.2.1 227 (by omega), (hP.2.2.2 f hf).1]
theorem wd_r {M R : Mm} {X p f : Nat} (V : RV X M R) (hP : IP M X p) (hf : f < p) : aI R (X + 228) (nI f) = some (nI (wdx M X f)) := by
  have p8 := hP.1
  rw [ai_228 V.1 (by omega), V.2.1 228 (by omega), (hP.2.2.2 f hf).2.1, (wd_in hP hf).2]
section Wri
variable {M : Mm} {X p n w i kk r h f0 : Nat}
theorem sw_r (C : SC M X p n w i kk r h f0) {R : Mm} {s0 : Bs} (V : RV X M R) (g0 : gd s0) (h0 : s0.2 ≤ 60) : f_X11_sendWhole_L52 1000 (rS R X s0) (X + 226) (nI i) (nI kk) 0 = ob2 (f_X11_laid (rS R X (bs (stW M X i) s0 p)) (X + 226) 0 (nI i) (nI kk) 1) (fun M4 v5 => some (M4, v5)) := by
  obtain ⟨hi, hw, hP, hD, hQ⟩ := id C
  have p8 := hP.1
  have q14 := hQ.2.2.2.2.2.2.2.2.2.2.2.2.2.1
  exact loop_run (fun fu f => f_X11_sendWhole_L52 fu (rS R X (bs (stW M X i) s0 f)) (X + 226) (nI i) (nI kk) (nI f)) p _
    (fun f fu hf => by
      show f_X11_sendWhole_L52 (fu + 1) (rS R X (bs (stW M X i) s0 f)) (X + 226) (nI i) (nI kk) (nI f) = f_X11_sendWhole_L52 fu (rS R X (stW M X i f (bs (stW M X i) s0 f))) (X + 226) (nI i) (nI kk) (nI (f + 1))
      obtain ⟨g1, g2, g3⟩ := bs_ok (stW_ok (i := i) hP) g0 f (by omega)
      generalize bs (stW M X i) s0 f = s at g1 g2 g3
      have V1 : RV X M (rS R X s) := RV_rS V
      have V2 : RV X M (rS R X (apx s (mB M (X + 7) f) (wdx M X f))) := RV_rS V
      obtain ⟨w1, w2⟩ := wd_in hP hf
      have f8 : f < 8 := by omega
      rw [f_X11_sendWhole_L52, gi_226 V1.1, ob_eq, V1.2.2.2, hP.2.2.1, if_neg (nI_ge hf (by omega)), r_226_1108 V1.1, ob_eq, dr_r C V1 hf, ob_eq, r_226_1103 V1.1, ob_eq, wd_r V1 hP hf, ob_eq, syS V.1 (by omega) (by omega), ob_eq, ru_r V2 hP hf, ob_eq]
      unfold stW f_X11_sendWhole_J102
      rw [nI_1]
      by_cases q : rub M X f = true
      · have w8 : f_X11_say (rS R X (apx s (mB M (X + 7) f) (wdx M X f))) (X + 226) (mA M (aSt X i) f).toInt64 8 = _ := syS (c := 8) V.1 (by show s.2 + wdx M X f + 8 ≤ 600; omega) (by decide)
        rw [if_pos q, if_neg (show ¬ (1 : Int32) = 0 by decide), if_pos q, r_226_1111 V2.1, ob_eq, m8, nI_add, ai_234 V2.1 (by omega), ob_eq, V2.2.1 234 (by omega), q14 f f8, w8, ob_eq]
      · rw [if_neg q, if_pos rfl, if_neg q])
    (fun fu => by
      show f_X11_sendWhole_L52 (fu + 1) (rS R X (bs (stW M X i) s0 p)) (X + 226) (nI i) (nI kk) (nI p) = _
      have V1 : RV X M (rS R X (bs (stW M X i) s0 p)) := RV_rS V
      rw [f_X11_sendWhole_L52, gi_226 V1.1, ob_eq, V1.2.2.2, hP.2.2.1, if_pos (nI_le (Nat.le_refl _) (by omega))]) 1000 (by omega)
/-! part -/
theorem wp_c (C : SC M X p n w i kk r h f0) (hk : kk < 2 ^ 30) {M' : Mm} {s0 : Bs} (V : VC X kk M M') (g0 : gd s0) (h0 : s0.2 ≤ 60) : f_X9_writePart_L13 1000 (pS M' X s0) (aSq X i) (X + 1) (X + 6) (X + 212) 0 = some (pS M' X (apx (bs (stP M X (fun f => al (okb M X i kk f0 f 0) h)) s0 p) (nI (sm8 (mB M (X + 7)) p)).toInt64 8)) := by
  obtain ⟨hi, hw, hP, hD, hQ⟩ := id C
  have p8 := hP.1
  have d10 : ¬ (1 : Int32) = 0 := by decide
  have p1 : ∀ {s : Bs}, mI (pS M' X s) 604 (X + 1) = nI p := by
    intro s
    rw [pS_I (by decide), V.2.1 _ _ (by omega) (by omega)]; exact hP.2.1
  exact loop_run (fun fu f => f_X9_writePart_L13 fu (pS M' X (bs (stP M X (fun f => al (okb M X i kk f0 f 0) h)) s0 f)) (aSq X i) (X + 1) (X + 6) (X + 212) (nI f)) p _
    (fun f fu hf => by
      show f_X9_writePart_L13 (fu + 1) (pS M' X (bs (stP M X (fun f => al (okb M X i kk f0 f 0) h)) s0 f)) (aSq X i) (X + 1) (X + 6) (X + 212) (nI f) = f_X9_writePart_L13 fu (pS M' X (stP M X (fun f => al (okb M X i kk f0 f 0) h) f (bs (stP M X (fun f => al (okb M X i kk f0 f 0) h)) s0 f))) (aSq X i) (X + 1) (X + 6) (X + 212) (nI (f + 1))
      obtain ⟨g1, g2, g3⟩ := bs_ok (stP_ok (all := fun f => al (okb M X i kk f0 f 0) h) hP) g0 f (by omega)
      generalize bs (stP M X (fun f => al (okb M X i kk f0 f 0) h)) s0 f = s at g1 g2 g3
      have V1 : VC X kk M (pS M' X s) := VC_pS V
      have hS1 := V1.1
      obtain ⟨w1, w2⟩ := wd_in hP hf
      have f8 : f < 8 := by omega
      have val : ∀ t : Bs, gd t → t.2 + 33 ≤ 480 → f_X9_writePart_J83 (f_X9_writePart_L13 fu) (pS M' X t) (aSq X i) (X + 1) (X + 6) (X + 212) (nI f) 1 = f_X9_writePart_L13 fu (pS M' X (apx t (mB M (X + 7) f) (wdx M X f))) (aSq X i) (X + 1) (X + 6) (X + 212) (nI (f + 1)) := by
        intro t gt ht
        have Vt : VC X kk M (pS M' X t) := VC_pS V
        unfold f_X9_writePart_J83 f_X9_writePart_J106
        rw [if_neg d10, r_6_300 Vt.1, ob_eq, aj_7 Vt.1 f8, ob_eq, Vt.2.2.2.1 _ (by omega), r_1_601 Vt.1, ob_eq, ai_3 Vt.1 f8, ob_eq, Vt.2.2.1 _ (by omega), w2, wrS V.1 gt (by omega) (by omega), ob_eq, nI_1]
      rw [f_X9_writePart_L13, gi_1 hS1, ob_eq, p1, if_neg (nI_ge hf (by omega)), r_1_600 hS1, ob_eq, ai_2 hS1 f8, ob_eq, V1.2.2.1 _ (by omega)]
      unfold stP f_X9_writePart_J38 f_X9_writePart_J56 f_X9_writePart_J61 f_X9_writePart_J79
      by_cases q : mA M (X + 2) f = 4
      · rw [if_pos q, if_neg d10, if_neg d10, val s g1 (by omega), if_pos q]
      · rw [if_neg q, if_pos rfl, igA C hk V1 hf, ob_eq, if_neg q]
        have e1 : f_X5_write (pS M' X s) (X + 212) 1 1 = some (pS M' X (apx s 1 1)) := wrS (c := 1) V.1 g1 (by omega) (by decide)
        have e0 : f_X5_write (pS M' X s) (X + 212) 0 1 = some (pS M' X (apx s 0 1)) := wrS (c := 1) V.1 g1 (by omega) (by decide)
        by_cases c : al (okb M X i kk f0 f 0) h = true
        · rw [if_pos c, if_neg d10, if_pos rfl, if_pos rfl, e0, ob_eq, if_pos c]
          unfold f_X9_writePart_J83 f_X9_writePart_J106
          rw [if_pos rfl, nI_1]
        · rw [if_neg c, if_pos rfl, if_pos rfl, if_neg d10, e1, ob_eq, if_neg c, val _ (gd_apx g1) (by show s.2 + 1 + 33 ≤ 480; omega)])
    (fun fu => by
      show f_X9_writePart_L13 (fu + 1) (pS M' X (bs (stP M X (fun f => al (okb M X i kk f0 f 0) h)) s0 p)) (aSq X i) (X + 1) (X + 6) (X + 212) (nI p) = _
      obtain ⟨g1, g2, g3⟩ := bs_ok (stP_ok (all := fun f => al (okb M X i kk f0 f 0) h) hP) g0 p (Nat.le_refl _)
      generalize bs (stP M X (fun f => al (okb M X i kk f0 f 0) h)) s0 p = s at g1 g2 g3
      have V1 : VC X kk M (pS M' X s) := VC_pS V
      have hS1 := V1.1
      have e8 : f_X5_write (pS M' X s) (X + 212) (nI (sm8 (mB M (X + 7)) p)).toInt64 8 = _ := wrS (c := 8) V.1 g1 (by omega) (by decide)
      rw [f_X9_writePart_L13, gi_1 hS1, ob_eq, p1, if_pos (nI_le (Nat.le_refl _) (by omega)), sum_c (v := mB M (X + 7)) hS1 p1 p8 (r_6_300 hS1) (fun f hf => by rw [aj_7 hS1 (by omega), V1.2.2.2.1 _ (by omega)]), ob_eq, e8, ob_eq]) 1000 (by omega)
theorem sp_r (C : SC M X p n w i kk r h f0) {R : Mm} {s0 : Bs} (V : RV X M R) (h36 : mA R (X + 236) i = nI h) (g0 : gd s0) (h0 : s0.2 ≤ 60) : f_X11_sendPart_L21 1000 (rS R X s0) (X + 226) (nI i) (nI kk) 0 = ob2 (f_X11_laid (rS R X (apx (bs (stP M X (fun f => al (okb M X i kk f0 f 0) h)) s0 p) (nI (sm8 (mB M (X + 7)) p)).toInt64 8)) (X + 226) 1 (nI i) (nI kk) 0) (fun M4 v5 => some (M4, v5)) := by
  obtain ⟨hi, hw, hP, hD, hQ⟩ := id C
  have p8 := hP.1
  have d10 : ¬ (1 : Int32) = 0 := by decide
  exact loop_run (fun fu f => f_X11_sendPart_L21 fu (rS R X (bs (stP M X (fun f => al (okb M X i kk f0 f 0) h)) s0 f)) (X + 226) (nI i) (nI kk) (nI f)) p _
    (fun f fu hf => by
      show f_X11_sendPart_L21 (fu + 1) (rS R X (bs (stP M X (fun f => al (okb M X i kk f0 f 0) h)) s0 f)) (X + 226) (nI i) (nI kk) (nI f) = f_X11_sendPart_L21 fu (rS R X (stP M X (fun f => al (okb M X i kk f0 f 0) h) f (bs (stP M X (fun f => al (okb M X i kk f0 f 0) h)) s0 f))) (X + 226) (nI i) (nI kk) (nI (f + 1))
      obtain ⟨g1, g2, g3⟩ := bs_ok (stP_ok (all := fun f => al (okb M X i kk f0 f 0) h) hP) g0 f (by omega)
      generalize bs (stP M X (fun f => al (okb M X i kk f0 f 0) h)) s0 f = s at g1 g2 g3
      have V1 : RV X M (rS R X s) := RV_rS V
      obtain ⟨w1, w2⟩ := wd_in hP hf
      have f8 : f < 8 := by omega
      have val : ∀ t : Bs, t.2 + 33 ≤ 600 → f_X11_sendPart_J81 (f_X11_sendPart_L21 fu) (rS R X t) (X + 226) (nI i) (nI kk) (nI f) 0 = f_X11_sendPart_L21 fu (rS R X (apx t (mB M (X + 7) f) (wdx M X f))) (X + 226) (nI i) (nI kk) (nI (f + 1)) := by
        intro t ht
        have Vt : RV X M (rS R X t) := RV_rS V
        unfold f_X11_sendPart_J81 f_X11_sendPart_J102
        rw [if_pos rfl, r_226_1108 Vt.1, ob_eq, dr_r C Vt hf, ob_eq, r_226_1103 Vt.1, ob_eq, wd_r Vt hP hf, ob_eq, syS V.1 (by omega) (by omega), ob_eq, nI_1]
      rw [f_X11_sendPart_L21, gi_226 V1.1, ob_eq, V1.2.2.2, hP.2.2.1, if_neg (nI_ge hf (by omega)), r_226_1102 V1.1, ob_eq, kd_r V1 hP hf, ob_eq]
      unfold stP f_X11_sendPart_J53 f_X11_sendPart_J54 f_X11_sendPart_J77
      rw [r_226_1102 V1.1, ob_eq, kd_r V1 hP hf, ob_eq, ob_eq, kd_r V1 hP hf, ob_eq]
      by_cases q : mA M (X + 2) f = 4
      · rw [if_pos q, if_pos q, val s (by omega), if_pos q]
      · rw [if_neg q, ga_r C V1 hf (by rw [rS_A (by omega)]; exact h36), ob_eq, if_neg q, if_neg q]
        have e1 : f_X11_say (rS R X s) (X + 226) 1 1 = some (rS R X (apx s 1 1)) := syS (c := 1) V.1 (by omega) (by decide)
        have e0 : f_X11_say (rS R X s) (X + 226) 0 1 = some (rS R X (apx s 0 1)) := syS (c := 1) V.1 (by omega) (by decide)
        by_cases c : al (okb M X i kk f0 f 0) h = true
        · rw [if_pos c, if_neg d10, if_neg q, if_neg d10, e0, ob_eq, if_pos c]
          unfold f_X11_sendPart_J81 f_X11_sendPart_J102
          rw [if_neg d10, nI_1]
        · rw [if_neg c, if_pos rfl, if_pos rfl, e1, ob_eq, if_neg c, val _ (by show s.2 + 1 + 33 ≤ 600; omega), if_neg q])
    (fun fu => by
      show f_X11_sendPart_L21 (fu + 1) (rS R X (bs (stP M X (fun f => al (okb M X i kk f0 f 0) h)) s0 p)) (X + 226) (nI i) (nI kk) (nI p) = _
      obtain ⟨g1, g2, g3⟩ := bs_ok (stP_ok (all := fun f => al (okb M X i kk f0 f 0) h) hP) g0 p (Nat.le_refl _)
      generalize bs (stP M X (fun f => al (okb M X i kk f0 f 0) h)) s0 p = s at g1 g2 g3
      have V1 : RV X M (rS R X s) := RV_rS V
      have e8 : f_X11_say (rS R X s) (X + 226) (nI (sm8 (mB M (X + 7)) p)).toInt64 8 = _ := syS (c := 8) V.1 (by omega) (by decide)
      rw [f_X11_sendPart_L21, gi_226 V1.1, ob_eq, V1.2.2.2, hP.2.2.1, if_pos (nI_le (Nat.le_refl _) (by omega)), sum_r (v := mB M (X + 7)) V1.1 (by rw [V1.2.2.2]; exact hP.2.2.1) p8 (fun f hf => dr_r C V1 hf), ob_eq, e8, ob_eq]) 1000 (by omega)
end Wri
