theorem pr_new {Q : Mm} {X n : Nat} : ∃ Y, f_X7_init (nO Q 8) (mS Q) = some Y ∧ (∀ TI TA TB, Ag X (mS Q) n TI TA TB Q Y) ∧ mS Y = mS Q + 3 ∧ mK Y (mS Q) = 8 ∧ mR Y 700 (mS Q) = some (mS Q + 1) ∧ mR Y 701 (mS Q) = some (mS Q + 2) ∧ mK Y (mS Q + 1) = 20 ∧ mN Y (mS Q + 1) = 8 ∧ mK Y (mS Q + 2) = 20 ∧ mN Y (mS Q + 2) = 8 ∧ (∀ nu x, x < mS Q → mI Y nu x = mI Q nu x) ∧ (∀ x, x < mS Q → mA Y x = mA Q x) ∧ ∀ x, x < mS Q → mB Y x = mB Q x := by
  have h0 : mK (nO Q 8) (mS Q) = 8 := by rw [mK_nO, if_pos rfl]
  have m0 : ∀ N : Mm, mA0 N 20 8 8 = some (nA N 20 8) := by
    intro N
    unfold mA0
    rw [if_pos (by decide), if_pos (by decide)]
    rfl
  generalize hY1 : sR (nA (nO Q 8) 20 8) 700 (mS Q) (some (mS Q + 1)) = Y1
  have s1 : mS Y1 = mS Q + 2 := by rw [← hY1, mS_sR, mS_nA, mS_nO]
  have k1 : mK Y1 (mS Q) = 8 := by rw [← hY1, mK_sR, mK_nA, mS_nO, if_neg (by omega)]; exact h0
  have kB (N : Mm) (x : Nat) (hx : ¬ x = mS N) : mB (nA N 20 8) x = mB N x := by
    show va_up (mB N) (mS N) (fun _ => 0) x = _
    rw [vau_ne hx]
  refine ⟨sR (nA Y1 20 8) 701 (mS Q) (some (mS Q + 2)), ?_, ?_, ?_, ?_, ?_, ?_, ?_, ?_, ?_, ?_, ?_, ?_, ?_⟩
  · have ha : mK (nA (nO Q 8) 20 8) (mS Q) = 8 := by rw [mK_nA, mS_nO, if_neg (by omega)]; exact h0
    have hb : mK (nA Y1 20 8) (mS Q) = 8 := by rw [mK_nA, s1, if_neg (by omega)]; exact k1
    unfold f_X7_init
    rw [if_pos h0, m0, ob_eq, mS_nO, pR_of ha, ob_eq, hY1, m0, ob_eq, s1, pR_of hb, ob_eq]
  · intro TI TA TB
    have x1 : Ag X (mS Q) n TI TA TB Q Y1 := by
      rw [← hY1]
      exact ((Ag_nO (Nat.le_refl _)).cN (by rw [mS_nO]; omega)).cR (Or.inr (Nat.le_refl _))
    exact (x1.cN (by omega)).cR (Or.inr (Nat.le_refl _))
  · rw [mS_sR, mS_nA, s1]
  · rw [mK_sR, mK_nA, s1, if_neg (by omega)]; exact k1
  · rw [mR_sR, if_neg (by decide), mR_nA, ← hY1, mR_sR, if_pos rfl, if_pos rfl]
  · rw [mR_sR, if_pos rfl, if_pos rfl]
  · rw [mK_sR, mK_nA, s1, if_neg (by omega), ← hY1, mK_sR, mK_nA, mS_nO, if_pos rfl]
  · rw [mN_sR, mN_nA, s1, if_neg (by omega), ← hY1, mN_sR, mN_nA, mS_nO, if_pos rfl]
  · rw [mK_sR, mK_nA, s1, if_pos rfl]
  · rw [mN_sR, mN_nA, s1, if_pos rfl]
  · intro nu x hx
    rw [mI_sR, mI_nA, ← hY1, mI_sR, mI_nA, mI_nO, if_neg (by omega)]
  · intro x hx
    rw [mA_sR, mA_nA, s1, if_neg (by omega), ← hY1, mA_sR, mA_nA, mS_nO, if_neg (by omega), mA_nO]
  · intro x hx
    show mB (nA Y1 20 8) x = mB Q x
    rw [kB Y1 x (by omega), ← hY1]
    show mB (nA (nO Q 8) 20 8) x = mB Q x
    rw [kB (nO Q 8) x (by rw [mS_nO]; omega)]
    rfl
theorem VC_sI {M M' : Mm} {X k num a : Nat} {v : Int32} (W : VC X k M M') (ha : X + 212 ≤ a) : VC X k M (sI M' num a v) := by
  refine ⟨St_sI W.1, fun nu b hb hn => ?_, W.2.2.1, W.2.2.2.1, ?_⟩
  · rw [mI_sIy (by omega)]; exact W.2.1 nu b hb hn
  · rw [mI_sIy (by omega)]; exact W.2.2.2.2
theorem snd_S {M : Mm} {X p n w i kk r h f0 : Nat} {z : Nat → Nat} (H : Inv M X p n w z) (hn : n < 200) (hp : 0 < p) (hi : i < 8) (hQ : IQ' M X p w n i kk r h f0) (a : Int32) (ha : a = 0 ∧ mA M (X + 235) i = 0 ∧ ¬ h = 0) (hc : al (cnd M X i kk f0 h) p = true) :
    ∃ M1 M2 r' z', f_X10_send M X (nI i) a = some (M1, r') ∧ f_X11_send M1 (X + 226) (nI i) a = some (M2, r') ∧ Inv M2 X p (n + 1) w z' := by
  obtain ⟨hS, hW, hP, hD, hC, -, hX, hZ, hL, hG, hH, hT⟩ := id H
  obtain ⟨q1, q2, q3, q4, q5, q6, q7, q8, q9, q10, q11, q12, q13, q14, q15⟩ := id hQ
  have hN := z_ge hZ n (Nat.le_refl _)
  have p8 := hP.1
  have w8 := hW.2.2.2
  have h200 := hC.1
  have C : SC M X p n w i kk r h f0 := ⟨hi, w8, hP, hD, hQ⟩
  have d10 : ¬ (1 : Int32) = 0 := by decide
  have hz : z n ≤ mS M := hZ.2.2
  have V := VC_14 (kk := kk) hS
  have S14 := V.1
  generalize hM14 : sI M 301 (X + 6) (nI kk) = M14 at V S14
  have eK : f_X9_kindFor M14 (aSq X i) (X + 1) (X + 6) a = some (nI 2) := by
    rw [kf_c C (by omega) V, if_pos ha, if_pos hc]; rfl
  have ec := snd_c0 H hn hp hi hQ a 2 (by decide) (by rw [hM14]; exact eK)
  rw [hM14, if_neg (show ¬ nI 2 = 0 by decide), if_neg (show ¬ nI 2 = 1 by decide)] at ec
  have V23 : VC X kk M (pS M14 X (hd 2 i kk, 22)) := VC_pS V
  have A23 : Ag X (z n) n T0 T0 T0 M (pS M14 X (hd 2 i kk, 22)) := by
    rw [← hM14]
    exact (Ag_sI (Or.inl (by unfold ScI; omega))).cpn
  have s23 : mS (pS M14 X (hd 2 i kk, 22)) = mS M := by rw [← hM14]; rfl
  have row23 : ∀ q, q < 60 → mA (pS M14 X (hd 2 i kk, 22)) (X + 213) q = nI (byv (hd 2 i kk) 22 q) := fun q hq => pn_row hq
  have b23 : mI (pS M14 X (hd 2 i kk, 22)) 501 (X + 212) = nI 22 := pn_501
  generalize hQ23 : pS M14 X (hd 2 i kk, 22) = Q at ec V23 A23 s23 row23 b23
  obtain ⟨Y, y1, y2, y3, y4, y5, y6, y7, y8, y9, y10, y11, y12, y13⟩ := pr_new (Q := Q) (X := X) (n := n)
  rw [s23] at y1 y3 y4 y5 y6 y7 y8 y9 y10 y11 y12 y13
  have sM : X + 270 ≤ mS M := hS.2.2.2.2
  have VY : VC X kk M Y := by
    refine ⟨St_Ag (N := mS Q) (by omega) (y2 T0 T0 T0) V23.1, fun nu b hb hne => ?_, fun b hb => ?_, fun b hb => ?_, ?_⟩
    · rw [y11 nu b (by omega)]; exact V23.2.1 nu b hb hne
    · rw [y12 b (by omega)]; exact V23.2.2.1 b hb
    · rw [y13 b (by omega)]; exact V23.2.2.2.1 b hb
    · rw [y11 _ _ (by omega)]; exact V23.2.2.2.2
  have SY := VY.1
  -- what the proof keeps at once
  obtain ⟨⟨u0, u1, u2, u3⟩, -⟩ := q15 0 (by omega)
  rw [show (f0 + 0) % 8 = f0 by omega] at u3
  have u2 : mA M (X + 237) (9 * i) = nI u0 := u2
  have VY1 : VC X kk M (sI Y 702 (mS M) (nI h)) := VC_sI VY (by omega)
  generalize hY2 : sI (sI Y 702 (mS M) (nI h)) 703 (mS M) (nI u0) = Y2
  have VY2 : VC X kk M Y2 := by rw [← hY2]; exact VC_sI VY1 (by omega)
  have pY2 : pS Y2 X (hd 2 i kk, 22) = Y2 := by
    refine pn_self ?_ (fun q hq => ?_)
    · rw [← hY2, mI_sI, if_neg (by decide), mI_sI, if_neg (by decide), y11 _ _ (by omega)]; exact b23
    · rw [← hY2, mA_sI, mA_sI, y12 _ (by omega)]; exact row23 q hq
  have kY2 : mK Y2 = mK Y := by rw [← hY2, mK_sI, mK_sI]
  have nY2 : mN Y2 = mN Y := by rw [← hY2, mN_sI, mN_sI]
  have rY2 : mR Y2 = mR Y := by rw [← hY2, mR_sI, mR_sI]
  have sY2 : mS Y2 = mS M + 3 := by rw [← hY2, mS_sI, mS_sI]; exact y3
  have i702 : mI Y2 702 (mS M) = nI h := by rw [← hY2, mI_sI, if_neg (by decide), mI_sI, if_pos rfl, if_pos rfl]
  have i703 : mI Y2 703 (mS M) = nI u0 := by rw [← hY2, mI_sI, if_pos rfl, if_pos rfl]
  have g1 : gd (apx (hd 2 i kk, 22) (nI r).toInt64 4) := gd_apx gd_hd
  obtain ⟨k1, k2, ew, ek⟩ := ws_c C (by omega) (M' := Y2) (s0 := apx (hd 2 i kk, 22) (nI r).toInt64 4) (P := mS M) (U := mS M + 1) (V := mS M + 2) VY2 g1 (by show 22 + 4 ≤ 60; decide) (by rw [kY2]; exact y4) (by rw [rY2]; exact y5) (by rw [rY2]; exact y6) (by rw [kY2]; exact y7) (by rw [nY2]; exact y8) (by rw [kY2]; exact y9) (by rw [nY2]; exact y10) (by omega) (by omega) (by omega)
  have s1' : aSq X i < X + 212 := by unfold aSq; omega
  have sq : ∀ {N : Mm} {nu : Nat}, VC X kk M N → 901 ≤ nu → mI N nu (aSq X i) = mI M nu (aSq X i) := fun W h1 => W.2.1 _ _ s1' (by omega)
  have ews : f_X9_writeShort Y (aSq X i) (X + 1) (X + 6) (X + 212) (mS M) = f_X9_writeShort_L31 1000 (pS Y2 X (apx (hd 2 i kk, 22) (nI r).toInt64 4)) (aSq X i) (X + 1) (X + 6) (X + 212) (mS M) 0 := by
    have w4 : f_X5_write (pS Y2 X (hd 2 i kk, 22)) (X + 212) (nI r).toInt64 4 = _ := wrS (c := 4) VY2.1 gd_hd (show 22 + 4 ≤ 480 by decide) (by decide)
    rw [pY2] at w4
    have l1 : aHd X i f0 < X + 212 := by unfold aHd; omega
    have on : f_X9_oldestNumber (sI Y 702 (mS M) (nI h)) (aSq X i) = some (nI u0) := by
      rw [on_eq VY1.1 hi (by rw [sq VY1 (by decide)]; exact q13) q12 (by rw [sq VY1 (by decide)]; exact q10) (by omega), if_neg ha.2.2, VY1.2.1 _ _ l1 (by unfold aHd; omega), u3]
    unfold f_X9_writeShort
    rw [if_pos (k_aSq SY hi), gi_aSq SY hi, ob_eq, sq VY (by decide), q10, pI_of y4, ob_eq, on, ob_eq, pI_of (show mK (sI Y 702 (mS M) (nI h)) (mS M) = 8 from y4), ob_eq, hY2, gi_aSq VY2.1 hi, ob_eq, sq VY2 (by decide), q5, w4, ob_eq]
  have hLs : ∀ f, f < p → lsn M X i kk f0 h f ≤ 32 := by
    intro f hf
    obtain ⟨-, -, -, ⟨wd, w1, w2, w3⟩, -⟩ := hP.2.2.2 f hf
    have := (ls_spec C hf w3 w1 w2).1
    omega
  obtain ⟨o1, o2, o3⟩ := bs_ok (stS_ok hP hLs) g1 p (Nat.le_refl _)
  have o2' : 26 ≤ (bs (stS M X (lsn M X i kk f0 h)) (apx (hd 2 i kk, 22) (nI r).toInt64 4) p).2 := o2
  have o3' : (bs (stS M X (lsn M X i kk f0 h)) (apx (hd 2 i kk, 22) (nI r).toInt64 4) p).2 ≤ 26 + 40 * p := o3
  generalize ht : bs (stS M X (lsn M X i kk f0 h)) (apx (hd 2 i kk, 22) (nI r).toInt64 4) p = t at o1 o2' o3' ew
  have gs : gd (apx t (nI (sm8 (mB M (X + 7)) p)).toInt64 8) := gd_apx o1
  have s22 : (apx t (nI (sm8 (mB M (X + 7)) p)).toInt64 8).2 = t.2 + 8 := rfl
  generalize hs : apx t (nI (sm8 (mB M (X + 7)) p)).toInt64 8 = s at gs ew s22
  have hUV : ¬ mS M + 1 = mS M + 2 := by omega
  have WB : VC X kk M (uv Y2 (mS M + 1) (mS M + 2) k1 k2) := VC_uv VY2 (by omega) (by omega)
  have uB : mA (uv Y2 (mS M + 1) (mS M + 2) k1 k2) (mS M + 1) = k1 := uv_U hUV
  have vB : mA (uv Y2 (mS M + 1) (mS M + 2) k1 k2) (mS M + 2) = k2 := uv_V
  have iB : mI (uv Y2 (mS M + 1) (mS M + 2) k1 k2) = mI Y2 := rfl
  have kB : mK (uv Y2 (mS M + 1) (mS M + 2) k1 k2) = mK Y := kY2
  have nB : mN (uv Y2 (mS M + 1) (mS M + 2) k1 k2) = mN Y := nY2
  have rB : mR (uv Y2 (mS M + 1) (mS M + 2) k1 k2) = mR Y := rY2
  have sB' : mS (uv Y2 (mS M + 1) (mS M + 2) k1 k2) = mS M + 3 := sY2
  have AB : Ag X (z n) n T0 T0 T0 M (uv Y2 (mS M + 1) (mS M + 2) k1 k2) := by
    have x1 : Ag X (z n) n T0 T0 T0 M Y := A23.tr' ((y2 T0 T0 T0).mono (by omega))
    have x2 : Ag X (z n) n T0 T0 T0 M Y2 := by
      rw [← hY2]
      exact (x1.cI (Or.inr (Or.inr (by omega)))).cI (Or.inr (Or.inr (by omega)))
    exact (x2.cA (Or.inr (Or.inl (by omega)))).cA (Or.inr (Or.inl (by omega)))
  generalize hB : uv Y2 (mS M + 1) (mS M + 2) k1 k2 = B at ew WB uB vB iB kB nB rB sB' AB
  have e14 : ∀ nu, ¬ nu = 301 → ∀ b, b < X + 212 → mI B nu b = mI M nu b := fun nu h1 b h2 => WB.2.1 nu b h2 (fun q => h1 q.1)
  obtain ⟨M1, gb, c1, c2, c3, c4, c5, c6, c7, c8, c9, c10, c11⟩ := j165 (B := B) (X := X) (i := i) (k := 2) (h := h) (f0 := f0) (w := w) (kk := kk) (n := n) (s := s) (pr := some (mS M)) (c := false) WB.1 hi (by rw [e14 1000 (by decide) _ (by omega)]; exact hW.1) (by rw [e14 1010 (by decide) _ (by omega)]; exact hC.2.1) hn (by rw [sq WB (by decide)]; exact q13) (by rw [sq WB (by decide)]; exact q10) (by rw [sq WB (by decide)]; exact q2) WB.2.2.2.2 q12 q9 w8 hW.2.2.1 gs (by omega) ec_2 (by omega)
  have eC : f_X10_send M X (nI i) a = some (M1, nI n) := by
    rw [ec, y1, ob_eq, r_0_1001 SY, ob_eq, r_0_1002 SY, ob_eq, r_0_1007 SY, ob_eq, ews, ew, ob_eq, c1]
  have A1 : Ag X (z n) n (fun nu a => T10 X nu a ∨ TIr X i nu a) T0 (TBc X i) M M1 := AB.of0.tr' (c2.mono (by omega))
  have S1 : St M1 X := St_Ag hN A1 hS
  obtain ⟨R1, d1, d2, d3, d4, d5, d6, d7⟩ := snd_r0 H hn hp hi hQ S1 A1 a
  have q36 : mA R1 (X + 236) i = nI h := by rw [d6 236 (by omega)]; exact q11
  have d8 := kf_r C d2 q36 (d6 235 (by omega)) a
  rw [if_pos ha, if_pos hc] at d8
  have v233 : mA R1 (X + 233) i = nI r := by rw [d6 233 (by omega)]; exact q6
  obtain ⟨x1, x2, xw, xk, xo⟩ := ss_r C (R := R1) (s0 := apx (hd 2 i kk, 22) (nI r).toInt64 4) hn d2 q36 (by rw [d7 1116 (by omega)]; exact hC.2.2.1) g1 (by show 22 + 4 ≤ 60; decide)
  rw [ht, hs] at xw
  have eW : f_X11_sendShort R1 (X + 226) (nI i) (nI kk) = f_X11_sendShort_L21 1000 (rS R1 X (apx (hd 2 i kk, 22) (nI r).toInt64 4)) (X + 226) (nI i) (nI kk) 0 := by
    have he : f_X11_head R1 (X + 226) 2 (nI i) (nI kk) = some (rS R1 X (hd 2 i kk, 22)) := head_eq (k := 2) d2.1 (by decide) hi (by omega)
    have Sr : St (rS R1 X (hd 2 i kk, 22)) X := St_rS d2.1
    have w4 : f_X11_say (rS R1 X (hd 2 i kk, 22)) (X + 226) (nI r).toInt64 4 = _ := syS (c := 4) d2.1 (show 22 + 4 ≤ 600 by decide) (by decide)
    unfold f_X11_sendShort
    rw [if_pos (k_226 d2.1), he, ob_eq, r_226_1110 Sr, ob_eq, ai_233 Sr hi, ob_eq, rS_A (by omega), v233, w4, ob_eq]
  have VU : RV X M (uv R1 (X + 248) (X + 249) x1 x2) := RV_uv d2
  have uI : mI (uv R1 (X + 248) (X + 249) x1 x2) = mI R1 := rfl
  have uS : mS (uv R1 (X + 248) (X + 249) x1 x2) = mS R1 := rfl
  have uo : ∀ b, ¬ b = X + 248 → ¬ b = X + 249 → mA (uv R1 (X + 248) (X + 249) x1 x2) b = mA R1 b := fun b h1 h2 => uv_o h1 h2
  have u48 : mA (uv R1 (X + 248) (X + 249) x1 x2) (X + 248) = x1 := uv_U (by omega)
  have u49 : mA (uv R1 (X + 248) (X + 249) x1 x2) (X + 249) = x2 := uv_V
  have AU : ∀ N n0, Ag X N n0 (TIl X) (fun a j => TAL X n a j ∨ TAq X i a j) (TBr X i) M1 (uv R1 (X + 248) (X + 249) x1 x2) := by
    intro N n0
    have z1 : Ag X N n0 (TIl X) (fun a j => TAL X n a j ∨ TAq X i a j) (TBr X i) M1 R1 := (d3 N n0).wk (fun _ _ q => q.elim) (fun a j q => Or.inr (Or.inl ⟨Or.inl q.1, q.2⟩)) (fun _ _ q => q.elim)
    refine (z1.cA (Or.inr (Or.inr (fun j tt => ?_)))).cA (Or.inr (Or.inr (fun j tt => ?_)))
    · exact (xo j (fun q => tt (Or.inl (Or.inr (Or.inr ⟨Or.inl rfl, q.1, q.2⟩))))).1
    · rw [mA_sA, if_neg (by omega)]
      exact (xo j (fun q => tt (Or.inl (Or.inr (Or.inr ⟨Or.inr rfl, q.1, q.2⟩))))).2
  generalize hU : uv R1 (X + 248) (X + 249) x1 x2 = U at xw VU uI uS uo u48 u49 AU
  have V2 : RV X M (sU (sU U (X + 250) n (nI h)) (X + 251) n (mA M (X + 237) (9 * i))) := RV_sU (RV_sU VU (by omega)) (by omega)
  have A2R : ∀ N n0, Ag X N n0 (TIl X) (fun a j => TAL X n a j ∨ TAq X i a j) (TBr X i) M1 (sU (sU U (X + 250) n (nI h)) (X + 251) n (mA M (X + 237) (9 * i))) := fun N n0 => ((AU N n0).cU (Or.inr (Or.inr (Or.inl (Or.inl ⟨by omega, by omega, by omega, by omega, by omega, rfl⟩))))).cU (Or.inr (Or.inr (Or.inl (Or.inl ⟨by omega, by omega, by omega, by omega, by omega, rfl⟩))))
  have i2 : mI (sU (sU U (X + 250) n (nI h)) (X + 251) n (mA M (X + 237) (9 * i))) = mI R1 := by rw [mI_sU, mI_sU, uI]
  have sR2 : mS (sU (sU U (X + 250) n (nI h)) (X + 251) n (mA M (X + 237) (9 * i))) = mS R1 := by rw [mS_sU, mS_sU, uS]
  have a2 : ∀ b, ¬ (X + 248 ≤ b ∧ b ≤ X + 251) → mA (sU (sU U (X + 250) n (nI h)) (X + 251) n (mA M (X + 237) (9 * i))) b = mA R1 b := by
    intro b hb
    rw [mA_sUx (by omega), mA_sUx (by omega), uo b (by omega) (by omega)]
  have w48 : mA (sU (sU U (X + 250) n (nI h)) (X + 251) n (mA M (X + 237) (9 * i))) (X + 248) = x1 := by rw [mA_sUx (by omega), mA_sUx (by omega), u48]
  have w49 : mA (sU (sU U (X + 250) n (nI h)) (X + 251) n (mA M (X + 237) (9 * i))) (X + 249) = x2 := by rw [mA_sUx (by omega), mA_sUx (by omega), u49]
  have w50 : mA (sU (sU U (X + 250) n (nI h)) (X + 251) n (mA M (X + 237) (9 * i))) (X + 250) n = nI h := by rw [mA_sUx (by omega), mA_sUi]
  have w51 : mA (sU (sU U (X + 250) n (nI h)) (X + 251) n (mA M (X + 237) (9 * i))) (X + 251) n = nI u0 := by rw [mA_sUi, u2]
  generalize hR2 : sU (sU U (X + 250) n (nI h)) (X + 251) n (mA M (X + 237) (9 * i)) = R2 at xw V2 A2R i2 sR2 a2 w48 w49 w50 w51
  obtain ⟨M2, f1, f2, f3, f4, f5, f6, f7⟩ := sndR (R2 := R2) (X := X) (i := i) (k := 2) (p := p) (h := h) (w := w) (kk := kk) (n := n) (s := s) (c := false) V2.1 hi (by rw [i2, d7 1116 (by omega)]; exact hC.2.2.1) hn (by rw [i2, d7 1101 (by omega)]; exact hP.2.2.1) p8 (by rw [i2, d7 1107 (by omega)]; exact hW.2.1) q9 w8 (by rw [a2 _ (by omega)]; exact q36) gs (by omega) (by omega)
  have eM : f_X11_send M1 (X + 226) (nI i) a = some (M2, nI n) := by
    rw [d1, d8, eW, xw]
    exact f1
  have A2 : ∀ N n0, Ag X N n0 (TIl X) (fun a j => TAL X n a j ∨ TAq X i a j) (TBr X i) M1 M2 := by
    intro N n0
    refine (A2R N n0).tr' ((f2 N n0).wk (fun _ _ q => q) ?_ (fun _ _ q => q))
    intro a j q
    rcases q with q | q
    · exact Or.inl (by unfold TAl at q; unfold TAL; omega)
    · exact Or.inr (by unfold TAr at q; unfold TAq; omega)
  have F := f2 (X + 270) 0
  have F2 : ∀ o j, 248 ≤ o → o ≤ 251 → mA M2 (X + o) j = mA R2 (X + o) j := fun o j h1 h2 => F.2.1 _ _ (by unfold ScA; omega) (by unfold TAl TAr; omega) (by omega)
  have hb := bln_le (m := s.2) (c := false) (by omega) (by omega)
  have Ac := A2 (mS M + 5) (n + 1)
  have gI2 : ∀ nu b, (nu = 702 ∨ nu = 703) → mS M ≤ b → b < mS M + 3 → mI M2 nu b = mI Y2 nu b := by
    intro nu b h1 h2 h3
    rw [Ac.1 _ _ (by unfold ScI; omega) (by unfold TIl; omega) (by omega), c2.1 _ _ (by unfold ScI; omega) (by unfold T10 TIr aSq aHd; omega) (by omega), iB]
  have gA2 : ∀ b j, mS M ≤ b → b < mS M + 3 → mA M2 b j = mA B b j := by
    intro b j h2 h3
    rw [Ac.2.1 _ _ (by unfold ScA; omega) (by unfold TAL TAq; omega) (by omega), c2.2.1 _ _ (by unfold ScA; omega) (fun q => q) (by omega)]
  have gK2 : ∀ b, mS M ≤ b → b < mS M + 3 → mK M2 b = mK Y b ∧ mN M2 b = mN Y b := by
    intro b h2 h3
    rw [(Ac.2.2.2.1 b (by omega)).1, (Ac.2.2.2.1 b (by omega)).2, (c2.2.2.2.1 b (by omega)).1, (c2.2.2.2.1 b (by omega)).2, kB, nB]
    exact ⟨rfl, rfl⟩
  have gR2 : ∀ nu b, mS M ≤ b → b < mS M + 3 → mR M2 nu b = mR Y nu b := by
    intro nu b h2 h3
    rw [Ac.2.2.2.2.2.1 _ _ (by omega) (by omega), c2.2.2.2.2.2.1 _ _ (by omega) (by omega), rB]
  rw [sB'] at c3 c4
  have hILp : ILp M2 X p (fun l => if l ≤ n then z l else mS M + 3 + 2) n := by
    have zp : (fun l => if l ≤ n then z l else mS M + 3 + 2) (n + 1) = mS M + 5 := if_neg (by omega)
    have zn : (fun l => if l ≤ n then z l else mS M + 3 + 2) n = z n := if_pos (Nat.le_refl _)
    have eA : lA (fun l => if l ≤ n then z l else mS M + 3 + 2) n = mS M + 4 := by unfold lA; rw [zp]; omega
    have eP : lP (fun l => if l ≤ n then z l else mS M + 3 + 2) n = mS M := by unfold lP; rw [zp]; omega
    have eU : lU (fun l => if l ≤ n then z l else mS M + 3 + 2) n = mS M + 1 := by unfold lU; rw [zp]; omega
    have eV : lV (fun l => if l ≤ n then z l else mS M + 3 + 2) n = mS M + 2 := by unfold lV; rw [zp]; omega
    have r408 : mR M2 408 (mS M + 4) = some (mS M) := by
      rw [Ac.2.2.2.2.2.1 _ _ (by omega) (by omega)]
      exact c4.2.2.2.2.2.2.2.2.2.2.2.2.2.1
    unfold ILp
    rw [eA, eP, eU, eV, zp, zn]
    refine ⟨r408, by omega, ?_, ?_, ?_, ?_, ?_, ?_, ?_, ?_, ?_, fun f hf hk => ?_⟩
    · rw [(gK2 _ (by omega) (by omega)).1]; exact y4
    · rw [gR2 _ _ (by omega) (by omega)]; exact y5
    · rw [gR2 _ _ (by omega) (by omega)]; exact y6
    · rw [(gK2 _ (by omega) (by omega)).1]; exact y7
    · rw [(gK2 _ (by omega) (by omega)).2]; exact y8
    · rw [(gK2 _ (by omega) (by omega)).1]; exact y9
    · rw [(gK2 _ (by omega) (by omega)).2]; exact y10
    · rw [F2 250 _ (by decide) (by decide), w50, gI2 _ _ (by omega) (by omega) (by omega), i702]
    · rw [F2 251 _ (by decide) (by decide), w51, gI2 _ _ (by omega) (by omega) (by omega), i703]
    · have m2 : mA M2 (X + 2) f = mA M (X + 2) f := by
        rw [Ac.2.1 _ _ (by unfold ScA; omega) (by unfold TAL TAq; omega) (by omega)]
        exact A1.2.1 _ _ (by unfold ScA; omega) (fun q => q) (by omega)
      rw [m2] at hk
      have hr : rub M X f = true := by
        unfold rub
        rw [Bool.or_eq_true]
        exact hk.imp decide_eq_true decide_eq_true
      rw [F2 248 _ (by decide) (by decide), w48, F2 249 _ (by decide) (by decide), w49, gA2 _ _ (by omega) (by omega), gA2 _ _ (by omega) (by omega), uB, vB, (xk f hf hr).1, (xk f hf hr).2, (ek f hf hr).1, (ek f hf hr).2]
      exact ⟨rfl, rfl⟩
  refine ⟨M1, M2, nI n, _, eC, eM, snd_fin (hh := h) (r' := r) (o' := 0) (sb := mS M + 3) H hn hi hQ (Or.inl rfl) A1 A2 (by omega) c3 (by rw [f3, sR2, d4]) c4 f4 (by decide) (by omega) hb.1 hb.2 c5 (fun q hq => byt_lt gs) (Or.inl ⟨rfl, hILp⟩) c6 c7 c8 (by rw [c9 902 (by omega), sq WB (by decide)]; exact q5) q4 (by rw [c9 903 (by omega), sq WB (by decide), q7]; exact ha.2.1) (Or.inl rfl) ?_ ?_ ?_ ?_ ?_ f5 ?_ ?_⟩
  · intro d hd
    rw [c10 d hd, WB.2.1 _ _ (by unfold aHd; omega) (by unfold aHd; omega)]
  · intro d f hd hf
    rw [c11 d f hd hf, WB.2.2.2.1 _ (by omega), WB.2.2.2.1 _ (by unfold aHv; omega)]
  · rw [F.2.1 _ _ (by unfold ScA; omega) (by unfold TAl TAr; omega) (by omega), a2 _ (by omega)]; exact d5
  · rw [F.2.1 _ _ (by unfold ScA; omega) (by unfold TAl TAr; omega) (by omega), a2 _ (by omega)]; exact v233
  · rw [F.2.1 _ _ (by unfold ScA; omega) (by unfold TAl TAr; omega) (by omega), a2 _ (by omega), d6 235 (by omega)]; exact ha.2.1
  · intro j hj
    rw [f6 j hj, V2.2.1 237 (by omega)]
  · intro j f hj hf
    rw [f7 j f hj hf, V2.2.2.1 238 (by omega), V2.2.2.1 231 (by omega)]
