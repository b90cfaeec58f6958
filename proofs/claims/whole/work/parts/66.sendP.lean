theorem snd_P {M : Mm} {X p n w i kk r h f0 : Nat} {z : Nat → Nat} (H : Inv M X p n w z) (hn : n < 200) (hp : 0 < p) (hi : i < 8) (hQ : IQ' M X p w n i kk r h f0) (a : Int32) (ha : a = 0 ∧ mA M (X + 235) i = 0 ∧ ¬ h = 0) (hc : ¬ al (cnd M X i kk f0 h) p = true) :
    ∃ M1 M2 r' z', f_X10_send M X (nI i) a = some (M1, r') ∧ f_X11_send M1 (X + 226) (nI i) a = some (M2, r') ∧ Inv M2 X p (n + 1) w z' := by
  obtain ⟨hS, hW, hP, hD, hC, -, hX, hZ, hL, hG, hH, hT⟩ := id H
  obtain ⟨q1, q2, q3, q4, q5, q6, q7, q8, q9, q10, q11, q12, q13, q14, q15⟩ := id hQ
  have hN := z_ge hZ n (Nat.le_refl _)
  have p8 := hP.1
  have w8 := hW.2.2.2
  have h200 := hC.1
  have C : SC M X p n w i kk r h f0 := ⟨hi, w8, hP, hD, hQ⟩
  have d10 : ¬ (1 : Int32) = 0 := by decide
  have V := VC_14 (kk := kk) hS
  have S14 := V.1
  generalize hM14 : sI M 301 (X + 6) (nI kk) = B at V S14
  have e14 : ∀ nu, ¬ nu = 301 → mI B nu = mI M nu := by
    intro nu h1; rw [← hM14]; funext y; rw [mI_sI, if_neg h1]
  have bB : mB B = mB M := by rw [← hM14, mB_sI]
  have bS : mS B = mS M := by rw [← hM14, mS_sI]
  have eK : f_X9_kindFor B (aSq X i) (X + 1) (X + 6) a = some (nI 1) := by
    rw [kf_c C (by omega) V, if_pos ha, if_neg hc]; rfl
  have ec := snd_c0 H hn hp hi hQ a 1 (by decide) (by rw [hM14]; exact eK)
  rw [hM14, if_neg (show ¬ nI 1 = 0 by decide), if_pos (show nI 1 = 1 from rfl)] at ec
  have g1 : gd (apx (hd 1 i kk, 22) (nI r).toInt64 4) := gd_apx gd_hd
  have ew : f_X9_writePart (pS B X (hd 1 i kk, 22)) (aSq X i) (X + 1) (X + 6) (X + 212) = some (pS B X (apx (bs (stP M X (fun f => al (okb M X i kk f0 f 0) h)) (apx (hd 1 i kk, 22) (nI r).toInt64 4) p) (nI (sm8 (mB M (X + 7)) p)).toInt64 8)) := by
    have Sp : St (pS B X (hd 1 i kk, 22)) X := St_pS S14
    have w4 : f_X5_write (pS B X (hd 1 i kk, 22)) (X + 212) (nI r).toInt64 4 = _ := wrS (c := 4) S14 gd_hd (show 22 + 4 ≤ 480 by decide) (by decide)
    unfold f_X9_writePart
    rw [if_pos (k_aSq Sp hi), gi_aSq Sp hi, ob_eq, pS_I (by decide), e14 902 (by decide), q5, w4, ob_eq]
    exact wp_c C (by omega) V g1 (by show 22 + 4 ≤ 60; decide)
  obtain ⟨o1, o2, o3⟩ := bs_ok (stP_ok (all := fun f => al (okb M X i kk f0 f 0) h) hP) g1 p (Nat.le_refl _)
  have o2' : 26 ≤ (bs (stP M X (fun f => al (okb M X i kk f0 f 0) h)) (apx (hd 1 i kk, 22) (nI r).toInt64 4) p).2 := o2
  have o3' : (bs (stP M X (fun f => al (okb M X i kk f0 f 0) h)) (apx (hd 1 i kk, 22) (nI r).toInt64 4) p).2 ≤ 26 + 40 * p := o3
  generalize ht : bs (stP M X (fun f => al (okb M X i kk f0 f 0) h)) (apx (hd 1 i kk, 22) (nI r).toInt64 4) p = t at o1 o2' o3' ew
  have gs : gd (apx t (nI (sm8 (mB M (X + 7)) p)).toInt64 8) := gd_apx o1
  have s22 : (apx t (nI (sm8 (mB M (X + 7)) p)).toInt64 8).2 = t.2 + 8 := rfl
  generalize hs : apx t (nI (sm8 (mB M (X + 7)) p)).toInt64 8 = s at gs ew s22
  have hz : z n ≤ mS M := hZ.2.2
  obtain ⟨M1, gb, c1, c2, c3, c4, c5, c6, c7, c8, c9, c10, c11⟩ := j165 (B := B) (X := X) (i := i) (k := 1) (h := h) (f0 := f0) (w := w) (kk := kk) (n := n) (s := s) (pr := none) (c := false) S14 hi (by rw [e14 1000 (by decide)]; exact hW.1) (by rw [e14 1010 (by decide)]; exact hC.2.1) hn (by rw [e14 906 (by decide)]; exact q13) (by rw [e14 904 (by decide)]; exact q10) (by rw [e14 901 (by decide)]; exact q2) V.2.2.2.2 q12 q9 w8 hW.2.2.1 gs (by omega) ec_1 (by omega)
  rw [bS] at c2 c3 c4
  have eC : f_X10_send M X (nI i) a = some (M1, nI n) := by
    rw [ec, ew, ob_eq, c1]
  have A1 : Ag X (z n) n (fun nu a => T10 X nu a ∨ TIr X i nu a) T0 (TBc X i) M M1 := by
    refine Ag.tr' ?_ (c2.mono hz)
    rw [← hM14]
    exact Ag_sI (Or.inl (by unfold ScI; omega))
  have S1 : St M1 X := St_Ag hN A1 hS
  obtain ⟨R1, d1, d2, d3, d4, d5, d6, d7⟩ := snd_r0 H hn hp hi hQ S1 A1 a
  have q36 : mA R1 (X + 236) i = nI h := by rw [d6 236 (by omega)]; exact q11
  have d8 := kf_r C d2 q36 (d6 235 (by omega)) a
  rw [if_pos ha, if_neg hc] at d8
  have v233 : mA R1 (X + 233) i = nI r := by rw [d6 233 (by omega)]; exact q6
  have eW : f_X11_sendPart R1 (X + 226) (nI i) (nI kk) = ob2 (f_X11_laid (rS R1 X s) (X + 226) 1 (nI i) (nI kk) 0) (fun M4 v5 => some (M4, v5)) := by
    have he : f_X11_head R1 (X + 226) 1 (nI i) (nI kk) = some (rS R1 X (hd 1 i kk, 22)) := head_eq (k := 1) d2.1 (by decide) hi (by omega)
    have Sr : St (rS R1 X (hd 1 i kk, 22)) X := St_rS d2.1
    have w4 : f_X11_say (rS R1 X (hd 1 i kk, 22)) (X + 226) (nI r).toInt64 4 = _ := syS (c := 4) d2.1 (show 22 + 4 ≤ 600 by decide) (by decide)
    unfold f_X11_sendPart
    rw [if_pos (k_226 d2.1), he, ob_eq, r_226_1110 Sr, ob_eq, ai_233 Sr hi, ob_eq, rS_A (by omega), v233, w4, ob_eq, sp_r C d2 q36 g1 (by show 22 + 4 ≤ 60; decide), ht, hs]
  obtain ⟨M2, f1, f2, f3, f4, f5, f6, f7⟩ := sndR (R2 := R1) (X := X) (i := i) (k := 1) (p := p) (h := h) (w := w) (kk := kk) (n := n) (s := s) (c := false) d2.1 hi (by rw [d7 1116 (by omega)]; exact hC.2.2.1) hn (by rw [d7 1101 (by omega)]; exact hP.2.2.1) p8 (by rw [d7 1107 (by omega)]; exact hW.2.1) q9 w8 q36 gs (by omega) (by omega)
  have eM : f_X11_send M1 (X + 226) (nI i) a = some (M2, nI n) := by
    rw [d1, d8, eW]
    exact f1
  have A2 : ∀ N n0, Ag X N n0 (TIl X) (fun a j => TAL X n a j ∨ TAq X i a j) (TBr X i) M1 M2 := by
    intro N n0
    have x1 : Ag X N n0 (TIl X) (fun a j => TAL X n a j ∨ TAq X i a j) (TBr X i) M1 R1 := (d3 N n0).wk (fun _ _ q => q.elim) (fun a j q => Or.inr (Or.inl ⟨Or.inl q.1, q.2⟩)) (fun _ _ q => q.elim)
    refine x1.tr' ((f2 N n0).wk (fun _ _ q => q) ?_ (fun _ _ q => q))
    intro a j q
    rcases q with q | q
    · exact Or.inl (by unfold TAl at q; unfold TAL; omega)
    · exact Or.inr (by unfold TAr at q; unfold TAq; omega)
  have F := f2 (X + 270) 0
  have hb := bln_le (m := s.2) (c := false) (by omega) (by omega)
  refine ⟨M1, M2, nI n, _, eC, eM, snd_fin (hh := h) (r' := r) (o' := 0) (sb := mS M) H hn hi hQ (Or.inl rfl) A1 A2 hz c3 (by rw [f3, d4]) c4 f4 (by decide) (by omega) hb.1 hb.2 c5 (fun q hq => byt_lt gs) (Or.inr ⟨by decide, rfl⟩) c6 c7 c8 (by rw [c9 902 (by omega), e14 902 (by decide)]; exact q5) q4 (by rw [c9 903 (by omega), e14 903 (by decide), q7]; exact ha.2.1) (Or.inl rfl) ?_ ?_ ?_ ?_ ?_ f5 ?_ ?_⟩
  · intro d hd
    rw [c10 d hd, ← hM14, mI_sI, if_pos rfl, if_neg (show ¬ aHd X i d = X + 6 by unfold aHd; omega)]
  · intro d f hd hf
    rw [c11 d f hd hf, bB]
  · rw [F.2.1 _ _ (by unfold ScA; omega) (by unfold TAl TAr; omega) (by omega)]; exact d5
  · rw [F.2.1 _ _ (by unfold ScA; omega) (by unfold TAl TAr; omega) (by omega)]; exact v233
  · rw [F.2.1 _ _ (by unfold ScA; omega) (by unfold TAl TAr; omega) (by omega), d6 235 (by omega)]; exact ha.2.1
  · intro j hj
    rw [f6 j hj, d2.2.1 237 (by omega)]
  · intro j f hj hf
    rw [f7 j f hj hf, d2.2.2.1 238 (by omega), d2.2.2.1 231 (by omega)]
