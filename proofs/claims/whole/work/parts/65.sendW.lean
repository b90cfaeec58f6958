theorem snd_W {M : Mm} {X p n w i kk r h f0 : Nat} {z : Nat → Nat} (H : Inv M X p n w z) (hn : n < 200) (hp : 0 < p) (hi : i < 8) (hQ : IQ' M X p w n i kk r h f0) (a : Int32) (ha : ¬ (a = 0 ∧ mA M (X + 235) i = 0 ∧ ¬ h = 0)) :
    ∃ M1 M2 r' z', f_X10_send M X (nI i) a = some (M1, r') ∧ f_X11_send M1 (X + 226) (nI i) a = some (M2, r') ∧ Inv M2 X p (n + 1) w z' := by
  obtain ⟨hS, hW, hP, hD, hC, -, hX, hZ, hL, hG, hH, hT⟩ := id H
  obtain ⟨q1, q2, q3, q4, q5, q6, q7, q8, q9, q10, q11, q12, q13, q14, q15⟩ := id hQ
  have hN := z_ge hZ n (Nat.le_refl _)
  have p8 := hP.1
  have w8 := hW.2.2.2
  have h200 := hC.1
  have C : SC M X p n w i kk r h f0 := ⟨hi, w8, hP, hD, hQ⟩
  have d10 : ¬ (1 : Int32) = 0 := by decide
  have V := VC_14 (kk := kk) hS
  have S14 := V.1
  generalize hM14 : sI M 301 (X + 6) (nI kk) = M14 at V S14
  have e14 : ∀ nu, ¬ nu = 301 → mI M14 nu = mI M nu := by
    intro nu h1; rw [← hM14]; funext y; rw [mI_sI, if_neg h1]
  have eK : f_X9_kindFor M14 (aSq X i) (X + 1) (X + 6) a = some (nI 0) := by
    rw [kf_c C (by omega) V, if_neg ha]; rfl
  have ec := snd_c0 H hn hp hi hQ a 0 (by decide) (by rw [hM14]; exact eK)
  rw [hM14, if_pos (show nI 0 = 0 from rfl)] at ec
  -- the round begins
  have er : nI r + 1 - (nI r + 1) / 16 * 16 = nI ((r + 1) % 16) := by rw [nI_1]; exact pk_rem (d := 16) (by omega) (by decide) (by decide)
  generalize hB : sI (sI (sI M14 902 (aSq X i) (nI ((r + 1) % 16))) 904 (aSq X i) 0) 903 (aSq X i) 0 = B
  have SB : St B X := by rw [← hB]; exact St_sI (St_sI (St_sI S14))
  have bI : ∀ nu a, ¬ (nu = 902 ∨ nu = 903 ∨ nu = 904) → mI B nu a = mI M14 nu a := by
    intro nu a hnu; rw [← hB, mI_sI, if_neg (by omega), mI_sI, if_neg (by omega), mI_sI, if_neg (by omega)]
  have b902 : mI B 902 (aSq X i) = nI ((r + 1) % 16) := by rw [← hB, mI_sI, if_neg (by decide), mI_sI, if_neg (by decide), mI_sI, if_pos rfl, if_pos rfl]
  have b903 : mI B 903 (aSq X i) = 0 := by rw [← hB, mI_sI, if_pos rfl, if_pos rfl]
  have b904 : mI B 904 (aSq X i) = nI 0 := by rw [← hB, mI_sI, if_neg (by decide), mI_sI, if_pos rfl, if_pos rfl]; rfl
  have bA : mA B = mA M := by rw [← hB, mA_sI, mA_sI, mA_sI, ← hM14, mA_sI]
  have bB : mB B = mB M := by rw [← hB, mB_sI, mB_sI, mB_sI, ← hM14, mB_sI]
  have bS : mS B = mS M := by rw [← hB, mS_sI, mS_sI, mS_sI, ← hM14, mS_sI]
  have ebr : f_X9_beginRound (pS M14 X (hd 0 i kk, 22)) (aSq X i) = some (pS B X (hd 0 i kk, 22)) := by
    have Sp : St (pS M14 X (hd 0 i kk, 22)) X := St_pS S14
    unfold f_X9_beginRound
    rw [if_pos (k_aSq Sp hi), gi_aSq Sp hi, ob_eq, pS_I (by decide), e14 902 (by decide), q5, er, pi_aSq Sp hi, ob_eq, pi_aSq (St_sI Sp) hi, ob_eq, pZ_of (k_aSq (St_sI (St_sI Sp)) hi) (Or.inl rfl), ob_eq]
    unfold pS
    rw [pn_sI (by decide), pn_sI (by decide), pn_sI (by decide), hB]
  have g1 : gd (apx (hd 0 i kk, 22) (nI ((r + 1) % 16)).toInt64 4) := gd_apx gd_hd
  have ew : f_X9_writeWhole (pS B X (hd 0 i kk, 22)) (aSq X i) (X + 1) (X + 6) (X + 212) = some (pS B X (bs (stW M X i) (apx (hd 0 i kk, 22) (nI ((r + 1) % 16)).toInt64 4) p)) := by
    have Sp : St (pS B X (hd 0 i kk, 22)) X := St_pS SB
    have w4 : f_X5_write (pS B X (hd 0 i kk, 22)) (X + 212) (nI ((r + 1) % 16)).toInt64 4 = _ := wrS (c := 4) SB gd_hd (show 22 + 4 ≤ 480 by decide) (by decide)
    unfold f_X9_writeWhole
    rw [if_pos (k_aSq Sp hi), gi_aSq Sp hi, ob_eq, pS_I (by decide), b902, w4, ob_eq]
    exact ww_c SB hi hP (by rw [bI _ _ (by omega), e14 604 (by decide)]; exact hP.2.1) (by rw [bA]) (by rw [bA]) (by rw [bA]) (by rw [bB]) g1 (by show 22 + 4 ≤ 60; decide)
  obtain ⟨o1, o2, o3⟩ := bs_ok (stW_ok (i := i) hP) g1 p (Nat.le_refl _)
  have o2' : 26 ≤ (bs (stW M X i) (apx (hd 0 i kk, 22) (nI ((r + 1) % 16)).toInt64 4) p).2 := o2
  have o3' : (bs (stW M X i) (apx (hd 0 i kk, 22) (nI ((r + 1) % 16)).toInt64 4) p).2 ≤ 26 + 40 * p := o3
  generalize hs : bs (stW M X i) (apx (hd 0 i kk, 22) (nI ((r + 1) % 16)).toInt64 4) p = s at o1 o2' o3' ew
  have hz : z n ≤ mS M := hZ.2.2
  obtain ⟨M1, gb, c1, c2, c3, c4, c5, c6, c7, c8, c9, c10, c11⟩ := j165 (B := B) (X := X) (i := i) (k := 0) (h := 0) (f0 := f0) (w := w) (kk := kk) (n := n) (s := s) (pr := none) (c := true) SB hi (by rw [bI _ _ (by omega), e14 1000 (by decide)]; exact hW.1) (by rw [bI _ _ (by omega), e14 1010 (by decide)]; exact hC.2.1) hn (by rw [bI _ _ (by omega), e14 906 (by decide)]; exact q13) b904 (by rw [bI _ _ (by omega), e14 901 (by decide)]; exact q2) (by rw [bI _ _ (by omega)]; exact V.2.2.2.2) q12 (Nat.zero_le _) w8 hW.2.2.1 o1 (by omega) ec_0 (by omega)
  rw [bS] at c2 c3 c4
  have eC : f_X10_send M X (nI i) a = some (M1, nI n) := by
    have Sp : St (pS B X (hd 0 i kk, 22)) X := St_pS SB
    rw [ec, ebr, ob_eq, r_0_1001 Sp, ob_eq, r_0_1002 Sp, ob_eq, r_0_1007 Sp, ob_eq, ew, ob_eq, c1]
  have A1 : Ag X (z n) n (fun nu a => T10 X nu a ∨ TIr X i nu a) T0 (TBc X i) M M1 := by
    refine Ag.tr' ?_ (c2.mono hz)
    rw [← hB, ← hM14]
    exact (((Ag_sI (Or.inl (by unfold ScI; omega))).cI (Or.inr (Or.inl (Or.inr (Or.inl ⟨by decide, by decide, rfl⟩))))).cI (Or.inr (Or.inl (Or.inr (Or.inl ⟨by decide, by decide, rfl⟩))))).cI (Or.inr (Or.inl (Or.inr (Or.inl ⟨by decide, by decide, rfl⟩))))
  have S1 : St M1 X := St_Ag hN A1 hS
  obtain ⟨R1, d1, d2, d3, d4, d5, d6, d7⟩ := snd_r0 H hn hp hi hQ S1 A1 a
  have q36 : mA R1 (X + 236) i = nI h := by rw [d6 236 (by omega)]; exact q11
  have d8 := kf_r C d2 q36 (d6 235 (by omega)) a
  rw [if_neg ha] at d8
  -- the reference begins the round
  generalize hR2 : sU (sU (sU R1 (X + 233) i (nI ((r + 1) % 16))) (X + 236) i 0) (X + 235) i 0 = R2
  have SR2 : St R2 X := by rw [← hR2]; exact St_sU (St_sU (St_sU d2.1))
  have i2 : mI R2 = mI R1 := by rw [← hR2, mI_sU, mI_sU, mI_sU]
  have m2 : mB R2 = mB R1 := by rw [← hR2, mB_sU, mB_sU, mB_sU]
  have s2 : mS R2 = mS R1 := by rw [← hR2, mS_sU, mS_sU, mS_sU]
  have a2 : ∀ x, ¬ x = X + 233 → ¬ x = X + 235 → ¬ x = X + 236 → mA R2 x = mA R1 x := by
    intro x x1 x2 x3; rw [← hR2, mA_sUx x2, mA_sUx x3, mA_sUx x1]
  have v233 : mA R2 (X + 233) i = nI ((r + 1) % 16) := by rw [← hR2, mA_sUx (by omega), mA_sUx (by omega), mA_sUi]
  have v236 : mA R2 (X + 236) i = nI 0 := by rw [← hR2, mA_sUx (by omega), mA_sUi]; rfl
  have v235 : mA R2 (X + 235) i = 0 := by rw [← hR2, mA_sUi]
  have V2 : RV X M R2 := by
    refine ⟨SR2, fun o ho => ?_, fun o ho => ?_, ?_⟩
    · rw [a2 _ (by omega) (by omega) (by omega)]; exact d2.2.1 o ho
    · rw [m2]; exact d2.2.2.1 o ho
    · rw [i2]; exact d2.2.2.2
  have A2R : ∀ N n0, Ag X N n0 (TIl X) (fun a j => TAL X n a j ∨ TAq X i a j) (TBr X i) M1 R2 := by
    intro N n0
    have x1 : Ag X N n0 (TIl X) (fun a j => TAL X n a j ∨ TAq X i a j) (TBr X i) M1 R1 := (d3 N n0).wk (fun _ _ q => q.elim) (fun a j q => Or.inr (Or.inl ⟨Or.inl q.1, q.2⟩)) (fun _ _ q => q.elim)
    rw [← hR2]
    exact ((x1.cU (Or.inr (Or.inr (Or.inr (Or.inl ⟨Or.inr (Or.inl rfl), rfl⟩))))).cU (Or.inr (Or.inr (Or.inr (Or.inl ⟨Or.inr (Or.inr (Or.inr rfl)), rfl⟩))))).cU (Or.inr (Or.inr (Or.inr (Or.inl ⟨Or.inr (Or.inr (Or.inl rfl)), rfl⟩))))
  have eW : f_X11_sendWhole R1 (X + 226) (nI i) (nI kk) = ob2 (f_X11_laid (rS R2 X s) (X + 226) 0 (nI i) (nI kk) 1) (fun M4 v5 => some (M4, v5)) := by
    have Sa : St (sU R1 (X + 233) i (nI ((r + 1) % 16))) X := St_sU d2.1
    have Sb : St (sU (sU R1 (X + 233) i (nI ((r + 1) % 16))) (X + 236) i 0) X := St_sU Sa
    have he : f_X11_head R2 (X + 226) 0 (nI i) (nI kk) = some (rS R2 X (hd 0 i kk, 22)) := head_eq (k := 0) SR2 (by decide) hi (by omega)
    have Sr : St (rS R2 X (hd 0 i kk, 22)) X := St_rS SR2
    have w4 : f_X11_say (rS R2 X (hd 0 i kk, 22)) (X + 226) (nI ((r + 1) % 16)).toInt64 4 = _ := syS (c := 4) SR2 (show 22 + 4 ≤ 600 by decide) (by decide)
    have r233 : mA R1 (X + 233) i = nI r := by rw [d6 233 (by omega)]; exact q6
    unfold f_X11_sendWhole
    rw [if_pos (k_226 d2.1), r_226_1110 d2.1, ob_eq, ob_eq, ai_233 d2.1 hi, ob_eq, r233, er, wi_233 d2.1 hi, ob_eq, sU_def, r_226_1113 Sa, ob_eq, wi_236 Sa hi, ob_eq, sU_def, r_226_1112 Sb, ob_eq, wz_235 Sb hi, ob_eq, vz0, sU_def, hR2, he, ob_eq, r_226_1110 Sr, ob_eq, ai_233 Sr hi, ob_eq, rS_A (by omega), v233, w4, ob_eq, sw_r C V2 g1 (by show 22 + 4 ≤ 60; decide), hs]
  obtain ⟨M2, f1, f2, f3, f4, f5, f6, f7⟩ := sndR (R2 := R2) (X := X) (i := i) (k := 0) (p := p) (h := 0) (w := w) (kk := kk) (n := n) (s := s) (c := true) SR2 hi (by rw [i2, d7 1116 (by omega)]; exact hC.2.2.1) hn (by rw [i2, d7 1101 (by omega)]; exact hP.2.2.1) p8 (by rw [i2, d7 1107 (by omega)]; exact hW.2.1) (Nat.zero_le _) w8 v236 o1 (by omega) (by omega)
  have eM : f_X11_send M1 (X + 226) (nI i) a = some (M2, nI n) := by
    rw [d1, d8, eW]
    exact f1
  have A2 : ∀ N n0, Ag X N n0 (TIl X) (fun a j => TAL X n a j ∨ TAq X i a j) (TBr X i) M1 M2 := by
    intro N n0
    refine (A2R N n0).tr' ((f2 N n0).wk (fun _ _ q => q) ?_ (fun _ _ q => q))
    intro a j q
    rcases q with q | q
    · exact Or.inl (by unfold TAl at q; unfold TAL; omega)
    · exact Or.inr (by unfold TAr at q; unfold TAq; omega)
  have F := f2 (X + 270) 0
  have hb := bln_le (m := s.2) (c := true) (by omega) (by omega)
  have w0 : 0 < w := hW.2.2.1
  have m7 : mB B (X + 7) = mB M (X + 7) := by rw [bB]
  refine ⟨M1, M2, nI n, _, eC, eM, snd_fin (hh := 0) (r' := (r + 1) % 16) (o' := 0) (sb := mS M) H hn hi hQ (Or.inr rfl) A1 A2 hz c3 (by rw [f3, s2, d4]) c4 f4 (by decide) (by omega) hb.1 hb.2 c5 (fun q hq => byt_lt o1) (Or.inr ⟨by decide, rfl⟩) c6 c7 c8 (by rw [c9 902 (by omega)]; exact b902) (Nat.mod_lt _ (by decide)) (by rw [c9 903 (by omega)]; exact b903) (Or.inl rfl) ?_ ?_ ?_ ?_ ?_ f5 ?_ ?_⟩
  · intro d hd
    rw [c10 d hd, bI _ _ (by omega), ← hM14, mI_sI, if_pos rfl, if_neg (show ¬ aHd X i d = X + 6 by unfold aHd; omega)]
  · intro d f hd hf
    rw [c11 d f hd hf, bB]
  · rw [F.2.1 _ _ (by unfold ScA; omega) (by unfold TAl TAr; omega) (by omega), a2 _ (by omega) (by omega) (by omega)]; exact d5
  · rw [F.2.1 _ _ (by unfold ScA; omega) (by unfold TAl TAr; omega) (by omega)]; exact v233
  · rw [F.2.1 _ _ (by unfold ScA; omega) (by unfold TAl TAr; omega) (by omega)]; exact v235
  · intro j hj
    rw [f6 j hj, V2.2.1 237 (by omega)]
  · intro j f hj hf
    rw [f7 j f hj hf, V2.2.2.1 238 (by omega), V2.2.2.1 231 (by omega)]
