/-! send -/
theorem VC_14 {M : Mm} {X kk : Nat} (hS : St M X) : VC X kk M (sI M 301 (X + 6) (nI kk)) := by
  refine ⟨St_sI hS, fun nu a ha hn => ?_, fun a _ => rfl, fun a _ => rfl, ?_⟩
  · rw [mI_sI]
    by_cases q : nu = 301
    · rw [if_pos q, if_neg (fun e => hn ⟨q, e⟩)]
    · rw [if_neg q]
  · rw [mI_sI, if_pos rfl, if_pos rfl]
/-- the reference, up to its choice -/
theorem snd_r0 {M M1 : Mm} {X p n w i kk r h f0 : Nat} {z : Nat → Nat} (H : Inv M X p n w z) (hn : n < 200) (hp : 0 < p) (hi : i < 8) (hQ : IQ' M X p w n i kk r h f0) (S1 : St M1 X) (A1 : Ag X (z n) n (fun nu a => T10 X nu a ∨ TIr X i nu a) T0 (TBc X i) M M1) (a : Int32) :
    ∃ R1, f_X11_send M1 (X + 226) (nI i) a = f_X11_send_L72 1000 R1 (X + 226) (nI i) a (nI kk) 1 0 ∧ RV X M R1 ∧ (∀ N n0, Ag X N n0 T0 (fun a j => a = X + 232 ∧ j = i) T0 M1 R1) ∧ mS R1 = mS M1 ∧ mA R1 (X + 232) i = nI (kk + 1) ∧ (∀ o, (o = 233 ∨ o = 235 ∨ o = 236) → mA R1 (X + o) i = mA M (X + o) i) ∧ (∀ nu, (nu = 1101 ∨ nu = 1107 ∨ nu = 1116) → mI R1 nu (X + 226) = mI M nu (X + 226)) := by
  obtain ⟨hS, hW, hP, hD, hC, -, hX, hZ, hL, hG, hH, hT⟩ := id H
  have hN := z_ge hZ n (Nat.le_refl _)
  have d10 : ¬ (1 : Int32) = 0 := by decide
  have n200 : ¬ nI n = 200 := fun q => absurd ((nI_eq (a := n) (b := 200) (by omega) (by decide)).mp q) (by omega)
  have p8 := hP.1
  have p0 : ¬ nI p = 0 := nI_ne0 hp (by omega)
  have eA : ∀ o j, 226 < o → o < 259 → mA M1 (X + o) j = mA M (X + o) j := fun o j q1 q2 => A1.2.1 _ _ (by unfold ScA; omega) (fun q => q) (by omega)
  have eB : ∀ o j, 226 < o → o < 259 → mB M1 (X + o) j = mB M (X + o) j := fun o j q1 q2 => A1.2.2.1 _ _ (by unfold ScB; omega) (by unfold TBc aHv; omega) (by omega)
  have eI : ∀ nu, (nu = 1101 ∨ nu = 1107 ∨ nu = 1116) → mI M1 nu (X + 226) = mI M nu (X + 226) := fun nu hnu => A1.1 _ _ (by unfold ScI; omega) (by unfold T10 TIr aSq aHd; omega) (by omega)
  have q3 := hQ.2.2.1
  have S0 : St (sI M1 1100 (X + 226) 0) X := St_sI S1
  have t32 : mA (sI M1 1100 (X + 226) 0) (X + 232) i = nI kk := by rw [mA_sI, eA 232 i (by decide) (by decide)]; exact q3
  refine ⟨sU (sI M1 1100 (X + 226) 0) (X + 232) i (nI (kk + 1)), ?_, ?_, ?_, ?_, ?_, ?_, ?_⟩
  · unfold f_X11_send
    rw [if_pos (k_226 S1), pi_226 S1, ob_eq, (fl_in hi).2.1, ob_eq, if_neg d10, gi_226 S0, ob_eq, mI_sI, if_neg (show ¬ 1116 = 1100 by decide), eI 1116 (by omega), hC.2.2.1, if_neg n200, gi_226 S0, ob_eq, mI_sI, if_neg (show ¬ 1101 = 1100 by decide), eI 1101 (by omega), hP.2.2.1, if_neg p0, r_226_1109 S0, ob_eq, ai_232 S0 hi, ob_eq, t32, ob_eq, ai_232 S0 hi, ob_eq, t32, nI_1, wi_232 S0 hi, ob_eq, sU_def]
  · refine ⟨St_sU S0, fun o ho => ?_, fun o ho => ?_, ?_⟩
    · rw [mA_sUx (by omega), mA_sI]
      exact funext fun j => eA o j (by omega) (by omega)
    · rw [mB_sU, mB_sI]
      exact funext fun j => eB o j (by omega) (by omega)
    · rw [mI_sU, mI_sI, if_neg (by decide)]; exact eI 1101 (by omega)
  · intro N n0
    exact (Ag_sI (Or.inl (by unfold ScI; omega))).cU (Or.inr (Or.inr ⟨rfl, rfl⟩))
  · rw [mS_sU, mS_sI]
  · rw [mA_sUi]
  · intro o ho
    rw [mA_sUx (by omega), mA_sI]
    exact eA o i (by omega) (by omega)
  · intro nu hnu
    rw [mI_sU, mI_sI, if_neg (by omega)]
    exact eI nu hnu
theorem ec_0 : f_X10_endsInCheck (nI 0) = some (if true then 1 else 0) := by decide
theorem ec_1 : f_X10_endsInCheck (nI 1) = some (if false then 1 else 0) := by decide
theorem ec_2 : f_X10_endsInCheck (nI 2) = some (if false then 1 else 0) := by decide
theorem gd_hd {k i u : Nat} : gd (hd k i u, 22) := hd_b
/-- the class, up to its choice -/
theorem snd_c0 {M : Mm} {X p n w i kk r h f0 : Nat} {z : Nat → Nat} (H : Inv M X p n w z) (hn : n < 200) (hp : 0 < p) (hi : i < 8) (hQ : IQ' M X p w n i kk r h f0) (a : Int32) (K : Nat) (hK : K ≤ 2) (eK : f_X9_kindFor (sI M 301 (X + 6) (nI kk)) (aSq X i) (X + 1) (X + 6) a = some (nI K)) :
    f_X10_send M X (nI i) a = if nI K = 0 then (f_X9_beginRound (pS (sI M 301 (X + 6) (nI kk)) X (hd K i kk, 22)) (aSq X i)).bind (fun M39 => (gR M39 11 1001 X).bind fun v40 => (gR M39 11 1002 X).bind fun v41 => (gR M39 11 1007 X).bind fun v42 => (f_X9_writeWhole M39 (aSq X i) v40 v41 v42).bind fun M44 => f_X10_send_J165 M44 X (nI i) (aSq X i) (nI K) none) else if nI K = 1 then (f_X9_writePart (pS (sI M 301 (X + 6) (nI kk)) X (hd K i kk, 22)) (aSq X i) (X + 1) (X + 6) (X + 212)).bind (fun M37 => f_X10_send_J165 M37 X (nI i) (aSq X i) (nI K) none) else (f_X7_init (nO (pS (sI M 301 (X + 6) (nI kk)) X (hd K i kk, 22)) 8) (mS M)).bind (fun M27 => (gR M27 11 1001 X).bind fun v28 => (gR M27 11 1002 X).bind fun v29 => (gR M27 11 1007 X).bind fun v30 => (f_X9_writeShort M27 (aSq X i) v28 v29 v30 (mS M)).bind fun M32 => f_X10_send_J165 M32 X (nI i) (aSq X i) (nI K) (some (mS M))) := by
  obtain ⟨hS, hW, hP, hD, hC, -, hX, hZ, hL, hG, hH, hT⟩ := id H
  have d10 : ¬ (1 : Int32) = 0 := by decide
  have p8 := hP.1
  have p0 : ¬ nI p = 0 := nI_ne0 hp (by omega)
  have k200 : kk ≤ n := hQ.1
  have V := VC_14 (kk := kk) hS
  have S14 := V.1
  have be : f_X5_begin (sI M 301 (X + 6) (nI kk)) (X + 212) (nI K) (nI i) (nI kk) = some (pS (sI M 301 (X + 6) (nI kk)) X (hd K i kk, 22)) := begin_eq S14 (by omega) hi (by omega)
  have S23 : St (pS (sI M 301 (X + 6) (nI kk)) X (hd K i kk, 22)) X := St_pS S14
  have s23 : mS (pS (sI M 301 (X + 6) (nI kk)) X (hd K i kk, 22)) = mS M := rfl
  unfold f_X10_send
  rw [if_pos (k_0 hS), (fl_in hi).1, ob_eq, if_neg d10, lf_in hS hC, ob_eq, if_pos hn, if_pos rfl, r_0_1001 hS, ob_eq, gi_1 hS, ob_eq, hP.2.1, if_neg p0, r_0_1003 hS, ob_eq, q_sq hS hi, ob_eq, r_0_1002 hS, ob_eq, gi_aSq hS hi, ob_eq, hQ.2.1, pi_6 hS, ob_eq, r_0_1001 S14, ob_eq, r_0_1002 S14, ob_eq, eK, ob_eq, r_0_1007 S14, ob_eq, ob_eq, gi_6 S14, ob_eq, V.2.2.2.2, be, ob_eq, s23, r_0_1001 S23, ob_eq, r_0_1002 S23, ob_eq, r_0_1007 S23, ob_eq]
