/-! deliver -/
def fin (X : Nat) (l : Int32) (N : Mm) (v : Int32) : Option (Mm × Int32) := (wI N (X + 245) l v).bind fun M25 => (gR M25 12 1123 (X + 226)).bind fun v26 => (aI M25 v26 l).bind fun v27 => some (M25, v27)
theorem fin_eq2 {N : Mm} {X l : Nat} {v : Int32} (S : St N X) (hl : l < 200) : fin X (nI l) N v = some (sU N (X + 245) l v, v) := by
  unfold fin
  rw [wi_245 S hl, ob_eq, sU_def, r_226_1123 (St_sU S), ob_eq, ai_245 (St_sU S) hl, ob_eq, mA_sUi]
theorem dl_ref {M1 : Mm} {X l n len : Nat} {r : Nat → Nat} (S : St M1 X) (hl : l < n) (hn : n ≤ 200) (h16 : mI M1 1116 (X + 226) = nI n) (hu : mA M1 (X + 246) l = 0) (l3 : 3 ≤ len) (l6 : len ≤ 60) (h239 : mA M1 (X + 239) l = nI len) (hr : ∀ q, q < len → r q < 256 ∧ mA M1 (X + 240) (64 * l + q) = nI (r q)) :
    ∃ R0 g0 g1 g3 h2, f_X11_deliver M1 (X + 226) (nI l) = (if nI (kdr r) ≤ 5 then (if nI (kdr r) ≤ 2 then ob2 (f_X11_opened (rs R0 X 22 0 g0 g1 g3 h2) (X + 226) (nI l) (nI (kdr r)) (nI (flr r)) (nI (nur r))) (fin X (nI l)) else ob2 (f_X11_answered (rs R0 X 22 0 g0 g1 g3 h2) (X + 226) (nI l) (nI (kdr r)) (nI (flr r)) (nI (nur r))) (fin X (nI l))) else fin X (nI l) (rs R0 X 22 0 g0 g1 g3 h2) 5) ∧ (∀ N n, Ag X N n T0 T0 T0 M1 R0) ∧ mS R0 = mS M1 ∧ RB R0 X l len r := by
  have d10 : ¬ (1 : Int32) = 0 := by decide
  have l2 : l < 200 := by omega
  generalize hT : sI M1 1100 (X + 226) 0 = T
  have ST : St T X := by rw [← hT]; exact St_sI S
  have aT : mA T = mA M1 := by rw [← hT, mA_sI]
  have uw1 : f_X11_isUnderWay T (X + 226) (nI l) = some 1 := by
    unfold f_X11_isUnderWay
    rw [if_pos (k_226 ST), if_neg (nI_pos (by omega)), gi_226 ST, ob_eq, ← hT, mI_sI, if_neg (show ¬ 1116 = 1100 by decide), h16, if_neg (nI_ge hl (by omega)), hT, r_226_1124 ST, ob_eq, az_246 ST l2, ob_eq, aT, hu, if_pos rfl]
  generalize hR0 : sI T 1144 (X + 226) (nI (8 * len)) = R0
  have S0 : St R0 X := by rw [← hR0]; exact St_sI ST
  have A0 : ∀ N n, Ag X N n T0 T0 T0 M1 R0 := fun N n => by
    rw [← hR0, ← hT]
    exact Ag.c1 (Ag.c1 Ag.rf (by decide)) (by decide)
  have s0 : mS R0 = mS M1 := by rw [← hR0, mS_sI, ← hT, mS_sI]
  have a0 : mA R0 = mA M1 := by rw [← hR0, mA_sI, aT]
  have B0 : RB R0 X l len r := ⟨l2, l6, by rw [← hR0, mI_sI, if_pos rfl, if_pos rfl], by rw [a0]; exact h239, fun q hq => by rw [a0]; exact hr q hq⟩
  refine ⟨R0, mA R0 (X + 260), mA R0 (X + 261), mA R0 (X + 263), mB R0 (X + 262), ?_, A0, s0, B0⟩
  have own : sI (sI (sI T 1143 (X + 226) 0) 1144 (X + 226) (nI (8 * len))) 1145 (X + 226) 0 = rs R0 X 0 0 (mA R0 (X + 260)) (mA R0 (X + 261)) (mA R0 (X + 263)) (mB R0 (X + 262)) := by
    rw [sI_comm T (show ¬ 1143 = 1144 by decide), hR0]
    exact rs_own (a := 0)
  generalize mA R0 (X + 260) = g0 at own
  generalize mA R0 (X + 261) = g1 at own
  generalize mA R0 (X + 263) = g3 at own
  generalize mB R0 (X + 262) = h2 at own
  have r1 : f_X11_take (rs R0 X 0 0 g0 g1 g3 h2) (X + 226) (nI l) 3 = some (rs R0 X 3 0 g0 g1 g3 h2, lN (kdr r)) := tk_ok (a := 0) (n := 3) S0 B0 (by decide) (by omega)
  have r2 : f_X11_take (rs R0 X 3 0 g0 g1 g3 h2) (X + 226) (nI l) 3 = some (rs R0 X 6 0 g0 g1 g3 h2, lN (flr r)) := tk_ok (a := 3) (n := 3) S0 B0 (by decide) (by omega)
  have r3 : f_X11_take (rs R0 X 6 0 g0 g1 g3 h2) (X + 226) (nI l) 16 = some (rs R0 X 22 0 g0 g1 g3 h2, lN (nur r)) := tk_ok (a := 6) (n := 16) S0 B0 (by decide) (by omega)
  have e8 : (8 : Int32) * nI len = nI (8 * len) := pk_mul 8 len
  have Sa : St (sI T 1143 (X + 226) 0) X := St_sI ST
  have Sb : St (sI (sI T 1143 (X + 226) 0) 1144 (X + 226) (nI (8 * len))) X := St_sI Sa
  have v239 : mA (sI T 1143 (X + 226) 0) (X + 239) l = nI len := by rw [mA_sI, aT]; exact h239
  unfold f_X11_deliver
  rw [if_pos (k_226 S), pi_226 S, ob_eq, hT, uw1, ob_eq, if_neg d10, pi_226 ST, ob_eq, r_226_1117 Sa, ob_eq, ai_239 Sa l2, ob_eq, v239, e8, pi_226 Sa, ob_eq, pZ_of (k_226 Sb) (Or.inl rfl), ob_eq, own, r1, ob2_eq, r2, ob2_eq, r3, ob2_eq, r_226_1123 (St_rs S0), ob_eq, lN_i, lN_i, lN_i]
  rfl
theorem inv_dlv0 {M M2 : Mm} {X p n w l : Nat} {z : Nat → Nat} (H : Inv M X p n w z) (hl : l < n) (A : Ag X (z n) n (fun num a => num = 405 ∧ a = lA z l) (fun a j => a = X + 245 ∧ j = l) T0 M M2) (h9 : mA M2 (X + 245) l = mI M2 405 (lA z l)) : Inv M2 X p n w z := by
  obtain ⟨hS, hW, hP, hD, hC, hQ, hX, hZ, hL, hG, hH, hT⟩ := id H
  have hN := z_ge hZ n (Nat.le_refl _)
  have z1 := z_ge hZ l (by omega)
  have z2 := hZ.2.1 l hl
  have hA : X + 270 ≤ lA z l := by unfold lA; omega
  refine inv_dlv (i := 0) H hl (by decide) (A.wk (fun _ _ q => Or.inl q) (fun _ _ q => Or.inl q) (fun _ _ q => q.elim)) (tr_Q hN hP.1 hW.2.2.2 (by decide) A (hQ 0 (by decide)) ?_ ?_ (fun _ _ q => q.elim)) (tr_X hN hP.1 (by decide) A (hX 0 (by decide)) ?_ ?_ (fun _ _ q => q.elim)) (tr_G hN A hG ?_ ?_ (fun _ _ q => q.elim)) h9
  · intro nu a h; unfold aSq aHd; omega
  · intro a j h; unfold aSt; omega
  · intro nu a h; unfold aCx aCh; omega
  · intro a j h; unfold aCs; omega
  · intro nu a h; omega
  · intro a j h; omega
/-- a parse, an outcome: then the letter bears it -/
theorem dl_cls {M Q : Mm} {X p n w l : Nat} {z : Nat → Nat} (H : Inv M X p n w z) (hl : l < n) (h246 : mA M (X + 246) l = 0) {E : Mm} {v : Int32} (eo : f_X10_outcomeOf M X (lB z l) = some (E, v)) (kE : mK E (lA z l) = 5) : f_X10_deliver M X (nI l) = some (sI E 405 (lA z l) v, v) := by
  obtain ⟨hS, hW, hP, hD, hC, hQ, hX, hZ, hL, hG, hH, hT⟩ := id H
  have hLl := hL l hl
  have uwl := uw hS hC hLl hl
  obtain ⟨h1, h2, h3, -⟩ := id hLl
  unfold f_X10_deliver
  rw [if_pos (k_0 hS), uwl.1, if_pos h246, ob_eq, nm_some, gR_of h2 h3, ob_eq, eo, ob2_eq, pI_of kE, ob_eq, gI_of (by rw [mK_sI]; exact kE), ob_eq, mI_sI, if_pos rfl, if_pos rfl]
