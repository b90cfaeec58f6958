/-! Calls that write a little. -/
theorem inv_thr {M : Mm} {X p n w : Nat} {z : Nat → Nat} {v : Int32} (H : Inv M X p n w z) : Inv (sI M 1100 (X + 226) v) X p n w z := Inv_Ag H (Nat.le_refl _) (Ag_sI (Or.inl (by unfold ScI; omega)))
theorem lN_of (x : Int64) : ∃ n, n < 2 ^ 64 ∧ x = lN n := by
  refine ⟨x.toBitVec.toNat, x.toBitVec.isLt, ?_⟩
  apply Int64.toBitVec_inj.1
  show x.toBitVec = BitVec.ofNat 64 x.toBitVec.toNat
  simp
theorem andL (a b : Nat) : lN a &&& lN b = lN (a &&& b) := by
  apply Int64.toBitVec_inj.1
  show BitVec.ofNat 64 a &&& BitVec.ofNat 64 b = BitVec.ofNat 64 (a &&& b)
  apply BitVec.eq_of_getLsbD_eq
  intro i hi
  simp [hi]
/-- the mask of a width -/
def mk (wd : Int32) : Int64 := ((1 : Int64) <<< (wd.toInt64 &&& 63)) - 1
theorem mk_eq : ∀ wd, wd < 33 → mk (nI wd) = lN (2 ^ wd - 1) := by decide
theorem mk_and {wd u : Nat} (h : wd < 33) : lN u &&& mk (nI wd) = lN (u % 2 ^ wd) := by rw [mk_eq wd h, andL, Nat.and_two_pow_sub_one_eq_mod]
theorem lb_in {M : Mm} {X f : Nat} {v : Int64} (hS : St M X) (hf : f < 8) : f_X6_lowBits M (X + 1) (nI f) v = some (v &&& mk (mA M (X + 3) f)) := by
  unfold f_X6_lowBits f_X10_lowest
  rw [if_pos (k_1 hS), r_1_601 hS, ob_eq, ai_3 hS hf, ob_eq, ob_eq]
  rfl
theorem ct_in {M : Mm} {X f : Nat} {v : Int64} (hS : St M X) (hf : f < 8) : f_X11_cut M (X + 226) (nI f) v = some (v &&& mk (mA M (X + 228) f)) := by
  unfold f_X11_cut
  rw [if_pos (k_226 hS), r_226_1103 hS, ob_eq, ai_228 hS hf, ob_eq]
  rfl
theorem op_set {M : Mm} {X p n w : Nat} {z : Nat → Nat} (H : Inv M X p n w z) (a : Int32) (v : Int64) : ∃ M1 M2 r, f_X10_set M X a v = some (M1, r) ∧ f_X11_set M1 (X + 226) a v = some (M2, r) ∧ Inv M2 X p n w z := by
  obtain ⟨hS, hW, ⟨p8, p1, p2, p3⟩, hD, hC, hQ, hX, hZ, hL, hG, hH, hT⟩ := id H
  rcases ix_cases a (n := p) (by omega) with h | ⟨f, hf, rfl⟩
  · refine ⟨M, sI M 1100 (X + 226) 0, -1, ?_, ?_, inv_thr H⟩
    · unfold f_X10_set
      rw [if_pos (k_0 hS), r_0_1001 hS, ob_eq, has_out hS p1 h, ob_eq, if_pos rfl]
    · unfold f_X11_set
      have hS1 : St (sI M 1100 (X + 226) 0) X := hS
      have p2' : mI (sI M 1100 (X + 226) 0) 1101 (X + 226) = nI p := p2
      rw [if_pos (k_226 hS), pi_226 hS, ob_eq, fd_out hS1 p2' h, ob_eq, if_pos rfl]
  have hf8 : f < 8 := by omega
  obtain ⟨i1, i2, ⟨k, k1, k2⟩, ⟨wd, w1, w2, w3⟩, -⟩ := p3 f hf
  obtain ⟨u, -, hu⟩ := lN_of v
  generalize hM1 : sB M (X + 7) (va_up (mB M (X + 7)) f (v &&& mk (mA M (X + 3) f))) = M1
  have hS1 : St M1 X := by rw [← hM1]; exact hS
  generalize hMt : sI M1 1100 (X + 226) 0 = Mt
  have hSt : St Mt X := by rw [← hMt]; exact hS1
  have p2' : mI Mt 1101 (X + 226) = nI p := by rw [← hMt, ← hM1]; exact p2
  have e228 : mA Mt (X + 228) f = mA M (X + 3) f := by rw [← hMt, ← hM1]; exact i2
  have e231 : mB Mt (X + 231) = mB M (X + 231) := by
    rw [← hMt, ← hM1]
    show (if X + 231 = X + 7 then _ else mB M (X + 231)) = _
    rw [if_neg (by omega)]
  refine ⟨M1, sB Mt (X + 231) (va_up (mB Mt (X + 231)) f (v &&& mk (mA M (X + 3) f))), mB M (X + 7) f, ?_, ?_, ?_⟩
  · unfold f_X10_set
    simp only [if_pos (k_0 hS), r_0_1001 hS, ob_eq, has_in hS p1 p8 hf, if_neg (by decide : ¬ (1 : Int32) = 0), r_0_1002 hS, r_6_300 hS, aj_7 hS hf8, lb_in hS hf8, wj_7 hS hf8, hM1]
  · unfold f_X11_set
    simp only [if_pos (k_226 hS1), pi_226 hS1, ob_eq, hMt, fd_in hSt p2' p8 hf, if_neg (by decide : ¬ (1 : Int32) = 0), r_226_1108 hSt, aj_231 hSt hf8, ct_in hSt hf8, wj_231 hSt hf8, e228, e231, (hD.1 f hf).1]
  · have hN := z_ge hZ n (Nat.le_refl _)
    have A1 : Ag X (z n) n T0 T0 (fun a _ => a = X + 7 ∨ a = X + 231) M M1 := by rw [← hM1]; exact Ag_sB (Or.inr (Or.inr (fun j q => absurd (Or.inl rfl) q)))
    have A2 : Ag X (z n) n T0 T0 (fun a _ => a = X + 7 ∨ a = X + 231) M1 Mt := by rw [← hMt]; exact Ag_sI (Or.inl (by unfold ScI; omega))
    have A3 : Ag X (z n) n T0 T0 (fun a _ => a = X + 7 ∨ a = X + 231) Mt (sB Mt (X + 231) (va_up (mB Mt (X + 231)) f (v &&& mk (mA M (X + 3) f)))) := Ag_sB (Or.inr (Or.inr (fun j q => absurd (Or.inr rfl) q)))
    have A := (A1.tr' A2).tr' A3
    refine ⟨St_Ag hN A hS, tr_W hN A hW (by intro a j h; first | exact False.elim h | ((try dsimp only at h); (try simp only [aSq, aSt, aRg, aHd, aHv, aCx, aCh, aCv, aCs, aSh, aSr] at h ⊢); omega)), tr_P hN A ⟨p8, p1, p2, p3⟩ (by intro a j h; first | exact False.elim h | ((try dsimp only at h); (try simp only [aSq, aSt, aRg, aHd, aHv, aCx, aCh, aCv, aCs, aSh, aSr] at h ⊢); omega)) (by intro a j h; first | exact False.elim h | ((try dsimp only at h); (try simp only [aSq, aSt, aRg, aHd, aHv, aCx, aCh, aCv, aCs, aSh, aSr] at h ⊢); omega)) (by intro a j h; first | exact False.elim h | ((try dsimp only at h); (try simp only [aSq, aSt, aRg, aHd, aHv, aCx, aCh, aCv, aCs, aSh, aSr] at h ⊢); omega)), ?_, tr_C hN A hC (by intro a j h; first | exact False.elim h | ((try dsimp only at h); (try simp only [aSq, aSt, aRg, aHd, aHv, aCx, aCh, aCv, aCs, aSh, aSr] at h ⊢); omega)), fun i hi => tr_Q hN p8 hW.2.2.2 hi A (hQ i hi) (by intro a j h; first | exact False.elim h | ((try dsimp only at h); (try simp only [aSq, aSt, aRg, aHd, aHv, aCx, aCh, aCv, aCs, aSh, aSr] at h ⊢); omega)) (by intro a j h; first | exact False.elim h | ((try dsimp only at h); (try simp only [aSq, aSt, aRg, aHd, aHv, aCx, aCh, aCv, aCs, aSh, aSr] at h ⊢); omega)) (by intro a j h; first | exact False.elim h | ((try dsimp only at h); (try simp only [aSq, aSt, aRg, aHd, aHv, aCx, aCh, aCv, aCs, aSh, aSr] at h ⊢); omega)), fun i hi => tr_X hN p8 hi A (hX i hi) (by intro a j h; first | exact False.elim h | ((try dsimp only at h); (try simp only [aSq, aSt, aRg, aHd, aHv, aCx, aCh, aCv, aCs, aSh, aSr] at h ⊢); omega)) (by intro a j h; first | exact False.elim h | ((try dsimp only at h); (try simp only [aSq, aSt, aRg, aHd, aHv, aCx, aCh, aCv, aCs, aSh, aSr] at h ⊢); omega)) (by intro a j h; first | exact False.elim h | ((try dsimp only at h); (try simp only [aSq, aSt, aRg, aHd, aHv, aCx, aCh, aCv, aCs, aSh, aSr] at h ⊢); omega)), tr_Z A hZ, fun l hl => tr_L p8 hZ hl (Nat.le_refl _) (Nat.le_refl _) A (hL l hl) (by intro a j h; first | exact False.elim h | ((try dsimp only at h); (try simp only [aSq, aSt, aRg, aHd, aHv, aCx, aCh, aCv, aCs, aSh, aSr] at h ⊢); omega)) (by intro a j h; first | exact False.elim h | ((try dsimp only at h); (try simp only [aSq, aSt, aRg, aHd, aHv, aCx, aCh, aCv, aCs, aSh, aSr] at h ⊢); omega)), tr_G hN A hG (by intro a j h; first | exact False.elim h | ((try dsimp only at h); (try simp only [aSq, aSt, aRg, aHd, aHv, aCx, aCh, aCv, aCs, aSh, aSr] at h ⊢); omega)) (by intro a j h; first | exact False.elim h | ((try dsimp only at h); (try simp only [aSq, aSt, aRg, aHd, aHv, aCx, aCh, aCv, aCs, aSh, aSr] at h ⊢); omega)) (by intro a j h; first | exact False.elim h | ((try dsimp only at h); (try simp only [aSq, aSt, aRg, aHd, aHv, aCx, aCh, aCv, aCs, aSh, aSr] at h ⊢); omega)), fun s hs => tr_H hN hs A (hH s hs) (by intro a j h; first | exact False.elim h | ((try dsimp only at h); (try simp only [aSq, aSt, aRg, aHd, aHv, aCx, aCh, aCv, aCs, aSh, aSr] at h ⊢); omega)) (by intro a j h; first | exact False.elim h | ((try dsimp only at h); (try simp only [aSq, aSt, aRg, aHd, aHv, aCx, aCh, aCv, aCs, aSh, aSr] at h ⊢); omega)) (by intro a j h; first | exact False.elim h | ((try dsimp only at h); (try simp only [aSq, aSt, aRg, aHd, aHv, aCx, aCh, aCv, aCs, aSh, aSr] at h ⊢); omega)), tr_T hN A hT (by intro a j h; first | exact False.elim h | ((try dsimp only at h); (try simp only [aSq, aSt, aRg, aHd, aHv, aCx, aCh, aCv, aCs, aSh, aSr] at h ⊢); omega)) (by intro a j h; first | exact False.elim h | ((try dsimp only at h); (try simp only [aSq, aSt, aRg, aHd, aHv, aCx, aCh, aCv, aCs, aSh, aSr] at h ⊢); omega))⟩
    have b7 : mB (sB Mt (X + 231) (va_up (mB Mt (X + 231)) f (v &&& mk (mA M (X + 3) f)))) (X + 7) = va_up (mB M (X + 7)) f (v &&& mk (mA M (X + 3) f)) := by
      rw [mB_sB, if_neg (by omega), ← hMt, ← hM1]
      show (if X + 7 = X + 7 then _ else _) = _
      rw [if_pos rfl]
    have b231 : mB (sB Mt (X + 231) (va_up (mB Mt (X + 231)) f (v &&& mk (mA M (X + 3) f)))) (X + 231) = va_up (mB M (X + 231)) f (v &&& mk (mA M (X + 3) f)) := by
      rw [mB_sB, if_pos rfl, e231]
    have a3 : mA (sB Mt (X + 231) (va_up (mB Mt (X + 231)) f (v &&& mk (mA M (X + 3) f)))) (X + 3) = mA M (X + 3) := by
      rw [mA_sB, ← hMt, ← hM1]; rfl
    unfold ID
    rw [b7, b231, a3]
    refine ⟨fun g hg => ?_, fun g h1 h2 => by rw [vau_ne (by omega)]; exact hD.2 g h1 h2⟩
    by_cases e : g = f
    · subst e
      rw [vau_eq, vau_eq, w3, hu, mk_and (by omega)]
      exact ⟨rfl, wd, u % 2 ^ wd, rfl, w1, w2, Nat.mod_lt _ (Nat.two_pow_pos wd), rfl⟩
    · rw [vau_ne e, vau_ne e]
      exact hD.1 g hg

theorem op_stride {M : Mm} {X p n w : Nat} {z : Nat → Nat} (H : Inv M X p n w z) (a b c : Int32) : ∃ M1 M2 r, f_X10_stride M X a b c = some (M1, r) ∧ f_X11_stride M1 (X + 226) a b c = some (M2, r) ∧ Inv M2 X p n w z := by
  obtain ⟨hS, hW, ⟨p8, p1, p2, p3⟩, hD, hC, hQ, hX, hZ, hL, hG, hH, hT⟩ := id H
  have hS1 : St (sI M 1100 (X + 226) 0) X := hS
  have p2' : mI (sI M 1100 (X + 226) 0) 1101 (X + 226) = nI p := p2
  have d10 : ¬ (1 : Int32) = 0 := by decide
  rcases ix_cases a (n := 8) (by omega) with h | ⟨i, hi, rfl⟩
  · refine ⟨M, _, -1, ?_, ?_, inv_thr (v := 0) H⟩
    · unfold f_X10_stride
      simp only [if_pos (k_0 hS), (fl_out h).1, ob_eq, if_true]
    · unfold f_X11_stride
      simp only [if_pos (k_226 hS), pi_226 hS, (fl_out h).2.1, ob_eq, if_true]
  rcases ix_cases b (n := p) (by omega) with h | ⟨f, hf, rfl⟩
  · refine ⟨M, _, -1, ?_, ?_, inv_thr (v := 0) H⟩
    · unfold f_X10_stride
      simp only [if_pos (k_0 hS), (fl_in hi).1, ob_eq, if_neg d10, r_0_1001 hS, hs_out hS p1 h, if_true]
    · unfold f_X11_stride
      simp only [if_pos (k_226 hS), pi_226 hS, (fl_in hi).2.1, ob_eq, if_neg d10, fd_out hS1 p2' h, if_true]
  have hf8 : f < 8 := by omega
  obtain ⟨i1, -⟩ := p3 f hf
  by_cases hr : mA M (X + 2) f = 2 ∨ mA M (X + 2) f = 3
  rotate_left
  · have hrr : (if mA M (X + 2) f = 2 then (1 : Int32) else if mA M (X + 2) f = 3 then 1 else 0) = 0 := by
      rw [if_neg (fun q => hr (Or.inl q)), if_neg (fun q => hr (Or.inr q))]
    refine ⟨M, _, -1, ?_, ?_, inv_thr (v := 0) H⟩
    · unfold f_X10_stride
      simp only [if_pos (k_0 hS), (fl_in hi).1, ob_eq, if_neg d10, r_0_1001 hS, hs_in hS p1 p8 hf, hrr, if_true]
    · unfold f_X11_stride
      simp only [if_pos (k_226 hS), pi_226 hS, (fl_in hi).2.1, ob_eq, if_neg d10, fd_in hS1 p2' p8 hf, ru_in hS1 hf8, mA_sI, i1, hrr, if_true]
  have hrr : (if mA M (X + 2) f = 2 then (1 : Int32) else if mA M (X + 2) f = 3 then 1 else 0) = 1 := by
    rcases hr with q | q
    · rw [if_pos q]
    · by_cases q2 : mA M (X + 2) f = 2
      · rw [if_pos q2]
      · rw [if_neg q2, if_pos q]
  by_cases c0 : c < 0
  · refine ⟨M, _, -1, ?_, ?_, inv_thr (v := 0) H⟩
    · unfold f_X10_stride
      simp only [if_pos (k_0 hS), (fl_in hi).1, ob_eq, if_neg d10, r_0_1001 hS, hs_in hS p1 p8 hf, hrr, if_pos c0]
    · unfold f_X11_stride
      simp only [if_pos (k_226 hS), pi_226 hS, (fl_in hi).2.1, ob_eq, if_neg d10, fd_in hS1 p2' p8 hf, ru_in hS1 hf8, mA_sI, i1, hrr, isIn_0_255, if_pos c0, if_true]
  by_cases c1 : c ≤ 255
  rotate_left
  · refine ⟨M, _, -1, ?_, ?_, inv_thr (v := 0) H⟩
    · unfold f_X10_stride
      simp only [if_pos (k_0 hS), (fl_in hi).1, ob_eq, if_neg d10, r_0_1001 hS, hs_in hS p1 p8 hf, hrr, if_neg c0, if_neg c1]
    · unfold f_X11_stride
      simp only [if_pos (k_226 hS), pi_226 hS, (fl_in hi).2.1, ob_eq, if_neg d10, fd_in hS1 p2' p8 hf, ru_in hS1 hf8, mA_sI, i1, hrr, isIn_0_255, if_neg c0, if_pos (Int32.not_le.mp c1), if_true]
  obtain ⟨k, r, hh, f0, q1, q2, q3, q4, q5, q6, q7, q8, q9, q10, q11, q12, q13, q14, q15⟩ := hQ i hi
  generalize hMa : sA M (aSt X i) (va_up (mA M (aSt X i)) f c) = Ma
  have hSa : St Ma X := by rw [← hMa]; exact hS
  generalize hM1 : sI Ma 903 (aSq X i) 1 = M1
  have hS1 : St M1 X := by rw [← hM1]; exact hSa
  generalize hMt : sI M1 1100 (X + 226) 0 = Mt
  have hSt : St Mt X := by rw [← hMt]; exact hS1
  have eo : ∀ o, (o = 227 ∨ o = 234 ∨ o = 235) → mA Mt (X + o) = mA M (X + o) := fun o ho => by
    rw [← hMt, ← hM1, ← hMa]
    show (if X + o = aSt X i then _ else mA M (X + o)) = _
    rw [if_neg (by unfold aSt; omega)]
  generalize hMb : sA Mt (X + 234) (va_up (mA M (X + 234)) (8 * i + f) c) = Mb
  have hSb : St Mb X := by rw [← hMb]; exact hSt
  have p2t : mI Mt 1101 (X + 226) = nI p := by rw [← hMt, ← hM1, ← hMa]; exact p2
  refine ⟨M1, sA Mb (X + 235) (va_up (mA Mb (X + 235)) i 1), mA M (aSt X i) f, ?_, ?_, ?_⟩
  · unfold f_X10_stride
    simp only [if_pos (k_0 hS), (fl_in hi).1, ob_eq, if_neg d10, r_0_1001 hS, hs_in hS p1 p8 hf, hrr, if_neg c0, if_pos c1, r_0_1003 hS, q_sq hS hi, r_aSq_900 hS hi, ai_aSt hS hi hf8, wi_aSt hS hi hf8, hMa, pZ_of (v := 1) (num := 903) (k_aSq hSa hi) (Or.inr rfl), hM1]
  · unfold f_X11_stride
    simp only [if_pos (k_226 hS1), pi_226 hS1, (fl_in hi).2.1, ob_eq, if_neg d10, hMt, fd_in hSt p2t p8 hf, ru_in hSt hf8, eo 227 (by omega), i1, hrr, isIn_0_255, if_neg c0, if_neg (Int32.not_lt.mpr c1), r_226_1111 hSt, m8, nI_add, ai_234 hSt (by omega : 8 * i + f < 64), wi_234 hSt (by omega : 8 * i + f < 64), hMb, r_226_1112 hSb, wz_235 hSb hi, vz1, eo 234 (by omega), q14 f hf8]
  · have hN := z_ge hZ n (Nat.le_refl _)
    have A1 : Ag X (z n) n (fun num a => num = 903 ∧ a = aSq X i) (fun a j => a = aSt X i ∨ (a = X + 234 ∧ j = 8 * i + f) ∨ (a = X + 235 ∧ j = i)) T0 M Ma := by rw [← hMa]; exact Ag_sA (Or.inr (Or.inr (fun j q => absurd (Or.inl rfl) q)))
    have A2 : Ag X (z n) n (fun num a => num = 903 ∧ a = aSq X i) (fun a j => a = aSt X i ∨ (a = X + 234 ∧ j = 8 * i + f) ∨ (a = X + 235 ∧ j = i)) T0 Ma M1 := by rw [← hM1]; exact Ag_sI (Or.inr (Or.inl ⟨rfl, rfl⟩))
    have A3 : Ag X (z n) n (fun num a => num = 903 ∧ a = aSq X i) (fun a j => a = aSt X i ∨ (a = X + 234 ∧ j = 8 * i + f) ∨ (a = X + 235 ∧ j = i)) T0 M1 Mt := by rw [← hMt]; exact Ag_sI (Or.inl (by unfold ScI; omega))
    have A4 : Ag X (z n) n (fun num a => num = 903 ∧ a = aSq X i) (fun a j => a = aSt X i ∨ (a = X + 234 ∧ j = 8 * i + f) ∨ (a = X + 235 ∧ j = i)) T0 Mt Mb := by rw [← hMb]; exact Ag_sA (Or.inr (Or.inr (fun j q => (vau_ne (fun e => q (Or.inr (Or.inl ⟨rfl, e⟩)))).trans (by rw [eo 234 (by omega)]))))
    have A5 : Ag X (z n) n (fun num a => num = 903 ∧ a = aSq X i) (fun a j => a = aSt X i ∨ (a = X + 234 ∧ j = 8 * i + f) ∨ (a = X + 235 ∧ j = i)) T0 Mb (sA Mb (X + 235) (va_up (mA Mb (X + 235)) i 1)) := Ag_sA (Or.inr (Or.inr (fun j q => vau_ne (fun e => q (Or.inr (Or.inr ⟨rfl, e⟩))))))
    have A := (((A1.tr' A2).tr' A3).tr' A4).tr' A5
    refine ⟨St_Ag hN A hS, tr_W hN A hW (by intro a j h; first | exact False.elim h | ((try dsimp only at h); (try simp only [aSq, aSt, aRg, aHd, aHv, aCx, aCh, aCv, aCs, aSh, aSr] at h ⊢); omega)), tr_P hN A ⟨p8, p1, p2, p3⟩ (by intro a j h; first | exact False.elim h | ((try dsimp only at h); (try simp only [aSq, aSt, aRg, aHd, aHv, aCx, aCh, aCv, aCs, aSh, aSr] at h ⊢); omega)) (by intro a j h; first | exact False.elim h | ((try dsimp only at h); (try simp only [aSq, aSt, aRg, aHd, aHv, aCx, aCh, aCv, aCs, aSh, aSr] at h ⊢); omega)) (by intro a j h; first | exact False.elim h | ((try dsimp only at h); (try simp only [aSq, aSt, aRg, aHd, aHv, aCx, aCh, aCv, aCs, aSh, aSr] at h ⊢); omega)), tr_D hN A hD (by intro a j h; first | exact False.elim h | ((try dsimp only at h); (try simp only [aSq, aSt, aRg, aHd, aHv, aCx, aCh, aCv, aCs, aSh, aSr] at h ⊢); omega)) (by intro a j h; first | exact False.elim h | ((try dsimp only at h); (try simp only [aSq, aSt, aRg, aHd, aHv, aCx, aCh, aCv, aCs, aSh, aSr] at h ⊢); omega)), tr_C hN A hC (by intro a j h; first | exact False.elim h | ((try dsimp only at h); (try simp only [aSq, aSt, aRg, aHd, aHv, aCx, aCh, aCv, aCs, aSh, aSr] at h ⊢); omega)), fun i2 hi2 => ?_, fun i hi => tr_X hN p8 hi A (hX i hi) (by intro a j h; first | exact False.elim h | ((try dsimp only at h); (try simp only [aSq, aSt, aRg, aHd, aHv, aCx, aCh, aCv, aCs, aSh, aSr] at h ⊢); omega)) (by intro a j h; first | exact False.elim h | ((try dsimp only at h); (try simp only [aSq, aSt, aRg, aHd, aHv, aCx, aCh, aCv, aCs, aSh, aSr] at h ⊢); omega)) (by intro a j h; first | exact False.elim h | ((try dsimp only at h); (try simp only [aSq, aSt, aRg, aHd, aHv, aCx, aCh, aCv, aCs, aSh, aSr] at h ⊢); omega)), tr_Z A hZ, fun l hl => tr_L p8 hZ hl (Nat.le_refl _) (Nat.le_refl _) A (hL l hl) (by have zz := z_ge hZ l (by omega); intro a j h; unfold aSq at h; omega) (by have zz := z_ge hZ l (by omega); intro a j h; unfold aSt at h; omega), tr_G hN A hG (by intro a j h; first | exact False.elim h | ((try dsimp only at h); (try simp only [aSq, aSt, aRg, aHd, aHv, aCx, aCh, aCv, aCs, aSh, aSr] at h ⊢); omega)) (by intro a j h; first | exact False.elim h | ((try dsimp only at h); (try simp only [aSq, aSt, aRg, aHd, aHv, aCx, aCh, aCv, aCs, aSh, aSr] at h ⊢); omega)) (by intro a j h; first | exact False.elim h | ((try dsimp only at h); (try simp only [aSq, aSt, aRg, aHd, aHv, aCx, aCh, aCv, aCs, aSh, aSr] at h ⊢); omega)), fun s hs => tr_H hN hs A (hH s hs) (by intro a j h; first | exact False.elim h | ((try dsimp only at h); (try simp only [aSq, aSt, aRg, aHd, aHv, aCx, aCh, aCv, aCs, aSh, aSr] at h ⊢); omega)) (by intro a j h; first | exact False.elim h | ((try dsimp only at h); (try simp only [aSq, aSt, aRg, aHd, aHv, aCx, aCh, aCv, aCs, aSh, aSr] at h ⊢); omega)) (by intro a j h; first | exact False.elim h | ((try dsimp only at h); (try simp only [aSq, aSt, aRg, aHd, aHv, aCx, aCh, aCv, aCs, aSh, aSr] at h ⊢); omega)), tr_T hN A hT (by intro a j h; first | exact False.elim h | ((try dsimp only at h); (try simp only [aSq, aSt, aRg, aHd, aHv, aCx, aCh, aCv, aCs, aSh, aSr] at h ⊢); omega)) (by intro a j h; first | exact False.elim h | ((try dsimp only at h); (try simp only [aSq, aSt, aRg, aHd, aHv, aCx, aCh, aCv, aCs, aSh, aSr] at h ⊢); omega))⟩
    by_cases e : i2 = i
    rotate_left
    · exact tr_Q hN p8 hW.2.2.2 hi2 A (hQ i2 hi2) (by intro a j h; first | exact False.elim h | ((try dsimp only at h); (try simp only [aSq, aSt, aRg, aHd, aHv, aCx, aCh, aCv, aCs, aSh, aSr] at h ⊢); omega)) (by intro a j h; first | exact False.elim h | ((try dsimp only at h); (try simp only [aSq, aSt, aRg, aHd, aHv, aCx, aCh, aCv, aCs, aSh, aSr] at h ⊢); omega)) (by intro a j h; first | exact False.elim h | ((try dsimp only at h); (try simp only [aSq, aSt, aRg, aHd, aHv, aCx, aCh, aCv, aCs, aSh, aSr] at h ⊢); omega))
    subst e
    have gI : ∀ num, num ≠ 903 → 901 ≤ num → num ≤ 906 → mI (sA Mb (X + 235) (va_up (mA Mb (X + 235)) i2 1)) num (aSq X i2) = mI M num (aSq X i2) := fun num h1 h2 h3 => A.1 _ _ (by unfold ScI; omega) (fun q => h1 q.1) (by unfold aSq; omega)
    have gA : ∀ o, (o = 232 ∨ o = 233 ∨ o = 236 ∨ o = 237) → mA (sA Mb (X + 235) (va_up (mA Mb (X + 235)) i2 1)) (X + o) = mA M (X + o) := fun o ho => funext fun j => A.2.1 _ _ (by unfold ScA; omega) (by unfold aSt; omega) (by omega)
    have g903 : mI (sA Mb (X + 235) (va_up (mA Mb (X + 235)) i2 1)) 903 (aSq X i2) = 1 := by
      rw [mI_sA, ← hMb, mI_sA, ← hMt, mI_sI, if_neg (by decide), ← hM1, mI_sI, if_pos rfl, if_pos rfl]
    have g235 : mA (sA Mb (X + 235) (va_up (mA Mb (X + 235)) i2 1)) (X + 235) i2 = 1 := by rw [mA_sA, if_pos rfl, vau_eq]
    have g234 : mA (sA Mb (X + 235) (va_up (mA Mb (X + 235)) i2 1)) (X + 234) = va_up (mA M (X + 234)) (8 * i2 + f) c := by
      rw [mA_sA, if_neg (by omega), ← hMb, mA_sA, if_pos rfl]
    have gSt : mA (sA Mb (X + 235) (va_up (mA Mb (X + 235)) i2 1)) (aSt X i2) = va_up (mA M (aSt X i2)) f c := by
      rw [mA_sA, if_neg (by unfold aSt; omega), ← hMb, mA_sA, if_neg (by unfold aSt; omega), ← hMt, mA_sI, ← hM1, mA_sI, ← hMa, mA_sA, if_pos rfl]
    refine ⟨k, r, hh, f0, q1, by rw [gI 901 (by decide) (by decide) (by decide)]; exact q2, by rw [gA 232 (by omega)]; exact q3, q4, by rw [gI 902 (by decide) (by decide) (by decide)]; exact q5, by rw [gA 233 (by omega)]; exact q6, by rw [g903, g235], Or.inr g235, q9, by rw [gI 904 (by decide) (by decide) (by decide)]; exact q10, by rw [gA 236 (by omega)]; exact q11, q12, by rw [gI 906 (by decide) (by decide) (by decide)]; exact q13, fun g hg => ?_, fun j hj => ?_⟩
    · rw [g234, gSt]
      by_cases e2 : g = f
      · subst e2; rw [vau_eq, vau_eq]
      · rw [vau_ne (by omega), vau_ne e2]; exact q14 g hg
    · have hm : (f0 + j) % 8 < 8 := Nat.mod_lt _ (by decide)
      obtain ⟨g1, g2⟩ := q15 j hj
      refine ⟨?_, fun g hg => ?_⟩
      · rw [gA 237 (by omega), A.1 301 (aHd X i2 ((f0 + j) % 8)) (by unfold ScI aHd; omega) (by omega) (by unfold aHd; omega)]
        exact g1
      · rw [A.2.2.1 _ _ (by unfold ScB; omega) (fun q => q.elim) (by omega), A.2.2.1 (aHv X i2 ((f0 + j) % 8)) g (by unfold ScB aHv; omega) (fun q => q.elim) (by unfold aHv; omega)]
        exact g2 g hg
