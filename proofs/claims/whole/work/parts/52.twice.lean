/-! twice -/
theorem tw_loop {M : Mm} {X l n len : Nat} {f : Nat → Nat} (hS : St M X) (hl : l < n) (hn : n < 200) (h6 : len ≤ 60) (h239 : mA M (X + 239) l = nI len) (hr : ∀ k, k < len → mA M (X + 240) (64 * l + k) = nI (f k)) : f_X11_twice_L116 1000 M (X + 226) (nI l) (nI n) 0 = some (sI (sA M (X + 240) (wr (mA M (X + 240)) (64 * n) len (fun k => nI (f k)))) 1116 (X + 226) (mI M 1116 (X + 226) + 1), nI n) := by
  have e := loop_run (fun fu t => f_X11_twice_L116 fu (sA M (X + 240) (wr (mA M (X + 240)) (64 * n) t (fun k => nI (f k)))) (X + 226) (nI l) (nI n) (nI t)) len (some (sI (sA M (X + 240) (wr (mA M (X + 240)) (64 * n) len (fun k => nI (f k)))) 1116 (X + 226) (mI M 1116 (X + 226) + 1), nI n))
    (fun t fu ht => by
      show f_X11_twice_L116 (fu + 1) (sA M (X + 240) (wr (mA M (X + 240)) (64 * n) t (fun k => nI (f k)))) (X + 226) (nI l) (nI n) (nI t) = f_X11_twice_L116 fu (sA M (X + 240) (wr (mA M (X + 240)) (64 * n) (t + 1) (fun k => nI (f k)))) (X + 226) (nI l) (nI n) (nI (t + 1))
      have hS1 : St (sA M (X + 240) (wr (mA M (X + 240)) (64 * n) t (fun k => nI (f k)))) X := St_sA hS
      have e3 : mA (sA M (X + 240) (wr (mA M (X + 240)) (64 * n) t (fun k => nI (f k)))) (X + 239) l = nI len := by rw [mA_sA, if_neg (by omega)]; exact h239
      have e2 : mA (sA M (X + 240) (wr (mA M (X + 240)) (64 * n) t (fun k => nI (f k)))) (X + 240) (64 * l + t) = nI (f t) := by
        rw [mA_sA, if_pos rfl, wr_out (by omega)]; exact hr t ht
      rw [f_X11_twice_L116, r_226_1117 hS1, ob_eq, ai_239 hS1 (by omega), ob_eq, e3, if_neg (nI_ge ht (by omega)), r_226_1118 hS1, ob_eq, ob_eq, m64, nI_add, ai_240 hS1 (by omega), ob_eq, e2, m64, nI_add, wi_240 hS1 (by omega), ob_eq, nI_1, sA_sA, mA_sA, if_pos rfl]
      exact congrArg (fun g => f_X11_twice_L116 fu (sA M (X + 240) g) (X + 226) (nI l) (nI n) (nI (t + 1))) (wr_s (mA M (X + 240)) (64 * n) t (fun k => nI (f k))))
    (fun fu => by
      show f_X11_twice_L116 (fu + 1) (sA M (X + 240) (wr (mA M (X + 240)) (64 * n) len (fun k => nI (f k)))) (X + 226) (nI l) (nI n) (nI len) = _
      have hS1 : St (sA M (X + 240) (wr (mA M (X + 240)) (64 * n) len (fun k => nI (f k)))) X := St_sA hS
      have e3 : mA (sA M (X + 240) (wr (mA M (X + 240)) (64 * n) len (fun k => nI (f k)))) (X + 239) l = nI len := by rw [mA_sA, if_neg (by omega)]; exact h239
      rw [f_X11_twice_L116, r_226_1117 hS1, ob_eq, ai_239 hS1 (by omega), ob_eq, e3, if_pos (nI_le (Nat.le_refl _) (by omega)), gi_226 hS1, ob_eq, mI_sA, pi_226 hS1, ob_eq]) 1000 (by omega)
  rw [wr_0, sA_self M (X + 240) (fun j => rfl)] at e
  exact e
theorem tw_eq {R : Mm} {X l n k i nb len : Nat} {num : Int32} {f : Nat → Nat} (hSr : St R X) (hl : l < n) (hn : n < 200) (h6 : len ≤ 60) (h16 : mI R 1116 (X + 226) = nI n) (h06 : mI R 1106 (X + 226) = 1) (huw : f_X11_isUnderWay (sI R 1100 (X + 226) 0) (X + 226) (nI l) = some 1) (v1 : mA R (X + 241) l = nI k) (v2 : mA R (X + 242) l = nI i) (v3 : mA R (X + 243) l = num) (v4 : mA R (X + 244) l = nI nb) (h239 : mA R (X + 239) l = nI len) (hr : ∀ k, k < len → mA R (X + 240) (64 * l + k) = nI (f k)) :
    ∃ M2, f_X11_twice R (X + 226) (nI l) = some (M2, nI n) ∧ (∀ N n0, Ag X N n0 (TIl X) (TAl X n) T0 R M2) ∧ mS M2 = mS R ∧ rLt M2 X n k i nb len num f 1 := by
  have d10 : ¬ (1 : Int32) = 0 := by decide
  have l2 : l < 200 := by omega
  have n200 : ¬ nI n = 200 := fun q => absurd ((nI_eq (a := n) (b := 200) (by omega) (by decide)).mp q) (by omega)
  generalize hT : sI R 1100 (X + 226) 0 = T at huw
  have hST : St T X := by rw [← hT]; exact St_sI hSr
  have aT : mA T = mA R := by rw [← hT, mA_sI]
  have t16 : mI T 1116 (X + 226) = nI n := by rw [← hT, mI_sI, if_neg (by decide)]; exact h16
  generalize hQ : sU (sU (sU (sU (sU (sU (sU (sU T (X + 241) n (nI k)) (X + 242) n (nI i)) (X + 243) n num) (X + 244) n (nI nb)) (X + 239) n (nI len)) (X + 245) n (-1)) (X + 246) n 0) (X + 247) n 1 = Q
  have eI : mI Q = mI T := by rw [← hQ]; rw [mI_sU, mI_sU, mI_sU, mI_sU, mI_sU, mI_sU, mI_sU, mI_sU]
  have hSQ : St Q X := by rw [← hQ]; exact St_sU (St_sU (St_sU (St_sU (St_sU (St_sU (St_sU (St_sU hST)))))))
  have ne : ¬ l = n := by omega
  have e1 : f_X11_twice R (X + 226) (nI l) = f_X11_twice_L116 1000 Q (X + 226) (nI l) (nI n) 0 := by
    have S1 : St (sU T (X + 241) n (nI k)) X := St_sU hST
    have S2 : St (sU (sU T (X + 241) n (nI k)) (X + 242) n (nI i)) X := St_sU S1
    have S3 : St (sU (sU (sU T (X + 241) n (nI k)) (X + 242) n (nI i)) (X + 243) n num) X := St_sU S2
    have S4 : St (sU (sU (sU (sU T (X + 241) n (nI k)) (X + 242) n (nI i)) (X + 243) n num) (X + 244) n (nI nb)) X := St_sU S3
    have S5 : St (sU (sU (sU (sU (sU T (X + 241) n (nI k)) (X + 242) n (nI i)) (X + 243) n num) (X + 244) n (nI nb)) (X + 239) n (nI len)) X := St_sU S4
    have S6 : St (sU (sU (sU (sU (sU (sU T (X + 241) n (nI k)) (X + 242) n (nI i)) (X + 243) n num) (X + 244) n (nI nb)) (X + 239) n (nI len)) (X + 245) n (-1)) X := St_sU S5
    have S7 : St (sU (sU (sU (sU (sU (sU (sU T (X + 241) n (nI k)) (X + 242) n (nI i)) (X + 243) n num) (X + 244) n (nI nb)) (X + 239) n (nI len)) (X + 245) n (-1)) (X + 246) n 0) X := St_sU S6
    unfold f_X11_twice
    rw [if_pos (k_226 hSr), pi_226 hSr, ob_eq, hT, huw, ob_eq, if_neg d10, gi_226 hST, ob_eq, t16, if_neg n200, ob_eq]
    rw [r_226_1119 hST, ob_eq, ob_eq, ai_241 hST l2, ob_eq, aT, v1, wi_241 hST hn, ob_eq, sU_def]
    rw [r_226_1120 S1, ob_eq, ob_eq, ai_242 S1 l2, ob_eq, mA_sUj ne, aT, v2, wi_242 S1 hn, ob_eq, sU_def]
    rw [r_226_1121 S2, ob_eq, ob_eq, ai_243 S2 l2, ob_eq, mA_sUj ne, mA_sUj ne, aT, v3, wi_243 S2 hn, ob_eq, sU_def]
    rw [r_226_1122 S3, ob_eq, ob_eq, ai_244 S3 l2, ob_eq, mA_sUj ne, mA_sUj ne, mA_sUj ne, aT, v4, wi_244 S3 hn, ob_eq, sU_def]
    rw [r_226_1117 S4, ob_eq, ob_eq, ai_239 S4 l2, ob_eq, mA_sUj ne, mA_sUj ne, mA_sUj ne, mA_sUj ne, aT, h239, wi_239 S4 hn, ob_eq, sU_def]
    rw [r_226_1123 S5, ob_eq, wi_245 S5 hn, ob_eq, sU_def]
    rw [r_226_1124 S6, ob_eq, wz_246 S6 hn, ob_eq, vz0, sU_def]
    rw [r_226_1125 S7, ob_eq, wz_247 S7 hn, ob_eq, vz1, sU_def, hQ]
  have q239 : mA Q (X + 239) l = nI len := by rw [← hQ, mA_sUj ne, mA_sUj ne, mA_sUj ne, mA_sUj ne, mA_sUj ne, mA_sUj ne, mA_sUj ne, mA_sUj ne, aT]; exact h239
  have q240 : mA Q (X + 240) = mA R (X + 240) := by rw [← hQ, mA_sUx (by omega), mA_sUx (by omega), mA_sUx (by omega), mA_sUx (by omega), mA_sUx (by omega), mA_sUx (by omega), mA_sUx (by omega), mA_sUx (by omega), aT]
  have t2 := tw_loop hSQ hl hn h6 q239 (f := f) (by intro q hq; rw [q240]; exact hr q hq)
  have q16 : mI Q 1116 (X + 226) = nI n := by rw [eI]; exact t16
  rw [q16, nI_1] at t2
  refine ⟨_, e1.trans t2, ?_, ?_, ?_⟩
  · intro N n0
    refine Ag.cI (Ag.cAw ?_ (fun j q1 q2 => Or.inr ⟨rfl, q1, by omega⟩)) (Or.inr (Or.inl ⟨Or.inl rfl, rfl⟩))
    rw [← hQ, ← hT]
    exact Ag.cU (Ag.cU (Ag.cU (Ag.cU (Ag.cU (Ag.cU (Ag.cU (Ag.cU (Ag_sI (Or.inl (by unfold ScI; omega))) (Or.inr (Or.inr (Or.inl (by omega))))) (Or.inr (Or.inr (Or.inl (by omega))))) (Or.inr (Or.inr (Or.inl (by omega))))) (Or.inr (Or.inr (Or.inl (by omega))))) (Or.inr (Or.inr (Or.inl (by omega))))) (Or.inr (Or.inr (Or.inl (by omega))))) (Or.inr (Or.inr (Or.inl (by omega))))) (Or.inr (Or.inr (Or.inl (by omega))))
  · rw [← hQ, ← hT]; rfl
  · have aS : ∀ x, ¬ x = X + 240 → mA (sI (sA Q (X + 240) (wr (mA Q (X + 240)) (64 * n) len (fun k => nI (f k)))) 1116 (X + 226) (nI (n + 1))) x = mA Q x := by
      intro x q2
      rw [mA_sI, mA_sA, if_neg q2]
    refine ⟨?_, ?_, ?_, ?_, ?_, ?_, ?_, ?_, ?_, ?_, ?_⟩
    · rw [aS _ (by omega), ← hQ, mA_sUx (by omega), mA_sUx (by omega), mA_sUx (by omega), mA_sUx (by omega), mA_sUx (by omega), mA_sUx (by omega), mA_sUx (by omega), mA_sUi]
    · rw [aS _ (by omega), ← hQ, mA_sUx (by omega), mA_sUx (by omega), mA_sUx (by omega), mA_sUx (by omega), mA_sUx (by omega), mA_sUx (by omega), mA_sUi]
    · rw [aS _ (by omega), ← hQ, mA_sUx (by omega), mA_sUx (by omega), mA_sUx (by omega), mA_sUx (by omega), mA_sUx (by omega), mA_sUi]
    · rw [aS _ (by omega), ← hQ, mA_sUx (by omega), mA_sUx (by omega), mA_sUx (by omega), mA_sUx (by omega), mA_sUi]
    · rw [aS _ (by omega), ← hQ, mA_sUx (by omega), mA_sUx (by omega), mA_sUi]
    · rw [aS _ (by omega), ← hQ, mA_sUx (by omega), mA_sUi]
    · rw [aS _ (by omega), ← hQ, mA_sUi]
    · rw [aS _ (by omega), ← hQ, mA_sUx (by omega), mA_sUx (by omega), mA_sUx (by omega), mA_sUi]
    · intro k2 hk2
      rw [mA_sI, mA_sA, if_pos rfl]
      exact wr_in hk2
    · rw [mI_sI, if_pos rfl, if_pos rfl]
    · rw [mI_sI, if_neg (by decide), mI_sA, eI, ← hT, mI_sI, if_neg (by decide)]; exact h06
theorem op_twice {M : Mm} {X p n w : Nat} {z : Nat → Nat} (H : Inv M X p n w z) (a : Int32) : ∃ M1 M2 r n' z', f_X10_twice M X a = some (M1, r) ∧ f_X11_twice M1 (X + 226) a = some (M2, r) ∧ Inv M2 X p n' w z' ∧ n' ≤ n + 1 := by
  obtain ⟨hS, hW, hP, hD, hC, hQ, hX, hZ, hL, hG, hH, hT⟩ := id H
  have hN := z_ge hZ n (Nat.le_refl _)
  have d10 : ¬ (1 : Int32) = 0 := by decide
  have hSt : St (sI M 1100 (X + 226) 0) X := St_sI hS
  have h200 := hC.1
  have Ht := inv_thr (v := 0) H
  obtain ⟨-, -, -, -, hC', -, -, -, hL', -⟩ := id Ht
  rcases ix_cases a (n := n) (by omega) with h | ⟨l, hl, rfl⟩
  · refine ⟨M, _, -1, n, z, ?_, ?_, Ht, by omega⟩
    · unfold f_X10_twice
      rw [if_pos (k_0 hS), (uw_out hS hC h).1, ob_eq, nm_none]
    · unfold f_X11_twice
      rw [if_pos (k_226 hS), pi_226 hS, ob_eq, (uw_out hSt hC' h).2, ob_eq, if_pos rfl]
  have hLl := hL l hl
  have uwl := uw hS hC hLl hl
  have uwt := uw hSt hC' (hL' l hl) hl
  by_cases q0 : mA M (X + 246) l = 0
  rotate_left
  · refine ⟨M, _, -1, n, z, ?_, ?_, Ht, by omega⟩
    · unfold f_X10_twice
      rw [if_pos (k_0 hS), uwl.1, if_neg q0, ob_eq, nm_none]
    · unfold f_X11_twice
      rw [if_pos (k_226 hS), pi_226 hS, ob_eq, uwt.2, mA_sI, if_neg q0, ob_eq, if_pos rfl]
  by_cases hn : n < 200
  rotate_left
  · have e : n = 200 := by omega
    refine ⟨M, _, -2, n, z, ?_, ?_, Ht, by omega⟩
    · unfold f_X10_twice
      rw [if_pos (k_0 hS), uwl.1, if_pos q0, ob_eq, nm_some, lf_in hS hC, ob_eq, if_neg hn, if_neg d10]
    · unfold f_X11_twice
      rw [if_pos (k_226 hS), pi_226 hS, ob_eq, uwt.2, mA_sI, if_pos q0, ob_eq, if_neg d10, gi_226 hSt, ob_eq, hC'.2.2.1, if_pos (show nI n = 200 by rw [e]; rfl)]
  obtain ⟨h1, h2, h3, h4, ⟨k, g5, h5, h5b⟩, ⟨i, g6, h6, h6b⟩, h7, ⟨nb, g8, h8, h8b⟩, h9, h10, h11, h12, h13, ⟨len, b1, b2, b3, b4, b5⟩, h15⟩ := id hLl
  have zl := hZ.2.1 l hl
  have zm := z_mo hZ (l := l + 1) (m := n) (by omega) (Nat.le_refl _)
  have zg := z_ge hZ l (by omega)
  have zS : z n ≤ mS M := hZ.2.2
  have aA : lA z l < z n ∧ X + 270 ≤ lA z l := by unfold lA; omega
  have aB : lB z l < z n ∧ X + 270 ≤ lB z l := by unfold lB; omega
  generalize hM5 : sA (nA M 20 len) (mS M) (mA M (lB z l)) = M5
  have s5 : mS M5 = mS M + 1 := by rw [← hM5]; rfl
  have A5 : Ag X (z n) n (T10 X) T0 T0 M M5 := by
    rw [← hM5]
    exact (Ag_nA zS).cA (Or.inr (Or.inl zS))
  have i5 : mI M5 = mI M := by rw [← hM5, mI_sA, mI_nA]
  have k5 : mK (nO M5 5) (lA z l) = 5 := by rw [mK_nO, if_neg (by omega), ← hM5, mK_sA, mK_nA, if_neg (by omega)]; exact h2
  have j5 : ∀ nu, mI (nO M5 5) nu (lA z l) = mI M nu (lA z l) := fun nu => by rw [mI_nO, if_neg (by omega), i5]
  have kB : mK M5 (mS M) = 20 := by rw [← hM5, mK_sA, mK_nA]; exact if_pos rfl
  have nB : mN M5 (mS M) = len := by rw [← hM5, mN_sA, mN_nA]; exact if_pos rfl
  have gB : mA M5 (mS M) = mA M (lB z l) := by rw [← hM5, mA_sA, if_pos rfl]
  obtain ⟨M1, q1, q2, q3, q4, -⟩ := mk_let2 (k := k) (i := i) (nb := nb) (num := mI M 402 (lA z l)) hN hS A5 (by omega) (by rw [i5]; exact hC.2.1) hn (by omega) kB nB gB
  rw [s5] at q4
  have S1 : St M1 X := St_Ag hN q2 hS
  have eC : f_X10_twice M X (nI l) = some (M1, nI n) := by
    unfold f_X10_twice
    rw [if_pos (k_0 hS), uwl.1, if_pos q0, ob_eq, nm_some, lf_in hS hC, ob_eq, if_pos hn, if_pos rfl, gR_of h2 h3, ob_eq, ob_eq, aL_of h4 (by decide) (by decide) b3, ob_eq, cl_eq h4 b3 b2, ob2_eq, hM5, gI_of k5, ob_eq, j5, h5, gI_of k5, ob_eq, j5, h6, gI_of k5, ob_eq, j5, gI_of k5, ob_eq, j5, h8, q1]
  have eA1 : ∀ a j, ¬ ScA X a → a < z n → mA M1 a j = mA M a j := fun a j s l => q2.2.1 a j s (fun q => q) l
  have eI1 : ∀ nu, ¬ ScI X nu (X + 226) → mI M1 nu (X + 226) = mI M nu (X + 226) := fun nu s => q2.1 nu _ s (by unfold T10; omega) (by omega)
  have f16 : mI M1 1116 (X + 226) = nI n := (eI1 1116 (by unfold ScI; omega)).trans hC.2.2.1
  have f06 : mI M1 1106 (X + 226) = 1 := (eI1 1106 (by unfold ScI; omega)).trans (by rw [hC.2.2.2, if_neg (by omega)])
  have uw1 : f_X11_isUnderWay (sI M1 1100 (X + 226) 0) (X + 226) (nI l) = some 1 := by
    have hS1 : St (sI M1 1100 (X + 226) 0) X := St_sI S1
    unfold f_X11_isUnderWay
    rw [if_pos (k_226 hS1), if_neg (nI_pos (by omega)), gi_226 hS1, ob_eq, mI_sI, if_neg (show ¬ 1116 = 1100 by decide), f16, if_neg (nI_ge hl (by omega)), r_226_1124 hS1, ob_eq, az_246 hS1 (by omega), ob_eq, mA_sI, eA1 _ _ (by unfold ScA; omega) (by omega), q0, if_pos rfl]
  obtain ⟨f, hf⟩ : ∃ f : Nat → Nat, ∀ q, q < len → f q < 256 ∧ mA M (lB z l) q = nI (f q) ∧ mA M (X + 240) (64 * l + q) = nI (f q) :=
    ⟨fun q => (mA M (lB z l) q).toNatClampNeg, fun q hq => by
      obtain ⟨b, c1, c2, c3⟩ := b5 q hq
      have e : (mA M (lB z l) q).toNatClampNeg = b := by rw [c2]; exact nI_clamp (by omega)
      dsimp only
      rw [e]
      exact ⟨c1, c2, c3⟩⟩
  have tr : ∀ o j, (o = 239 ∨ o = 240 ∨ o = 241 ∨ o = 242 ∨ o = 243 ∨ o = 244) → mA M1 (X + o) j = mA M (X + o) j := fun o j ho => eA1 _ _ (by unfold ScA; omega) (by omega)
  obtain ⟨M2, t1, t2, t3, t4⟩ := tw_eq (R := M1) (X := X) (l := l) (n := n) (k := k) (i := i) (nb := nb) (len := len) (num := mI M 402 (lA z l)) (f := f) S1 hl hn b2 f16 f06 uw1 ((tr _ _ (by decide)).trans h5b) ((tr _ _ (by decide)).trans h6b) ((tr _ _ (by decide)).trans h7) ((tr _ _ (by decide)).trans h8b) ((tr _ _ (by decide)).trans b4) (fun q hq => (tr _ _ (by decide)).trans (hf q hq).2.2)
  have sM : X + 270 ≤ mS M := hS.2.2.2.2
  have c2 : cLt M2 X n (mS M + 1) (mS M) k i nb len (mI M 402 (lA z l)) (mA M (lB z l)) 1 none := by
    refine cl_tr (N := mS M + 2) q4 (t2 _ _) sM (by omega) (by omega) ?_ ?_
    · intro nu a q; unfold TIl at q; omega
    · intro a j q; unfold TAl at q; omega
  have A' : Ag X (z n) n (fun num a => (num = 1010 ∧ a = X) ∨ ((num = 1116 ∨ num = 1106) ∧ a = X + 226)) (TAL X n) T0 M M2 := by
    refine (q2.tr (t2 _ _)).wk ?_ ?_ ?_
    · intro nu a q; unfold T10 TIl at q; omega
    · intro a j q
      rcases q with q | q
      · exact q.elim
      · unfold TAl at q; unfold TAL; omega
    · intro a j q; exact q.elim (fun q => q) (fun q => q)
  have A : Ag X (z n) n (TIa X 0) (TAa X n 0) (TBa X 0) M M2 := A'.wk (by intro nu a q; unfold TIa; omega) (by intro a j q; exact Or.inl q) (by intro a j q; exact q.elim)
  refine ⟨M1, M2, nI n, n + 1, _, eC, t1, inv_add H hn (by decide) A ?_ (zt := mS M + 2) (by omega) (by rw [t3, q3, s5]; exact Nat.le_refl _) (IL_new c2 t4 (if_neg (by omega)) rfl g5 g6 g8 (Or.inr rfl) b1 b2 (fun q hq => (hf q hq).2.1) (fun q hq => (hf q hq).1) (Or.inr ⟨fun q => absurd q.2 d10, rfl⟩)) c2.2.2.2.2.2.2.2.2.2.2.2.2.2.2 t4.2.2.2.2.2.2.2.2.2.1 t4.2.2.2.2.2.2.2.2.2.2 t4.2.2.2.2.2.1, Nat.le_refl _⟩
  refine IQ_up (tr_Q hN hP.1 hW.2.2.2 (by decide) A' (hQ 0 (by decide)) ?_ ?_ ?_)
  · intro nu a h; unfold aSq aHd; omega
  · intro a j h; unfold TAL at h; unfold aSt; omega
  · intro a j h; exact h.elim
