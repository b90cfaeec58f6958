theorem cl_tr {M1 M2 : Mm} {X N n A B k i nb len : Nat} {num cp : Int32} {g : Nat → Int32} {pr : Option Nat} {TI TA TB : Nat → Nat → Prop} (h : cLt M1 X n A B k i nb len num g cp pr) (G : Ag X N (n + 1) TI TA TB M1 M2) (hB : X + 270 ≤ B) (hBA : B < A) (hAN : A < N) (t1 : ∀ nu a, TI nu a → a < X + 270 ∧ nu ≠ 1010) (t2 : ∀ a j, TA a j → a < X + 270) : cLt M2 X n A B k i nb len num g cp pr := by
  obtain ⟨h1, h2, h3, h4, h5, h6, h7, h8, h9, h10, h11, h12, h13, h14, h15⟩ := h
  have eI : ∀ nu, 400 ≤ nu → nu ≤ 407 → mI M2 nu A = mI M1 nu A := fun nu q1 q2 => G.1 _ _ (by unfold ScI; omega) (fun q => by have := t1 _ _ q; omega) hAN
  have eR : ∀ nu, mR M2 nu A = mR M1 nu A := fun nu => G.2.2.2.2.2.1 _ _ (by omega) hAN
  refine ⟨(G.2.2.2.2.1 _ _ (by omega) (fun _ => by omega)).trans h1, (G.2.2.2.1 _ hAN).1.trans h2, (eR _).trans h3, (G.2.2.2.1 _ (by omega)).1.trans h4, (G.2.2.2.1 _ (by omega)).2.trans h5, (funext fun j => G.2.1 _ _ (by unfold ScA; omega) (fun q => by have := t2 _ _ q; omega) (by omega)).trans h6, (eI 400 (by decide) (by decide)).trans h7, (eI 401 (by decide) (by decide)).trans h8, (eI 402 (by decide) (by decide)).trans h9, (eI 404 (by decide) (by decide)).trans h10, (eI 405 (by decide) (by decide)).trans h11, (eI 406 (by decide) (by decide)).trans h12, (eI 407 (by decide) (by decide)).trans h13, (eR _).trans h14, (G.1 _ _ (by unfold ScI; omega) (fun q => (t1 _ _ q).2 rfl) (by omega)).trans h15⟩
theorem IL_new {M2 : Mm} {X p n A B k i nb len : Nat} {num cp : Int32} {g : Nat → Int32} {f : Nat → Nat} {pr : Option Nat} {z' : Nat → Nat} (c : cLt M2 X n A B k i nb len num g cp pr) (r : rLt M2 X n k i nb len num f cp) (ez : z' (n + 1) = A + 1) (eA : A = B + 1) (hk : k ≤ 5) (hi : i < 8) (hb : nb ≤ 480) (hcp : cp = 0 ∨ cp = 1) (l1 : 3 ≤ len) (l2 : len ≤ 60) (hg : ∀ k, k < len → g k = nI (f k)) (hf : ∀ k, k < len → f k < 256)
    (hp : (k = 2 ∧ cp = 0 ∧ ILp M2 X p z' n) ∨ (¬ (k = 2 ∧ cp = 0) ∧ pr = none)) : IL M2 X p z' n := by
  obtain ⟨h1, h2, h3, h4, h5, h6, h7, h8, h9, h10, h11, h12, h13, h14, h15⟩ := c
  obtain ⟨r1, r2, r3, r4, r5, r6, r7, r8, r9, r10, r11⟩ := r
  have aA : lA z' n = A := by unfold lA; omega
  have aB : lB z' n = B := by unfold lB; omega
  unfold IL ILb
  rw [aA, aB]
  refine ⟨h1, h2, h3, h4, ⟨k, hk, h7, r1⟩, ⟨i, hi, h8, r2⟩, r3.trans h9.symm, ⟨nb, hb, h10, r4⟩, r5.trans h11.symm, r6.trans h12.symm, Or.inl h12, r7.trans h13.symm, by rw [h13]; exact hcp, ⟨len, l1, l2, h5, r8, fun q hq => ⟨f q, hf q hq, by rw [h6]; exact hg q hq, r9 q hq⟩⟩, ?_⟩
  rcases hp with ⟨p1, p2, p3⟩ | ⟨p1, p2⟩
  · exact Or.inl ⟨by rw [h7, p1]; rfl, h13.trans p2, p3⟩
  · refine Or.inr ⟨fun q => p1 ⟨?_, h13.symm.trans q.2⟩, h14.trans p2⟩
    have e : nI k = nI 2 := h7.symm.trans q.1
    exact (nI_eq (by omega) (by decide)).mp e
theorem bln_le {m : Nat} {c : Bool} (h : m ≤ 440) (h2 : 22 ≤ m) : 3 ≤ bln m c ∧ bln m c ≤ 60 := by
  unfold bln
  cases c with
  | false => rw [if_neg (by decide)]; omega
  | true => rw [if_pos rfl]; omega
/-- an answer of the opener -/
theorem answer {M : Mm} {X p n w k i u : Nat} {z : Nat → Nat} (H : Inv M X p n w z) (hn : n < 200) (hk : k = 3 ∨ k = 4 ∨ k = 5) (hi : i < 8) (hu : u < 2 ^ 31) :
    ∃ M1, f_X10_addAnswer M X (nI k) (nI i) (nI u) = some (M1, nI n) ∧ Ag X (z n) n (T10 X) T0 T0 M M1 ∧ St M1 X ∧
      ∀ R, Ag X (mS M + 2) (n + 1) T0 T0 T0 M1 R → mS R = mS M1 → ∃ M2, ((f_X11_head R (X + 226) (nI k) (nI i) (nI u)).bind fun M2 => ob2 (f_X11_laid M2 (X + 226) (nI k) (nI i) (nI u) 1) fun M4 v5 => some (M4, v5)) = some (M2, nI n) ∧ Inv M2 X p (n + 1) w (fun l => if l ≤ n then z l else mS M + 2) := by
  obtain ⟨hS, hW, hP, hD, hC, hQ, hX, hZ, hL, hG, hH, hT⟩ := id H
  have hN := z_ge hZ n (Nat.le_refl _)
  have hc : f_X10_endsInCheck (nI k) = some (if true then 1 else 0) := by
    unfold f_X10_endsInCheck
    rcases hk with rfl | rfl | rfl <;> rfl
  have hk8 : k < 8 := by omega
  obtain ⟨M1, g, a1, a2, a3, a4, a5, -⟩ := addW (X := X) (N := z n) (n := n) (m := 22) (k := k) (i := i) (u := u) (b := hd k i u) (pr := none) hN hS hZ.2.2 hC.2.1 hn (by decide) hd_b hc hu
  have S1 : St M1 X := St_Ag hN a2 hS
  have e1 : f_X10_addAnswer M X (nI k) (nI i) (nI u) = some (M1, nI n) := by
    unfold f_X10_addAnswer
    rw [if_pos (k_0 hS), r_0_1007 hS, ob_eq, begin_eq hS hk8 hi hu, ob_eq, a1, ob2_eq]
  refine ⟨M1, e1, a2, S1, fun R hR sR => ?_⟩
  have sM : X + 270 ≤ mS M := hS.2.2.2.2
  have SR : St R X := St_Ag (by omega) hR S1
  have c16 : mI R 1116 (X + 226) = nI n := by
    rw [hR.1 _ _ (by unfold ScI; omega) (fun q => q) (by omega), a2.1 _ _ (by unfold ScI; omega) (by unfold T10; omega) (by omega)]
    exact hC.2.2.1
  obtain ⟨M2, b1, b2, b3, b4⟩ := laid_eq (X := X) (n := n) (m := 22) (k := k) (i := i) (u := u) (b := hd k i u) (c := true) SR c16 hn (by decide) hd_b hu
  have b1' : f_X11_laid (rm R X (hd k i u) 22) (X + 226) (nI k) (nI i) (nI u) 1 = some (M2, nI n) := b1
  have c2 : cLt M2 X n (mS M + 1) (mS M) k i 22 (bln 22 true) (nI (u % 65536)) g 0 none := by
    refine cl_tr (N := mS M + 2) a4 ((hR.of0 (TI := TIl X) (TA := TAl X n) (TB := T0)).tr' (b2 _ _)) sM (by omega) (by omega) ?_ ?_
    · intro nu a q; unfold TIl at q; omega
    · intro a j q; unfold TAl at q; omega
  have A : Ag X (z n) n (TIa X 0) (TAa X n 0) (TBa X 0) M M2 := by
    have hz : z n ≤ mS M := hZ.2.2
    have hR' : Ag X (z n) n (TIl X) (TAl X n) T0 M1 R := by
      refine ⟨fun nu a s t l => hR.1 nu a s (fun q => q) (by omega), fun a j s t l => hR.2.1 a j s (fun q => q) (by omega), fun a j s t l => hR.2.2.1 a j s (fun q => q) (by omega), fun a l => hR.2.2.2.1 a (by omega), fun a j l q => hR.2.2.2.2.1 a j (by omega) (fun e => by have := q e; omega), fun nu a q l => hR.2.2.2.2.2.1 nu a q (by omega), hR.2.2.2.2.2.2⟩
    refine (a2.tr (hR'.tr' (b2 _ _))).wk ?_ ?_ ?_
    · intro nu a q; unfold T10 TIl at q; unfold TIa; omega
    · intro a j q
      refine Or.inl ?_
      rcases q with q | q
      · exact q.elim
      · unfold TAl at q; unfold TAL; omega
    · intro a j q; exact q.elim (fun q => q.elim) (fun q => q.elim)
  have hb := bln_le (m := 22) (c := true) (by decide) (by decide)
  refine ⟨M2, ?_, ?_⟩
  · rw [head_eq SR hk8 hi hu, ob_eq, b1', ob2_eq]
  · refine inv_add H hn (by decide) A ?_ (by have := hZ.2.2; omega) (by rw [b3, sR, a3]; exact Nat.le_refl _) (IL_new c2 b4 (if_neg (by omega)) rfl (by omega) hi (by decide) (Or.inl rfl) hb.1 hb.2 a5 (fun q hq => byt_lt hd_b) (Or.inr ⟨by omega, rfl⟩)) c2.2.2.2.2.2.2.2.2.2.2.2.2.2.2 b4.2.2.2.2.2.2.2.2.2.1 b4.2.2.2.2.2.2.2.2.2.2 b4.2.2.2.2.2.1
    have A' : Ag X (z n) n (fun num a => (num = 1010 ∧ a = X) ∨ ((num = 1116 ∨ num = 1106) ∧ a = X + 226)) (TAL X n) T0 M M2 := by
      have hz : z n ≤ mS M := hZ.2.2
      have hR' : Ag X (z n) n (TIl X) (TAl X n) T0 M1 R := by
        refine ⟨fun nu a s t l => hR.1 nu a s (fun q => q) (by omega), fun a j s t l => hR.2.1 a j s (fun q => q) (by omega), fun a j s t l => hR.2.2.1 a j s (fun q => q) (by omega), fun a l => hR.2.2.2.1 a (by omega), fun a j l q => hR.2.2.2.2.1 a j (by omega) (fun e => by have := q e; omega), fun nu a q l => hR.2.2.2.2.2.1 nu a q (by omega), hR.2.2.2.2.2.2⟩
      refine (a2.tr (hR'.tr' (b2 _ _))).wk ?_ ?_ ?_
      · intro nu a q; unfold T10 TIl at q; omega
      · intro a j q
        rcases q with q | q
        · exact q.elim
        · unfold TAl at q; unfold TAL; omega
      · intro a j q; exact q.elim (fun q => q) (fun q => q)
    refine IQ_up (tr_Q hN hP.1 hW.2.2.2 (by decide) A' (hQ 0 (by decide)) ?_ ?_ ?_)
    · intro nu a h; unfold aSq aHd; omega
    · intro a j h; unfold TAL at h; unfold aSt; omega
    · intro a j h; exact h.elim
theorem op_ack {M : Mm} {X p n w : Nat} {z : Nat → Nat} (H : Inv M X p n w z) (a : Int32) : ∃ M1 M2 r n' z', f_X10_ack M X a = some (M1, r) ∧ f_X11_ack M1 (X + 226) a = some (M2, r) ∧ Inv M2 X p n' w z' ∧ n' ≤ n + 1 := by
  obtain ⟨hS, hW, hP, hD, hC, hQ, hX, hZ, hL, hG, hH, hT⟩ := id H
  have hN := z_ge hZ n (Nat.le_refl _)
  have d10 : ¬ (1 : Int32) = 0 := by decide
  have hSt : St (sI M 1100 (X + 226) 0) X := St_sI hS
  have iT' : ∀ M nu, nu ≠ 1100 → mI (sI M 1100 (X + 226) 0) nu (X + 226) = mI M nu (X + 226) := fun M nu h => by rw [mI_sI, if_neg h]
  have iT := iT' M
  rcases ix_cases a (n := 8) (by omega) with h | ⟨i, hi, rfl⟩
  · refine ⟨M, _, -1, n, z, ?_, ?_, inv_thr (v := 0) H, by omega⟩
    · unfold f_X10_ack
      rw [if_pos (k_0 hS), (fl_out h).1, ob_eq, if_pos rfl]
    · unfold f_X11_ack
      rw [if_pos (k_226 hS), pi_226 hS, ob_eq, (fl_out h).2.1, ob_eq, if_pos rfl]
  have h200 := hC.1
  by_cases hn : n < 200
  rotate_left
  · have e : n = 200 := by omega
    refine ⟨M, _, -2, n, z, ?_, ?_, inv_thr (v := 0) H, by omega⟩
    · unfold f_X10_ack
      rw [if_pos (k_0 hS), (fl_in hi).1, ob_eq, if_neg d10, lf_in hS hC, ob_eq, if_neg hn, if_neg d10]
    · unfold f_X11_ack
      rw [if_pos (k_226 hS), pi_226 hS, ob_eq, (fl_in hi).2.1, ob_eq, if_neg d10, gi_226 hSt, ob_eq, iT 1116 (by decide), hC.2.2.1, if_pos (show nI n = 200 by rw [e]; rfl)]
  have n200 : ¬ nI n = 200 := fun q => absurd ((nI_eq (a := n) (b := 200) (by omega) (by decide)).mp q) (by omega)
  obtain ⟨x1, x2⟩ := id (hX i hi)
  have eC : f_X10_ack M X (nI i) = if mA M (X + 252) i = 0 then some (M, -3) else ob2 (f_X10_addAnswer M X 3 (nI i) (mI M 301 (aCh X i))) (fun M v => some (M, v)) := by
    unfold f_X10_ack
    rw [if_pos (k_0 hS), (fl_in hi).1, ob_eq, if_neg d10, lf_in hS hC, ob_eq, if_pos hn, if_pos rfl, r_0_1004 hS, ob_eq, q_cx hS hi, ob_eq, gi_aCx hS hi, ob_eq, x1, ob_eq, q_cx hS hi, ob_eq, r_aCx_100 hS hi, ob_eq, gi_aCh hS hi, ob_eq]
  rcases x2 with x2 | ⟨x2, x0, ⟨u, hu, u1, u2⟩, x4, x5⟩
  · refine ⟨M, _, -3, n, z, by rw [eC, if_pos x2], ?_, inv_thr (v := 0) H, by omega⟩
    unfold f_X11_ack
    rw [if_pos (k_226 hS), pi_226 hS, ob_eq, (fl_in hi).2.1, ob_eq, if_neg d10, gi_226 hSt, ob_eq, iT 1116 (by decide), hC.2.2.1, if_neg n200, r_226_1130 hSt, ob_eq, az_252 hSt hi, ob_eq, mA_sI, x2, if_pos rfl]
  obtain ⟨M1, a1, a2, a3, a4⟩ := answer (k := 3) (u := u) H hn (Or.inl rfl) hi (by omega)
  have hSt1 : St (sI M1 1100 (X + 226) 0) X := St_sI a3
  obtain ⟨M2, b1, b2⟩ := a4 (sI M1 1100 (X + 226) 0) (Ag_sI (Or.inl (by unfold ScI; omega))) rfl
  have m252 : mA M1 (X + 252) i = 1 := (a2.2.1 _ _ (by unfold ScA; omega) (fun q => q) (by omega)).trans x2
  have m253 : mA M1 (X + 253) i = nI u := (a2.2.1 _ _ (by unfold ScA; omega) (fun q => q) (by omega)).trans u2
  have m16 : mI M1 1116 (X + 226) = nI n := (a2.1 _ _ (by unfold ScI; omega) (by unfold T10; omega) (by omega)).trans hC.2.2.1
  refine ⟨M1, M2, nI n, n + 1, _, ?_, ?_, b2, Nat.le_refl _⟩
  · have a1' : f_X10_addAnswer M X 3 (nI i) (nI u) = some (M1, nI n) := a1
    rw [eC, x2, if_neg d10, u1, a1', ob2_eq]
  · unfold f_X11_ack
    rw [if_pos (k_226 a3), pi_226 a3, ob_eq, (fl_in hi).2.1, ob_eq, if_neg d10, gi_226 hSt1, ob_eq, iT' M1 1116 (by decide), m16, if_neg n200, r_226_1130 hSt1, ob_eq, az_252 hSt1 hi, ob_eq, mA_sI, m252, if_neg d10, r_226_1131 hSt1, ob_eq, ai_253 hSt1 hi, ob_eq, mA_sI, m253]
    have h1 : f_X11_head (sI M1 1100 (X + 226) 0) (X + 226) 3 (nI i) (nI u) = some (rm (sI M1 1100 (X + 226) 0) X (hd 3 i u) 22) := head_eq (k := 3) hSt1 (by decide) hi (by omega)
    have h2 : f_X11_head (sI M1 1100 (X + 226) 0) (X + 226) (nI 3) (nI i) (nI u) = some (rm (sI M1 1100 (X + 226) 0) X (hd 3 i u) 22) := h1
    rw [h2, ob_eq] at b1
    rw [h1, ob_eq, r_226_1131 (St_rm hSt1), ob_eq, ai_253 (St_rm hSt1) hi, ob_eq]
    have e3 : mA (rm (sI M1 1100 (X + 226) 0) X (hd 3 i u) 22) (X + 253) i = nI u := by unfold rm; rw [mA_sA, if_neg (by omega), mA_sI, mA_sI]; exact m253
    rw [e3]
    exact b1
theorem op_nack {M : Mm} {X p n w : Nat} {z : Nat → Nat} (H : Inv M X p n w z) (a : Int32) : ∃ M1 M2 r n' z', f_X10_nack M X a = some (M1, r) ∧ f_X11_nack M1 (X + 226) a = some (M2, r) ∧ Inv M2 X p n' w z' ∧ n' ≤ n + 1 := by
  obtain ⟨hS, hW, hP, hD, hC, hQ, hX, hZ, hL, hG, hH, hT⟩ := id H
  have hN := z_ge hZ n (Nat.le_refl _)
  have d10 : ¬ (1 : Int32) = 0 := by decide
  have hSt : St (sI M 1100 (X + 226) 0) X := St_sI hS
  have iT' : ∀ M nu, nu ≠ 1100 → mI (sI M 1100 (X + 226) 0) nu (X + 226) = mI M nu (X + 226) := fun M nu h => by rw [mI_sI, if_neg h]
  have iT := iT' M
  rcases ix_cases a (n := 8) (by omega) with h | ⟨i, hi, rfl⟩
  · refine ⟨M, _, -1, n, z, ?_, ?_, inv_thr (v := 0) H, by omega⟩
    · unfold f_X10_nack
      rw [if_pos (k_0 hS), (fl_out h).1, ob_eq, if_pos rfl]
    · unfold f_X11_nack
      rw [if_pos (k_226 hS), pi_226 hS, ob_eq, (fl_out h).2.1, ob_eq, if_pos rfl]
  have h200 := hC.1
  by_cases hn : n < 200
  rotate_left
  · have e : n = 200 := by omega
    refine ⟨M, _, -2, n, z, ?_, ?_, inv_thr (v := 0) H, by omega⟩
    · unfold f_X10_nack
      rw [if_pos (k_0 hS), (fl_in hi).1, ob_eq, if_neg d10, lf_in hS hC, ob_eq, if_neg hn, if_neg d10]
    · unfold f_X11_nack
      rw [if_pos (k_226 hS), pi_226 hS, ob_eq, (fl_in hi).2.1, ob_eq, if_neg d10, gi_226 hSt, ob_eq, iT 1116 (by decide), hC.2.2.1, if_pos (show nI n = 200 by rw [e]; rfl)]
  have n200 : ¬ nI n = 200 := fun q => absurd ((nI_eq (a := n) (b := 200) (by omega) (by decide)).mp q) (by omega)
  obtain ⟨x1, x2⟩ := id (hX i hi)
  have eC : f_X10_nack M X (nI i) = if mA M (X + 252) i = 0 then ob2 (f_X10_addAnswer M X 5 (nI i) 0) (fun M v => some (M, v)) else ob2 (f_X10_addAnswer M X 4 (nI i) (mI M 301 (aCh X i) + 1)) (fun M v => some (M, v)) := by
    unfold f_X10_nack
    rw [if_pos (k_0 hS), (fl_in hi).1, ob_eq, if_neg d10, lf_in hS hC, ob_eq, if_pos hn, if_pos rfl, r_0_1004 hS, ob_eq, q_cx hS hi, ob_eq, gi_aCx hS hi, ob_eq, x1, ob_eq, q_cx hS hi, ob_eq, r_aCx_100 hS hi, ob_eq, gi_aCh hS hi, ob_eq]
  have eM : ∀ M1, St M1 X → mI M1 1116 (X + 226) = nI n → f_X11_nack M1 (X + 226) (nI i) = if mA M1 (X + 252) i = 0 then f_X11_nack_J41 (sI M1 1100 (X + 226) 0) (X + 226) (nI i) 5 else f_X11_nack_J41 (sI M1 1100 (X + 226) 0) (X + 226) (nI i) 4 := by
    intro M1 a3 m16
    have hSt1 : St (sI M1 1100 (X + 226) 0) X := St_sI a3
    unfold f_X11_nack
    rw [if_pos (k_226 a3), pi_226 a3, ob_eq, (fl_in hi).2.1, ob_eq, if_neg d10, gi_226 hSt1, ob_eq, iT' M1 1116 (by decide), m16, if_neg n200, r_226_1130 hSt1, ob_eq, az_252 hSt1 hi, ob_eq, mA_sI]
  rcases x2 with x2 | ⟨x2, x0, ⟨u, hu, u1, u2⟩, x4, x5⟩
  · obtain ⟨M1, a1, a2, a3, a4⟩ := answer (k := 5) (u := 0) H hn (Or.inr (Or.inr rfl)) hi (by omega)
    have hSt1 : St (sI M1 1100 (X + 226) 0) X := St_sI a3
    obtain ⟨M2, b1, b2⟩ := a4 (sI M1 1100 (X + 226) 0) (Ag_sI (Or.inl (by unfold ScI; omega))) rfl
    have m252 : mA M1 (X + 252) i = 0 := (a2.2.1 _ _ (by unfold ScA; omega) (fun q => q) (by omega)).trans x2
    have m16 : mI M1 1116 (X + 226) = nI n := (a2.1 _ _ (by unfold ScI; omega) (by unfold T10; omega) (by omega)).trans hC.2.2.1
    refine ⟨M1, M2, nI n, n + 1, _, ?_, ?_, b2, Nat.le_refl _⟩
    · have a1' : f_X10_addAnswer M X 5 (nI i) 0 = some (M1, nI n) := a1
      rw [eC, if_pos x2, a1', ob2_eq]
    · rw [eM M1 a3 m16, if_pos m252]
      unfold f_X11_nack_J41
      rw [r_226_1130 hSt1, ob_eq, az_252 hSt1 hi, ob_eq, mA_sI, if_pos m252]
      exact b1
  · obtain ⟨M1, a1, a2, a3, a4⟩ := answer (k := 4) (u := u + 1) H hn (Or.inr (Or.inl rfl)) hi (by omega)
    have hSt1 : St (sI M1 1100 (X + 226) 0) X := St_sI a3
    obtain ⟨M2, b1, b2⟩ := a4 (sI M1 1100 (X + 226) 0) (Ag_sI (Or.inl (by unfold ScI; omega))) rfl
    have m252 : mA M1 (X + 252) i = 1 := (a2.2.1 _ _ (by unfold ScA; omega) (fun q => q) (by omega)).trans x2
    have m253 : mA M1 (X + 253) i = nI u := (a2.2.1 _ _ (by unfold ScA; omega) (fun q => q) (by omega)).trans u2
    have m16 : mI M1 1116 (X + 226) = nI n := (a2.1 _ _ (by unfold ScI; omega) (by unfold T10; omega) (by omega)).trans hC.2.2.1
    refine ⟨M1, M2, nI n, n + 1, _, ?_, ?_, b2, Nat.le_refl _⟩
    · have a1' : f_X10_addAnswer M X 4 (nI i) (nI (u + 1)) = some (M1, nI n) := a1
      rw [eC, x2, if_neg d10, u1, nI_1, a1', ob2_eq]
    · rw [eM M1 a3 m16, m252, if_neg d10]
      unfold f_X11_nack_J41
      rw [r_226_1130 hSt1, ob_eq, az_252 hSt1 hi, ob_eq, mA_sI, m252, if_neg d10, r_226_1131 hSt1, ob_eq, ai_253 hSt1 hi, ob_eq, mA_sI, m253, nI_1]
      exact b1
