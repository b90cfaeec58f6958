theorem RV_ag {M R : Mm} {X N n : Nat} {TI TA TB : Nat → Nat → Prop} (hN : X + 270 ≤ N) (A : Ag X N n TI TA TB M R) (S : St M X) (t1 : ∀ nu a, TI nu a → ¬ nu = 1101) (t2 : ∀ a j, TA a j → ¬ (a = X + 227 ∨ a = X + 228 ∨ a = X + 229 ∨ a = X + 234 ∨ a = X + 237)) (t3 : ∀ a j, TB a j → ¬ (a = X + 230 ∨ a = X + 231 ∨ a = X + 238)) : RV X M R := by
  refine ⟨St_Ag hN A S, fun o ho => funext fun j => A.2.1 _ _ (by unfold ScA; omega) (fun q => t2 _ _ q (by omega)) (by omega), fun o ho => funext fun j => A.2.2.1 _ _ (by unfold ScB; omega) (fun q => t3 _ _ q (by omega)) (by omega), A.1 _ _ (by unfold ScI; omega) (fun q => t1 _ _ q rfl) (by omega)⟩
/-- the reference finds the letter broken too -/
theorem dl_brk {M M1 : Mm} {X p n w l len : Nat} {z : Nat → Nat} {r : Nat → Nat} (H : Inv M X p n w z) (hl : l < n) (A1 : Ag X (z n) n (fun num a => num = 405 ∧ a = lA z l) T0 T0 M M1) (h246 : mA M (X + 246) l = 0) (i405 : mI M1 405 (lA z l) = 5) (l3 : 3 ≤ len) (l6 : len ≤ 60) (h239 : mA M (X + 239) l = nI len) (hr : ∀ q, q < len → r q < 256 ∧ mA M (X + 240) (64 * l + q) = nI (r q)) (ng : ¬ goodP M X len p r) : ∃ M2, f_X11_deliver M1 (X + 226) (nI l) = some (M2, 5) ∧ Inv M2 X p n w z := by
  obtain ⟨hS, hW, hP, hD, hC, hQ, hX, hZ, hL, hG, hH, hT⟩ := id H
  have hN := z_ge hZ n (Nat.le_refl _)
  have z1 := z_ge hZ l (by omega)
  have z2 := hZ.2.1 l hl
  have z3 := z_mo hZ (l := l + 1) (m := n) (by omega) (Nat.le_refl _)
  have h200 := hC.1
  have hA : X + 270 ≤ lA z l ∧ lA z l < z n := by unfold lA; omega
  have S1 : St M1 X := St_Ag hN A1 hS
  have k8 : kdr r < 8 := rdv_lt 3
  have d10 : ¬ (1 : Int32) = 0 := by decide
  have eA : ∀ o j, (o = 239 ∨ o = 240 ∨ o = 246) → mA M1 (X + o) j = mA M (X + o) j := fun o j ho => A1.2.1 _ _ (by unfold ScA; omega) (fun q => q) (by omega)
  obtain ⟨R0, g0, g1, g3, h2, e1, e2, e3, e4⟩ := dl_ref (M1 := M1) (X := X) (l := l) (n := n) (len := len) (r := r) S1 hl h200 (by rw [A1.1 _ _ (by unfold ScI; omega) (by omega) (by omega)]; exact hC.2.2.1) (by rw [eA 246 _ (by omega)]; exact h246) l3 l6 (by rw [eA 239 _ (by omega)]; exact h239) (fun q hq => by rw [eA 240 _ (by omega)]; exact hr q hq)
  have done : ∀ R2, (∀ N n, Ag X N n T0 T0 T0 R0 R2) → ∃ M2, fin X (nI l) R2 5 = some (M2, 5) ∧ Inv M2 X p n w z := by
    intro R2 hR2
    have A02 : Ag X (z n) n T0 T0 T0 M1 R2 := (e2 _ _).tr' (hR2 _ _)
    have S2 : St R2 X := St_Ag hN A02 S1
    refine ⟨_, fin_eq2 S2 (by omega), inv_dlv0 H hl ?_ ?_⟩
    · have y1 : Ag X (z n) n (fun num a => num = 405 ∧ a = lA z l) (fun a j => a = X + 245 ∧ j = l) T0 M M1 := A1.wk (fun _ _ q => q) (fun _ _ q => q.elim) (fun _ _ q => q)
      exact (y1.tr' A02.of0).cU (Or.inr (Or.inr ⟨rfl, rfl⟩))
    · rw [mA_sUi, mI_sU, A02.1 _ _ (by unfold ScI; omega) (fun q => q) (by omega)]
      exact i405.symm
  rw [e1]
  by_cases c5 : kdr r ≤ 5
  rotate_left
  · rw [if_neg (show ¬ nI (kdr r) ≤ 5 from nI_ge (a := 5) (by omega) (by omega))]
    exact done _ (fun N n => Ag_rs)
  rw [if_pos (show nI (kdr r) ≤ 5 from nI_le (b := 5) c5 (by decide))]
  by_cases c2 : kdr r ≤ 2
  · rw [if_pos (show nI (kdr r) ≤ 2 from nI_le (b := 2) c2 (by decide))]
    have V : RV X M R0 := RV_ag hN (A1.tr (e2 _ _)) hS (fun nu a q => q.elim (fun q => by omega) (fun q => q.elim)) (fun a j q => q.elim (fun q => q.elim) (fun q => q.elim)) (fun a j q => q.elim (fun q => q.elim) (fun q => q.elim))
    obtain ⟨R', b, f1, f2, f3, f4, f5⟩ := tF_r (g0 := g0) (g1 := g1) (g3 := g3) (h2 := h2) V hP e4 l3 c2
    rcases f5 with ⟨-, f6, -⟩ | ⟨f6, -⟩
    · exact absurd f6 ng
    · have S' : St R' X := St_Ag (N := X + 270) (Nat.le_refl _) (f2 _ 0) V.1
      have eo : f_X11_opened (rs R0 X 22 0 g0 g1 g3 h2) (X + 226) (nI l) (nI (kdr r)) (nI (flr r)) (nI (nur r)) = some (R', 5) := by
        unfold f_X11_opened
        rw [if_pos (k_226 (St_rs V.1)), f1, ob_eq, gi_226 S', ob_eq, f4, f6, if_neg d10]
      rw [eo, ob2_eq]
      exact done R' f2
  · rw [if_neg (show ¬ nI (kdr r) ≤ 2 from nI_ge (a := 2) (by omega) (by omega))]
    have S0 : St R0 X := St_Ag hN (e2 _ 0) S1
    obtain ⟨a', b, l1, f1, f2⟩ := tEnd (a := 22) (br := 0) (g0 := g0) (g1 := g1) (g3 := g3) (h2 := h2) S0 e4 true (by omega) (Or.inl rfl)
    have f1' : f_X11_takeEnd (rs R0 X 22 0 g0 g1 g3 h2) (X + 226) (nI l) 1 = _ := f1
    rcases f2 with ⟨-, -, f3⟩ | ⟨f3, -⟩
    · exact absurd ⟨c5, fun q => absurd q c2, fun _ => f3⟩ ng
    · have eo : f_X11_answered (rs R0 X 22 0 g0 g1 g3 h2) (X + 226) (nI l) (nI (kdr r)) (nI (flr r)) (nI (nur r)) = some (rs R0 X a' b g0 g1 g3 h2, 5) := by
        unfold f_X11_answered
        rw [if_pos (k_226 (St_rs S0)), f1', ob_eq, gi_226 (St_rs S0), ob_eq, rs_i45, f3, if_neg d10]
      rw [eo, ob2_eq]
      exact done _ (fun N n => Ag_rs)
/-- an answer -/
theorem dl_ans {M Q : Mm} {X p n w l len : Nat} {z : Nat → Nat} {r : Nat → Nat} (H : Inv M X p n w z) (hl : l < n) (AQ : ∀ N n, Ag X N n T0 T0 T0 M Q) (h246 : mA M (X + 246) l = 0) (l3 : 3 ≤ len) (l6 : len ≤ 60) (h239 : mA M (X + 239) l = nI len) (hr : ∀ q, q < len → r q < 256 ∧ mA M (X + 240) (64 * l + q) = nI (r q)) (c5 : kdr r ≤ 5) (c2 : ¬ kdr r ≤ 2) (ge : eS len r true 22) : ∃ E v M2, f_X9_heed Q (aSq X (flr r)) (nI (kdr r)) (nI (nur r)) = some (E, v) ∧ mK E (lA z l) = mK M (lA z l) ∧ f_X11_deliver (sI E 405 (lA z l) v) (X + 226) (nI l) = some (M2, v) ∧ Inv M2 X p n w z := by
  obtain ⟨hS, hW, hP, hD, hC, hQ, hX, hZ, hL, hG, hH, hT⟩ := id H
  have hN := z_ge hZ n (Nat.le_refl _)
  have z1 := z_ge hZ l (by omega)
  have z2 := hZ.2.1 l hl
  have z3 := z_mo hZ (l := l + 1) (m := n) (by omega) (Nat.le_refl _)
  have h200 := hC.1
  have w8 := hW.2.2.2
  have hA : X + 270 ≤ lA z l ∧ lA z l < z n := by unfold lA; omega
  have SQ : St Q X := St_Ag hN (AQ _ 0) hS
  have k8 : kdr r < 8 := rdv_lt 3
  have hi : flr r < 8 := rdv_lt 3
  have d10 : ¬ (1 : Int32) = 0 := by decide
  obtain ⟨kk, ro, h, f0, hq⟩ := hQ (flr r) hi
  obtain ⟨q1, q2, q3, q4, q5, q6, q7, q8, q9, q10, q11, q12, q13, q14, q15⟩ := id hq
  generalize hii : flr r = i at hi hq q1 q2 q3 q4 q5 q6 q7 q8 q9 q10 q11 q12 q13 q14 q15
  have l9 : aSq X i < X + 212 := by unfold aSq; omega
  obtain ⟨E, x1, x2, x3, x4, x5, x6, x7⟩ := hd_c (k := kdr r) (u := nur r) hi w8 hq (Q := Q) SQ (fun nu a b => (AQ (z n) n).1 _ _ (by unfold ScI; omega) (fun q => q) (by omega)) (fun d hd => (AQ (z n) n).1 _ _ (by unfold ScI aHd; omega) (fun q => q) (by unfold aHd; omega)) k8
  have dj := dj_le (M := M) (X := X) (i := i) (f0 := f0) (h := h) (k := kdr r) (u := nur r)
  generalize hv : vjn M X i f0 h (kdr r) (nur r) = v at x1
  have kE : mK E (lA z l) = mK M (lA z l) := by rw [((x2 (z n) n).2.2.2.1 _ hA.2).1, ((AQ (z n) n).2.2.2.1 _ hA.2).1]
  have A1 : Ag X (z n) n (TId X i (lA z l)) (TAd X i l) (TBd X i) M (sI E 405 (lA z l) v) := by
    have y1 : Ag X (z n) n (TId X i (lA z l)) (TAd X i l) (TBd X i) M Q := (AQ _ _).of0
    have y2 : Ag X (z n) n (TId X i (lA z l)) (TAd X i l) (TBd X i) Q E := (x2 _ _).wk (fun _ _ q => Or.inr (Or.inl q)) (fun _ _ q => q.elim) (fun _ _ q => q.elim)
    exact (y1.tr' y2).cI (Or.inr (Or.inl (Or.inl ⟨rfl, rfl⟩)))
  have i405 : mI (sI E 405 (lA z l) v) 405 (lA z l) = v := by rw [mI_sI, if_pos rfl, if_pos rfl]
  have iE : ∀ nu a, ¬ nu = 405 → mI (sI E 405 (lA z l) v) nu a = mI E nu a := fun nu a q => by rw [mI_sI, if_neg q]
  have aE : ∀ a j, ¬ ScA X a → a < z n → mA (sI E 405 (lA z l) v) a j = mA M a j := fun a j s lt => by
    rw [mA_sI, (x2 (z n) n).2.1 a j s (fun q => q) lt, (AQ (z n) n).2.1 a j s (fun q => q) lt]
  have bE : ∀ a j, ¬ ScB X a → a < z n → mB (sI E 405 (lA z l) v) a j = mB M a j := fun a j s lt => by
    rw [mB_sI, (x2 (z n) n).2.2.1 a j s (fun q => q) lt, (AQ (z n) n).2.2.1 a j s (fun q => q) lt]
  have S1 : St (sI E 405 (lA z l) v) X := St_Ag hN A1 hS
  have i26 : ∀ nu, ¬ ScI X nu (X + 226) → nu ≠ 405 → mI (sI E 405 (lA z l) v) nu (X + 226) = mI M nu (X + 226) := fun nu s q => by
    rw [iE _ _ q, (x2 (z n) n).1 _ _ s (by unfold aSq; omega) (by omega), (AQ (z n) n).1 _ _ s (fun q => q) (by omega)]
  generalize hM1 : sI E 405 (lA z l) v = M1 at A1 i405 iE aE bE S1 i26
  obtain ⟨R0, g0, g1, g3, h2, e1, e2, e3, e4⟩ := dl_ref (M1 := M1) (X := X) (l := l) (n := n) (len := len) (r := r) S1 hl h200 (by rw [i26 _ (by unfold ScI; omega) (by decide)]; exact hC.2.2.1) (by rw [aE _ _ (by unfold ScA; omega) (by omega)]; exact h246) l3 l6 (by rw [aE _ _ (by unfold ScA; omega) (by omega)]; exact h239) (fun q hq => by rw [aE _ _ (by unfold ScA; omega) (by omega)]; exact hr q hq)
  have S0 : St R0 X := St_Ag hN (e2 _ 0) S1
  obtain ⟨a', b, l1, f1, f2⟩ := tEnd (a := 22) (br := 0) (g0 := g0) (g1 := g1) (g3 := g3) (h2 := h2) S0 e4 true (by omega) (Or.inl rfl)
  have f1' : f_X11_takeEnd (rs R0 X 22 0 g0 g1 g3 h2) (X + 226) (nI l) 1 = _ := f1
  have fb : b = 0 := by
    rcases f2 with ⟨f3, -⟩ | ⟨-, f4⟩
    · exact f3
    · exact absurd ⟨rfl, ge⟩ f4
  subst fb
  have AR : ∀ N n, Ag X N n T0 T0 T0 M1 (rs R0 X a' 0 g0 g1 g3 h2) := fun N n => Ag.crs (e2 N n)
  have r45 : mI (rs R0 X a' 0 g0 g1 g3 h2) 1145 (X + 226) = 0 := rs_i45
  generalize hRr : rs R0 X a' 0 g0 g1 g3 h2 = Rr at f1' AR r45
  have SR : St Rr X := St_Ag hN (AR _ 0) S1
  have aR : ∀ a j, ¬ ScA X a → a < z n → mA Rr a j = mA M a j := fun a j s lt => by rw [(AR (z n) n).2.1 a j s (fun q => q) lt, aE a j s lt]
  have bR : ∀ a j, ¬ ScB X a → a < z n → mB Rr a j = mB M a j := fun a j s lt => by rw [(AR (z n) n).2.2.1 a j s (fun q => q) lt, bE a j s lt]
  have V : RV X M Rr := ⟨SR, fun o ho => funext fun j => aR _ _ (by unfold ScA; omega) (by omega), fun o ho => funext fun j => bR _ _ (by unfold ScB; omega) (by omega), by rw [(AR (z n) n).1 _ _ (by unfold ScI; omega) (fun q => q) (by omega), i26 _ (by unfold ScI; omega) (by decide)]⟩
  obtain ⟨E', y1, y2, y3, y4, y5, y6, y7, y8⟩ := an_r (k := kdr r) (u := nur r) hi w8 hP hq (R := Rr) V (aR _ _ (by unfold ScA; omega) (by omega)) (by rw [aR _ _ (by unfold ScA; omega) (by omega)]; exact q11) k8 (by omega)
  rw [hv] at y1
  have S' : St E' X := St_Ag hN (y2 _ 0) SR
  have eo : f_X11_answered (rs R0 X 22 0 g0 g1 g3 h2) (X + 226) (nI l) (nI (kdr r)) (nI i) (nI (nur r)) = some (E', v) := by
    unfold f_X11_answered
    rw [if_pos (k_226 (St_rs S0)), f1', ob_eq, gi_226 SR, ob_eq, r45, if_pos rfl]
    exact y1
  generalize hd : djn M X i f0 h (kdr r) (nur r) = dd at dj x4 x5 y6 y7 y8
  refine ⟨E, v, sU E' (X + 245) l v, x1, kE, ?_, ?_⟩
  · rw [hM1, e1, if_pos (show nI (kdr r) ≤ 5 from nI_le (b := 5) c5 (by decide)), if_neg (show ¬ nI (kdr r) ≤ 2 from nI_ge (a := 2) (by omega) (by omega)), hii, eo, ob2_eq, fin_eq2 S' (by omega)]
  · have A2 : Ag X (z n) n (TId X i (lA z l)) (TAd X i l) (TBd X i) M1 (sU E' (X + 245) l v) := by
      have t1 : Ag X (z n) n (TId X i (lA z l)) (TAd X i l) (TBd X i) M1 Rr := (AR _ _).of0
      have t2 : Ag X (z n) n (TId X i (lA z l)) (TAd X i l) (TBd X i) Rr E' := (y2 _ _).wk (fun _ _ q => q.elim) (fun a j q => by unfold TAr at q; unfold TAd; omega) (fun a j q => by unfold TBr at q; unfold TBd; omega)
      exact (t1.tr' t2).cU (Or.inr (Or.inr (Or.inl ⟨rfl, rfl⟩)))
    have A := A1.tr' A2
    have iF : ∀ nu a, ¬ ScI X nu a → ¬ nu = 405 → a < z n → mI (sU E' (X + 245) l v) nu a = mI E nu a := fun nu a s q lt => by
      rw [mI_sU, y4, (AR (z n) n).1 _ _ s (fun q => q) lt, iE _ _ q]
    have oj := hv
    refine inv_dlv H hl hi A ?_ ?_ ?_ ?_
    · refine ⟨kk, ro, h - dd, (f0 + dd) % 8, q1, ?_, ?_, q4, ?_, ?_, ?_, ?_, by omega, ?_, ?_, Nat.mod_lt _ (by decide), ?_, ?_, ?_⟩
      · rw [iF _ _ (by unfold ScI; omega) (by decide) (by omega), x7 901 (by omega), (AQ (z n) n).1 _ _ (by unfold ScI; omega) (fun q => q) (by omega)]; exact q2
      · rw [mA_sUx (by omega), (y2 (z n) n).2.1 _ _ (by unfold ScA; omega) (by unfold TAr; omega) (by omega), aR _ _ (by unfold ScA; omega) (by omega)]; exact q3
      · rw [iF _ _ (by unfold ScI; omega) (by decide) (by omega), x7 902 (by omega), (AQ (z n) n).1 _ _ (by unfold ScI; omega) (fun q => q) (by omega)]; exact q5
      · rw [mA_sUx (by omega), (y2 (z n) n).2.1 _ _ (by unfold ScA; omega) (by unfold TAr; omega) (by omega), aR _ _ (by unfold ScA; omega) (by omega)]; exact q6
      · rw [iF _ _ (by unfold ScI; omega) (by decide) (by omega), x6, mA_sUx (by omega), y5]
      · rw [mA_sUx (by omega), y5]
        unfold ojn
        by_cases c : kdr r = 3
        · rw [if_pos c]; exact q8
        · rw [if_neg c]; exact Or.inr rfl
      · rw [iF _ _ (by unfold ScI; omega) (by decide) (by omega)]; exact x4
      · rw [mA_sUx (by omega)]; exact y6
      · rw [iF _ _ (by unfold ScI; omega) (by decide) (by omega)]; exact x5
      · intro f hf
        rw [mA_sUx (by omega), mA_sUx (by unfold aSt; omega), (y2 (z n) n).2.1 _ _ (by unfold ScA; omega) (by unfold TAr; omega) (by omega), (y2 (z n) n).2.1 (aSt X i) _ (by unfold ScA aSt; omega) (by unfold TAr aSt; omega) (by unfold aSt; omega), aR _ _ (by unfold ScA; omega) (by omega), aR _ _ (by unfold ScA aSt; omega) (by unfold aSt; omega)]
        exact q14 f hf
      · intro j hj
        obtain ⟨⟨u0, u1, u2, u3⟩, u4⟩ := q15 (j + dd) (by omega)
        rw [show (f0 + (j + dd)) % 8 = ((f0 + dd) % 8 + j) % 8 by omega] at u3 u4
        have hm : ((f0 + dd) % 8 + j) % 8 < 8 := Nat.mod_lt _ (by decide)
        generalize ((f0 + dd) % 8 + j) % 8 = d at u3 u4 hm
        rw [← Nat.add_assoc (9 * i) j dd] at u2 u4
        refine ⟨⟨u0, u1, ?_, ?_⟩, fun f hf => ?_⟩
        · rw [mA_sUx (by omega), y7 j hj]; exact u2
        · rw [iF _ _ (by unfold ScI aHd; omega) (by decide) (by unfold aHd; omega), (x2 (z n) n).1 _ _ (by unfold ScI aHd; omega) (by omega) (by unfold aHd; omega), (AQ (z n) n).1 _ _ (by unfold ScI aHd; omega) (fun q => q) (by unfold aHd; omega)]; exact u3
        · rw [mB_sU, y8 j f hj hf, (y2 (z n) n).2.2.1 (aHv X i d) _ (by unfold ScB aHv; omega) (by unfold TBr aHv; omega) (by unfold aHv; omega), bR _ _ (by unfold ScB aHv; omega) (by unfold aHv; omega)]
          exact u4 f hf
    · have B : Ag X (z n) n (fun num a => (num = 405 ∧ a = lA z l) ∨ (901 ≤ num ∧ num ≤ 906 ∧ a = aSq X i)) (fun a j => (a = X + 245 ∧ j = l) ∨ (a = X + 235 ∧ j = i) ∨ TAr X i a j) (TBr X i) M (sU E' (X + 245) l v) := by
        have t0 : Ag X (z n) n (fun num a => (num = 405 ∧ a = lA z l) ∨ (901 ≤ num ∧ num ≤ 906 ∧ a = aSq X i)) (fun a j => (a = X + 245 ∧ j = l) ∨ (a = X + 235 ∧ j = i) ∨ TAr X i a j) (TBr X i) M E := (AQ _ _).of0.tr' ((x2 _ _).wk (fun _ _ q => Or.inr q) (fun _ _ q => q.elim) (fun _ _ q => q.elim))
        have t1 : Ag X (z n) n (fun num a => (num = 405 ∧ a = lA z l) ∨ (901 ≤ num ∧ num ≤ 906 ∧ a = aSq X i)) (fun a j => (a = X + 245 ∧ j = l) ∨ (a = X + 235 ∧ j = i) ∨ TAr X i a j) (TBr X i) M M1 := by
          rw [← hM1]
          exact t0.cI (Or.inr (Or.inl (Or.inl ⟨rfl, rfl⟩)))
        exact ((t1.tr' (AR _ _).of0).tr' ((y2 _ _).wk (fun _ _ q => q.elim) (fun _ _ q => Or.inr q) (fun _ _ q => q))).cU (Or.inr (Or.inr (Or.inl ⟨rfl, rfl⟩)))
      refine tr_X hN hP.1 hi B (hX i hi) ?_ ?_ ?_
      · intro nu a q; unfold aSq at q; unfold aCx aCh; omega
      · intro a j q; unfold TAr at q; unfold aCs; omega
      · intro a j q; unfold TBr at q; unfold aCv; omega
    · have B : Ag X (z n) n (fun num a => (num = 405 ∧ a = lA z l) ∨ (901 ≤ num ∧ num ≤ 906 ∧ a = aSq X i)) (fun a j => (a = X + 245 ∧ j = l) ∨ (a = X + 235 ∧ j = i) ∨ TAr X i a j) (TBr X i) M (sU E' (X + 245) l v) := by
        have t0 : Ag X (z n) n (fun num a => (num = 405 ∧ a = lA z l) ∨ (901 ≤ num ∧ num ≤ 906 ∧ a = aSq X i)) (fun a j => (a = X + 245 ∧ j = l) ∨ (a = X + 235 ∧ j = i) ∨ TAr X i a j) (TBr X i) M E := (AQ _ _).of0.tr' ((x2 _ _).wk (fun _ _ q => Or.inr q) (fun _ _ q => q.elim) (fun _ _ q => q.elim))
        have t1 : Ag X (z n) n (fun num a => (num = 405 ∧ a = lA z l) ∨ (901 ≤ num ∧ num ≤ 906 ∧ a = aSq X i)) (fun a j => (a = X + 245 ∧ j = l) ∨ (a = X + 235 ∧ j = i) ∨ TAr X i a j) (TBr X i) M M1 := by
          rw [← hM1]
          exact t0.cI (Or.inr (Or.inl (Or.inl ⟨rfl, rfl⟩)))
        exact ((t1.tr' (AR _ _).of0).tr' ((y2 _ _).wk (fun _ _ q => q.elim) (fun _ _ q => Or.inr q) (fun _ _ q => q))).cU (Or.inr (Or.inr (Or.inl ⟨rfl, rfl⟩)))
      refine tr_G hN B hG ?_ ?_ ?_
      · intro nu a q; unfold aSq at q; omega
      · intro a j q; unfold TAr at q; omega
      · intro a j q; unfold TBr at q; omega
    · rw [mA_sUi, mI_sU, y4, (AR (z n) n).1 _ _ (by unfold ScI; omega) (fun q => q) hA.2]
      exact i405.symm
