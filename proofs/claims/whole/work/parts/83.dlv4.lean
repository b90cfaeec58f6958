theorem fl_wy {M : Mm} {X len k f a a' wy ln tv sd : Nat} {r : Nat → Nat} (h : flS M X len r k f a = some (a', wy, ln, tv, sd)) : (wy = 0 ∨ wy = 1 ∨ wy = 2) ∧ (wy = 1 → ln ≤ wdx M X f) ∧ (k = 0 → wy = 2) := by
  have inj : ∀ {x1 x2 x3 x4 x5 : Nat}, (some (x1, x2, x3, x4, x5) : Option Fr) = some (a', wy, ln, tv, sd) → x2 = wy ∧ x3 = ln := by
    intro x1 x2 x3 x4 x5 e
    obtain ⟨-, e2⟩ := Prod.mk.inj (Option.some.inj e)
    obtain ⟨e2, e3⟩ := Prod.mk.inj e2
    obtain ⟨e3, -⟩ := Prod.mk.inj e3
    exact ⟨e2, e3⟩
  unfold flS fldS at h
  by_cases c0 : k = 0 ∨ frb M X f = true
  · rw [if_pos c0] at h
    have w2 : wy = 2 := by
      by_cases c1 : a + wdx M X f ≤ 8 * len
      · rw [if_pos c1] at h
        by_cases q : rub M X f = true
        · rw [if_pos q] at h
          by_cases c2 : a + wdx M X f + 8 ≤ 8 * len
          · rw [if_pos c2] at h; exact (inj h).1.symm
          · rw [if_neg c2] at h; cases h
        · rw [if_neg q] at h; exact (inj h).1.symm
      · rw [if_neg c1] at h; cases h
    subst w2
    exact ⟨Or.inr (Or.inr rfl), fun q => absurd q (by decide), fun _ => rfl⟩
  have k0 : ¬ k = 0 := fun q => c0 (Or.inl q)
  rw [if_neg c0] at h
  by_cases c1 : k = 1
  · rw [if_pos c1] at h
    by_cases c2 : a + 1 ≤ 8 * len
    · rw [if_pos c2] at h
      by_cases c3 : rdv r a 1 = 1
      · rw [if_pos c3] at h
        by_cases c4 : a + 1 + wdx M X f ≤ 8 * len
        · rw [if_pos c4] at h
          have := (inj h).1
          subst this
          exact ⟨Or.inr (Or.inr rfl), fun q => absurd q (by decide), fun q => absurd q k0⟩
        · rw [if_neg c4] at h; cases h
      · rw [if_neg c3] at h
        have := (inj h).1
        subst this
        exact ⟨Or.inl rfl, fun q => absurd q (by decide), fun q => absurd q k0⟩
    · rw [if_neg c2] at h; cases h
  · rw [if_neg c1] at h
    by_cases q : rub M X f = true
    · rw [if_pos q] at h
      by_cases c2 : a + 6 ≤ 8 * len
      · rw [if_pos c2] at h
        by_cases c3 : rdv r a 6 ≤ wdx M X f
        · rw [if_pos c3] at h
          by_cases c4 : a + 6 + rdv r a 6 ≤ 8 * len
          · rw [if_pos c4] at h
            obtain ⟨e1, e2⟩ := inj h
            subst e1; subst e2
            exact ⟨Or.inr (Or.inl rfl), fun _ => c3, fun q => absurd q k0⟩
          · rw [if_neg c4] at h; cases h
        · rw [if_neg c3] at h; cases h
      · rw [if_neg c2] at h; cases h
    · rw [if_neg q] at h
      have := (inj h).1
      subst this
      exact ⟨Or.inl rfl, fun q => absurd q (by decide), fun q => absurd q k0⟩
/-- a letter that may be taken -/
theorem dl_opn {M Q : Mm} {X p n w l len : Nat} {z : Nat → Nat} {r : Nat → Nat} (H : Inv M X p n w z) (hl : l < n) (AQ : ∀ N n, Ag X N n T0 T0 T0 M Q) (h246 : mA M (X + 246) l = 0) (l3 : 3 ≤ len) (l6 : len ≤ 60) (h239 : mA M (X + 239) l = nI len) (hr : ∀ q, q < len → r q < 256 ∧ mA M (X + 240) (64 * l + q) = nI (r q)) (c2 : kdr r ≤ 2) (gp : goodP M X len p r) (pc : PC M Q X len p r) : ∃ E v M2, f_X10_open Q X (aCx X (flr r)) = some (E, v) ∧ mK E (lA z l) = mK M (lA z l) ∧ f_X11_deliver (sI E 405 (lA z l) v) (X + 226) (nI l) = some (M2, v) ∧ Inv M2 X p n w z := by
  obtain ⟨hS, hW, hP, hD, hC, hQ, hX, hZ, hL, hG, hH, hT⟩ := id H
  have hN := z_ge hZ n (Nat.le_refl _)
  have z1 := z_ge hZ l (by omega)
  have z2 := hZ.2.1 l hl
  have z3 := z_mo hZ (l := l + 1) (m := n) (by omega) (Nat.le_refl _)
  have h200 := hC.1
  have p8 := hP.1
  have w8 := hW.2.2.2
  have hA : X + 270 ≤ lA z l ∧ lA z l < z n := by unfold lA; omega
  have SQ : St Q X := St_Ag hN (AQ _ 0) hS
  have hi : flr r < 8 := rdv_lt 3
  have u16 : nur r < 65536 := rdv_lt 16
  have r16 : ror r < 16 := rdv_lt 4
  have d10 : ¬ (1 : Int32) = 0 := by decide
  obtain ⟨pc1, pc2, pc3, pc4⟩ := pc
  obtain ⟨pc5, a, pa, pc6, pc7⟩ := pc4 c2
  have s256 : rdv r a 8 < 256 := rdv_lt 8
  generalize hii : flr r = i at hi pc2
  have qI : ∀ nu a, ¬ ScI X nu a → a < z n → mI Q nu a = mI M nu a := fun nu a s lt => (AQ (z n) n).1 nu a s (fun q => q) lt
  have qA : ∀ a j, ¬ ScA X a → a < z n → mA Q a j = mA M a j := fun a j s lt => (AQ (z n) n).2.1 a j s (fun q => q) lt
  have qB : ∀ a j, ¬ ScB X a → a < z n → mB Q a j = mB M a j := fun a j s lt => (AQ (z n) n).2.2.1 a j s (fun q => q) lt
  have PQ : IP Q X p := tr_P hN (AQ _ 0) hP (fun _ _ q => q.elim) (fun _ _ q => q.elim) (fun _ _ q => q.elim)
  have XQ : IX Q X p n i := tr_X hN p8 hi (AQ _ 0) (hX i hi) (fun _ _ q => q.elim) (fun _ _ q => q.elim) (fun _ _ q => q.elim)
  have wQ : ∀ f, wdx Q X f = wdx M X f := fun f => by unfold wdx; rw [qA _ _ (by unfold ScA; omega) (by omega)]
  obtain ⟨E, v, x1, x2, x3, hg, Hh, x4, x5⟩ := both (s := rdv r a 8) SQ hi PQ pc1 c2 pc2 pc3 u16 pc5 r16 (by rw [qI _ _ (by unfold ScI; omega) (by omega)]; exact hW.1) w8 XQ (fun q => pc6 (by omega)) s256
  have kE : mK E (lA z l) = mK M (lA z l) := by rw [((x2 (z n) n).2.2.2.1 _ hA.2).1, ((AQ (z n) n).2.2.2.1 _ hA.2).1]
  have l9 : aCx X i < X + 212 ∧ aCh X i < X + 212 ∧ aCv X i < X + 212 ∧ aCs X i < X + 212 := by unfold aCx aCh aCv aCs; omega
  have A1 : Ag X (z n) n (TId X i (lA z l)) (TAd X i l) (TBd X i) M (sI E 405 (lA z l) v) := by
    have y1 : Ag X (z n) n (TId X i (lA z l)) (TAd X i l) (TBd X i) M Q := (AQ _ _).of0
    have y2 : Ag X (z n) n (TId X i (lA z l)) (TAd X i l) (TBd X i) Q E := (x2 _ _).wk (fun nu a q => by unfold TIg at q; unfold TId; omega) (fun a j q => by unfold TAg at q; unfold TAd; omega) (fun a j q => by unfold TBg at q; unfold TBd; omega)
    exact (y1.tr' y2).cI (Or.inr (Or.inl (Or.inl ⟨rfl, rfl⟩)))
  have S1 : St (sI E 405 (lA z l) v) X := St_Ag hN A1 hS
  have i405 : mI (sI E 405 (lA z l) v) 405 (lA z l) = v := by rw [mI_sI, if_pos rfl, if_pos rfl]
  have iE : ∀ nu a, ¬ nu = 405 → mI (sI E 405 (lA z l) v) nu a = mI E nu a := fun nu a q => by rw [mI_sI, if_neg q]
  have aE : ∀ o j, 226 < o → o < 259 → mA (sI E 405 (lA z l) v) (X + o) j = mA M (X + o) j := fun o j q1 q2 => by
    rw [mA_sI, (x2 (z n) n).2.1 _ _ (by unfold ScA; omega) (by unfold TAg; omega) (by omega), qA _ _ (by unfold ScA; omega) (by omega)]
  have bE : ∀ o j, 226 < o → o < 259 → mB (sI E 405 (lA z l) v) (X + o) j = mB M (X + o) j := fun o j q1 q2 => by
    rw [mB_sI, (x2 (z n) n).2.2.1 _ _ (by unfold ScB; omega) (by unfold TBg; omega) (by omega), qB _ _ (by unfold ScB; omega) (by omega)]
  have i26 : ∀ nu, ¬ ScI X nu (X + 226) → 1000 < nu → mI (sI E 405 (lA z l) v) nu (X + 226) = mI M nu (X + 226) := fun nu s q => by
    rw [iE _ _ (by omega), (x2 (z n) n).1 _ _ s (by unfold TIg; omega) (by omega), qI _ _ s (by omega)]
  have mAE : mA (sI E 405 (lA z l) v) = mA E := mA_sI _ _ _ _
  have mBE : mB (sI E 405 (lA z l) v) = mB E := mB_sI _ _ _ _
  generalize hM1 : sI E 405 (lA z l) v = M1 at A1 i405 iE aE bE S1 i26 mAE mBE
  obtain ⟨R0, g0, g1, g3, h2, e1, e2, e3, e4⟩ := dl_ref (M1 := M1) (X := X) (l := l) (n := n) (len := len) (r := r) S1 hl h200 (by rw [i26 _ (by unfold ScI; omega) (by decide)]; exact hC.2.2.1) (by rw [aE _ _ (by decide) (by decide)]; exact h246) l3 l6 (by rw [aE _ _ (by decide) (by decide)]; exact h239) (fun q hq => by rw [aE _ _ (by decide) (by decide)]; exact hr q hq)
  have V0 : RV X M R0 := by
    refine ⟨St_Ag hN (e2 _ 0) S1, fun o ho => funext fun j => ?_, fun o ho => funext fun j => ?_, ?_⟩
    · rw [(e2 (z n) n).2.1 _ _ (by unfold ScA; omega) (fun q => q) (by omega)]; exact aE o j (by omega) (by omega)
    · rw [(e2 (z n) n).2.2.1 _ _ (by unfold ScB; omega) (fun q => q) (by omega)]; exact bE o j (by omega) (by omega)
    · rw [(e2 (z n) n).1 _ _ (by unfold ScI; omega) (fun q => q) (by omega)]; exact i26 _ (by unfold ScI; omega) (by decide)
  obtain ⟨R', b, f1, f2, f3, f4, f5⟩ := tF_r (g0 := g0) (g1 := g1) (g3 := g3) (h2 := h2) V0 hP e4 l3 c2
  rcases f5 with ⟨f6, -, pr1, a', pa', pr2, pr3⟩ | ⟨-, f6⟩
  rotate_left
  · exact absurd gp f6
  have ea : a' = a := Option.some.inj (pa'.symm.trans pa)
  subst ea
  have AR : ∀ N n, Ag X N n T0 T0 T0 M1 R' := fun N n => (e2 N n).tr' (f2 N n)
  have SR : St R' X := St_Ag hN (AR _ 0) S1
  have aR : ∀ o j, 226 < o → o < 259 → mA R' (X + o) j = mA M (X + o) j := fun o j q1 q2 => by
    rw [(AR (z n) n).2.1 _ _ (by unfold ScA; omega) (fun q => q) (by omega)]; exact aE o j q1 q2
  have bR : ∀ o j, 226 < o → o < 259 → mB R' (X + o) j = mB M (X + o) j := fun o j q1 q2 => by
    rw [(AR (z n) n).2.2.1 _ _ (by unfold ScB; omega) (fun q => q) (by omega)]; exact bE o j q1 q2
  have iR : ∀ nu, ¬ ScI X nu (X + 226) → 1000 < nu → mI R' nu (X + 226) = mI M nu (X + 226) := fun nu s q => by
    rw [(AR (z n) n).1 _ _ s (fun q => q) (by omega)]; exact i26 nu s q
  have dat : ∀ f, f < p → (mA R' (X + 260) f = mA Q (X + 218) f) ∧ (mA Q (X + 218) f = 1 → mA R' (X + 261) f = mA Q (X + 219) f ∧ ∃ ln, ln ≤ wdx Q X f ∧ mA Q (X + 219) f = nI ln) ∧ ((mA Q (X + 218) f = 1 ∨ mA Q (X + 218) f = 2) → mB R' (X + 262) f = mB Q (X + 220) f) ∧ (kdr r = 0 → mA R' (X + 263) f = mA Q (X + 217) f ∧ mA Q (X + 218) f = 2) := by
    intro f hf
    obtain ⟨b1, b1', wy, ln, tv, sd, y1, y2, y3, y4, y5, y6⟩ := pc7 f hf
    obtain ⟨b2, b2', wy', ln', tv', sd', w1, w2, w3, w4, w5, w6⟩ := pr3 f hf
    have eb : b2 = b1 := Option.some.inj (w1.symm.trans y1)
    subst eb
    have ef := Option.some.inj (w2.symm.trans y2)
    obtain ⟨e1, e2'⟩ := Prod.mk.inj ef
    obtain ⟨e2', e3'⟩ := Prod.mk.inj e2'
    obtain ⟨e3', e4'⟩ := Prod.mk.inj e3'
    obtain ⟨e4', e5'⟩ := Prod.mk.inj e4'
    subst e1; subst e2'; subst e3'; subst e4'; subst e5'
    obtain ⟨v1, v2, v3⟩ := fl_wy y2
    have q1 : (mA Q (X + 218) f = 1) → wy' = 1 := fun q => (nI_eq (b := 1) (by omega) (by decide)).mp (y3.symm.trans q)
    have q2 : (mA Q (X + 218) f = 2) → wy' = 2 := fun q => (nI_eq (b := 2) (by omega) (by decide)).mp (y3.symm.trans q)
    refine ⟨w3.trans y3.symm, fun q => ⟨(w4 (q1 q)).trans y4.symm, ln', by rw [wQ]; exact v2 (q1 q), y4⟩, fun q => ?_, fun q => ⟨(w6 q).trans (y6 q).symm, ?_⟩⟩
    · refine (w5 ?_).trans y5.symm
      rcases q with q | q
      · rw [q1 q]; decide
      · rw [q2 q]; decide
    · rw [y3, v3 q]; rfl
  have rc : RC Q R' X p i w (kdr r) (ror r) (rdv r a' 8) := by
    refine ⟨⟨SR, fun o ho => funext fun j => ?_, fun o ho => funext fun j => ?_, ?_⟩, fun f hf => (dat f hf).1, fun f hf => (dat f hf).2.1, fun f hf => (dat f hf).2.2.1, fun q f hf => (dat f hf).2.2.2 q, pr1, ?_, fun q => pr2 (by omega), fun o ho => ?_, fun f hf => ⟨?_, ?_⟩⟩
    · rw [aR o j (by omega) (by omega), qA _ _ (by unfold ScA; omega) (by omega)]
    · rw [bR o j (by omega) (by omega), qB _ _ (by unfold ScB; omega) (by omega)]
    · rw [iR _ (by unfold ScI; omega) (by decide), qI _ _ (by unfold ScI; omega) (by omega)]
    · rw [iR _ (by unfold ScI; omega) (by decide)]; exact hW.2.1
    · rw [aR o i (by omega) (by omega), qA _ _ (by unfold ScA; omega) (by omega)]
    · rw [aR 255 _ (by decide) (by decide), qA _ _ (by unfold ScA; omega) (by omega)]
    · rw [bR 256 _ (by decide) (by decide), qB _ _ (by unfold ScB; omega) (by omega)]
  obtain ⟨R2, t1, t2, t3, t4, t5⟩ := x5 R' rc
  have S2 : St R2 X := St_Ag hN (t2 _ 0) SR
  have eo : f_X11_opened (rs R0 X 22 0 g0 g1 g3 h2) (X + 226) (nI l) (nI (kdr r)) (nI i) (nI (nur r)) = some (R2, v) := by
    unfold f_X11_opened
    rw [if_pos (k_226 (St_rs V0.1)), f1, ob_eq, gi_226 SR, ob_eq, f4, f6, if_pos rfl]
    exact t1
  have A2 : Ag X (z n) n (TId X i (lA z l)) (TAd X i l) (TBd X i) M1 R2 := by
    have y1 : Ag X (z n) n (TId X i (lA z l)) (TAd X i l) (TBd X i) M1 R' := (AR _ _).of0
    exact y1.tr' ((t2 _ _).wk (fun nu a q => by unfold TIh at q; unfold TId; omega) (fun a j q => by unfold TAh at q; unfold TAd; omega) (fun a j q => by unfold TBh at q; unfold TBd; omega))
  have A : Ag X (z n) n (TId X i (lA z l)) (TAd X i l) (TBd X i) M (sU R2 (X + 245) l v) := (A1.tr' A2).cU (Or.inr (Or.inr (Or.inl ⟨rfl, rfl⟩)))
  have h9 : mA (sU R2 (X + 245) l v) (X + 245) l = mI (sU R2 (X + 245) l v) 405 (lA z l) := by
    rw [mA_sUi, mI_sU, (t2 (z n) n).1 _ _ (by unfold ScI; omega) (by unfold TIh; omega) hA.2, (AR (z n) n).1 _ _ (by unfold ScI; omega) (fun q => q) hA.2]
    exact i405.symm
  refine ⟨E, v, sU R2 (X + 245) l v, x1, kE, ?_, ?_⟩
  · rw [hM1, e1, if_pos (show nI (kdr r) ≤ 5 from nI_le (b := 5) (by omega) (by decide)), if_pos (show nI (kdr r) ≤ 2 from nI_le (b := 2) c2 (by decide)), hii, eo, ob2_eq, fin_eq2 S2 (by omega)]
  rcases x4 with ⟨v0, fc⟩ | ⟨vn, aT⟩
  rotate_left
  · refine inv_dlv0 H hl ?_ h9
    have y0 : Ag X (z n) n (fun num a => num = 405 ∧ a = lA z l) (fun a j => a = X + 245 ∧ j = l) T0 M E := (AQ _ _).of0.tr' (aT _ _).of0
    have y1 : Ag X (z n) n (fun num a => num = 405 ∧ a = lA z l) (fun a j => a = X + 245 ∧ j = l) T0 M M1 := by
      rw [← hM1]
      exact y0.cI (Or.inr (Or.inl ⟨rfl, rfl⟩))
    exact ((y1.tr' (AR _ _).of0).tr' (t5 vn _ _).of0).cU (Or.inr (Or.inr ⟨rfl, rfl⟩))
  · obtain ⟨fc1, fc2, fc3, fc4, fc5, fc6, fc7, fc8, fc9, fc10, fc11⟩ := fc
    obtain ⟨fr1, fr2, fr3, fr4, fr5, fr6, fr7, fr8⟩ := t4 v0
    have cI : ∀ nu a, ¬ ScI X nu a → ¬ nu = 405 → a < X + 226 → mI (sU R2 (X + 245) l v) nu a = mI E nu a := fun nu a s q lt => by
      rw [mI_sU, (t2 (z n) n).1 _ _ s (by unfold TIh; omega) (by omega), (AR (z n) n).1 _ _ s (fun q => q) (by omega), iE _ _ q]
    have cA : ∀ a j, ¬ ScA X a → a < X + 226 → mA (sU R2 (X + 245) l v) a j = mA E a j := fun a j s lt => by
      rw [mA_sUx (by omega), (t2 (z n) n).2.1 _ _ s (by unfold TAh; omega) (by omega), (AR (z n) n).2.1 _ _ s (fun q => q) (by omega), mAE]
    have cB : ∀ a j, ¬ ScB X a → a < X + 226 → mB (sU R2 (X + 245) l v) a j = mB E a j := fun a j s lt => by
      rw [mB_sU, (t2 (z n) n).2.2.1 _ _ s (by unfold TBh; omega) (by omega), (AR (z n) n).2.2.1 _ _ s (fun q => q) (by omega), mBE]
    refine inv_dlv H hl hi A ?_ ?_ ?_ h9
    · have B : Ag X (z n) n (fun nu a => (nu = 405 ∧ a = lA z l) ∨ TIg X i nu a ∨ TIh X nu a) (fun a j => (a = X + 245 ∧ j = l) ∨ TAg X i a j ∨ TAh X i a j) (fun a j => TBg X i a j ∨ TBh X i a j) M (sU R2 (X + 245) l v) := by
        have y0 : Ag X (z n) n (fun nu a => (nu = 405 ∧ a = lA z l) ∨ TIg X i nu a ∨ TIh X nu a) (fun a j => (a = X + 245 ∧ j = l) ∨ TAg X i a j ∨ TAh X i a j) (fun a j => TBg X i a j ∨ TBh X i a j) M E := (AQ _ _).of0.tr' ((x2 _ _).wk (fun _ _ q => Or.inr (Or.inl q)) (fun _ _ q => Or.inr (Or.inl q)) (fun _ _ q => Or.inl q))
        have y1 : Ag X (z n) n (fun nu a => (nu = 405 ∧ a = lA z l) ∨ TIg X i nu a ∨ TIh X nu a) (fun a j => (a = X + 245 ∧ j = l) ∨ TAg X i a j ∨ TAh X i a j) (fun a j => TBg X i a j ∨ TBh X i a j) M M1 := by
          rw [← hM1]
          exact y0.cI (Or.inr (Or.inl (Or.inl ⟨rfl, rfl⟩)))
        exact ((y1.tr' (AR _ _).of0).tr' ((t2 _ _).wk (fun _ _ q => Or.inr (Or.inr q)) (fun _ _ q => Or.inr (Or.inr q)) (fun _ _ q => Or.inr q))).cU (Or.inr (Or.inr (Or.inl ⟨rfl, rfl⟩)))
      refine tr_Q hN p8 w8 hi B (hQ i hi) ?_ ?_ ?_
      · intro nu a q; unfold TIg TIh aCx aCh at q; unfold aSq aHd; omega
      · intro a j q; unfold TAg TAh aCs at q; unfold aSt; omega
      · intro a j q; unfold TBg TBh aCv at q; unfold aHv; omega
    · refine ⟨?_, Or.inr ⟨?_, by omega, ⟨nur r, u16, ?_, ?_⟩, ⟨ror r, r16, ?_, ?_⟩, fun f hf => ⟨?_, ?_⟩⟩⟩
      · rw [cI _ _ (by unfold ScI; omega) (by decide) (by omega), mA_sUx (by omega), fr3]; exact fc9
      · rw [mA_sUx (by omega)]; exact fr3
      · rw [cI _ _ (by unfold ScI aCh; omega) (by decide) (by omega)]; exact fc8
      · rw [mA_sUx (by omega)]; exact fr4
      · rw [cI _ _ (by unfold ScI; omega) (by decide) (by omega)]; exact fc10
      · rw [mA_sUx (by omega)]; exact fr2
      · rw [mA_sUx (by omega), (fr1 f hf).2.2.2, cA _ _ (by unfold ScA; omega) (by omega), fc11 f hf]
      · rw [cB (aCv X i) f (by unfold ScB; omega) (by omega), fc7 f hf, mB_sU]; exact (fr1 f hf).2.2.1
    · refine ⟨?_, Or.inr ⟨by omega, ?_, ?_, ?_, fun f hf => ⟨?_, ?_⟩⟩⟩
      · rw [cI _ _ (by unfold ScI; omega) (by decide) (by omega), fc6, mI_sU, fr8, iR _ (by unfold ScI; omega) (by decide), qI _ _ (by unfold ScI; omega) (by omega)]
        rw [hG.1]
      · rw [cI _ _ (by unfold ScI; omega) (by decide) (by omega), fc4, mI_sU, fr5]
      · rw [cI _ _ (by unfold ScI; omega) (by decide) (by omega), fc2, mI_sU, fr6]
      · rw [cI _ _ (by unfold ScI; omega) (by decide) (by omega), fc5, mI_sU, fr7]
      · rw [mB_sU, (fr1 f hf).1, ← mB_sU R2 (X + 245) l v, cB _ _ (by unfold ScB; omega) (by omega), fc1 f hf]
      · rw [mA_sUx (by omega), (fr1 f hf).2.1, cA _ _ (by unfold ScA; omega) (by omega), fc3 f hf]
theorem op_deliver {M : Mm} {X p n w : Nat} {z : Nat → Nat} (H : Inv M X p n w z) (a : Int32) : ∃ M1 M2 r, f_X10_deliver M X a = some (M1, r) ∧ f_X11_deliver M1 (X + 226) a = some (M2, r) ∧ Inv M2 X p n w z := by
  obtain ⟨hS, hW, hP, hD, hC, hQ, hX, hZ, hL, hG, hH, hT⟩ := id H
  have hN := z_ge hZ n (Nat.le_refl _)
  have d10 : ¬ (1 : Int32) = 0 := by decide
  have h200 := hC.1
  have hSt : St (sI M 1100 (X + 226) 0) X := St_sI hS
  have Ht := inv_thr (v := 0) H
  obtain ⟨-, -, -, -, hC', -, -, -, hL', -⟩ := id Ht
  rcases ix_cases a (n := n) (by omega) with h | ⟨l, hl, rfl⟩
  · refine ⟨M, _, -1, ?_, ?_, Ht⟩
    · unfold f_X10_deliver
      rw [if_pos (k_0 hS), (uw_out hS hC h).1, ob_eq, nm_none]
    · unfold f_X11_deliver
      rw [if_pos (k_226 hS), pi_226 hS, ob_eq, (uw_out hSt hC' h).2, ob_eq, if_pos rfl]
  by_cases q0 : mA M (X + 246) l = 0
  rotate_left
  · refine ⟨M, _, -1, ?_, ?_, Ht⟩
    · unfold f_X10_deliver
      rw [if_pos (k_0 hS), (uw hS hC (hL l hl) hl).1, if_neg q0, ob_eq, nm_none]
    · unfold f_X11_deliver
      rw [if_pos (k_226 hS), pi_226 hS, ob_eq, (uw hSt hC' (hL' l hl) hl).2, mA_sI, if_neg q0, ob_eq, if_pos rfl]
  have z1 := z_ge hZ l (by omega)
  have z2 := hZ.2.1 l hl
  have z3 := z_mo hZ (l := l + 1) (m := n) (by omega) (Nat.le_refl _)
  have hA : X + 270 ≤ lA z l ∧ lA z l < z n ∧ X + 270 ≤ lB z l := by unfold lA lB; omega
  obtain ⟨h1, h2, h3, h4, h5, h6, h7, h8, h9, h10, h11, h12, h13, ⟨len, b1, b2, b3, b4, b5⟩, h15⟩ := id (hL l hl)
  obtain ⟨r, hr⟩ : ∃ r : Nat → Nat, ∀ q, q < len → r q < 256 ∧ mA M (lB z l) q = nI (r q) ∧ mA M (X + 240) (64 * l + q) = nI (r q) :=
    ⟨fun q => (mA M (lB z l) q).toNatClampNeg, fun q hq => by
      obtain ⟨b, c1, c2, c3⟩ := b5 q hq
      have e : (mA M (lB z l) q).toNatClampNeg = b := by rw [c2]; exact nI_clamp (by omega)
      dsimp only
      rw [e]
      exact ⟨c1, c2, c3⟩⟩
  obtain ⟨Q, v0, e1, e2, e3, e4⟩ := parse_c hS hP h4 b3 b1 b2 hA.2.2 (fun q hq => ⟨(hr q hq).1, (hr q hq).2.1⟩)
  have SQ : St Q X := St_Ag hN (e2 _ 0) hS
  have kQ : mK Q (lA z l) = 5 := by rw [((e2 (z n) n).2.2.2.1 _ hA.2.1).1]; exact h2
  rcases e4 with ⟨rfl, gp, pc⟩ | ⟨rfl, ng⟩
  rotate_left
  · have eo : f_X10_outcomeOf M X (lB z l) = some (Q, 5) := by
      unfold f_X10_outcomeOf
      rw [if_pos (k_0 hS), r_0_1008 hS, ob_eq, r_0_1001 hS, ob_eq, e1, ob2_eq, if_pos rfl]
    have A1 : Ag X (z n) n (fun num a => num = 405 ∧ a = lA z l) T0 T0 M (sI Q 405 (lA z l) 5) := (e2 _ _).of0.cI (Or.inr (Or.inl ⟨rfl, rfl⟩))
    obtain ⟨M2, f1, f2⟩ := dl_brk H hl A1 q0 (by rw [mI_sI, if_pos rfl, if_pos rfl]) b1 b2 b4 (fun q hq => ⟨(hr q hq).1, (hr q hq).2.2⟩) ng
    exact ⟨_, M2, 5, dl_cls (Q := Q) H hl q0 eo kQ, f1, f2⟩
  have hi : flr r < 8 := rdv_lt 3
  have k8 : kdr r < 8 := rdv_lt 3
  obtain ⟨pc1, pc2, pc3, -⟩ := id pc
  have base : f_X10_outcomeOf M X (lB z l) = if nI (kdr r) ≤ 2 then ob2 (f_X10_open Q X (aCx X (flr r))) (fun M20 v21 => some (M20, v21)) else ob2 (f_X9_heed Q (aSq X (flr r)) (nI (kdr r)) (nI (nur r))) (fun M32 v33 => some (M32, v33)) := by
    unfold f_X10_outcomeOf
    rw [if_pos (k_0 hS), r_0_1008 hS, ob_eq, r_0_1001 hS, ob_eq, e1, ob2_eq, if_neg d10, r_0_1008 SQ, ob_eq, gi_214 SQ, ob_eq, pc2, (fl_in hi).1, ob_eq, if_neg d10, ob_eq, gi_214 SQ, ob_eq, pc1, r_0_1004 SQ, ob_eq, ob_eq, gi_214 SQ, ob_eq, pc2, q_cx SQ hi, ob_eq, r_0_1003 SQ, ob_eq, ob_eq, gi_214 SQ, ob_eq, pc2, q_sq SQ hi, ob_eq, ob_eq, gi_214 SQ, ob_eq, pc1, ob_eq, r_214_0 SQ, ob_eq, gi_215 SQ, ob_eq, pc3]
  by_cases c2 : kdr r ≤ 2
  · obtain ⟨E, v, M2, f1, f2, f3, f4⟩ := dl_opn H hl e2 q0 b1 b2 b4 (fun q hq => ⟨(hr q hq).1, (hr q hq).2.2⟩) c2 gp pc
    have eo : f_X10_outcomeOf M X (lB z l) = some (E, v) := by
      rw [base, if_pos (show nI (kdr r) ≤ 2 from nI_le (b := 2) c2 (by decide)), f1, ob2_eq]
    exact ⟨_, M2, v, dl_cls (Q := Q) H hl q0 eo (f2.trans h2), f3, f4⟩
  · obtain ⟨E, v, M2, f1, f2, f3, f4⟩ := dl_ans H hl e2 q0 b1 b2 b4 (fun q hq => ⟨(hr q hq).1, (hr q hq).2.2⟩) gp.1 c2 (gp.2.2 (by omega))
    have eo : f_X10_outcomeOf M X (lB z l) = some (E, v) := by
      rw [base, if_neg (show ¬ nI (kdr r) ≤ 2 from nI_ge (a := 2) (by omega) (by omega)), f1, ob2_eq]
    exact ⟨_, M2, v, dl_cls (Q := Q) H hl q0 eo (f2.trans h2), f3, f4⟩
