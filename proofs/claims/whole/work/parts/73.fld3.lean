section RFld2
variable {M R : Mm} {X a n l len k f p : Nat} {br : Int32} {g0 g1 g3 : Nat → Int32} {h2 : Nat → Int64} {r : Nat → Nat}
/-- a value that stands there -/
theorem vl_ok {K : Mm → Nat → Int32 → Int32 → Int32 → Option Mm} (V : RV X M R) (hP : IP M X p) (hB : RB R X l len r) (hf : f < p) (k2 : k ≤ 2) (g2 : g0 f = 2) (h1 : a + wdx M X f ≤ 8 * len) (h8 : k = 0 ∧ rub M X f = true → a + wdx M X f + 8 ≤ 8 * len) : f_X11_takeFields_J167 K (rs R X a 0 g0 g1 g3 h2) (X + 226) (nI l) (nI k) (nI f) = K (rs R X (if k = 0 ∧ rub M X f = true then a + wdx M X f + 8 else a + wdx M X f) 0 g0 g1 (if k = 0 ∧ rub M X f = true then va_up g3 f (nI (rdv r (a + wdx M X f) 8)) else g3) (va_up h2 f (lN (rdv r a (wdx M X f))))) (X + 226) (nI l) (nI k) (nI (f + 1)) := by
  have p8 := hP.1
  have w := (wd_in hP hf).1
  rw [j167_2 V hP hB hf g2, tk_ok V.1 hB (by omega) h1, ob2_eq, wj_262 (St_rs V.1) (by omega), ob_eq, rs_b2, rs_2, j219 V hP hB hf k2]
  by_cases c : k = 0 ∧ rub M X f = true
  · have e8 : f_X11_take (rs R X (a + wdx M X f) 0 g0 g1 g3 (va_up h2 f (lN (rdv r a (wdx M X f))))) (X + 226) (nI l) 8 = _ := tk_ok (n := 8) V.1 hB (by decide) (h8 c)
    rw [if_pos c, if_pos c, if_pos c, e8, ob2_eq, lN_i, wi_263 (St_rs V.1) (by omega), ob_eq, rs_a3, rs_3]
  · rw [if_neg c, if_neg c, if_neg c]
theorem vl_bad {K : Mm → Nat → Int32 → Int32 → Int32 → Option Mm} (V : RV X M R) (hP : IP M X p) (hB : RB R X l len r) (hf : f < p) (k2 : k ≤ 2) (g2 : g0 f = 2) (ha : a ≤ 8 * len) (h : 8 * len < a + wdx M X f ∨ ((k = 0 ∧ rub M X f = true) ∧ 8 * len < a + wdx M X f + 8)) : ∃ a' k3 kk2, a' ≤ 8 * len ∧ f_X11_takeFields_J167 K (rs R X a 0 g0 g1 g3 h2) (X + 226) (nI l) (nI k) (nI f) = K (rs R X a' 1 g0 g1 k3 kk2) (X + 226) (nI l) (nI k) (nI (f + 1)) := by
  have p8 := hP.1
  have w := (wd_in hP hf).1
  by_cases c1 : 8 * len < a + wdx M X f
  · rw [j167_2 V hP hB hf g2, tk_no V.1 hB (by omega) ha c1, ob2_eq, wj_262 (St_rs V.1) (by omega), ob_eq, rs_b2, rs_2, j219 V hP hB hf k2]
    by_cases c : k = 0 ∧ rub M X f = true
    · obtain ⟨a', v, l1, e8⟩ := tk_br (a := 8 * len) (n := 8) (g0 := g0) (g1 := g1) (g3 := g3) (h2 := va_up h2 f 0) V.1 hB (by decide) (Nat.le_refl _)
      have e8' : f_X11_take (rs R X (8 * len) 1 g0 g1 g3 (va_up h2 f 0)) (X + 226) (nI l) 8 = _ := e8
      rw [if_pos c, e8', ob2_eq, wi_263 (St_rs V.1) (by omega), ob_eq, rs_3]
      exact ⟨_, _, _, l1, rfl⟩
    · rw [if_neg c]
      exact ⟨_, _, _, Nat.le_refl _, rfl⟩
  · obtain ⟨c, c2⟩ := h.resolve_left c1
    have e8 : f_X11_take (rs R X (a + wdx M X f) 0 g0 g1 g3 (va_up h2 f (lN (rdv r a (wdx M X f))))) (X + 226) (nI l) 8 = _ := tk_no (n := 8) V.1 hB (by decide) (by omega) c2
    rw [j167_2 V hP hB hf g2, tk_ok V.1 hB (by omega) (by omega), ob2_eq, wj_262 (St_rs V.1) (by omega), ob_eq, rs_b2, rs_2, j219 V hP hB hf k2, if_pos c, e8, ob2_eq, wi_263 (St_rs V.1) (by omega), ob_eq, rs_3]
    exact ⟨_, _, _, Nat.le_refl _, rfl⟩
theorem fld_r (V : RV X M R) (hP : IP M X p) (hB : RB R X l len r) (hf : f < p) (k2 : k ≤ 2) (ha : a ≤ 8 * len) {fu : Nat} : (∀ a' wy ln tv sd, flS M X len r k f a = some (a', wy, ln, tv, sd) → a' ≤ 8 * len ∧ ∃ k0 k1 k3 kk2, f_X11_takeFields_L13 (fu + 1) (rs R X a 0 g0 g1 g3 h2) (X + 226) (nI l) (nI k) (nI f) = f_X11_takeFields_L13 fu (rs R X a' 0 k0 k1 k3 kk2) (X + 226) (nI l) (nI k) (nI (f + 1)) ∧ (∀ j, ¬ j = f → k0 j = g0 j ∧ k1 j = g1 j ∧ k3 j = g3 j ∧ kk2 j = h2 j) ∧ k0 f = nI wy ∧ (wy = 1 → k1 f = nI ln) ∧ (¬ wy = 0 → kk2 f = lN tv) ∧ (k = 0 → k3 f = nI sd)) ∧ (flS M X len r k f a = none → ∃ a' k0 k1 k3 kk2, a' ≤ 8 * len ∧ f_X11_takeFields_L13 (fu + 1) (rs R X a 0 g0 g1 g3 h2) (X + 226) (nI l) (nI k) (nI f) = f_X11_takeFields_L13 fu (rs R X a' 1 k0 k1 k3 kk2) (X + 226) (nI l) (nI k) (nI (f + 1))) := by
  have p8 := hP.1
  have w := (wd_in hP hf).1
  have d10 : ¬ (1 : Int32) = 0 := by decide
  have vb : ∀ {t : Nat}, t < 2 → ((lg_cmp (lN t) 1 = 0) ↔ t = 1) := by
    intro t ht
    rw [lgc_eq]
    exact pk_lEQ (b := 1) (by omega) (by decide)
  have up4 : ∀ {G0 G1 G3 : Nat → Int32} {H2 : Nat → Int64}, (∀ j, ¬ j = f → G0 j = g0 j) → (∀ j, ¬ j = f → G1 j = g1 j) → (∀ j, ¬ j = f → G3 j = g3 j) → (∀ j, ¬ j = f → H2 j = h2 j) → ∀ j, ¬ j = f → G0 j = g0 j ∧ G1 j = g1 j ∧ G3 j = g3 j ∧ H2 j = h2 j := fun a b c d j hj => ⟨a j hj, b j hj, c j hj, d j hj⟩
  unfold flS fldS
  rw [l13 V hP hf k2]
  by_cases c0 : k = 0 ∨ frb M X f = true
  · rw [if_pos c0, if_pos c0, j77_1 V hP hf]
    have nr : frb M X f = true → ¬ rub M X f = true := by
      intro h1 h2'
      have e4 : mA M (X + 2) f = 4 := of_decide_eq_true h1
      unfold rub at h2'
      rw [Bool.or_eq_true] at h2'
      rcases h2' with h | h
      · exact absurd (e4.symm.trans (of_decide_eq_true h)) (by decide)
      · exact absurd (e4.symm.trans (of_decide_eq_true h)) (by decide)
    have kr : rub M X f = true → k = 0 := fun q => c0.resolve_right (fun x => nr x q)
    by_cases c1 : a + wdx M X f ≤ 8 * len
    · rw [if_pos c1]
      by_cases q : rub M X f = true
      · have kq : k = 0 ∧ rub M X f = true := ⟨kr q, q⟩
        rw [if_pos q]
        by_cases c2 : a + wdx M X f + 8 ≤ 8 * len
        · rw [if_pos c2]
          refine ⟨fun a' wy ln tv sd e => ?_, fun e => absurd e (by intro h; cases h)⟩
          obtain ⟨e1, e2⟩ := Prod.mk.inj (Option.some.inj e)
          obtain ⟨e2, e3⟩ := Prod.mk.inj e2
          obtain ⟨e3, e4⟩ := Prod.mk.inj e3
          obtain ⟨e4, e5⟩ := Prod.mk.inj e4
          subst e1; subst e2; subst e3; subst e4; subst e5
          refine ⟨c2, va_up g0 f 2, va_up g1 f 0, va_up (va_up g3 f 1) f (nI (rdv r (a + wdx M X f) 8)), va_up h2 f (lN (rdv r a (wdx M X f))), ?_, up4 (fun j hj => vau_ne hj) (fun j hj => vau_ne hj) (fun j hj => (vau_ne hj).trans (vau_ne hj)) (fun j hj => vau_ne hj), vau_eq, fun x => absurd x (by decide), fun _ => vau_eq, fun _ => vau_eq⟩
          rw [vl_ok V hP hB hf k2 vau_eq c1 (fun _ => c2), if_pos kq, if_pos kq]
        · rw [if_neg c2]
          refine ⟨fun a' wy ln tv sd e => (by cases e), fun _ => ?_⟩
          obtain ⟨x1, x2, x3, y1, y2⟩ := vl_bad (K := f_X11_takeFields_L13 fu) (a := a) (g0 := va_up g0 f 2) (g1 := va_up g1 f 0) (g3 := va_up g3 f 1) (h2 := h2) V hP hB hf k2 vau_eq ha (Or.inr ⟨kq, by omega⟩)
          exact ⟨x1, _, _, x2, x3, y1, y2⟩
      · have kq : ¬ (k = 0 ∧ rub M X f = true) := fun x => q x.2
        rw [if_neg q]
        refine ⟨fun a' wy ln tv sd e => ?_, fun e => absurd e (by intro h; cases h)⟩
        obtain ⟨e1, e2⟩ := Prod.mk.inj (Option.some.inj e)
        obtain ⟨e2, e3⟩ := Prod.mk.inj e2
        obtain ⟨e3, e4⟩ := Prod.mk.inj e3
        obtain ⟨e4, e5⟩ := Prod.mk.inj e4
        subst e1; subst e2; subst e3; subst e4; subst e5
        refine ⟨c1, va_up g0 f 2, va_up g1 f 0, va_up g3 f 1, va_up h2 f (lN (rdv r a (wdx M X f))), ?_, up4 (fun j hj => vau_ne hj) (fun j hj => vau_ne hj) (fun j hj => vau_ne hj) (fun j hj => vau_ne hj), vau_eq, fun x => absurd x (by decide), fun _ => vau_eq, fun _ => vau_eq⟩
        rw [vl_ok V hP hB hf k2 vau_eq c1 (fun x => absurd x kq), if_neg kq, if_neg kq]
    · rw [if_neg c1]
      refine ⟨fun a' wy ln tv sd e => (by cases e), fun _ => ?_⟩
      obtain ⟨x1, x2, x3, y1, y2⟩ := vl_bad (K := f_X11_takeFields_L13 fu) (a := a) (g0 := va_up g0 f 2) (g1 := va_up g1 f 0) (g3 := va_up g3 f 1) (h2 := h2) V hP hB hf k2 vau_eq ha (Or.inl (by omega))
      exact ⟨x1, _, _, x2, x3, y1, y2⟩
  rw [if_neg c0, if_neg c0]
  have k0 : ¬ k = 0 := fun q => c0 (Or.inl q)
  have kq : ¬ (k = 0 ∧ rub M X f = true) := fun x => k0 x.1
  by_cases c1 : k = 1
  · rw [if_pos c1, if_pos c1]
    have k2n : ¬ (k = 2 ∧ rub M X f = true) := by omega
    by_cases c2 : a + 1 ≤ 8 * len
    · rw [if_pos c2]
      have e1 : f_X11_take (rs R X a 0 g0 (va_up g1 f 0) (va_up g3 f 1) h2) (X + 226) (nI l) 1 = _ := tk_ok (n := 1) V.1 hB (by decide) c2
      have hb := rdv_lt (r := r) (a := a) 1
      rw [e1, ob2_eq]
      by_cases c3 : rdv r a 1 = 1
      · rw [if_pos ((vb hb).mpr c3), if_pos c3, j77_1 V hP hf]
        by_cases c4 : a + 1 + wdx M X f ≤ 8 * len
        · rw [if_pos c4]
          refine ⟨fun a' wy ln tv sd e => ?_, fun e => absurd e (by intro h; cases h)⟩
          obtain ⟨e1, e2⟩ := Prod.mk.inj (Option.some.inj e)
          obtain ⟨e2, e3⟩ := Prod.mk.inj e2
          obtain ⟨e3, e4⟩ := Prod.mk.inj e3
          obtain ⟨e4, e5⟩ := Prod.mk.inj e4
          subst e1; subst e2; subst e3; subst e4; subst e5
          refine ⟨c4, va_up g0 f 2, va_up g1 f 0, va_up g3 f 1, va_up h2 f (lN (rdv r (a + 1) (wdx M X f))), ?_, up4 (fun j hj => vau_ne hj) (fun j hj => vau_ne hj) (fun j hj => vau_ne hj) (fun j hj => vau_ne hj), vau_eq, fun x => absurd x (by decide), fun _ => vau_eq, fun x => absurd x k0⟩
          rw [vl_ok V hP hB hf k2 vau_eq c4 (fun x => absurd x kq), if_neg kq, if_neg kq]
        · rw [if_neg c4]
          refine ⟨fun a' wy ln tv sd e => (by cases e), fun _ => ?_⟩
          obtain ⟨x1, x2, x3, y1, y2⟩ := vl_bad (K := f_X11_takeFields_L13 fu) (a := a + 1) (g0 := va_up g0 f 2) (g1 := va_up g1 f 0) (g3 := va_up g3 f 1) (h2 := h2) V hP hB hf k2 vau_eq c2 (Or.inl (by omega))
          exact ⟨x1, _, _, x2, x3, y1, y2⟩
      · rw [if_neg (fun q => c3 ((vb hb).mp q)), if_neg c3, j77_0 V hP hf k2n k2, j167_b V hP hf (Or.inl vau_eq), j219 V hP hB hf k2, if_neg kq]
        refine ⟨fun a' wy ln tv sd e => ?_, fun e => absurd e (by intro h; cases h)⟩
        obtain ⟨e1, e2⟩ := Prod.mk.inj (Option.some.inj e)
        obtain ⟨e2, e3⟩ := Prod.mk.inj e2
        obtain ⟨e3, e4⟩ := Prod.mk.inj e3
        obtain ⟨e4, e5⟩ := Prod.mk.inj e4
        subst e1; subst e2; subst e3; subst e4; subst e5
        exact ⟨c2, va_up g0 f 0, va_up g1 f 0, va_up g3 f 1, h2, rfl, up4 (fun j hj => vau_ne hj) (fun j hj => vau_ne hj) (fun j hj => vau_ne hj) (fun j hj => rfl), vau_eq, fun x => absurd x (by decide), fun x => absurd rfl x, fun x => absurd x k0⟩
    · rw [if_neg c2]
      refine ⟨fun a' wy ln tv sd e => (by cases e), fun _ => ?_⟩
      have e1 : f_X11_take (rs R X a 0 g0 (va_up g1 f 0) (va_up g3 f 1) h2) (X + 226) (nI l) 1 = _ := tk_no (n := 1) V.1 hB (by decide) ha (by omega)
      rw [e1, ob2_eq, if_neg (by decide), j77_0 V hP hf k2n k2, j167_b V hP hf (Or.inl vau_eq), j219 V hP hB hf k2, if_neg kq]
      exact ⟨_, _, _, _, _, Nat.le_refl _, rfl⟩
  rw [if_neg c1, if_neg c1]
  have kk : k = 2 := by omega
  subst kk
  by_cases q : rub M X f = true
  · rw [if_pos q, j77_s V hP hf q]
    by_cases c2 : a + 6 ≤ 8 * len
    · rw [if_pos c2]
      have e1 : f_X11_take (rs R X a 0 (va_up g0 f 1) (va_up g1 f 0) (va_up g3 f 1) h2) (X + 226) (nI l) 6 = _ := tk_ok (n := 6) V.1 hB (by decide) c2
      have hb := rdv_lt (r := r) (a := a) 6
      have V1 : RV X M (rs R X (a + 6) 0 (va_up g0 f 1) (va_up (va_up g1 f 0) f (nI (rdv r a 6))) (va_up g3 f 1) h2) := RV_rs V
      rw [e1, ob2_eq, lN_i, wi_261 (St_rs V.1) (by omega), ob_eq, rs_a1, rs_1, gi_226 V1.1, ob_eq, rs_i45, if_pos rfl, r_226_1147 V1.1, ob_eq, ai_261 V1.1 (by omega), ob_eq, rs_a1, vau_eq, r_226_1103 V1.1, ob_eq, wd_r V1 hP hf, ob_eq]
      by_cases c3 : rdv r a 6 ≤ wdx M X f
      · rw [if_pos (nI_le c3 (by omega)), if_pos c3]
        unfold f_X11_takeFields_J164
        rw [pZ_of (k_226 V1.1) (Or.inl rfl), ob_eq, rs_45, j167_1 V hP hB hf vau_eq vau_eq]
        by_cases c4 : a + 6 + rdv r a 6 ≤ 8 * len
        · rw [if_pos c4]
          refine ⟨fun a' wy ln tv sd e => ?_, fun e => absurd e (by intro h; cases h)⟩
          obtain ⟨e1, e2⟩ := Prod.mk.inj (Option.some.inj e)
          obtain ⟨e2, e3⟩ := Prod.mk.inj e2
          obtain ⟨e3, e4⟩ := Prod.mk.inj e3
          obtain ⟨e4, e5⟩ := Prod.mk.inj e4
          subst e1; subst e2; subst e3; subst e4; subst e5
          refine ⟨c4, va_up g0 f 1, va_up (va_up g1 f 0) f (nI (rdv r a 6)), va_up g3 f 1, va_up h2 f (lN (rdv r (a + 6) (rdv r a 6))), ?_, up4 (fun j hj => vau_ne hj) (fun j hj => (vau_ne hj).trans (vau_ne hj)) (fun j hj => vau_ne hj) (fun j hj => vau_ne hj), vau_eq, fun _ => vau_eq, fun _ => vau_eq, fun x => absurd x k0⟩
          rw [tk_ok V.1 hB (by omega) c4, ob2_eq, wj_262 (St_rs V.1) (by omega), ob_eq, rs_b2, rs_2, j219 V hP hB hf k2, if_neg kq]
        · rw [if_neg c4]
          refine ⟨fun a' wy ln tv sd e => (by cases e), fun _ => ?_⟩
          rw [tk_no V.1 hB (by omega) c2 (by omega), ob2_eq, wj_262 (St_rs V.1) (by omega), ob_eq, rs_b2, rs_2, j219 V hP hB hf k2, if_neg kq]
          exact ⟨_, _, _, _, _, Nat.le_refl _, rfl⟩
      · rw [if_neg (nI_ge (by omega) (by omega)), if_neg c3]
        refine ⟨fun a' wy ln tv sd e => (by cases e), fun _ => ?_⟩
        unfold f_X11_takeFields_J159 f_X11_takeFields_J164
        rw [pZ_of (k_226 V1.1) (Or.inr rfl), ob_eq, rs_45, j167_b V hP hf (Or.inr ⟨Or.inl vau_eq, rfl⟩), j219 V hP hB hf k2, if_neg kq]
        exact ⟨_, _, _, _, _, c2, rfl⟩
    · rw [if_neg c2]
      refine ⟨fun a' wy ln tv sd e => (by cases e), fun _ => ?_⟩
      have e1 : f_X11_take (rs R X a 0 (va_up g0 f 1) (va_up g1 f 0) (va_up g3 f 1) h2) (X + 226) (nI l) 6 = _ := tk_no (n := 6) V.1 hB (by decide) ha (by omega)
      have V1 : RV X M (rs R X (8 * len) 1 (va_up g0 f 1) (va_up (va_up g1 f 0) f (0 : Int64).toInt32) (va_up g3 f 1) h2) := RV_rs V
      rw [e1, ob2_eq, wi_261 (St_rs V.1) (by omega), ob_eq, rs_a1, rs_1, gi_226 V1.1, ob_eq, rs_i45, if_neg d10]
      unfold f_X11_takeFields_J159 f_X11_takeFields_J164
      rw [pZ_of (k_226 V1.1) (Or.inr rfl), ob_eq, rs_45, j167_b V hP hf (Or.inr ⟨Or.inl vau_eq, rfl⟩), j219 V hP hB hf k2, if_neg kq]
      exact ⟨_, _, _, _, _, Nat.le_refl _, rfl⟩
  · rw [if_neg q, j77_0 V hP hf (fun x => q x.2) k2, j167_b V hP hf (Or.inl vau_eq), j219 V hP hB hf k2, if_neg kq]
    refine ⟨fun a' wy ln tv sd e => ?_, fun e => absurd e (by intro h; cases h)⟩
    obtain ⟨e1, e2⟩ := Prod.mk.inj (Option.some.inj e)
    obtain ⟨e2, e3⟩ := Prod.mk.inj e2
    obtain ⟨e3, e4⟩ := Prod.mk.inj e3
    obtain ⟨e4, e5⟩ := Prod.mk.inj e4
    subst e1; subst e2; subst e3; subst e4; subst e5
    exact ⟨ha, va_up g0 f 0, va_up g1 f 0, va_up g3 f 1, h2, rfl, up4 (fun j hj => vau_ne hj) (fun j hj => vau_ne hj) (fun j hj => vau_ne hj) (fun j hj => rfl), vau_eq, fun x => absurd x (by decide), fun x => absurd rfl x, fun x => absurd x k0⟩
end RFld2
theorem rf_loop {M R : Mm} {X l len k p a0 : Nat} {g0 g1 g3 : Nat → Int32} {h2 : Nat → Int64} {r : Nat → Nat} (V : RV X M R) (hP : IP M X p) (hB : RB R X l len r) (k2 : k ≤ 2) (ha : a0 ≤ 8 * len) :
    ∃ a br k0 k1 k3 kk2, f_X11_takeFields_L13 1000 (rs R X a0 0 g0 g1 g3 h2) (X + 226) (nI l) (nI k) 0 = f_X11_takeFields_J251 (rs R X a br k0 k1 k3 kk2) (X + 226) (nI l) (nI k) ∧ a ≤ 8 * len ∧ ((br = 0 ∧ pos M X len r k a0 p = some a ∧ ∀ f, f < p → dtr M X len r k a0 k0 k1 k3 kk2 f) ∨ (br = 1 ∧ pos M X len r k a0 p = none)) := by
  have p8 := hP.1
  have nn : ∀ d f, f + d = p → pos M X len r k a0 f = none → pos M X len r k a0 p = none := by
    intro d
    induction d with
    | zero => intro f e h; rw [← e]; exact h
    | succ d ih => intro f e h; exact ih (f + 1) (by omega) (pos_nn h)
  have main : ∀ d f fu a br c0 c1 c3 c2, f + d = p → d < fu → a ≤ 8 * len → ((br = 0 ∧ pos M X len r k a0 f = some a ∧ ∀ f', f' < f → dtr M X len r k a0 c0 c1 c3 c2 f') ∨ (br = 1 ∧ pos M X len r k a0 f = none)) → ∃ a' br' k0 k1 k3 kk2, f_X11_takeFields_L13 fu (rs R X a br c0 c1 c3 c2) (X + 226) (nI l) (nI k) (nI f) = f_X11_takeFields_J251 (rs R X a' br' k0 k1 k3 kk2) (X + 226) (nI l) (nI k) ∧ a' ≤ 8 * len ∧ ((br' = 0 ∧ pos M X len r k a0 p = some a' ∧ ∀ f, f < p → dtr M X len r k a0 k0 k1 k3 kk2 f) ∨ (br' = 1 ∧ pos M X len r k a0 p = none)) := by
    intro d
    induction d with
    | zero =>
      intro f fu a br c0 c1 c3 c2 e1 e2 hl hI
      obtain ⟨fu, rfl⟩ : ∃ k, fu = k + 1 := ⟨fu - 1, by omega⟩
      have ef : f = p := by omega
      subst ef
      have V1 : RV X M (rs R X a br c0 c1 c3 c2) := RV_rs V
      refine ⟨a, br, c0, c1, c3, c2, ?_, hl, hI⟩
      rw [f_X11_takeFields_L13, gi_226 V1.1, ob_eq, V1.2.2.2, hP.2.2.1, if_pos (nI_le (Nat.le_refl _) (by omega))]
    | succ d ih =>
      intro f fu a br c0 c1 c3 c2 e1 e2 hl hI
      obtain ⟨fu, rfl⟩ : ∃ k, fu = k + 1 := ⟨fu - 1, by omega⟩
      have hf : f < p := by omega
      rcases hI with ⟨rfl, i2, i3⟩ | ⟨rfl, i2⟩
      · obtain ⟨t1, t2⟩ := fld_r (g0 := c0) (g1 := c1) (g3 := c3) (h2 := c2) (fu := fu) V hP hB hf k2 hl
        cases hq : flS M X len r k f a with
        | some q =>
          obtain ⟨a', wy, ln, tv, sd⟩ := q
          obtain ⟨l1, k0, k1, k3, kk2, s1, s2, s3, s4, s5, s6⟩ := t1 a' wy ln tv sd hq
          obtain ⟨x1, x2, x3, x4, x5, x6, y1, y2⟩ := ih (f + 1) fu a' 0 k0 k1 k3 kk2 (by omega) (by omega) l1 (Or.inl ⟨rfl, pos_s i2 hq, fun f' hf' => by
            by_cases e : f' = f
            · subst e
              exact ⟨a, a', wy, ln, tv, sd, i2, hq, s3, s4, s5, s6⟩
            · obtain ⟨b1, b2, b3, b4, b5, b6, z1, z2, z3, z4, z5, z6⟩ := i3 f' (by omega)
              obtain ⟨w1, w2, w3, w4⟩ := s2 f' e
              exact ⟨b1, b2, b3, b4, b5, b6, z1, z2, w1.trans z3, fun q => w2.trans (z4 q), fun q => w4.trans (z5 q), fun q => w3.trans (z6 q)⟩⟩)
          exact ⟨x1, x2, x3, x4, x5, x6, s1.trans y1, y2⟩
        | none =>
          obtain ⟨a', k0, k1, k3, kk2, l1, s1⟩ := t2 hq
          obtain ⟨x1, x2, x3, x4, x5, x6, y1, y2⟩ := ih (f + 1) fu a' 1 k0 k1 k3 kk2 (by omega) (by omega) l1 (Or.inr ⟨rfl, pos_n i2 hq⟩)
          exact ⟨x1, x2, x3, x4, x5, x6, s1.trans y1, y2⟩
      · have V1 : RV X M (rs R X a 1 c0 c1 c3 c2) := RV_rs V
        refine ⟨a, 1, c0, c1, c3, c2, ?_, hl, Or.inr ⟨rfl, nn (d + 1) f e1 i2⟩⟩
        rw [f_X11_takeFields_L13, gi_226 V1.1, ob_eq, V1.2.2.2, hP.2.2.1, if_neg (nI_ge hf (by omega)), gi_226 V1.1, ob_eq, rs_i45, if_neg (by decide)]
  exact main p 0 1000 a0 0 g0 g1 g3 h2 (by omega) (by omega) ha (Or.inl ⟨rfl, rfl, fun f' hf' => absurd hf' (Nat.not_lt_zero _)⟩)
