/-! The fields of a letter that arrives: what stands there, and the class's reading of it. -/
abbrev Fr : Type := Nat × Nat × Nat × Nat × Nat
def fldS (E : Nat) (r : Nat → Nat) (k w : Nat) (run fr : Bool) (a : Nat) : Option Fr :=
  if k = 0 ∨ fr = true then (if a + w ≤ E then (if run then (if a + w + 8 ≤ E then some (a + w + 8, 2, w, rdv r a w, rdv r (a + w) 8) else none) else some (a + w, 2, w, rdv r a w, 1)) else none)
  else if k = 1 then (if a + 1 ≤ E then (if rdv r a 1 = 1 then (if a + 1 + w ≤ E then some (a + 1 + w, 2, w, rdv r (a + 1) w, 1) else none) else some (a + 1, 0, 0, 0, 1)) else none)
  else if run then (if a + 6 ≤ E then (if rdv r a 6 ≤ w then (if a + 6 + rdv r a 6 ≤ E then some (a + 6 + rdv r a 6, 1, rdv r a 6, rdv r (a + 6) (rdv r a 6), 1) else none) else none) else none)
  else some (a, 0, 0, 0, 1)
def frb (M : Mm) (X f : Nat) : Bool := decide (mA M (X + 2) f = 4)
def flS (M : Mm) (X len : Nat) (r : Nat → Nat) (k f a : Nat) : Option Fr := fldS (8 * len) r k (wdx M X f) (rub M X f) (frb M X f) a
section Fld
variable {M : Mm} {X a n B len k f p : Nat} {br : Int32} {g7 g8 g9 : Nat → Int32} {h0 : Nat → Int64} {r : Nat → Nat}
theorem rv_ok (hS : St M X) (hB : BR M X B len r) (hn : n < 64) (ha : a + n ≤ 8 * len) (hf : f < 8) {wy : Int32} : f_X0_readValue (cs M X a 0 g7 g8 g9 h0) (X + 214) (nI f) wy (nI n) = some (cs M X (a + n) 0 g7 (va_up g8 f wy) (va_up g9 f (nI n)) (va_up h0 f (lN (rdv r a n)))) := by
  have S0 : St (cs M X a 0 g7 g8 g9 h0) X := St_cs hS
  have S1 : St (cs M X a 0 g7 (va_up g8 f wy) g9 h0) X := St_cs hS
  have S2 : St (cs M X a 0 g7 (va_up g8 f wy) (va_up g9 f (nI n)) h0) X := St_cs hS
  have S3 : St (cs M X (a + n) 0 g7 (va_up g8 f wy) (va_up g9 f (nI n)) h0) X := St_cs hS
  unfold f_X0_readValue
  rw [if_pos (k_214 S0), r_214_2 S0, ob_eq, wi_218 S0 hf, ob_eq, cs_a8, cs_8, r_214_3 S1, ob_eq, wi_219 S1 hf, ob_eq, cs_a9, cs_9, r_214_4 S2, ob_eq, rd_ok hS hB hn ha, ob2_eq, wj_220 S3 hf, ob_eq, cs_b0, cs_0]
theorem rv_bad (hS : St M X) (hB : BR M X B len r) (hn : n < 64) (h : br = 1 ∨ (br = 0 ∧ a ≤ 8 * len ∧ 8 * len < a + n)) (hf : f < 8) {wy : Int32} : f_X0_readValue (cs M X a br g7 g8 g9 h0) (X + 214) (nI f) wy (nI n) = some (cs M X a 1 g7 (va_up g8 f wy) (va_up g9 f (nI n)) (va_up h0 f 0)) := by
  have S0 : St (cs M X a br g7 g8 g9 h0) X := St_cs hS
  have S1 : St (cs M X a br g7 (va_up g8 f wy) g9 h0) X := St_cs hS
  have S2 : St (cs M X a br g7 (va_up g8 f wy) (va_up g9 f (nI n)) h0) X := St_cs hS
  have S3 : St (cs M X a 1 g7 (va_up g8 f wy) (va_up g9 f (nI n)) h0) X := St_cs hS
  have e : f_X0_read (cs M X a br g7 (va_up g8 f wy) (va_up g9 f (nI n)) h0) (X + 214) (nI n) = some (cs M X a 1 g7 (va_up g8 f wy) (va_up g9 f (nI n)) h0, 0) := by
    rcases h with h | ⟨h, h1, h2⟩
    · subst h; exact rd_br hS
    · subst h; exact rd_no hS hB hn h1 h2
  unfold f_X0_readValue
  rw [if_pos (k_214 S0), r_214_2 S0, ob_eq, wi_218 S0 hf, ob_eq, cs_a8, cs_8, r_214_3 S1, ob_eq, wi_219 S1 hf, ob_eq, cs_a9, cs_9, r_214_4 S2, ob_eq, e, ob2_eq, wj_220 S3 hf, ob_eq, cs_b0, cs_0]
theorem cs_wd (hS : St M X) (hP : IP M X p) (hf : f < p) : aI (cs M X a br g7 g8 g9 h0) (X + 3) (nI f) = some (nI (wdx M X f)) := by
  have p8 := hP.1
  rw [ai_3 (St_cs hS) (by omega), cs_A (by omega) (by omega) (by omega), (wd_in hP hf).2]
theorem cs_hs (hS : St M X) (hP : IP M X p) (hf : f < p) : f_X6_hasStride (cs M X a br g7 g8 g9 h0) (X + 1) (nI f) = some (if rub M X f then 1 else 0) := by
  have p8 := hP.1
  rw [hs_in (St_cs hS) (by rw [cs_I (by decide) (by decide)]; exact hP.2.1) p8 hf, cs_A (by omega) (by omega) (by omega), rub_if]
theorem j27_ok (hS : St M X) (hP : IP M X p) (hB : BR M X B len r) (hf : f < p) (h1 : a + wdx M X f ≤ 8 * len) (h2 : rub M X f = true → a + wdx M X f + 8 ≤ 8 * len) : f_X0_readField_J27 (cs M X a 0 g7 g8 g9 h0) (X + 214) (X + 1) (nI f) = some (cs M X (if rub M X f then a + wdx M X f + 8 else a + wdx M X f) 0 (va_up g7 f (if rub M X f then nI (rdv r (a + wdx M X f) 8) else 1)) (va_up g8 f 2) (va_up g9 f (nI (wdx M X f))) (va_up h0 f (lN (rdv r a (wdx M X f))))) := by
  have p8 := hP.1
  have w := (wd_in hP hf).1
  unfold f_X0_readField_J27
  rw [r_1_601 (St_cs hS), ob_eq, cs_wd hS hP hf, ob_eq, rv_ok hS hB (by omega) h1 (by omega), ob_eq, r_214_1 (St_cs hS), ob_eq, cs_hs hS hP hf, ob_eq]
  by_cases q : rub M X f = true
  · have e8 : f_X0_read (cs M X (a + wdx M X f) 0 g7 (va_up g8 f 2) (va_up g9 f (nI (wdx M X f))) (va_up h0 f (lN (rdv r a (wdx M X f))))) (X + 214) 8 = _ := rd_ok (n := 8) hS hB (by decide) (h2 q)
    rw [if_pos q, if_neg (by decide), e8, ob2_eq, lN_i, wi_217 (St_cs hS) (by omega), ob_eq, cs_a7, cs_7, if_pos q, if_pos q]
  · rw [if_neg q, if_pos rfl, wi_217 (St_cs hS) (by omega), ob_eq, cs_a7, cs_7, if_neg q, if_neg q]
theorem j27_bad (hS : St M X) (hP : IP M X p) (hB : BR M X B len r) (hf : f < p) (h : br = 1 ∨ (br = 0 ∧ a ≤ 8 * len ∧ (8 * len < a + wdx M X f ∨ (rub M X f = true ∧ 8 * len < a + wdx M X f + 8)))) : ∃ a' k7 k8 k9 k0, f_X0_readField_J27 (cs M X a br g7 g8 g9 h0) (X + 214) (X + 1) (nI f) = some (cs M X a' 1 k7 k8 k9 k0) := by
  have p8 := hP.1
  have w := (wd_in hP hf).1
  have main : ∀ a'' c8 c9 c0, f_X0_readValue (cs M X a br g7 g8 g9 h0) (X + 214) (nI f) 2 (nI (wdx M X f)) = some (cs M X a'' 1 g7 c8 c9 c0) → ∃ a' k7 k8 k9 k0, f_X0_readField_J27 (cs M X a br g7 g8 g9 h0) (X + 214) (X + 1) (nI f) = some (cs M X a' 1 k7 k8 k9 k0) := by
    intro a'' c8 c9 c0 e
    have e8 : f_X0_read (cs M X a'' 1 g7 c8 c9 c0) (X + 214) 8 = _ := rd_br (n := 8) hS
    unfold f_X0_readField_J27
    rw [r_1_601 (St_cs hS), ob_eq, cs_wd hS hP hf, ob_eq, e, ob_eq, r_214_1 (St_cs hS), ob_eq, cs_hs hS hP hf, ob_eq]
    by_cases q : rub M X f = true
    · rw [if_pos q, if_neg (by decide), e8, ob2_eq, wi_217 (St_cs hS) (by omega), ob_eq, cs_7]
      exact ⟨_, _, _, _, _, rfl⟩
    · rw [if_neg q, if_pos rfl, wi_217 (St_cs hS) (by omega), ob_eq, cs_7]
      exact ⟨_, _, _, _, _, rfl⟩
  rcases h with h | ⟨h, h1, h2⟩
  · exact main _ _ _ _ (rv_bad hS hB (by omega) (Or.inl h) (by omega))
  · by_cases c : 8 * len < a + wdx M X f
    · exact main _ _ _ _ (rv_bad hS hB (by omega) (Or.inr ⟨h, h1, c⟩) (by omega))
    · obtain ⟨q, h3⟩ := h2.resolve_left c
      subst h
      have e8 : f_X0_read (cs M X (a + wdx M X f) 0 g7 (va_up g8 f 2) (va_up g9 f (nI (wdx M X f))) (va_up h0 f (lN (rdv r a (wdx M X f))))) (X + 214) 8 = _ := rd_no (n := 8) hS hB (by decide) (by omega) h3
      unfold f_X0_readField_J27
      rw [r_1_601 (St_cs hS), ob_eq, cs_wd hS hP hf, ob_eq, rv_ok hS hB (by omega) (by omega) (by omega), ob_eq, r_214_1 (St_cs hS), ob_eq, cs_hs hS hP hf, ob_eq, if_pos q, if_neg (by decide), e8, ob2_eq, wi_217 (St_cs hS) (by omega), ob_eq, cs_7]
      exact ⟨_, _, _, _, _, rfl⟩
/-- which way the class's readField goes -/
theorem rf_eq (hS : St M X) (hP : IP M X p) (hf : f < p) (hk : mI M 5 (X + 214) = nI k) (k2 : k ≤ 2) : f_X0_readField (cs M X a br g7 g8 g9 h0) (X + 214) (X + 1) (nI f) = if k = 0 ∨ frb M X f = true then f_X0_readField_J27 (cs M X a br g7 g8 g9 h0) (X + 214) (X + 1) (nI f) else if k = 1 then ob2 (f_X0_read (cs M X a br g7 g8 g9 h0) (X + 214) 1) (fun M20 v21 => if (lg_cmp v21 1) = 0 then f_X0_readField_J90 M20 (X + 214) (X + 1) (nI f) 1 else f_X0_readField_J90 M20 (X + 214) (X + 1) (nI f) 0) else if rub M X f then ob2 (f_X0_read (cs M X a br g7 g8 g9 h0) (X + 214) 6) (fun M12 v13 => (gI M12 1 11 (X + 214)).bind fun v14 => if v14 = 0 then ((gR M12 7 601 (X + 1)).bind fun v16 => (aI M12 v16 (nI f)).bind fun v17 => if v13.toInt32 ≤ v17 then (f_X0_readField_J166 M12 (X + 214) (nI f) v13.toInt32 (X + 214) 0) else (f_X0_readField_J161 M12 (X + 214) (nI f) v13.toInt32 (X + 214))) else (f_X0_readField_J161 M12 (X + 214) (nI f) v13.toInt32 (X + 214))) else (f_X0_readValue (cs M X a br g7 g8 g9 h0) (X + 214) (nI f) 0 0).bind fun M10 => some M10 := by
  have p8 := hP.1
  have S0 : St (cs M X a br g7 g8 g9 h0) X := St_cs hS
  have d10 : ¬ (1 : Int32) = 0 := by decide
  unfold f_X0_readField f_X0_readField_J15
  rw [if_pos (k_214 S0), r_1_600 S0, ob_eq, ai_2 S0 (by omega), ob_eq, cs_A (by omega) (by omega) (by omega), gi_214 S0, ob_eq, cs_I (by decide) (by decide), hk, ob_eq, if_neg d10, if_pos rfl, cs_hs hS hP hf, ob_eq]
  have k0 : (nI k = 0) ↔ k = 0 := ⟨fun q => (nI_eq (b := 0) (by omega) (by decide)).mp q, fun q => by rw [q]; rfl⟩
  have k1 : (nI k = 1) ↔ k = 1 := ⟨fun q => (nI_eq (b := 1) (by omega) (by decide)).mp q, fun q => by rw [q]; rfl⟩
  by_cases c4 : mA M (X + 2) f = 4
  · have e4 : frb M X f = true := decide_eq_true c4
    rw [if_pos c4, if_pos (Or.inr e4), ite_self]
  · have e4 : ¬ frb M X f = true := fun q => c4 (of_decide_eq_true q)
    rw [if_neg c4]
    by_cases c0 : k = 0
    · rw [if_pos (k0.mpr c0), if_pos (Or.inl c0)]
    · rw [if_neg (fun q => c0 (k0.mp q)), if_neg (show ¬ (k = 0 ∨ frb M X f = true) from fun q => q.elim c0 e4), ob_eq]
      by_cases c1 : k = 1
      · rw [if_pos (k1.mpr c1), if_pos c1]
      · rw [if_neg (fun q => c1 (k1.mp q)), if_neg c1]
        by_cases q : rub M X f = true
        · rw [if_pos q, if_neg d10, if_pos q]
        · rw [if_neg q, if_pos rfl, if_neg q]
theorem fld_c (hS : St M X) (hP : IP M X p) (hB : BR M X B len r) (hf : f < p) (hk : mI M 5 (X + 214) = nI k) (k2 : k ≤ 2) (ha : a ≤ 8 * len) : (∀ a' wy ln tv sd, flS M X len r k f a = some (a', wy, ln, tv, sd) → a' ≤ 8 * len ∧ ∃ k7, f_X0_readField (cs M X a 0 g7 g8 g9 h0) (X + 214) (X + 1) (nI f) = some (cs M X a' 0 k7 (va_up g8 f (nI wy)) (va_up g9 f (nI ln)) (va_up h0 f (lN tv))) ∧ (∀ j, ¬ j = f → k7 j = g7 j) ∧ (k = 0 → k7 f = nI sd)) ∧ (flS M X len r k f a = none → ∃ a' k7 k8 k9 k0, f_X0_readField (cs M X a 0 g7 g8 g9 h0) (X + 214) (X + 1) (nI f) = some (cs M X a' 1 k7 k8 k9 k0)) := by
  have p8 := hP.1
  have w := (wd_in hP hf).1
  have d10 : ¬ (1 : Int32) = 0 := by decide
  have vb : ∀ {t : Nat}, t < 2 → ((lg_cmp (lN t) 1 = 0) ↔ t = 1) := by
    intro t ht
    rw [lgc_eq]
    exact pk_lEQ (b := 1) (by omega) (by decide)
  unfold flS fldS
  rw [rf_eq hS hP hf hk k2]
  by_cases c0 : k = 0 ∨ frb M X f = true
  · rw [if_pos c0, if_pos c0]
    by_cases c1 : a + wdx M X f ≤ 8 * len
    · rw [if_pos c1]
      by_cases q : rub M X f = true
      · rw [if_pos q]
        by_cases c2 : a + wdx M X f + 8 ≤ 8 * len
        · rw [if_pos c2]
          refine ⟨fun a' wy ln tv sd e => ?_, fun e => absurd e (by intro h; cases h)⟩
          obtain ⟨e1, e2⟩ := Prod.mk.inj (Option.some.inj e)
          obtain ⟨e2, e3⟩ := Prod.mk.inj e2
          obtain ⟨e3, e4⟩ := Prod.mk.inj e3
          obtain ⟨e4, e5⟩ := Prod.mk.inj e4
          subst e1; subst e2; subst e3; subst e4; subst e5
          refine ⟨c2, va_up g7 f (if rub M X f then nI (rdv r (a + wdx M X f) 8) else 1), ?_, fun j hj => vau_ne hj, fun _ => vau_eq.trans (if_pos q)⟩
          rw [j27_ok hS hP hB hf c1 (fun _ => c2), if_pos q]
          rfl
        · rw [if_neg c2]
          exact ⟨fun a' wy ln tv sd e => (by cases e), fun _ => j27_bad hS hP hB hf (Or.inr ⟨rfl, ha, Or.inr ⟨q, by omega⟩⟩)⟩
      · rw [if_neg q]
        refine ⟨fun a' wy ln tv sd e => ?_, fun e => absurd e (by intro h; cases h)⟩
        obtain ⟨e1, e2⟩ := Prod.mk.inj (Option.some.inj e)
        obtain ⟨e2, e3⟩ := Prod.mk.inj e2
        obtain ⟨e3, e4⟩ := Prod.mk.inj e3
        obtain ⟨e4, e5⟩ := Prod.mk.inj e4
        subst e1; subst e2; subst e3; subst e4; subst e5
        refine ⟨c1, va_up g7 f (if rub M X f then nI (rdv r (a + wdx M X f) 8) else 1), ?_, fun j hj => vau_ne hj, fun _ => vau_eq.trans (if_neg q)⟩
        rw [j27_ok hS hP hB hf c1 (fun x => absurd x q), if_neg q]
        rfl
    · rw [if_neg c1]
      exact ⟨fun a' wy ln tv sd e => (by cases e), fun _ => j27_bad hS hP hB hf (Or.inr ⟨rfl, ha, Or.inl (by omega)⟩)⟩
  rw [if_neg c0, if_neg c0]
  have k0 : ¬ k = 0 := fun q => c0 (Or.inl q)
  by_cases c1 : k = 1
  · rw [if_pos c1, if_pos c1]
    by_cases c2 : a + 1 ≤ 8 * len
    · rw [if_pos c2]
      have e1 : f_X0_read (cs M X a 0 g7 g8 g9 h0) (X + 214) 1 = _ := rd_ok (n := 1) hS hB (by decide) c2
      have hb := rdv_lt (r := r) (a := a) 1
      rw [e1, ob2_eq]
      by_cases c3 : rdv r a 1 = 1
      · rw [if_pos ((vb hb).mpr c3), if_pos c3]
        unfold f_X0_readField_J90 f_X0_readField_J104 f_X0_readField_J119
        rw [if_neg d10, if_neg d10, r_1_601 (St_cs hS), ob_eq, cs_wd hS hP hf, ob_eq]
        by_cases c4 : a + 1 + wdx M X f ≤ 8 * len
        · rw [if_pos c4]
          refine ⟨fun a' wy ln tv sd e => ?_, fun e => absurd e (by intro h; cases h)⟩
          obtain ⟨e1, e2⟩ := Prod.mk.inj (Option.some.inj e)
          obtain ⟨e2, e3⟩ := Prod.mk.inj e2
          obtain ⟨e3, e4⟩ := Prod.mk.inj e3
          obtain ⟨e4, e5⟩ := Prod.mk.inj e4
          subst e1; subst e2; subst e3; subst e4; subst e5
          refine ⟨c4, g7, ?_, fun j hj => rfl, fun q => absurd q k0⟩
          rw [rv_ok hS hB (by omega) c4 (by omega), ob_eq]
          rfl
        · rw [if_neg c4]
          refine ⟨fun a' wy ln tv sd e => (by cases e), fun _ => ?_⟩
          rw [rv_bad hS hB (by omega) (Or.inr ⟨rfl, c2, by omega⟩) (by omega), ob_eq]
          exact ⟨_, _, _, _, _, rfl⟩
      · rw [if_neg (fun q => c3 ((vb hb).mp q)), if_neg c3]
        unfold f_X0_readField_J90 f_X0_readField_J104 f_X0_readField_J119
        rw [if_pos rfl, if_pos rfl]
        refine ⟨fun a' wy ln tv sd e => ?_, fun e => absurd e (by intro h; cases h)⟩
        obtain ⟨e1, e2⟩ := Prod.mk.inj (Option.some.inj e)
        obtain ⟨e2, e3⟩ := Prod.mk.inj e2
        obtain ⟨e3, e4⟩ := Prod.mk.inj e3
        obtain ⟨e4, e5⟩ := Prod.mk.inj e4
        subst e1; subst e2; subst e3; subst e4; subst e5
        refine ⟨c2, g7, ?_, fun j hj => rfl, fun q => absurd q k0⟩
        have e0 : f_X0_readValue (cs M X (a + 1) 0 g7 g8 g9 h0) (X + 214) (nI f) 0 0 = _ := rv_ok (n := 0) hS hB (by decide) (by omega) (by omega)
        rw [e0, ob_eq]
        rfl
    · rw [if_neg c2]
      refine ⟨fun a' wy ln tv sd e => (by cases e), fun _ => ?_⟩
      have e1 : f_X0_read (cs M X a 0 g7 g8 g9 h0) (X + 214) 1 = _ := rd_no (n := 1) hS hB (by decide) ha (by omega)
      have e0 : f_X0_readValue (cs M X a 1 g7 g8 g9 h0) (X + 214) (nI f) 0 0 = _ := rv_bad (n := 0) hS hB (by decide) (Or.inl rfl) (by omega)
      rw [e1, ob2_eq, if_neg (by decide)]
      unfold f_X0_readField_J90 f_X0_readField_J104 f_X0_readField_J119
      rw [if_pos rfl, if_pos rfl, e0, ob_eq]
      exact ⟨_, _, _, _, _, rfl⟩
  rw [if_neg c1, if_neg c1]
  by_cases q : rub M X f = true
  · rw [if_pos q, if_pos q]
    by_cases c2 : a + 6 ≤ 8 * len
    · rw [if_pos c2]
      have e1 : f_X0_read (cs M X a 0 g7 g8 g9 h0) (X + 214) 6 = _ := rd_ok (n := 6) hS hB (by decide) c2
      have hb := rdv_lt (r := r) (a := a) 6
      rw [e1, ob2_eq, gi_214 (St_cs hS), ob_eq, cs_i11, if_pos rfl, r_1_601 (St_cs hS), ob_eq, cs_wd hS hP hf, ob_eq, lN_i]
      by_cases c3 : rdv r a 6 ≤ wdx M X f
      · rw [if_pos (nI_le c3 (by omega)), if_pos c3]
        unfold f_X0_readField_J166
        rw [pZ_of (k_214 (St_cs hS)) (Or.inl rfl), ob_eq, cs_11]
        by_cases c4 : a + 6 + rdv r a 6 ≤ 8 * len
        · rw [if_pos c4]
          refine ⟨fun a' wy ln tv sd e => ?_, fun e => absurd e (by intro h; cases h)⟩
          obtain ⟨e1, e2⟩ := Prod.mk.inj (Option.some.inj e)
          obtain ⟨e2, e3⟩ := Prod.mk.inj e2
          obtain ⟨e3, e4⟩ := Prod.mk.inj e3
          obtain ⟨e4, e5⟩ := Prod.mk.inj e4
          subst e1; subst e2; subst e3; subst e4; subst e5
          refine ⟨c4, g7, ?_, fun j hj => rfl, fun q => absurd q k0⟩
          rw [rv_ok hS hB (by omega) c4 (by omega), ob_eq]
          rfl
        · rw [if_neg c4]
          refine ⟨fun a' wy ln tv sd e => (by cases e), fun _ => ?_⟩
          rw [rv_bad hS hB (by omega) (Or.inr ⟨rfl, c2, by omega⟩) (by omega), ob_eq]
          exact ⟨_, _, _, _, _, rfl⟩
      · rw [if_neg (nI_ge (by omega) (by omega)), if_neg c3]
        refine ⟨fun a' wy ln tv sd e => (by cases e), fun _ => ?_⟩
        unfold f_X0_readField_J161 f_X0_readField_J166
        rw [pZ_of (k_214 (St_cs hS)) (Or.inr rfl), ob_eq, cs_11, rv_bad hS hB (by omega) (Or.inl rfl) (by omega), ob_eq]
        exact ⟨_, _, _, _, _, rfl⟩
    · rw [if_neg c2]
      refine ⟨fun a' wy ln tv sd e => (by cases e), fun _ => ?_⟩
      have e1 : f_X0_read (cs M X a 0 g7 g8 g9 h0) (X + 214) 6 = _ := rd_no (n := 6) hS hB (by decide) ha (by omega)
      have e0 : f_X0_readValue (cs M X a 1 g7 g8 g9 h0) (X + 214) (nI f) 1 (0 : Int64).toInt32 = _ := rv_bad (n := 0) hS hB (by decide) (Or.inl rfl) (by omega)
      rw [e1, ob2_eq, gi_214 (St_cs hS), ob_eq, cs_i11, if_neg d10]
      unfold f_X0_readField_J161 f_X0_readField_J166
      rw [pZ_of (k_214 (St_cs hS)) (Or.inr rfl), ob_eq, cs_11, e0, ob_eq]
      exact ⟨_, _, _, _, _, rfl⟩
  · rw [if_neg q, if_neg q]
    refine ⟨fun a' wy ln tv sd e => ?_, fun e => absurd e (by intro h; cases h)⟩
    obtain ⟨e1, e2⟩ := Prod.mk.inj (Option.some.inj e)
    obtain ⟨e2, e3⟩ := Prod.mk.inj e2
    obtain ⟨e3, e4⟩ := Prod.mk.inj e3
    obtain ⟨e4, e5⟩ := Prod.mk.inj e4
    subst e1; subst e2; subst e3; subst e4; subst e5
    refine ⟨ha, g7, ?_, fun j hj => rfl, fun q => absurd q k0⟩
    have e0 : f_X0_readValue (cs M X a 0 g7 g8 g9 h0) (X + 214) (nI f) 0 0 = _ := rv_ok (n := 0) hS hB (by decide) (by omega) (by omega)
    rw [e0, ob_eq]
    rfl
theorem fld_b (hS : St M X) (hP : IP M X p) (hB : BR M X B len r) (hf : f < p) (hk : mI M 5 (X + 214) = nI k) (k2 : k ≤ 2) : ∃ a' k7 k8 k9 k0, f_X0_readField (cs M X a 1 g7 g8 g9 h0) (X + 214) (X + 1) (nI f) = some (cs M X a' 1 k7 k8 k9 k0) := by
  have p8 := hP.1
  have w := (wd_in hP hf).1
  have d10 : ¬ (1 : Int32) = 0 := by decide
  have e0 : ∀ (wy : Int32) {x : Nat}, f_X0_readValue (cs M X x 1 g7 g8 g9 h0) (X + 214) (nI f) wy 0 = _ := fun wy {x} => rv_bad (n := 0) hS hB (by decide) (Or.inl rfl) (by omega)
  rw [rf_eq hS hP hf hk k2]
  by_cases c0 : k = 0 ∨ frb M X f = true
  · rw [if_pos c0]
    exact j27_bad hS hP hB hf (Or.inl rfl)
  rw [if_neg c0]
  by_cases c1 : k = 1
  · have e1 : f_X0_read (cs M X a 1 g7 g8 g9 h0) (X + 214) 1 = _ := rd_br (n := 1) hS
    rw [if_pos c1, e1, ob2_eq, if_neg (by decide)]
    unfold f_X0_readField_J90 f_X0_readField_J104 f_X0_readField_J119
    rw [if_pos rfl, if_pos rfl, e0, ob_eq]
    exact ⟨_, _, _, _, _, rfl⟩
  rw [if_neg c1]
  by_cases q : rub M X f = true
  · have e1 : f_X0_read (cs M X a 1 g7 g8 g9 h0) (X + 214) 6 = _ := rd_br (n := 6) hS
    have e2 : f_X0_readValue (cs M X a 1 g7 g8 g9 h0) (X + 214) (nI f) 1 (0 : Int64).toInt32 = _ := e0 1
    rw [if_pos q, e1, ob2_eq, gi_214 (St_cs hS), ob_eq, cs_i11, if_neg d10]
    unfold f_X0_readField_J161 f_X0_readField_J166
    rw [pZ_of (k_214 (St_cs hS)) (Or.inr rfl), ob_eq, cs_11, e2, ob_eq]
    exact ⟨_, _, _, _, _, rfl⟩
  · rw [if_neg q, e0, ob_eq]
    exact ⟨_, _, _, _, _, rfl⟩
end Fld
