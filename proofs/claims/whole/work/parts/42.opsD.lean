/-! copy, spent -/
theorem hp_cases {M : Mm} {X s sz : Nat} (hS : St M X) (hs : s < 8) (hz : sz ≤ 60) (h802 : mI M 802 (aSh X s) = nI sz) (h266 : mA M (X + 266) s = nI sz) (a b : Int32) : (f_X8_hasPlaces M (aSh X s) a b = some 0 ∧ f_X11_hasPlaces M (X + 226) (nI s) a b = some 0) ∨ (∃ i k : Nat, a = nI i ∧ b = nI k ∧ i + k ≤ sz ∧ f_X8_hasPlaces M (aSh X s) a b = some 1 ∧ f_X11_hasPlaces M (X + 226) (nI s) a b = some 1) := by
  unfold f_X8_hasPlaces f_X11_hasPlaces
  rw [if_pos (k_aSh hS hs), if_pos (k_226 hS), gi_aSh hS hs, ob_eq, h802, r_226_1154 hS, ob_eq, ob_eq, ai_266 hS hs, ob_eq, ob_eq, h266]
  by_cases a0 : a < 0
  · by_cases b0 : b < 0
    · left; rw [if_pos a0, if_pos b0]; exact ⟨rfl, rfl⟩
    · left; rw [if_pos a0, if_neg b0, if_pos a0]; exact ⟨rfl, rfl⟩
  by_cases b0 : b < 0
  · left; rw [if_neg a0, if_pos b0, if_pos b0]; exact ⟨rfl, rfl⟩
  have ia : 0 ≤ a.toInt := by have := Int32.le_iff_toInt_le.mp (Int32.not_lt.mp a0); exact this
  have ib : 0 ≤ b.toInt := by have := Int32.le_iff_toInt_le.mp (Int32.not_lt.mp b0); exact this
  have la := Int32.toInt_lt a
  have lb := Int32.toInt_lt b
  have ez : (nI sz).toInt = (sz : Int) := nI_toInt (by omega)
  have e1 : (nI sz - b).toInt = (sz : Int) - b.toInt := by
    rw [Int32.toInt_sub, ez]
    apply Int.bmod_eq_of_le_mul_two <;> omega
  have e2 : (nI sz - a).toInt = (sz : Int) - a.toInt := by
    rw [Int32.toInt_sub, ez]
    apply Int.bmod_eq_of_le_mul_two <;> omega
  rw [if_neg a0, if_neg b0, if_neg b0, if_neg a0]
  by_cases q : (sz : Int) - b.toInt < a.toInt
  · left
    rw [if_pos (Int32.lt_iff_toInt_lt.mpr (by rw [e1]; exact q))]
    refine ⟨rfl, ?_⟩
    by_cases q2 : (sz : Int) < a.toInt
    · rw [if_pos (Int32.lt_iff_toInt_lt.mpr (by rw [ez]; exact q2))]
    · rw [if_neg (fun g => q2 (by have := Int32.lt_iff_toInt_lt.mp g; rw [ez] at this; exact this)), if_pos (Int32.lt_iff_toInt_lt.mpr (by rw [e2]; omega))]
  · right
    rw [if_neg (fun g => q (by have := Int32.lt_iff_toInt_lt.mp g; rw [e1] at this; exact this)), if_neg (fun g => q (by have := Int32.lt_iff_toInt_lt.mp g; rw [ez] at this; omega)), if_neg (fun g => q (by have := Int32.lt_iff_toInt_lt.mp g; rw [e2] at this; omega))]
    rcases ix_cases a (n := 61) (by decide) with h | ⟨i, hi, rfl⟩
    · exfalso
      rcases h with h | h
      · exact a0 h
      · have := Int32.le_iff_toInt_le.mp h
        rw [nI_toInt (by decide)] at this
        omega
    rcases ix_cases b (n := 61) (by decide) with h | ⟨k, hk, rfl⟩
    · exfalso
      rcases h with h | h
      · exact b0 h
      · have := Int32.le_iff_toInt_le.mp h
        rw [nI_toInt (by decide)] at this
        omega
    rw [nI_toInt (by omega), nI_toInt (by omega)] at q
    exact ⟨i, k, rfl, rfl, by omega, rfl, rfl⟩
theorem cp1 {M : Mm} {X s i k : Nat} {x3 x4 : Int32} (hS : St M X) (hs : s < 8) (h : i + k ≤ 60) : f_X11_copy_L99 1000 M (X + 226) (nI s) (nI i) x3 x4 (nI k) 0 = f_X11_copy_L136 1000 (sB M (X + 269) (wr (mB M (X + 269)) 0 k (fun y => mB M (X + 268) (64 * s + i + y)))) (X + 226) x3 x4 (nI k) 0 := by
  have e := loop_run (fun fu j => f_X11_copy_L99 fu (sB M (X + 269) (wr (mB M (X + 269)) 0 j (fun y => mB M (X + 268) (64 * s + i + y)))) (X + 226) (nI s) (nI i) x3 x4 (nI k) (nI j)) k (f_X11_copy_L136 1000 (sB M (X + 269) (wr (mB M (X + 269)) 0 k (fun y => mB M (X + 268) (64 * s + i + y)))) (X + 226) x3 x4 (nI k) 0)
    (fun j fu hj => by
      have hS1 : St (sB M (X + 269) (wr (mB M (X + 269)) 0 j (fun y => mB M (X + 268) (64 * s + i + y)))) X := St_sB hS
      show f_X11_copy_L99 (fu + 1) (sB M (X + 269) (wr (mB M (X + 269)) 0 j (fun y => mB M (X + 268) (64 * s + i + y)))) (X + 226) (nI s) (nI i) x3 x4 (nI k) (nI j) = f_X11_copy_L99 fu (sB M (X + 269) (wr (mB M (X + 269)) 0 (j + 1) (fun y => mB M (X + 268) (64 * s + i + y)))) (X + 226) (nI s) (nI i) x3 x4 (nI k) (nI (j + 1))
      rw [f_X11_copy_L99, if_neg (nI_ge hj (by omega)), r_226_1157 hS1, ob_eq, r_226_1156 hS1, ob_eq, m64, nI_add, nI_add, aj_268 hS1 (by omega), ob_eq, wj_269 hS1 (by omega), ob_eq, mB_sB, if_pos rfl, sB_sB, mB_sB, if_neg (by omega), nI_1]
      exact congrArg (fun g => f_X11_copy_L99 fu (sB M (X + 269) g) (X + 226) (nI s) (nI i) x3 x4 (nI k) (nI (j + 1))) (wr0_s (mB M (X + 269)) j (fun y => mB M (X + 268) (64 * s + i + y))))
    (fun fu => by
      show f_X11_copy_L99 (fu + 1) _ (X + 226) (nI s) (nI i) x3 x4 (nI k) (nI k) = _
      rw [f_X11_copy_L99, if_pos (nI_le (Nat.le_refl _) (by omega))]) 1000 (by omega)
  have e2 : sB M (X + 269) (wr (mB M (X + 269)) 0 0 (fun y => mB M (X + 268) (64 * s + i + y))) = M := sB_self _ _ (fun j => by rw [wr_0])
  rw [e2] at e
  exact e
theorem cp2 {M : Mm} {X t j k : Nat} (hS : St M X) (ht : t < 8) (h : j + k ≤ 60) : f_X11_copy_L136 1000 M (X + 226) (nI t) (nI j) (nI k) 0 = some (sB M (X + 268) (wr (mB M (X + 268)) (64 * t + j) k (fun y => mB M (X + 269) y)), nI k) := by
  have e := loop_run (fun fu x => f_X11_copy_L136 fu (sB M (X + 268) (wr (mB M (X + 268)) (64 * t + j) x (fun y => mB M (X + 269) y))) (X + 226) (nI t) (nI j) (nI k) (nI x)) k (some (sB M (X + 268) (wr (mB M (X + 268)) (64 * t + j) k (fun y => mB M (X + 269) y)), nI k))
    (fun x fu hx => by
      have hS1 : St (sB M (X + 268) (wr (mB M (X + 268)) (64 * t + j) x (fun y => mB M (X + 269) y))) X := St_sB hS
      show f_X11_copy_L136 (fu + 1) (sB M (X + 268) (wr (mB M (X + 268)) (64 * t + j) x (fun y => mB M (X + 269) y))) (X + 226) (nI t) (nI j) (nI k) (nI x) = f_X11_copy_L136 fu (sB M (X + 268) (wr (mB M (X + 268)) (64 * t + j) (x + 1) (fun y => mB M (X + 269) y))) (X + 226) (nI t) (nI j) (nI k) (nI (x + 1))
      rw [f_X11_copy_L136, if_neg (nI_ge hx (by omega)), r_226_1156 hS1, ob_eq, r_226_1157 hS1, ob_eq, aj_269 hS1 (by omega), ob_eq, m64, nI_add, nI_add, wj_268 hS1 (by omega), ob_eq, mB_sB, if_pos rfl, sB_sB, mB_sB, if_neg (by omega), nI_1]
      exact congrArg (fun g => f_X11_copy_L136 fu (sB M (X + 268) g) (X + 226) (nI t) (nI j) (nI k) (nI (x + 1))) (wr_s (mB M (X + 268)) (64 * t + j) x (fun y => mB M (X + 269) y)))
    (fun fu => by
      show f_X11_copy_L136 (fu + 1) _ (X + 226) (nI t) (nI j) (nI k) (nI k) = _
      rw [f_X11_copy_L136, if_pos (nI_le (Nat.le_refl _) (by omega))]) 1000 (by omega)
  have e2 : sB M (X + 268) (wr (mB M (X + 268)) (64 * t + j) 0 (fun y => mB M (X + 269) y)) = M := sB_self _ _ (fun j => by rw [wr_0])
  rw [e2] at e
  exact e
theorem cpJ_of {M : Mm} {a b i j k na nb : Nat} (ka : mK M a = 21) (kb : mK M b = 21) (ha : mN M a = na) (hb : mN M b = nb) (h1 : i + k ≤ na) (h2 : j + k ≤ nb) (h9 : na < 1000) (h8 : nb < 1000) : cpJ M a (nI i) b (nI j) (nI k) = some (sB M b (va_cpy (mB M a) (mB M b) i j k)) := by
  have ei : (nI i).toInt = (i : Int) := nI_toInt (by omega)
  have ej : (nI j).toInt = (j : Int) := nI_toInt (by omega)
  have ek : (nI k).toInt = (k : Int) := nI_toInt (by omega)
  unfold cpJ
  rw [if_pos ka, if_pos kb, ei, ej, ek, if_pos (by omega), if_pos (by omega), if_pos (by omega), ha, hb, if_pos (by omega), if_pos (by omega), ix_nI (by omega), ix_nI (by omega), ix_nI (by omega)]
theorem cpI_of {M : Mm} {a b i j k na nb : Nat} (ka : mK M a = 20) (kb : mK M b = 20) (ha : mN M a = na) (hb : mN M b = nb) (h1 : i + k ≤ na) (h2 : j + k ≤ nb) (h9 : na < 1000) (h8 : nb < 1000) : cpI M a (nI i) b (nI j) (nI k) = some (sA M b (va_cpy (mA M a) (mA M b) i j k)) := by
  have ei : (nI i).toInt = (i : Int) := nI_toInt (by omega)
  have ej : (nI j).toInt = (j : Int) := nI_toInt (by omega)
  have ek : (nI k).toInt = (k : Int) := nI_toInt (by omega)
  unfold cpI
  rw [if_pos ka, if_pos kb, ei, ej, ek, if_pos (by omega), if_pos (by omega), if_pos (by omega), ha, hb, if_pos (by omega), if_pos (by omega), ix_nI (by omega), ix_nI (by omega), ix_nI (by omega)]
theorem op_copy {M : Mm} {X p n w : Nat} {z : Nat → Nat} (H : Inv M X p n w z) (a b c d e : Int32) : ∃ M1 M2 r, f_X10_copy M X a b c d e = some (M1, r) ∧ f_X11_copy M1 (X + 226) a b c d e = some (M2, r) ∧ Inv M2 X p n w z := by
  obtain ⟨hS, hW, ⟨p8, p1, p2, p3⟩, hD, hC, hQ, hX, hZ, hL, hG, hH, hT⟩ := id H
  have d10 : ¬ (1 : Int32) = 0 := by decide
  have hSt : St (sI M 1100 (X + 226) 0) X := St_sI hS
  rcases ix_cases a (n := 8) (by omega) with h | ⟨s, hs, rfl⟩
  · refine ⟨M, _, -1, ?_, ?_, inv_thr (v := 0) H⟩
    · unfold f_X10_copy
      simp only [if_pos (k_0 hS), (fl_out h).2.2.1, ob_eq, if_true]
    · unfold f_X11_copy
      simp only [if_pos (k_226 hS), pi_226 hS, (fl_out h).2.2.2, ob_eq, if_true]
  rcases ix_cases c (n := 8) (by omega) with h | ⟨t, ht, rfl⟩
  · refine ⟨M, _, -1, ?_, ?_, inv_thr (v := 0) H⟩
    · unfold f_X10_copy
      simp only [if_pos (k_0 hS), (fl_in hs).2.2.1, (fl_out h).2.2.1, ob_eq, if_neg d10, if_true]
    · unfold f_X11_copy
      simp only [if_pos (k_226 hS), pi_226 hS, (fl_in hs).2.2.2, (fl_out h).2.2.2, ob_eq, if_neg d10, if_true]
  obtain ⟨s1, hk, s2, s3, s4, s5⟩ := id (hH s hs)
  obtain ⟨t1, hj, t2, t3, t4, t5⟩ := id (hH t ht)
  have e10 : ∀ M', M' = M → f_X10_copy M X (nI s) b (nI t) d e = if nI hk = 0 then some (M, -11) else if nI hj = 0 then some (M, -11) else if nI hk = 1 then some (M, -12) else if nI hk = nI hj then (f_X8_hasPlaces M (aSh X s) b e).bind (fun v21 => if v21 = 0 then some (M, -13) else (f_X8_hasPlaces M (aSh X t) d e).bind (fun v24 => if v24 = 0 then some (M, -13) else (cpJ M (aSr X s) b (aSr X t) d e).bind (fun M28 => some (M28, e)))) else some (M, -12) := by
    intro _ _
    unfold f_X10_copy
    rw [if_pos (k_0 hS), (fl_in hs).2.2.1, ob_eq, if_neg d10, (fl_in ht).2.2.1, ob_eq, if_neg d10, r_0_1006 hS, ob_eq, q_sh hS hs, ob_eq, ob_eq, q_sh hS ht, ob_eq, gi_aSh hS hs, ob_eq, ob_eq, ob_eq, gi_aSh hS ht, ob_eq, ob_eq, s1, s3, t1, t3, r_aSh_800 hS hs, ob_eq, r_aSh_800 hS ht, ob_eq]
  have e11 : ∀ M', St M' X → mA M' = mA M → f_X11_copy M' (X + 226) (nI s) b (nI t) d e = if nI hk = 0 then some (sI M' 1100 (X + 226) 0, -11) else if nI hj = 0 then some (sI M' 1100 (X + 226) 0, -11) else if nI hk = 1 then some (sI M' 1100 (X + 226) 0, -12) else if nI hk = nI hj then (f_X11_hasPlaces (sI M' 1100 (X + 226) 0) (X + 226) (nI s) b e).bind (fun v23 => if v23 = 0 then some (sI M' 1100 (X + 226) 0, -13) else (f_X11_hasPlaces (sI M' 1100 (X + 226) 0) (X + 226) (nI t) d e).bind (fun v26 => if v26 = 0 then some (sI M' 1100 (X + 226) 0, -13) else f_X11_copy_L99 1000 (sI M' 1100 (X + 226) 0) (X + 226) (nI s) b (nI t) d e 0)) else some (sI M' 1100 (X + 226) 0, -12) := by
    intro M' hS' eA
    have hSt' : St (sI M' 1100 (X + 226) 0) X := St_sI hS'
    unfold f_X11_copy
    simp only [if_pos (k_226 hS'), pi_226 hS', ob_eq, (fl_in hs).2.2.2, if_neg d10, (fl_in ht).2.2.2, r_226_1153 hSt', ai_265 hSt' hs, ai_265 hSt' ht, mA_sI, eA, s3, t3]
  by_cases c0 : hk = 0
  · refine ⟨M, _, -11, by rw [e10 M rfl, if_pos (by rw [c0]; rfl)], by rw [e11 M hS rfl, if_pos (by rw [c0]; rfl)], inv_thr (v := 0) H⟩
  have n0 : ¬ nI hk = 0 := nI_ne0 (by omega) (by omega)
  by_cases c1 : hj = 0
  · refine ⟨M, _, -11, by rw [e10 M rfl, if_neg n0, if_pos (by rw [c1]; rfl)], by rw [e11 M hS rfl, if_neg n0, if_pos (by rw [c1]; rfl)], inv_thr (v := 0) H⟩
  have m0 : ¬ nI hj = 0 := nI_ne0 (by omega) (by omega)
  by_cases c2 : hk = 1
  · refine ⟨M, _, -12, by rw [e10 M rfl, if_neg n0, if_neg m0, if_pos (by rw [c2]; rfl)], by rw [e11 M hS rfl, if_neg n0, if_neg m0, if_pos (by rw [c2]; rfl)], inv_thr (v := 0) H⟩
  have n1 : ¬ nI hk = 1 := fun q => c2 ((nI_eq (a := hk) (b := 1) (by omega) (by decide)).mp q)
  by_cases c3 : hk = hj
  rotate_left
  · have n3 : ¬ nI hk = nI hj := fun q => c3 ((nI_eq (by omega) (by omega)).mp q)
    refine ⟨M, _, -12, by rw [e10 M rfl, if_neg n0, if_neg m0, if_neg n1, if_neg n3], by rw [e11 M hS rfl, if_neg n0, if_neg m0, if_neg n1, if_neg n3], inv_thr (v := 0) H⟩
  subst c3
  have hk2 : 2 ≤ hk := by clear s4 s5 t4 t5; omega
  obtain ⟨sz, g1, g2, g3, g4⟩ := s5 hk2
  obtain ⟨tz, k1, k2, k3, k4⟩ := t5 hk2
  clear s4 s5 t4 t5
  have hp : ∀ M', St M' X → mA M' = mA M → ∀ q x y, q < 8 → f_X11_hasPlaces (sI M' 1100 (X + 226) 0) (X + 226) (nI q) x y = f_X11_hasPlaces M (X + 226) (nI q) x y := by
    intro M' hS' eA q x y hq
    unfold f_X11_hasPlaces
    rw [if_pos (k_226 hS), if_pos (k_226 (St_sI hS')), r_226_1154 hS, r_226_1154 (St_sI hS'), ob_eq, ob_eq, ob_eq, ob_eq, ai_266 hS hq, ai_266 (St_sI hS') hq, mA_sI, eA]
  rcases hp_cases hS hs g1 g2 g3 b e with ⟨q1, q2⟩ | ⟨i, k, rfl, rfl, q3, q1, q2⟩
  · refine ⟨M, _, -13, by rw [e10 M rfl, if_neg n0, if_neg m0, if_neg n1, if_pos rfl, q1, ob_eq, if_pos rfl], by rw [e11 M hS rfl, if_neg n0, if_neg m0, if_neg n1, if_pos rfl, hp M hS rfl _ _ _ hs, q2, ob_eq, if_pos rfl], inv_thr (v := 0) H⟩
  rcases hp_cases hS ht k1 k2 k3 d (nI k) with ⟨r1, r2⟩ | ⟨j, k', rfl, ek, r3, r1, r2⟩
  · refine ⟨M, _, -13, by rw [e10 M rfl, if_neg n0, if_neg m0, if_neg n1, if_pos rfl, q1, ob_eq, if_neg d10, r1, ob_eq, if_pos rfl], by rw [e11 M hS rfl, if_neg n0, if_neg m0, if_neg n1, if_pos rfl, hp M hS rfl _ _ _ hs, q2, ob_eq, if_neg d10, hp M hS rfl _ _ _ ht, r2, ob_eq, if_pos rfl], inv_thr (v := 0) H⟩
  have ek' : k' = k := ((nI_eq (by omega) (by
    apply Nat.lt_of_not_le
    intro q
    omega)).mp ek).symm
  subst ek'
  generalize hM1 : sB M (aSr X t) (va_cpy (mB M (aSr X s)) (mB M (aSr X t)) i j k') = M1
  have hS1 : St M1 X := by rw [← hM1]; exact St_sB hS
  have eA1 : mA M1 = mA M := by rw [← hM1, mA_sB]
  have eC : f_X10_copy M X (nI s) (nI i) (nI t) (nI j) (nI k') = some (M1, nI k') := by
    rw [e10 M rfl, if_neg n0, if_neg m0, if_neg n1, if_pos rfl, q1, ob_eq, if_neg d10, r1, ob_eq, if_neg d10, cpJ_of (k_aSr hS hs) (k_aSr hS ht) (n_aSr hS hs) (n_aSr hS ht) (by omega) (by omega) (by decide) (by decide), ob_eq, hM1]
  generalize hMt : sI M1 1100 (X + 226) 0 = Mt
  have hSt1 : St Mt X := by rw [← hMt]; exact St_sI hS1
  generalize hMa : sB Mt (X + 269) (wr (mB Mt (X + 269)) 0 k' (fun y => mB Mt (X + 268) (64 * s + i + y))) = Ma
  have hSa : St Ma X := by rw [← hMa]; exact St_sB hSt1
  have eM : f_X11_copy M1 (X + 226) (nI s) (nI i) (nI t) (nI j) (nI k') = some (sB Ma (X + 268) (wr (mB Ma (X + 268)) (64 * t + j) k' (fun y => mB Ma (X + 269) y)), nI k') := by
    rw [e11 M1 hS1 eA1, if_neg n0, if_neg m0, if_neg n1, if_pos rfl, hp M1 hS1 eA1 _ _ _ hs, q2, ob_eq, if_neg d10, hp M1 hS1 eA1 _ _ _ ht, r2, ob_eq, if_neg d10, hMt, cp1 hSt1 hs (by omega), hMa, cp2 hSa ht (by omega)]
  refine ⟨M1, _, _, eC, eM, inv_shelf H ht ?_ ?_⟩
  · have A1 : Ag X (z n) n (TIs X t) (TAs X t) (TBs X t) M M1 := by rw [← hM1]; exact Ag_sB (Or.inr (Or.inr (fun j q => absurd (Or.inl rfl) q)))
    have A2 : Ag X (z n) n (TIs X t) (TAs X t) (TBs X t) M1 Mt := by rw [← hMt]; exact Ag_sI (Or.inl (by unfold ScI; omega))
    have A3 : Ag X (z n) n (TIs X t) (TAs X t) (TBs X t) Mt Ma := by rw [← hMa]; exact Ag_sB (Or.inl (by unfold ScB; omega))
    exact Ag.cBw ((A1.tr' A2).tr' A3) (fun x y1 y2 => Or.inr ⟨rfl, by omega, by omega⟩)
  · have f268 : mB Ma (X + 268) = mB M (X + 268) := by rw [← hMa, mB_sB, if_neg (by omega), ← hMt, mB_sI, ← hM1, mB_sB, if_neg (by unfold aSr; omega)]
    have f269 : ∀ y, y < k' → mB Ma (X + 269) y = mB M (X + 268) (64 * s + i + y) := by
      intro y hy
      rw [← hMa, mB_sB, if_pos rfl, wr0_in hy, ← hMt, mB_sI, ← hM1, mB_sB, if_neg (by unfold aSr; omega)]
    have fr : mB Ma (aSr X t) = va_cpy (mB M (aSr X s)) (mB M (aSr X t)) i j k' := by rw [← hMa, mB_sB, if_neg (by unfold aSr; omega), ← hMt, mB_sI, ← hM1, mB_sB, if_pos rfl]
    have fA : mA Ma = mA M := by rw [← hMa, mA_sB, ← hMt, mA_sI, eA1]
    have fI : ∀ num, num ≠ 1100 → mI Ma num = mI M num := by
      intro num hn
      rw [← hMa, mI_sB, ← hMt]; funext y; rw [mI_sI, if_neg hn, ← hM1, mI_sB]
    refine ⟨by rw [mI_sB, fI 801 (by decide), mA_sB, fA]; exact t1, hk, t2, by rw [mA_sB, fA]; exact t3, fun q => absurd q c2, fun _ => ⟨tz, k1, by rw [mI_sB, fI 802 (by decide)]; exact k2, by rw [mA_sB, fA]; exact k3, fun x hx => ?_⟩⟩
    rw [mB_sB, if_pos rfl, mB_sB, if_neg (by unfold aSr; omega), fr]
    unfold va_cpy
    by_cases q : j ≤ x ∧ x < j + k'
    · rw [if_pos q, show 64 * t + x = 64 * t + j + (x - j) by omega, wr_in (by omega)]
      rw [f269 (x - j) (by omega), show 64 * s + i + (x - j) = 64 * s + (i + (x - j)) by omega]
      exact g4 _ (by omega)
    · rw [if_neg q, wr_out (by omega), f268]
      exact k4 x hx
