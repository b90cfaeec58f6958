section Wri4
variable {M : Mm} {X p n w i kk r h f0 : Nat}
theorem RV_uv {R : Mm} {g1 g2 : Nat → Int32} (V : RV X M R) : RV X M (uv R (X + 248) (X + 249) g1 g2) :=
  ⟨St_sA (St_sA V.1), fun o ho => by rw [uv_o (by omega) (by omega)]; exact V.2.1 o ho, V.2.2.1, V.2.2.2⟩
theorem RV_sU {R : Mm} {a j : Nat} {v : Int32} (V : RV X M R) (h : X + 248 ≤ a) : RV X M (sU R a j v) :=
  ⟨St_sU V.1, fun o ho => by rw [mA_sUx (by omega)]; exact V.2.1 o ho, V.2.2.1, V.2.2.2⟩
theorem fl_z {R : Mm} {f : Nat} (hS : St R X) (hi : i < 8) (h36 : mA R (X + 236) i = nI h) : f_X11_fails R (X + 226) (nI i) (nI f) (nI kk) (nI 0 - 1) = some (-2) := by
  unfold f_X11_fails
  rw [if_pos (k_226 hS), r_226_1113 hS, ob_eq, ai_236 hS hi, ob_eq, h36]
  have e : ∀ fu, f_X11_fails_L14 R (fu + 1) (X + 226) (nI i) (nI f) (nI kk) (nI 0 - 1) (-2) (nI h - 1) = some (-2) := by
    intro fu
    rw [f_X11_fails_L14]
    by_cases c : nI h - 1 < 0
    · rw [if_pos c]
    · rw [if_neg c, if_pos (by decide)]
  exact e 999
theorem ss_r (C : SC M X p n w i kk r h f0) {R : Mm} {s0 : Bs} (hn : n < 200) (V : RV X M R) (h36 : mA R (X + 236) i = nI h) (h16 : mI R 1116 (X + 226) = nI n) (g0 : gd s0) (h0 : s0.2 ≤ 60) :
    ∃ g1 g2, f_X11_sendShort_L21 1000 (rS R X s0) (X + 226) (nI i) (nI kk) 0 = ob2 (f_X11_laid (rS (sU (sU (uv R (X + 248) (X + 249) g1 g2) (X + 250) n (nI h)) (X + 251) n (mA M (X + 237) (9 * i))) X (apx (bs (stS M X (lsn M X i kk f0 h)) s0 p) (nI (sm8 (mB M (X + 7)) p)).toInt64 8)) (X + 226) 2 (nI i) (nI kk) 0) (fun M4 v5 => some (M4, v5)) ∧ (∀ f, f < p → rub M X f = true → g1 (8 * n + f) = nI (lsn M X i kk f0 h f) ∧ g2 (8 * n + f) = msn M X i kk f0 h f (lsn M X i kk f0 h f)) ∧ ∀ j, ¬ (8 * n ≤ j ∧ j < 8 * n + 8) → g1 j = mA R (X + 248) j ∧ g2 j = mA R (X + 249) j := by
  obtain ⟨hi, hw, hP, hD, hQ⟩ := id C
  have p8 := hP.1
  have d10 : ¬ (1 : Int32) = 0 := by decide
  have hUV : ¬ X + 248 = X + 249 := by omega
  have hL : ∀ f, f < p → lsn M X i kk f0 h f ≤ 32 := by
    intro f hf
    obtain ⟨-, -, -, ⟨wd, w1, w2, w3⟩, -⟩ := hP.2.2.2 f hf
    have := (ls_spec C hf w3 w1 w2).1
    omega
  have main : ∀ d f fu g1 g2, f + d = p → d < fu → ((∀ f', f' < f → rub M X f' = true → g1 (8 * n + f') = nI (lsn M X i kk f0 h f') ∧ g2 (8 * n + f') = msn M X i kk f0 h f' (lsn M X i kk f0 h f')) ∧ ∀ j, ¬ (8 * n ≤ j ∧ j < 8 * n + 8) → g1 j = mA R (X + 248) j ∧ g2 j = mA R (X + 249) j) →
      ∃ k1 k2, f_X11_sendShort_L21 fu (rS (uv R (X + 248) (X + 249) g1 g2) X (bs (stS M X (lsn M X i kk f0 h)) s0 f)) (X + 226) (nI i) (nI kk) (nI f) = ob2 (f_X11_laid (rS (sU (sU (uv R (X + 248) (X + 249) k1 k2) (X + 250) n (nI h)) (X + 251) n (mA M (X + 237) (9 * i))) X (apx (bs (stS M X (lsn M X i kk f0 h)) s0 p) (nI (sm8 (mB M (X + 7)) p)).toInt64 8)) (X + 226) 2 (nI i) (nI kk) 0) (fun M4 v5 => some (M4, v5)) ∧ (∀ f, f < p → rub M X f = true → k1 (8 * n + f) = nI (lsn M X i kk f0 h f) ∧ k2 (8 * n + f) = msn M X i kk f0 h f (lsn M X i kk f0 h f)) ∧ ∀ j, ¬ (8 * n ≤ j ∧ j < 8 * n + 8) → k1 j = mA R (X + 248) j ∧ k2 j = mA R (X + 249) j := by
    intro d
    induction d with
    | zero =>
      intro f fu g1 g2 e1 e2 hg
      obtain ⟨fu, rfl⟩ : ∃ k, fu = k + 1 := ⟨fu - 1, by omega⟩
      have ef : f = p := by omega
      subst ef
      refine ⟨g1, g2, ?_, hg⟩
      obtain ⟨b1, b2, b3⟩ := bs_ok (stS_ok hP hL) g0 f (Nat.le_refl _)
      generalize bs (stS M X (lsn M X i kk f0 h)) s0 f = s at b1 b2 b3
      have W1 : RV X M (uv R (X + 248) (X + 249) g1 g2) := RV_uv V
      generalize hN : uv R (X + 248) (X + 249) g1 g2 = N at W1
      have n36 : mA N (X + 236) i = nI h := by rw [← hN, uv_o (by omega) (by omega)]; exact h36
      have n16 : mI N 1116 (X + 226) = nI n := by rw [← hN]; exact h16
      have V1 : RV X M (rS N X s) := RV_rS W1
      have S1 := V1.1
      have S2 : St (sU (rS N X s) (X + 250) n (nI h)) X := St_sU S1
      have i16 : mI (rS N X s) 1116 (X + 226) = nI n := by rw [rS_I (by decide)]; exact n16
      have e9 : sU (sU (rS N X s) (X + 250) n (nI h)) (X + 251) n (mA M (X + 237) (9 * i)) = rS (sU (sU N (X + 250) n (nI h)) (X + 251) n (mA M (X + 237) (9 * i))) X s := by
        rw [uv_u (show ¬ X + 250 = X + 251 by omega)]
        have : sU (sU N (X + 250) n (nI h)) (X + 251) n (mA M (X + 237) (9 * i)) = uv N (X + 250) (X + 251) (va_up (mA N (X + 250)) n (nI h)) (va_up (mA N (X + 251)) n (mA M (X + 237) (9 * i))) := uv_u (by omega)
        rw [this, rS_uv (by omega) (by omega), rS_A (by omega), rS_A (by omega)]
      have W3 : RV X M (sU (sU N (X + 250) n (nI h)) (X + 251) n (mA M (X + 237) (9 * i))) := RV_sU (RV_sU W1 (by omega)) (by omega)
      have V3 : RV X M (rS (sU (sU N (X + 250) n (nI h)) (X + 251) n (mA M (X + 237) (9 * i))) X s) := RV_rS W3
      have e8 : f_X11_say (rS (sU (sU N (X + 250) n (nI h)) (X + 251) n (mA M (X + 237) (9 * i))) X s) (X + 226) (nI (sm8 (mB M (X + 7)) f)).toInt64 8 = _ := syS (c := 8) W3.1 (by omega) (by decide)
      rw [f_X11_sendShort_L21, gi_226 S1, ob_eq, V1.2.2.2, hP.2.2.1, if_pos (nI_le (Nat.le_refl _) (by omega)), r_226_1128 S1, ob_eq, gi_226 S1, ob_eq, i16, r_226_1113 S1, ob_eq, ai_236 S1 hi, ob_eq, rS_A (by omega), n36, wi_250 S1 hn, ob_eq, sU_def, r_226_1129 S2, ob_eq, gi_226 S2, ob_eq, mI_sU, i16, r_226_1114 S2, ob_eq, m9, ai_237 S2 (by omega), ob_eq, mA_sUx (by omega), V1.2.1 237 (by omega), wi_251 S2 hn, ob_eq, sU_def, e9, sum_r (v := mB M (X + 7)) V3.1 (by rw [V3.2.2.2]; exact hP.2.2.1) p8 (fun f hf => dr_r C V3 hf), ob_eq, e8, ob_eq]
    | succ d ih =>
      intro f fu g1 g2 e1 e2 hg
      obtain ⟨fu, rfl⟩ : ∃ k, fu = k + 1 := ⟨fu - 1, by omega⟩
      have hf : f < p := by omega
      have f8 : f < 8 := by omega
      have hbs : bs (stS M X (lsn M X i kk f0 h)) s0 (f + 1) = stS M X (lsn M X i kk f0 h) f (bs (stS M X (lsn M X i kk f0 h)) s0 f) := rfl
      obtain ⟨b1, b2, b3⟩ := bs_ok (stS_ok hP hL) g0 f (by omega)
      generalize bs (stS M X (lsn M X i kk f0 h)) s0 f = s at b1 b2 b3 hbs
      have W1 : RV X M (uv R (X + 248) (X + 249) g1 g2) := RV_uv V
      have V1 : RV X M (rS (uv R (X + 248) (X + 249) g1 g2) X s) := RV_rS W1
      have hS1 := V1.1
      have n36 : mA (uv R (X + 248) (X + 249) g1 g2) (X + 236) i = nI h := by rw [uv_o (by omega) (by omega)]; exact h36
      obtain ⟨w1, w2⟩ := wd_in hP hf
      by_cases q : rub M X f = true
      · have l := hL f hf
        obtain ⟨l1, l2, l3⟩ := ls_spec C hf w2 (by obtain ⟨-, -, -, ⟨wd, w1, w2, w3⟩, -⟩ := hP.2.2.2 f hf; unfold wdx; rw [w3, ix_nI (by omega)]; exact w1) w1
        have hle : ∀ x, x ≤ lsn M X i kk f0 h f → ∀ wd', mA M (X + 3) f = nI wd' → wd' ≤ 32 → x ≤ wd' := by
          intro x hx wd' e h32
          have : nI wd' = nI (wdx M X f) := e.symm.trans w2
          have := (nI_eq (by omega) (by omega)).mp this
          omega
        obtain ⟨k1, k2, c1, c2, c3⟩ := ih (f + 1) fu (va_up g1 (8 * n + f) (nI (lsn M X i kk f0 h f))) (va_up g2 (8 * n + f) (msn M X i kk f0 h f (lsn M X i kk f0 h f))) (by omega) (by omega) (by
          refine ⟨fun f' hf' hr => ?_, fun j hj => ?_⟩
          · by_cases e : f' = f
            · subst e; rw [vau_eq, vau_eq]; exact ⟨rfl, rfl⟩
            · rw [vau_ne (by omega), vau_ne (by omega)]; exact hg.1 f' (by omega) hr
          · rw [vau_ne (by omega), vau_ne (by omega)]; exact hg.2 j hj)
        refine ⟨k1, k2, ?_, c2, c3⟩
        generalize hN : uv R (X + 248) (X + 249) g1 g2 = N at W1 V1 hS1 n36
        have Vx : RV X M (rS N X (apx s (lN (lsn M X i kk f0 h f)) 6)) := RV_rS W1
        have Vy : RV X M (rS N X (stS M X (lsn M X i kk f0 h) f s)) := RV_rS W1
        have Vz : RV X M (sU (rS N X (stS M X (lsn M X i kk f0 h) f s)) (X + 248) (8 * n + f) (nI (lsn M X i kk f0 h f))) := RV_sU Vy (by omega)
        have x1 : f_X11_say (rS N X s) (X + 226) (nI (lsn M X i kk f0 h f)).toInt64 6 = some (rS N X (apx s (lN (lsn M X i kk f0 h f)) 6)) := by
          rw [nI_l (by omega)]
          exact syS (c := 6) W1.1 (by omega) (by decide)
        have x2 : f_X11_say (rS N X (apx s (lN (lsn M X i kk f0 h f)) 6)) (X + 226) (mB M (X + 7) f) (nI (lsn M X i kk f0 h f)) = some (rS N X (stS M X (lsn M X i kk f0 h) f s)) := by
          unfold stS
          rw [if_pos q]
          exact syS W1.1 (by show s.2 + 6 + lsn M X i kk f0 h f ≤ 600; omega) (by omega)
        have i16 : mI (rS N X (stS M X (lsn M X i kk f0 h) f s)) 1116 (X + 226) = nI n := by rw [rS_I (by decide), ← hN]; exact h16
        have e3 : f_X11_fails (sU (rS N X (stS M X (lsn M X i kk f0 h) f s)) (X + 248) (8 * n + f) (nI (lsn M X i kk f0 h f))) (X + 226) (nI i) (nI f) (nI kk) (nI (lsn M X i kk f0 h f) - 1) = some (msn M X i kk f0 h f (lsn M X i kk f0 h f)) := by
          have z36 : mA (sU (rS N X (stS M X (lsn M X i kk f0 h) f s)) (X + 248) (8 * n + f) (nI (lsn M X i kk f0 h f))) (X + 236) i = nI h := by rw [mA_sUx (by omega), rS_A (by omega)]; exact n36
          unfold msn
          by_cases z : lsn M X i kk f0 h f = 0
          · rw [z, if_pos rfl]
            have z36' := z36
            have Vz' := Vz.1
            rw [z] at z36' Vz'
            exact fl_z Vz' hi z36'
          · rw [if_neg z]
            have e4 : nI (lsn M X i kk f0 h f) - 1 = nI (lsn M X i kk f0 h f - 1) := by
              have := m1I (lsn M X i kk f0 h f - 1)
              rw [show lsn M X i kk f0 h f - 1 + 1 = lsn M X i kk f0 h f by omega] at this
              exact this
            rw [e4]
            exact fl_r C Vz hf z36 (hle _ (by omega)) (by omega)
        have e9 : sU (sU (rS N X (stS M X (lsn M X i kk f0 h) f s)) (X + 248) (8 * n + f) (nI (lsn M X i kk f0 h f))) (X + 249) (8 * n + f) (msn M X i kk f0 h f (lsn M X i kk f0 h f)) = rS (uv R (X + 248) (X + 249) (va_up g1 (8 * n + f) (nI (lsn M X i kk f0 h f))) (va_up g2 (8 * n + f) (msn M X i kk f0 h f (lsn M X i kk f0 h f)))) X (stS M X (lsn M X i kk f0 h) f s) := by
          rw [uv_u hUV, rS_A (by omega), rS_A (by omega), ← hN, rS_uv (by omega) (by omega), uv_uv hUV, uv_U hUV, uv_V, rS_uv (by omega) (by omega)]
        have e5 : 1000 - lsn M X i kk f0 h f = (999 - lsn M X i kk f0 h f) + 1 := by omega
        rw [f_X11_sendShort_L21, gi_226 hS1, ob_eq, V1.2.2.2, hP.2.2.1, if_neg (nI_ge hf (by omega)), ru_r V1 hP hf, ob_eq, if_pos q, if_neg d10, l40_r C V1 hf (by rw [rS_A (by omega)]; exact n36), e5, f_X11_sendShort_L40, sv_r C V1 hf (by rw [rS_A (by omega)]; exact n36) (hle _ (Nat.le_refl _)), ob_eq, if_pos l2, if_neg d10, x1, ob_eq, r_226_1108 Vx.1, ob_eq, dr_r C Vx hf, ob_eq, x2, ob_eq, r_226_1126 Vy.1, ob_eq, gi_226 Vy.1, ob_eq, i16, m8, nI_add, wi_248 Vy.1 (by omega), ob_eq, sU_def, r_226_1127 Vz.1, ob_eq, gi_226 Vz.1, ob_eq, mI_sU, i16, e3, ob_eq, m8, nI_add, wi_249 Vz.1 (by omega), ob_eq, sU_def, e9]
        unfold f_X11_sendShort_J149
        rw [nI_1, ← hbs]
        exact c1
      · obtain ⟨k1, k2, c1, c2, c3⟩ := ih (f + 1) fu g1 g2 (by omega) (by omega) (by
          refine ⟨fun f' hf' hr => ?_, hg.2⟩
          by_cases e : f' = f
          · subst e; exact absurd hr q
          · exact hg.1 f' (by omega) hr)
        rw [hbs] at c1
        refine ⟨k1, k2, ?_, c2, c3⟩
        rw [f_X11_sendShort_L21, gi_226 hS1, ob_eq, V1.2.2.2, hP.2.2.1, if_neg (nI_ge hf (by omega)), ru_r V1 hP hf, ob_eq, if_neg q, if_pos rfl, r_226_1102 hS1, ob_eq, kd_r V1 hP hf, ob_eq]
        unfold stS at c1
        rw [if_neg q] at c1
        unfold f_X11_sendShort_J149
        rw [nI_1]
        by_cases q4 : mA M (X + 2) f = 4
        · rw [if_pos q4] at c1
          rw [if_pos q4, r_226_1108 hS1, ob_eq, dr_r C V1 hf, ob_eq, r_226_1103 hS1, ob_eq, wd_r V1 hP hf, ob_eq, syS W1.1 (by omega) (by omega), ob_eq]
          exact c1
        · rw [if_neg q4] at c1
          rw [if_neg q4]
          exact c1
  obtain ⟨k1, k2, c1, c2⟩ := main p 0 1000 (mA R (X + 248)) (mA R (X + 249)) (by omega) (by omega) ⟨fun f' hf' => absurd hf' (Nat.not_lt_zero _), fun j _ => ⟨rfl, rfl⟩⟩
  have e : uv R (X + 248) (X + 249) (mA R (X + 248)) (mA R (X + 249)) = R := by
    unfold uv
    rw [sA_self R (X + 248) (fun j => rfl), sA_self R (X + 249) (fun j => rfl)]
  rw [e] at c1
  exact ⟨k1, k2, c1, c2⟩
end Wri4
