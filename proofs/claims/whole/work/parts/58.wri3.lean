/-! short -/
theorem pn_uv {N : Mm} {X m U V : Nat} {b : Nat → Nat} {g1 g2 : Nat → Int32} (hU : ¬ U = X + 213) (hV : ¬ V = X + 213) : pn (uv N U V g1 g2) X b m = uv (pn N X b m) U V g1 g2 := by
  have e : mA (uv N U V g1 g2) (X + 213) = mA N (X + 213) := uv_o (fun q => hU q.symm) (fun q => hV q.symm)
  unfold pn
  rw [e]
  show sA (sA (sA (sI N 501 (X + 212) (nI m)) U g1) V g2) (X + 213) _ = sA (sA (sA (sI N 501 (X + 212) (nI m)) (X + 213) _) U g1) V g2
  rw [sA_comm _ _ _ hV, sA_comm _ _ _ hU]
theorem rm_uv {N : Mm} {X m U V : Nat} {b : Nat → Nat} {g1 g2 : Nat → Int32} (hU : ¬ U = X + 259) (hV : ¬ V = X + 259) : rm (uv N U V g1 g2) X b m = uv (rm N X b m) U V g1 g2 := by
  have e : mA (uv N U V g1 g2) (X + 259) = mA N (X + 259) := uv_o (fun q => hU q.symm) (fun q => hV q.symm)
  unfold rm
  rw [e]
  show sA (sA (sA (sI N 1142 (X + 226) (nI m)) U g1) V g2) (X + 259) _ = sA (sA (sA (sI N 1142 (X + 226) (nI m)) (X + 259) _) U g1) V g2
  rw [sA_comm _ _ _ hV, sA_comm _ _ _ hU]
theorem pS_uv {N : Mm} {X U V : Nat} {s : Bs} {g1 g2 : Nat → Int32} (hU : ¬ U = X + 213) (hV : ¬ V = X + 213) : pS (uv N U V g1 g2) X s = uv (pS N X s) U V g1 g2 := pn_uv hU hV
theorem rS_uv {N : Mm} {X U V : Nat} {s : Bs} {g1 g2 : Nat → Int32} (hU : ¬ U = X + 259) (hV : ¬ V = X + 259) : rS (uv N U V g1 g2) X s = uv (rS N X s) U V g1 g2 := rm_uv hU hV
section Wri3
variable {M : Mm} {X p n w i kk r h f0 : Nat}
theorem ws_c (C : SC M X p n w i kk r h f0) (hk : kk < 2 ^ 30) {M' : Mm} {s0 : Bs} {P U V : Nat} (W : VC X kk M M') (g0 : gd s0) (h0 : s0.2 ≤ 60) (kP : mK M' P = 8) (rU : mR M' 700 P = some U) (rV : mR M' 701 P = some V) (kU : mK M' U = 20) (nU : mN M' U = 8) (kV : mK M' V = 20) (nV : mN M' V = 8) (hUV : ¬ U = V) (hU : X + 270 ≤ U) (hV : X + 270 ≤ V) :
    ∃ g1 g2, f_X9_writeShort_L31 1000 (pS M' X s0) (aSq X i) (X + 1) (X + 6) (X + 212) P 0 = some (pS (uv M' U V g1 g2) X (apx (bs (stS M X (lsn M X i kk f0 h)) s0 p) (nI (sm8 (mB M (X + 7)) p)).toInt64 8)) ∧ ∀ f, f < p → rub M X f = true → g1 f = nI (lsn M X i kk f0 h f) ∧ g2 f = msn M X i kk f0 h f (lsn M X i kk f0 h f) := by
  obtain ⟨hi, hw, hP, hD, hQ⟩ := id C
  have p8 := hP.1
  have d10 : ¬ (1 : Int32) = 0 := by decide
  have hL : ∀ f, f < p → lsn M X i kk f0 h f ≤ 32 := by
    intro f hf
    obtain ⟨-, -, -, ⟨wd, w1, w2, w3⟩, -⟩ := hP.2.2.2 f hf
    have := (ls_spec C hf w3 w1 w2).1
    omega
  have main : ∀ d f fu g1 g2, f + d = p → d < fu → (∀ f', f' < f → rub M X f' = true → g1 f' = nI (lsn M X i kk f0 h f') ∧ g2 f' = msn M X i kk f0 h f' (lsn M X i kk f0 h f')) → ∃ k1 k2, f_X9_writeShort_L31 fu (pS (uv M' U V g1 g2) X (bs (stS M X (lsn M X i kk f0 h)) s0 f)) (aSq X i) (X + 1) (X + 6) (X + 212) P (nI f) = some (pS (uv M' U V k1 k2) X (apx (bs (stS M X (lsn M X i kk f0 h)) s0 p) (nI (sm8 (mB M (X + 7)) p)).toInt64 8)) ∧ ∀ f, f < p → rub M X f = true → k1 f = nI (lsn M X i kk f0 h f) ∧ k2 f = msn M X i kk f0 h f (lsn M X i kk f0 h f) := by
    intro d
    induction d with
    | zero =>
      intro f fu g1 g2 e1 e2 hg
      obtain ⟨fu, rfl⟩ : ∃ k, fu = k + 1 := ⟨fu - 1, by omega⟩
      have ef : f = p := by omega
      subst ef
      refine ⟨g1, g2, ?_, hg⟩
      obtain ⟨b1, b2, b3⟩ := bs_ok (stS_ok hP hL) g0 f (Nat.le_refl _)
      generalize bs (stS M X (lsn M X i kk f0 h)) s0 f = s at b1 b2 b3
      have W1 : VC X kk M (uv M' U V g1 g2) := VC_uv W (by omega) (by omega)
      have V1 : VC X kk M (pS (uv M' U V g1 g2) X s) := VC_pS W1
      have hS1 := V1.1
      have p1 : mI (pS (uv M' U V g1 g2) X s) 604 (X + 1) = nI f := by rw [V1.2.1 _ _ (by omega) (by omega)]; exact hP.2.1
      have e8 : f_X5_write (pS (uv M' U V g1 g2) X s) (X + 212) (nI (sm8 (mB M (X + 7)) f)).toInt64 8 = _ := wrS (c := 8) W1.1 b1 (by omega) (by decide)
      rw [f_X9_writeShort_L31, gi_1 hS1, ob_eq, p1, if_pos (nI_le (Nat.le_refl _) (by omega)), sum_c (v := mB M (X + 7)) hS1 p1 p8 (r_6_300 hS1) (fun f hf => by rw [aj_7 hS1 (by omega), V1.2.2.2.1 _ (by omega)]), ob_eq, e8, ob_eq]
    | succ d ih =>
      intro f fu g1 g2 e1 e2 hg
      obtain ⟨fu, rfl⟩ : ∃ k, fu = k + 1 := ⟨fu - 1, by omega⟩
      have hf : f < p := by omega
      have f8 : f < 8 := by omega
      have hbs : bs (stS M X (lsn M X i kk f0 h)) s0 (f + 1) = stS M X (lsn M X i kk f0 h) f (bs (stS M X (lsn M X i kk f0 h)) s0 f) := rfl
      obtain ⟨b1, b2, b3⟩ := bs_ok (stS_ok hP hL) g0 f (by omega)
      generalize bs (stS M X (lsn M X i kk f0 h)) s0 f = s at b1 b2 b3 hbs
      have W1 : VC X kk M (uv M' U V g1 g2) := VC_uv W (by omega) (by omega)
      have V1 : VC X kk M (pS (uv M' U V g1 g2) X s) := VC_pS W1
      have hS1 := V1.1
      have p1 : mI (pS (uv M' U V g1 g2) X s) 604 (X + 1) = nI p := by rw [V1.2.1 _ _ (by omega) (by omega)]; exact hP.2.1
      obtain ⟨w1, w2⟩ := wd_in hP hf
      by_cases q : rub M X f = true
      · have l := hL f hf
        have e3 : f_X9_findLeast (pS (uv M' U V g1 g2) X s) (aSq X i) (X + 1) (X + 6) (nI f) P = some (pS (uv M' U V (va_up g1 f (nI (lsn M X i kk f0 h f))) (va_up g2 f (msn M X i kk f0 h f (lsn M X i kk f0 h f)))) X s) := by
          rw [fl_c C hk V1 hf kP rU rV kU nU kV nV hUV (by omega) (by omega), pS_uv (by omega) (by omega), uv_uv hUV, uv_U hUV, uv_V, pS_uv (by omega) (by omega)]
        generalize hN : uv M' U V (va_up g1 f (nI (lsn M X i kk f0 h f))) (va_up g2 f (msn M X i kk f0 h f (lsn M X i kk f0 h f))) = N at e3
        have W2 : VC X kk M N := by rw [← hN]; exact VC_uv W (by omega) (by omega)
        have aU : ∀ {t : Bs}, aI (pS N X t) U (nI f) = some (nI (lsn M X i kk f0 h f)) := by
          intro t
          rw [aI_of (n := 8) (show mK (pS N X t) U = 20 by rw [← hN]; exact kU) (show mN (pS N X t) U = 8 by rw [← hN]; exact nU) f8 (by decide), pS_A (by omega), ← hN, uv_U hUV, vau_eq]
        have gU : ∀ {t : Bs}, gR (pS N X t) 8 700 P = some U := by
          intro t
          exact gR_of (show mK (pS N X t) P = 8 by rw [← hN]; exact kP) (show mR (pS N X t) 700 P = some U by rw [← hN]; exact rU)
        have x1 : f_X5_write (pS N X s) (X + 212) (nI (lsn M X i kk f0 h f)).toInt64 6 = some (pS N X (apx s (lN (lsn M X i kk f0 h f)) 6)) := by
          rw [nI_l (by omega)]
          exact wrS (c := 6) W2.1 b1 (by omega) (by decide)
        have x2 : f_X5_write (pS N X (apx s (lN (lsn M X i kk f0 h f)) 6)) (X + 212) (mB M (X + 7) f) (nI (lsn M X i kk f0 h f)) = some (pS N X (stS M X (lsn M X i kk f0 h) f s)) := by
          unfold stS
          rw [if_pos q]
          exact wrS W2.1 (gd_apx b1) (by show s.2 + 6 + lsn M X i kk f0 h f ≤ 480; omega) (by omega)
        have Vx : VC X kk M (pS N X (apx s (lN (lsn M X i kk f0 h f)) 6)) := VC_pS W2
        obtain ⟨k1, k2, c1, c2⟩ := ih (f + 1) fu (va_up g1 f (nI (lsn M X i kk f0 h f))) (va_up g2 f (msn M X i kk f0 h f (lsn M X i kk f0 h f))) (by omega) (by omega) (by
          intro f' hf' hr
          by_cases e : f' = f
          · subst e; rw [vau_eq, vau_eq]; exact ⟨rfl, rfl⟩
          · rw [vau_ne e, vau_ne e]; exact hg f' (by omega) hr)
        rw [hN, hbs] at c1
        refine ⟨k1, k2, ?_, c2⟩
        rw [f_X9_writeShort_L31, gi_1 hS1, ob_eq, p1, if_neg (nI_ge hf (by omega)), hs_in hS1 p1 p8 hf, ob_eq, V1.2.2.1 _ (by omega), rub_if, if_pos q, if_neg d10, e3, ob_eq, gU, ob_eq, aU, ob_eq, x1, ob_eq, r_6_300 Vx.1, ob_eq, aj_7 Vx.1 f8, ob_eq, Vx.2.2.2.1 _ (by omega), gU, ob_eq, aU, ob_eq, x2, ob_eq]
        unfold f_X9_writeShort_J125
        rw [nI_1]
        exact c1
      · obtain ⟨k1, k2, c1, c2⟩ := ih (f + 1) fu g1 g2 (by omega) (by omega) (by
          intro f' hf' hr
          by_cases e : f' = f
          · subst e; exact absurd hr q
          · exact hg f' (by omega) hr)
        rw [hbs] at c1
        refine ⟨k1, k2, ?_, c2⟩
        rw [f_X9_writeShort_L31, gi_1 hS1, ob_eq, p1, if_neg (nI_ge hf (by omega)), hs_in hS1 p1 p8 hf, ob_eq, V1.2.2.1 _ (by omega), rub_if, if_neg q, if_pos rfl, r_1_600 hS1, ob_eq, ai_2 hS1 f8, ob_eq, V1.2.2.1 _ (by omega)]
        unfold stS at c1
        rw [if_neg q] at c1
        unfold f_X9_writeShort_J125
        rw [nI_1]
        by_cases q4 : mA M (X + 2) f = 4
        · rw [if_pos q4] at c1
          rw [if_pos q4, r_6_300 hS1, ob_eq, aj_7 hS1 f8, ob_eq, V1.2.2.2.1 _ (by omega), r_1_601 hS1, ob_eq, ai_3 hS1 f8, ob_eq, V1.2.2.1 _ (by omega), w2, wrS W1.1 b1 (by omega) (by omega), ob_eq]
          exact c1
        · rw [if_neg q4] at c1
          rw [if_neg q4]
          exact c1
  obtain ⟨k1, k2, c1, c2⟩ := main p 0 1000 (mA M' U) (mA M' V) (by omega) (by omega) (fun f' hf' => absurd hf' (Nat.not_lt_zero _))
  have e : uv M' U V (mA M' U) (mA M' V) = M' := by
    unfold uv
    rw [sA_self M' U (fun j => rfl), sA_self M' V (fun j => rfl)]
  rw [e] at c1
  exact ⟨k1, k2, c1, c2⟩
end Wri3
