/-! The header that comes: rebuilt by the class, opened by the reference. -/
def gX (Q : Mm) (X i u f : Nat) (h : Nat → Int64) : Int64 :=
  if mA Q (X + 2) f = 0 then mB Q (aCv X i) f
  else if mA Q (X + 2) f = 1 then (h (ix (mA Q (X + 4) f)) + (mA Q (X + 5) f).toInt64) &&& mk (mA Q (X + 3) f)
  else if mA Q (X + 2) f = 2 then (mB Q (aCv X i) f + (nI u - mI Q 301 (aCh X i)).toInt64 * (mA Q (aCs X i) f).toInt64) &&& mk (mA Q (X + 3) f)
  else if mA Q (X + 2) f = 3 then (mB Q (aCv X i) f + (nI u - mI Q 301 (aCh X i)).toInt64 * (mA Q (aCs X i) f).toInt64 * (mA Q (X + 5) f).toInt64) &&& mk (mA Q (X + 3) f)
  else 0
def nvX (Q : Mm) (X i u : Nat) (h : Nat → Int64) (f : Nat) : Int64 := if mA Q (X + 218) f = 2 then mB Q (X + 220) f else if mA Q (X + 218) f = 1 then fo (mA Q (X + 3) f) (gX Q X i u f h) (mA Q (X + 219) f) (mB Q (X + 220) f) else gX Q X i u f h
def hro (Q : Mm) (X i u : Nat) (h0 : Nat → Int64) : Nat → Nat → Int64
  | 0 => h0
  | f + 1 => va_up (hro Q X i u h0 f) f (nvX Q X i u (hro Q X i u h0 f) f)
theorem hro_lo {Q : Mm} {X i u : Nat} {h0 : Nat → Int64} {f t : Nat} (h : f ≤ t) : hro Q X i u h0 f t = h0 t := by
  induction f with
  | zero => rfl
  | succ f ih =>
    show va_up _ f _ t = _
    rw [vau_ne (by omega)]
    exact ih (by omega)
theorem hro_st {Q : Mm} {X i u : Nat} {h0 : Nat → Int64} {f t : Nat} : ∀ d, t < f → hro Q X i u h0 (f + d) t = hro Q X i u h0 f t
  | 0, _ => rfl
  | d + 1, h => by
    show va_up (hro Q X i u h0 (f + d)) (f + d) _ t = _
    rw [vau_ne (by omega)]
    exact hro_st d h
section Opn
variable {Q R : Mm} {X p i u : Nat}
theorem nv_ag (hP : IP Q X p) {f : Nat} (hf : f < p) {h h' : Nat → Int64} (e : ∀ t, t < f → h t = h' t) : nvX Q X i u h f = nvX Q X i u h' f := by
  obtain ⟨-, -, -, -, -, ft⟩ := hP.2.2.2 f hf
  have eg : gX Q X i u f h = gX Q X i u f h' := by
    unfold gX
    by_cases c : mA Q (X + 2) f = 1
    · obtain ⟨-, t, ht, et⟩ := ft c
      have p8 := hP.1
      rw [et, ix_nI (by omega), e t ht]
    · rw [if_neg c, if_neg c]
  unfold nvX
  rw [eg]
theorem hro_ag (hP : IP Q X p) {h0 h0' : Nat → Int64} : ∀ f, f ≤ p → ∀ t, t < f → hro Q X i u h0 f t = hro Q X i u h0' f t
  | 0, _ => fun t h => absurd h (Nat.not_lt_zero _)
  | f + 1, hf => by
    intro t ht
    show va_up (hro Q X i u h0 f) f _ t = va_up (hro Q X i u h0' f) f _ t
    by_cases e : t = f
    · subst e
      rw [vau_eq, vau_eq]
      exact nv_ag hP (by omega) (hro_ag hP t (by omega))
    · rw [vau_ne e, vau_ne e]
      exact hro_ag hP f (by omega) t (by omega)
theorem gxc (hS : St Q X) (hi : i < 8) (hP : IP Q X p) {f : Nat} (hf : f < p) (hu : mI Q 301 (X + 215) = nI u) {h : Nat → Int64} : f_X6_given (sB Q (X + 216) h) (X + 1) (nI f) (aCh X i) (aCs X i) (X + 215) = some (gX Q X i u f h) := by
  have S : St (sB Q (X + 216) h) X := St_sB hS
  have p8 := hP.1
  have f8 : f < 8 := by omega
  obtain ⟨-, -, -, -, -, ft⟩ := hP.2.2.2 f hf
  have ev : ¬ aCv X i = X + 216 := by unfold aCv; omega
  unfold f_X6_given
  rw [if_pos (k_1 S), gi_215 S, ob_eq, mI_sB, hu, gi_aCh S hi, ob_eq, mI_sB, ai_aCs S hi f8, ob_eq, mA_sB, r_1_600 S, ob_eq, ai_2 S f8, ob_eq, mA_sB]
  unfold gX
  by_cases q0 : mA Q (X + 2) f = 0
  · rw [if_pos q0, if_pos q0, r_aCh_300 S hi, ob_eq, aj_aCv S hi f8, ob_eq, mB_sB, if_neg ev]
  rw [if_neg q0, if_neg q0]
  by_cases q1 : mA Q (X + 2) f = 1
  · obtain ⟨-, t, ht, et⟩ := ft q1
    rw [if_pos q1, if_pos q1, r_215_300 S, ob_eq, r_1_602 S, ob_eq, ai_4 S f8, ob_eq, mA_sB, et, aj_216 S (by omega), ob_eq, mB_sB, if_pos rfl, r_1_603 S, ob_eq, ai_5 S f8, ob_eq, mA_sB, lb_in S f8, ob_eq, mA_sB, ix_nI (by omega)]
  rw [if_neg q1, if_neg q1]
  by_cases q2 : mA Q (X + 2) f = 2
  · rw [if_pos q2, if_pos q2, r_aCh_300 S hi, ob_eq, aj_aCv S hi f8, ob_eq, mB_sB, if_neg ev, lb_in S f8, ob_eq, mA_sB]
  rw [if_neg q2, if_neg q2]
  by_cases q3 : mA Q (X + 2) f = 3
  · rw [if_pos q3, if_pos q3, r_aCh_300 S hi, ob_eq, aj_aCv S hi f8, ob_eq, mB_sB, if_neg ev, r_1_603 S, ob_eq, ai_5 S f8, ob_eq, mA_sB, lb_in S f8, ob_eq, mA_sB]
  rw [if_neg q3, if_neg q3]
theorem rb_c (hS : St Q X) (hi : i < 8) (hP : IP Q X p) (hu : mI Q 301 (X + 215) = nI u) : f_X0_rebuild Q (X + 214) (X + 1) (aCx X i) = some (sB Q (X + 216) (hro Q X i u (mB Q (X + 216)) p)) := by
  have p8 := hP.1
  unfold f_X0_rebuild
  rw [if_pos (k_214 hS)]
  have e := loop_run (fun fu f => f_X0_rebuild_L2 fu (sB Q (X + 216) (hro Q X i u (mB Q (X + 216)) f)) (X + 214) (X + 1) (aCx X i) (nI f)) p (some (sB Q (X + 216) (hro Q X i u (mB Q (X + 216)) p)))
    (fun f fu hf => by
      show f_X0_rebuild_L2 (fu + 1) (sB Q (X + 216) (hro Q X i u (mB Q (X + 216)) f)) (X + 214) (X + 1) (aCx X i) (nI f) = f_X0_rebuild_L2 fu (sB Q (X + 216) (va_up (hro Q X i u (mB Q (X + 216)) f) f (nvX Q X i u (hro Q X i u (mB Q (X + 216)) f) f))) (X + 214) (X + 1) (aCx X i) (nI (f + 1))
      generalize hro Q X i u (mB Q (X + 216)) f = h
      have S : St (sB Q (X + 216) h) X := St_sB hS
      have f8 : f < 8 := by omega
      have fin : ∀ v : Int64, f_X0_rebuild_J79 (f_X0_rebuild_L2 fu) (sB Q (X + 216) h) (X + 214) (X + 1) (aCx X i) (nI f) v = f_X0_rebuild_L2 fu (sB Q (X + 216) (va_up h f v)) (X + 214) (X + 1) (aCx X i) (nI (f + 1)) := by
        intro v
        unfold f_X0_rebuild_J79
        rw [r_214_0 S, ob_eq, r_215_300 S, ob_eq, wj_216 S f8, ob_eq, nI_1, sB_sB, mB_sB, if_pos rfl]
      rw [f_X0_rebuild_L2, gi_1 S, ob_eq, mI_sB, hP.2.1, if_neg (nI_ge hf (by omega)), r_214_4 S, ob_eq, aj_220 S f8, ob_eq, mB_sB, if_neg (by omega : ¬ X + 220 = X + 216), r_214_2 S, ob_eq, ai_218 S f8, ob_eq, mA_sB]
      unfold nvX f_X0_rebuild_J77
      by_cases c2 : mA Q (X + 218) f = 2
      · rw [if_pos c2, if_pos c2, fin]
      · rw [if_neg c2, if_neg c2, r_aCx_100 S hi, ob_eq, r_aCx_101 S hi, ob_eq, r_214_0 S, ob_eq, gxc hS hi hP hf hu, ob_eq, ob_eq, ai_218 S f8, ob_eq, mA_sB]
        by_cases c1 : mA Q (X + 218) f = 1
        · rw [if_pos c1, if_pos c1, r_214_3 S, ob_eq, ai_219 S f8, ob_eq, mA_sB, fo_c S f8, ob_eq, fin, mA_sB]
        · rw [if_neg c1, if_neg c1, fin])
    (fun fu => by
      show f_X0_rebuild_L2 (fu + 1) (sB Q (X + 216) (hro Q X i u (mB Q (X + 216)) p)) (X + 214) (X + 1) (aCx X i) (nI p) = _
      rw [f_X0_rebuild_L2, gi_1 (St_sB hS), ob_eq, mI_sB, hP.2.1, if_pos (nI_le (Nat.le_refl _) (by omega))]) 1000 (by omega)
  have e0 : sB Q (X + 216) (hro Q X i u (mB Q (X + 216)) 0) = Q := sB_self _ _ (fun j => rfl)
  rw [e0] at e
  exact e
/-- the context, as both have it -/
def CXT (Q R : Mm) (X p i : Nat) : Prop := mA R (X + 253) i = mI Q 301 (aCh X i) ∧ ∀ f, f < p → mA R (X + 255) (8 * i + f) = mA Q (aCs X i) f ∧ mB R (X + 256) (8 * i + f) = mB Q (aCv X i) f
theorem op_r (V : RV X Q R) (hi : i < 8) (hP : IP Q X p) (h0 : ∀ f, f < p → mA R (X + 260) f = mA Q (X + 218) f) (h1 : ∀ f, f < p → mA Q (X + 218) f = 1 → mA R (X + 261) f = mA Q (X + 219) f ∧ ∃ ln, ln ≤ wdx Q X f ∧ mA Q (X + 219) f = nI ln) (h2 : ∀ f, f < p → (mA Q (X + 218) f = 1 ∨ mA Q (X + 218) f = 2) → mB R (X + 262) f = mB Q (X + 220) f) (hc : CXT Q R X p i ∨ ∀ f, f < p → mA Q (X + 218) f = 2) : f_X11_open R (X + 226) (nI i) (nI u) = some (sB R (X + 264) (hro Q X i u (mB R (X + 264)) p)) := by
  have p8 := hP.1
  have hS := V.1
  unfold f_X11_open
  rw [if_pos (k_226 hS)]
  have e := loop_run (fun fu f => f_X11_open_L2 fu (sB R (X + 264) (hro Q X i u (mB R (X + 264)) f)) (X + 226) (nI i) (nI u) (nI f)) p (some (sB R (X + 264) (hro Q X i u (mB R (X + 264)) p)))
    (fun f fu hf => by
      show f_X11_open_L2 (fu + 1) (sB R (X + 264) (hro Q X i u (mB R (X + 264)) f)) (X + 226) (nI i) (nI u) (nI f) = f_X11_open_L2 fu (sB R (X + 264) (va_up (hro Q X i u (mB R (X + 264)) f) f (nvX Q X i u (hro Q X i u (mB R (X + 264)) f) f))) (X + 226) (nI i) (nI u) (nI (f + 1))
      generalize hro Q X i u (mB R (X + 264)) f = h
      have f8 : f < 8 := by omega
      have V1 : RV X Q (sB R (X + 264) h) := ⟨St_sB hS, V.2.1, fun o ho => by rw [mB_sB, if_neg (by omega)]; exact V.2.2.1 o ho, V.2.2.2⟩
      have S := V1.1
      obtain ⟨k1, k2, ⟨kd, k3, ek⟩, ⟨wd, wd1, wd2, wd3⟩, k5, ft⟩ := hP.2.2.2 f hf
      have ew : wdx Q X f = wd := by unfold wdx; rw [wd3]; exact ix_nI (by omega)
      have fin : ∀ v : Int64, f_X11_open_J141 (f_X11_open_L2 fu) (sB R (X + 264) h) (X + 226) (nI i) (nI u) (nI f) (X + 264) (nI f) v = f_X11_open_L2 fu (sB R (X + 264) (va_up h f v)) (X + 226) (nI i) (nI u) (nI (f + 1)) := by
        intro v
        unfold f_X11_open_J141
        rw [wj_264 S f8, ob_eq, nI_1, sB_sB, mB_sB, if_pos rfl]
      have mid : ∀ g : Int64, (¬ mA Q (X + 218) f = 2 → g = gX Q X i u f h) → f_X11_open_J81 (f_X11_open_L2 fu) (sB R (X + 264) h) (X + 226) (nI i) (nI u) (nI f) g = f_X11_open_L2 fu (sB R (X + 264) (va_up h f (nvX Q X i u h f))) (X + 226) (nI i) (nI u) (nI (f + 1)) := by
        intro g hg
        unfold f_X11_open_J81 nvX
        rw [r_226_1152 S, ob_eq, r_226_1146 S, ob_eq, ai_260 S f8, ob_eq, mA_sB, h0 f hf]
        by_cases c2 : mA Q (X + 218) f = 2
        · rw [if_pos c2, if_pos c2, r_226_1148 S, ob_eq, aj_262 S f8, ob_eq, mB_sB, if_neg (by omega : ¬ X + 262 = X + 264), h2 f hf (Or.inr c2), fin]
        · rw [if_neg c2, if_neg c2, hg c2, ob_eq, ai_260 S f8, ob_eq, mA_sB, h0 f hf]
          by_cases c1 : mA Q (X + 218) f = 1
          · obtain ⟨x1, ln, x2, x3⟩ := h1 f hf c1
            have ef : f_X11_found (sB R (X + 264) h) (X + 226) (nI f) (gX Q X i u f h) (nI ln) (mB Q (X + 220) f) = some (fo (nI wd) (gX Q X i u f h) (nI ln) (mB Q (X + 220) f)) := fo_f S f8 (by rw [V1.2.1 228 (by omega), k2, wd3]) (by omega) wd2
            rw [if_pos c1, if_pos c1, r_226_1147 S, ob_eq, ai_261 S f8, ob_eq, mA_sB, x1, r_226_1148 S, ob_eq, aj_262 S f8, ob_eq, mB_sB, if_neg (by omega : ¬ X + 262 = X + 264), h2 f hf (Or.inl c1), x3, ef, ob_eq, fin, wd3]
          · rw [if_neg c1, if_neg c1, fin]
      rw [f_X11_open_L2, gi_226 S, ob_eq, V1.2.2.2, hP.2.2.1, if_neg (nI_ge hf (by omega)), r_226_1102 S, ob_eq, kd_r V1 hP hf, ob_eq]
      by_cases c1 : mA Q (X + 2) f = 1
      · obtain ⟨t1, t, ht, et⟩ := ft c1
        rw [if_pos c1, r_226_1152 S, ob_eq, r_226_1104 S, ob_eq, ai_229 S f8, ob_eq, V1.2.1 229 (by omega), t1, et, aj_264 S (by omega), ob_eq, mB_sB, if_pos rfl, r_226_1105 S, ob_eq, aj_230 S f8, ob_eq, V1.2.2.1 230 (by omega), k5, ct_in S f8, ob_eq, V1.2.1 228 (by omega), k2]
        refine mid _ (fun _ => ?_)
        unfold gX
        rw [if_neg (by rw [c1]; decide), if_pos c1, et, ix_nI (by omega)]
      · have eo : ∀ (own : Int64) (b s : Int32), f_X11_onwards (sB R (X + 264) h) (X + 226) (nI f) own b s = some (if mA Q (X + 2) f = 4 then 0 else if 2 ≤ mA Q (X + 2) f then (if mA Q (X + 2) f = 3 then (own + b.toInt64 * s.toInt64 * (mA Q (X + 5) f).toInt64) &&& mk (mA Q (X + 3) f) else (own + b.toInt64 * s.toInt64 * 1) &&& mk (mA Q (X + 3) f)) else own) := by
          intro own b s
          unfold f_X11_onwards f_X11_onwards_J54
          rw [if_pos (k_226 S), r_226_1102 S, ob_eq, kd_r V1 hP hf, ob_eq]
          by_cases c4 : mA Q (X + 2) f = 4
          · rw [if_pos c4, if_pos c4]
          rw [if_neg c4, if_neg c4, ob_eq, kd_r V1 hP hf, ob_eq]
          by_cases c2 : 2 ≤ mA Q (X + 2) f
          rotate_left
          · rw [if_neg c2, if_neg c2]
          rw [if_pos c2, if_pos c2, ob_eq, kd_r V1 hP hf, ob_eq]
          by_cases c3 : mA Q (X + 2) f = 3
          · rw [if_pos c3, if_pos c3, r_226_1105 S, ob_eq, aj_230 S f8, ob_eq, V1.2.2.1 230 (by omega), k5, ct_in S f8, ob_eq, V1.2.1 228 (by omega), k2]
          · rw [if_neg c3, if_neg c3, ct_in S f8, ob_eq, V1.2.1 228 (by omega), k2]
        rw [if_neg c1, r_226_1134 S, ob_eq, m8, nI_add, aj_256 S (by omega), ob_eq, mB_sB, if_neg (by omega : ¬ X + 256 = X + 264), r_226_1131 S, ob_eq, ai_253 S hi, ob_eq, mA_sB, r_226_1133 S, ob_eq, ai_255 S (by omega), ob_eq, mA_sB, eo, ob_eq]
        refine mid _ (fun hn => ?_)
        rcases hc with hc | hc
        · rw [(hc.2 f hf).1, (hc.2 f hf).2, hc.1]
          unfold gX
          have hk : kd = 0 ∨ kd = 1 ∨ kd = 2 ∨ kd = 3 ∨ kd = 4 := by omega
          rcases hk with rfl | rfl | rfl | rfl | rfl
          · rw [ek, if_neg (show ¬ nI 0 = 4 by decide), if_neg (show ¬ (2 : Int32) ≤ nI 0 by decide), if_pos (show nI 0 = 0 from rfl)]
          · exact absurd ek c1
          · rw [ek, if_neg (show ¬ nI 2 = 4 by decide), if_pos (show (2 : Int32) ≤ nI 2 by decide), if_neg (show ¬ nI 2 = 3 by decide), if_neg (show ¬ nI 2 = 0 by decide), if_neg (show ¬ nI 2 = 1 by decide), if_pos (show nI 2 = 2 from rfl), Int64.mul_one]
          · rw [ek, if_neg (show ¬ nI 3 = 4 by decide), if_pos (show (2 : Int32) ≤ nI 3 by decide), if_pos (show nI 3 = 3 from rfl), if_neg (show ¬ nI 3 = 0 by decide), if_neg (show ¬ nI 3 = 1 by decide), if_neg (show ¬ nI 3 = 2 by decide), if_pos (show nI 3 = 3 from rfl)]
          · rw [ek, if_pos (show nI 4 = 4 from rfl), if_neg (show ¬ nI 4 = 0 by decide), if_neg (show ¬ nI 4 = 1 by decide), if_neg (show ¬ nI 4 = 2 by decide), if_neg (show ¬ nI 4 = 3 by decide)]
        · exact absurd (hc f hf) hn)
    (fun fu => by
      show f_X11_open_L2 (fu + 1) (sB R (X + 264) (hro Q X i u (mB R (X + 264)) p)) (X + 226) (nI i) (nI u) (nI p) = _
      rw [f_X11_open_L2, gi_226 (St_sB hS), ob_eq, mI_sB, V.2.2.2, hP.2.2.1, if_pos (nI_le (Nat.le_refl _) (by omega))]) 1000 (by omega)
  have e0 : sB R (X + 264) (hro Q X i u (mB R (X + 264)) 0) = R := sB_self _ _ (fun j => rfl)
  rw [e0] at e
  exact e
theorem sm8_ag {v v' : Nat → Int64} : ∀ {p : Nat}, (∀ f, f < p → v f = v' f) → sm8 v p = sm8 v' p
  | 0, _ => rfl
  | p + 1, h => by
    show (sm8 v p * 31 + tN (v p)) % 256 = (sm8 v' p * 31 + tN (v' p)) % 256
    rw [sm8_ag (fun f hf => h f (by omega)), h p (by omega)]
theorem un_r (hS : St R X) (p1 : mI R 1101 (X + 226) = nI p) (p8 : p ≤ 8) {s : Nat} (hs : s < 256) (hj : mJ R 1151 (X + 226) = lN s) : f_X11_isUnlike R (X + 226) = some (if sm8 (mB R (X + 264)) p = s then 0 else 1) := by
  unfold f_X11_isUnlike
  rw [if_pos (k_226 hS)]
  exact loop_run (fun fu f => f_X11_isUnlike_L5 R fu (X + 226) (nI (sm8 (mB R (X + 264)) f)) (nI f)) p _
    (fun f fu hf => by
      show f_X11_isUnlike_L5 R (fu + 1) (X + 226) (nI (sm8 (mB R (X + 264)) f)) (nI f) = f_X11_isUnlike_L5 R fu (X + 226) (nI ((sm8 (mB R (X + 264)) f * 31 + tN (mB R (X + 264) f)) % 256)) (nI (f + 1))
      rw [f_X11_isUnlike_L5, gi_226 hS, ob_eq, p1, if_neg (nI_ge hf (by omega)), r_226_1152 hS, ob_eq, aj_264 hS (by omega), ob_eq, s11 hS (sm8_lt f), ob_eq, nI_1])
    (fun fu => by
      show f_X11_isUnlike_L5 R (fu + 1) (X + 226) (nI (sm8 (mB R (X + 264)) p)) (nI p) = _
      have hl := sm8_lt (v := mB R (X + 264)) p
      rw [f_X11_isUnlike_L5, gi_226 hS, ob_eq, p1, if_pos (nI_le (Nat.le_refl _) (by omega)), gJ_of (k_226 hS), ob_eq, hj, nI_l (by omega)]
      have kq : (lg_cmp (lN (sm8 (mB R (X + 264)) p)) (lN s) = 0) ↔ sm8 (mB R (X + 264)) p = s := by rw [lgc_eq]; exact pk_lEQ (by omega) (by omega)
      by_cases c : sm8 (mB R (X + 264)) p = s
      · rw [if_pos (kq.mpr c), if_pos c]
      · rw [if_neg (fun q => c (kq.mp q)), if_neg c]) 1000 (by omega)
end Opn
