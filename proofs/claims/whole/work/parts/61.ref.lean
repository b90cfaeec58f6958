/-! The reference's references: drop, refer. -/
theorem sA_sB (M : Mm) (a b : Nat) (g : Nat → Int64) (g2 : Nat → Int32) : sA (sB M b g) a g2 = sB (sA M a g2) b g := rfl
def hx (b0 : Nat → Int64) (i p d j f : Nat) : Nat → Int64 := fun x => if (72 * i ≤ x ∧ x < 72 * i + 8 * j ∧ x % 8 < p) ∨ (72 * i + 8 * j ≤ x ∧ x < 72 * i + 8 * j + f) then b0 (x + 8 * d) else b0 x
theorem hx_s {b0 : Nat → Int64} {i p d j f : Nat} : va_up (hx b0 i p d j f) (72 * i + 8 * j + f) (b0 (72 * i + 8 * j + f + 8 * d)) = hx b0 i p d j (f + 1) := by
  funext x
  by_cases q : x = 72 * i + 8 * j + f
  · subst q
    rw [vau_eq]
    unfold hx
    rw [if_pos (by omega)]
  · rw [vau_ne q]
    unfold hx
    by_cases c : (72 * i ≤ x ∧ x < 72 * i + 8 * j ∧ x % 8 < p) ∨ (72 * i + 8 * j ≤ x ∧ x < 72 * i + 8 * j + f)
    · rw [if_pos c, if_pos (by omega)]
    · rw [if_neg c, if_neg (by omega)]
theorem hx_n {b0 : Nat → Int64} {i p d j : Nat} (hp : p ≤ 8) : hx b0 i p d j p = hx b0 i p d (j + 1) 0 := by
  funext x
  unfold hx
  by_cases c : (72 * i ≤ x ∧ x < 72 * i + 8 * j ∧ x % 8 < p) ∨ (72 * i + 8 * j ≤ x ∧ x < 72 * i + 8 * j + p)
  · rw [if_pos c, if_pos (by omega)]
  · rw [if_neg c, if_neg (by omega)]
theorem d49 {K : Mm → Nat → Int32 → Int32 → Int32 → Option Mm} {Q : Mm} {X i p d j : Nat} {b0 : Nat → Int64} {x1 : Int32} (hS : St Q X) (p1 : mI Q 1101 (X + 226) = nI p) (p8 : p ≤ 8) (hi : i < 8) (hd : j + d ≤ 8) : f_X11_drop_L49 K 1000 (sB Q (X + 238) (hx b0 i p d j 0)) (X + 226) x1 (nI d) (nI j) (nI (9 * i + j)) 0 = K (sB Q (X + 238) (hx b0 i p d (j + 1) 0)) (X + 226) x1 (nI d) (nI (j + 1)) := by
  exact loop_run (fun fu f => f_X11_drop_L49 K fu (sB Q (X + 238) (hx b0 i p d j f)) (X + 226) x1 (nI d) (nI j) (nI (9 * i + j)) (nI f)) p _
    (fun f fu hf => by
      show f_X11_drop_L49 K (fu + 1) (sB Q (X + 238) (hx b0 i p d j f)) (X + 226) x1 (nI d) (nI j) (nI (9 * i + j)) (nI f) = f_X11_drop_L49 K fu (sB Q (X + 238) (hx b0 i p d j (f + 1))) (X + 226) x1 (nI d) (nI j) (nI (9 * i + j)) (nI (f + 1))
      have S1 : St (sB Q (X + 238) (hx b0 i p d j f)) X := St_sB hS
      have e1 : mB (sB Q (X + 238) (hx b0 i p d j f)) (X + 238) (8 * (9 * i + j) + 8 * d + f) = b0 (72 * i + 8 * j + f + 8 * d) := by
        rw [mB_sB, if_pos rfl]
        unfold hx
        rw [if_neg (by omega)]
        congr 1; omega
      rw [f_X11_drop_L49, gi_226 S1, ob_eq, mI_sB, p1, if_neg (nI_ge hf (by omega)), r_226_1115 S1, ob_eq, ob_eq, m8, m8, nI_add, nI_add, aj_238 S1 (by omega), ob_eq, e1, nI_add, wj_238 S1 (by omega), ob_eq, nI_1, sB_sB, mB_sB, if_pos rfl, show 8 * (9 * i + j) + f = 72 * i + 8 * j + f by omega, hx_s])
    (fun fu => by
      show f_X11_drop_L49 K (fu + 1) (sB Q (X + 238) (hx b0 i p d j p)) (X + 226) x1 (nI d) (nI j) (nI (9 * i + j)) (nI p) = _
      rw [f_X11_drop_L49, gi_226 (St_sB hS), ob_eq, mI_sB, p1, if_pos (nI_le (Nat.le_refl _) (by omega)), nI_1, hx_n p8]) 1000 (by omega)
def TAr (X i : Nat) : Nat → Nat → Prop := fun a j => (a = X + 236 ∧ j = i) ∨ (a = X + 237 ∧ 9 * i ≤ j ∧ j < 9 * i + 9)
def TBr (X i : Nat) : Nat → Nat → Prop := fun a j => a = X + 238 ∧ 72 * i ≤ j ∧ j < 72 * i + 72
theorem drop_r {R : Mm} {X i p d hh : Nat} (hS : St R X) (p1 : mI R 1101 (X + 226) = nI p) (p8 : p ≤ 8) (hi : i < 8) (hd : d ≤ hh) (h9 : hh ≤ 9) (h36 : mA R (X + 236) i = nI hh) :
    f_X11_drop R (X + 226) (nI i) (nI d) = some (sB (sA (sU R (X + 236) i (nI (hh - d))) (X + 237) (wr (mA R (X + 237)) (9 * i) (hh - d) (fun j => mA R (X + 237) (9 * i + j + d)))) (X + 238) (hx (mB R (X + 238)) i p d (hh - d) 0)) := by
  generalize hQ : sU R (X + 236) i (nI (hh - d)) = Q
  have SQ : St Q X := by rw [← hQ]; exact St_sU hS
  have q36 : mA Q (X + 236) i = nI (hh - d) := by rw [← hQ, mA_sUi]
  have q37 : mA Q (X + 237) = mA R (X + 237) := by rw [← hQ, mA_sUx (by omega)]
  have qB : mB Q = mB R := by rw [← hQ, mB_sU]
  have q1 : mI Q 1101 (X + 226) = nI p := by rw [← hQ, mI_sU]; exact p1
  unfold f_X11_drop
  rw [if_pos (k_226 hS), r_226_1113 hS, ob_eq, ai_236 hS hi, ob_eq, h36, pk_sub hd, wi_236 hS hi, ob_eq, sU_def, hQ]
  have e := loop_run (fun fu j => f_X11_drop_L12 fu (sB (sA Q (X + 237) (wr (mA R (X + 237)) (9 * i) j (fun j => mA R (X + 237) (9 * i + j + d)))) (X + 238) (hx (mB R (X + 238)) i p d j 0)) (X + 226) (nI i) (nI d) (nI j)) (hh - d) (some (sB (sA Q (X + 237) (wr (mA R (X + 237)) (9 * i) (hh - d) (fun j => mA R (X + 237) (9 * i + j + d)))) (X + 238) (hx (mB R (X + 238)) i p d (hh - d) 0)))
    (fun j fu hj => by
      show f_X11_drop_L12 (fu + 1) (sB (sA Q (X + 237) (wr (mA R (X + 237)) (9 * i) j (fun j => mA R (X + 237) (9 * i + j + d)))) (X + 238) (hx (mB R (X + 238)) i p d j 0)) (X + 226) (nI i) (nI d) (nI j) = f_X11_drop_L12 fu (sB (sA Q (X + 237) (wr (mA R (X + 237)) (9 * i) (j + 1) (fun j => mA R (X + 237) (9 * i + j + d)))) (X + 238) (hx (mB R (X + 238)) i p d (j + 1) 0)) (X + 226) (nI i) (nI d) (nI (j + 1))
      have S1 : St (sB (sA Q (X + 237) (wr (mA R (X + 237)) (9 * i) j (fun j => mA R (X + 237) (9 * i + j + d)))) (X + 238) (hx (mB R (X + 238)) i p d j 0)) X := St_sB (St_sA SQ)
      have e1 : mA (sB (sA Q (X + 237) (wr (mA R (X + 237)) (9 * i) j (fun j => mA R (X + 237) (9 * i + j + d)))) (X + 238) (hx (mB R (X + 238)) i p d j 0)) (X + 237) (9 * i + j + d) = mA R (X + 237) (9 * i + j + d) := by
        rw [mA_sB, mA_sA, if_pos rfl, wr_out (by omega)]
      have e2 : sA (sB (sA Q (X + 237) (wr (mA R (X + 237)) (9 * i) j (fun j => mA R (X + 237) (9 * i + j + d)))) (X + 238) (hx (mB R (X + 238)) i p d j 0)) (X + 237) (va_up (mA (sB (sA Q (X + 237) (wr (mA R (X + 237)) (9 * i) j (fun j => mA R (X + 237) (9 * i + j + d)))) (X + 238) (hx (mB R (X + 238)) i p d j 0)) (X + 237)) (9 * i + j) (mA R (X + 237) (9 * i + j + d))) = sB (sA Q (X + 237) (wr (mA R (X + 237)) (9 * i) (j + 1) (fun j => mA R (X + 237) (9 * i + j + d)))) (X + 238) (hx (mB R (X + 238)) i p d j 0) := by
        rw [mA_sB, mA_sA, if_pos rfl]
        have := wr_s (mA R (X + 237)) (9 * i) j (fun j => mA R (X + 237) (9 * i + j + d))
        rw [this, sA_sB, sA_sA]
      have e0 : mA (sB (sA Q (X + 237) (wr (mA R (X + 237)) (9 * i) j (fun j => mA R (X + 237) (9 * i + j + d)))) (X + 238) (hx (mB R (X + 238)) i p d j 0)) (X + 236) i = nI (hh - d) := by
        rw [mA_sB, mA_sA, if_neg (by omega)]; exact q36
      rw [f_X11_drop_L12, r_226_1113 S1, ob_eq, ai_236 S1 hi, ob_eq, e0, if_neg (nI_ge hj (by omega)), r_226_1114 S1, ob_eq, ob_eq, m9, nI_add, nI_add, ai_237 S1 (by omega), ob_eq, e1, wi_237 S1 (by omega), ob_eq, e2, d49 (St_sA SQ) (by rw [mI_sA]; exact q1) p8 hi (by omega)])
    (fun fu => by
      show f_X11_drop_L12 (fu + 1) (sB (sA Q (X + 237) (wr (mA R (X + 237)) (9 * i) (hh - d) (fun j => mA R (X + 237) (9 * i + j + d)))) (X + 238) (hx (mB R (X + 238)) i p d (hh - d) 0)) (X + 226) (nI i) (nI d) (nI (hh - d)) = _
      have S1 : St (sB (sA Q (X + 237) (wr (mA R (X + 237)) (9 * i) (hh - d) (fun j => mA R (X + 237) (9 * i + j + d)))) (X + 238) (hx (mB R (X + 238)) i p d (hh - d) 0)) X := St_sB (St_sA SQ)
      have e0 : mA (sB (sA Q (X + 237) (wr (mA R (X + 237)) (9 * i) (hh - d) (fun j => mA R (X + 237) (9 * i + j + d)))) (X + 238) (hx (mB R (X + 238)) i p d (hh - d) 0)) (X + 236) i = nI (hh - d) := by
        rw [mA_sB, mA_sA, if_neg (by omega)]; exact q36
      rw [f_X11_drop_L12, r_226_1113 S1, ob_eq, ai_236 S1 hi, ob_eq, e0, if_pos (nI_le (Nat.le_refl _) (by omega))]) 1000 (by omega)
  have e2 : sB (sA Q (X + 237) (wr (mA R (X + 237)) (9 * i) 0 (fun j => mA R (X + 237) (9 * i + j + d)))) (X + 238) (hx (mB R (X + 238)) i p d 0 0) = Q := by
    rw [wr_0, sA_self Q (X + 237) (fun j => by rw [q37])]
    refine sB_self Q (X + 238) (fun x => ?_)
    unfold hx
    rw [if_neg (by omega), qB]
  rw [e2] at e
  exact e
/-- what drop leaves: counts, numbers, headers -/
theorem drop_f {R : Mm} {X i p d hh : Nat} (hi : i < 8) (hd : d ≤ hh) (h9 : hh ≤ 9) (p8 : p ≤ 8) : ∃ E, E = sB (sA (sU R (X + 236) i (nI (hh - d))) (X + 237) (wr (mA R (X + 237)) (9 * i) (hh - d) (fun j => mA R (X + 237) (9 * i + j + d)))) (X + 238) (hx (mB R (X + 238)) i p d (hh - d) 0) ∧ (∀ N n0, Ag X N n0 T0 (TAr X i) (TBr X i) R E) ∧ mS E = mS R ∧ mI E = mI R ∧ mA E (X + 236) i = nI (hh - d) ∧ (∀ j, j < hh - d → mA E (X + 237) (9 * i + j) = mA R (X + 237) (9 * i + j + d)) ∧ ∀ j f, j < hh - d → f < p → mB E (X + 238) (8 * (9 * i + j) + f) = mB R (X + 238) (8 * (9 * i + j + d) + f) := by
  refine ⟨_, rfl, ?_, ?_, ?_, ?_, ?_, ?_⟩
  · intro N n0
    refine ((Ag.rf.cU (Or.inr (Or.inr (Or.inl ⟨rfl, rfl⟩)))).cA (Or.inr (Or.inr (fun j t => ?_)))).cB (Or.inr (Or.inr (fun j t => ?_)))
    · rw [wr_out (fun q => t (Or.inr ⟨rfl, q.1, by omega⟩)), mA_sUx (by omega)]
    · rw [mB_sA, mB_sU]
      unfold hx
      have : ¬ (72 * i ≤ j ∧ j < 72 * i + 72) := fun q => t ⟨rfl, q.1, q.2⟩
      rw [if_neg (by omega)]
  · rw [mS_sB, mS_sA, mS_sU]
  · rw [mI_sB, mI_sA, mI_sU]
  · rw [mA_sB, mA_sA, if_neg (by omega), mA_sUi]
  · intro j hj
    rw [mA_sB, mA_sA, if_pos rfl]
    exact wr_in hj
  · intro j f hj hf
    rw [mB_sB, if_pos rfl]
    unfold hx
    rw [if_pos (by omega)]
    congr 1; omega
theorem ref_r {R : Mm} {X i p h w kk : Nat} (hS : St R X) (p1 : mI R 1101 (X + 226) = nI p) (p8 : p ≤ 8) (hi : i < 8) (hw : h ≤ w) (w8 : w ≤ 8) (h7 : mI R 1107 (X + 226) = nI w) (h36 : mA R (X + 236) i = nI h) :
    ∃ E, f_X11_refer R (X + 226) (nI i) (nI kk) = some E ∧ (∀ N n0, Ag X N n0 T0 (TAr X i) (TBr X i) R E) ∧ mS E = mS R ∧ mI E = mI R ∧ mA E (X + 236) i = nI (h + 1 - (if h < w then 0 else 1)) ∧ (∀ j, j < h + 1 - (if h < w then 0 else 1) → mA E (X + 237) (9 * i + j) = if j + (if h < w then 0 else 1) < h then mA R (X + 237) (9 * i + j + (if h < w then 0 else 1)) else nI kk) ∧ ∀ j f, j < h + 1 - (if h < w then 0 else 1) → f < p → mB E (X + 238) (8 * (9 * i + j) + f) = if j + (if h < w then 0 else 1) < h then mB R (X + 238) (8 * (9 * i + j + (if h < w then 0 else 1)) + f) else mB R (X + 231) f := by
  generalize hQ0 : sU R (X + 237) (9 * i + h) (nI kk) = Q0
  have SQ0 : St Q0 X := by rw [← hQ0]; exact St_sU hS
  generalize hQ : sU (sB Q0 (X + 238) (wr (mB R (X + 238)) (8 * (9 * i + h)) p (mB R (X + 231)))) (X + 236) i (nI (h + 1)) = Q
  have SQ : St Q X := by rw [← hQ]; exact St_sU (St_sB SQ0)
  have qI : mI Q = mI R := by rw [← hQ, mI_sU, mI_sB, ← hQ0, mI_sU]
  have qS : mS Q = mS R := by rw [← hQ, mS_sU, mS_sB, ← hQ0, mS_sU]
  have q36 : mA Q (X + 236) i = nI (h + 1) := by rw [← hQ, mA_sUi]
  have q37 : ∀ j, mA Q (X + 237) j = if j = 9 * i + h then nI kk else mA R (X + 237) j := by
    intro j
    rw [← hQ, mA_sUx (by omega), mA_sB, ← hQ0]
    by_cases c : j = 9 * i + h
    · rw [if_pos c, c, mA_sUi]
    · rw [if_neg c, mA_sUj c]
  have q38 : mB Q (X + 238) = wr (mB R (X + 238)) (8 * (9 * i + h)) p (mB R (X + 231)) := by rw [← hQ, mB_sU, mB_sB, if_pos rfl]
  have AQ : ∀ N n0, Ag X N n0 T0 (TAr X i) (TBr X i) R Q := by
    intro N n0
    rw [← hQ, ← hQ0]
    refine ((Ag.rf.cU (Or.inr (Or.inr (Or.inr ⟨rfl, by omega, by omega⟩)))).cB (Or.inr (Or.inr (fun j t => ?_)))).cU (Or.inr (Or.inr (Or.inl ⟨rfl, rfl⟩)))
    rw [mB_sU]
    exact wr_out (fun q => t ⟨rfl, by omega, by omega⟩)
  have e1 : f_X11_refer R (X + 226) (nI i) (nI kk) = if nI (h + 1) ≤ nI w then some Q else (f_X11_drop Q (X + 226) (nI i) 1).bind (fun M11 => some M11) := by
    unfold f_X11_refer
    rw [if_pos (k_226 hS), r_226_1113 hS, ob_eq, ai_236 hS hi, ob_eq, h36, r_226_1114 hS, ob_eq, m9, nI_add, wi_237 hS (by omega), ob_eq, sU_def, hQ0]
    have e := loop_run (fun fu f => f_X11_refer_L22 fu (sB Q0 (X + 238) (wr (mB R (X + 238)) (8 * (9 * i + h)) f (mB R (X + 231)))) (X + 226) (nI i) (nI (9 * i + h)) (nI f)) p (if nI (h + 1) ≤ nI w then some Q else (f_X11_drop Q (X + 226) (nI i) 1).bind (fun M11 => some M11))
      (fun f fu hf => by
        show f_X11_refer_L22 (fu + 1) (sB Q0 (X + 238) (wr (mB R (X + 238)) (8 * (9 * i + h)) f (mB R (X + 231)))) (X + 226) (nI i) (nI (9 * i + h)) (nI f) = f_X11_refer_L22 fu (sB Q0 (X + 238) (wr (mB R (X + 238)) (8 * (9 * i + h)) (f + 1) (mB R (X + 231)))) (X + 226) (nI i) (nI (9 * i + h)) (nI (f + 1))
        have S1 : St (sB Q0 (X + 238) (wr (mB R (X + 238)) (8 * (9 * i + h)) f (mB R (X + 231)))) X := St_sB SQ0
        have e31 : mB (sB Q0 (X + 238) (wr (mB R (X + 238)) (8 * (9 * i + h)) f (mB R (X + 231)))) (X + 231) f = mB R (X + 231) f := by rw [mB_sB, if_neg (by omega), ← hQ0, mB_sU]
        rw [f_X11_refer_L22, gi_226 S1, ob_eq, mI_sB, ← hQ0, mI_sU, p1, if_neg (nI_ge hf (by omega)), hQ0, r_226_1115 S1, ob_eq, r_226_1108 S1, ob_eq, aj_231 S1 (by omega), ob_eq, e31, m8, nI_add, wj_238 S1 (by omega), ob_eq, nI_1, sB_sB, mB_sB, if_pos rfl, wr_s])
      (fun fu => by
        show f_X11_refer_L22 (fu + 1) (sB Q0 (X + 238) (wr (mB R (X + 238)) (8 * (9 * i + h)) p (mB R (X + 231)))) (X + 226) (nI i) (nI (9 * i + h)) (nI p) = _
        have S1 : St (sB Q0 (X + 238) (wr (mB R (X + 238)) (8 * (9 * i + h)) p (mB R (X + 231)))) X := St_sB SQ0
        have e36 : mA (sB Q0 (X + 238) (wr (mB R (X + 238)) (8 * (9 * i + h)) p (mB R (X + 231)))) (X + 236) i = nI h := by rw [mA_sB, ← hQ0, mA_sUx (by omega)]; exact h36
        have e7 : mI Q 1107 (X + 226) = nI w := by rw [qI]; exact h7
        rw [f_X11_refer_L22, gi_226 S1, ob_eq, mI_sB, ← hQ0, mI_sU, p1, if_pos (nI_le (Nat.le_refl _) (by omega)), hQ0, r_226_1113 S1, ob_eq, ai_236 S1 hi, ob_eq, e36, nI_1, wi_236 S1 hi, ob_eq, sU_def, hQ, r_226_1113 SQ, ob_eq, ai_236 SQ hi, ob_eq, q36, gi_226 SQ, ob_eq, e7]) 1000 (by omega)
    have e0 : sB Q0 (X + 238) (wr (mB R (X + 238)) (8 * (9 * i + h)) 0 (mB R (X + 231))) = Q0 := sB_self _ _ (fun j => by rw [wr_0, ← hQ0, mB_sU])
    rw [e0] at e
    exact e
  by_cases c : h < w
  · rw [if_pos c]
    refine ⟨Q, by rw [e1, if_pos (nI_le (by omega) (by omega))], AQ, qS, qI, by rw [q36]; rfl, fun j hj => ?_, fun j f hj hf => ?_⟩
    · rw [q37]
      by_cases e : j = h
      · rw [if_pos (by omega), if_neg (by omega)]
      · rw [if_neg (by omega), if_pos (by omega)]
        rfl
    · rw [q38]
      by_cases e : j = h
      · subst e
        rw [if_neg (by omega)]
        exact wr_in hf
      · rw [if_pos (by omega), wr_out (by omega)]
        rfl
  · have ew : h = w := by omega
    subst ew
    rw [if_neg c]
    have e2 : f_X11_drop Q (X + 226) (nI i) 1 = _ := drop_r (d := 1) (hh := h + 1) SQ (by rw [qI]; exact p1) p8 hi (by omega) (by omega) q36
    obtain ⟨E, eE, a1, a2, a3, a4, a5, a6⟩ := drop_f (R := Q) (X := X) (i := i) (p := p) (d := 1) (hh := h + 1) hi (by omega) (by omega) p8
    rw [← eE] at e2
    refine ⟨E, by rw [e1, if_neg (nI_ge (by omega) (by omega)), e2, ob_eq], fun N n0 => (AQ N n0).tr' (a1 N n0), a2.trans qS, a3.trans qI, a4, fun j hj => ?_, fun j f hj hf => ?_⟩
    · rw [a5 j hj, q37]
      by_cases e : j + 1 = h
      · rw [if_pos (by omega), if_neg (by omega)]
      · rw [if_neg (by omega), if_pos (by omega)]
    · rw [a6 j f hj hf, q38]
      by_cases e : j + 1 = h
      · rw [if_neg (by omega), show 9 * i + j + 1 = 9 * i + h by omega]
        exact wr_in hf
      · rw [if_pos (by omega), wr_out (by omega)]
