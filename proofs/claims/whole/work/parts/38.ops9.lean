/-! Loops, and rows written place by place. -/
theorem loop_run {α : Type} (F : Nat → Nat → Option α) (n : Nat) (r : Option α) (hs : ∀ i fu, i < n → F (fu + 1) i = F fu (i + 1)) (he : ∀ fu, F (fu + 1) n = r) : ∀ fu, n < fu → F fu 0 = r := by
  have main : ∀ d i fu, i + d = n → d < fu → F fu i = r := by
    intro d
    induction d with
    | zero =>
      intro i fu h1 h2
      obtain ⟨fu, rfl⟩ : ∃ k, fu = k + 1 := ⟨fu - 1, by omega⟩
      have e : i = n := by omega
      rw [e]; exact he fu
    | succ d ih =>
      intro i fu h1 h2
      obtain ⟨fu, rfl⟩ : ∃ k, fu = k + 1 := ⟨fu - 1, by omega⟩
      rw [hs i fu (by omega)]
      exact ih (i + 1) fu (by omega) (by omega)
  intro fu h
  exact main n 0 fu (by omega) h
def wr {α : Type} (g : Nat → α) (lo i : Nat) (v : Nat → α) : Nat → α := fun j => if lo ≤ j ∧ j < lo + i then v (j - lo) else g j
theorem wr_0 {α : Type} (g : Nat → α) (lo : Nat) (v : Nat → α) : wr g lo 0 v = g := by
  funext j; unfold wr; rw [if_neg (by omega)]
theorem wr_s {α : Type} (g : Nat → α) (lo i : Nat) (v : Nat → α) : va_up (wr g lo i v) (lo + i) (v i) = wr g lo (i + 1) v := by
  funext j
  unfold wr
  by_cases e : j = lo + i
  · subst e; rw [vau_eq, if_pos (by omega)]; congr 1; omega
  · rw [vau_ne e]
    by_cases q : lo ≤ j ∧ j < lo + i
    · rw [if_pos q, if_pos (by omega)]
    · rw [if_neg q, if_neg (by omega)]
theorem wr_in {α : Type} {g : Nat → α} {lo i k : Nat} {v : Nat → α} (h : k < i) : wr g lo i v (lo + k) = v k := by
  unfold wr; rw [if_pos (by omega)]; congr 1; omega
theorem wr_out {α : Type} {g : Nat → α} {lo i j : Nat} {v : Nat → α} (h : ¬ (lo ≤ j ∧ j < lo + i)) : wr g lo i v j = g j := by
  unfold wr; rw [if_neg h]
section AgC
variable {X N n : Nat} {TI TA TB : Nat → Nat → Prop} {M M1 : Mm}
theorem Ag.cI {k b : Nat} {v : Int32} (h : Ag X N n TI TA TB M M1) (q : ScI X k b ∨ TI k b ∨ N ≤ b) : Ag X N n TI TA TB M (sI M1 k b v) := h.tr' (Ag_sI q)
theorem Ag.cJ {k b : Nat} {v : Int64} (h : Ag X N n TI TA TB M M1) : Ag X N n TI TA TB M (sJ M1 k b v) := h.tr' Ag_sJ
theorem Ag.cA {b : Nat} {g : Nat → Int32} (h : Ag X N n TI TA TB M M1) (q : ScA X b ∨ N ≤ b ∨ ∀ j, ¬ TA b j → g j = mA M1 b j) : Ag X N n TI TA TB M (sA M1 b g) := h.tr' (Ag_sA q)
theorem Ag.cB {b : Nat} {g : Nat → Int64} (h : Ag X N n TI TA TB M M1) (q : ScB X b ∨ N ≤ b ∨ ∀ j, ¬ TB b j → g j = mB M1 b j) : Ag X N n TI TA TB M (sB M1 b g) := h.tr' (Ag_sB q)
theorem Ag.cAu {b i : Nat} {v : Int32} (h : Ag X N n TI TA TB M M1) (q : ScA X b ∨ N ≤ b ∨ TA b i) : Ag X N n TI TA TB M (sA M1 b (va_up (mA M1 b) i v)) := h.cA (q.imp_right (fun q => q.imp_right (fun q j t => vau_ne (fun e => t (e ▸ q)))))
theorem Ag.cBu {b i : Nat} {v : Int64} (h : Ag X N n TI TA TB M M1) (q : ScB X b ∨ N ≤ b ∨ TB b i) : Ag X N n TI TA TB M (sB M1 b (va_up (mB M1 b) i v)) := h.cB (q.imp_right (fun q => q.imp_right (fun q j t => vau_ne (fun e => t (e ▸ q)))))
theorem Ag.cBw {b lo i : Nat} {v : Nat → Int64} (h : Ag X N n TI TA TB M M1) (q : ∀ j, lo ≤ j → j < lo + i → TB b j) : Ag X N n TI TA TB M (sB M1 b (wr (mB M1 b) lo i v)) := h.cB (Or.inr (Or.inr (fun j t => wr_out (fun ⟨e1, e2⟩ => t (q j e1 e2)))))
theorem Ag.cAw {b lo i : Nat} {v : Nat → Int32} (h : Ag X N n TI TA TB M M1) (q : ∀ j, lo ≤ j → j < lo + i → TA b j) : Ag X N n TI TA TB M (sA M1 b (wr (mA M1 b) lo i v)) := h.cA (Or.inr (Or.inr (fun j t => wr_out (fun ⟨e1, e2⟩ => t (q j e1 e2)))))
end AgC
def TIs (X s : Nat) : Nat → Nat → Prop := fun num a => 801 ≤ num ∧ num ≤ 804 ∧ a = aSh X s
def TAs (X s : Nat) : Nat → Nat → Prop := fun a j => (a = X + 265 ∨ a = X + 266 ∨ a = X + 267) ∧ j = s
def TBs (X s : Nat) : Nat → Nat → Prop := fun a j => a = aSr X s ∨ (a = X + 268 ∧ 64 * s ≤ j ∧ j < 64 * s + 64)
theorem inv_shelf {M M2 : Mm} {X p n w s : Nat} {z : Nat → Nat} (H : Inv M X p n w z) (hs : s < 8) (A : Ag X (z n) n (TIs X s) (TAs X s) (TBs X s) M M2) (hI : IH M2 X s) : Inv M2 X p n w z := by
  obtain ⟨hS, hW, ⟨p8, p1, p2, p3⟩, hD, hC, hQ, hX, hZ, hL, hG, hH, hT⟩ := id H
  have hN := z_ge hZ n (Nat.le_refl _)
  unfold TIs TAs TBs at A
  refine ⟨St_Ag hN A hS, tr_W hN A hW (by intro a j h; first | exact False.elim h | ((try dsimp only at h); (try simp only [aSq, aSt, aRg, aHd, aHv, aCx, aCh, aCv, aCs, aSh, aSr] at h ⊢); omega)), tr_P hN A ⟨p8, p1, p2, p3⟩ (by intro a j h; first | exact False.elim h | ((try dsimp only at h); (try simp only [aSq, aSt, aRg, aHd, aHv, aCx, aCh, aCv, aCs, aSh, aSr] at h ⊢); omega)) (by intro a j h; first | exact False.elim h | ((try dsimp only at h); (try simp only [aSq, aSt, aRg, aHd, aHv, aCx, aCh, aCv, aCs, aSh, aSr] at h ⊢); omega)) (by intro a j h; first | exact False.elim h | ((try dsimp only at h); (try simp only [aSq, aSt, aRg, aHd, aHv, aCx, aCh, aCv, aCs, aSh, aSr] at h ⊢); omega)), tr_D hN A hD (by intro a j h; first | exact False.elim h | ((try dsimp only at h); (try simp only [aSq, aSt, aRg, aHd, aHv, aCx, aCh, aCv, aCs, aSh, aSr] at h ⊢); omega)) (by intro a j h; first | exact False.elim h | ((try dsimp only at h); (try simp only [aSq, aSt, aRg, aHd, aHv, aCx, aCh, aCv, aCs, aSh, aSr] at h ⊢); omega)), tr_C hN A hC (by intro a j h; first | exact False.elim h | ((try dsimp only at h); (try simp only [aSq, aSt, aRg, aHd, aHv, aCx, aCh, aCv, aCs, aSh, aSr] at h ⊢); omega)), fun i hi => tr_Q hN p8 hW.2.2.2 hi A (hQ i hi) (by intro a j h; first | exact False.elim h | ((try dsimp only at h); (try simp only [aSq, aSt, aRg, aHd, aHv, aCx, aCh, aCv, aCs, aSh, aSr] at h ⊢); omega)) (by intro a j h; first | exact False.elim h | ((try dsimp only at h); (try simp only [aSq, aSt, aRg, aHd, aHv, aCx, aCh, aCv, aCs, aSh, aSr] at h ⊢); omega)) (by intro a j h; first | exact False.elim h | ((try dsimp only at h); (try simp only [aSq, aSt, aRg, aHd, aHv, aCx, aCh, aCv, aCs, aSh, aSr] at h ⊢); omega)), fun i hi => tr_X hN p8 hi A (hX i hi) (by intro a j h; first | exact False.elim h | ((try dsimp only at h); (try simp only [aSq, aSt, aRg, aHd, aHv, aCx, aCh, aCv, aCs, aSh, aSr] at h ⊢); omega)) (by intro a j h; first | exact False.elim h | ((try dsimp only at h); (try simp only [aSq, aSt, aRg, aHd, aHv, aCx, aCh, aCv, aCs, aSh, aSr] at h ⊢); omega)) (by intro a j h; first | exact False.elim h | ((try dsimp only at h); (try simp only [aSq, aSt, aRg, aHd, aHv, aCx, aCh, aCv, aCs, aSh, aSr] at h ⊢); omega)), tr_Z A hZ, fun l hl => tr_L p8 hZ hl (Nat.le_refl _) (Nat.le_refl _) A (hL l hl) (by have zz := z_ge hZ l (by omega); intro a j h; first | exact False.elim h | ((try dsimp only at h); (try simp only [aSq, aSt, aRg, aHd, aHv, aCx, aCh, aCv, aCs, aSh, aSr] at h ⊢); omega)) (by have zz := z_ge hZ l (by omega); intro a j h; first | exact False.elim h | ((try dsimp only at h); (try simp only [aSq, aSt, aRg, aHd, aHv, aCx, aCh, aCv, aCs, aSh, aSr] at h ⊢); omega)), tr_G hN A hG (by intro a j h; first | exact False.elim h | ((try dsimp only at h); (try simp only [aSq, aSt, aRg, aHd, aHv, aCx, aCh, aCv, aCs, aSh, aSr] at h ⊢); omega)) (by intro a j h; first | exact False.elim h | ((try dsimp only at h); (try simp only [aSq, aSt, aRg, aHd, aHv, aCx, aCh, aCv, aCs, aSh, aSr] at h ⊢); omega)) (by intro a j h; first | exact False.elim h | ((try dsimp only at h); (try simp only [aSq, aSt, aRg, aHd, aHv, aCx, aCh, aCv, aCs, aSh, aSr] at h ⊢); omega)), fun s0 hs0 => ?_, tr_T hN A hT (by intro a j h; first | exact False.elim h | ((try dsimp only at h); (try simp only [aSq, aSt, aRg, aHd, aHv, aCx, aCh, aCv, aCs, aSh, aSr] at h ⊢); omega)) (by intro a j h; first | exact False.elim h | ((try dsimp only at h); (try simp only [aSq, aSt, aRg, aHd, aHv, aCx, aCh, aCv, aCs, aSh, aSr] at h ⊢); omega))⟩
  by_cases e : s0 = s
  · subst e; exact hI
  · exact tr_H hN hs0 A (hH s0 hs0) (by intro a j h; first | exact False.elim h | ((try dsimp only at h); (try simp only [aSq, aSt, aRg, aHd, aHv, aCx, aCh, aCv, aCs, aSh, aSr] at h ⊢); omega)) (by intro a j h; first | exact False.elim h | ((try dsimp only at h); (try simp only [aSq, aSt, aRg, aHd, aHv, aCx, aCh, aCv, aCs, aSh, aSr] at h ⊢); omega)) (by intro a j h; first | exact False.elim h | ((try dsimp only at h); (try simp only [aSq, aSt, aRg, aHd, aHv, aCx, aCh, aCv, aCs, aSh, aSr] at h ⊢); omega))
theorem mk_loop {M : Mm} {X s sz : Nat} (hS : St M X) (hs : s < 8) (hz : sz ≤ 60) : f_X11_make_L58 1000 M (X + 226) (nI s) (nI sz) 0 = some (sB M (X + 268) (wr (mB M (X + 268)) (64 * s) sz (fun _ => 0)), 0) := by
  have e := loop_run (fun fu i => f_X11_make_L58 fu (sB M (X + 268) (wr (mB M (X + 268)) (64 * s) i (fun _ => 0))) (X + 226) (nI s) (nI sz) (nI i)) sz (some (sB M (X + 268) (wr (mB M (X + 268)) (64 * s) sz (fun _ => 0)), 0))
    (fun i fu hi => by
      have hS1 : St (sB M (X + 268) (wr (mB M (X + 268)) (64 * s) i (fun _ => 0))) X := St_sB hS
      show f_X11_make_L58 (fu + 1) (sB M (X + 268) (wr (mB M (X + 268)) (64 * s) i (fun _ => 0))) (X + 226) (nI s) (nI sz) (nI i) = f_X11_make_L58 fu (sB M (X + 268) (wr (mB M (X + 268)) (64 * s) (i + 1) (fun _ => 0))) (X + 226) (nI s) (nI sz) (nI (i + 1))
      rw [f_X11_make_L58, if_neg (nI_ge hi (by omega)), r_226_1156 hS1, ob_eq, m64, nI_add, wj_268 hS1 (by omega), ob_eq, mB_sB, if_pos rfl, sB_sB, wr_s (v := fun _ => (0 : Int64)), nI_1])
    (fun fu => by
      show f_X11_make_L58 (fu + 1) _ (X + 226) (nI s) (nI sz) (nI sz) = _
      rw [f_X11_make_L58, if_pos (nI_le (Nat.le_refl _) (by omega))]) 1000 (by omega)
  have e2 : sB M (X + 268) (wr (mB M (X + 268)) (64 * s) 0 (fun _ => 0)) = M := sB_self _ _ (fun j => by rw [wr_0])
  rw [e2] at e
  exact e
theorem op_make {M : Mm} {X p n w : Nat} {z : Nat → Nat} (H : Inv M X p n w z) (a b c : Int32) : ∃ M1 M2 r, f_X10_make M X a b c = some (M1, r) ∧ f_X11_make M1 (X + 226) a b c = some (M2, r) ∧ Inv M2 X p n w z := by
  obtain ⟨hS, hW, ⟨p8, p1, p2, p3⟩, hD, hC, hQ, hX, hZ, hL, hG, hH, hT⟩ := id H
  have d10 : ¬ (1 : Int32) = 0 := by decide
  have hN := z_ge hZ n (Nat.le_refl _)
  rcases ix_cases a (n := 8) (by omega) with h | ⟨s, hs, rfl⟩
  · refine ⟨M, _, -1, ?_, ?_, inv_thr (v := 0) H⟩
    · unfold f_X10_make
      simp only [if_pos (k_0 hS), (fl_out h).2.2.1, ob_eq, if_true]
    · unfold f_X11_make
      simp only [if_pos (k_226 hS), pi_226 hS, (fl_out h).2.2.2, ob_eq, if_true]
  by_cases b0 : b < 2
  · refine ⟨M, _, -1, ?_, ?_, inv_thr (v := 0) H⟩
    · unfold f_X10_make
      simp only [if_pos (k_0 hS), (fl_in hs).2.2.1, ob_eq, if_neg d10, if_pos b0]
    · unfold f_X11_make
      simp only [if_pos (k_226 hS), pi_226 hS, (fl_in hs).2.2.2, ob_eq, if_neg d10, isIn_2_4, if_pos b0, if_true]
  by_cases b1 : 4 < b
  · refine ⟨M, _, -1, ?_, ?_, inv_thr (v := 0) H⟩
    · unfold f_X10_make
      simp only [if_pos (k_0 hS), (fl_in hs).2.2.1, ob_eq, if_neg d10, if_neg b0, if_pos b1]
    · unfold f_X11_make
      simp only [if_pos (k_226 hS), pi_226 hS, (fl_in hs).2.2.2, ob_eq, if_neg d10, isIn_2_4, if_neg b0, if_pos b1, if_true]
  by_cases c1 : c ≤ 60
  rotate_left
  · refine ⟨M, _, -1, ?_, ?_, inv_thr (v := 0) H⟩
    · unfold f_X10_make
      simp only [if_pos (k_0 hS), (fl_in hs).2.2.1, ob_eq, if_neg d10, if_neg b0, if_neg b1, if_neg c1]
    · unfold f_X11_make
      simp only [if_pos (k_226 hS), pi_226 hS, (fl_in hs).2.2.2, ob_eq, if_neg d10, isIn_2_4, if_neg b0, if_neg b1, if_neg c1]
  by_cases c0 : 0 ≤ c
  rotate_left
  · refine ⟨M, _, -14, ?_, ?_, inv_thr (v := 0) H⟩
    · unfold f_X10_make
      simp only [if_pos (k_0 hS), (fl_in hs).2.2.1, ob_eq, if_neg d10, if_neg b0, if_neg b1, if_pos c1, if_neg c0]
    · unfold f_X11_make
      simp only [if_pos (k_226 hS), pi_226 hS, (fl_in hs).2.2.2, ob_eq, if_neg d10, isIn_2_4, if_neg b0, if_neg b1, if_pos c1, if_neg c0]
  rcases rg_cases c 60 (by decide) with h | h | ⟨sz, hsz, rfl⟩
  · exact absurd c0 (Int32.not_le.mpr h)
  · exact absurd c1 (Int32.not_le.mpr h)
  rcases rg_cases b 4 (by decide) with h | h | ⟨hk, hk4, rfl⟩
  · exact absurd (Int32.lt_trans h (by decide)) b0
  · exact absurd h b1
  have hk2 : 2 ≤ hk := by
    apply Nat.le_of_not_lt
    intro q
    exact b0 (nI_lt (b := 2) q (by decide))
  generalize hM1 : sB (sI (sI M 801 (aSh X s) (nI hk)) 802 (aSh X s) (nI sz)) (aSr X s) (fun j => if j < 60 then 0 else mB M (aSr X s) j) = M1
  have hS1 : St M1 X := by rw [← hM1]; exact St_sB (St_sI (St_sI hS))
  generalize hMt : sI M1 1100 (X + 226) 0 = Mt
  have hSt : St Mt X := by rw [← hMt]; exact St_sI hS1
  generalize hMa : sA Mt (X + 265) (va_up (mA Mt (X + 265)) s (nI hk)) = Ma
  have hSa : St Ma X := by rw [← hMa]; exact St_sA hSt
  generalize hMb : sA Ma (X + 266) (va_up (mA Ma (X + 266)) s (nI sz)) = Mb
  have hSb : St Mb X := by rw [← hMb]; exact St_sA hSa
  refine ⟨M1, sB Mb (X + 268) (wr (mB Mb (X + 268)) (64 * s) sz (fun _ => 0)), 0, ?_, ?_, inv_shelf H hs ?_ ?_⟩
  · unfold f_X10_make
    simp only [if_pos (k_0 hS), (fl_in hs).2.2.1, ob_eq, if_neg d10, if_neg b0, if_neg b1, if_pos c1, if_pos c0, r_0_1006 hS, q_sh hS hs, hr_eq hS hs hsz, hM1]
  · unfold f_X11_make
    simp only [if_pos (k_226 hS1), pi_226 hS1, (fl_in hs).2.2.2, ob_eq, if_neg d10, isIn_2_4, if_neg b0, if_neg b1, if_pos c1, if_pos c0, hMt, r_226_1153 hSt, wi_265 hSt hs, hMa, r_226_1154 hSa, wi_266 hSa hs, hMb, mk_loop hSb hs hsz]
  · subst hMb; subst hMa; subst hMt; subst hM1
    refine Ag.cBw (Ag.cAu (Ag.cAu (Ag.cI (Ag.cB (Ag.cI (Ag.cI Ag.rf ?_) ?_) ?_) ?_) ?_) ?_) ?_
    · exact Or.inr (Or.inl ⟨by decide, by decide, rfl⟩)
    · exact Or.inr (Or.inl ⟨by decide, by decide, rfl⟩)
    · exact Or.inr (Or.inr (fun j t => absurd (Or.inl rfl) t))
    · exact Or.inl (by unfold ScI; omega)
    · exact Or.inr (Or.inr ⟨by omega, rfl⟩)
    · exact Or.inr (Or.inr ⟨by omega, rfl⟩)
    · exact fun j q1 q2 => Or.inr ⟨rfl, q1, by omega⟩
  · have a265 : mA (sB Mb (X + 268) (wr (mB Mb (X + 268)) (64 * s) sz (fun _ => 0))) (X + 265) s = nI hk := by
      rw [mA_sB, ← hMb, mA_sA, if_neg (by omega), ← hMa, mA_sA, if_pos rfl, vau_eq]
    have a266 : mA (sB Mb (X + 268) (wr (mB Mb (X + 268)) (64 * s) sz (fun _ => 0))) (X + 266) s = nI sz := by
      rw [mA_sB, ← hMb, mA_sA, if_pos rfl, vau_eq]
    have eI : ∀ num, ¬ num = 1100 → mI (sB Mb (X + 268) (wr (mB Mb (X + 268)) (64 * s) sz (fun _ => 0))) num = mI M1 num := by
      intro num hn
      rw [mI_sB, ← hMb, mI_sA, ← hMa, mI_sA, ← hMt]
      funext y; rw [mI_sI, if_neg hn]
    have i801 : mI M1 801 (aSh X s) = nI hk := by rw [← hM1, mI_sB, mI_sI, if_neg (by decide), mI_sI, if_pos rfl, if_pos rfl]
    have i802 : mI M1 802 (aSh X s) = nI sz := by rw [← hM1, mI_sB, mI_sI, if_pos rfl, if_pos rfl]
    have eB : mB (sB Mb (X + 268) (wr (mB Mb (X + 268)) (64 * s) sz (fun _ => 0))) (aSr X s) = fun j => if j < 60 then 0 else mB M (aSr X s) j := by
      rw [mB_sB, if_neg (by unfold aSr; omega), ← hMb, mB_sA, ← hMa, mB_sA, ← hMt, mB_sI, ← hM1, mB_sB, if_pos rfl]
    refine ⟨by rw [eI 801 (by decide), a265]; exact i801, hk, hk4, a265, fun q => absurd hk2 (by omega), fun _ => ⟨sz, hsz, by rw [eI 802 (by decide)]; exact i802, a266, fun k hkk => ?_⟩⟩
    rw [eB, mB_sB, if_pos rfl, wr_in hkk]
    show (0 : Int64) = if k < 60 then 0 else _
    rw [if_pos (by omega)]
