theorem cnt_loop {M : Mm} {X n : Nat} {a : Int32} (hS : St M X) (hC : IC M X n) : ∀ d l fu, l + d = n → d < fu → f_X11_count_L9 fu M (X + 226) a (nI (lc (mA M (X + 246)) l)) (nI l) = some (M, if a = 0 then mI M 1101 (X + 226) else if a = 1 then nI n else if a = 2 then mI M 1107 (X + 226) else if a = 3 then nI (lc (mA M (X + 246)) n) else -1) := by
  have h200 := hC.1
  intro d
  induction d with
  | zero =>
    intro l fu h1 h2
    obtain ⟨fu, rfl⟩ : ∃ k, fu = k + 1 := ⟨fu - 1, by omega⟩
    have e : l = n := by omega
    subst e
    rw [f_X11_count_L9, gi_226 hS, ob_eq, hC.2.2.1, if_pos (nI_le (Nat.le_refl _) (by omega))]
    simp only [gi_226 hS, ob_eq, hC.2.2.1]
    by_cases c0 : a = 0
    · simp only [if_pos c0]
    by_cases c1 : a = 1
    · simp only [if_neg c0, if_pos c1]
    by_cases c2 : a = 2
    · simp only [if_neg c0, if_neg c1, if_pos c2]
    by_cases c3 : a = 3
    · simp only [if_neg c0, if_neg c1, if_neg c2, if_pos c3]
    · simp only [if_neg c0, if_neg c1, if_neg c2, if_neg c3]
  | succ d ih =>
    intro l fu h1 h2
    obtain ⟨fu, rfl⟩ : ∃ k, fu = k + 1 := ⟨fu - 1, by omega⟩
    have hl : l < n := by omega
    rw [f_X11_count_L9, gi_226 hS, ob_eq, hC.2.2.1, if_neg (nI_ge hl (by omega)), r_226_1124 hS, ob_eq, az_246 hS (by omega), ob_eq]
    have e := ih (l + 1) fu (by omega) (by omega)
    unfold f_X11_count_J32
    by_cases c : mA M (X + 246) l = 0
    · rw [if_pos c]
      have e2 : lc (mA M (X + 246)) (l + 1) = lc (mA M (X + 246)) l := by show _ + (if _ then 0 else 1) = _; rw [if_pos c]; omega
      rw [e2] at e
      rw [show (nI l + 1) = nI (l + 1) from nI_1 l, show nI (lc (mA M (X + 246)) l) + 0 = nI (lc (mA M (X + 246)) l) from Int32.add_zero _]
      exact e
    · rw [if_neg c]
      have e2 : lc (mA M (X + 246)) (l + 1) = lc (mA M (X + 246)) l + 1 := by show _ + (if _ then 0 else 1) = _; rw [if_neg c]
      rw [e2] at e
      rw [show (nI l + 1) = nI (l + 1) from nI_1 l, show nI (lc (mA M (X + 246)) l) + 1 = nI (lc (mA M (X + 246)) l + 1) from nI_1 _]
      exact e
theorem op_count {M : Mm} {X p n w : Nat} {z : Nat → Nat} (H : Inv M X p n w z) (a : Int32) : ∃ r, f_X10_count M X a = some r ∧ f_X11_count M (X + 226) a = some (sI M 1100 (X + 226) 0, r) := by
  obtain ⟨hS, hW, ⟨p8, p1, p2, p3⟩, hD, hC, hQ, hX, hZ, hL, hG, hH, hT⟩ := H
  have hS1 : St (sI M 1100 (X + 226) 0) X := hS
  have hC1 : IC (sI M 1100 (X + 226) 0) X n := hC
  have p2' : mI (sI M 1100 (X + 226) 0) 1101 (X + 226) = nI p := p2
  have w2' : mI (sI M 1100 (X + 226) 0) 1107 (X + 226) = nI w := hW.2.1
  have h200 := hC.1
  unfold f_X10_count f_X11_count
  rw [if_pos (k_0 hS), if_pos (k_226 hS), pi_226 hS, ob_eq, show f_X11_count_L9 1000 (sI M 1100 (X + 226) 0) (X + 226) a 0 0 = _ from cnt_loop (a := a) hS1 hC1 n 0 1000 (by omega) (by omega), p2', w2']
  simp only [r_0_1001 hS, gi_1 hS, gi_0 hS, ob_eq, p1, hC.2.1, hW.1, show mI M 1011 X = nI (lc (mA M (X + 246)) n) from hT, mA_sI]
  by_cases c0 : a = 0
  · simp only [if_pos c0]; exact ⟨_, rfl, rfl⟩
  by_cases c1 : a = 1
  · simp only [if_neg c0, if_pos c1]; exact ⟨_, rfl, rfl⟩
  by_cases c2 : a = 2
  · simp only [if_neg c0, if_neg c1, if_pos c2]; exact ⟨_, rfl, rfl⟩
  by_cases c3 : a = 3
  · simp only [if_neg c0, if_neg c1, if_neg c2, if_pos c3]; exact ⟨_, rfl, rfl⟩
  · simp only [if_neg c0, if_neg c1, if_neg c2, if_neg c3]; exact ⟨_, rfl, rfl⟩
/-- what a shelf says to those who want a letter -/
theorem rfs {M : Mm} {X s : Nat} (hS : St M X) (hs : s < 8) (h : IH M X s) : (mA M (X + 265) s = 1 ∧ f_X10_refusalOfLetterOn M X (nI s) = some 0 ∧ f_X11_denied M (X + 226) (nI s) = some 0) ∨ ∃ r : Int32, ¬ r = 0 ∧ ¬ 0 ≤ r ∧ f_X10_refusalOfLetterOn M X (nI s) = some r ∧ f_X11_denied M (X + 226) (nI s) = some r := by
  obtain ⟨h1, hk, h2, h3, -⟩ := h
  unfold f_X10_refusalOfLetterOn f_X11_denied
  simp only [if_pos (k_0 hS), if_pos (k_226 hS), (fl_in hs).2.2.1, (fl_in hs).2.2.2, ob_eq, if_neg (by decide : ¬ (1 : Int32) = 0), r_0_1006 hS, q_sh hS hs, gi_aSh hS hs, r_226_1153 hS, ai_265 hS hs, h1, h3]
  rcases (show hk = 0 ∨ hk = 1 ∨ hk = 2 ∨ hk = 3 ∨ hk = 4 by omega) with rfl | rfl | rfl | rfl | rfl
  · exact Or.inr ⟨-11, by decide, by decide, rfl, rfl⟩
  · exact Or.inl ⟨rfl, rfl, rfl⟩
  · exact Or.inr ⟨-12, by decide, by decide, rfl, rfl⟩
  · exact Or.inr ⟨-12, by decide, by decide, rfl, rfl⟩
  · exact Or.inr ⟨-12, by decide, by decide, rfl, rfl⟩
theorem rfs_out {M : Mm} {X : Nat} {a : Int32} (hS : St M X) (h : a < 0 ∨ nI 8 ≤ a) : f_X10_refusalOfLetterOn M X a = some (-1) ∧ f_X11_denied M (X + 226) a = some (-1) := by
  unfold f_X10_refusalOfLetterOn f_X11_denied
  simp only [if_pos (k_0 hS), if_pos (k_226 hS), (fl_out h).2.2.1, (fl_out h).2.2.2, ob_eq, if_true, and_self]
theorem op_worth {M : Mm} {X p n w : Nat} {z : Nat → Nat} (H : Inv M X p n w z) (a : Int32) : ∃ r, f_X10_worth M X a = some r ∧ f_X11_worth M (X + 226) a = some (sI M 1100 (X + 226) 0, r) := by
  obtain ⟨hS, hW, hP, hD, hC, hQ, hX, hZ, hL, hG, hH, hT⟩ := H
  have hS1 : St (sI M 1100 (X + 226) 0) X := hS
  unfold f_X10_worth f_X11_worth
  rw [if_pos (k_0 hS), if_pos (k_226 hS), pi_226 hS, ob_eq]
  rcases ix_cases a (n := 8) (by omega) with h | ⟨s, hs, rfl⟩
  · rw [(rfs_out hS h).1, (rfs_out hS1 h).2]; exact ⟨_, rfl, rfl⟩
  have hI := hH s hs
  rcases rfs hS hs hI with ⟨e0, e1, e2⟩ | ⟨r, r1, r2, e1, e2⟩
  · rw [e1, show f_X11_denied (sI M 1100 (X + 226) 0) (X + 226) (nI s) = some 0 from e2]
    obtain ⟨h1, hk, h2, h3, h4, -⟩ := hI
    have hk1 : hk = 1 := by
      rw [h3] at e0
      exact (nI_eq (by omega) (by decide)).mp (show nI hk = nI 1 from e0)
    obtain ⟨⟨k, k1, k2, k3⟩, k4⟩ := h4 hk1
    simp only [ob_eq, if_true, if_pos (by decide : (0 : Int32) ≤ 0), r_0_1006 hS, q_sh hS hs, gi_aSh hS hs, r_226_1155 hS1, r_226_1154 hS1, ai_267 hS1 hs, ai_266 hS1 hs, mA_sI, k2, k3, k4]
    generalize mA M (X + 266) s = v
    have c1 : v * 10 = 10 * v := Int32.mul_comm _ _
    have c2 : ∀ x : Int32, x + 1 + 5 = x + 6 := fun x => by rw [Int32.add_assoc]; rfl
    rcases (show k = 0 ∨ k = 1 ∨ k = 2 ∨ k = 3 ∨ k = 4 ∨ k = 5 by omega) with rfl | rfl | rfl | rfl | rfl | rfl
    · exact ⟨v * 10 + 0, rfl, by rw [c1]; rfl⟩
    · exact ⟨v * 10 + 1 + 3, rfl, by rw [c1]; rfl⟩
    · exact ⟨(v * 10 + 2 + 3) * 2, rfl, by rw [c1, show (10 * v + 2 + 3) * 2 = 2 * (10 * v + 2 + 3) from Int32.mul_comm _ _]; rfl⟩
    · exact ⟨v * 10 + 3 + 1, rfl, by rw [c1]; rfl⟩
    · exact ⟨v * 10 + 4 + 1 + 5, rfl, by rw [c1, c2]; rfl⟩
    · exact ⟨(v * 10 + 5 + 1 + 5) * 3, rfl, by rw [c1, c2, show (10 * v + 5 + 6) * 3 = 3 * (10 * v + 5 + 6) from Int32.mul_comm _ _]; rfl⟩
  · rw [e1, show f_X11_denied (sI M 1100 (X + 226) 0) (X + 226) (nI s) = some r from e2]
    simp only [ob_eq, if_neg r1, if_neg r2]; exact ⟨_, rfl, rfl⟩
theorem op_toss {M : Mm} {X p n w : Nat} {z : Nat → Nat} (H : Inv M X p n w z) (a : Int32) : ∃ r, f_X10_toss M X a = some r ∧ f_X11_toss M (X + 226) a = some (sI M 1100 (X + 226) 0, r) := by
  obtain ⟨hS, hW, hP, hD, hC, hQ, hX, hZ, hL, hG, hH, hT⟩ := H
  have hS1 : St (sI M 1100 (X + 226) 0) X := hS
  unfold f_X10_toss f_X11_toss
  rw [if_pos (k_0 hS), if_pos (k_226 hS), pi_226 hS, ob_eq]
  rcases ix_cases a (n := 8) (by omega) with h | ⟨s, hs, rfl⟩
  · rw [(rfs_out hS h).1, (rfs_out hS1 h).2]; exact ⟨_, rfl, rfl⟩
  have hI := hH s hs
  rcases rfs hS hs hI with ⟨e0, e1, e2⟩ | ⟨r, r1, r2, e1, e2⟩
  · rw [e1, show f_X11_denied (sI M 1100 (X + 226) 0) (X + 226) (nI s) = some 0 from e2]
    obtain ⟨h1, hk, h2, h3, h4, -⟩ := hI
    have hk1 : hk = 1 := by
      rw [h3] at e0
      exact (nI_eq (by omega) (by decide)).mp (show nI hk = nI 1 from e0)
    obtain ⟨⟨k, k1, k2, k3⟩, k4⟩ := h4 hk1
    simp only [ob_eq, if_true, if_pos (by decide : (0 : Int32) ≤ 0), r_0_1006 hS, q_sh hS hs, gi_aSh hS hs, r_226_1155 hS1, ai_267 hS1 hs, mA_sI, k2, k3]
    by_cases c0 : nI k = 0
    · simp only [if_pos c0]; exact ⟨_, rfl, rfl⟩
    by_cases c1 : nI k = 3
    · simp only [if_neg c0, if_pos c1]; exact ⟨_, rfl, rfl⟩
    · simp only [if_neg c0, if_neg c1]; exact ⟨_, rfl, rfl⟩
  · rw [e1, show f_X11_denied (sI M 1100 (X + 226) 0) (X + 226) (nI s) = some r from e2]
    simp only [ob_eq, if_neg r1, if_neg r2]; exact ⟨_, rfl, rfl⟩
