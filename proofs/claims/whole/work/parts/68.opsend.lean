theorem op_send {M : Mm} {X p n w : Nat} {z : Nat → Nat} (H : Inv M X p n w z) (a b : Int32) : ∃ M1 M2 r n' z', f_X10_send M X a b = some (M1, r) ∧ f_X11_send M1 (X + 226) a b = some (M2, r) ∧ Inv M2 X p n' w z' ∧ n' ≤ n + 1 := by
  obtain ⟨hS, hW, hP, hD, hC, hQ, hX, hZ, hL, hG, hH, hT⟩ := id H
  have d10 : ¬ (1 : Int32) = 0 := by decide
  have hSt : St (sI M 1100 (X + 226) 0) X := St_sI hS
  have iT : ∀ nu, nu ≠ 1100 → mI (sI M 1100 (X + 226) 0) nu (X + 226) = mI M nu (X + 226) := fun nu h => by rw [mI_sI, if_neg h]
  have Ht := inv_thr (v := 0) H
  have h200 := hC.1
  have p8 := hP.1
  rcases ix_cases a (n := 8) (by omega) with h | ⟨i, hi, rfl⟩
  · refine ⟨M, _, -1, n, z, ?_, ?_, Ht, by omega⟩
    · unfold f_X10_send
      rw [if_pos (k_0 hS), (fl_out h).1, ob_eq, if_pos rfl]
    · unfold f_X11_send
      rw [if_pos (k_226 hS), pi_226 hS, ob_eq, (fl_out h).2.1, ob_eq, if_pos rfl]
  by_cases hn : n < 200
  rotate_left
  · have e : n = 200 := by omega
    have e2 : nI n = 200 := by rw [e]; rfl
    refine ⟨M, _, -2, n, z, ?_, ?_, Ht, by omega⟩
    · unfold f_X10_send
      rw [if_pos (k_0 hS), (fl_in hi).1, ob_eq, if_neg d10, lf_in hS hC, ob_eq, if_neg hn, if_neg d10]
    · unfold f_X11_send f_X11_send_J31
      rw [if_pos (k_226 hS), pi_226 hS, ob_eq, (fl_in hi).2.1, ob_eq, if_neg d10, gi_226 hSt, ob_eq, iT 1116 (by decide), hC.2.2.1, if_pos e2, ob_eq, if_pos e2]
  have n200 : ¬ nI n = 200 := fun q => absurd ((nI_eq (a := n) (b := 200) (by omega) (by decide)).mp q) (by omega)
  by_cases hp : p = 0
  · refine ⟨M, _, -3, n, z, ?_, ?_, Ht, by omega⟩
    · unfold f_X10_send
      rw [if_pos (k_0 hS), (fl_in hi).1, ob_eq, if_neg d10, lf_in hS hC, ob_eq, if_pos hn, if_pos rfl, r_0_1001 hS, ob_eq, gi_1 hS, ob_eq, hP.2.1, if_pos (show nI p = 0 by rw [hp]; rfl)]
    · unfold f_X11_send f_X11_send_J31
      rw [if_pos (k_226 hS), pi_226 hS, ob_eq, (fl_in hi).2.1, ob_eq, if_neg d10, gi_226 hSt, ob_eq, iT 1116 (by decide), hC.2.2.1, if_neg n200, gi_226 hSt, ob_eq, iT 1101 (by decide), hP.2.2.1, if_pos (show nI p = 0 by rw [hp]; rfl), ob_eq, if_neg n200]
  obtain ⟨k, r, h, f0, hq⟩ := hQ i hi
  by_cases ha : b = 0 ∧ mA M (X + 235) i = 0 ∧ ¬ h = 0
  · by_cases hc : al (cnd M X i k f0 h) p = true
    · obtain ⟨M1, M2, r', z', e1, e2, e3⟩ := snd_S H hn (by omega) hi hq b ha hc
      exact ⟨M1, M2, r', n + 1, z', e1, e2, e3, Nat.le_refl _⟩
    · obtain ⟨M1, M2, r', z', e1, e2, e3⟩ := snd_P H hn (by omega) hi hq b ha hc
      exact ⟨M1, M2, r', n + 1, z', e1, e2, e3, Nat.le_refl _⟩
  · obtain ⟨M1, M2, r', z', e1, e2, e3⟩ := snd_W H hn (by omega) hi hq b ha
    exact ⟨M1, M2, r', n + 1, z', e1, e2, e3, Nat.le_refl _⟩
