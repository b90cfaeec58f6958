/-! A letter comes: the invariant. -/
def TAL (X n : Nat) : Nat → Nat → Prop := fun a j => (X + 239 ≤ a ∧ a ≤ X + 251 ∧ a ≠ X + 240 ∧ a ≠ X + 248 ∧ a ≠ X + 249 ∧ j = n) ∨ (a = X + 240 ∧ 64 * n ≤ j ∧ j < 64 * n + 60) ∨ ((a = X + 248 ∨ a = X + 249) ∧ 8 * n ≤ j ∧ j < 8 * n + 8)
def TIa (X i : Nat) : Nat → Nat → Prop := fun num a => (num = 1010 ∧ a = X) ∨ ((num = 1116 ∨ num = 1106) ∧ a = X + 226) ∨ (901 ≤ num ∧ num ≤ 906 ∧ a = aSq X i) ∨ (num = 301 ∧ aHd X i 0 ≤ a ∧ a ≤ aHd X i 7)
def TAa (X n i : Nat) : Nat → Nat → Prop := fun a j => TAL X n a j ∨ ((a = X + 232 ∨ a = X + 233 ∨ a = X + 235 ∨ a = X + 236) ∧ j = i) ∨ (a = X + 237 ∧ 9 * i ≤ j ∧ j < 9 * i + 9)
def TBa (X i : Nat) : Nat → Nat → Prop := fun a j => (aHv X i 0 ≤ a ∧ a ≤ aHv X i 7) ∨ (a = X + 238 ∧ 72 * i ≤ j ∧ j < 72 * i + 72)
theorem IL_z {M : Mm} {X p l : Nat} {z z' : Nat → Nat} (e1 : z' l = z l) (e2 : z' (l + 1) = z (l + 1)) (h : IL M X p z l) : IL M X p z' l := by
  unfold IL ILb ILp lA lB lP lU lV at h ⊢
  rw [e1, e2]
  exact h
theorem IQ_up {M : Mm} {X p w n i : Nat} (h : IQ M X p w n i) : IQ M X p w (n + 1) i := by
  obtain ⟨k, r, hh, f0, q1, q⟩ := h
  exact ⟨k, r, hh, f0, by omega, q⟩
theorem inv_add {M M2 : Mm} {X p n w i zt : Nat} {z : Nat → Nat} (H : Inv M X p n w z) (hn : n < 200) (hi : i < 8) (A : Ag X (z n) n (TIa X i) (TAa X n i) (TBa X i) M M2) (hQi : IQ M2 X p w (n + 1) i) (t1 : z n + 2 ≤ zt) (t2 : zt ≤ mS M2) (hLn : IL M2 X p (fun l => if l ≤ n then z l else zt) n) (c1 : mI M2 1010 X = nI (n + 1)) (c2 : mI M2 1116 (X + 226) = nI (n + 1)) (c3 : mI M2 1106 (X + 226) = 1) (c4 : mA M2 (X + 246) n = 0) : Inv M2 X p (n + 1) w (fun l => if l ≤ n then z l else zt) := by
  obtain ⟨hS, hW, ⟨p8, p1, p2, p3⟩, hD, hC, hQ, hX, hZ, hL, hG, hH, hT⟩ := id H
  have hN := z_ge hZ n (Nat.le_refl _)
  refine ⟨St_Ag hN A hS, tr_W hN A hW ?_, tr_P hN A ⟨p8, p1, p2, p3⟩ ?_ ?_ ?_, tr_D hN A hD ?_ ?_, ⟨by omega, c1, c2, by rw [c3, if_neg (by omega)]⟩, fun i' hi' => ?_, fun i' hi' => ?_, ?_, fun l hl => ?_, ?_, fun s hs => ?_, ?_⟩
  · intro nu a h; unfold TIa aSq aHd at h; omega
  · intro nu a h; unfold TIa aSq aHd at h; omega
  · intro a j h; unfold TAa TAL at h; omega
  · intro a j h; unfold TBa aHv at h; omega
  · intro a j h; unfold TAa TAL at h; omega
  · intro a j h; unfold TBa aHv at h; omega
  · by_cases e : i' = i
    · subst e; exact hQi
    · refine IQ_up (tr_Q hN p8 hW.2.2.2 hi' A (hQ i' hi') ?_ ?_ ?_)
      · intro nu a h; unfold TIa aSq aHd at h; unfold aSq aHd; omega
      · intro a j h; unfold TAa TAL at h; unfold aSt; omega
      · intro a j h; unfold TBa aHv at h; unfold aHv; omega
  · obtain ⟨x1, x2⟩ := tr_X hN p8 hi' A (hX i' hi') (by intro nu a h; unfold TIa aSq aHd at h; unfold aCx aCh; omega) (by intro a j h; unfold TAa TAL at h; unfold aCs; omega) (by intro a j h; unfold TBa aHv at h; unfold aCv; omega)
    exact ⟨x1, x2.imp_right (fun ⟨g1, _, g3⟩ => ⟨g1, Nat.succ_pos _, g3⟩)⟩
  · refine ⟨(if_pos (Nat.zero_le _)).trans hZ.1, fun l hl => ?_, by show (if n + 1 ≤ n then _ else zt) ≤ _; rw [if_neg (by omega)]; exact t2⟩
    show (if l ≤ n then z l else zt) + 2 ≤ (if l + 1 ≤ n then z (l + 1) else zt)
    by_cases e : l = n
    · subst e; rw [if_pos (Nat.le_refl _), if_neg (by omega)]; exact t1
    · rw [if_pos (by omega), if_pos (by omega)]; exact hZ.2.1 l (by omega)
  · by_cases e : l = n
    · subst e; exact hLn
    · have hl' : l < n := by omega
      have zz := z_ge hZ l (by omega)
      have zm := z_mo hZ (l := l + 1) (m := n) (by omega) (Nat.le_refl _)
      refine IL_z (z := z) (if_pos (by omega)) (if_pos (by omega)) (tr_L p8 hZ hl' (Nat.le_refl _) (Nat.le_refl _) A (hL l hl') ?_ ?_)
      · intro nu a h
        unfold TIa aSq aHd at h
        omega
      · intro a j h; unfold TAa TAL at h; omega
  · obtain ⟨x1, x2⟩ := tr_G hN A hG (by intro nu a h; unfold TIa aSq aHd at h; omega) (by intro a j h; unfold TAa TAL at h; omega) (by intro a j h; unfold TBa aHv at h; omega)
    exact ⟨x1, x2.imp_right (fun ⟨_, g3⟩ => ⟨Nat.succ_pos _, g3⟩)⟩
  · exact tr_H hN hs A (hH s hs) (by intro nu a h; unfold TIa aSq aHd at h; unfold aSh; omega) (by intro a j h; unfold TAa TAL at h; omega) (by intro a j h; unfold TBa aHv at h; unfold aSr; omega)
  · have e1 : mI M2 1011 X = mI M 1011 X := A.1 _ _ (by unfold ScI; omega) (by unfold TIa; omega) (by omega)
    have e2 : lc (mA M2 (X + 246)) n = lc (mA M (X + 246)) n := lc_congr (fun l hl => A.2.1 _ _ (by unfold ScA; omega) (by unfold TAa TAL; omega) (by omega))
    show mI M2 1011 X = nI (lc (mA M2 (X + 246)) n + (if mA M2 (X + 246) n = 0 then 0 else 1))
    rw [e1, if_pos c4, Nat.add_zero, e2]
    exact hT
