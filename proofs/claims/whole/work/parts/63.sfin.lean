/-! send: the invariant behind it. -/
def TAq (X i : Nat) : Nat → Nat → Prop := fun a j => ((a = X + 232 ∨ a = X + 233 ∨ a = X + 235 ∨ a = X + 236) ∧ j = i) ∨ (a = X + 237 ∧ 9 * i ≤ j ∧ j < 9 * i + 9)
theorem snd_fin {M M1 M2 : Mm} {X p n w i kk r h f0 hh r' k nb len sb : Nat} {z : Nat → Nat} {num o' : Int32} {gb : Nat → Int32} {fb : Nat → Nat} {pr : Option Nat} (H : Inv M X p n w z) (hn : n < 200) (hi : i < 8) (hQ : IQ' M X p w n i kk r h f0) (hhh : hh = h ∨ hh = 0)
    (A1 : Ag X (z n) n (fun nu a => T10 X nu a ∨ TIr X i nu a) T0 (TBc X i) M M1) (A2 : ∀ N n0, Ag X N n0 (TIl X) (fun a j => TAL X n a j ∨ TAq X i a j) (TBr X i) M1 M2) (hsb : z n ≤ sb) (s1 : mS M1 = sb + 2) (s2 : mS M2 = mS M1)
    (cl : cLt M1 X n (sb + 1) sb k i nb len num gb 0 pr) (rl : rLt M2 X n k i nb len num fb 0) (hk : k ≤ 2) (hb : nb ≤ 480) (l1 : 3 ≤ len) (l2 : len ≤ 60) (hg : ∀ q, q < len → gb q = nI (fb q)) (hf : ∀ q, q < len → fb q < 256)
    (hp : (k = 2 ∧ ILp M2 X p (fun l => if l ≤ n then z l else sb + 2) n) ∨ (¬ k = 2 ∧ pr = none))
    (m901 : mI M1 901 (aSq X i) = nI (kk + 1)) (m904 : mI M1 904 (aSq X i) = nI (hh + 1 - (if hh < w then 0 else 1))) (m906 : mI M1 906 (aSq X i) = nI ((f0 + (if hh < w then 0 else 1)) % 8)) (m902 : mI M1 902 (aSq X i) = nI r') (hr : r' < 16) (m903 : mI M1 903 (aSq X i) = o') (ho : o' = 0 ∨ o' = 1)
    (mh : ∀ d, d < 8 → mI M1 301 (aHd X i d) = if d = (f0 + hh) % 8 then nI kk else mI M 301 (aHd X i d)) (mb : ∀ d f, d < 8 → f < 8 → mB M1 (aHv X i d) f = if d = (f0 + hh) % 8 then mB M (X + 7) f else mB M (aHv X i d) f)
    (r232 : mA M2 (X + 232) i = nI (kk + 1)) (r233 : mA M2 (X + 233) i = nI r') (r235 : mA M2 (X + 235) i = o') (r236 : mA M2 (X + 236) i = nI (hh + 1 - (if hh < w then 0 else 1)))
    (r237 : ∀ j, j < hh + 1 - (if hh < w then 0 else 1) → mA M2 (X + 237) (9 * i + j) = if j + (if hh < w then 0 else 1) < hh then mA M (X + 237) (9 * i + j + (if hh < w then 0 else 1)) else nI kk)
    (r238 : ∀ j f, j < hh + 1 - (if hh < w then 0 else 1) → f < p → mB M2 (X + 238) (8 * (9 * i + j) + f) = if j + (if hh < w then 0 else 1) < hh then mB M (X + 238) (8 * (9 * i + j + (if hh < w then 0 else 1)) + f) else mB M (X + 231) f) :
    Inv M2 X p (n + 1) w (fun l => if l ≤ n then z l else sb + 2) := by
  obtain ⟨hS, hW, hP, hD, hC, -, hX, hZ, hL, hG, hH, hT⟩ := id H
  obtain ⟨q1, q2, q3, q4, q5, q6, q7, q8, q9, q10, q11, q12, q13, q14, q15⟩ := id hQ
  have hN := z_ge hZ n (Nat.le_refl _)
  have p8 := hP.1
  have w8 := hW.2.2.2
  have w1 := hW.2.2.1
  have c2 : cLt M2 X n (sb + 1) sb k i nb len num gb 0 pr := by
    refine cl_tr (N := sb + 2) cl (A2 _ _) (by omega) (by omega) (by omega) ?_ ?_
    · intro nu a q; unfold TIl at q; omega
    · intro a j q; unfold TAL TAq at q; omega
  have A : Ag X (z n) n (TIa X i) (TAa X n i) (TBa X i) M M2 := by
    refine (A1.tr (A2 _ _)).wk ?_ ?_ ?_
    · intro nu a q; unfold T10 TIr TIl at q; unfold TIa; omega
    · intro a j q
      rcases q with q | q
      · exact q.elim
      · exact q
    · intro a j q; unfold TBc TBr at q; unfold TBa; omega
  have B := A2 (X + 270) 0
  have bI : ∀ nu a, ¬ ScI X nu a → ¬ a = X + 226 → a < X + 270 → mI M2 nu a = mI M1 nu a := fun nu a s t l => B.1 nu a s (fun q => t q.2) l
  have bB : ∀ a j, ¬ ScB X a → ¬ a = X + 238 → a < X + 270 → mB M2 a j = mB M1 a j := fun a j s t l => B.2.2.1 a j s (fun q => t q.1) l
  have eA : ∀ a j, ¬ ScA X a → ¬ TAa X n i a j → a < X + 270 → mA M2 a j = mA M a j := fun a j s t l => A.2.1 a j s t (by omega)
  have l9 : aSq X i < X + 212 := by unfold aSq; omega
  refine inv_add H hn hi A ?_ (by omega) (by rw [s2, s1]; exact Nat.le_refl _) (IL_new c2 rl (if_neg (by omega)) rfl (by omega) hi hb (Or.inl rfl) l1 l2 hg hf ?_) c2.2.2.2.2.2.2.2.2.2.2.2.2.2.2 rl.2.2.2.2.2.2.2.2.2.1 rl.2.2.2.2.2.2.2.2.2.2 rl.2.2.2.2.2.1
  rotate_left
  · rcases hp with ⟨e1, e2⟩ | ⟨e1, e2⟩
    · exact Or.inl ⟨e1, rfl, e2⟩
    · exact Or.inr ⟨fun q => e1 q.1, e2⟩
  generalize hdd : (if hh < w then 0 else 1 : Nat) = dd at *
  have hdd2 : (hh < w ∧ dd = 0) ∨ (hh = w ∧ dd = 1) := by
    by_cases c : hh < w
    · rw [if_pos c] at hdd; exact Or.inl ⟨c, hdd.symm⟩
    · rw [if_neg c] at hdd; exact Or.inr ⟨by omega, hdd.symm⟩
  refine ⟨kk + 1, r', hh + 1 - dd, (f0 + dd) % 8, by omega, ?_, r232, hr, ?_, r233, ?_, ?_, by omega, ?_, r236, Nat.mod_lt _ (by decide), ?_, ?_, ?_⟩
  · rw [bI _ _ (by unfold ScI; omega) (by omega) (by omega)]; exact m901
  · rw [bI _ _ (by unfold ScI; omega) (by omega) (by omega)]; exact m902
  · rw [bI _ _ (by unfold ScI; omega) (by omega) (by omega), r235]; exact m903
  · rw [r235]; exact ho
  · rw [bI _ _ (by unfold ScI; omega) (by omega) (by omega)]; exact m904
  · rw [bI _ _ (by unfold ScI; omega) (by omega) (by omega)]; exact m906
  · intro f hf8
    rw [eA _ _ (by unfold ScA; omega) (by unfold TAa TAL; omega) (by omega), eA (aSt X i) f (by unfold ScA aSt; omega) (by unfold TAa TAL aSt; omega) (by unfold aSt; omega)]
    exact q14 f hf8
  · intro j hj
    have hm : ((f0 + dd) % 8 + j) % 8 < 8 := Nat.mod_lt _ (by decide)
    generalize hd : ((f0 + dd) % 8 + j) % 8 = d at hm
    have aI : mI M2 301 (aHd X i d) = mI M1 301 (aHd X i d) := bI _ _ (by unfold ScI aHd; omega) (by unfold aHd; omega) (by unfold aHd; omega)
    have aB : ∀ f, mB M2 (aHv X i d) f = mB M1 (aHv X i d) f := fun f => bB _ _ (by unfold ScB aHv; omega) (by unfold aHv; omega) (by unfold aHv; omega)
    by_cases c : j + dd < hh
    · have ns : ¬ d = (f0 + hh) % 8 := by omega
      have hjh : j + dd < h := by omega
      have ed : d = (f0 + (j + dd)) % 8 := by omega
      obtain ⟨⟨u, u1, u2, u3⟩, u4⟩ := q15 (j + dd) hjh
      rw [← ed] at u3 u4
      rw [← Nat.add_assoc (9 * i) j dd] at u2
      refine ⟨⟨u, by omega, ?_, ?_⟩, fun f hf => ?_⟩
      · rw [r237 j hj, if_pos c]; exact u2
      · rw [aI, mh d hm, if_neg ns]; exact u3
      · rw [r238 j f hj hf, if_pos c, aB, mb d f hm (by omega), if_neg ns]
        have u5 := u4 f hf
        rw [← Nat.add_assoc (9 * i) j dd] at u5
        exact u5
    · have ns : d = (f0 + hh) % 8 := by omega
      refine ⟨⟨kk, by omega, ?_, ?_⟩, fun f hf => ?_⟩
      · rw [r237 j hj, if_neg c]
      · rw [aI, mh d hm, if_pos ns]
      · rw [r238 j f hj hf, if_neg c, aB, mb d f hm (by omega), if_pos ns]
        exact (hD.1 f hf).1
