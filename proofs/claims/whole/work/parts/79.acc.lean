/-! What is taken: the class's accept, the reference's. -/
def sV (M : Mm) (a i : Nat) (v : Int64) : Mm := sB M a (va_up (mB M a) i v)
theorem sV_def (M : Mm) (a i : Nat) (v : Int64) : sB M a (va_up (mB M a) i v) = sV M a i v := rfl
theorem mA_sV (M : Mm) (a i : Nat) (v : Int64) : mA (sV M a i v) = mA M := rfl
theorem mI_sV (M : Mm) (a i : Nat) (v : Int64) : mI (sV M a i v) = mI M := rfl
theorem mS_sV (M : Mm) (a i : Nat) (v : Int64) : mS (sV M a i v) = mS M := rfl
theorem St_sV {M : Mm} {X a i : Nat} {v : Int64} (h : St M X) : St (sV M a i v) X := h
theorem mB_sVx {M : Mm} {a i x : Nat} {v : Int64} (h : ¬ x = a) : mB (sV M a i v) x = mB M x := by unfold sV; rw [mB_sB, if_neg h]
theorem mB_sVi {M : Mm} {a i : Nat} {v : Int64} : mB (sV M a i v) a i = v := by unfold sV; rw [mB_sB, if_pos rfl, vau_eq]
theorem mB_sVj {M : Mm} {a i j x : Nat} {v : Int64} (h : ¬ j = i) : mB (sV M a i v) x j = mB M x j := by
  unfold sV
  rw [mB_sB]
  by_cases q : x = a
  · subst q; rw [if_pos rfl, vau_ne h]
  · rw [if_neg q]
theorem Ag.cV {X N n : Nat} {TI TA TB : Nat → Nat → Prop} {M M1 : Mm} {b i : Nat} {v : Int64} (h : Ag X N n TI TA TB M M1) (q : ScB X b ∨ N ≤ b ∨ TB b i) : Ag X N n TI TA TB M (sV M1 b i v) := Ag.cBu h q
def TIg (X i : Nat) : Nat → Nat → Prop := fun num a => ((num = 102 ∨ num = 103) ∧ a = aCx X i) ∨ (num = 301 ∧ (a = aCh X i ∨ a = X + 223)) ∨ (202 ≤ num ∧ num ≤ 204 ∧ a = X + 222)
def TAg (X i : Nat) : Nat → Nat → Prop := fun a _ => a = aCs X i ∨ a = X + 225
def TBg (X i : Nat) : Nat → Nat → Prop := fun a _ => a = aCv X i ∨ a = X + 224
theorem ac2 {G : Mm} {X i u : Nat} {hg : Int32} (S : St G X) (hu : mI G 301 (X + 215) = nI u) (h6 : mI G 6 (X + 214) = nI i) : ∃ E, f_X2_accept G (X + 222) (X + 214) hg = some E ∧ (∀ N n i', Ag X N n (TIg X i') (TAg X i') (TBg X i') G E) ∧ mS E = mS G ∧ (∀ f, f < 8 → mB E (X + 224) f = mB G (X + 216) f) ∧ mI E 301 (X + 223) = nI u ∧ (∀ f, f < 8 → mA E (X + 225) f = mA G (X + 218) f) ∧ mI E 202 (X + 222) = nI i ∧ mI E 203 (X + 222) = hg ∧ mI E 204 (X + 222) = mI G 204 (X + 222) + 1 ∧ (∀ nu a, ¬ (202 ≤ nu ∧ nu ≤ 204) → ¬ a = X + 223 → mI E nu a = mI G nu a) ∧ (∀ a, ¬ a = X + 225 → mA E a = mA G a) ∧ ∀ a, ¬ a = X + 224 → mB E a = mB G a := by
  have n223 : ¬ X + 224 = X + 216 := by omega
  generalize h1 : sI (sB G (X + 224) (va_cpy (mB G (X + 216)) (mB G (X + 224)) 0 0 8)) 301 (X + 223) (nI u) = G1
  have S1 : St G1 X := by rw [← h1]; exact St_sI (St_sB S)
  have a1 : mA G1 = mA G := by rw [← h1, mA_sI, mA_sB]
  have i1 : ∀ nu, ¬ nu = 301 → mI G1 nu = mI G nu := by intro nu q; rw [← h1]; funext y; rw [mI_sI, if_neg q, mI_sB]
  have b1 : f_X3_become G (X + 223) (X + 215) = some G1 := by
    rw [bec (k_223 S) (k_215 S) (r_223_300 S) (r_215_300 S) (k_224 S) (n_224 S) (k_216 S) (n_216 S), hu, h1]
  have c1 : cpI G1 (X + 218) 0 (X + 225) 0 8 = some (sA G1 (X + 225) (va_cpy (mA G1 (X + 218)) (mA G1 (X + 225)) 0 0 8)) := cpI_of (i := 0) (j := 0) (k := 8) (k_218 S1) (k_225 S1) (n_218 S1) (n_225 S1) (by omega) (by omega) (by omega) (by omega)
  generalize h2 : sA G1 (X + 225) (va_cpy (mA G1 (X + 218)) (mA G1 (X + 225)) 0 0 8) = G2 at c1
  have S2 : St G2 X := by rw [← h2]; exact St_sA S1
  have i2 : mI G2 = mI G1 := by rw [← h2, mI_sA]
  refine ⟨sI (sI (sI G2 202 (X + 222) (nI i)) 203 (X + 222) hg) 204 (X + 222) (mI G 204 (X + 222) + 1), ?_, ?_, ?_, ?_, ?_, ?_, ?_, ?_, ?_, ?_, ?_, ?_⟩
  · unfold f_X2_accept
    rw [if_pos (k_222 S), r_222_200 S, ob_eq, r_214_0 S, ob_eq, b1, ob_eq, r_214_2 S1, ob_eq, r_222_201 S1, ob_eq, c1, ob_eq, gi_214 S2, ob_eq, i2, i1 6 (by decide), h6, pi_222 S2, ob_eq, pi_222 (St_sI S2), ob_eq, gi_222 (St_sI (St_sI S2)), ob_eq, mI_sI, if_neg (by decide), mI_sI, if_neg (by decide), i2, i1 204 (by decide), pi_222 (St_sI (St_sI S2)), ob_eq]
  · intro N n i'
    have x1 : Ag X N n (TIg X i') (TAg X i') (TBg X i') G G1 := by
      rw [← h1]
      exact (Ag_sB (Or.inr (Or.inr (fun j t => absurd (Or.inr rfl) t)))).cI (Or.inr (Or.inl (Or.inr (Or.inl ⟨rfl, Or.inr rfl⟩))))
    have x2 : Ag X N n (TIg X i') (TAg X i') (TBg X i') G G2 := by
      rw [← h2]
      exact x1.cA (Or.inr (Or.inr (fun j t => absurd (Or.inr rfl) t)))
    exact ((x2.cI (Or.inr (Or.inl (Or.inr (Or.inr ⟨by decide, by decide, rfl⟩))))).cI (Or.inr (Or.inl (Or.inr (Or.inr ⟨by decide, by decide, rfl⟩))))).cI (Or.inr (Or.inl (Or.inr (Or.inr ⟨by decide, by decide, rfl⟩))))
  · rw [mS_sI, mS_sI, mS_sI, ← h2, mS_sA, ← h1, mS_sI, mS_sB]
  · intro f hf
    rw [mB_sI, mB_sI, mB_sI, ← h2, mB_sA, ← h1, mB_sI, mB_sB, if_pos rfl, pk_cpy_in (by omega) (by omega), show 0 + (f - 0) = f by omega]
  · rw [mI_sI, if_neg (by decide), mI_sI, if_neg (by decide), mI_sI, if_neg (by decide), i2, ← h1, mI_sI, if_pos rfl, if_pos rfl]
  · intro f hf
    rw [mA_sI, mA_sI, mA_sI, ← h2, mA_sA, if_pos rfl, pk_cpy_in (by omega) (by omega), show 0 + (f - 0) = f by omega, a1]
  · rw [mI_sI, if_neg (by decide), mI_sI, if_neg (by decide), mI_sI, if_pos rfl, if_pos rfl]
  · rw [mI_sI, if_neg (by decide), mI_sI, if_pos rfl, if_pos rfl]
  · rw [mI_sI, if_pos rfl, if_pos rfl]
  · intro nu a h h'
    rw [mI_sI, if_neg (by omega), mI_sI, if_neg (by omega), mI_sI, if_neg (by omega), i2, ← h1, mI_sIy h', mI_sB]
  · intro a ha
    rw [mA_sI, mA_sI, mA_sI, ← h2, mA_sA, if_neg ha, a1]
  · intro a ha
    rw [mB_sI, mB_sI, mB_sI, ← h2, mB_sA, ← h1, mB_sI, mB_sB, if_neg ha]
theorem ac1 {G : Mm} {X i u k : Nat} (S : St G X) (hi : i < 8) (hu : mI G 301 (X + 215) = nI u) (h5 : mI G 5 (X + 214) = nI k) (k8 : k < 8) : ∃ E, f_X1_accept G (aCx X i) (X + 214) = some E ∧ (∀ N n, Ag X N n (TIg X i) (TAg X i) (TBg X i) G E) ∧ mS E = mS G ∧ (∀ f, f < 8 → mB E (aCv X i) f = mB G (X + 216) f) ∧ mI E 301 (aCh X i) = nI u ∧ mI E 103 (aCx X i) = 1 ∧ (k = 0 → mI E 102 (aCx X i) = mI G 7 (X + 214) ∧ ∀ f, f < 8 → mA E (aCs X i) f = mA G (X + 217) f) ∧ (¬ k = 0 → mI E 102 (aCx X i) = mI G 102 (aCx X i) ∧ mA E (aCs X i) = mA G (aCs X i)) ∧ (∀ nu a, ¬ a = aCh X i → ¬ a = aCx X i → mI E nu a = mI G nu a) ∧ (∀ a, ¬ a = aCs X i → mA E a = mA G a) ∧ ∀ a, ¬ a = aCv X i → mB E a = mB G a := by
  have k0 : (nI k = 0) ↔ k = 0 := ⟨fun q => (nI_eq (b := 0) (by omega) (by decide)).mp q, fun q => by rw [q]; rfl⟩
  have l1 : ¬ aCx X i = aCh X i := by unfold aCx aCh; omega
  have l2 : ¬ X + 214 = aCh X i ∧ ¬ X + 214 = aCx X i := by unfold aCx aCh; omega
  generalize h1 : sI (sI (sB G (aCv X i) (va_cpy (mB G (X + 216)) (mB G (aCv X i)) 0 0 8)) 301 (aCh X i) (nI u)) 103 (aCx X i) 1 = G1
  have S1 : St G1 X := by rw [← h1]; exact St_sI (St_sI (St_sB S))
  have a1 : mA G1 = mA G := by rw [← h1, mA_sI, mA_sI, mA_sB]
  have s1 : mS G1 = mS G := by rw [← h1, mS_sI, mS_sI, mS_sB]
  have i1 : ∀ nu a, ¬ a = aCh X i → ¬ a = aCx X i → mI G1 nu a = mI G nu a := by intro nu a q1 q2; rw [← h1, mI_sIy q2, mI_sIy q1, mI_sB]
  have x102 : mI G1 102 (aCx X i) = mI G 102 (aCx X i) := by rw [← h1, mI_sI, if_neg (by decide), mI_sI, if_neg (by decide), mI_sB]
  have x301 : mI G1 301 (aCh X i) = nI u := by rw [← h1, mI_sI, if_neg (by decide), mI_sI, if_pos rfl, if_pos rfl]
  have x103 : mI G1 103 (aCx X i) = 1 := by rw [← h1, mI_sI, if_pos rfl, if_pos rfl]
  have bv : ∀ f, f < 8 → mB G1 (aCv X i) f = mB G (X + 216) f := by
    intro f hf
    rw [← h1, mB_sI, mB_sI, mB_sB, if_pos rfl, pk_cpy_in (by omega) (by omega), show 0 + (f - 0) = f by omega]
  have bo : ∀ a, ¬ a = aCv X i → mB G1 a = mB G a := by intro a ha; rw [← h1, mB_sI, mB_sI, mB_sB, if_neg ha]
  have A1 : ∀ N n, Ag X N n (TIg X i) (TAg X i) (TBg X i) G G1 := by
    intro N n
    rw [← h1]
    exact ((Ag_sB (Or.inr (Or.inr (fun j t => absurd (Or.inl rfl) t)))).cI (Or.inr (Or.inl (Or.inr (Or.inl ⟨rfl, Or.inl rfl⟩))))).cI (Or.inr (Or.inl (Or.inl ⟨Or.inr rfl, rfl⟩)))
  have st : f_X1_accept G (aCx X i) (X + 214) = if nI k = 0 then ((gI G1 1 7 (X + 214)).bind fun v8 => (pI G1 2 102 (aCx X i) v8).bind fun M9 => (gR M9 1 1 (X + 214)).bind fun v10 => (gR M9 2 101 (aCx X i)).bind fun v11 => (cpI M9 v10 0 v11 0 8).bind fun M12 => some M12) else some G1 := by
    have bb := bec (k_aCh S hi) (k_215 S) (r_aCh_300 S hi) (r_215_300 S) (k_aCv S hi) (n_aCv S hi) (k_216 S) (n_216 S)
    rw [hu] at bb
    have S0 : St (sI (sB G (aCv X i) (va_cpy (mB G (X + 216)) (mB G (aCv X i)) 0 0 8)) 301 (aCh X i) (nI u)) X := St_sI (St_sB S)
    unfold f_X1_accept
    rw [if_pos (k_aCx S hi), r_aCx_100 S hi, ob_eq, r_214_0 S, ob_eq, bb, ob_eq, pZ_of (k_aCx S0 hi) (Or.inr rfl), ob_eq, h1, gi_214 S1, ob_eq, i1 _ _ l2.1 l2.2, h5]
  rw [st]
  by_cases c : k = 0
  · rw [if_pos (k0.mpr c)]
    generalize h2 : sI G1 102 (aCx X i) (mI G 7 (X + 214)) = G2
    have S2 : St G2 X := by rw [← h2]; exact St_sI S1
    have a2 : mA G2 = mA G := by rw [← h2, mA_sI, a1]
    have c1 : cpI G2 (X + 217) 0 (aCs X i) 0 8 = some (sA G2 (aCs X i) (va_cpy (mA G2 (X + 217)) (mA G2 (aCs X i)) 0 0 8)) := cpI_of (i := 0) (j := 0) (k := 8) (k_217 S2) (k_aCs S2 hi) (n_217 S2) (n_aCs S2 hi) (by omega) (by omega) (by omega) (by omega)
    refine ⟨sA G2 (aCs X i) (va_cpy (mA G2 (X + 217)) (mA G2 (aCs X i)) 0 0 8), ?_, ?_, ?_, ?_, ?_, ?_, fun _ => ⟨?_, ?_⟩, fun q => absurd c q, ?_, ?_, ?_⟩
    · rw [gi_214 S1, ob_eq, i1 _ _ l2.1 l2.2, pi_aCx S1 hi, ob_eq, h2, r_214_1 S2, ob_eq, r_aCx_101 S2 hi, ob_eq, c1, ob_eq]
    · intro N n
      have x2 : Ag X N n (TIg X i) (TAg X i) (TBg X i) G G2 := by
        rw [← h2]
        exact (A1 N n).cI (Or.inr (Or.inl (Or.inl ⟨Or.inl rfl, rfl⟩)))
      exact x2.cA (Or.inr (Or.inr (fun j t => absurd (Or.inl rfl) t)))
    · rw [mS_sA, ← h2, mS_sI, s1]
    · intro f hf
      rw [mB_sA, ← h2, mB_sI]; exact bv f hf
    · rw [mI_sA, ← h2, mI_sI, if_neg (by decide)]; exact x301
    · rw [mI_sA, ← h2, mI_sI, if_neg (by decide)]; exact x103
    · rw [mI_sA, ← h2, mI_sI, if_pos rfl, if_pos rfl]
    · intro f hf
      rw [mA_sA, if_pos rfl, pk_cpy_in (by omega) (by omega), show 0 + (f - 0) = f by omega, a2]
    · intro nu a q1 q2
      rw [mI_sA, ← h2, mI_sIy q2]; exact i1 nu a q1 q2
    · intro a ha
      rw [mA_sA, if_neg ha, a2]
    · intro a ha
      rw [mB_sA, ← h2, mB_sI]; exact bo a ha
  · rw [if_neg (fun q => c (k0.mp q))]
    exact ⟨G1, rfl, A1, s1, bv, x301, x103, fun q => absurd q c, fun _ => ⟨x102, by rw [a1]⟩, i1, fun a _ => by rw [a1], bo⟩
/-- the reference takes it -/
def TIh (X : Nat) : Nat → Nat → Prop := fun num a => 1135 ≤ num ∧ num ≤ 1138 ∧ a = X + 226
def TAh (X i : Nat) : Nat → Nat → Prop := fun a j => ((a = X + 252 ∨ a = X + 253 ∨ a = X + 254) ∧ j = i) ∨ (a = X + 255 ∧ 8 * i ≤ j ∧ j < 8 * i + 8) ∨ a = X + 258
def TBh (X i : Nat) : Nat → Nat → Prop := fun a j => (a = X + 256 ∧ 8 * i ≤ j ∧ j < 8 * i + 8) ∨ a = X + 257
theorem rl164 {R : Mm} {X p i k : Nat} (hi : i < 8) (S : St R X) (p1 : mI R 1101 (X + 226) = nI p) (p8 : p ≤ 8) (k8 : k < 8) : ∃ E, f_X11_opened_L164 1000 R (X + 226) (nI k) (nI i) 0 = some (E, 0) ∧ (∀ N n, Ag X N n (TIh X) (TAh X i) (TBh X i) R E) ∧ mS E = mS R ∧ mI E = mI R ∧ (∀ f, f < p → mB E (X + 257) f = mB R (X + 264) f ∧ mA E (X + 258) f = mA R (X + 260) f ∧ mB E (X + 256) (8 * i + f) = mB R (X + 264) f ∧ mA E (X + 255) (8 * i + f) = if k = 0 then mA R (X + 263) f else mA R (X + 255) (8 * i + f)) ∧ mA E (X + 254) i = mI R 1150 (X + 226) ∧ ∀ j, (¬ j = i → mA E (X + 254) j = mA R (X + 254) j) ∧ mA E (X + 252) j = mA R (X + 252) j ∧ mA E (X + 253) j = mA R (X + 253) j := by
  have k0 : (nI k = 0) ↔ k = 0 := ⟨fun q => (nI_eq (b := 0) (by omega) (by decide)).mp q, fun q => by rw [q]; rfl⟩
  have main : ∀ d f fu N, f + d = p → d < fu → (St N X ∧ (∀ N0 n, Ag X N0 n (TIh X) (TAh X i) (TBh X i) R N) ∧ mS N = mS R ∧ mI N = mI R ∧ mB N (X + 264) = mB R (X + 264) ∧ mA N (X + 260) = mA R (X + 260) ∧ mA N (X + 263) = mA R (X + 263) ∧ (∀ o, (o = 252 ∨ o = 253 ∨ o = 254) → mA N (X + o) = mA R (X + o)) ∧ (∀ q, f ≤ q → mA N (X + 255) (8 * i + q) = mA R (X + 255) (8 * i + q)) ∧ ∀ q, q < f → mB N (X + 257) q = mB R (X + 264) q ∧ mA N (X + 258) q = mA R (X + 260) q ∧ mB N (X + 256) (8 * i + q) = mB R (X + 264) q ∧ mA N (X + 255) (8 * i + q) = if k = 0 then mA R (X + 263) q else mA R (X + 255) (8 * i + q)) → ∃ E, f_X11_opened_L164 fu N (X + 226) (nI k) (nI i) (nI f) = some (E, 0) ∧ (∀ N n, Ag X N n (TIh X) (TAh X i) (TBh X i) R E) ∧ mS E = mS R ∧ mI E = mI R ∧ (∀ f, f < p → mB E (X + 257) f = mB R (X + 264) f ∧ mA E (X + 258) f = mA R (X + 260) f ∧ mB E (X + 256) (8 * i + f) = mB R (X + 264) f ∧ mA E (X + 255) (8 * i + f) = if k = 0 then mA R (X + 263) f else mA R (X + 255) (8 * i + f)) ∧ mA E (X + 254) i = mI R 1150 (X + 226) ∧ ∀ j, (¬ j = i → mA E (X + 254) j = mA R (X + 254) j) ∧ mA E (X + 252) j = mA R (X + 252) j ∧ mA E (X + 253) j = mA R (X + 253) j := by
    intro d
    induction d with
    | zero =>
      intro f fu N e1 e2 ⟨n1, n2, n3, n4, n5, n6, n7, n8, n9, n10⟩
      obtain ⟨fu, rfl⟩ : ∃ k, fu = k + 1 := ⟨fu - 1, by omega⟩
      have ef : f = p := by omega
      subst ef
      refine ⟨sU N (X + 254) i (mI R 1150 (X + 226)), ?_, fun N0 n => (n2 N0 n).cU (Or.inr (Or.inr (Or.inl ⟨Or.inr (Or.inr rfl), rfl⟩))), by rw [mS_sU, n3], by rw [mI_sU, n4], fun q hq => ?_, mA_sUi, fun j => ⟨fun hj => ?_, ?_, ?_⟩⟩
      · rw [f_X11_opened_L164, gi_226 n1, ob_eq, n4, p1, if_pos (nI_le (Nat.le_refl _) (by omega)), r_226_1132 n1, ob_eq, gi_226 n1, ob_eq, n4, wi_254 n1 hi, ob_eq, sU_def]
      · rw [mB_sU, mA_sUx (by omega), mA_sUx (by omega)]; exact n10 q hq
      · rw [mA_sUj hj, n8 254 (by omega)]
      · rw [mA_sUx (by omega), n8 252 (by omega)]
      · rw [mA_sUx (by omega), n8 253 (by omega)]
    | succ d ih =>
      intro f fu N e1 e2 ⟨n1, n2, n3, n4, n5, n6, n7, n8, n9, n10⟩
      obtain ⟨fu, rfl⟩ : ∃ k, fu = k + 1 := ⟨fu - 1, by omega⟩
      have hf : f < p := by omega
      have f8 : f < 8 := by omega
      have T1 : St (sV N (X + 257) f (mB R (X + 264) f)) X := St_sV n1
      have T2 : St (sU (sV N (X + 257) f (mB R (X + 264) f)) (X + 258) f (mA R (X + 260) f)) X := St_sU T1
      have T3 : St (sV (sU (sV N (X + 257) f (mB R (X + 264) f)) (X + 258) f (mA R (X + 260) f)) (X + 256) (8 * i + f) (mB R (X + 264) f)) X := St_sV T2
      have v264 : mB (sU (sV N (X + 257) f (mB R (X + 264) f)) (X + 258) f (mA R (X + 260) f)) (X + 264) f = mB R (X + 264) f := by rw [mB_sU, mB_sVx (by omega), n5]
      have v260 : mA (sV N (X + 257) f (mB R (X + 264) f)) (X + 260) f = mA R (X + 260) f := by rw [mA_sV, n6]
      have v263 : mA (sV (sU (sV N (X + 257) f (mB R (X + 264) f)) (X + 258) f (mA R (X + 260) f)) (X + 256) (8 * i + f) (mB R (X + 264) f)) (X + 263) f = mA R (X + 263) f := by rw [mA_sV, mA_sUx (by omega), mA_sV, n7]
      have v255 : mA (sV (sU (sV N (X + 257) f (mB R (X + 264) f)) (X + 258) f (mA R (X + 260) f)) (X + 256) (8 * i + f) (mB R (X + 264) f)) (X + 255) (8 * i + f) = mA R (X + 255) (8 * i + f) := by rw [mA_sV, mA_sUx (by omega), mA_sV, n9 f (Nat.le_refl _)]
      have st : f_X11_opened_L164 (fu + 1) N (X + 226) (nI k) (nI i) (nI f) = f_X11_opened_L164 fu (sU (sV (sU (sV N (X + 257) f (mB R (X + 264) f)) (X + 258) f (mA R (X + 260) f)) (X + 256) (8 * i + f) (mB R (X + 264) f)) (X + 255) (8 * i + f) (if k = 0 then mA R (X + 263) f else mA R (X + 255) (8 * i + f))) (X + 226) (nI k) (nI i) (nI (f + 1)) := by
        rw [f_X11_opened_L164, gi_226 n1, ob_eq, n4, p1, if_neg (nI_ge hf (by omega)), r_226_1139 n1, ob_eq, r_226_1152 n1, ob_eq, aj_264 n1 f8, ob_eq, n5, wj_257 n1 f8, ob_eq, sV_def, r_226_1140 T1, ob_eq, r_226_1146 T1, ob_eq, ai_260 T1 f8, ob_eq, v260, wi_258 T1 f8, ob_eq, sU_def, r_226_1134 T2, ob_eq, r_226_1152 T2, ob_eq, aj_264 T2 f8, ob_eq, v264, m8, nI_add, wj_256 T2 (by omega), ob_eq, sV_def, r_226_1133 T3, ob_eq]
        unfold f_X11_opened_J257
        by_cases c : k = 0
        · rw [if_pos (k0.mpr c), r_226_1149 T3, ob_eq, ai_263 T3 f8, ob_eq, v263, wi_255 T3 (by omega), ob_eq, sU_def, nI_1, if_pos c]
        · rw [if_neg (fun q => c (k0.mp q)), ob_eq, ai_255 T3 (by omega), ob_eq, v255, wi_255 T3 (by omega), ob_eq, sU_def, nI_1, if_neg c]
      rw [st]
      refine ih (f + 1) fu _ (by omega) (by omega) ⟨St_sU T3, fun N0 n => ?_, ?_, ?_, ?_, ?_, ?_, fun o ho => ?_, fun q hq => ?_, fun q hq => ?_⟩
      · exact ((((n2 N0 n).cV (Or.inr (Or.inr (Or.inr rfl)))).cU (Or.inr (Or.inr (Or.inr (Or.inr rfl))))).cV (Or.inr (Or.inr (Or.inl ⟨rfl, by omega, by omega⟩)))).cU (Or.inr (Or.inr (Or.inr (Or.inl ⟨rfl, by omega, by omega⟩))))
      · rw [mS_sU, mS_sV, mS_sU, mS_sV, n3]
      · rw [mI_sU, mI_sV, mI_sU, mI_sV, n4]
      · rw [mB_sU, mB_sVx (by omega), mB_sU, mB_sVx (by omega), n5]
      · rw [mA_sUx (by omega), mA_sV, mA_sUx (by omega), mA_sV, n6]
      · rw [mA_sUx (by omega), mA_sV, mA_sUx (by omega), mA_sV, n7]
      · rw [mA_sUx (by omega), mA_sV, mA_sUx (by omega), mA_sV, n8 o ho]
      · rw [mA_sUj (by omega), mA_sV, mA_sUx (by omega), mA_sV, n9 q (by omega)]
      · by_cases e : q = f
        · subst e
          refine ⟨?_, ?_, ?_, ?_⟩
          · rw [mB_sU, mB_sVx (by omega), mB_sU, mB_sVi]
          · rw [mA_sUx (by omega), mA_sV, mA_sUi]
          · rw [mB_sU, mB_sVi]
          · rw [mA_sUi]
        · obtain ⟨y1, y2, y3, y4⟩ := n10 q (by omega)
          refine ⟨?_, ?_, ?_, ?_⟩
          · rw [mB_sU, mB_sVx (by omega), mB_sU, mB_sVj e]; exact y1
          · rw [mA_sUx (by omega), mA_sV, mA_sUj e, mA_sV]; exact y2
          · rw [mB_sU, mB_sVj (by omega), mB_sU, mB_sVx (by omega)]; exact y3
          · rw [mA_sUj (by omega), mA_sV, mA_sUx (by omega), mA_sV]; exact y4
  exact main p 0 1000 R (by omega) (by omega) ⟨S, fun _ _ => Ag.rf, rfl, rfl, rfl, rfl, rfl, fun _ _ => rfl, fun _ _ => rfl, fun q hq => absurd hq (Nat.not_lt_zero _)⟩
