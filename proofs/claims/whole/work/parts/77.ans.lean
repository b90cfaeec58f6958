/-! Answers: heed of the class, answered of the reference. -/
def fs (c : Nat → Bool) : Nat → Nat → Option Nat
  | 0, _ => none
  | d + 1, j => if c j then some j else fs c d (j + 1)
theorem fs_lt {c : Nat → Bool} : ∀ {d j q : Nat}, fs c d j = some q → j ≤ q ∧ q < j + d
  | 0, j, q, h => by cases h
  | d + 1, j, q, h => by
    by_cases e : c j = true
    · have : fs c (d + 1) j = some j := if_pos e
      rw [this] at h
      have := Option.some.inj h
      omega
    · have : fs c (d + 1) j = fs c d (j + 1) := if_neg e
      rw [this] at h
      have := fs_lt h
      omega
def cj (M : Mm) (X i f0 u j : Nat) : Bool := decide (nmb M X i f0 j - nmb M X i f0 j / 65536 * 65536 = nI u)
def djn (M : Mm) (X i f0 h k u : Nat) : Nat := if k = 3 then (fs (cj M X i f0 u) h 0).getD 0 else 0
def ojn (M : Mm) (X i k : Nat) : Int32 := if k = 3 then mA M (X + 235) i else 1
def vjn (M : Mm) (X i f0 h k u : Nat) : Int32 := if k = 3 then (if (fs (cj M X i f0 u) h 0).isSome then 6 else 7) else (if mA M (X + 235) i = 0 then 6 else 7)
section Ans
variable {M : Mm} {X p n w i kk r h f0 k u : Nat}
theorem dj_le : djn M X i f0 h k u ≤ h := by
  unfold djn
  by_cases c : k = 3
  · rw [if_pos c]
    cases e : fs (cj M X i f0 u) h 0 with
    | none => exact Nat.zero_le _
    | some q => have := fs_lt e; show q ≤ h; omega
  · rw [if_neg c]; exact Nat.zero_le _
theorem hd_c (hi : i < 8) (hw : w ≤ 8) (hQ : IQ' M X p w n i kk r h f0) {Q : Mm} (S : St Q X) (eI : ∀ nu, 901 ≤ nu → nu ≤ 906 → mI Q nu (aSq X i) = mI M nu (aSq X i)) (eH : ∀ d, d < 8 → mI Q 301 (aHd X i d) = mI M 301 (aHd X i d)) (k8 : k < 8) :
    ∃ E, f_X9_heed Q (aSq X i) (nI k) (nI u) = some (E, vjn M X i f0 h k u) ∧ (∀ N n0, Ag X N n0 (fun nu a => 901 ≤ nu ∧ nu ≤ 906 ∧ a = aSq X i) T0 T0 Q E) ∧ mS E = mS Q ∧ mI E 904 (aSq X i) = nI (h - djn M X i f0 h k u) ∧ mI E 906 (aSq X i) = nI ((f0 + djn M X i f0 h k u) % 8) ∧ mI E 903 (aSq X i) = ojn M X i k ∧ ∀ nu, (nu = 901 ∨ nu = 902) → mI E nu (aSq X i) = mI Q nu (aSq X i) := by
  obtain ⟨q1, q2, q3, q4, q5, q6, q7, q8, q9, q10, q11, q12, q13, q14, q15⟩ := id hQ
  have d10 : ¬ (1 : Int32) = 0 := by decide
  have k3 : (nI k = 3) ↔ k = 3 := ⟨fun q => (nI_eq (b := 3) (by omega) (by decide)).mp q, fun q => by rw [q]; rfl⟩
  unfold f_X9_heed
  rw [if_pos (k_aSq S hi)]
  by_cases c : k = 3
  rotate_left
  · have ev : vjn M X i f0 h k u = if mA M (X + 235) i = 0 then 6 else 7 := if_neg c
    have ed : djn M X i f0 h k u = 0 := if_neg c
    have eo : ojn M X i k = 1 := if_neg c
    rw [if_neg (fun q => c (k3.mp q)), gi_aSq S hi, ob_eq, eI 903 (by decide) (by decide), q7, pZ_of (k_aSq S hi) (Or.inr rfl), ob_eq, ev, ed, eo]
    refine ⟨sI Q 903 (aSq X i) 1, ?_, fun N n0 => Ag_sI (Or.inr (Or.inl ⟨by decide, by decide, rfl⟩)), mS_sI _ _ _ _, ?_, ?_, ?_, fun nu hn => ?_⟩
    · by_cases o : mA M (X + 235) i = 0
      · rw [if_pos o, if_pos o]
      · rw [if_neg o, if_neg o]
    · rw [mI_sI, if_neg (by decide), eI 904 (by decide) (by decide)]; exact q10
    · rw [mI_sI, if_neg (by decide), eI 906 (by decide) (by decide), q13, Nat.add_zero, Nat.mod_eq_of_lt q12]
    · rw [mI_sI, if_pos rfl, if_pos rfl]
    · rw [mI_sI, if_neg (by omega)]
  · have main : ∀ d j fu, j + d = h → d < fu → f_X9_heed_L29 fu Q (aSq X i) (nI u) (nI j) = match fs (cj M X i f0 u) d j with | some q => some (sI (sI Q 906 (aSq X i) (nI ((f0 + q) % 8))) 904 (aSq X i) (nI (h - q)), 6) | none => some (Q, 7) := by
      intro d
      induction d with
      | zero =>
        intro j fu e1 e2
        obtain ⟨fu, rfl⟩ : ∃ k, fu = k + 1 := ⟨fu - 1, by omega⟩
        rw [f_X9_heed_L29, gi_aSq S hi, ob_eq, eI 904 (by decide) (by decide), q10, if_pos (nI_le (by omega) (by omega))]
        rfl
      | succ d ih =>
        intro j fu e1 e2
        obtain ⟨fu, rfl⟩ : ∃ k, fu = k + 1 := ⟨fu - 1, by omega⟩
        have hm : (f0 + j) % 8 < 8 := Nat.mod_lt _ (by decide)
        rw [f_X9_heed_L29, gi_aSq S hi, ob_eq, eI 904 (by decide) (by decide), q10, if_neg (nI_ge (by omega) (by omega)), rf_in S hi (by rw [eI 906 (by decide) (by decide)]; exact q13) q12 (by omega), ob_eq, gi_aHd S hi hm, ob_eq, show mI Q 301 (aHd X i ((f0 + j) % 8)) = nmb M X i f0 j from eH _ hm, nI_1]
        by_cases e : cj M X i f0 u j = true
        · have ef : fs (cj M X i f0 u) (d + 1) j = some j := if_pos e
          rw [ef, if_pos (of_decide_eq_true e), drp_c S hi (by rw [eI 906 (by decide) (by decide)]; exact q13) (by rw [eI 904 (by decide) (by decide)]; exact q10) q12 (by omega) (by omega), ob_eq]
        · have ef : fs (cj M X i f0 u) (d + 1) j = fs (cj M X i f0 u) d (j + 1) := if_neg e
          rw [ef, if_neg (fun q => e (decide_eq_true q))]
          exact ih (j + 1) fu (by omega) (by omega)
    have ev : vjn M X i f0 h k u = if (fs (cj M X i f0 u) h 0).isSome then 6 else 7 := if_pos c
    have ed : djn M X i f0 h k u = (fs (cj M X i f0 u) h 0).getD 0 := if_pos c
    have eo : ojn M X i k = mA M (X + 235) i := if_pos c
    have m0 : f_X9_heed_L29 1000 Q (aSq X i) (nI u) 0 = _ := main h 0 1000 (by omega) (by omega)
    rw [if_pos (k3.mpr c), m0, ev, ed, eo]
    cases e : fs (cj M X i f0 u) h 0 with
    | none =>
      refine ⟨Q, rfl, fun N n0 => Ag.rf, rfl, ?_, ?_, ?_, fun nu hn => rfl⟩
      · rw [eI 904 (by decide) (by decide)]; exact q10
      · show _ = nI ((f0 + 0) % 8)
        rw [eI 906 (by decide) (by decide), q13, Nat.add_zero, Nat.mod_eq_of_lt q12]
      · rw [eI 903 (by decide) (by decide)]; exact q7
    | some q =>
      refine ⟨sI (sI Q 906 (aSq X i) (nI ((f0 + q) % 8))) 904 (aSq X i) (nI (h - q)), rfl, fun N n0 => (Ag_sI (Or.inr (Or.inl ⟨by decide, by decide, rfl⟩))).cI (Or.inr (Or.inl ⟨by decide, by decide, rfl⟩)), by rw [mS_sI, mS_sI], ?_, ?_, ?_, fun nu hn => ?_⟩
      · rw [mI_sI, if_pos rfl, if_pos rfl]; rfl
      · rw [mI_sI, if_neg (by decide), mI_sI, if_pos rfl, if_pos rfl]; rfl
      · rw [mI_sI, if_neg (by decide), mI_sI, if_neg (by decide), eI 903 (by decide) (by decide)]; exact q7
      · rw [mI_sI, if_neg (by omega), mI_sI, if_neg (by omega)]
theorem an_r (hi : i < 8) (hw : w ≤ 8) (hP : IP M X p) (hQ : IQ' M X p w n i kk r h f0) {R : Mm} (V : RV X M R) (h35 : mA R (X + 235) i = mA M (X + 235) i) (h36 : mA R (X + 236) i = nI h) (k8 : k < 8) (k3' : 3 ≤ k) :
    ∃ E, (if nI k ≤ 3 then f_X11_answered_L51 1000 R (X + 226) (nI i) (nI u) 0 else ((gR R 12 1112 (X + 226)).bind fun v6 => (aZ R v6 (nI i)).bind fun v7 => if v7 = 0 then (f_X11_answered_J36 R (X + 226) (nI i) 6) else (f_X11_answered_J36 R (X + 226) (nI i) 7))) = some (E, vjn M X i f0 h k u) ∧ (∀ N n0, Ag X N n0 T0 (fun a j => (a = X + 235 ∧ j = i) ∨ TAr X i a j) (TBr X i) R E) ∧ mS E = mS R ∧ mI E = mI R ∧ mA E (X + 235) i = ojn M X i k ∧ mA E (X + 236) i = nI (h - djn M X i f0 h k u) ∧ (∀ j, j < h - djn M X i f0 h k u → mA E (X + 237) (9 * i + j) = mA M (X + 237) (9 * i + j + djn M X i f0 h k u)) ∧ ∀ j f, j < h - djn M X i f0 h k u → f < p → mB E (X + 238) (8 * (9 * i + j) + f) = mB M (X + 238) (8 * (9 * i + j + djn M X i f0 h k u) + f) := by
  obtain ⟨q1, q2, q3, q4, q5, q6, q7, q8, q9, q10, q11, q12, q13, q14, q15⟩ := id hQ
  have d10 : ¬ (1 : Int32) = 0 := by decide
  have p8 := hP.1
  have S := V.1
  by_cases c : k = 3
  rotate_left
  · have ev : vjn M X i f0 h k u = if mA M (X + 235) i = 0 then 6 else 7 := if_neg c
    have ed : djn M X i f0 h k u = 0 := if_neg c
    have eo : ojn M X i k = 1 := if_neg c
    rw [if_neg (show ¬ nI k ≤ 3 from nI_ge (a := 3) (by omega) (by omega)), r_226_1112 S, ob_eq, az_235 S hi, ob_eq, h35, ev, ed, eo]
    unfold f_X11_answered_J36
    rw [r_226_1112 S, ob_eq, wz_235 S hi, ob_eq, vz1, sU_def, ob_eq]
    refine ⟨sU R (X + 235) i 1, ?_, fun N n0 => Ag.rf.cU (Or.inr (Or.inr (Or.inl ⟨rfl, rfl⟩))), mS_sU _ _ _ _, mI_sU _ _ _ _, mA_sUi, ?_, fun j hj => ?_, fun j f hj hf => ?_⟩
    · by_cases o : mA M (X + 235) i = 0
      · rw [if_pos o, if_pos o]
      · rw [if_neg o, if_neg o, wz_235 S hi, ob_eq, vz1, sU_def]
    · rw [mA_sUx (by omega)]; exact h36
    · rw [mA_sUx (by omega), V.2.1 237 (by omega)]; rfl
    · rw [mB_sU, V.2.2.1 238 (by omega)]; rfl
  · have main : ∀ d j fu, j + d = h → d < fu → f_X11_answered_L51 fu R (X + 226) (nI i) (nI u) (nI j) = match fs (cj M X i f0 u) d j with | some q => (f_X11_drop R (X + 226) (nI i) (nI q)).bind (fun M8 => some (M8, 6)) | none => some (R, 7) := by
      intro d
      induction d with
      | zero =>
        intro j fu e1 e2
        obtain ⟨fu, rfl⟩ : ∃ k, fu = k + 1 := ⟨fu - 1, by omega⟩
        rw [f_X11_answered_L51, r_226_1113 S, ob_eq, ai_236 S hi, ob_eq, h36, if_pos (nI_le (by omega) (by omega))]
        rfl
      | succ d ih =>
        intro j fu e1 e2
        obtain ⟨fu, rfl⟩ : ∃ k, fu = k + 1 := ⟨fu - 1, by omega⟩
        obtain ⟨⟨u0, u1, u2, u3⟩, -⟩ := q15 j (by omega)
        have en : mA R (X + 237) (9 * i + j) = nmb M X i f0 j := by rw [V.2.1 237 (by omega), u2]; exact u3.symm
        rw [f_X11_answered_L51, r_226_1113 S, ob_eq, ai_236 S hi, ob_eq, h36, if_neg (nI_ge (by omega) (by omega)), r_226_1114 S, ob_eq, m9, nI_add, ai_237 S (by omega), ob_eq, en, nI_1]
        by_cases e : cj M X i f0 u j = true
        · have ef : fs (cj M X i f0 u) (d + 1) j = some j := if_pos e
          rw [ef, if_pos (of_decide_eq_true e)]
        · have ef : fs (cj M X i f0 u) (d + 1) j = fs (cj M X i f0 u) d (j + 1) := if_neg e
          rw [ef, if_neg (fun q => e (decide_eq_true q))]
          exact ih (j + 1) fu (by omega) (by omega)
    have ev : vjn M X i f0 h k u = if (fs (cj M X i f0 u) h 0).isSome then 6 else 7 := if_pos c
    have ed : djn M X i f0 h k u = (fs (cj M X i f0 u) h 0).getD 0 := if_pos c
    have eo : ojn M X i k = mA M (X + 235) i := if_pos c
    have m0 : f_X11_answered_L51 1000 R (X + 226) (nI i) (nI u) 0 = _ := main h 0 1000 (by omega) (by omega)
    rw [if_pos (show nI k ≤ 3 by rw [c]; decide), m0, ev, ed, eo]
    cases e : fs (cj M X i f0 u) h 0 with
    | none =>
      refine ⟨R, rfl, fun N n0 => Ag.rf, rfl, rfl, h35, h36, fun j hj => ?_, fun j f hj hf => ?_⟩
      · rw [V.2.1 237 (by omega)]; rfl
      · rw [V.2.2.1 238 (by omega)]; rfl
    | some q =>
      have hq := fs_lt e
      obtain ⟨E, eE, a1, a2, a3, a4, a5, a6⟩ := drop_f (R := R) (X := X) (i := i) (p := p) (d := q) (hh := h) hi (by omega) (by omega) p8
      have e2 := drop_r (R := R) (X := X) (i := i) (p := p) (d := q) (hh := h) S (by rw [V.2.2.2]; exact hP.2.2.1) p8 hi (by omega) (by omega) h36
      rw [← eE] at e2
      refine ⟨E, by show (f_X11_drop R (X + 226) (nI i) (nI q)).bind _ = _; rw [e2, ob_eq]; rfl, fun N n0 => (a1 N n0).wk (fun _ _ x => x) (fun _ _ x => Or.inr x) (fun _ _ x => x), a2, a3, ?_, a4, fun j hj => ?_, fun j f hj hf => ?_⟩
      · have := (a1 (X + 270) 0).2.1 (X + 235) i (by unfold ScA; omega) (by unfold TAr; omega) (by omega)
        rw [this]; exact h35
      · have := a5 j hj
        rw [V.2.1 237 (by omega)] at this
        exact this
      · have := a6 j f hj hf
        rw [V.2.2.1 238 (by omega)] at this
        exact this
end Ans
