/-! A new letter: at the class, and at the reference. -/
theorem mI_nO (M : Mm) (kd x y : Nat) : mI (nO M kd) x y = if y = mS M then 0 else mI M x y := rfl
theorem mR_nO (M : Mm) (kd x y : Nat) : mR (nO M kd) x y = if y = mS M then none else mR M x y := rfl
theorem mK_nO (M : Mm) (kd x : Nat) : mK (nO M kd) x = if x = mS M then kd else mK M x := rfl
theorem mN_nO (M : Mm) (kd : Nat) : mN (nO M kd) = mN M := rfl
theorem mA_nO (M : Mm) (kd : Nat) : mA (nO M kd) = mA M := rfl
theorem mQ_nO (M : Mm) (kd : Nat) : mQ (nO M kd) = mQ M := rfl
theorem mS_nO (M : Mm) (kd : Nat) : mS (nO M kd) = mS M + 1 := rfl
theorem mI_nA (M : Mm) (kd n : Nat) : mI (nA M kd n) = mI M := rfl
theorem mR_nA (M : Mm) (kd n : Nat) : mR (nA M kd n) = mR M := rfl
theorem mK_nA (M : Mm) (kd n x : Nat) : mK (nA M kd n) x = if x = mS M then kd else mK M x := rfl
theorem mN_nA (M : Mm) (kd n x : Nat) : mN (nA M kd n) x = if x = mS M then n else mN M x := rfl
theorem mA_nA (M : Mm) (kd n x : Nat) : mA (nA M kd n) x = if x = mS M then (fun _ => 0) else mA M x := rfl
theorem mS_nA (M : Mm) (kd n : Nat) : mS (nA M kd n) = mS M + 1 := rfl
theorem mR_sR (M : Mm) (k a : Nat) (v : Option Nat) (x y : Nat) : mR (sR M k a v) x y = if x = k then (if y = a then v else mR M x y) else mR M x y := rfl
theorem mQ_sQ (M : Mm) (a : Nat) (g : Nat → Option Nat) (x : Nat) : mQ (sQ M a g) x = if x = a then g else mQ M x := rfl
theorem mI_sIy {M : Mm} {k a : Nat} {v : Int32} {x y : Nat} (h : ¬ y = a) : mI (sI M k a v) x y = mI M x y := by
  rw [mI_sI, if_neg h, ite_self]
theorem mR_sRy {M : Mm} {k a : Nat} {v : Option Nat} {x y : Nat} (h : ¬ y = a) : mR (sR M k a v) x y = mR M x y := by
  rw [mR_sR, if_neg h, ite_self]
section AgC2
variable {X N n : Nat} {TI TA TB : Nat → Nat → Prop} {M M1 : Mm}
theorem Ag.cR {k b : Nat} {v : Option Nat} (h : Ag X N n TI TA TB M M1) (q : (k = 9 ∧ b = X + 214) ∨ N ≤ b) : Ag X N n TI TA TB M (sR M1 k b v) := h.tr' (Ag_sR q)
theorem Ag.cQ {b : Nat} {g : Nat → Option Nat} (h : Ag X N n TI TA TB M M1) (q : b = X + 194 ∧ ∀ j, j < n → g j = mQ M1 b j) : Ag X N n TI TA TB M (sQ M1 b g) := h.tr' (Ag_sQ q)
theorem Ag.cO {kd : Nat} (h : Ag X N n TI TA TB M M1) (q : N ≤ mS M1) : Ag X N n TI TA TB M (nO M1 kd) := h.tr' (Ag_nO q)
theorem Ag.cN {kd len : Nat} (h : Ag X N n TI TA TB M M1) (q : N ≤ mS M1) : Ag X N n TI TA TB M (nA M1 kd len) := h.tr' (Ag_nA q)
theorem Ag.cpn {m : Nat} {b : Nat → Nat} (h : Ag X N n TI TA TB M M1) : Ag X N n TI TA TB M (pn M1 X b m) := (h.cI (Or.inl (by unfold ScI; omega))).cA (Or.inl (by unfold ScA; omega))
theorem Ag.crm {m : Nat} {b : Nat → Nat} (h : Ag X N n TI TA TB M M1) : Ag X N n TI TA TB M (rm M1 X b m) := (h.cI (Or.inl (by unfold ScI; omega))).cA (Or.inl (by unfold ScA; omega))
end AgC2
def T10 (X : Nat) : Nat → Nat → Prop := fun num a => num = 1010 ∧ a = X
/-- the class's cells of a letter -/
def cLt (M1 : Mm) (X n A B k i nb len : Nat) (num : Int32) (g : Nat → Int32) (cp : Int32) (pr : Option Nat) : Prop := mQ M1 (X + 194) n = some A ∧ mK M1 A = 5 ∧ mR M1 403 A = some B ∧ mK M1 B = 20 ∧ mN M1 B = len ∧ mA M1 B = g ∧ mI M1 400 A = nI k ∧ mI M1 401 A = nI i ∧ mI M1 402 A = num ∧ mI M1 404 A = nI nb ∧ mI M1 405 A = -1 ∧ mI M1 406 A = 0 ∧ mI M1 407 A = cp ∧ mR M1 408 A = pr ∧ mI M1 1010 X = nI (n + 1)
def li (M : Mm) (k i : Int32) (num : Int32) (B : Nat) (nb : Int32) : Mm := sI (sR (sI (sI (sI (sI (nO M 5) 405 (mS M) (-1)) 400 (mS M) k) 401 (mS M) i) 402 (mS M) num) 403 (mS M) (some B)) 404 (mS M) nb
theorem li_eq {M : Mm} {k i num nb : Int32} {B : Nat} : f_X4_init (nO M 5) (mS M) k i num B nb = some (li M k i num B nb) := by
  have h0 : mK (nO M 5) (mS M) = 5 := by rw [mK_nO, if_pos rfl]
  unfold f_X4_init
  rw [if_pos h0, pI_of h0, ob_eq, pI_of (by rw [mK_sI]; exact h0), ob_eq, pI_of (by rw [mK_sI, mK_sI]; exact h0), ob_eq, pI_of (by rw [mK_sI, mK_sI, mK_sI]; exact h0), ob_eq, pR_of (by rw [mK_sI, mK_sI, mK_sI, mK_sI]; exact h0), ob_eq, pI_of (by rw [mK_sR, mK_sI, mK_sI, mK_sI, mK_sI]; exact h0), ob_eq]
  rfl
theorem Ag_li {X N n : Nat} {TI TA TB : Nat → Nat → Prop} {M0 M : Mm} {k i num nb : Int32} {B : Nat} (h : Ag X N n TI TA TB M0 M) (q : N ≤ mS M) : Ag X N n TI TA TB M0 (li M k i num B nb) := by
  unfold li
  exact ((((((h.cO q).cI (Or.inr (Or.inr q))).cI (Or.inr (Or.inr q))).cI (Or.inr (Or.inr q))).cI (Or.inr (Or.inr q))).cR (Or.inr q)).cI (Or.inr (Or.inr q))
theorem add_eq {M : Mm} {X n A : Nat} (hS : St M X) (h1 : mI M 1010 X = nI n) (hn : n < 200) (hA : mK M A = 5) : f_X10_add M X A = some (sI (sQ M (X + 194) (va_up (mQ M (X + 194)) n (some A))) 1010 X (nI (n + 1)), nI n) := by
  have hf : f_X10_isLineFull M X = some 0 := by
    unfold f_X10_isLineFull
    rw [if_pos (k_0 hS), gi_0 hS, ob_eq, h1, if_pos (show nI n < 200 from nI_lt (b := 200) hn (by decide))]
  have hw : wR M 25 5 (X + 194) (nI n) A = some (sQ M (X + 194) (va_up (mQ M (X + 194)) n (some A))) := by
    unfold wR
    rw [if_pos (k_194 hS), n_194 hS, if_pos (vin_nI hn (by decide)), if_pos hA, ix_nI (by omega)]
  have k0 : mK (sQ M (X + 194) (va_up (mQ M (X + 194)) n (some A))) X = 11 := by rw [mK_sQ]; exact k_0 hS
  unfold f_X10_add
  rw [if_pos (k_0 hS), hf, ob_eq, if_pos rfl, r_0_1005 hS, ob_eq, gi_0 hS, ob_eq, h1, hw, ob_eq, gI_of k0, ob_eq, mI_sQ, h1, nI_1, pI_of k0, ob_eq, gI_of (by rw [mK_sI]; exact k0), ob_eq, mI_sI, if_pos rfl, if_pos rfl, m1I]
theorem lf_in {M : Mm} {X n : Nat} (hS : St M X) (hC : IC M X n) : f_X10_isLineFull M X = some (if n < 200 then 0 else 1) := by
  unfold f_X10_isLineFull
  rw [if_pos (k_0 hS), gi_0 hS, ob_eq, hC.2.1]
  by_cases q : n < 200
  · rw [if_pos (show nI n < 200 from nI_lt (b := 200) q (by decide)), if_pos q]
  · rw [if_neg (show ¬ nI n < 200 from nI_nlt (a := n) (b := 200) (by omega) (by have := hC.1; omega)), if_neg q]
/-- a letter is made of the row at B, behind which nothing lies -/
theorem mk_let {M0 M : Mm} {X N n B k i nb len : Nat} {num : Int32} {g : Nat → Int32} {pr : Option Nat} (hX : X + 270 ≤ N) (hS : St M0 X) (A0 : Ag X N n (T10 X) T0 T0 M0 M) (hN : N ≤ mS M) (h1 : mI M 1010 X = nI n) (hn : n < 200) (hB : B < mS M) (kB : mK M B = 20) (nB : mN M B = len) (gB : mA M B = g) :
    ∃ M1, ((f_X4_init (nO M 5) (mS M) (nI k) (nI i) num B (nI nb)).bind fun M10 => (pR M10 5 408 (mS M) pr).bind fun M11 => ob2 (f_X10_add M11 X (mS M)) fun M13 v14 => some (M13, v14)) = some (M1, nI n) ∧ Ag X N n (T10 X) T0 T0 M0 M1 ∧ mS M1 = mS M + 1 ∧ cLt M1 X n (mS M) B k i nb len num g 0 pr ∧ (∀ num a, a < mS M → num ≠ 1010 → mI M1 num a = mI M num a) ∧ (∀ a, mA M1 a = mA M a) ∧ (∀ a, a < mS M → mK M1 a = mK M a ∧ mN M1 a = mN M a) ∧ ∀ num a, a < mS M → mR M1 num a = mR M num a := by
  have x1 : ¬ X = mS M := by omega
  have hk : mK (li M (nI k) (nI i) num B (nI nb)) (mS M) = 5 := by
    unfold li; rw [mK_sI, mK_sR, mK_sI, mK_sI, mK_sI, mK_sI, mK_nO, if_pos rfl]
  have A1 : Ag X N n (T10 X) T0 T0 M0 (sR (li M (nI k) (nI i) num B (nI nb)) 408 (mS M) pr) := (Ag_li A0 hN).cR (Or.inr hN)
  have hS1 : St (sR (li M (nI k) (nI i) num B (nI nb)) 408 (mS M) pr) X := St_Ag hX A1 hS
  have h2 : mI (sR (li M (nI k) (nI i) num B (nI nb)) 408 (mS M) pr) 1010 X = nI n := by
    unfold li
    rw [mI_sR, mI_sIy x1, mI_sR, mI_sIy x1, mI_sIy x1, mI_sIy x1, mI_sIy x1, mI_nO, if_neg x1]
    exact h1
  have ea := add_eq (A := mS M) hS1 h2 hn (by rw [mK_sR]; exact hk)
  refine ⟨sI (sQ (sR (li M (nI k) (nI i) num B (nI nb)) 408 (mS M) pr) (X + 194) (va_up (mQ (sR (li M (nI k) (nI i) num B (nI nb)) 408 (mS M) pr) (X + 194)) n (some (mS M)))) 1010 X (nI (n + 1)), ?_, ?_, ?_, ?_, ?_, ?_, ?_, ?_⟩
  · rw [li_eq, ob_eq, pR_of hk, ob_eq, ea, ob2_eq]
  · exact (A1.cQ ⟨rfl, fun j hj => vau_ne (by omega)⟩).cI (Or.inr (Or.inl ⟨rfl, rfl⟩))
  · unfold li; rw [mS_sI, mS_sQ, mS_sR, mS_sI, mS_sR, mS_sI, mS_sI, mS_sI, mS_sI, mS_nO]
  · have b1 : ¬ B = mS M := by omega
    refine ⟨?_, ?_, ?_, ?_, ?_, ?_, ?_, ?_, ?_, ?_, ?_, ?_, ?_, ?_, ?_⟩
    · rw [mQ_sI, mQ_sQ, if_pos rfl, vau_eq]
    · rw [mK_sI, mK_sQ, mK_sR]; exact hk
    · unfold li; rw [mR_sI, mR_sQ, mR_sR, if_neg (by decide), mR_sI, mR_sR, if_pos rfl, if_pos rfl]
    · unfold li; rw [mK_sI, mK_sQ, mK_sR, mK_sI, mK_sR, mK_sI, mK_sI, mK_sI, mK_sI, mK_nO, if_neg b1]; exact kB
    · unfold li; rw [mN_sI, mN_sQ, mN_sR, mN_sI, mN_sR, mN_sI, mN_sI, mN_sI, mN_sI, mN_nO]; exact nB
    · unfold li; rw [mA_sI, mA_sQ, mA_sR, mA_sI, mA_sR, mA_sI, mA_sI, mA_sI, mA_sI, mA_nO]; exact gB
    · unfold li; rw [mI_sI, if_neg (by decide), mI_sQ, mI_sR, mI_sI, if_neg (by decide), mI_sR, mI_sI, if_neg (by decide), mI_sI, if_neg (by decide), mI_sI, if_pos rfl, if_pos rfl]
    · unfold li; rw [mI_sI, if_neg (by decide), mI_sQ, mI_sR, mI_sI, if_neg (by decide), mI_sR, mI_sI, if_neg (by decide), mI_sI, if_pos rfl, if_pos rfl]
    · unfold li; rw [mI_sI, if_neg (by decide), mI_sQ, mI_sR, mI_sI, if_neg (by decide), mI_sR, mI_sI, if_pos rfl, if_pos rfl]
    · unfold li; rw [mI_sI, if_neg (by decide), mI_sQ, mI_sR, mI_sI, if_pos rfl, if_pos rfl]
    · unfold li; rw [mI_sI, if_neg (by decide), mI_sQ, mI_sR, mI_sI, if_neg (by decide), mI_sR, mI_sI, if_neg (by decide), mI_sI, if_neg (by decide), mI_sI, if_neg (by decide), mI_sI, if_pos rfl, if_pos rfl]
    · unfold li; rw [mI_sI, if_neg (by decide), mI_sQ, mI_sR, mI_sI, if_neg (by decide), mI_sR, mI_sI, if_neg (by decide), mI_sI, if_neg (by decide), mI_sI, if_neg (by decide), mI_sI, if_neg (by decide), mI_nO, if_pos rfl]
    · unfold li; rw [mI_sI, if_neg (by decide), mI_sQ, mI_sR, mI_sI, if_neg (by decide), mI_sR, mI_sI, if_neg (by decide), mI_sI, if_neg (by decide), mI_sI, if_neg (by decide), mI_sI, if_neg (by decide), mI_nO, if_pos rfl]
    · rw [mR_sI, mR_sQ, mR_sR, if_pos rfl, if_pos rfl]
    · rw [mI_sI, if_pos rfl, if_pos rfl]
  · intro nu a ha hne
    have a1 : ¬ a = mS M := by omega
    unfold li
    rw [mI_sI, if_neg hne, mI_sQ, mI_sR, mI_sIy a1, mI_sR, mI_sIy a1, mI_sIy a1, mI_sIy a1, mI_sIy a1, mI_nO, if_neg a1]
  · intro a
    unfold li; rw [mA_sI, mA_sQ, mA_sR, mA_sI, mA_sR, mA_sI, mA_sI, mA_sI, mA_sI, mA_nO]
  · intro a ha
    have a1 : ¬ a = mS M := by omega
    unfold li
    exact ⟨by rw [mK_sI, mK_sQ, mK_sR, mK_sI, mK_sR, mK_sI, mK_sI, mK_sI, mK_sI, mK_nO, if_neg a1], by rw [mN_sI, mN_sQ, mN_sR, mN_sI, mN_sR, mN_sI, mN_sI, mN_sI, mN_sI, mN_nO]⟩
  · intro nu a ha
    have a1 : ¬ a = mS M := by omega
    unfold li
    rw [mR_sI, mR_sQ, mR_sRy a1, mR_sI, mR_sRy a1, mR_sI, mR_sI, mR_sI, mR_sI, mR_nO, if_neg a1]
