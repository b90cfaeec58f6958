/-! Reading what was written. -/
theorem mI_sI (M : Mm) (k a : Nat) (v : Int32) (x y : Nat) : mI (sI M k a v) x y = if x = k then (if y = a then v else mI M x y) else mI M x y := rfl
theorem mI_sJ (M : Mm) (k a : Nat) (v : Int64) : mI (sJ M k a v) = mI M := rfl
theorem mI_sR (M : Mm) (k a : Nat) (v : Option Nat) : mI (sR M k a v) = mI M := rfl
theorem mI_sA (M : Mm) (a : Nat) (g : Nat → Int32) : mI (sA M a g) = mI M := rfl
theorem mI_sB (M : Mm) (a : Nat) (g : Nat → Int64) : mI (sB M a g) = mI M := rfl
theorem mI_sQ (M : Mm) (a : Nat) (g : Nat → Option Nat) : mI (sQ M a g) = mI M := rfl
theorem mA_sI (M : Mm) (k a : Nat) (v : Int32) : mA (sI M k a v) = mA M := rfl
theorem mA_sJ (M : Mm) (k a : Nat) (v : Int64) : mA (sJ M k a v) = mA M := rfl
theorem mA_sR (M : Mm) (k a : Nat) (v : Option Nat) : mA (sR M k a v) = mA M := rfl
theorem mA_sA (M : Mm) (a : Nat) (g : Nat → Int32) (x : Nat) : mA (sA M a g) x = if x = a then g else mA M x := rfl
theorem mA_sB (M : Mm) (a : Nat) (g : Nat → Int64) : mA (sB M a g) = mA M := rfl
theorem mA_sQ (M : Mm) (a : Nat) (g : Nat → Option Nat) : mA (sQ M a g) = mA M := rfl
theorem mB_sI (M : Mm) (k a : Nat) (v : Int32) : mB (sI M k a v) = mB M := rfl
theorem mB_sJ (M : Mm) (k a : Nat) (v : Int64) : mB (sJ M k a v) = mB M := rfl
theorem mB_sR (M : Mm) (k a : Nat) (v : Option Nat) : mB (sR M k a v) = mB M := rfl
theorem mB_sA (M : Mm) (a : Nat) (g : Nat → Int32) : mB (sA M a g) = mB M := rfl
theorem mB_sB (M : Mm) (a : Nat) (g : Nat → Int64) (x : Nat) : mB (sB M a g) x = if x = a then g else mB M x := rfl
theorem mB_sQ (M : Mm) (a : Nat) (g : Nat → Option Nat) : mB (sQ M a g) = mB M := rfl
theorem mJ_sI (M : Mm) (k a : Nat) (v : Int32) : mJ (sI M k a v) = mJ M := rfl
theorem mJ_sJ (M : Mm) (k a : Nat) (v : Int64) (x y : Nat) : mJ (sJ M k a v) x y = if x = k then (if y = a then v else mJ M x y) else mJ M x y := rfl
theorem mJ_sA (M : Mm) (a : Nat) (g : Nat → Int32) : mJ (sA M a g) = mJ M := rfl
theorem mJ_sB (M : Mm) (a : Nat) (g : Nat → Int64) : mJ (sB M a g) = mJ M := rfl
theorem mK_sI (M : Mm) (k a : Nat) (v : Int32) : mK (sI M k a v) = mK M := rfl
theorem mK_sJ (M : Mm) (k a : Nat) (v : Int64) : mK (sJ M k a v) = mK M := rfl
theorem mK_sR (M : Mm) (k a : Nat) (v : Option Nat) : mK (sR M k a v) = mK M := rfl
theorem mK_sA (M : Mm) (a : Nat) (g : Nat → Int32) : mK (sA M a g) = mK M := rfl
theorem mK_sB (M : Mm) (a : Nat) (g : Nat → Int64) : mK (sB M a g) = mK M := rfl
theorem mK_sQ (M : Mm) (a : Nat) (g : Nat → Option Nat) : mK (sQ M a g) = mK M := rfl
theorem mN_sI (M : Mm) (k a : Nat) (v : Int32) : mN (sI M k a v) = mN M := rfl
theorem mN_sJ (M : Mm) (k a : Nat) (v : Int64) : mN (sJ M k a v) = mN M := rfl
theorem mN_sR (M : Mm) (k a : Nat) (v : Option Nat) : mN (sR M k a v) = mN M := rfl
theorem mN_sA (M : Mm) (a : Nat) (g : Nat → Int32) : mN (sA M a g) = mN M := rfl
theorem mN_sB (M : Mm) (a : Nat) (g : Nat → Int64) : mN (sB M a g) = mN M := rfl
theorem mN_sQ (M : Mm) (a : Nat) (g : Nat → Option Nat) : mN (sQ M a g) = mN M := rfl
theorem mR_sI (M : Mm) (k a : Nat) (v : Int32) : mR (sI M k a v) = mR M := rfl
theorem mR_sJ (M : Mm) (k a : Nat) (v : Int64) : mR (sJ M k a v) = mR M := rfl
theorem mR_sA (M : Mm) (a : Nat) (g : Nat → Int32) : mR (sA M a g) = mR M := rfl
theorem mR_sB (M : Mm) (a : Nat) (g : Nat → Int64) : mR (sB M a g) = mR M := rfl
theorem mR_sQ (M : Mm) (a : Nat) (g : Nat → Option Nat) : mR (sQ M a g) = mR M := rfl
theorem mQ_sI (M : Mm) (k a : Nat) (v : Int32) : mQ (sI M k a v) = mQ M := rfl
theorem mQ_sJ (M : Mm) (k a : Nat) (v : Int64) : mQ (sJ M k a v) = mQ M := rfl
theorem mQ_sR (M : Mm) (k a : Nat) (v : Option Nat) : mQ (sR M k a v) = mQ M := rfl
theorem mQ_sA (M : Mm) (a : Nat) (g : Nat → Int32) : mQ (sA M a g) = mQ M := rfl
theorem mQ_sB (M : Mm) (a : Nat) (g : Nat → Int64) : mQ (sB M a g) = mQ M := rfl
theorem mS_sI (M : Mm) (k a : Nat) (v : Int32) : mS (sI M k a v) = mS M := rfl
theorem mS_sJ (M : Mm) (k a : Nat) (v : Int64) : mS (sJ M k a v) = mS M := rfl
theorem mS_sR (M : Mm) (k a : Nat) (v : Option Nat) : mS (sR M k a v) = mS M := rfl
theorem mS_sA (M : Mm) (a : Nat) (g : Nat → Int32) : mS (sA M a g) = mS M := rfl
theorem mS_sB (M : Mm) (a : Nat) (g : Nat → Int64) : mS (sB M a g) = mS M := rfl
theorem mS_sQ (M : Mm) (a : Nat) (g : Nat → Option Nat) : mS (sQ M a g) = mS M := rfl
theorem St_sI {M : Mm} {X k a : Nat} {v : Int32} (h : St M X) : St (sI M k a v) X := h
theorem St_sJ {M : Mm} {X k a : Nat} {v : Int64} (h : St M X) : St (sJ M k a v) X := h
theorem St_sA {M : Mm} {X a : Nat} {g : Nat → Int32} (h : St M X) : St (sA M a g) X := h
theorem St_sB {M : Mm} {X a : Nat} {g : Nat → Int64} (h : St M X) : St (sB M a g) X := h
theorem ob_eq {α β : Type} (a : α) (f : α → Option β) : (some a).bind f = f a := rfl
theorem ob2_eq {α β : Type} (M : Mm) (a : α) (f : Mm → α → Option β) : ob2 (some (M, a)) f = f M a := rfl
/-- flows, shelves -/
theorem fl_in {i : Nat} (hi : i < 8) : f_X10_isFlow (nI i) = some 1 ∧ f_X11_isFlow (nI i) = some 1 ∧ f_X10_isShelf (nI i) = some 1 ∧ f_X11_isShelf (nI i) = some 1 := by
  have h1 : ¬ nI i < 0 := nI_pos (by omega)
  have h2 : ¬ (8 : Int32) ≤ nI i := by
    have : ¬ nI 8 ≤ nI i := nI_ge hi (by decide)
    exact this
  unfold f_X10_isFlow f_X11_isFlow f_X10_isShelf f_X11_isShelf
  simp only [if_neg h1, if_neg h2, and_self]
theorem fl_out {a : Int32} (h : a < 0 ∨ nI 8 ≤ a) : f_X10_isFlow a = some 0 ∧ f_X11_isFlow a = some 0 ∧ f_X10_isShelf a = some 0 ∧ f_X11_isShelf a = some 0 := by
  unfold f_X10_isFlow f_X11_isFlow f_X10_isShelf f_X11_isShelf
  by_cases h1 : a < 0
  · simp only [if_pos h1, and_self]
  · have h2 : (8 : Int32) ≤ a := by
      rcases h with h | h
      · exact absurd h h1
      · exact h
    simp only [if_neg h1, if_pos h2, and_self]
theorem has_in {M : Mm} {X p f : Nat} (hS : St M X) (hp : mI M 604 (X + 1) = nI p) (h8 : p ≤ 8) (hf : f < p) : f_X6_has M (X + 1) (nI f) = some 1 := by
  unfold f_X6_has
  rw [if_pos (k_1 hS), if_neg (nI_pos (by omega)), gI_of (k_1 hS), ob_eq, hp, if_neg (nI_ge hf (by omega))]
theorem has_out {M : Mm} {X p : Nat} {a : Int32} (hS : St M X) (hp : mI M 604 (X + 1) = nI p) (h : a < 0 ∨ nI p ≤ a) : f_X6_has M (X + 1) a = some 0 := by
  unfold f_X6_has
  rw [if_pos (k_1 hS), gI_of (k_1 hS), ob_eq, hp]
  by_cases h1 : a < 0
  · rw [if_pos h1]
  · rw [if_neg h1, if_pos (h.resolve_left h1)]
theorem fd_in {M : Mm} {X p f : Nat} (hS : St M X) (hp : mI M 1101 (X + 226) = nI p) (h8 : p ≤ 8) (hf : f < p) : f_X11_isField M (X + 226) (nI f) = some 1 := by
  unfold f_X11_isField
  rw [if_pos (k_226 hS), if_neg (nI_pos (by omega)), gI_of (k_226 hS), ob_eq, hp, if_neg (nI_ge hf (by omega))]
theorem fd_out {M : Mm} {X p : Nat} {a : Int32} (hS : St M X) (hp : mI M 1101 (X + 226) = nI p) (h : a < 0 ∨ nI p ≤ a) : f_X11_isField M (X + 226) a = some 0 := by
  unfold f_X11_isField
  rw [if_pos (k_226 hS), gI_of (k_226 hS), ob_eq, hp]
  by_cases h1 : a < 0
  · rw [if_pos h1]
  · rw [if_neg h1, if_pos (h.resolve_left h1)]
theorem ix_cases (x : Int32) {n : Nat} (hn : n < 2 ^ 31) : (x < 0 ∨ nI n ≤ x) ∨ ∃ j : Nat, j < n ∧ x = nI j := by
  rcases pk_ix x hn with h | h | h
  · exact Or.inl (Or.inl h)
  · exact Or.inl (Or.inr h)
  · exact Or.inr h
