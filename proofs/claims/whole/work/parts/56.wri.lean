/-! What is written of a header: the same bits at both. -/
abbrev Bs : Type := (Nat → Nat) × Nat
def pS (M : Mm) (X : Nat) (s : Bs) : Mm := pn M X s.1 s.2
def rS (M : Mm) (X : Nat) (s : Bs) : Mm := rm M X s.1 s.2
def gd (s : Bs) : Prop := ∀ j, j < s.2 → s.1 j < 2
def apx (s : Bs) (x : Int64) (c : Nat) : Bs := (ap s.1 s.2 (tN x) c, s.2 + c)
theorem gd_apx {s : Bs} {x : Int64} {c : Nat} (h : gd s) : gd (apx s x c) := ap_b h
theorem wrS {M : Mm} {X c : Nat} {s : Bs} {x : Int64} (hS : St M X) (g : gd s) (hm : s.2 + c ≤ 480) (hc : c < 64) : f_X5_write (pS M X s) (X + 212) x (nI c) = some (pS M X (apx s x c)) := by
  have e := wr_pn (M := M) (X := X) (m := s.2) (u := tN x) (c := c) (b := s.1) hS hm hc g
  rw [lN_tN] at e
  exact e
theorem syS {M : Mm} {X c : Nat} {s : Bs} {x : Int64} (hS : St M X) (hm : s.2 + c ≤ 600) (hc : c < 64) : f_X11_say (rS M X s) (X + 226) x (nI c) = some (rS M X (apx s x c)) := by
  have e := say_rm (M := M) (X := X) (m := s.2) (u := tN x) (c := c) (b := s.1) hS hm hc
  rw [lN_tN] at e
  exact e
def bs (st : Nat → Bs → Bs) (s0 : Bs) : Nat → Bs
  | 0 => s0
  | f + 1 => st f (bs st s0 f)
theorem bs_ok {st : Nat → Bs → Bs} {s0 : Bs} {p : Nat} (hst : ∀ f s, f < p → gd s → gd (st f s) ∧ s.2 ≤ (st f s).2 ∧ (st f s).2 ≤ s.2 + 40) (g0 : gd s0) : ∀ f, f ≤ p → gd (bs st s0 f) ∧ s0.2 ≤ (bs st s0 f).2 ∧ (bs st s0 f).2 ≤ s0.2 + 40 * f
  | 0, _ => ⟨g0, Nat.le_refl _, Nat.le_refl _⟩
  | f + 1, h => by
    obtain ⟨a1, a2, a3⟩ := bs_ok hst g0 f (by omega)
    obtain ⟨b1, b2, b3⟩ := hst f (bs st s0 f) (by omega) a1
    show gd (st f (bs st s0 f)) ∧ s0.2 ≤ (st f (bs st s0 f)).2 ∧ (st f (bs st s0 f)).2 ≤ _
    exact ⟨b1, by omega, by omega⟩
def wdx (M : Mm) (X f : Nat) : Nat := ix (mA M (X + 3) f)
def rub (M : Mm) (X f : Nat) : Bool := decide (mA M (X + 2) f = 2) || decide (mA M (X + 2) f = 3)
theorem rub_if {M : Mm} {X f : Nat} : (if mA M (X + 2) f = 2 then (1 : Int32) else if mA M (X + 2) f = 3 then 1 else 0) = if rub M X f then 1 else 0 := by
  unfold rub
  by_cases q : mA M (X + 2) f = 2
  · rw [if_pos q, if_pos (by rw [Bool.or_eq_true]; exact Or.inl (decide_eq_true q))]
  · rw [if_neg q]
    by_cases q2 : mA M (X + 2) f = 3
    · rw [if_pos q2, if_pos (by rw [Bool.or_eq_true]; exact Or.inr (decide_eq_true q2))]
    · rw [if_neg q2, if_neg (by rw [Bool.or_eq_true]; exact fun h => h.elim (fun h => q (of_decide_eq_true h)) (fun h => q2 (of_decide_eq_true h)))]
def stW (M : Mm) (X i f : Nat) (s : Bs) : Bs := if rub M X f then apx (apx s (mB M (X + 7) f) (wdx M X f)) (mA M (aSt X i) f).toInt64 8 else apx s (mB M (X + 7) f) (wdx M X f)
def stP (M : Mm) (X : Nat) (all : Nat → Bool) (f : Nat) (s : Bs) : Bs := if mA M (X + 2) f = 4 then apx s (mB M (X + 7) f) (wdx M X f) else if all f then apx s 0 1 else apx (apx s 1 1) (mB M (X + 7) f) (wdx M X f)
def stS (M : Mm) (X : Nat) (L : Nat → Nat) (f : Nat) (s : Bs) : Bs := if rub M X f then apx (apx s (lN (L f)) 6) (mB M (X + 7) f) (L f) else if mA M (X + 2) f = 4 then apx s (mB M (X + 7) f) (wdx M X f) else s
theorem wd_in {M : Mm} {X p f : Nat} (hP : IP M X p) (hf : f < p) : wdx M X f ≤ 32 ∧ mA M (X + 3) f = nI (wdx M X f) := by
  obtain ⟨-, -, -, ⟨wd, w1, w2, w3⟩, -⟩ := hP.2.2.2 f hf
  have e : wdx M X f = wd := by unfold wdx; rw [w3]; exact ix_nI (by omega)
  rw [e]
  exact ⟨w2, w3⟩
theorem stW_ok {M : Mm} {X p i : Nat} (hP : IP M X p) : ∀ f s, f < p → gd s → gd (stW M X i f s) ∧ s.2 ≤ (stW M X i f s).2 ∧ (stW M X i f s).2 ≤ s.2 + 40 := by
  intro f s hf g
  have w := (wd_in hP hf).1
  unfold stW
  by_cases q : rub M X f = true
  · rw [if_pos q]
    refine ⟨gd_apx (gd_apx g), ?_, ?_⟩
    · show s.2 ≤ s.2 + wdx M X f + 8; omega
    · show s.2 + wdx M X f + 8 ≤ s.2 + 40; omega
  · rw [if_neg q]
    refine ⟨gd_apx g, ?_, ?_⟩
    · show s.2 ≤ s.2 + wdx M X f; omega
    · show s.2 + wdx M X f ≤ s.2 + 40; omega
theorem stP_ok {M : Mm} {X p : Nat} {all : Nat → Bool} (hP : IP M X p) : ∀ f s, f < p → gd s → gd (stP M X all f s) ∧ s.2 ≤ (stP M X all f s).2 ∧ (stP M X all f s).2 ≤ s.2 + 40 := by
  intro f s hf g
  have w := (wd_in hP hf).1
  unfold stP
  by_cases q : mA M (X + 2) f = 4
  · rw [if_pos q]
    refine ⟨gd_apx g, ?_, ?_⟩
    · show s.2 ≤ s.2 + wdx M X f; omega
    · show s.2 + wdx M X f ≤ s.2 + 40; omega
  · rw [if_neg q]
    by_cases q2 : all f = true
    · rw [if_pos q2]
      refine ⟨gd_apx g, ?_, ?_⟩
      · show s.2 ≤ s.2 + 1; omega
      · show s.2 + 1 ≤ s.2 + 40; omega
    · rw [if_neg q2]
      refine ⟨gd_apx (gd_apx g), ?_, ?_⟩
      · show s.2 ≤ s.2 + 1 + wdx M X f; omega
      · show s.2 + 1 + wdx M X f ≤ s.2 + 40; omega
theorem stS_ok {M : Mm} {X p : Nat} {L : Nat → Nat} (hP : IP M X p) (hL : ∀ f, f < p → L f ≤ 32) : ∀ f s, f < p → gd s → gd (stS M X L f s) ∧ s.2 ≤ (stS M X L f s).2 ∧ (stS M X L f s).2 ≤ s.2 + 40 := by
  intro f s hf g
  have w := (wd_in hP hf).1
  have l := hL f hf
  unfold stS
  by_cases q : rub M X f = true
  · rw [if_pos q]
    refine ⟨gd_apx (gd_apx g), ?_, ?_⟩
    · show s.2 ≤ s.2 + 6 + L f; omega
    · show s.2 + 6 + L f ≤ s.2 + 40; omega
  · rw [if_neg q]
    by_cases q2 : mA M (X + 2) f = 4
    · rw [if_pos q2]
      refine ⟨gd_apx g, ?_, ?_⟩
      · show s.2 ≤ s.2 + wdx M X f; omega
      · show s.2 + wdx M X f ≤ s.2 + 40; omega
    · rw [if_neg q2]
      exact ⟨g, Nat.le_refl _, by omega⟩
theorem pn_I {M : Mm} {X m num : Nat} {b : Nat → Nat} (h : ¬ num = 501) : mI (pn M X b m) num = mI M num := by unfold pn; rw [mI_sA]; funext y; rw [mI_sI, if_neg h]
theorem pn_A {M : Mm} {X m a : Nat} {b : Nat → Nat} (h : ¬ a = X + 213) : mA (pn M X b m) a = mA M a := by unfold pn; rw [mA_sA, if_neg h, mA_sI]
theorem rm_I {M : Mm} {X m num : Nat} {b : Nat → Nat} (h : ¬ num = 1142) : mI (rm M X b m) num = mI M num := by unfold rm; rw [mI_sA]; funext y; rw [mI_sI, if_neg h]
theorem rm_A {M : Mm} {X m a : Nat} {b : Nat → Nat} (h : ¬ a = X + 259) : mA (rm M X b m) a = mA M a := by unfold rm; rw [mA_sA, if_neg h, mA_sI]
theorem pS_I {M : Mm} {X num : Nat} {s : Bs} (h : ¬ num = 501) : mI (pS M X s) num = mI M num := pn_I h
theorem pS_A {M : Mm} {X a : Nat} {s : Bs} (h : ¬ a = X + 213) : mA (pS M X s) a = mA M a := pn_A h
theorem pS_B {M : Mm} {X : Nat} {s : Bs} : mB (pS M X s) = mB M := rfl
theorem rS_I {M : Mm} {X num : Nat} {s : Bs} (h : ¬ num = 1142) : mI (rS M X s) num = mI M num := rm_I h
theorem rS_A {M : Mm} {X a : Nat} {s : Bs} (h : ¬ a = X + 259) : mA (rS M X s) a = mA M a := rm_A h
theorem rS_B {M : Mm} {X : Nat} {s : Bs} : mB (rS M X s) = mB M := rfl
theorem St_pS {M : Mm} {X : Nat} {s : Bs} (h : St M X) : St (pS M X s) X := St_pn h
theorem St_rS {M : Mm} {X : Nat} {s : Bs} (h : St M X) : St (rS M X s) X := St_rm h
/-! whole -/
theorem ww_c {M M' : Mm} {X p i : Nat} {s0 : Bs} (hS : St M' X) (hi : i < 8) (hP : IP M X p) (p1 : mI M' 604 (X + 1) = nI p) (a2 : mA M' (X + 2) = mA M (X + 2)) (a3 : mA M' (X + 3) = mA M (X + 3)) (a4 : mA M' (aSt X i) = mA M (aSt X i)) (b7 : mB M' (X + 7) = mB M (X + 7)) (g0 : gd s0) (h0 : s0.2 ≤ 60) : f_X9_writeWhole_L13 1000 (pS M' X s0) (aSq X i) (X + 1) (X + 6) (X + 212) 0 = some (pS M' X (bs (stW M X i) s0 p)) := by
  have p8 := hP.1
  exact loop_run (fun fu f => f_X9_writeWhole_L13 fu (pS M' X (bs (stW M X i) s0 f)) (aSq X i) (X + 1) (X + 6) (X + 212) (nI f)) p _
    (fun f fu hf => by
      show f_X9_writeWhole_L13 (fu + 1) (pS M' X (bs (stW M X i) s0 f)) (aSq X i) (X + 1) (X + 6) (X + 212) (nI f) = f_X9_writeWhole_L13 fu (pS M' X (stW M X i f (bs (stW M X i) s0 f))) (aSq X i) (X + 1) (X + 6) (X + 212) (nI (f + 1))
      obtain ⟨g1, g2, g3⟩ := bs_ok (stW_ok (i := i) hP) g0 f (by omega)
      generalize bs (stW M X i) s0 f = s at g1 g2 g3
      have hSp : St (pS M' X s) X := St_pS hS
      obtain ⟨w1, w2⟩ := wd_in hP hf
      have f8 : f < 8 := by omega
      have hSq : St (pS M' X (apx s (mB M (X + 7) f) (wdx M X f))) X := St_pS hS
      have l4 : ¬ aSt X i = X + 213 := by unfold aSt; omega
      rw [f_X9_writeWhole_L13, gi_1 hSp, ob_eq, pS_I (by decide), p1, if_neg (nI_ge hf (by omega)), r_6_300 hSp, ob_eq, aj_7 hSp f8, ob_eq, pS_B, b7, r_1_601 hSp, ob_eq, ai_3 hSp f8, ob_eq, pS_A (by omega), a3, w2, wrS hS g1 (by omega) (by omega), ob_eq, hs_in hSq (by rw [pS_I (by decide)]; exact p1) p8 hf, ob_eq, pS_A (by omega), a2, rub_if]
      unfold stW f_X9_writeWhole_J63
      rw [nI_1]
      by_cases q : rub M X f = true
      · have w8 : f_X5_write (pS M' X (apx s (mB M (X + 7) f) (wdx M X f))) (X + 212) (mA M (aSt X i) f).toInt64 8 = _ := wrS (c := 8) hS (gd_apx g1) (by show s.2 + wdx M X f + 8 ≤ 480; omega) (by decide)
        rw [if_pos q, if_neg (show ¬ (1 : Int32) = 0 by decide), if_pos q, r_aSq_900 hSq hi, ob_eq, ai_aSt hSq hi f8, ob_eq, pS_A l4, a4, w8, ob_eq]
      · rw [if_neg q, if_pos rfl, if_neg q])
    (fun fu => by
      show f_X9_writeWhole_L13 (fu + 1) (pS M' X (bs (stW M X i) s0 p)) (aSq X i) (X + 1) (X + 6) (X + 212) (nI p) = _
      rw [f_X9_writeWhole_L13, gi_1 (St_pS hS), ob_eq, pS_I (by decide), p1, if_pos (nI_le (Nat.le_refl _) (by omega))]) 1000 (by omega)
