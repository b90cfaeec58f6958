/-! Two memories agree but for scratch cells and the named ones. -/
def ScI (X num a : Nat) : Prop := num ≤ 99 ∨ num = 501 ∨ num = 1100 ∨ (1142 ≤ num ∧ num ≤ 1150) ∨ (num = 301 ∧ (a = X + 6 ∨ a = X + 215))
def ScA (X a : Nat) : Prop := a = X + 213 ∨ a = X + 217 ∨ a = X + 218 ∨ a = X + 219 ∨ a = X + 259 ∨ a = X + 260 ∨ a = X + 261 ∨ a = X + 263
def ScB (X a : Nat) : Prop := a = X + 216 ∨ a = X + 220 ∨ a = X + 262 ∨ a = X + 264 ∨ a = X + 269
def Ag (X N n : Nat) (TI TA TB : Nat → Nat → Prop) (M M1 : Mm) : Prop :=
  (∀ num a, ¬ ScI X num a → ¬ TI num a → a < N → mI M1 num a = mI M num a) ∧ (∀ a j, ¬ ScA X a → ¬ TA a j → a < N → mA M1 a j = mA M a j) ∧ (∀ a j, ¬ ScB X a → ¬ TB a j → a < N → mB M1 a j = mB M a j) ∧
  (∀ a, a < N → mK M1 a = mK M a ∧ mN M1 a = mN M a) ∧ (∀ a j, a < N → (a = X + 194 → j < n) → mQ M1 a j = mQ M a j) ∧ (∀ num a, ¬ (num = 9 ∧ a = X + 214) → a < N → mR M1 num a = mR M num a) ∧ mS M ≤ mS M1
def T0 : Nat → Nat → Prop := fun _ _ => False
theorem Ag.rf {X N n : Nat} {TI TA TB : Nat → Nat → Prop} {M : Mm} : Ag X N n TI TA TB M M := ⟨fun _ _ _ _ _ => rfl, fun _ _ _ _ _ => rfl, fun _ _ _ _ _ => rfl, fun _ _ => ⟨rfl, rfl⟩, fun _ _ _ _ => rfl, fun _ _ _ _ => rfl, Nat.le_refl _⟩
theorem Ag.tr {X N n : Nat} {TI TA TB TI2 TA2 TB2 : Nat → Nat → Prop} {M M1 M2 : Mm} (h : Ag X N n TI TA TB M M1) (h2 : Ag X N n TI2 TA2 TB2 M1 M2) : Ag X N n (fun a b => TI a b ∨ TI2 a b) (fun a b => TA a b ∨ TA2 a b) (fun a b => TB a b ∨ TB2 a b) M M2 :=
  ⟨fun num a s t l => (h2.1 num a s (fun q => t (Or.inr q)) l).trans (h.1 num a s (fun q => t (Or.inl q)) l), fun a j s t l => (h2.2.1 a j s (fun q => t (Or.inr q)) l).trans (h.2.1 a j s (fun q => t (Or.inl q)) l), fun a j s t l => (h2.2.2.1 a j s (fun q => t (Or.inr q)) l).trans (h.2.2.1 a j s (fun q => t (Or.inl q)) l),
    fun a l => ⟨(h2.2.2.2.1 a l).1.trans (h.2.2.2.1 a l).1, (h2.2.2.2.1 a l).2.trans (h.2.2.2.1 a l).2⟩, fun a j l q => (h2.2.2.2.2.1 a j l q).trans (h.2.2.2.2.1 a j l q), fun num a q l => (h2.2.2.2.2.2.1 num a q l).trans (h.2.2.2.2.2.1 num a q l), Nat.le_trans h.2.2.2.2.2.2 h2.2.2.2.2.2.2⟩
theorem Ag.wk {X N n : Nat} {TI TA TB TI2 TA2 TB2 : Nat → Nat → Prop} {M M1 : Mm} (h : Ag X N n TI TA TB M M1) (h1 : ∀ a b, TI a b → TI2 a b) (h2 : ∀ a b, TA a b → TA2 a b) (h3 : ∀ a b, TB a b → TB2 a b) : Ag X N n TI2 TA2 TB2 M M1 :=
  ⟨fun num a s t l => h.1 num a s (fun q => t (h1 _ _ q)) l, fun a j s t l => h.2.1 a j s (fun q => t (h2 _ _ q)) l, fun a j s t l => h.2.2.1 a j s (fun q => t (h3 _ _ q)) l, h.2.2.2⟩
/-- two steps that touch the same -/
theorem Ag.tr' {X N n : Nat} {TI TA TB : Nat → Nat → Prop} {M M1 M2 : Mm} (h : Ag X N n TI TA TB M M1) (h2 : Ag X N n TI TA TB M1 M2) : Ag X N n TI TA TB M M2 := (h.tr h2).wk (fun _ _ q => q.elim id id) (fun _ _ q => q.elim id id) (fun _ _ q => q.elim id id)
theorem Ag.of0 {X N n : Nat} {TI TA TB : Nat → Nat → Prop} {M M1 : Mm} (h : Ag X N n T0 T0 T0 M M1) : Ag X N n TI TA TB M M1 := h.wk (fun _ _ q => q.elim) (fun _ _ q => q.elim) (fun _ _ q => q.elim)
theorem Ag_sI {X N n : Nat} {TI TA TB : Nat → Nat → Prop} {M : Mm} {k b : Nat} {v : Int32} (h : ScI X k b ∨ TI k b ∨ N ≤ b) : Ag X N n TI TA TB M (sI M k b v) :=
  ⟨fun num a s t l => by
    by_cases e : num = k ∧ a = b
    · obtain ⟨rfl, rfl⟩ := e
      exact absurd h (fun q => q.elim s (fun q => q.elim t (fun q => absurd l (Nat.not_lt.mpr q))))
    · show (if num = k then (if a = b then v else mI M num a) else mI M num a) = mI M num a
      by_cases e1 : num = k
      · rw [if_pos e1, if_neg (fun q => e ⟨e1, q⟩)]
      · rw [if_neg e1], fun _ _ _ _ _ => rfl, fun _ _ _ _ _ => rfl, fun _ _ => ⟨rfl, rfl⟩, fun _ _ _ _ => rfl, fun _ _ _ _ => rfl, Nat.le_refl _⟩
theorem Ag_sJ {X N n : Nat} {TI TA TB : Nat → Nat → Prop} {M : Mm} {k b : Nat} {v : Int64} : Ag X N n TI TA TB M (sJ M k b v) := ⟨fun _ _ _ _ _ => rfl, fun _ _ _ _ _ => rfl, fun _ _ _ _ _ => rfl, fun _ _ => ⟨rfl, rfl⟩, fun _ _ _ _ => rfl, fun _ _ _ _ => rfl, Nat.le_refl _⟩
/-- a row: all its places, or those where the new row differs -/
theorem Ag_sA {X N n : Nat} {TI TA TB : Nat → Nat → Prop} {M : Mm} {b : Nat} {g : Nat → Int32} (h : ScA X b ∨ N ≤ b ∨ ∀ j, ¬ TA b j → g j = mA M b j) : Ag X N n TI TA TB M (sA M b g) :=
  ⟨fun _ _ _ _ _ => rfl, fun a j s t l => by
    show (if a = b then g else mA M a) j = mA M a j
    by_cases e : a = b
    · subst e
      rw [if_pos rfl]
      exact h.elim (fun q => absurd q s) (fun q => q.elim (fun q => absurd l (Nat.not_lt.mpr q)) (fun q => q j t))
    · rw [if_neg e], fun _ _ _ _ _ => rfl, fun _ _ => ⟨rfl, rfl⟩, fun _ _ _ _ => rfl, fun _ _ _ _ => rfl, Nat.le_refl _⟩
theorem Ag_sB {X N n : Nat} {TI TA TB : Nat → Nat → Prop} {M : Mm} {b : Nat} {g : Nat → Int64} (h : ScB X b ∨ N ≤ b ∨ ∀ j, ¬ TB b j → g j = mB M b j) : Ag X N n TI TA TB M (sB M b g) :=
  ⟨fun _ _ _ _ _ => rfl, fun _ _ _ _ _ => rfl, fun a j s t l => by
    show (if a = b then g else mB M a) j = mB M a j
    by_cases e : a = b
    · subst e
      rw [if_pos rfl]
      exact h.elim (fun q => absurd q s) (fun q => q.elim (fun q => absurd l (Nat.not_lt.mpr q)) (fun q => q j t))
    · rw [if_neg e], fun _ _ => ⟨rfl, rfl⟩, fun _ _ _ _ => rfl, fun _ _ _ _ => rfl, Nat.le_refl _⟩
theorem Ag_sR {X N n : Nat} {TI TA TB : Nat → Nat → Prop} {M : Mm} {k b : Nat} {v : Option Nat} (h : (k = 9 ∧ b = X + 214) ∨ N ≤ b) : Ag X N n TI TA TB M (sR M k b v) :=
  ⟨fun _ _ _ _ _ => rfl, fun _ _ _ _ _ => rfl, fun _ _ _ _ _ => rfl, fun _ _ => ⟨rfl, rfl⟩, fun _ _ _ _ => rfl, fun num a q l => by
    show (if num = k then (if a = b then v else mR M num a) else mR M num a) = mR M num a
    by_cases e1 : num = k
    · rw [if_pos e1, if_neg]
      intro e2
      subst e1; subst e2
      exact h.elim q (fun x => absurd l (Nat.not_lt.mpr x))
    · rw [if_neg e1], Nat.le_refl _⟩
theorem Ag_sQ {X N n : Nat} {TI TA TB : Nat → Nat → Prop} {M : Mm} {b : Nat} {g : Nat → Option Nat} (h : b = X + 194 ∧ ∀ j, j < n → g j = mQ M b j) : Ag X N n TI TA TB M (sQ M b g) :=
  ⟨fun _ _ _ _ _ => rfl, fun _ _ _ _ _ => rfl, fun _ _ _ _ _ => rfl, fun _ _ => ⟨rfl, rfl⟩, fun a j _ q => by
    show (if a = b then g else mQ M a) j = mQ M a j
    by_cases e : a = b
    · subst e
      rw [if_pos rfl]
      exact h.2 j (q h.1)
    · rw [if_neg e], fun _ _ _ _ => rfl, Nat.le_refl _⟩
theorem Ag_nO {X N n : Nat} {TI TA TB : Nat → Nat → Prop} {M : Mm} {kd : Nat} (h : N ≤ mS M) : Ag X N n TI TA TB M (nO M kd) :=
  ⟨fun num a _ _ l => if_neg (by omega), fun _ _ _ _ _ => rfl, fun _ _ _ _ _ => rfl, fun a l => ⟨vau_ne (by omega), rfl⟩, fun _ _ _ _ => rfl, fun num a _ l => if_neg (by omega), Nat.le_succ _⟩
theorem Ag_nA {X N n : Nat} {TI TA TB : Nat → Nat → Prop} {M : Mm} {kd len : Nat} (h : N ≤ mS M) : Ag X N n TI TA TB M (nA M kd len) :=
  ⟨fun _ _ _ _ _ => rfl, fun a j _ _ l => by show va_up (mA M) (mS M) (fun _ => 0) a j = _; rw [vau_ne (by omega)], fun a j _ _ l => by show va_up (mB M) (mS M) (fun _ => 0) a j = _; rw [vau_ne (by omega)], fun a l => ⟨vau_ne (by omega), vau_ne (by omega)⟩, fun a j l _ => by show va_up (mQ M) (mS M) (fun _ => none) a j = _; rw [vau_ne (by omega)], fun _ _ _ _ => rfl, Nat.le_succ _⟩
theorem St_Ag {X N n : Nat} {TI TA TB : Nat → Nat → Prop} {M M1 : Mm} (hN : X + 270 ≤ N) (h : Ag X N n TI TA TB M M1) (hS : St M X) : St M1 X := by
  obtain ⟨-, -, -, hk, hq, hr, hs⟩ := h
  refine ⟨fun o ho => by rw [(hk (X + o) (by omega)).1]; exact hS.1 o ho, fun o ho g => by rw [(hk (X + o) (by omega)).2]; exact hS.2.1 o ho g, fun q hq2 => ?_, fun q hq2 => ?_, Nat.le_trans hS.2.2.2.2 hs⟩
  · have hb : ∀ q ∈ rT, ¬ (q.1 = 9 ∧ q.2.1 = 214) ∧ q.2.1 < 270 := by decide +kernel
    obtain ⟨g1, g2⟩ := hb q hq2
    rw [hr q.1 (X + q.2.1) (fun e => g1 ⟨e.1, by omega⟩) (by omega)]
    exact hS.2.2.1 q hq2
  · have hb : ∀ q ∈ qT, q.1 ≠ 194 ∧ q.1 < 270 := by decide +kernel
    obtain ⟨g1, g2⟩ := hb q hq2
    rw [hq (X + q.1) q.2.1 (by omega) (fun e => absurd e (by omega))]
    exact hS.2.2.2.1 q hq2
/-! each part of the invariant over it: what the touched cells must not be -/
section AgTr
variable {X N n0 : Nat} {TI TA TB : Nat → Nat → Prop} {M M1 : Mm}
theorem tr_W {w : Nat} (hN : X + 270 ≤ N) (h : Ag X N n0 TI TA TB M M1) (H : IW M X w) (t1 : ∀ num a, TI num a → ¬ (num = 1000 ∨ num = 1107)) : IW M1 X w :=
  IW_ag H (h.1 _ _ (by unfold ScI; omega) (fun q => t1 _ _ q (by omega)) (by omega)) (h.1 _ _ (by unfold ScI; omega) (fun q => t1 _ _ q (by omega)) (by omega))
theorem tr_P {p : Nat} (hN : X + 270 ≤ N) (h : Ag X N n0 TI TA TB M M1) (H : IP M X p) (t1 : ∀ num a, TI num a → ¬ (num = 604 ∨ num = 1101)) (t2 : ∀ a j, TA a j → ¬ (a = X + 2 ∨ a = X + 3 ∨ a = X + 4 ∨ a = X + 5 ∨ a = X + 227 ∨ a = X + 228 ∨ a = X + 229)) (t3 : ∀ a j, TB a j → ¬ a = X + 230) : IP M1 X p :=
  IP_ag H (h.1 _ _ (by unfold ScI; omega) (fun q => t1 _ _ q (by omega)) (by omega)) (h.1 _ _ (by unfold ScI; omega) (fun q => t1 _ _ q (by omega)) (by omega)) (fun o ho => funext fun j => h.2.1 _ _ (by unfold ScA; omega) (fun q => t2 _ _ q (by omega)) (by omega)) (funext fun j => h.2.2.1 _ _ (by unfold ScB; omega) (fun q => t3 _ _ q (by omega)) (by omega))
theorem tr_D {p : Nat} (hN : X + 270 ≤ N) (h : Ag X N n0 TI TA TB M M1) (H : ID M X p) (t2 : ∀ a j, TA a j → ¬ a = X + 3) (t3 : ∀ a j, TB a j → ¬ (a = X + 7 ∨ a = X + 231)) : ID M1 X p :=
  ID_ag H (funext fun j => h.2.1 _ _ (by unfold ScA; omega) (fun q => t2 _ _ q (by omega)) (by omega)) (funext fun j => h.2.2.1 _ _ (by unfold ScB; omega) (fun q => t3 _ _ q (by omega)) (by omega)) (funext fun j => h.2.2.1 _ _ (by unfold ScB; omega) (fun q => t3 _ _ q (by omega)) (by omega))
theorem tr_C {n : Nat} (hN : X + 270 ≤ N) (h : Ag X N n0 TI TA TB M M1) (H : IC M X n) (t1 : ∀ num a, TI num a → ¬ (num = 1010 ∨ num = 1116 ∨ num = 1106)) : IC M1 X n :=
  IC_ag H (h.1 _ _ (by unfold ScI; omega) (fun q => t1 _ _ q (by omega)) (by omega)) (h.1 _ _ (by unfold ScI; omega) (fun q => t1 _ _ q (by omega)) (by omega)) (h.1 _ _ (by unfold ScI; omega) (fun q => t1 _ _ q (by omega)) (by omega))
theorem tr_Q' {p w n i k r hh f0 : Nat} (hN : X + 270 ≤ N) (hp : p ≤ 8) (hw : w ≤ 8) (hi : i < 8) (h : Ag X N n0 TI TA TB M M1) (H : IQ' M X p w n i k r hh f0) (t1 : ∀ num a, TI num a → ¬ ((901 ≤ num ∧ num ≤ 906 ∧ a = aSq X i) ∨ (num = 301 ∧ aHd X i 0 ≤ a ∧ a ≤ aHd X i 7)))
    (t2 : ∀ a j, TA a j → ¬ (((a = X + 232 ∨ a = X + 233 ∨ a = X + 235 ∨ a = X + 236) ∧ j = i) ∨ (a = X + 234 ∧ 8 * i ≤ j ∧ j < 8 * i + 8) ∨ (a = X + 237 ∧ 9 * i ≤ j ∧ j < 9 * i + 8) ∨ a = aSt X i)) (t3 : ∀ a j, TB a j → ¬ ((aHv X i 0 ≤ a ∧ a ≤ aHv X i 7) ∨ (a = X + 238 ∧ 72 * i ≤ j ∧ j < 72 * i + 64))) : IQ' M1 X p w n i k r hh f0 :=
  IQ'_ag hp hw H (fun num hn => h.1 _ _ (by unfold ScI; omega) (fun q => t1 _ _ q (by omega)) (by unfold aSq; omega)) (fun o ho => h.2.1 _ _ (by unfold ScA; omega) (fun q => t2 _ _ q (by omega)) (by omega)) (fun f hf => h.2.1 _ _ (by unfold ScA; omega) (fun q => t2 _ _ q (by omega)) (by omega)) (fun j hj => h.2.1 _ _ (by unfold ScA; omega) (fun q => t2 _ _ q (by omega)) (by omega)) (funext fun j => h.2.1 _ _ (by unfold ScA aSt; omega) (fun q => t2 _ _ q (by omega)) (by unfold aSt; omega))
    (fun d hd => h.1 _ _ (by unfold ScI aHd; omega) (fun q => t1 _ _ q (by unfold aHd; omega)) (by unfold aHd; omega)) (fun d hd => funext fun j => h.2.2.1 _ _ (by unfold ScB aHv; omega) (fun q => t3 _ _ q (by unfold aHv; omega)) (by unfold aHv; omega)) (fun j f hj hf => h.2.2.1 _ _ (by unfold ScB; omega) (fun q => t3 _ _ q (by omega)) (by omega))
theorem tr_Q {p w n i : Nat} (hN : X + 270 ≤ N) (hp : p ≤ 8) (hw : w ≤ 8) (hi : i < 8) (h : Ag X N n0 TI TA TB M M1) (H : IQ M X p w n i) (t1 : ∀ num a, TI num a → ¬ ((901 ≤ num ∧ num ≤ 906 ∧ a = aSq X i) ∨ (num = 301 ∧ aHd X i 0 ≤ a ∧ a ≤ aHd X i 7)))
    (t2 : ∀ a j, TA a j → ¬ (((a = X + 232 ∨ a = X + 233 ∨ a = X + 235 ∨ a = X + 236) ∧ j = i) ∨ (a = X + 234 ∧ 8 * i ≤ j ∧ j < 8 * i + 8) ∨ (a = X + 237 ∧ 9 * i ≤ j ∧ j < 9 * i + 8) ∨ a = aSt X i)) (t3 : ∀ a j, TB a j → ¬ ((aHv X i 0 ≤ a ∧ a ≤ aHv X i 7) ∨ (a = X + 238 ∧ 72 * i ≤ j ∧ j < 72 * i + 64))) : IQ M1 X p w n i := by
  obtain ⟨k, r, hh, f0, H⟩ := H
  exact ⟨k, r, hh, f0, tr_Q' hN hp hw hi h H t1 t2 t3⟩
theorem tr_X {p n i : Nat} (hN : X + 270 ≤ N) (hp : p ≤ 8) (hi : i < 8) (h : Ag X N n0 TI TA TB M M1) (H : IX M X p n i) (t1 : ∀ num a, TI num a → ¬ (((num = 103 ∨ num = 102) ∧ a = aCx X i) ∨ (num = 301 ∧ a = aCh X i))) (t2 : ∀ a j, TA a j → ¬ (((a = X + 252 ∨ a = X + 253 ∨ a = X + 254) ∧ j = i) ∨ (a = X + 255 ∧ 8 * i ≤ j ∧ j < 8 * i + 8) ∨ a = aCs X i)) (t3 : ∀ a j, TB a j → ¬ ((a = X + 256 ∧ 8 * i ≤ j ∧ j < 8 * i + 8) ∨ a = aCv X i)) : IX M1 X p n i :=
  IX_ag hp H (h.1 _ _ (by unfold ScI; omega) (fun q => t1 _ _ q (by omega)) (by unfold aCx; omega)) (h.1 _ _ (by unfold ScI; omega) (fun q => t1 _ _ q (by omega)) (by unfold aCx; omega)) (h.1 _ _ (by unfold ScI aCh; omega) (fun q => t1 _ _ q (by omega)) (by unfold aCh; omega)) (fun o ho => h.2.1 _ _ (by unfold ScA; omega) (fun q => t2 _ _ q (by omega)) (by omega)) (fun f hf => h.2.1 _ _ (by unfold ScA; omega) (fun q => t2 _ _ q (by omega)) (by omega)) (funext fun j => h.2.1 _ _ (by unfold ScA aCs; omega) (fun q => t2 _ _ q (by omega)) (by unfold aCs; omega)) (fun f hf => h.2.2.1 _ _ (by unfold ScB; omega) (fun q => t3 _ _ q (by omega)) (by omega)) (funext fun j => h.2.2.1 _ _ (by unfold ScB aCv; omega) (fun q => t3 _ _ q (by omega)) (by unfold aCv; omega))
theorem tr_G {p n : Nat} (hN : X + 270 ≤ N) (h : Ag X N n0 TI TA TB M M1) (H : IG M X p n) (t1 : ∀ num a, TI num a → ¬ (((200 ≤ num ∧ num ≤ 204)) ∨ (num = 301 ∧ a = X + 223) ∨ (1135 ≤ num ∧ num ≤ 1138))) (t2 : ∀ a j, TA a j → ¬ (a = X + 258 ∨ a = X + 225)) (t3 : ∀ a j, TB a j → ¬ (a = X + 257 ∨ a = X + 224)) : IG M1 X p n :=
  IG_ag H (fun num hn => h.1 _ _ (by unfold ScI; omega) (fun q => t1 _ _ q (by omega)) (by omega)) (h.1 _ _ (by unfold ScI; omega) (fun q => t1 _ _ q (by omega)) (by omega)) (fun num hn => h.1 _ _ (by unfold ScI; omega) (fun q => t1 _ _ q (by omega)) (by omega)) (funext fun j => h.2.2.1 _ _ (by unfold ScB; omega) (fun q => t3 _ _ q (by omega)) (by omega)) (funext fun j => h.2.2.1 _ _ (by unfold ScB; omega) (fun q => t3 _ _ q (by omega)) (by omega)) (funext fun j => h.2.1 _ _ (by unfold ScA; omega) (fun q => t2 _ _ q (by omega)) (by omega)) (funext fun j => h.2.1 _ _ (by unfold ScA; omega) (fun q => t2 _ _ q (by omega)) (by omega))
theorem tr_H {s : Nat} (hN : X + 270 ≤ N) (hs : s < 8) (h : Ag X N n0 TI TA TB M M1) (H : IH M X s) (t1 : ∀ num a, TI num a → ¬ (801 ≤ num ∧ num ≤ 804 ∧ a = aSh X s)) (t2 : ∀ a j, TA a j → ¬ ((a = X + 265 ∨ a = X + 266 ∨ a = X + 267) ∧ j = s)) (t3 : ∀ a j, TB a j → ¬ ((a = X + 268 ∧ 64 * s ≤ j ∧ j < 64 * s + 60) ∨ a = aSr X s)) : IH M1 X s :=
  IH_ag H (fun num hn => h.1 _ _ (by unfold ScI; omega) (fun q => t1 _ _ q (by omega)) (by unfold aSh; omega)) (fun o ho => h.2.1 _ _ (by unfold ScA; omega) (fun q => t2 _ _ q (by omega)) (by omega)) (fun k hk => h.2.2.1 _ _ (by unfold ScB; omega) (fun q => t3 _ _ q (by omega)) (by omega)) (funext fun j => h.2.2.1 _ _ (by unfold ScB aSr; omega) (fun q => t3 _ _ q (by omega)) (by unfold aSr; omega))
theorem tr_T {n : Nat} (hN : X + 270 ≤ N) (h : Ag X N n0 TI TA TB M M1) (H : IT M X n) (t1 : ∀ num a, TI num a → ¬ num = 1011) (t2 : ∀ a j, TA a j → ¬ (a = X + 246 ∧ j < n)) : IT M1 X n :=
  IT_ag H (h.1 _ _ (by unfold ScI; omega) (fun q => t1 _ _ q rfl) (by omega)) (fun l hl => h.2.1 _ _ (by unfold ScA; omega) (fun q => t2 _ _ q (by omega)) (by omega))
theorem tr_Z {n : Nat} {z : Nat → Nat} (h : Ag X N n0 TI TA TB M M1) (H : IZ M X n z) : IZ M1 X n z := IZ_ag H h.2.2.2.2.2.2
theorem z_ge {n : Nat} {z : Nat → Nat} (H : IZ M X n z) : ∀ l, l ≤ n → X + 270 ≤ z l
  | 0, _ => by rw [H.1]; exact Nat.le_refl _
  | l + 1, h => by have h1 := z_ge H l (by omega); have h2 := H.2.1 l (by omega); omega
theorem z_le {n : Nat} {z : Nat → Nat} (H : IZ M X n z) {l : Nat} : ∀ d, l + d ≤ n → z l ≤ z (l + d)
  | 0, _ => Nat.le_refl _
  | d + 1, h => by have h1 := z_le H (l := l) d (by omega); have h2 := H.2.1 (l + d) (by omega); have e : l + (d + 1) = l + d + 1 := by omega
                   rw [e]; omega
theorem z_mo {n : Nat} {z : Nat → Nat} (H : IZ M X n z) {l m : Nat} (h : l ≤ m) (hm : m ≤ n) : z l ≤ z m := by
  have := z_le H (l := l) (m - l) (by omega)
  rw [show l + (m - l) = m by omega] at this
  exact this
theorem tr_L {p n l : Nat} {z : Nat → Nat} (hp : p ≤ 8) (hz : IZ M X n z) (hl : l < n) (hN : z n ≤ N) (hn : n ≤ n0) (h : Ag X N n0 TI TA TB M M1) (H : IL M X p z l) (t1 : ∀ num a, TI num a → ¬ (z l ≤ a ∧ a < z (l + 1))) (t2 : ∀ a j, TA a j → ¬ ((X + 239 ≤ a ∧ a ≤ X + 251 ∧ a ≠ X + 240 ∧ a ≠ X + 248 ∧ a ≠ X + 249 ∧ j = l) ∨ (a = X + 240 ∧ 64 * l ≤ j ∧ j < 64 * l + 60) ∨ ((a = X + 248 ∨ a = X + 249) ∧ 8 * l ≤ j ∧ j < 8 * l + 8) ∨ a = X + 2 ∨ (z l ≤ a ∧ a < z (l + 1)))) : IL M1 X p z l := by
  have z1 := z_ge hz l (by omega)
  have z2 := hz.2.1 l hl
  have z3 := z_mo hz (l := l + 1) (m := n) (by omega) (Nat.le_refl _)
  exact IL_ag hp H (h.2.2.2.2.1 _ _ (by omega) (fun _ => by omega)) (fun a h1 h2 => (h.2.2.2.1 a (by omega)).1) (fun a h1 h2 => (h.2.2.2.1 a (by omega)).2) (fun num a h1 h2 => h.2.2.2.2.2.1 num a (by omega) (by omega)) z1 z2
    (fun num hnum => h.1 _ _ (by unfold ScI lA; omega) (fun q => t1 _ _ q (by unfold lA; omega)) (by unfold lA; omega)) (fun g => ⟨h.1 _ _ (by unfold ScI lP; omega) (fun q => t1 _ _ q (by unfold lP; omega)) (by unfold lP; omega), h.1 _ _ (by unfold ScI lP; omega) (fun q => t1 _ _ q (by unfold lP; omega)) (by unfold lP; omega)⟩)
    (fun o ho => h.2.1 _ _ (by unfold ScA; omega) (fun q => t2 _ _ q (by omega)) (by omega)) (fun k hk => h.2.1 _ _ (by unfold ScA; omega) (fun q => t2 _ _ q (by omega)) (by omega)) (funext fun j => h.2.1 _ _ (by unfold ScA lB; omega) (fun q => t2 _ _ q (by unfold lB; omega)) (by unfold lB; omega)) (fun g => ⟨funext fun j => h.2.1 _ _ (by unfold ScA lU; omega) (fun q => t2 _ _ q (by unfold lU; omega)) (by unfold lU; omega), funext fun j => h.2.1 _ _ (by unfold ScA lV; omega) (fun q => t2 _ _ q (by unfold lV; omega)) (by unfold lV; omega)⟩)
    (fun f hf => ⟨h.2.1 _ _ (by unfold ScA; omega) (fun q => t2 _ _ q (by omega)) (by omega), h.2.1 _ _ (by unfold ScA; omega) (fun q => t2 _ _ q (by omega)) (by omega)⟩) (funext fun j => h.2.1 _ _ (by unfold ScA; omega) (fun q => t2 _ _ q (by omega)) (by omega))
end AgTr
theorem Inv_Ag {M M1 : Mm} {X p n w N : Nat} {z : Nat → Nat} (H : Inv M X p n w z) (hN : z n ≤ N) (h : Ag X N n T0 T0 T0 M M1) : Inv M1 X p n w z := by
  obtain ⟨hS, hW, hP, hD, hC, hQ, hX, hZ, hL, hG, hH, hT⟩ := H
  have hX0 := z_ge hZ n (Nat.le_refl _)
  have hN1 : X + 270 ≤ N := by omega
  have f0 : ∀ a b : Nat, T0 a b → False := fun _ _ q => q
  exact ⟨St_Ag hN1 h hS, tr_W hN1 h hW (fun _ _ q => q.elim), tr_P hN1 h hP (fun _ _ q => q.elim) (fun _ _ q => q.elim) (fun _ _ q => q.elim), tr_D hN1 h hD (fun _ _ q => q.elim) (fun _ _ q => q.elim), tr_C hN1 h hC (fun _ _ q => q.elim), fun i hi => tr_Q hN1 hP.1 hW.2.2.2 hi h (hQ i hi) (fun _ _ q => q.elim) (fun _ _ q => q.elim) (fun _ _ q => q.elim), fun i hi => tr_X hN1 hP.1 hi h (hX i hi) (fun _ _ q => q.elim) (fun _ _ q => q.elim) (fun _ _ q => q.elim), tr_Z h hZ, fun l hl => tr_L hP.1 hZ hl hN (Nat.le_refl _) h (hL l hl) (fun _ _ q => q.elim) (fun _ _ q => q.elim), tr_G hN1 h hG (fun _ _ q => q.elim) (fun _ _ q => q.elim) (fun _ _ q => q.elim), fun s hs => tr_H hN1 hs h (hH s hs) (fun _ _ q => q.elim) (fun _ _ q => q.elim) (fun _ _ q => q.elim), tr_T hN1 h hT (fun _ _ q => q.elim) (fun _ _ q => q.elim)⟩
