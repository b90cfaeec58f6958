/-! The letter is laid: class (addWritten) and reference (laid). -/
def sU (M : Mm) (a i : Nat) (v : Int32) : Mm := sA M a (va_up (mA M a) i v)
theorem sU_def (M : Mm) (a i : Nat) (v : Int32) : sA M a (va_up (mA M a) i v) = sU M a i v := rfl
theorem mA_sU (M : Mm) (a i : Nat) (v : Int32) (x : Nat) : mA (sU M a i v) x = if x = a then va_up (mA M a) i v else mA M x := rfl
theorem mI_sU (M : Mm) (a i : Nat) (v : Int32) : mI (sU M a i v) = mI M := rfl
theorem mB_sU (M : Mm) (a i : Nat) (v : Int32) : mB (sU M a i v) = mB M := rfl
theorem mS_sU (M : Mm) (a i : Nat) (v : Int32) : mS (sU M a i v) = mS M := rfl
theorem St_sU {M : Mm} {X a i : Nat} {v : Int32} (h : St M X) : St (sU M a i v) X := h
theorem Ag.cU {X N n : Nat} {TI TA TB : Nat → Nat → Prop} {M M1 : Mm} {b i : Nat} {v : Int32} (h : Ag X N n TI TA TB M M1) (q : ScA X b ∨ N ≤ b ∨ TA b i) : Ag X N n TI TA TB M (sU M1 b i v) := Ag.cAu h q
theorem mA_sUx {M : Mm} {a i x : Nat} {v : Int32} (h : ¬ x = a) : mA (sU M a i v) x = mA M x := by rw [mA_sU, if_neg h]
theorem mA_sUi {M : Mm} {a i : Nat} {v : Int32} : mA (sU M a i v) a i = v := by rw [mA_sU, if_pos rfl, vau_eq]
theorem mA_sUj {M : Mm} {a i j x : Nat} {v : Int32} (h : ¬ j = i) : mA (sU M a i v) x j = mA M x j := by
  rw [mA_sU]
  by_cases q : x = a
  · subst q; rw [if_pos rfl, vau_ne h]
  · rw [if_neg q]
theorem addW {M : Mm} {X N n m k i u : Nat} {b : Nat → Nat} {pr : Option Nat} {c : Bool} (hX : X + 270 ≤ N) (hS : St M X) (hN : N ≤ mS M) (h1 : mI M 1010 X = nI n) (hn : n < 200) (h2 : m ≤ 440) (hb : ∀ j, j < m → b j < 2) (hc : f_X10_endsInCheck (nI k) = some (if c then 1 else 0)) (hu : u < 2 ^ 31) :
    ∃ M1 g, f_X10_addWritten (pn M X b m) X (nI k) (nI i) (nI u) pr = some (M1, nI n) ∧ Ag X N n (T10 X) T0 T0 M M1 ∧ mS M1 = mS M + 2 ∧ cLt M1 X n (mS M + 1) (mS M) k i m (bln m c) (nI (u % 65536)) g 0 pr ∧ (∀ k, k < bln m c → g k = nI (byt b m k)) ∧ (∀ num a, a < mS M → num ≠ 1010 → mI M1 num a = mI (pn M X b m) num a) ∧ (∀ a, a < mS M → mA M1 a = mA (pn M X b m) a) ∧ (∀ a, a < mS M → mK M1 a = mK M a ∧ mN M1 a = mN M a) ∧ ∀ num a, a < mS M → mR M1 num a = mR M num a := by
  have hSp : St (pn M X b m) X := St_pn hS
  obtain ⟨g, f1, f2⟩ := fin_eq hS h2 hb c
  generalize hM5 : sA (nA (pn M X b m) 20 (bln m c)) (mS M) g = M5 at f1
  have s5 : mS M5 = mS M + 1 := by rw [← hM5]; rfl
  have A5 : Ag X N n (T10 X) T0 T0 M M5 := by
    rw [← hM5]
    exact ((Ag.rf.cpn).cN hN).cA (Or.inr (Or.inl hN))
  have i5 : mI M5 = mI (pn M X b m) := by rw [← hM5, mI_sA, mI_nA]
  have r5 : mR M5 = mR M := by rw [← hM5, mR_sA, mR_nA]; unfold pn; rw [mR_sA, mR_sI]
  have h5 : mI M5 1010 X = nI n := by rw [i5]; unfold pn; rw [mI_sA, mI_sI, if_neg (by decide)]; exact h1
  have A6 : Ag X N n (T10 X) T0 T0 M (nO M5 5) := A5.cO (by omega)
  have S6 : St (nO M5 5) X := St_Ag hX A6 hS
  have x5 : ¬ X + 212 = mS M5 := by omega
  have h501 : mI (nO M5 5) 501 (X + 212) = nI m := by rw [mI_nO, if_neg x5, i5, pn_501]
  have kB : mK M5 (mS M) = 20 := by rw [← hM5, mK_sA, mK_nA]; exact if_pos rfl
  have nB : mN M5 (mS M) = bln m c := by rw [← hM5, mN_sA, mN_nA]; exact if_pos rfl
  have gB : mA M5 (mS M) = g := by rw [← hM5, mA_sA, if_pos rfl]
  have e6 : nI u - nI u / 65536 * 65536 = nI (u % 65536) := pk_rem (d := 65536) hu (by decide) (by decide)
  obtain ⟨M1, q1, q2, q3, q4, q5, q6, q7, q8⟩ := mk_let (k := k) (i := i) (nb := m) (num := nI (u % 65536)) (pr := pr) hX hS A5 (by omega) h5 hn (by omega) kB nB gB
  refine ⟨M1, g, ?_, q2, by rw [q3, s5], by rw [s5] at q4; exact q4, f2, ?_, ?_, ?_, ?_⟩
  · unfold f_X10_addWritten
    rw [if_pos (k_0 hSp), r_0_1007 hSp, ob_eq, hc, ob_eq, f1, ob2_eq, r_0_1007 S6, ob_eq, gi_212 S6, ob_eq, h501, e6, q1]
  · intro nu a ha hne
    rw [q5 nu a (by omega) hne, i5]
  · intro a ha
    rw [q6 a, ← hM5, mA_sA, if_neg (by omega), mA_nA, if_neg (show ¬ a = mS (pn M X b m) from fun q => absurd (show a = mS M from q) (by omega))]
  · intro a ha
    rw [(q7 a (by omega)).1, (q7 a (by omega)).2, ← hM5, mK_sA, mN_sA, mK_nA, mN_nA, if_neg (show ¬ a = mS (pn M X b m) from fun q => absurd (show a = mS M from q) (by omega)), if_neg (show ¬ a = mS (pn M X b m) from fun q => absurd (show a = mS M from q) (by omega))]
    exact ⟨rfl, rfl⟩
  · intro nu a ha
    rw [q8 nu a (by omega), r5]
theorem l90_eq {K : Mm → Nat → Int32 → Int32 → Int32 → Int32 → Option (Mm × Int32)} {Q : Mm} {X n t m : Nat} {b : Nat → Nat} {x4 : Int32} (hS : St Q X) (h42 : mI Q 1142 (X + 226) = nI m) (hr : ∀ j, j < m → mA Q (X + 259) j = nI (b j)) (ht : t < 60) (hm : m ≤ 440) (hn : n < 200) : f_X11_laid_L90 K 1000 Q (X + 226) x4 (nI n) (nI t) (nI (8 * t)) 0 (nI (8 * t)) = K (sA Q (X + 240) (va_up (mA Q (X + 240)) (64 * n + t) (nI (byv b m t)))) (X + 226) x4 (nI n) (nI (t + 1)) (nI (8 * (t + 1))) := by
  have e8 : nI (8 * t) + 8 = nI (8 * t + 8) := nI_add _ 8
  exact loop_run (fun fu i => f_X11_laid_L90 K fu Q (X + 226) x4 (nI n) (nI t) (nI (8 * t)) (nI (hv b m t i)) (nI (8 * t + i))) 8 _
    (fun i fu hi => by
      show f_X11_laid_L90 K (fu + 1) Q (X + 226) x4 (nI n) (nI t) (nI (8 * t)) (nI (hv b m t i)) (nI (8 * t + i)) = f_X11_laid_L90 K fu Q (X + 226) x4 (nI n) (nI t) (nI (8 * t)) (nI (2 * hv b m t i + (if 8 * t + i < m then b (8 * t + i) else 0))) (nI (8 * t + i + 1))
      have e2 : (2 : Int32) * nI (hv b m t i) = nI (2 * hv b m t i) := pk_mul 2 _
      rw [f_X11_laid_L90, e8, if_neg (nI_ge (by omega) (by omega)), gi_226 hS, ob_eq, h42, e2]
      unfold f_X11_laid_J124
      by_cases q : 8 * t + i < m
      · rw [if_neg (nI_ge q (by omega)), r_226_1141 hS, ob_eq, ai_259 hS (by omega), ob_eq, hr _ q, if_pos q, nI_add, nI_1]
      · rw [if_pos (nI_le (by omega) (by omega)), if_neg q, Nat.add_zero, nI_1]
        congr 1
        exact nI_add _ 0)
    (fun fu => by
      show f_X11_laid_L90 K (fu + 1) Q (X + 226) x4 (nI n) (nI t) (nI (8 * t)) (nI (byv b m t)) (nI (8 * t + 8)) = _
      rw [f_X11_laid_L90, e8, if_pos (nI_le (Nat.le_refl _) (by omega)), r_226_1118 hS, ob_eq, m64, nI_add, wi_240 hS (by omega), ob_eq, nI_1]
      rfl) 1000 (by omega)
theorem l74_eq {Q : Mm} {X n m : Nat} {b : Nat → Nat} {c : Bool} (hS : St Q X) (h42 : mI Q 1142 (X + 226) = nI m) (hr : ∀ j, j < m → mA Q (X + 259) j = nI (b j)) (hm : m ≤ 440) (hn : n < 200) (hb : ∀ j, j < m → b j < 2) : f_X11_laid_L74 1000 Q (X + 226) (if c then 1 else 0) (nI n) 0 0 = f_X11_laid_J186 (sA Q (X + 240) (wr (mA Q (X + 240)) (64 * n) (bln m c) (fun k => nI (byt b m k)))) (X + 226) (nI n) (nI (bln m c)) := by
  have ev : ∀ w, w ≤ (m + 7) / 8 → wr (mA Q (X + 240)) (64 * n) w (fun k => nI (byv b m k)) = wr (mA Q (X + 240)) (64 * n) w (fun k => nI (byt b m k)) := by
    intro w hw
    funext j
    by_cases q : 64 * n ≤ j ∧ j < 64 * n + w
    · unfold wr byt
      rw [if_pos q, if_pos q]
      dsimp only
      rw [if_pos (by omega)]
    · rw [wr_out q, wr_out q]
  have e := loop_run (fun fu t => f_X11_laid_L74 fu (sA Q (X + 240) (wr (mA Q (X + 240)) (64 * n) t (fun k => nI (byv b m k)))) (X + 226) (if c then 1 else 0) (nI n) (nI t) (nI (8 * t))) ((m + 7) / 8) (f_X11_laid_J186 (sA Q (X + 240) (wr (mA Q (X + 240)) (64 * n) (bln m c) (fun k => nI (byt b m k)))) (X + 226) (nI n) (nI (bln m c)))
    (fun t fu ht => by
      show f_X11_laid_L74 (fu + 1) (sA Q (X + 240) (wr (mA Q (X + 240)) (64 * n) t (fun k => nI (byv b m k)))) (X + 226) (if c then 1 else 0) (nI n) (nI t) (nI (8 * t)) = f_X11_laid_L74 fu (sA Q (X + 240) (wr (mA Q (X + 240)) (64 * n) (t + 1) (fun k => nI (byv b m k)))) (X + 226) (if c then 1 else 0) (nI n) (nI (t + 1)) (nI (8 * (t + 1)))
      have hS1 : St (sA Q (X + 240) (wr (mA Q (X + 240)) (64 * n) t (fun k => nI (byv b m k)))) X := St_sA hS
      rw [f_X11_laid_L74, gi_226 hS1, ob_eq, mI_sA, h42, if_neg (nI_ge (by omega) (by omega)), l90_eq (b := b) (m := m) hS1 (by rw [mI_sA]; exact h42) (by intro j hj; rw [mA_sA, if_neg (by omega)]; exact hr j hj) (by omega) hm hn, sA_sA, mA_sA, if_pos rfl]
      exact congrArg (fun g => f_X11_laid_L74 fu (sA Q (X + 240) g) (X + 226) (if c then 1 else 0) (nI n) (nI (t + 1)) (nI (8 * (t + 1)))) (wr_s (mA Q (X + 240)) (64 * n) t (fun k => nI (byv b m k))))
    (fun fu => by
      show f_X11_laid_L74 (fu + 1) (sA Q (X + 240) (wr (mA Q (X + 240)) (64 * n) ((m + 7) / 8) (fun k => nI (byv b m k)))) (X + 226) (if c then 1 else 0) (nI n) (nI ((m + 7) / 8)) (nI (8 * ((m + 7) / 8))) = _
      have hS1 : St (sA Q (X + 240) (wr (mA Q (X + 240)) (64 * n) ((m + 7) / 8) (fun k => nI (byv b m k)))) X := St_sA hS
      rw [f_X11_laid_L74, gi_226 hS1, ob_eq, mI_sA, h42, if_pos (nI_le (by omega) (by omega))]
      cases c with
      | false =>
        rw [if_pos (show (if false = true then (1 : Int32) else 0) = 0 from rfl), ev _ (Nat.le_refl _)]
        rfl
      | true =>
        have hr2 : ∀ k, k < (m + 7) / 8 → mA (sA Q (X + 240) (wr (mA Q (X + 240)) (64 * n) ((m + 7) / 8) (fun k => nI (byv b m k)))) (X + 240) (64 * n + k) = nI (byv b m k) := by
          intro k hk
          rw [mA_sA, if_pos rfl]
          exact wr_in hk
        rw [if_neg (show ¬ (if true = true then (1 : Int32) else 0) = 0 by decide), r_226_1118 hS1, ob_eq, ck11 hS1 hn (by omega) (fun k hk => byv_lt hb) hr2, ob_eq, m64, nI_add, wi_240 hS1 (by omega), ob_eq, sA_sA, mA_sA, if_pos rfl, nI_1, ev _ (Nat.le_refl _)]
        have e3 : nI (cbv (byv b m) ((m + 7) / 8)) = nI (byt b m ((m + 7) / 8)) := by unfold byt; rw [if_neg (Nat.lt_irrefl _)]
        rw [e3]
        exact congrArg (fun g => f_X11_laid_J186 (sA Q (X + 240) g) (X + 226) (nI n) (nI ((m + 7) / 8 + 1))) (wr_s (mA Q (X + 240)) (64 * n) ((m + 7) / 8) (fun k => nI (byt b m k)))) 1000 (by omega)
  rw [wr_0, sA_self Q (X + 240) (fun j => rfl)] at e
  exact e
/-- the reference's cells of a letter -/
def rLt (M2 : Mm) (X n k i nb len : Nat) (num : Int32) (f : Nat → Nat) (cp : Int32) : Prop := mA M2 (X + 241) n = nI k ∧ mA M2 (X + 242) n = nI i ∧ mA M2 (X + 243) n = num ∧ mA M2 (X + 244) n = nI nb ∧ mA M2 (X + 245) n = -1 ∧ mA M2 (X + 246) n = 0 ∧ mA M2 (X + 247) n = cp ∧ mA M2 (X + 239) n = nI len ∧ (∀ k, k < len → mA M2 (X + 240) (64 * n + k) = nI (f k)) ∧ mI M2 1116 (X + 226) = nI (n + 1) ∧ mI M2 1106 (X + 226) = 1
def TAl (X n : Nat) : Nat → Nat → Prop := fun a j => (X + 239 ≤ a ∧ a ≤ X + 247 ∧ a ≠ X + 240 ∧ j = n) ∨ (a = X + 240 ∧ 64 * n ≤ j ∧ j < 64 * n + 60)
def TIl (X : Nat) : Nat → Nat → Prop := fun num a => (num = 1116 ∨ num = 1106) ∧ a = X + 226
theorem laid_eq {M : Mm} {X n m k i u : Nat} {b : Nat → Nat} {c : Bool} (hS : St M X) (h1 : mI M 1116 (X + 226) = nI n) (hn : n < 200) (hm : m ≤ 440) (hb : ∀ j, j < m → b j < 2) (hu : u < 2 ^ 31) :
    ∃ M2, f_X11_laid (rm M X b m) (X + 226) (nI k) (nI i) (nI u) (if c then 1 else 0) = some (M2, nI n) ∧ (∀ N n0, Ag X N n0 (TIl X) (TAl X n) T0 M M2) ∧ mS M2 = mS M ∧ rLt M2 X n k i m (bln m c) (nI (u % 65536)) (byt b m) 0 := by
  have hSr : St (rm M X b m) X := St_rm hS
  have e6 : nI u - nI u / 65536 * 65536 = nI (u % 65536) := pk_rem (d := 65536) hu (by decide) (by decide)
  have h16 : mI (rm M X b m) 1116 (X + 226) = nI n := by unfold rm; rw [mI_sA, mI_sI, if_neg (by decide)]; exact h1
  generalize hQ : sU (sU (sU (sU (sU (sU (sU (rm M X b m) (X + 241) n (nI k)) (X + 242) n (nI i)) (X + 243) n (nI (u % 65536))) (X + 244) n (nI m)) (X + 245) n (-1)) (X + 246) n 0) (X + 247) n 0 = Q
  have eI : mI Q = mI (rm M X b m) := by rw [← hQ]; rw [mI_sU, mI_sU, mI_sU, mI_sU, mI_sU, mI_sU, mI_sU]
  have hSQ : St Q X := by rw [← hQ]; exact St_sU (St_sU (St_sU (St_sU (St_sU (St_sU (St_sU hSr))))))
  have e1 : f_X11_laid (rm M X b m) (X + 226) (nI k) (nI i) (nI u) (if c then 1 else 0) = f_X11_laid_L74 1000 Q (X + 226) (if c then 1 else 0) (nI n) 0 0 := by
    unfold f_X11_laid
    rw [if_pos (k_226 hSr), gi_226 hSr, ob_eq, h16, e6, r_226_1119 hSr, ob_eq, wi_241 hSr hn, ob_eq, sU_def]
    rw [r_226_1120 (St_sU hSr), ob_eq, wi_242 (St_sU hSr) hn, ob_eq, sU_def]
    rw [r_226_1121 (St_sU (St_sU hSr)), ob_eq, wi_243 (St_sU (St_sU hSr)) hn, ob_eq, sU_def]
    rw [r_226_1122 (St_sU (St_sU (St_sU hSr))), ob_eq, gi_226 (St_sU (St_sU (St_sU hSr))), ob_eq, mI_sU, mI_sU, mI_sU, rm_1142, wi_244 (St_sU (St_sU (St_sU hSr))) hn, ob_eq, sU_def]
    rw [r_226_1123 (St_sU (St_sU (St_sU (St_sU hSr)))), ob_eq, wi_245 (St_sU (St_sU (St_sU (St_sU hSr)))) hn, ob_eq, sU_def]
    rw [r_226_1124 (St_sU (St_sU (St_sU (St_sU (St_sU hSr))))), ob_eq, wz_246 (St_sU (St_sU (St_sU (St_sU (St_sU hSr))))) hn, ob_eq, vz0, sU_def]
    rw [r_226_1125 (St_sU (St_sU (St_sU (St_sU (St_sU (St_sU hSr)))))), ob_eq, wz_247 (St_sU (St_sU (St_sU (St_sU (St_sU (St_sU hSr)))))) hn, ob_eq, vz0, sU_def, hQ]
  have h42 : mI Q 1142 (X + 226) = nI m := by rw [eI, rm_1142]
  have aQ : ∀ x, ¬ (X + 241 ≤ x ∧ x ≤ X + 247) → mA Q x = mA (rm M X b m) x := by
    intro x hx
    rw [← hQ, mA_sUx (by omega), mA_sUx (by omega), mA_sUx (by omega), mA_sUx (by omega), mA_sUx (by omega), mA_sUx (by omega), mA_sUx (by omega)]
  have hr : ∀ j, j < m → mA Q (X + 259) j = nI (b j) := by
    intro j hj
    rw [aQ _ (by omega), rm_row hj]
  generalize hS2 : sA Q (X + 240) (wr (mA Q (X + 240)) (64 * n) (bln m c) (fun k => nI (byt b m k))) = S
  have hSS : St S X := by rw [← hS2]; exact St_sA hSQ
  have iS : mI S 1116 (X + 226) = nI n := by rw [← hS2, mI_sA, eI]; exact h16
  have hlen : bln m c ≤ 60 := by
    unfold bln
    cases c with
    | false => rw [if_neg (by decide)]; omega
    | true => rw [if_pos rfl]; omega
  refine ⟨sI (sI (sU S (X + 239) n (nI (bln m c))) 1116 (X + 226) (nI (n + 1))) 1106 (X + 226) 1, ?_, ?_, ?_, ?_⟩
  · rw [e1, l74_eq hSQ h42 hr hm hn hb, hS2]
    unfold f_X11_laid_J186
    rw [r_226_1117 hSS, ob_eq, wi_239 hSS hn, ob_eq, sU_def, gi_226 (St_sU hSS), ob_eq, mI_sU, iS, nI_1, pi_226 (St_sU hSS), ob_eq, pZ_of (k_226 (St_sI (St_sU hSS))) (Or.inr rfl), ob_eq]
  · intro N n0
    refine Ag.cI (Ag.cI (Ag.cU ?_ (Or.inr (Or.inr (Or.inl (by omega))))) (Or.inr (Or.inl ⟨Or.inl rfl, rfl⟩))) (Or.inr (Or.inl ⟨Or.inr rfl, rfl⟩))
    rw [← hS2]
    refine Ag.cAw ?_ (fun j q1 q2 => Or.inr ⟨rfl, q1, by omega⟩)
    rw [← hQ]
    exact Ag.cU (Ag.cU (Ag.cU (Ag.cU (Ag.cU (Ag.cU (Ag.cU (Ag.rf.crm) (Or.inr (Or.inr (Or.inl (by omega))))) (Or.inr (Or.inr (Or.inl (by omega))))) (Or.inr (Or.inr (Or.inl (by omega))))) (Or.inr (Or.inr (Or.inl (by omega))))) (Or.inr (Or.inr (Or.inl (by omega))))) (Or.inr (Or.inr (Or.inl (by omega))))) (Or.inr (Or.inr (Or.inl (by omega))))
  · rw [← hS2, ← hQ]; rfl
  · have aS : ∀ x, ¬ x = X + 239 → ¬ x = X + 240 → mA (sI (sI (sU S (X + 239) n (nI (bln m c))) 1116 (X + 226) (nI (n + 1))) 1106 (X + 226) 1) x = mA Q x := by
      intro x q1 q2
      rw [mA_sI, mA_sI, mA_sUx q1, ← hS2, mA_sA, if_neg q2]
    refine ⟨?_, ?_, ?_, ?_, ?_, ?_, ?_, ?_, ?_, ?_, ?_⟩
    · rw [aS _ (by omega) (by omega), ← hQ, mA_sUx (by omega), mA_sUx (by omega), mA_sUx (by omega), mA_sUx (by omega), mA_sUx (by omega), mA_sUx (by omega), mA_sUi]
    · rw [aS _ (by omega) (by omega), ← hQ, mA_sUx (by omega), mA_sUx (by omega), mA_sUx (by omega), mA_sUx (by omega), mA_sUx (by omega), mA_sUi]
    · rw [aS _ (by omega) (by omega), ← hQ, mA_sUx (by omega), mA_sUx (by omega), mA_sUx (by omega), mA_sUx (by omega), mA_sUi]
    · rw [aS _ (by omega) (by omega), ← hQ, mA_sUx (by omega), mA_sUx (by omega), mA_sUx (by omega), mA_sUi]
    · rw [aS _ (by omega) (by omega), ← hQ, mA_sUx (by omega), mA_sUx (by omega), mA_sUi]
    · rw [aS _ (by omega) (by omega), ← hQ, mA_sUx (by omega), mA_sUi]
    · rw [aS _ (by omega) (by omega), ← hQ, mA_sUi]
    · rw [mA_sI, mA_sI, mA_sUi]
    · intro k2 hk2
      rw [mA_sI, mA_sI, mA_sUx (by omega), ← hS2, mA_sA, if_pos rfl]
      exact wr_in hk2
    · rw [mI_sI, if_neg (by decide), mI_sI, if_pos rfl, if_pos rfl]
    · rw [mI_sI, if_pos rfl, if_pos rfl]
