/-! The least n: found by the class (findLeast), and by the reference (the loop in sendShort). -/
def lst (P : Nat → Bool) : Nat → Nat → Nat
  | 0, j => j
  | d + 1, j => if P j then j else lst P d (j + 1)
theorem lst_spec {P : Nat → Bool} : ∀ {d j : Nat}, P (j + d) = true → P (lst P d j) = true ∧ j ≤ lst P d j ∧ lst P d j ≤ j + d ∧ ∀ q, j ≤ q → q < lst P d j → ¬ P q = true
  | 0, j, h => ⟨h, Nat.le_refl _, Nat.le_refl _, fun q h1 h2 => absurd h2 (by show ¬ q < j; omega)⟩
  | d + 1, j, h => by
    by_cases c : P j = true
    · have e : lst P (d + 1) j = j := if_pos c
      rw [e]
      exact ⟨c, Nat.le_refl _, by omega, fun q h1 h2 => absurd h2 (by omega)⟩
    · have e : lst P (d + 1) j = lst P d (j + 1) := if_neg c
      rw [e]
      obtain ⟨a1, a2, a3, a4⟩ := lst_spec (P := P) (d := d) (j := j + 1) (by rw [show j + 1 + d = j + (d + 1) by omega]; exact h)
      refine ⟨a1, by omega, by omega, fun q h1 h2 => ?_⟩
      by_cases e2 : q = j
      · subst e2; exact c
      · exact a4 q (by omega) h2
theorem sA_comm (M : Mm) {a b : Nat} (g g2 : Nat → Int32) (h : ¬ a = b) : sA (sA M a g) b g2 = sA (sA M b g2) a g := by
  have e : va_up (va_up (mA M) a g) b g2 = va_up (va_up (mA M) b g2) a g := by
    funext x
    by_cases q : x = b
    · subst q; rw [vau_eq, vau_ne (fun e => h e.symm), vau_eq]
    · rw [vau_ne q]
      by_cases q2 : x = a
      · subst q2; rw [vau_eq, vau_eq]
      · rw [vau_ne q2, vau_ne q2, vau_ne q]
  show (mK M, mN M, mI M, mJ M, mR M, va_up (va_up (mA M) a g) b g2, mB M, mQ M, mS M) = _
  rw [e]; rfl
/-- two rows of the proof -/
def uv (M : Mm) (U V : Nat) (g1 g2 : Nat → Int32) : Mm := sA (sA M U g1) V g2
theorem uv_uv {M : Mm} {U V : Nat} {g1 g2 k1 k2 : Nat → Int32} (h : ¬ U = V) : uv (uv M U V g1 g2) U V k1 k2 = uv M U V k1 k2 := by
  unfold uv
  rw [sA_comm _ _ _ h, sA_sA, sA_comm _ _ _ (fun e => h e.symm), sA_sA]
theorem uv_u {M : Mm} {U V f : Nat} {a b : Int32} (h : ¬ U = V) : sU (sU M U f a) V f b = uv M U V (va_up (mA M U) f a) (va_up (mA M V) f b) := by
  show sA (sU M U f a) V (va_up (mA (sU M U f a) V) f b) = _
  rw [mA_sUx (fun e => h e.symm)]
  rfl
theorem uv_U {M : Mm} {U V : Nat} {g1 g2 : Nat → Int32} (h : ¬ U = V) : mA (uv M U V g1 g2) U = g1 := by unfold uv; rw [mA_sA, if_neg h, mA_sA, if_pos rfl]
theorem uv_V {M : Mm} {U V : Nat} {g1 g2 : Nat → Int32} : mA (uv M U V g1 g2) V = g2 := by unfold uv; rw [mA_sA, if_pos rfl]
theorem uv_o {M : Mm} {U V a : Nat} {g1 g2 : Nat → Int32} (h : ¬ a = U) (h2 : ¬ a = V) : mA (uv M U V g1 g2) a = mA M a := by unfold uv; rw [mA_sA, if_neg h2, mA_sA, if_neg h]
theorem VC_uv {M M' : Mm} {X k U V : Nat} {g1 g2 : Nat → Int32} (W : VC X k M M') (hU : X + 212 ≤ U) (hV : X + 212 ≤ V) : VC X k M (uv M' U V g1 g2) :=
  ⟨St_sA (St_sA W.1), W.2.1, fun a ha => by rw [uv_o (by omega) (by omega)]; exact W.2.2.1 a ha, W.2.2.2.1, W.2.2.2.2⟩
theorem VC_pn {M M' : Mm} {X k m : Nat} {b : Nat → Nat} (W : VC X k M M') : VC X k M (pn M' X b m) := by
  refine ⟨St_pn W.1, fun nu a ha hn => ?_, fun a ha => ?_, W.2.2.2.1, ?_⟩
  · unfold pn; rw [mI_sA, mI_sI, if_neg (by omega : ¬ a = X + 212), ite_self]; exact W.2.1 nu a ha hn
  · unfold pn; rw [mA_sA, if_neg (by omega), mA_sI]; exact W.2.2.1 a ha
  · unfold pn; rw [mI_sA, mI_sI, if_neg (by decide)]; exact W.2.2.2.2
theorem RV_rm {M R : Mm} {X m : Nat} {b : Nat → Nat} (W : RV X M R) : RV X M (rm R X b m) := by
  refine ⟨St_rm W.1, fun o ho => ?_, W.2.2.1, ?_⟩
  · unfold rm; rw [mA_sA, if_neg (by omega), mA_sI]; exact W.2.1 o ho
  · unfold rm; rw [mI_sA, mI_sI, if_neg (by decide)]; exact W.2.2.2
def msn (M : Mm) (X i kk f0 h f nn : Nat) : Int32 := if nn = 0 then -2 else fmi (okb M X i kk f0 f (nn - 1)) (nmb M X i f0) h 0
def lsn (M : Mm) (X i kk f0 h f : Nat) : Nat := lst (fun nn => al (okb M X i kk f0 f nn) h) (ix (mA M (X + 3) f)) 0
section Lst
variable {M : Mm} {X p n w i kk r h f0 : Nat}
theorem ok_w (C : SC M X p n w i kk r h f0) {f wd j : Nat} (hf : f < p) (hw : mA M (X + 3) f = nI wd) (h1 : 1 ≤ wd) (h3 : wd ≤ 32) : okb M X i kk f0 f wd j = true := by
  obtain ⟨-, -, hP, hD, -⟩ := C
  obtain ⟨-, wd', u, w1, w2, w3, u1, u2⟩ := hD.1 f hf
  have ew : wd' = wd := by
    have : nI wd' = nI wd := w1.symm.trans hw
    exact (nI_eq (by omega) (by omega)).mp this
  subst ew
  unfold okb
  rw [hw, u2]
  refine decide_eq_true ((fo_iff h1 (Nat.le_refl _) h3 u1).mpr ?_)
  have x1 := mk_and (u := tN (lN u - gv M X i kk f ((f0 + j) % 8) + hf2 (nI wd'))) (wd := wd') (by omega)
  rw [lN_tN] at x1
  have pw : (2 : Nat) ^ wd' ≤ 2 ^ 32 := Nat.pow_le_pow_right (by decide) h3
  have b := Nat.mod_lt (tN (lN u - gv M X i kk f ((f0 + j) % 8) + hf2 (nI wd'))) (Nat.two_pow_pos wd')
  rw [x1, shl1 _ (by omega), pk_lLT (by omega) (by omega)]
  exact b
theorem ls_spec (C : SC M X p n w i kk r h f0) {f wd : Nat} (hf : f < p) (hw : mA M (X + 3) f = nI wd) (h1 : 1 ≤ wd) (h3 : wd ≤ 32) : lsn M X i kk f0 h f ≤ wd ∧ al (okb M X i kk f0 f (lsn M X i kk f0 h f)) h = true ∧ ∀ q, q < lsn M X i kk f0 h f → ¬ al (okb M X i kk f0 f q) h = true := by
  have e : lsn M X i kk f0 h f = lst (fun nn => al (okb M X i kk f0 f nn) h) wd 0 := by unfold lsn; rw [hw, ix_nI (by omega)]
  have hp : (fun nn => al (okb M X i kk f0 f nn) h) (0 + wd) = true := by
    show al (okb M X i kk f0 f (0 + wd)) h = true
    rw [Nat.zero_add]
    exact al_iff.mpr (fun j _ => ok_w C hf hw h1 h3)
  obtain ⟨a1, a2, a3, a4⟩ := lst_spec (P := fun nn => al (okb M X i kk f0 f nn) h) hp
  rw [e]
  exact ⟨by omega, a1, fun q hq => a4 q (Nat.zero_le _) hq⟩
theorem fl_c (C : SC M X p n w i kk r h f0) (hk : kk < 2 ^ 30) {Q : Mm} {f P U V : Nat} (W : VC X kk M Q) (hf : f < p) (kP : mK Q P = 8) (rU : mR Q 700 P = some U) (rV : mR Q 701 P = some V) (kU : mK Q U = 20) (nU : mN Q U = 8) (kV : mK Q V = 20) (nV : mN Q V = 8) (hUV : ¬ U = V) (hU : X + 212 ≤ U) (hV : X + 212 ≤ V) :
    f_X9_findLeast Q (aSq X i) (X + 1) (X + 6) (nI f) P = some (uv Q U V (va_up (mA Q U) f (nI (lsn M X i kk f0 h f))) (va_up (mA Q V) f (msn M X i kk f0 h f (lsn M X i kk f0 h f)))) := by
  obtain ⟨hi, hw, hP, hD, hQ⟩ := id C
  have p8 := hP.1
  have f8 : f < 8 := by omega
  obtain ⟨-, -, -, ⟨wd, w1, w2, w3⟩, -⟩ := hP.2.2.2 f hf
  obtain ⟨l1, l2, l3⟩ := ls_spec C hf w3 w1 w2
  generalize hL : lsn M X i kk f0 h f = L at l1 l2 l3
  have main : ∀ d nn fu N, nn + d = L → d < fu → (∃ g1 g2, N = uv Q U V g1 g2 ∧ (∀ j, ¬ j = f → g1 j = mA Q U j ∧ g2 j = mA Q V j)) → f_X9_findLeast_L7 fu N (aSq X i) (X + 1) (X + 6) (nI f) P (msn M X i kk f0 h f nn) (nI nn) = some (uv Q U V (va_up (mA Q U) f (nI L)) (va_up (mA Q V) f (msn M X i kk f0 h f L))) := by
    intro d
    have step : ∀ nn fu N, nn ≤ L → (∃ g1 g2, N = uv Q U V g1 g2 ∧ (∀ j, ¬ j = f → g1 j = mA Q U j ∧ g2 j = mA Q V j)) → f_X9_findLeast_L7 (fu + 1) N (aSq X i) (X + 1) (X + 6) (nI f) P (msn M X i kk f0 h f nn) (nI nn) = if nn = L then some (uv Q U V (va_up (mA Q U) f (nI nn)) (va_up (mA Q V) f (msn M X i kk f0 h f nn))) else f_X9_findLeast_L7 fu (uv Q U V (va_up (mA Q U) f (nI nn)) (va_up (mA Q V) f (msn M X i kk f0 h f nn))) (aSq X i) (X + 1) (X + 6) (nI f) P (msn M X i kk f0 h f (nn + 1)) (nI (nn + 1)) := by
      intro nn fu N hnn ⟨g1, g2, eN, hg⟩
      have WN : VC X kk M N := by rw [eN]; exact VC_uv W hU hV
      have hS := WN.1
      have a3 : mA N (X + 3) f = nI wd := by rw [WN.2.2.1 _ (by omega)]; exact w3
      have kN : mK N = mK Q := by rw [eN]; rfl
      have nN : mN N = mN Q := by rw [eN]; rfl
      have rN : mR N = mR Q := by rw [eN]; rfl
      have e7 : sU (sU N U f (nI nn)) V f (msn M X i kk f0 h f nn) = uv Q U V (va_up (mA Q U) f (nI nn)) (va_up (mA Q V) f (msn M X i kk f0 h f nn)) := by
        rw [uv_u hUV, eN, uv_uv hUV, uv_U hUV, uv_V]
        have c1 : va_up g1 f (nI nn) = va_up (mA Q U) f (nI nn) := by
          funext j
          by_cases q : j = f
          · subst q; rw [vau_eq, vau_eq]
          · rw [vau_ne q, vau_ne q]; exact (hg j q).1
        have c2 : va_up g2 f (msn M X i kk f0 h f nn) = va_up (mA Q V) f (msn M X i kk f0 h f nn) := by
          funext j
          by_cases q : j = f
          · subst q; rw [vau_eq, vau_eq]
          · rw [vau_ne q, vau_ne q]; exact (hg j q).2
        rw [c1, c2]
      have W7 : VC X kk M (uv Q U V (va_up (mA Q U) f (nI nn)) (va_up (mA Q V) f (msn M X i kk f0 h f nn))) := VC_uv W hU hV
      rw [f_X9_findLeast_L7, r_1_601 hS, ob_eq, ai_3 hS f8, ob_eq, a3, if_neg (nI_nlt (by omega) (by omega)), gR_of (by rw [kN]; exact kP) (by rw [rN]; exact rU), ob_eq, wI_of (n := 8) (by rw [kN]; exact kU) (by rw [nN]; exact nU) f8 (by decide), ob_eq, sU_def, gR_of (show mK (sU N U f (nI nn)) P = 8 by show mK N P = 8; rw [kN]; exact kP) (show mR (sU N U f (nI nn)) 701 P = some V by show mR N 701 P = some V; rw [rN]; exact rV), ob_eq, wI_of (n := 8) (show mK (sU N U f (nI nn)) V = 20 by show mK N V = 20; rw [kN]; exact kV) (show mN (sU N U f (nI nn)) V = 8 by show mN N V = 8; rw [nN]; exact nV) f8 (by decide), ob_eq, sU_def, e7, om_c C W7 hf, ob_eq, nI_1]
      have k := fmi_al (ok := okb M X i kk f0 f nn) (nm_ne C hk)
      have em : msn M X i kk f0 h f (nn + 1) = fmi (okb M X i kk f0 f nn) (nmb M X i f0) h 0 := by unfold msn; rw [if_neg (by omega), Nat.add_sub_cancel]
      rw [em]
      by_cases c : nn = L
      · subst c
        rw [if_pos (k.mpr l2), if_pos rfl]
      · rw [if_neg (fun q => l3 nn (by omega) (k.mp q)), if_neg c]
    induction d with
    | zero =>
      intro nn fu N h1 h2 h3
      obtain ⟨fu, rfl⟩ : ∃ k, fu = k + 1 := ⟨fu - 1, by omega⟩
      rw [step nn fu N (by omega) h3, if_pos (by omega), show nn = L by omega]
    | succ d ih =>
      intro nn fu N h1 h2 h3
      obtain ⟨fu, rfl⟩ : ∃ k, fu = k + 1 := ⟨fu - 1, by omega⟩
      rw [step nn fu N (by omega) h3, if_neg (by omega)]
      exact ih (nn + 1) fu _ (by omega) (by omega) ⟨_, _, rfl, fun j hj => ⟨vau_ne hj, vau_ne hj⟩⟩
  unfold f_X9_findLeast
  rw [if_pos (k_aSq W.1 hi)]
  refine main L 0 1000 Q (by omega) (by omega) ⟨mA Q U, mA Q V, ?_, fun j _ => ⟨rfl, rfl⟩⟩
  unfold uv
  rw [sA_self Q U (fun j => rfl), sA_self Q V (fun j => rfl)]
/-- the reference's loop for n -/
theorem l40_r (C : SC M X p n w i kk r h f0) {R : Mm} {f : Nat} {K : Mm → Nat → Int32 → Int32 → Int32 → Option (Mm × Int32)} (V : RV X M R) (hf : f < p) (h36 : mA R (X + 236) i = nI h) : f_X11_sendShort_L40 K 1000 R (X + 226) (nI i) (nI kk) (nI f) 0 = f_X11_sendShort_L40 K (1000 - lsn M X i kk f0 h f) R (X + 226) (nI i) (nI kk) (nI f) (nI (lsn M X i kk f0 h f)) := by
  obtain ⟨hi, hw, hP, hD, hQ⟩ := id C
  obtain ⟨-, -, -, ⟨wd, w1, w2, w3⟩, -⟩ := hP.2.2.2 f hf
  obtain ⟨l1, l2, l3⟩ := ls_spec C hf w3 w1 w2
  generalize hL : lsn M X i kk f0 h f = L at l1 l2 l3
  have main : ∀ q, q ≤ L → f_X11_sendShort_L40 K 1000 R (X + 226) (nI i) (nI kk) (nI f) 0 = f_X11_sendShort_L40 K (1000 - q) R (X + 226) (nI i) (nI kk) (nI f) (nI q) := by
    intro q
    induction q with
    | zero => intro _; rfl
    | succ q ih =>
      intro hq
      have hn : ∀ wd', mA M (X + 3) f = nI wd' → wd' ≤ 32 → q ≤ wd' := by
        intro wd' e h32
        have : nI wd' = nI wd := e.symm.trans w3
        have := (nI_eq (by omega) (by omega)).mp this
        omega
      rw [ih (by omega), show 1000 - q = 1000 - (q + 1) + 1 by omega, f_X11_sendShort_L40, sv_r C V hf h36 hn, ob_eq, if_neg (l3 q (by omega)), if_pos rfl, nI_1]
  exact main L (Nat.le_refl _)
end Lst
