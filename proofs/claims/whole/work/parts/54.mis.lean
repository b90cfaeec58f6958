/-! The oldest reference that misses; all references; the least n. -/
def SC (M : Mm) (X p n w i kk r h f0 : Nat) : Prop := i < 8 ∧ w ≤ 8 ∧ IP M X p ∧ ID M X p ∧ IQ' M X p w n i kk r h f0
def okb (M : Mm) (X i kk f0 f nn j : Nat) : Bool := decide (fo (mA M (X + 3) f) (gv M X i kk f ((f0 + j) % 8)) (nI nn) (mB M (X + 7) f) = mB M (X + 7) f)
def nmb (M : Mm) (X i f0 j : Nat) : Int32 := mI M 301 (aHd X i ((f0 + j) % 8))
def fmi (ok : Nat → Bool) (num : Nat → Int32) : Nat → Nat → Int32
  | 0, _ => -2
  | d + 1, j => if ok j then fmi ok num d (j + 1) else num j
def al (ok : Nat → Bool) : Nat → Bool
  | 0 => true
  | j + 1 => al ok j && ok j
theorem al_iff {ok : Nat → Bool} : ∀ {h : Nat}, al ok h = true ↔ ∀ j, j < h → ok j = true
  | 0 => ⟨fun _ j hj => absurd hj (Nat.not_lt_zero _), fun _ => rfl⟩
  | h + 1 => by
    show (al ok h && ok h) = true ↔ _
    rw [Bool.and_eq_true, al_iff (h := h)]
    constructor
    · intro ⟨h1, h2⟩ j hj
      by_cases e : j = h
      · subst e; exact h2
      · exact h1 j (by omega)
    · intro h1
      exact ⟨fun j hj => h1 j (by omega), h1 h (by omega)⟩
theorem fmi_m2 {ok : Nat → Bool} {num : Nat → Int32} : ∀ {d j : Nat}, (∀ q, q < j + d → ¬ num q = -2) → (fmi ok num d j = -2 ↔ ∀ q, j ≤ q → q < j + d → ok q = true)
  | 0, j, _ => ⟨fun _ q h1 h2 => absurd h2 (by omega), fun _ => rfl⟩
  | d + 1, j, hn => by
    show (if ok j then fmi ok num d (j + 1) else num j) = -2 ↔ _
    by_cases c : ok j = true
    · rw [if_pos c, fmi_m2 (d := d) (j := j + 1) (fun q hq => hn q (by omega))]
      constructor
      · intro h q h1 h2
        by_cases e : q = j
        · subst e; exact c
        · exact h q (by omega) (by omega)
      · intro h q h1 h2
        exact h q (by omega) (by omega)
    · rw [if_neg c]
      exact ⟨fun h => absurd h (hn j (by omega)), fun h => absurd (h j (Nat.le_refl _) (by omega)) c⟩
theorem fmi_al {ok : Nat → Bool} {num : Nat → Int32} {h : Nat} (hn : ∀ q, q < h → ¬ num q = -2) : fmi ok num h 0 = -2 ↔ al ok h = true := by
  rw [fmi_m2 (fun q hq => hn q (by omega)), al_iff]
  exact ⟨fun a j hj => a j (Nat.zero_le _) (by omega), fun a j _ hj => a j (by omega)⟩
section Mis
variable {M : Mm} {X p n w i kk r h f0 : Nat} (C : SC M X p n w i kk r h f0)
theorem nm_ne (C : SC M X p n w i kk r h f0) (hk : kk < 2 ^ 30) : ∀ q, q < h → ¬ nmb M X i f0 q = -2 := by
  obtain ⟨hi, hw, hP, hD, q1, q2, q3, q4, q5, q6, q7, q8, q9, q10, q11, q12, q13, q14, q15⟩ := C
  intro q hq e
  obtain ⟨⟨u, hu, u1, u2⟩, -⟩ := q15 q hq
  unfold nmb at e
  rw [u2] at e
  have e2 := congrArg Int32.toInt e
  rw [nI_toInt (by omega)] at e2
  have e3 : (-2 : Int32).toInt = -2 := by decide
  rw [e3] at e2
  omega
theorem om_c (C : SC M X p n w i kk r h f0) {M' : Mm} {f nn : Nat} (V : VC X kk M M') (hf : f < p) : f_X9_oldestMiss M' (aSq X i) (X + 1) (X + 6) (nI f) (nI nn) = some (fmi (okb M X i kk f0 f nn) (nmb M X i f0) h 0) := by
  obtain ⟨hi, hw, hP, hD, q1, q2, q3, q4, q5, q6, q7, q8, q9, q10, q11, q12, q13, q14, q15⟩ := id C
  obtain ⟨hS, v2, v3, v4, v5⟩ := id V
  have p8 := hP.1
  have f8 : f < 8 := by omega
  have s1 : aSq X i < X + 212 := by unfold aSq; omega
  have s2 : ∀ nu, 901 ≤ nu → mI M' nu (aSq X i) = mI M nu (aSq X i) := fun nu hn => v2 _ _ s1 (by omega)
  unfold f_X9_oldestMiss
  rw [if_pos (k_aSq hS hi), r_6_300 hS, ob_eq, aj_7 hS f8, ob_eq, v4 _ (by omega)]
  have main : ∀ d j fu, j + d = h → d < fu → f_X9_oldestMiss_L11 M' fu (aSq X i) (X + 1) (X + 6) (nI f) (nI nn) (mB M (X + 7) f) (nI j) = some (fmi (okb M X i kk f0 f nn) (nmb M X i f0) d j) := by
    intro d
    induction d with
    | zero =>
      intro j fu h1 h2
      obtain ⟨fu, rfl⟩ : ∃ k, fu = k + 1 := ⟨fu - 1, by omega⟩
      rw [f_X9_oldestMiss_L11, gi_aSq hS hi, ob_eq, s2 _ (by decide), q10, if_pos (nI_le (by omega) (by omega))]
      rfl
    | succ d ih =>
      intro j fu h1 h2
      obtain ⟨fu, rfl⟩ : ∃ k, fu = k + 1 := ⟨fu - 1, by omega⟩
      have hm : (f0 + j) % 8 < 8 := Nat.mod_lt _ (by decide)
      have l1 : aHd X i ((f0 + j) % 8) < X + 212 := by unfold aHd; omega
      have n1 : ¬ (301 = 301 ∧ aHd X i ((f0 + j) % 8) = X + 6) := by unfold aHd; omega
      rw [f_X9_oldestMiss_L11, gi_aSq hS hi, ob_eq, s2 _ (by decide), q10, if_neg (nI_ge (by omega) (by omega)), rf_in hS hi (by rw [s2 _ (by decide)]; exact q13) q12 (by omega), ob_eq, r_aSq_900 hS hi, ob_eq, gvc V hi hm hP hf, ob_eq, fo_c hS f8, ob_eq, v3 _ (by omega), ob_eq, gi_aHd hS hi hm, ob_eq, v2 _ _ l1 n1, nI_1, ih (j + 1) fu (by omega) (by omega)]
      show _ = some (if okb M X i kk f0 f nn j then _ else _)
      unfold okb
      by_cases c : fo (mA M (X + 3) f) (gv M X i kk f ((f0 + j) % 8)) (nI nn) (mB M (X + 7) f) = mB M (X + 7) f
      · rw [if_pos ((lgc_eq _ _).mpr c), if_pos (decide_eq_true c)]
      · rw [if_neg (fun q => c ((lgc_eq _ _).mp q)), if_neg (fun q => c (of_decide_eq_true q))]
        rfl
  exact main h 0 1000 (by omega) (by omega)
theorem igA (C : SC M X p n w i kk r h f0) (hk : kk < 2 ^ 30) {M' : Mm} {f : Nat} (V : VC X kk M M') (hf : f < p) : f_X9_isGivenByAll M' (aSq X i) (X + 1) (X + 6) (nI f) = some (if al (okb M X i kk f0 f 0) h then 1 else 0) := by
  have e : f_X9_oldestMiss M' (aSq X i) (X + 1) (X + 6) (nI f) 0 = _ := om_c (nn := 0) C V hf
  unfold f_X9_isGivenByAll
  rw [if_pos (k_aSq V.1 C.1), e, ob_eq]
  have k := fmi_al (ok := okb M X i kk f0 f 0) (nm_ne C hk)
  by_cases c : al (okb M X i kk f0 f 0) h = true
  · rw [if_pos (k.mpr c), if_pos c]
  · rw [if_neg (fun q => c (k.mp q)), if_neg c]
theorem one_r (C : SC M X p n w i kk r h f0) {R : Mm} {f nn j : Nat} (V : RV X M R) (hf : f < p) (hj : j < h) (hn : ∀ wd, mA M (X + 3) f = nI wd → wd ≤ 32 → nn ≤ wd) : f_X11_finds R (X + 226) (nI f) (gv M X i kk f ((f0 + j) % 8)) (mB M (X + 7) f) (nI nn) = some (if okb M X i kk f0 f nn j then 1 else 0) := by
  obtain ⟨hi, hw, hP, hD, hQ⟩ := id C
  have p8 := hP.1
  obtain ⟨-, wd, u, w1, w2, w3, u1, u2⟩ := hD.1 f hf
  obtain ⟨k1, k2, -⟩ := hP.2.2.2 f hf
  have e : mA R (X + 228) f = nI wd := by rw [V.2.1 228 (by omega), k2, w1]
  rw [u2, fo_r V.1 (by omega) e (hn wd w1 w3) w3 u1]
  unfold okb
  rw [w1, u2]
  by_cases c : fo (nI wd) (gv M X i kk f ((f0 + j) % 8)) (nI nn) (lN u) = lN u
  · rw [if_pos c, if_pos (decide_eq_true c)]
  · rw [if_neg c, if_neg (fun q => c (of_decide_eq_true q))]
theorem dr_r (C : SC M X p n w i kk r h f0) {R : Mm} {f : Nat} (V : RV X M R) (hf : f < p) : aJ R (X + 231) (nI f) = some (mB M (X + 7) f) := by
  obtain ⟨hi, hw, hP, hD, hQ⟩ := id C
  have p8 := hP.1
  rw [aj_231 V.1 (by omega), V.2.2.1 231 (by omega), (hD.1 f hf).1]
theorem sv_r (C : SC M X p n w i kk r h f0) {R : Mm} {f nn : Nat} (V : RV X M R) (hf : f < p) (h36 : mA R (X + 236) i = nI h) (hn : ∀ wd, mA M (X + 3) f = nI wd → wd ≤ 32 → nn ≤ wd) : f_X11_serves R (X + 226) (nI i) (nI f) (nI kk) (nI nn) = some (if al (okb M X i kk f0 f nn) h then 1 else 0) := by
  obtain ⟨hi, hw, hP, hD, hQ⟩ := id C
  have h8 : h ≤ 8 := by have := hQ.2.2.2.2.2.2.2.2.1; omega
  have p8 := hP.1
  have hS := V.1
  have d10 : ¬ (1 : Int32) = 0 := by decide
  unfold f_X11_serves
  rw [if_pos (k_226 hS)]
  exact loop_run (fun fu j => f_X11_serves_L6 R fu (X + 226) (nI i) (nI f) (nI kk) (nI nn) (if al (okb M X i kk f0 f nn) j then 1 else 0) (nI j)) h _
    (fun j fu hj => by
      show f_X11_serves_L6 R (fu + 1) (X + 226) (nI i) (nI f) (nI kk) (nI nn) (if al (okb M X i kk f0 f nn) j then 1 else 0) (nI j) = f_X11_serves_L6 R fu (X + 226) (nI i) (nI f) (nI kk) (nI nn) (if (al (okb M X i kk f0 f nn) j && okb M X i kk f0 f nn j) then 1 else 0) (nI (j + 1))
      rw [f_X11_serves_L6, r_226_1113 hS, ob_eq, ai_236 hS hi, ob_eq, h36, if_neg (nI_ge hj (by omega)), gvr V hi hP hD hf hw hQ hj, ob_eq, r_226_1108 hS, ob_eq, dr_r C V hf, ob_eq, one_r C V hf hj hn, ob_eq]
      unfold f_X11_serves_J51 f_X11_serves_J52
      rw [nI_1]
      cases al (okb M X i kk f0 f nn) j with
      | false => rfl
      | true =>
        cases okb M X i kk f0 f nn j with
        | false => rfl
        | true => rfl)
    (fun fu => by
      show f_X11_serves_L6 R (fu + 1) (X + 226) (nI i) (nI f) (nI kk) (nI nn) (if al (okb M X i kk f0 f nn) h then 1 else 0) (nI h) = _
      rw [f_X11_serves_L6, r_226_1113 hS, ob_eq, ai_236 hS hi, ob_eq, h36, if_pos (nI_le (Nat.le_refl _) (by omega))]
      cases al (okb M X i kk f0 f nn) h with
      | false => rfl
      | true => rfl) 1000 (by omega)
theorem ga_r (C : SC M X p n w i kk r h f0) {R : Mm} {f : Nat} (V : RV X M R) (hf : f < p) (h36 : mA R (X + 236) i = nI h) : f_X11_giveAll R (X + 226) (nI i) (nI f) (nI kk) = some (if al (okb M X i kk f0 f 0) h then 1 else 0) := by
  obtain ⟨hi, hw, hP, hD, hQ⟩ := id C
  have h8 : h ≤ 8 := by have := hQ.2.2.2.2.2.2.2.2.1; omega
  have p8 := hP.1
  have hS := V.1
  have d10 : ¬ (1 : Int32) = 0 := by decide
  unfold f_X11_giveAll
  rw [if_pos (k_226 hS)]
  exact loop_run (fun fu j => f_X11_giveAll_L6 R fu (X + 226) (nI i) (nI f) (nI kk) (if al (okb M X i kk f0 f 0) j then 1 else 0) (nI j)) h _
    (fun j fu hj => by
      show f_X11_giveAll_L6 R (fu + 1) (X + 226) (nI i) (nI f) (nI kk) (if al (okb M X i kk f0 f 0) j then 1 else 0) (nI j) = f_X11_giveAll_L6 R fu (X + 226) (nI i) (nI f) (nI kk) (if (al (okb M X i kk f0 f 0) j && okb M X i kk f0 f 0 j) then 1 else 0) (nI (j + 1))
      rw [f_X11_giveAll_L6, r_226_1113 hS, ob_eq, ai_236 hS hi, ob_eq, h36, if_neg (nI_ge hj (by omega)), gvr V hi hP hD hf hw hQ hj, ob_eq, r_226_1108 hS, ob_eq, dr_r C V hf, ob_eq]
      have eo : okb M X i kk f0 f 0 j = decide (gv M X i kk f ((f0 + j) % 8) = mB M (X + 7) f) := by
        unfold okb fo
        rw [if_neg (by decide)]
      rw [eo]
      unfold f_X11_giveAll_J45 f_X11_giveAll_J46
      rw [nI_1]
      cases al (okb M X i kk f0 f 0) j with
      | false => rfl
      | true =>
        rw [if_neg (show ¬ (if true = true then (1 : Int32) else 0) = 0 from d10), Bool.true_and]
        by_cases c : gv M X i kk f ((f0 + j) % 8) = mB M (X + 7) f
        · rw [if_pos ((lgc_eq _ _).mpr c), if_pos (decide_eq_true c)]
        · rw [if_neg (fun q => c ((lgc_eq _ _).mp q)), if_neg (fun q => c (of_decide_eq_true q))])
    (fun fu => by
      show f_X11_giveAll_L6 R (fu + 1) (X + 226) (nI i) (nI f) (nI kk) (if al (okb M X i kk f0 f 0) h then 1 else 0) (nI h) = _
      rw [f_X11_giveAll_L6, r_226_1113 hS, ob_eq, ai_236 hS hi, ob_eq, h36, if_pos (nI_le (Nat.le_refl _) (by omega))]
      cases al (okb M X i kk f0 f 0) h with
      | false => rfl
      | true => rfl) 1000 (by omega)
theorem fl_r (C : SC M X p n w i kk r h f0) {R : Mm} {f nn : Nat} (V : RV X M R) (hf : f < p) (h36 : mA R (X + 236) i = nI h) (hn : ∀ wd, mA M (X + 3) f = nI wd → wd ≤ 32 → nn ≤ wd) (hnn : nn < 2 ^ 30) : f_X11_fails R (X + 226) (nI i) (nI f) (nI kk) (nI nn) = some (fmi (okb M X i kk f0 f nn) (nmb M X i f0) h 0) := by
  obtain ⟨hi, hw, hP, hD, hQ⟩ := id C
  have h8 : h ≤ 8 := by have := hQ.2.2.2.2.2.2.2.2.1; omega
  have hS := V.1
  have hR := hQ.2.2.2.2.2.2.2.2.2.2.2.2.2.2
  unfold f_X11_fails
  rw [if_pos (k_226 hS), r_226_1113 hS, ob_eq, ai_236 hS hi, ob_eq, h36]
  have main : ∀ j fu, j ≤ h → j < fu → f_X11_fails_L14 R fu (X + 226) (nI i) (nI f) (nI kk) (nI nn) (fmi (okb M X i kk f0 f nn) (nmb M X i f0) (h - j) j) (nI j - 1) = some (fmi (okb M X i kk f0 f nn) (nmb M X i f0) h 0) := by
    intro j
    induction j with
    | zero =>
      intro fu h1 h2
      obtain ⟨fu, rfl⟩ : ∃ k, fu = k + 1 := ⟨fu - 1, by omega⟩
      rw [f_X11_fails_L14, if_pos (by decide)]
      rfl
    | succ j ih =>
      intro fu h1 h2
      obtain ⟨fu, rfl⟩ : ∃ k, fu = k + 1 := ⟨fu - 1, by omega⟩
      obtain ⟨⟨u, hu, u1, u2⟩, -⟩ := hR j (by omega)
      have e := ih fu (by omega) (by omega)
      rw [show h - j = h - (j + 1) + 1 by omega] at e
      have e' : f_X11_fails_L14 R fu (X + 226) (nI i) (nI f) (nI kk) (nI nn) (if okb M X i kk f0 f nn j then fmi (okb M X i kk f0 f nn) (nmb M X i f0) (h - (j + 1)) (j + 1) else nmb M X i f0 j) (nI j - 1) = some (fmi (okb M X i kk f0 f nn) (nmb M X i f0) h 0) := e
      rw [f_X11_fails_L14, m1I, if_neg (nI_pos (by omega)), if_neg (nI_pos (by omega)), gvr V hi hP hD hf hw hQ (by omega), ob_eq, r_226_1108 hS, ob_eq, dr_r C V hf, ob_eq, one_r C V hf (by omega) hn, ob_eq]
      unfold f_X11_fails_J66
      rw [r_226_1114 hS, ob_eq, m9, nI_add, ai_237 hS (by omega), ob_eq, V.2.1 237 (by omega), u1, ← u2, sub1]
      cases c : okb M X i kk f0 f nn j with
      | false =>
        rw [c] at e'
        exact e'
      | true =>
        rw [c] at e'
        exact e'
  have e := main h 1000 (Nat.le_refl _) (by omega)
  rw [Nat.sub_self] at e
  exact e
end Mis
/-! the sum of a header -/
def sm8 (v : Nat → Int64) : Nat → Nat
  | 0 => 17
  | f + 1 => (sm8 v f * 31 + tN (v f)) % 256
theorem sm8_lt {v : Nat → Int64} : ∀ f, sm8 v f < 256
  | 0 => by show 17 < 256; decide
  | f + 1 => Nat.mod_lt _ (by decide)
theorem sum_c {M : Mm} {X p H V : Nat} {v : Nat → Int64} (hS : St M X) (p1 : mI M 604 (X + 1) = nI p) (p8 : p ≤ 8) (hR : gR M 4 300 H = some V) (hv : ∀ f, f < p → aJ M V (nI f) = some (v f)) : f_X6_sumOf M (X + 1) H = some (nI (sm8 v p)) := by
  unfold f_X6_sumOf
  rw [if_pos (k_1 hS)]
  exact loop_run (fun fu f => f_X6_sumOf_L7 M fu (X + 1) H (lN (sm8 v f)) (nI f)) p _
    (fun f fu hf => by
      show f_X6_sumOf_L7 M (fu + 1) (X + 1) H (lN (sm8 v f)) (nI f) = f_X6_sumOf_L7 M fu (X + 1) H (lN ((sm8 v f * 31 + tN (v f)) % 256)) (nI (f + 1))
      have e1 : f_X10_lowest (lN (sm8 v f) * 31 + v f) 8 = some (lN ((sm8 v f * 31 + tN (v f)) % 2 ^ 8)) := by
        unfold f_X10_lowest
        have e2 : lN (sm8 v f) * 31 + v f = lN (sm8 v f * 31 + tN (v f)) := by
          have a1 : lN (sm8 v f) * 31 = lN (sm8 v f * 31) := lN_mul _ 31
          have a2 := lN_add (sm8 v f * 31) (tN (v f))
          rw [lN_tN] at a2
          rw [a1, a2]
        rw [e2]
        exact congrArg some (mk_and (wd := 8) (by decide))
      rw [f_X6_sumOf_L7, gi_1 hS, ob_eq, p1, if_neg (nI_ge hf (by omega)), hR, ob_eq, hv f hf, ob_eq, e1, ob_eq, nI_1])
    (fun fu => by
      show f_X6_sumOf_L7 M (fu + 1) (X + 1) H (lN (sm8 v p)) (nI p) = _
      rw [f_X6_sumOf_L7, gi_1 hS, ob_eq, p1, if_pos (nI_le (Nat.le_refl _) (by omega)), lN_i]) 1000 (by omega)
theorem s11 {M : Mm} {X a : Nat} {v : Int64} (hS : St M X) (ha : a < 256) : f_X11_sumOf M (X + 226) (nI a).toInt64 v = some (nI ((a * 31 + tN v) % 256)) := by
  unfold f_X11_sumOf
  have e2 : (31 : Int64) * (nI a).toInt64 + v = lN (a * 31 + tN v) := by
    have a1 : (31 : Int64) * lN a = lN (31 * a) := lN_mul 31 _
    have a2 := lN_add (31 * a) (tN v)
    rw [lN_tN] at a2
    rw [nI_l (by omega), a1, a2, Nat.mul_comm]
  have e3 : lN (a * 31 + tN v) &&& 255 = lN ((a * 31 + tN v) % 2 ^ 8) := by
    have : lN (a * 31 + tN v) &&& lN (2 ^ 8 - 1) = _ := andL _ _
    rw [Nat.and_two_pow_sub_one_eq_mod] at this
    exact this
  rw [if_pos (k_226 hS), e2, e3, lN_i]
theorem sum_r {M : Mm} {X p : Nat} {v : Nat → Int64} (hS : St M X) (p1 : mI M 1101 (X + 226) = nI p) (p8 : p ≤ 8) (hv : ∀ f, f < p → aJ M (X + 231) (nI f) = some (v f)) : f_X11_draftSum M (X + 226) = some (nI (sm8 v p)) := by
  unfold f_X11_draftSum
  rw [if_pos (k_226 hS)]
  exact loop_run (fun fu f => f_X11_draftSum_L5 M fu (X + 226) (nI (sm8 v f)) (nI f)) p _
    (fun f fu hf => by
      show f_X11_draftSum_L5 M (fu + 1) (X + 226) (nI (sm8 v f)) (nI f) = f_X11_draftSum_L5 M fu (X + 226) (nI ((sm8 v f * 31 + tN (v f)) % 256)) (nI (f + 1))
      rw [f_X11_draftSum_L5, gi_226 hS, ob_eq, p1, if_neg (nI_ge hf (by omega)), r_226_1108 hS, ob_eq, hv f hf, ob_eq, s11 hS (sm8_lt f), ob_eq, nI_1])
    (fun fu => by
      show f_X11_draftSum_L5 M (fu + 1) (X + 226) (nI (sm8 v p)) (nI p) = _
      rw [f_X11_draftSum_L5, gi_226 hS, ob_eq, p1, if_pos (nI_le (Nat.le_refl _) (by omega))]) 1000 (by omega)
