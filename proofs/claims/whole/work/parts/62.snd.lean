/-! send: how it ends, at the class and at the reference. -/
theorem Ag.mono {X N N' n : Nat} {TI TA TB : Nat → Nat → Prop} {M M1 : Mm} (h : Ag X N n TI TA TB M M1) (hN : N' ≤ N) : Ag X N' n TI TA TB M M1 :=
  ⟨fun nu a s t l => h.1 nu a s t (by omega), fun a j s t l => h.2.1 a j s t (by omega), fun a j s t l => h.2.2.1 a j s t (by omega), fun a l => h.2.2.2.1 a (by omega), fun a j l q => h.2.2.2.2.1 a j (by omega) q, fun nu a q l => h.2.2.2.2.2.1 nu a q (by omega), h.2.2.2.2.2.2⟩
theorem j165 {B : Mm} {X i k h f0 w kk n : Nat} {s : Bs} {pr : Option Nat} {c : Bool} (hS : St B X) (hi : i < 8) (hW : mI B 1000 X = nI w) (h10 : mI B 1010 X = nI n) (hn : n < 200) (h6 : mI B 906 (aSq X i) = nI f0) (h4 : mI B 904 (aSq X i) = nI h) (h1 : mI B 901 (aSq X i) = nI kk) (hk : mI B 301 (X + 6) = nI kk) (hf : f0 < 8) (hw : h ≤ w) (w8 : w ≤ 8) (w1 : 1 ≤ w) (g : gd s) (h2 : s.2 ≤ 440) (hc : f_X10_endsInCheck (nI k) = some (if c then 1 else 0)) (hu : kk < 2 ^ 31) :
    ∃ M1 gb, f_X10_send_J165 (pS B X s) X (nI i) (aSq X i) (nI k) pr = some (M1, nI n) ∧ Ag X (mS B) n (fun nu a => T10 X nu a ∨ TIr X i nu a) T0 (TBc X i) B M1 ∧ mS M1 = mS B + 2 ∧ cLt M1 X n (mS B + 1) (mS B) k i s.2 (bln s.2 c) (nI (kk % 65536)) gb 0 pr ∧ (∀ q, q < bln s.2 c → gb q = nI (byt s.1 s.2 q)) ∧ mI M1 901 (aSq X i) = nI (kk + 1) ∧ mI M1 904 (aSq X i) = nI (h + 1 - (if h < w then 0 else 1)) ∧ mI M1 906 (aSq X i) = nI ((f0 + (if h < w then 0 else 1)) % 8) ∧ (∀ nu, (nu = 902 ∨ nu = 903) → mI M1 nu (aSq X i) = mI B nu (aSq X i)) ∧ (∀ d, d < 8 → mI M1 301 (aHd X i d) = if d = (f0 + h) % 8 then nI kk else mI B 301 (aHd X i d)) ∧ ∀ d f, d < 8 → f < 8 → mB M1 (aHv X i d) f = if d = (f0 + h) % 8 then mB B (X + 7) f else mB B (aHv X i d) f := by
  have hSp : St (pS B X s) X := St_pS hS
  have sB' : X + 270 ≤ mS B := hS.2.2.2.2
  obtain ⟨E, e1, e2, e3, e4, e5, e6, e7, e8, e9, e10, e11⟩ := rem_c (Q := pS B X s) (X := X) (i := i) (f0 := f0) (h := h) (w := w) (kk := kk) hSp hi (by rw [pS_I (by decide)]; exact h6) (by rw [pS_I (by decide)]; exact h4) (by rw [pS_I (by decide)]; exact h1) (by rw [pS_I (by decide)]; exact hk) hf hw w8 w1
  have sE : mS E = mS B := e3
  have SE : St E X := St_Ag (N := X + 270) (Nat.le_refl _) (e2 _ 0) hSp
  have s1 : aSq X i < X + 212 ∧ X < aSq X i := by unfold aSq; omega
  have pE : pn E X s.1 s.2 = E := pn_self (by rw [e9 501 _ (Or.inl rfl)]; exact pn_501) (fun q hq => by rw [e4]; exact pn_row hq)
  have E10 : mI E 1010 X = nI n := by
    rw [(e2 (X + 1) 0).1 _ _ (by unfold ScI; omega) (by unfold TIr aSq aHd; omega) (by omega), pS_I (by decide)]; exact h10
  have Ek : mI E 301 (X + 6) = nI kk := by rw [e9 301 _ (Or.inr rfl), pS_I (by decide)]; exact hk
  obtain ⟨M1, gb, a1, a2, a3, a4, a5, a6, a7, a8, a9⟩ := addW (M := E) (X := X) (N := mS E) (n := n) (m := s.2) (k := k) (i := i) (u := kk) (b := s.1) (pr := pr) (c := c) (by omega) SE (Nat.le_refl _) E10 hn h2 g hc hu
  rw [pE] at a1 a6 a7
  have AB : Ag X (mS B) n (fun nu a => T10 X nu a ∨ TIr X i nu a) T0 (TBc X i) B M1 := by
    have x1 : Ag X (mS B) n (fun nu a => T10 X nu a ∨ TIr X i nu a) T0 (TBc X i) B (pS B X s) := Ag.rf.cpn
    have x2 : Ag X (mS B) n (fun nu a => T10 X nu a ∨ TIr X i nu a) T0 (TBc X i) (pS B X s) E := (e2 _ _).wk (fun _ _ q => Or.inr q) (fun _ _ q => q) (fun _ _ q => q)
    have x3 : Ag X (mS B) n (fun nu a => T10 X nu a ∨ TIr X i nu a) T0 (TBc X i) E M1 := (a2.mono (by omega)).wk (fun _ _ q => Or.inl q) (fun _ _ q => q) (fun _ _ q => q.elim)
    exact (x1.tr' x2).tr' x3
  have i6 : ∀ nu a, a < X + 213 → nu ≠ 1010 → mI M1 nu a = mI E nu a := fun nu a h1 h2 => a6 nu a (by omega) h2
  refine ⟨M1, gb, ?_, AB, by rw [a3, sE], by rw [sE] at a4; exact a4, a5, ?_, ?_, ?_, ?_, ?_, ?_⟩
  · unfold f_X10_send_J165
    rw [r_0_1002 hSp, ob_eq, gi_0 hSp, ob_eq, pS_I (by decide), hW, e1, ob_eq, r_0_1002 SE, ob_eq, gi_6 SE, ob_eq, Ek, a1, ob2_eq]
  · rw [i6 _ _ (by omega) (by decide)]; exact e5
  · rw [i6 _ _ (by omega) (by decide)]; exact e6
  · rw [i6 _ _ (by omega) (by decide)]; exact e7
  · intro nu hn
    rw [i6 _ _ (by omega) (by omega), e8 nu hn, pS_I (by omega)]
  · intro d hd
    rw [i6 _ _ (by unfold aHd; omega) (by decide), e10 d hd, pS_I (by decide)]
  · intro d f hd hf8
    have x := a2.2.2.1 (aHv X i d) f (by unfold ScB aHv; omega) (fun q => q) (by unfold aHv; omega)
    rw [x, e11 d f hd hf8, pS_B]
theorem Ag.lt {X N n : Nat} {TI TA TB : Nat → Nat → Prop} {M M1 : Mm} (h : ∀ N n0, Ag X N n0 TI TA TB M M1) : Ag X N n TI TA TB M M1 := h N n
theorem sndR {R2 : Mm} {X i k p h w kk n : Nat} {s : Bs} {c : Bool} (hS : St R2 X) (hi : i < 8) (h16 : mI R2 1116 (X + 226) = nI n) (hn : n < 200) (p1 : mI R2 1101 (X + 226) = nI p) (p8 : p ≤ 8) (h7 : mI R2 1107 (X + 226) = nI w) (hw : h ≤ w) (w8 : w ≤ 8) (h36 : mA R2 (X + 236) i = nI h) (g : gd s) (h2 : s.2 ≤ 440) (hu : kk < 2 ^ 31) :
    ∃ M2, ob2 (ob2 (f_X11_laid (rS R2 X s) (X + 226) (nI k) (nI i) (nI kk) (if c then 1 else 0)) (fun M4 v5 => some (M4, v5))) (fun M4 v5 => f_X11_send_J184 M4 (X + 226) (nI i) (nI kk) v5) = some (M2, nI n) ∧ (∀ N n0, Ag X N n0 (TIl X) (fun a j => TAl X n a j ∨ TAr X i a j) (TBr X i) R2 M2) ∧ mS M2 = mS R2 ∧ rLt M2 X n k i s.2 (bln s.2 c) (nI (kk % 65536)) (byt s.1 s.2) 0 ∧ mA M2 (X + 236) i = nI (h + 1 - (if h < w then 0 else 1)) ∧ (∀ j, j < h + 1 - (if h < w then 0 else 1) → mA M2 (X + 237) (9 * i + j) = if j + (if h < w then 0 else 1) < h then mA R2 (X + 237) (9 * i + j + (if h < w then 0 else 1)) else nI kk) ∧ ∀ j f, j < h + 1 - (if h < w then 0 else 1) → f < p → mB M2 (X + 238) (8 * (9 * i + j) + f) = if j + (if h < w then 0 else 1) < h then mB R2 (X + 238) (8 * (9 * i + j + (if h < w then 0 else 1)) + f) else mB R2 (X + 231) f := by
  obtain ⟨M3, b1, b2, b3, b4⟩ := laid_eq (M := R2) (X := X) (n := n) (m := s.2) (k := k) (i := i) (u := kk) (b := s.1) (c := c) hS h16 hn h2 g hu
  have S3 : St M3 X := St_Ag (N := X + 270) (Nat.le_refl _) (b2 _ 0) hS
  have G := b2 (X + 270) 0
  have i3 : ∀ nu, (nu = 1101 ∨ nu = 1107) → mI M3 nu (X + 226) = mI R2 nu (X + 226) := fun nu hnu => G.1 _ _ (by unfold ScI; omega) (by unfold TIl; omega) (by omega)
  have a36 : ∀ o j, (o = 236 ∨ o = 237) → mA M3 (X + o) j = mA R2 (X + o) j := fun o j ho => G.2.1 _ _ (by unfold ScA; omega) (by unfold TAl; omega) (by omega)
  have bb : ∀ o j, (o = 231 ∨ o = 238) → mB M3 (X + o) j = mB R2 (X + o) j := fun o j ho => G.2.2.1 _ _ (by unfold ScB; omega) (fun q => q) (by omega)
  obtain ⟨E, c1, c2, c3, c4, c5, c6, c7⟩ := ref_r (R := M3) (X := X) (i := i) (p := p) (h := h) (w := w) (kk := kk) S3 (by rw [i3 1101 (by omega)]; exact p1) p8 hi hw w8 (by rw [i3 1107 (by omega)]; exact h7) (by rw [a36 236 _ (by omega)]; exact h36)
  have H := c2 (X + 270) 0
  refine ⟨E, ?_, ?_, c3.trans b3, ?_, c5, ?_, ?_⟩
  · have b1' : f_X11_laid (rS R2 X s) (X + 226) (nI k) (nI i) (nI kk) (if c then 1 else 0) = some (M3, nI n) := b1
    rw [b1', ob2_eq, ob2_eq]
    unfold f_X11_send_J184
    rw [c1, ob_eq]
  · intro N n0
    have x1 : Ag X N n0 (TIl X) (fun a j => TAl X n a j ∨ TAr X i a j) (TBr X i) R2 M3 := (b2 N n0).wk (fun _ _ q => q) (fun _ _ q => Or.inl q) (fun _ _ q => q.elim)
    have x2 : Ag X N n0 (TIl X) (fun a j => TAl X n a j ∨ TAr X i a j) (TBr X i) M3 E := (c2 N n0).wk (fun _ _ q => q.elim) (fun _ _ q => Or.inr q) (fun _ _ q => q)
    exact x1.tr' x2
  · obtain ⟨r1, r2, r3, r4, r5, r6, r7, r8, r9, r10, r11⟩ := b4
    have t : ∀ o j, 239 ≤ o → o ≤ 247 → mA E (X + o) j = mA M3 (X + o) j := fun o j q1 q2 => H.2.1 _ _ (by unfold ScA; omega) (by unfold TAr; omega) (by omega)
    exact ⟨(t _ _ (by decide) (by decide)).trans r1, (t _ _ (by decide) (by decide)).trans r2, (t _ _ (by decide) (by decide)).trans r3, (t _ _ (by decide) (by decide)).trans r4, (t _ _ (by decide) (by decide)).trans r5, (t _ _ (by decide) (by decide)).trans r6, (t _ _ (by decide) (by decide)).trans r7, (t _ _ (by decide) (by decide)).trans r8, fun q hq => (t _ _ (by decide) (by decide)).trans (r9 q hq), by rw [c4]; exact r10, by rw [c4]; exact r11⟩
  · intro j hj
    rw [c6 j hj, a36 237 _ (by omega)]
  · intro j f hj hf
    rw [c7 j f hj hf, bb 238 _ (by omega), bb 231 _ (by omega)]
/-! which letter it is -/
def cnd (M : Mm) (X i kk f0 h f : Nat) : Bool := if mA M (X + 2) f = 0 ∨ mA M (X + 2) f = 1 then al (okb M X i kk f0 f 0) h else true
section Knd
variable {M : Mm} {X p n w i kk r h f0 : Nat}
theorem kf_c (C : SC M X p n w i kk r h f0) (hk : kk < 2 ^ 30) {M' : Mm} (V : VC X kk M M') (a : Int32) : f_X9_kindFor M' (aSq X i) (X + 1) (X + 6) a = some (if a = 0 ∧ mA M (X + 235) i = 0 ∧ ¬ h = 0 then (if al (cnd M X i kk f0 h) p then 2 else 1) else 0) := by
  obtain ⟨hi, hw, hP, hD, hQ⟩ := id C
  obtain ⟨q1, q2, q3, q4, q5, q6, q7, q8, q9, q10, q11, q12, q13, q14, q15⟩ := id hQ
  have p8 := hP.1
  have hS := V.1
  have d10 : ¬ (1 : Int32) = 0 := by decide
  have s1 : aSq X i < X + 212 := by unfold aSq; omega
  have s2 : ∀ nu, 901 ≤ nu → mI M' nu (aSq X i) = mI M nu (aSq X i) := fun nu hn => V.2.1 _ _ s1 (by omega)
  have p1 : mI M' 604 (X + 1) = nI p := by rw [V.2.1 _ _ (by omega) (by omega)]; exact hP.2.1
  have main : ∀ d f fu, f + d = p → d < fu → al (cnd M X i kk f0 h) f = true → f_X9_kindFor_L23 M' fu (aSq X i) (X + 1) (X + 6) (nI f) = some (if al (cnd M X i kk f0 h) p then 2 else 1) := by
    intro d
    induction d with
    | zero =>
      intro f fu e1 e2 ha
      obtain ⟨fu, rfl⟩ : ∃ k, fu = k + 1 := ⟨fu - 1, by omega⟩
      have ef : f = p := by omega
      subst ef
      rw [f_X9_kindFor_L23, gi_1 hS, ob_eq, p1, if_pos (nI_le (Nat.le_refl _) (by omega)), if_pos ha]
    | succ d ih =>
      intro f fu e1 e2 ha
      obtain ⟨fu, rfl⟩ : ∃ k, fu = k + 1 := ⟨fu - 1, by omega⟩
      have hf : f < p := by omega
      have f8 : f < 8 := by omega
      have nx : cnd M X i kk f0 h f = true → al (cnd M X i kk f0 h) (f + 1) = true := by
        intro c
        show (al (cnd M X i kk f0 h) f && cnd M X i kk f0 h f) = true
        rw [ha, c]; rfl
      have no : ¬ cnd M X i kk f0 h f = true → ¬ al (cnd M X i kk f0 h) p = true := fun c q => c (al_iff.mp q f hf)
      rw [f_X9_kindFor_L23, gi_1 hS, ob_eq, p1, if_neg (nI_ge hf (by omega)), r_1_600 hS, ob_eq, ai_2 hS f8, ob_eq, ob_eq, ai_2 hS f8, ob_eq, V.2.2.1 _ (by omega)]
      unfold f_X9_kindFor_J53 f_X9_kindFor_J58 f_X9_kindFor_J78
      rw [igA C hk V hf, ob_eq, nI_1]
      unfold cnd at nx no
      by_cases c0 : mA M (X + 2) f = 0
      · rw [if_pos c0, if_neg d10]
        rw [if_pos (Or.inl c0)] at nx no
        by_cases ca : al (okb M X i kk f0 f 0) h = true
        · rw [if_pos ca, if_neg d10]
          exact ih (f + 1) fu (by omega) (by omega) (nx ca)
        · rw [if_neg ca, if_pos rfl]
          exact congrArg some (if_neg (no ca)).symm
      · rw [if_neg c0]
        by_cases c1 : mA M (X + 2) f = 1
        · rw [if_pos c1, if_neg d10]
          rw [if_pos (Or.inr c1)] at nx no
          by_cases ca : al (okb M X i kk f0 f 0) h = true
          · rw [if_pos ca, if_neg d10]
            exact ih (f + 1) fu (by omega) (by omega) (nx ca)
          · rw [if_neg ca, if_pos rfl]
            exact congrArg some (if_neg (no ca)).symm
        · rw [if_neg c1, if_pos rfl]
          rw [if_neg (fun q => q.elim c0 c1)] at nx
          exact ih (f + 1) fu (by omega) (by omega) (nx rfl)
  unfold f_X9_kindFor
  rw [if_pos (k_aSq hS hi), gi_aSq hS hi, ob_eq, s2 _ (by decide), q7, gi_aSq hS hi, ob_eq, s2 _ (by decide), q10]
  by_cases a0 : a = 0
  · rw [if_pos a0]
    by_cases o0 : mA M (X + 235) i = 0
    · rw [if_pos o0]
      by_cases h0 : h = 0
      · rw [if_pos (by rw [h0]; rfl), if_neg (fun q => q.2.2 h0)]
      · rw [if_neg (nI_ne0 (by omega) (by omega)), if_pos ⟨a0, o0, h0⟩]
        exact main p 0 1000 (by omega) (by omega) rfl
    · rw [if_neg o0, if_neg (fun q => o0 q.2.1)]
  · rw [if_neg a0, if_neg (fun q => a0 q.1)]
theorem kf_r (C : SC M X p n w i kk r h f0) {R : Mm} (V : RV X M R) (h36 : mA R (X + 236) i = nI h) (h35 : mA R (X + 235) i = mA M (X + 235) i) (a : Int32) : f_X11_send_L72 1000 R (X + 226) (nI i) a (nI kk) 1 0 = if a = 0 ∧ mA M (X + 235) i = 0 ∧ ¬ h = 0 then (if al (cnd M X i kk f0 h) p then ob2 (f_X11_sendShort R (X + 226) (nI i) (nI kk)) (fun M7 v8 => f_X11_send_J184 M7 (X + 226) (nI i) (nI kk) v8) else ob2 (f_X11_sendPart R (X + 226) (nI i) (nI kk)) (fun M7 v8 => f_X11_send_J184 M7 (X + 226) (nI i) (nI kk) v8)) else ob2 (f_X11_sendWhole R (X + 226) (nI i) (nI kk)) (fun M7 v8 => f_X11_send_J184 M7 (X + 226) (nI i) (nI kk) v8) := by
  obtain ⟨hi, hw, hP, hD, hQ⟩ := id C
  have h8 : h ≤ 8 := by have := hQ.2.2.2.2.2.2.2.2.1; omega
  have p8 := hP.1
  have hS := V.1
  have d10 : ¬ (1 : Int32) = 0 := by decide
  exact loop_run (fun fu f => f_X11_send_L72 fu R (X + 226) (nI i) a (nI kk) (if al (cnd M X i kk f0 h) f then 1 else 0) (nI f)) p _
    (fun f fu hf => by
      show f_X11_send_L72 (fu + 1) R (X + 226) (nI i) a (nI kk) (if al (cnd M X i kk f0 h) f then 1 else 0) (nI f) = f_X11_send_L72 fu R (X + 226) (nI i) a (nI kk) (if (al (cnd M X i kk f0 h) f && cnd M X i kk f0 h f) then 1 else 0) (nI (f + 1))
      rw [f_X11_send_L72, gi_226 hS, ob_eq, V.2.2.2, hP.2.2.1, if_neg (nI_ge hf (by omega)), r_226_1102 hS, ob_eq, kd_r V hP hf, ob_eq, ga_r C V hf h36, ob_eq]
      unfold f_X11_send_J112 f_X11_send_J108 f_X11_send_J113
      rw [nI_1]
      cases al (cnd M X i kk f0 h) f with
      | false => rfl
      | true =>
        rw [if_neg (show ¬ (if true = true then (1 : Int32) else 0) = 0 from d10), Bool.true_and]
        obtain ⟨-, -, ⟨kd, k4, ek⟩, -⟩ := hP.2.2.2 f hf
        unfold cnd
        by_cases c : kd ≤ 1
        · have cc : mA M (X + 2) f = 0 ∨ mA M (X + 2) f = 1 := by
            rcases (show kd = 0 ∨ kd = 1 by omega) with rfl | rfl
            · exact Or.inl ek
            · exact Or.inr ek
          rw [if_neg (by rw [ek]; exact nI_nlt (a := 1) c (by decide)), if_pos cc]
          cases al (okb M X i kk f0 f 0) h with
          | false => rfl
          | true => rfl
        · have cc : ¬ (mA M (X + 2) f = 0 ∨ mA M (X + 2) f = 1) := by
            rw [ek]
            intro q
            rcases q with q | q
            · exact absurd ((nI_eq (b := 0) (by omega) (by decide)).mp q) (by omega)
            · exact absurd ((nI_eq (b := 1) (by omega) (by decide)).mp q) (by omega)
          rw [if_pos (by rw [ek]; exact nI_lt (a := 1) (by omega) (by omega)), if_neg cc]
          rfl)
    (fun fu => by
      show f_X11_send_L72 (fu + 1) R (X + 226) (nI i) a (nI kk) (if al (cnd M X i kk f0 h) p then 1 else 0) (nI p) = _
      rw [f_X11_send_L72, gi_226 hS, ob_eq, V.2.2.2, hP.2.2.1, if_pos (nI_le (Nat.le_refl _) (by omega)), r_226_1112 hS, ob_eq, az_235 hS hi, ob_eq, h35, r_226_1113 hS, ob_eq, ai_236 hS hi, ob_eq, h36]
      unfold f_X11_send_J143 f_X11_send_J148
      rw [if_neg d10, if_pos rfl]
      by_cases a0 : a = 0
      · rw [if_pos a0]
        by_cases o0 : mA M (X + 235) i = 0
        · rw [if_pos o0]
          by_cases h0 : h = 0
          · rw [if_pos (by rw [h0]; rfl), if_neg (fun q => q.2.2 h0)]
          · rw [if_neg (nI_ne0 (by omega) (by omega)), if_pos (show a = 0 ∧ mA M (X + 235) i = 0 ∧ ¬ h = 0 from ⟨a0, o0, h0⟩)]
            cases al (cnd M X i kk f0 h) p with
            | false => rfl
            | true => rfl
        · rw [if_neg o0, if_neg (fun q => o0 q.2.1)]
      · rw [if_neg a0, if_neg (fun q => a0 q.1)]) 1000 (by omega)
end Knd
