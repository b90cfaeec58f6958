/-! open and opened: the same outcome. -/
def FC (Q E : Mm) (X p i u k rd : Nat) (hg : Int32) (Hh : Nat → Int64) : Prop := (∀ f, f < p → mB E (X + 224) f = Hh f) ∧ mI E 301 (X + 223) = nI u ∧ (∀ f, f < p → mA E (X + 225) f = mA Q (X + 218) f) ∧ mI E 202 (X + 222) = nI i ∧ mI E 203 (X + 222) = hg ∧ mI E 204 (X + 222) = mI Q 204 (X + 222) + 1 ∧ (∀ f, f < p → mB E (aCv X i) f = Hh f) ∧ mI E 301 (aCh X i) = nI u ∧ mI E 103 (aCx X i) = 1 ∧ mI E 102 (aCx X i) = nI rd ∧ ∀ f, f < p → mA E (aCs X i) f = if k = 0 then mA Q (X + 217) f else mA Q (aCs X i) f
def FR (Q R R2 : Mm) (X p i u k rd : Nat) (hg : Int32) (Hh : Nat → Int64) : Prop := (∀ f, f < p → mB R2 (X + 257) f = Hh f ∧ mA R2 (X + 258) f = mA Q (X + 218) f ∧ mB R2 (X + 256) (8 * i + f) = Hh f ∧ mA R2 (X + 255) (8 * i + f) = if k = 0 then mA Q (X + 217) f else mA Q (aCs X i) f) ∧ mA R2 (X + 254) i = nI rd ∧ mA R2 (X + 252) i = 1 ∧ mA R2 (X + 253) i = nI u ∧ mI R2 1136 (X + 226) = nI i ∧ mI R2 1137 (X + 226) = nI u ∧ mI R2 1138 (X + 226) = hg ∧ mI R2 1135 (X + 226) = mI R 1135 (X + 226) + 1
/-- what the reference must bring along -/
def RC (Q R : Mm) (X p i w k rd s : Nat) : Prop := RV X Q R ∧ (∀ f, f < p → mA R (X + 260) f = mA Q (X + 218) f) ∧ (∀ f, f < p → mA Q (X + 218) f = 1 → mA R (X + 261) f = mA Q (X + 219) f ∧ ∃ ln, ln ≤ wdx Q X f ∧ mA Q (X + 219) f = nI ln) ∧ (∀ f, f < p → (mA Q (X + 218) f = 1 ∨ mA Q (X + 218) f = 2) → mB R (X + 262) f = mB Q (X + 220) f) ∧ (k = 0 → ∀ f, f < p → mA R (X + 263) f = mA Q (X + 217) f ∧ mA Q (X + 218) f = 2) ∧ mI R 1150 (X + 226) = nI rd ∧ mI R 1107 (X + 226) = nI w ∧ (¬ k = 0 → mJ R 1151 (X + 226) = lN s) ∧ (∀ o, (o = 252 ∨ o = 253 ∨ o = 254) → mA R (X + o) i = mA Q (X + o) i) ∧ ∀ f, f < 8 → mA R (X + 255) (8 * i + f) = mA Q (X + 255) (8 * i + f) ∧ mB R (X + 256) (8 * i + f) = mB Q (X + 256) (8 * i + f)
def opd (R : Mm) (X : Nat) (k i u : Int32) : Option (Mm × Int32) := if k ≤ 0 then (f_X11_opened_J43 R (X + 226) k i u) else ((gR R 12 1130 (X + 226)).bind fun v6 => (aZ R v6 i).bind fun v7 => if v7 = 0 then (some (R, 3)) else ((gR R 12 1132 (X + 226)).bind fun v9 => (aI R v9 i).bind fun v10 => (gI R 12 1150 (X + 226)).bind fun v11 => if v10 = v11 then (f_X11_opened_J43 R (X + 226) k i u) else (some (R, 3))))
theorem both {Q : Mm} {X p n i u k rd w s : Nat} (S : St Q X) (hi : i < 8) (hP : IP Q X p) (f5 : mI Q 5 (X + 214) = nI k) (k2 : k ≤ 2) (f6 : mI Q 6 (X + 214) = nI i) (fu : mI Q 301 (X + 215) = nI u) (u16 : u < 65536) (f7 : mI Q 7 (X + 214) = nI rd) (r16 : rd < 16) (hW : mI Q 1000 X = nI w) (w8 : w ≤ 8) (hx : IX Q X p n i) (f8 : ¬ k = 0 → mI Q 8 (X + 214) = nI s) (s256 : s < 256) :
    ∃ E v, f_X10_open Q X (aCx X i) = some (E, v) ∧ (∀ N n, Ag X N n (TIg X i) (TAg X i) (TBg X i) Q E) ∧ mS E = mS Q ∧ ∃ hg Hh, (v = 0 ∧ FC Q E X p i u k rd hg Hh ∨ ¬ v = 0 ∧ ∀ N n, Ag X N n T0 T0 T0 Q E) ∧ ∀ R, RC Q R X p i w k rd s → ∃ R2, opd R X (nI k) (nI i) (nI u) = some (R2, v) ∧ (∀ N n, Ag X N n (TIh X) (TAh X i) (TBh X i) R R2) ∧ mS R2 = mS R ∧ (v = 0 → FR Q R R2 X p i u k rd hg Hh) ∧ (¬ v = 0 → ∀ N n, Ag X N n T0 T0 T0 R R2) := by
  have d10 : ¬ (1 : Int32) = 0 := by decide
  have p8 := hP.1
  have k0 : (nI k = 0) ↔ k = 0 := ⟨fun q => (nI_eq (b := 0) (by omega) (by decide)).mp q, fun q => by rw [q]; rfl⟩
  have kl : (nI k ≤ 0) ↔ k = 0 := by
    constructor
    · intro q
      have := (nI_leI (a := k) (b := 0) (by omega) (by decide)).mp q
      omega
    · intro q; rw [q]; decide
  obtain ⟨x1, x2⟩ := hx
  -- refusals
  have ref : ∀ v : Int32, ¬ v = 0 → f_X10_open Q X (aCx X i) = some (Q, v) → (∀ R, RC Q R X p i w k rd s → opd R X (nI k) (nI i) (nI u) = some (R, v)) → ∃ E v, f_X10_open Q X (aCx X i) = some (E, v) ∧ (∀ N n, Ag X N n (TIg X i) (TAg X i) (TBg X i) Q E) ∧ mS E = mS Q ∧ ∃ hg Hh, (v = 0 ∧ FC Q E X p i u k rd hg Hh ∨ ¬ v = 0 ∧ ∀ N n, Ag X N n T0 T0 T0 Q E) ∧ ∀ R, RC Q R X p i w k rd s → ∃ R2, opd R X (nI k) (nI i) (nI u) = some (R2, v) ∧ (∀ N n, Ag X N n (TIh X) (TAh X i) (TBh X i) R R2) ∧ mS R2 = mS R ∧ (v = 0 → FR Q R R2 X p i u k rd hg Hh) ∧ (¬ v = 0 → ∀ N n, Ag X N n T0 T0 T0 R R2) :=
    fun v hv e1 e2 => ⟨Q, v, e1, fun _ _ => Ag.rf, rfl, 0, fun _ => 0, Or.inr ⟨hv, fun _ _ => Ag.rf⟩, fun R hR => ⟨R, e2 R hR, fun _ _ => Ag.rf, rfl, fun q => absurd q hv, fun _ _ _ => Ag.rf⟩⟩
  have oc : f_X10_open Q X (aCx X i) = if k = 0 then f_X10_open_J43 Q X (aCx X i) 1 else (if mA Q (X + 252) i = 0 then some (Q, 3) else if mI Q 102 (aCx X i) = nI rd then f_X10_open_J43 Q X (aCx X i) 0 else some (Q, 3)) := by
    unfold f_X10_open f_X10_open_J15
    rw [if_pos (k_0 S), r_0_1008 S, ob_eq, gi_214 S, ob_eq, f5, if_neg d10, if_pos rfl, gi_aCx S hi, ob_eq, x1, gi_aCx S hi, ob_eq, ob_eq, gi_214 S, ob_eq, f7]
    by_cases c : k = 0
    · rw [if_pos (k0.mpr c), if_pos c]
    · rw [if_neg (fun q => c (k0.mp q)), if_neg c]
  have oR : ∀ R, RC Q R X p i w k rd s → opd R X (nI k) (nI i) (nI u) = if k = 0 then f_X11_opened_J43 R (X + 226) (nI k) (nI i) (nI u) else (if mA Q (X + 252) i = 0 then some (R, 3) else if mA Q (X + 254) i = nI rd then f_X11_opened_J43 R (X + 226) (nI k) (nI i) (nI u) else some (R, 3)) := by
    intro R hR
    obtain ⟨V, -, -, -, -, t1, -, -, t3, -⟩ := hR
    unfold opd
    rw [r_226_1130 V.1, ob_eq, az_252 V.1 hi, ob_eq, t3 252 (by omega), r_226_1132 V.1, ob_eq, ai_254 V.1 hi, ob_eq, t3 254 (by omega), gi_226 V.1, ob_eq, t1]
    by_cases c : k = 0
    · rw [if_pos (kl.mpr c), if_pos c]
    · rw [if_neg (fun q => c (kl.mp q)), if_neg c]
  -- the header's own part
  have tak : (mA Q (X + 252) i = 0 → k = 0) → (mA Q (X + 252) i = 1 → ∃ cu, cu < 65536 ∧ mI Q 301 (aCh X i) = nI cu ∧ mA Q (X + 253) i = nI cu) → (mA Q (X + 252) i = 1 → ∀ f, f < p → mA Q (X + 255) (8 * i + f) = mA Q (aCs X i) f ∧ mB Q (X + 256) (8 * i + f) = mB Q (aCv X i) f) → (¬ k = 0 → mI Q 102 (aCx X i) = nI rd) → f_X10_open Q X (aCx X i) = f_X10_open_J89 Q X (aCx X i) (if k = 0 then 1 else 0) → (∀ R, RC Q R X p i w k rd s → opd R X (nI k) (nI i) (nI u) = f_X11_opened_J87 R (X + 226) (nI k) (nI i) (nI u)) → ∃ E v, f_X10_open Q X (aCx X i) = some (E, v) ∧ (∀ N n, Ag X N n (TIg X i) (TAg X i) (TBg X i) Q E) ∧ mS E = mS Q ∧ ∃ hg Hh, (v = 0 ∧ FC Q E X p i u k rd hg Hh ∨ ¬ v = 0 ∧ ∀ N n, Ag X N n T0 T0 T0 Q E) ∧ ∀ R, RC Q R X p i w k rd s → ∃ R2, opd R X (nI k) (nI i) (nI u) = some (R2, v) ∧ (∀ N n, Ag X N n (TIh X) (TAh X i) (TBh X i) R R2) ∧ mS R2 = mS R ∧ (v = 0 → FR Q R R2 X p i u k rd hg Hh) ∧ (¬ v = 0 → ∀ N n, Ag X N n T0 T0 T0 R R2) := by
    intro h0 hcu hcx h102 e1 e2
    have hh1 : ¬ k = 0 → mA Q (X + 252) i = 1 := by
      intro q
      rcases x2 with x2 | ⟨x2, -⟩
      · exact absurd (h0 x2) q
      · exact x2
    generalize hH : hro Q X i u (mB Q (X + 216)) p = Hc
    have rb := rb_c (i := i) S hi hP fu
    rw [hH] at rb
    generalize hG : sB Q (X + 216) Hc = G at rb
    have SG : St G X := by rw [← hG]; exact St_sB S
    have gI' : mI G = mI Q := by rw [← hG, mI_sB]
    have gA : mA G = mA Q := by rw [← hG, mA_sB]
    have gS : mS G = mS Q := by rw [← hG, mS_sB]
    have g216 : mB G (X + 216) = Hc := by rw [← hG, mB_sB, if_pos rfl]
    have AG0 : ∀ N n, Ag X N n T0 T0 T0 Q G := fun N n => by rw [← hG]; exact Ag_sB (Or.inl (by unfold ScB; omega))
    have sc : f_X6_sumOf G (X + 1) (X + 215) = some (nI (sm8 Hc p)) := by
      rw [sum_c (v := Hc) SG (by rw [gI']; exact hP.2.1) p8 (r_215_300 SG) (fun f hf => by rw [aj_216 SG (by omega), g216])]
    -- the reference's header is the same
    have opR : ∀ R, RC Q R X p i w k rd s → ∃ R4, f_X11_open R (X + 226) (nI i) (nI u) = some R4 ∧ (∀ N n, Ag X N n T0 T0 T0 R R4) ∧ St R4 X ∧ mS R4 = mS R ∧ mI R4 = mI R ∧ mA R4 = mA R ∧ mJ R4 = mJ R ∧ ∀ f, f < p → mB R4 (X + 264) f = Hc f := by
      intro R hR
      obtain ⟨V, t0, t1, t2, tk, t5, t6, t7, t3, t4⟩ := id hR
      have hc : CXT Q R X p i ∨ ∀ f, f < p → mA Q (X + 218) f = 2 := by
        by_cases c : k = 0
        · exact Or.inr (fun f hf => (tk c f hf).2)
        · obtain ⟨cu, -, y1, y2⟩ := hcu (hh1 c)
          refine Or.inl ⟨by rw [t3 253 (by omega), y2, y1], fun f hf => ?_⟩
          rw [(t4 f (by omega)).1, (t4 f (by omega)).2]
          exact hcx (hh1 c) f hf
      have e := op_r (u := u) V hi hP t0 t1 t2 hc
      refine ⟨_, e, fun N n => Ag_sB (Or.inl (by unfold ScB; omega)), St_sB V.1, mS_sB _ _ _, mI_sB _ _ _, mA_sB _ _ _, mJ_sB _ _ _, fun f hf => ?_⟩
      rw [mB_sB, if_pos rfl, ← hH]
      exact hro_ag hP p (Nat.le_refl _) f hf
    -- unlike
    by_cases c4 : ¬ k = 0 ∧ ¬ sm8 Hc p = s
    · refine ⟨G, 4, ?_, fun N n => (AG0 N n).of0, gS, 0, fun _ => 0, Or.inr ⟨by decide, AG0⟩, fun R hR => ?_⟩
      · rw [e1]
        unfold f_X10_open_J89
        have nsl := sm8_lt (v := Hc) p
        rw [r_0_1008 S, ob_eq, r_0_1001 S, ob_eq, rb, ob_eq, if_neg c4.1, if_pos rfl, r_0_1001 SG, ob_eq, r_0_1008 SG, ob_eq, r_214_0 SG, ob_eq, sc, ob_eq, ob_eq, gi_214 SG, ob_eq, gI', f8 c4.1, if_neg (fun q => c4.2 ((nI_eq (by omega) (by omega)).mp q))]
      · obtain ⟨R4, o1, o2, o3, o4, o5, o6, o7, o8⟩ := opR R hR
        obtain ⟨V, t0, t1, t2, tk, t5, t6, t7, t3, t4⟩ := id hR
        have un := un_r (R := R4) (p := p) (s := s) o3 (by rw [o5, V.2.2.2]; exact hP.2.2.1) p8 s256 (by rw [o7]; exact t7 c4.1)
        rw [sm8_ag (v' := Hc) o8, if_neg c4.2] at un
        refine ⟨R4, ?_, fun N n => (o2 N n).of0, o4, fun q => absurd q (by decide), fun _ => o2⟩
        rw [e2 R hR]
        unfold f_X11_opened_J87
        rw [o1, ob_eq, if_neg (fun q => c4.1 (kl.mp q)), un, ob_eq, if_neg d10]
    -- taken
    have hgx : ∃ hg : Int32, hg = if k = 0 then -1 else mI Q 301 (aCh X i) := ⟨_, rfl⟩
    obtain ⟨hg, ehg⟩ := hgx
    obtain ⟨E1, a1, a2, a3, a4, a5, a6, a7, a8, a9, a10, a11, a12⟩ := ac2 (i := i) (hg := hg) SG (by rw [gI']; exact fu) (by rw [gI']; exact f6)
    have SE1 : St E1 X := St_Ag (N := X + 270) (Nat.le_refl _) (a2 _ 0 i) SG
    obtain ⟨E2, b1, b2, b3, b4, b5, b6, b7, b8, b9, b10, b11⟩ := ac1 (i := i) (k := k) (u := u) SE1 hi (by rw [a10 _ _ (by omega) (by omega), gI']; exact fu) (by rw [a10 _ _ (by omega) (by omega), gI']; exact f5) (by omega)
    have e216 : ∀ f, mB E1 (X + 216) f = Hc f := fun f => by rw [a12 _ (by omega), g216]
    have jj : f_X10_open_J131 G X (aCx X i) (if k = 0 then 1 else 0) = some (E2, 0) := by
      have e154 : f_X10_open_J154 G X (aCx X i) (X + 222) (X + 214) hg = some (E2, 0) := by
        unfold f_X10_open_J154
        rw [a1, ob_eq, r_0_1008 SE1, ob_eq, b1, ob_eq]
      unfold f_X10_open_J131
      rw [r_0_1009 SG, ob_eq, r_0_1008 SG, ob_eq, r_aCx_100 SG hi, ob_eq, gi_aCh SG hi, ob_eq, gI']
      by_cases c : k = 0
      · rw [if_pos c] at ehg
        rw [if_pos c, if_neg d10, ← ehg, e154]
      · rw [if_neg c] at ehg
        rw [if_neg c, if_pos rfl, ← ehg, e154]
    have c4' : ¬ k = 0 → sm8 Hc p = s := fun q => Classical.byContradiction (fun x => c4 ⟨q, x⟩)
    have l23 : ¬ X + 223 = aCh X i ∧ ¬ X + 223 = aCx X i ∧ ¬ X + 222 = aCh X i ∧ ¬ X + 222 = aCx X i ∧ ¬ X + 214 = X + 223 ∧ ¬ X + 224 = aCv X i ∧ ¬ X + 225 = aCs X i ∧ ¬ aCx X i = X + 223 ∧ ¬ aCs X i = X + 225 ∧ ¬ X + 217 = X + 225 := by unfold aCh aCx aCv aCs; omega
    obtain ⟨m1, m2, m3, m4, m5, m6, m7, m8', m9', m10⟩ := l23
    have fc : FC Q E2 X p i u k rd hg Hc := by
      refine ⟨fun f hf => ?_, ?_, fun f hf => ?_, ?_, ?_, ?_, fun f hf => ?_, b5, b6, ?_, fun f hf => ?_⟩
      · rw [b11 _ m6, a4 f (by omega), g216]
      · rw [b9 _ _ m1 m2]; exact a5
      · rw [b10 _ m7, a6 f (by omega), gA]
      · rw [b9 _ _ m3 m4]; exact a7
      · rw [b9 _ _ m3 m4]; exact a8
      · rw [b9 _ _ m3 m4, a9, gI']
      · rw [b4 f (by omega), e216]
      · by_cases c : k = 0
        · rw [(b7 c).1, a10 _ _ (by omega) m5, gI']; exact f7
        · rw [(b8 c).1, a10 _ _ (by omega) m8', gI']; exact h102 c
      · by_cases c : k = 0
        · rw [if_pos c, (b7 c).2 f (by omega), a11 _ m10, gA]
        · rw [if_neg c, (b8 c).2, a11 _ m9', gA]
    refine ⟨E2, 0, ?_, fun N n => ((AG0 N n).of0.tr' (a2 N n i)).tr' (b2 N n), by rw [b3, a3, gS], hg, Hc, Or.inl ⟨rfl, fc⟩, fun R hR => ?_⟩
    · rw [e1]
      unfold f_X10_open_J89
      rw [r_0_1008 S, ob_eq, r_0_1001 S, ob_eq, rb, ob_eq, jj]
      by_cases c : k = 0
      · rw [if_pos c, if_neg d10]
      · rw [if_neg c, if_pos rfl, r_0_1001 SG, ob_eq, r_0_1008 SG, ob_eq, r_214_0 SG, ob_eq, sc, ob_eq, ob_eq, gi_214 SG, ob_eq, gI', f8 c, c4' c, if_pos rfl]
    · obtain ⟨R4, o1, o2, o3, o4, o5, o6, o7, o8⟩ := opR R hR
      obtain ⟨V, t0, t1, t2, tk, t5, t6, t7, t3, t4⟩ := id hR
      generalize hR5 : sU (sU (sI (sI (sI (sI R4 1138 (X + 226) hg) 1136 (X + 226) (nI i)) 1137 (X + 226) (nI u)) 1135 (X + 226) (mI R 1135 (X + 226) + 1)) (X + 252) i 1) (X + 253) i (nI u) = R5
      have S5 : St R5 X := by rw [← hR5]; exact St_sU (St_sU (St_sI (St_sI (St_sI (St_sI o3)))))
      have i5 : ∀ nu, ¬ (1135 ≤ nu ∧ nu ≤ 1138) → mI R5 nu = mI R nu := by
        intro nu q
        rw [← hR5, mI_sU, mI_sU]; funext y
        rw [mI_sI, if_neg (by omega), mI_sI, if_neg (by omega), mI_sI, if_neg (by omega), mI_sI, if_neg (by omega), o5]
      have a5' : ∀ a, ¬ a = X + 252 → ¬ a = X + 253 → mA R5 a = mA R a := by
        intro a q1 q2
        rw [← hR5, mA_sUx q2, mA_sUx q1, mA_sI, mA_sI, mA_sI, mA_sI, o6]
      have b5' : mB R5 = mB R4 := by rw [← hR5, mB_sU, mB_sU, mB_sI, mB_sI, mB_sI, mB_sI]
      have s5 : mS R5 = mS R := by rw [← hR5, mS_sU, mS_sU, mS_sI, mS_sI, mS_sI, mS_sI, o4]
      have A5 : ∀ N n, Ag X N n (TIh X) (TAh X i) (TBh X i) R R5 := by
        intro N n
        rw [← hR5]
        exact ((((((o2 N n).of0.cI (Or.inr (Or.inl ⟨by decide, by decide, rfl⟩))).cI (Or.inr (Or.inl ⟨by decide, by decide, rfl⟩))).cI (Or.inr (Or.inl ⟨by decide, by decide, rfl⟩))).cI (Or.inr (Or.inl ⟨by decide, by decide, rfl⟩))).cU (Or.inr (Or.inr (Or.inl ⟨Or.inl rfl, rfl⟩)))).cU (Or.inr (Or.inr (Or.inl ⟨Or.inr (Or.inl rfl), rfl⟩)))
      obtain ⟨R6, c1, c2, c3, c5, c6, c7, c8⟩ := rl164 (k := k) hi S5 (by rw [i5 1101 (by omega), V.2.2.2]; exact hP.2.2.1) p8 (by omega)
      have j122 : f_X11_opened_J122 R4 (X + 226) (nI k) (nI i) (nI u) (X + 226) hg = some (R6, 0) := by
        have Sa : St (sI R4 1138 (X + 226) hg) X := St_sI o3
        have Sb : St (sI (sI R4 1138 (X + 226) hg) 1136 (X + 226) (nI i)) X := St_sI Sa
        have Sc : St (sI (sI (sI R4 1138 (X + 226) hg) 1136 (X + 226) (nI i)) 1137 (X + 226) (nI u)) X := St_sI Sb
        have Sd : St (sI (sI (sI (sI R4 1138 (X + 226) hg) 1136 (X + 226) (nI i)) 1137 (X + 226) (nI u)) 1135 (X + 226) (mI R 1135 (X + 226) + 1)) X := St_sI Sc
        unfold f_X11_opened_J122
        rw [pi_226 o3, ob_eq, pi_226 Sa, ob_eq, pi_226 Sb, ob_eq, gi_226 Sc, ob_eq, mI_sI, if_neg (by decide), mI_sI, if_neg (by decide), mI_sI, if_neg (by decide), o5, pi_226 Sc, ob_eq, r_226_1130 Sd, ob_eq, wz_252 Sd hi, ob_eq, vz1, sU_def, r_226_1131 (St_sU Sd), ob_eq, wi_253 (St_sU Sd) hi, ob_eq, sU_def, hR5, c1]
      refine ⟨R6, ?_, fun N n => (A5 N n).tr' (c2 N n), by rw [c3, s5], fun _ => ?_, fun q => absurd rfl q⟩
      · rw [e2 R hR]
        unfold f_X11_opened_J87
        rw [o1, ob_eq]
        have j107 : f_X11_opened_J107 R4 (X + 226) (nI k) (nI i) (nI u) = some (R6, 0) := by
          unfold f_X11_opened_J107
          by_cases c : k = 0
          · rw [if_pos c] at ehg
            rw [if_pos (kl.mpr c), ← ehg, j122]
          · rw [if_neg c] at ehg
            obtain ⟨cu, -, y1, y2⟩ := hcu (hh1 c)
            rw [if_neg (fun q => c (kl.mp q)), r_226_1131 o3, ob_eq, ai_253 o3 hi, ob_eq, o6, t3 253 (by omega), y2, ← y1, ← ehg, j122]
        rw [j107]
        by_cases c : k = 0
        · rw [if_pos (kl.mpr c)]
        · have un := un_r (R := R4) (p := p) (s := s) o3 (by rw [o5, V.2.2.2]; exact hP.2.2.1) p8 s256 (by rw [o7]; exact t7 c)
          rw [sm8_ag (v' := Hc) o8, if_pos (c4' c)] at un
          rw [if_neg (fun q => c (kl.mp q)), un, ob_eq, if_pos rfl]
      · refine ⟨fun f hf => ?_, ?_, ?_, ?_, ?_, ?_, ?_, ?_⟩
        · obtain ⟨y1, y2, y3, y4⟩ := c6 f hf
          refine ⟨by rw [y1, b5', o8 f hf], by rw [y2, a5' _ (by omega) (by omega), t0 f hf], by rw [y3, b5', o8 f hf], ?_⟩
          rw [y4]
          by_cases c : k = 0
          · rw [if_pos c, if_pos c, a5' _ (by omega) (by omega)]; exact (tk c f hf).1
          · rw [if_neg c, if_neg c, a5' _ (by omega) (by omega), (t4 f (by omega)).1]; exact (hcx (hh1 c) f hf).1
        · rw [c7, i5 1150 (by omega)]; exact t5
        · rw [(c8 i).2.1, ← hR5, mA_sUx (by omega), mA_sUi]
        · rw [(c8 i).2.2, ← hR5, mA_sUi]
        · rw [c5, ← hR5, mI_sU, mI_sU, mI_sI, if_neg (by decide), mI_sI, if_neg (by decide), mI_sI, if_pos rfl, if_pos rfl]
        · rw [c5, ← hR5, mI_sU, mI_sU, mI_sI, if_neg (by decide), mI_sI, if_pos rfl, if_pos rfl]
        · rw [c5, ← hR5, mI_sU, mI_sU, mI_sI, if_neg (by decide), mI_sI, if_neg (by decide), mI_sI, if_neg (by decide), mI_sI, if_pos rfl, if_pos rfl]
        · rw [c5, ← hR5, mI_sU, mI_sU, mI_sI, if_pos rfl, if_pos rfl]
  have j43 : ∀ x : Int32, f_X10_open_J43 Q X (aCx X i) x = if mA Q (X + 252) i = 0 then f_X10_open_J75 Q X (aCx X i) x (nI u - mI Q 301 (aCh X i)) else (if 0 < nI u - mI Q 301 (aCh X i) then f_X10_open_J75 Q X (aCx X i) x (nI u - mI Q 301 (aCh X i)) else some (Q, 1)) := by
    intro x
    unfold f_X10_open_J43
    rw [r_0_1008 S, ob_eq, r_214_0 S, ob_eq, gi_215 S, ob_eq, fu, r_aCx_100 S hi, ob_eq, gi_aCh S hi, ob_eq, gi_aCx S hi, ob_eq, x1]
  have j75 : ∀ y : Int32, f_X10_open_J75 Q X (aCx X i) (if k = 0 then 1 else 0) y = if k = 0 then f_X10_open_J89 Q X (aCx X i) (if k = 0 then 1 else 0) else (if y ≤ nI w then f_X10_open_J89 Q X (aCx X i) (if k = 0 then 1 else 0) else some (Q, 2)) := by
    intro y
    unfold f_X10_open_J75
    rw [gi_0 S, ob_eq, hW]
    by_cases c : k = 0
    · rw [if_pos c, if_neg d10, if_pos c]
    · rw [if_neg c, if_pos rfl, if_neg c]
  have r43 : ∀ R, RC Q R X p i w k rd s → f_X11_opened_J43 R (X + 226) (nI k) (nI i) (nI u) = if mA Q (X + 252) i = 0 then f_X11_opened_J65 R (X + 226) (nI k) (nI i) (nI u) else (if mA Q (X + 253) i < nI u then f_X11_opened_J65 R (X + 226) (nI k) (nI i) (nI u) else some (R, 1)) := by
    intro R hR
    obtain ⟨V, -, -, -, -, -, -, -, t3, -⟩ := hR
    unfold f_X11_opened_J43
    rw [r_226_1130 V.1, ob_eq, az_252 V.1 hi, ob_eq, t3 252 (by omega), r_226_1131 V.1, ob_eq, ai_253 V.1 hi, ob_eq, t3 253 (by omega)]
  have r65 : ∀ R, RC Q R X p i w k rd s → f_X11_opened_J65 R (X + 226) (nI k) (nI i) (nI u) = if k = 0 then f_X11_opened_J87 R (X + 226) (nI k) (nI i) (nI u) else (if nI u ≤ mA Q (X + 253) i + nI w then f_X11_opened_J87 R (X + 226) (nI k) (nI i) (nI u) else some (R, 2)) := by
    intro R hR
    obtain ⟨V, -, -, -, -, -, t6, -, t3, -⟩ := hR
    unfold f_X11_opened_J65
    rw [r_226_1131 V.1, ob_eq, ai_253 V.1 hi, ob_eq, t3 253 (by omega), gi_226 V.1, ob_eq, t6]
    by_cases c : k = 0
    · rw [if_pos (kl.mpr c), if_pos c]
    · rw [if_neg (fun q => c (kl.mp q)), if_neg c]
  rcases x2 with x2 | ⟨x2, -, ⟨cu, cu1, cu2, cu3⟩, ⟨ro, ro1, ro2, ro3⟩, x5⟩
  · by_cases c : k = 0
    · refine tak (fun _ => c) (fun q => absurd (x2.symm.trans q) (by decide)) (fun q => absurd (x2.symm.trans q) (by decide)) (fun q => absurd c q) ?_ (fun R hR => ?_)
      · have e := j75 (nI u - mI Q 301 (aCh X i))
        rw [if_pos c, if_pos c] at e
        rw [oc, if_pos c, j43, if_pos x2, e, if_pos c]
      · rw [oR R hR, if_pos c, r43 R hR, if_pos x2, r65 R hR, if_pos c]
    · exact ref 3 (by decide) (by rw [oc, if_neg c, if_pos x2]) (fun R hR => by rw [oR R hR, if_neg c, if_pos x2])
  · have n0 : ¬ mA Q (X + 252) i = 0 := by rw [x2]; exact d10
    by_cases c3 : ¬ k = 0 ∧ ¬ ro = rd
    · have ne : ¬ nI ro = nI rd := fun q => c3.2 ((nI_eq (by omega) (by omega)).mp q)
      exact ref 3 (by decide) (by rw [oc, if_neg c3.1, if_neg n0, ro2, if_neg ne]) (fun R hR => by rw [oR R hR, if_neg c3.1, if_neg n0, ro3, if_neg ne])
    have c3' : ¬ k = 0 → ro = rd := fun q => Classical.byContradiction (fun x => c3 ⟨q, x⟩)
    have oc' : f_X10_open Q X (aCx X i) = f_X10_open_J43 Q X (aCx X i) (if k = 0 then 1 else 0) := by
      rw [oc]
      by_cases c : k = 0
      · rw [if_pos c, if_pos c]
      · rw [if_neg c, if_neg n0, ro2, c3' c, if_pos rfl, if_neg c]
    have oR' : ∀ R, RC Q R X p i w k rd s → opd R X (nI k) (nI i) (nI u) = f_X11_opened_J43 R (X + 226) (nI k) (nI i) (nI u) := by
      intro R hR
      rw [oR R hR]
      by_cases c : k = 0
      · rw [if_pos c]
      · rw [if_neg c, if_neg n0, ro3, c3' c, if_pos rfl]
    have ts : (nI u - nI cu).toInt = (u : Int) - cu := pk_sub_toInt (by omega) (by omega)
    have l0 : (0 < nI u - nI cu) ↔ cu < u := by
      rw [Int32.lt_iff_toInt_lt, ts]
      have : (0 : Int32).toInt = 0 := by decide
      rw [this]; omega
    have lw : (nI u - nI cu ≤ nI w) ↔ u ≤ cu + w := by
      rw [Int32.le_iff_toInt_le, ts, nI_toInt (by omega)]; omega
    by_cases c1 : cu < u
    rotate_left
    · refine ref 1 (by decide) (by rw [oc', j43, if_neg n0, cu2, if_neg (fun q => c1 (l0.mp q))]) (fun R hR => ?_)
      rw [oR' R hR, r43 R hR, if_neg n0, cu3, if_neg (nI_nlt (by omega) (by omega))]
    have oc2 : f_X10_open Q X (aCx X i) = f_X10_open_J75 Q X (aCx X i) (if k = 0 then 1 else 0) (nI u - nI cu) := by
      rw [oc', j43, if_neg n0, cu2, if_pos (l0.mpr c1)]
    have oR2 : ∀ R, RC Q R X p i w k rd s → opd R X (nI k) (nI i) (nI u) = f_X11_opened_J65 R (X + 226) (nI k) (nI i) (nI u) := by
      intro R hR
      rw [oR' R hR, r43 R hR, if_neg n0, cu3, if_pos (nI_lt c1 (by omega))]
    by_cases c2 : ¬ k = 0 ∧ ¬ u ≤ cu + w
    · refine ref 2 (by decide) ?_ (fun R hR => ?_)
      · rw [oc2, j75, if_neg c2.1, if_neg (fun q => c2.2 (lw.mp q))]
      · rw [oR2 R hR, r65 R hR, if_neg c2.1, cu3, nI_add, if_neg (nI_ge (by omega) (by omega))]
    have c2' : ¬ k = 0 → u ≤ cu + w := fun q => Classical.byContradiction (fun x => c2 ⟨q, x⟩)
    refine tak (fun q => absurd q n0) (fun _ => ⟨cu, cu1, cu2, cu3⟩) (fun _ => x5) (fun q => by rw [ro2, c3' q]) ?_ (fun R hR => ?_)
    · rw [oc2, j75]
      by_cases c : k = 0
      · rw [if_pos c]
      · rw [if_neg c, if_pos (lw.mpr (c2' c))]
    · rw [oR2 R hR, r65 R hR]
      by_cases c : k = 0
      · rw [if_pos c]
      · rw [if_neg c, cu3, nI_add, if_pos (nI_le (c2' c) (by omega))]
