/-! All fields: the class's loop, the reference's loop. -/
def pos (M : Mm) (X len : Nat) (r : Nat → Nat) (k a0 : Nat) : Nat → Option Nat
  | 0 => some a0
  | f + 1 => (pos M X len r k a0 f).bind fun a => (flS M X len r k f a).map Prod.fst
def dtc (M : Mm) (X len : Nat) (r : Nat → Nat) (k a0 : Nat) (g7 g8 g9 : Nat → Int32) (h0 : Nat → Int64) (f : Nat) : Prop := ∃ a a' wy ln tv sd, pos M X len r k a0 f = some a ∧ flS M X len r k f a = some (a', wy, ln, tv, sd) ∧ g8 f = nI wy ∧ g9 f = nI ln ∧ h0 f = lN tv ∧ (k = 0 → g7 f = nI sd)
def dtr (M : Mm) (X len : Nat) (r : Nat → Nat) (k a0 : Nat) (g0 g1 g3 : Nat → Int32) (h2 : Nat → Int64) (f : Nat) : Prop := ∃ a a' wy ln tv sd, pos M X len r k a0 f = some a ∧ flS M X len r k f a = some (a', wy, ln, tv, sd) ∧ g0 f = nI wy ∧ (wy = 1 → g1 f = nI ln) ∧ (¬ wy = 0 → h2 f = lN tv) ∧ (k = 0 → g3 f = nI sd)
theorem pos_s {M : Mm} {X len k a0 f a : Nat} {r : Nat → Nat} {q : Fr} (h : pos M X len r k a0 f = some a) (h2 : flS M X len r k f a = some q) : pos M X len r k a0 (f + 1) = some q.1 := by
  show (pos M X len r k a0 f).bind _ = _
  rw [h]
  show (flS M X len r k f a).map Prod.fst = _
  rw [h2]; rfl
theorem pos_n {M : Mm} {X len k a0 f a : Nat} {r : Nat → Nat} (h : pos M X len r k a0 f = some a) (h2 : flS M X len r k f a = none) : pos M X len r k a0 (f + 1) = none := by
  show (pos M X len r k a0 f).bind _ = _
  rw [h]
  show (flS M X len r k f a).map Prod.fst = _
  rw [h2]; rfl
theorem pos_nn {M : Mm} {X len k a0 f : Nat} {r : Nat → Nat} (h : pos M X len r k a0 f = none) : pos M X len r k a0 (f + 1) = none := by
  show (pos M X len r k a0 f).bind _ = _
  rw [h]; rfl
theorem cl_loop {M : Mm} {X B len k p a0 : Nat} {g7 g8 g9 : Nat → Int32} {h0 : Nat → Int64} {r : Nat → Nat} (hS : St M X) (hP : IP M X p) (hB : BR M X B len r) (hk : mI M 5 (X + 214) = nI k) (k2 : k ≤ 2) {br0 : Int32} (hb : (br0 = 0 ∧ a0 ≤ 8 * len) ) :
    ∃ a br k7 k8 k9 k0, f_X0_parse_L79 1000 (cs M X a0 br0 g7 g8 g9 h0) (X + 214) (X + 1) 0 = f_X0_parse_J99 (cs M X a br k7 k8 k9 k0) (X + 214) ∧ ((br = 0 ∧ a ≤ 8 * len ∧ pos M X len r k a0 p = some a ∧ ∀ f, f < p → dtc M X len r k a0 k7 k8 k9 k0 f) ∨ (br = 1 ∧ pos M X len r k a0 p = none)) := by
  have p8 := hP.1
  have main : ∀ d f fu a br c7 c8 c9 c0, f + d = p → d < fu → ((br = 0 ∧ a ≤ 8 * len ∧ pos M X len r k a0 f = some a ∧ ∀ f', f' < f → dtc M X len r k a0 c7 c8 c9 c0 f') ∨ (br = 1 ∧ pos M X len r k a0 f = none)) → ∃ a' br' k7 k8 k9 k0, f_X0_parse_L79 fu (cs M X a br c7 c8 c9 c0) (X + 214) (X + 1) (nI f) = f_X0_parse_J99 (cs M X a' br' k7 k8 k9 k0) (X + 214) ∧ ((br' = 0 ∧ a' ≤ 8 * len ∧ pos M X len r k a0 p = some a' ∧ ∀ f, f < p → dtc M X len r k a0 k7 k8 k9 k0 f) ∨ (br' = 1 ∧ pos M X len r k a0 p = none)) := by
    intro d
    induction d with
    | zero =>
      intro f fu a br c7 c8 c9 c0 e1 e2 hI
      obtain ⟨fu, rfl⟩ : ∃ k, fu = k + 1 := ⟨fu - 1, by omega⟩
      have ef : f = p := by omega
      subst ef
      refine ⟨a, br, c7, c8, c9, c0, ?_, hI⟩
      rw [f_X0_parse_L79, gi_1 (St_cs hS), ob_eq, cs_I (by decide) (by decide), hP.2.1, if_pos (nI_le (Nat.le_refl _) (by omega))]
    | succ d ih =>
      intro f fu a br c7 c8 c9 c0 e1 e2 hI
      obtain ⟨fu, rfl⟩ : ∃ k, fu = k + 1 := ⟨fu - 1, by omega⟩
      have hf : f < p := by omega
      rcases hI with ⟨rfl, i1, i2, i3⟩ | ⟨rfl, i2⟩
      · obtain ⟨t1, t2⟩ := fld_c (g7 := c7) (g8 := c8) (g9 := c9) (h0 := c0) hS hP hB hf hk k2 i1
        cases hq : flS M X len r k f a with
        | some q =>
          obtain ⟨a', wy, ln, tv, sd⟩ := q
          obtain ⟨l1, k7, s1, s2, s3⟩ := t1 a' wy ln tv sd hq
          obtain ⟨x1, x2, x3, x4, x5, x6, y1, y2⟩ := ih (f + 1) fu a' 0 k7 (va_up c8 f (nI wy)) (va_up c9 f (nI ln)) (va_up c0 f (lN tv)) (by omega) (by omega) (Or.inl ⟨rfl, l1, pos_s i2 hq, fun f' hf' => by
            by_cases e : f' = f
            · subst e
              exact ⟨a, a', wy, ln, tv, sd, i2, hq, vau_eq, vau_eq, vau_eq, s3⟩
            · obtain ⟨b1, b2, b3, b4, b5, b6, z1, z2, z3, z4, z5, z6⟩ := i3 f' (by omega)
              exact ⟨b1, b2, b3, b4, b5, b6, z1, z2, (vau_ne e).trans z3, (vau_ne e).trans z4, (vau_ne e).trans z5, fun q => (s2 f' e).trans (z6 q)⟩⟩)
          refine ⟨x1, x2, x3, x4, x5, x6, ?_, y2⟩
          rw [f_X0_parse_L79, gi_1 (St_cs hS), ob_eq, cs_I (by decide) (by decide), hP.2.1, if_neg (nI_ge hf (by omega)), s1, ob_eq, nI_1]
          exact y1
        | none =>
          obtain ⟨a', k7, k8, k9, k0, s1⟩ := t2 hq
          obtain ⟨x1, x2, x3, x4, x5, x6, y1, y2⟩ := ih (f + 1) fu a' 1 k7 k8 k9 k0 (by omega) (by omega) (Or.inr ⟨rfl, pos_n i2 hq⟩)
          refine ⟨x1, x2, x3, x4, x5, x6, ?_, y2⟩
          rw [f_X0_parse_L79, gi_1 (St_cs hS), ob_eq, cs_I (by decide) (by decide), hP.2.1, if_neg (nI_ge hf (by omega)), s1, ob_eq, nI_1]
          exact y1
      · obtain ⟨a', k7, k8, k9, k0, s1⟩ := fld_b (a := a) (g7 := c7) (g8 := c8) (g9 := c9) (h0 := c0) hS hP hB hf hk k2
        obtain ⟨x1, x2, x3, x4, x5, x6, y1, y2⟩ := ih (f + 1) fu a' 1 k7 k8 k9 k0 (by omega) (by omega) (Or.inr ⟨rfl, pos_nn i2⟩)
        refine ⟨x1, x2, x3, x4, x5, x6, ?_, y2⟩
        rw [f_X0_parse_L79, gi_1 (St_cs hS), ob_eq, cs_I (by decide) (by decide), hP.2.1, if_neg (nI_ge hf (by omega)), s1, ob_eq, nI_1]
        exact y1
  obtain ⟨rfl, hb⟩ := hb
  exact main p 0 1000 a0 0 g7 g8 g9 h0 (by omega) (by omega) (Or.inl ⟨rfl, hb, rfl, fun f' hf' => absurd hf' (Nat.not_lt_zero _)⟩)
section RFld
variable {M R : Mm} {X a n l len k f p : Nat} {br : Int32} {g0 g1 g3 : Nat → Int32} {h2 : Nat → Int64} {r : Nat → Nat} {K : Mm → Nat → Int32 → Int32 → Int32 → Option Mm}
theorem RV_rs (V : RV X M R) : RV X M (rs R X a br g0 g1 g3 h2) := by
  refine ⟨St_rs V.1, fun o ho => ?_, fun o ho => ?_, ?_⟩
  · rw [rs_A (by omega) (by omega) (by omega)]; exact V.2.1 o ho
  · rw [rs_B (by omega)]; exact V.2.2.1 o ho
  · rw [rs_I (by decide) (by decide)]; exact V.2.2.2
/-- behind the value: the stride of a whole letter -/
theorem j219 (V : RV X M R) (hP : IP M X p) (hB : RB R X l len r) (hf : f < p) (k2 : k ≤ 2) : f_X11_takeFields_J219 K (rs R X a br g0 g1 g3 h2) (X + 226) (nI l) (nI k) (nI f) = if k = 0 ∧ rub M X f = true then ob2 (f_X11_take (rs R X a br g0 g1 g3 h2) (X + 226) (nI l) 8) (fun M7 v8 => (wI M7 (X + 263) (nI f) v8.toInt32).bind fun M9 => K M9 (X + 226) (nI l) (nI k) (nI (f + 1))) else K (rs R X a br g0 g1 g3 h2) (X + 226) (nI l) (nI k) (nI (f + 1)) := by
  have V1 : RV X M (rs R X a br g0 g1 g3 h2) := RV_rs V
  unfold f_X11_takeFields_J219 f_X11_takeFields_J245
  rw [ru_r V1 hP hf, ob_eq, r_226_1149 V1.1, ob_eq, nI_1]
  have k0 : (nI k = 0) ↔ k = 0 := ⟨fun q => (nI_eq (b := 0) (by omega) (by decide)).mp q, fun q => by rw [q]; rfl⟩
  by_cases c : k = 0
  · rw [if_pos (k0.mpr c)]
    by_cases q : rub M X f = true
    · rw [if_pos q, if_neg (by decide), if_pos ⟨c, q⟩]
    · rw [if_neg q, if_pos rfl, if_neg (fun x => q x.2)]
  · rw [if_neg (fun q => c (k0.mp q)), if_neg (fun x => c x.1)]
theorem j167_2 (V : RV X M R) (hP : IP M X p) (hB : RB R X l len r) (hf : f < p) (g2 : g0 f = 2) : f_X11_takeFields_J167 K (rs R X a 0 g0 g1 g3 h2) (X + 226) (nI l) (nI k) (nI f) = ob2 (f_X11_take (rs R X a 0 g0 g1 g3 h2) (X + 226) (nI l) (nI (wdx M X f))) (fun M2 v3 => (wJ M2 (X + 262) (nI f) v3).bind fun M4 => f_X11_takeFields_J219 K M4 (X + 226) (nI l) (nI k) (nI f)) := by
  have V1 : RV X M (rs R X a 0 g0 g1 g3 h2) := RV_rs V
  have p8 := hP.1
  unfold f_X11_takeFields_J167 f_X11_takeFields_J215
  rw [r_226_1146 V1.1, ob_eq, ai_260 V1.1 (by omega), ob_eq, rs_a0, g2, if_neg (by decide), gi_226 V1.1, ob_eq, rs_i45, if_pos rfl, r_226_1148 V1.1, ob_eq, ob_eq, ai_260 V1.1 (by omega), ob_eq, rs_a0, g2, if_pos rfl, r_226_1103 V1.1, ob_eq, wd_r V1 hP hf, ob_eq]
theorem j167_1 (V : RV X M R) (hP : IP M X p) (hB : RB R X l len r) (hf : f < p) (g2 : g0 f = 1) {x : Int32} (gx : g1 f = x) : f_X11_takeFields_J167 K (rs R X a 0 g0 g1 g3 h2) (X + 226) (nI l) (nI k) (nI f) = ob2 (f_X11_take (rs R X a 0 g0 g1 g3 h2) (X + 226) (nI l) x) (fun M2 v3 => (wJ M2 (X + 262) (nI f) v3).bind fun M4 => f_X11_takeFields_J219 K M4 (X + 226) (nI l) (nI k) (nI f)) := by
  have V1 : RV X M (rs R X a 0 g0 g1 g3 h2) := RV_rs V
  have p8 := hP.1
  unfold f_X11_takeFields_J167 f_X11_takeFields_J215
  rw [r_226_1146 V1.1, ob_eq, ai_260 V1.1 (by omega), ob_eq, rs_a0, g2, if_neg (by decide), gi_226 V1.1, ob_eq, rs_i45, if_pos rfl, r_226_1148 V1.1, ob_eq, ob_eq, ai_260 V1.1 (by omega), ob_eq, rs_a0, g2, if_neg (by decide), r_226_1147 V1.1, ob_eq, ai_261 V1.1 (by omega), ob_eq, rs_a1, gx]
theorem j167_b (V : RV X M R) (hP : IP M X p) (hf : f < p) (g2 : g0 f = 0 ∨ ((g0 f = 1 ∨ g0 f = 2) ∧ br = 1)) : f_X11_takeFields_J167 K (rs R X a br g0 g1 g3 h2) (X + 226) (nI l) (nI k) (nI f) = f_X11_takeFields_J219 K (rs R X a br g0 g1 g3 h2) (X + 226) (nI l) (nI k) (nI f) := by
  have V1 : RV X M (rs R X a br g0 g1 g3 h2) := RV_rs V
  have p8 := hP.1
  unfold f_X11_takeFields_J167
  rw [r_226_1146 V1.1, ob_eq, ai_260 V1.1 (by omega), ob_eq, rs_a0]
  rcases g2 with g2 | ⟨g2, rfl⟩
  · rw [g2, if_pos (by decide)]
  · rw [gi_226 V1.1, ob_eq, rs_i45, if_neg (show ¬ (1 : Int32) = 0 by decide), ite_self]
/-- the loop's step, up to its choice -/
theorem l13 (V : RV X M R) (hP : IP M X p) (hf : f < p) (k2 : k ≤ 2) {fu : Nat} : f_X11_takeFields_L13 (fu + 1) (rs R X a 0 g0 g1 g3 h2) (X + 226) (nI l) (nI k) (nI f) = if k = 0 ∨ frb M X f = true then f_X11_takeFields_J77 (f_X11_takeFields_L13 fu) (rs R X a 0 g0 (va_up g1 f 0) (va_up g3 f 1) h2) (X + 226) (nI l) (nI k) (nI f) 1 else if k = 1 then ob2 (f_X11_take (rs R X a 0 g0 (va_up g1 f 0) (va_up g3 f 1) h2) (X + 226) (nI l) 1) (fun M15 v16 => if (lg_cmp v16 1) = 0 then f_X11_takeFields_J77 (f_X11_takeFields_L13 fu) M15 (X + 226) (nI l) (nI k) (nI f) 1 else f_X11_takeFields_J77 (f_X11_takeFields_L13 fu) M15 (X + 226) (nI l) (nI k) (nI f) 0) else f_X11_takeFields_J77 (f_X11_takeFields_L13 fu) (rs R X a 0 g0 (va_up g1 f 0) (va_up g3 f 1) h2) (X + 226) (nI l) (nI k) (nI f) 0 := by
  have V1 : RV X M (rs R X a 0 g0 g1 g3 h2) := RV_rs V
  have V2 : RV X M (rs R X a 0 g0 g1 (va_up g3 f 1) h2) := RV_rs V
  have V3 : RV X M (rs R X a 0 g0 (va_up g1 f 0) (va_up g3 f 1) h2) := RV_rs V
  have p8 := hP.1
  have k0 : (nI k = 0) ↔ k = 0 := ⟨fun q => (nI_eq (b := 0) (by omega) (by decide)).mp q, fun q => by rw [q]; rfl⟩
  have k1 : (nI k = 1) ↔ k = 1 := ⟨fun q => (nI_eq (b := 1) (by omega) (by decide)).mp q, fun q => by rw [q]; rfl⟩
  rw [f_X11_takeFields_L13, gi_226 V1.1, ob_eq, V1.2.2.2, hP.2.2.1, if_neg (nI_ge hf (by omega)), gi_226 V1.1, ob_eq, rs_i45, if_pos rfl, r_226_1149 V1.1, ob_eq, wi_263 V1.1 (by omega), ob_eq, rs_a3, rs_3, r_226_1147 V2.1, ob_eq, wi_261 V2.1 (by omega), ob_eq, rs_a1, rs_1, r_226_1102 V3.1, ob_eq, kd_r V3 hP hf, ob_eq]
  unfold f_X11_takeFields_J72 f_X11_takeFields_J76
  by_cases c0 : k = 0
  · rw [if_pos (k0.mpr c0), if_pos (Or.inl c0)]
  rw [if_neg (fun q => c0 (k0.mp q))]
  by_cases c4 : mA M (X + 2) f = 4
  · have e4 : frb M X f = true := decide_eq_true c4
    rw [if_pos c4, if_pos (Or.inr e4)]
  have e4 : ¬ frb M X f = true := fun q => c4 (of_decide_eq_true q)
  rw [if_neg c4, if_neg (show ¬ (k = 0 ∨ frb M X f = true) from fun q => q.elim c0 e4)]
  by_cases c1 : k = 1
  · rw [if_pos (k1.mpr c1), if_pos c1]
  · rw [if_neg (fun q => c1 (k1.mp q)), if_neg c1]
theorem j77_1 (V : RV X M R) (hP : IP M X p) (hf : f < p) : f_X11_takeFields_J77 K (rs R X a br g0 g1 g3 h2) (X + 226) (nI l) (nI k) (nI f) 1 = f_X11_takeFields_J167 K (rs R X a br (va_up g0 f 2) g1 g3 h2) (X + 226) (nI l) (nI k) (nI f) := by
  have V1 : RV X M (rs R X a br g0 g1 g3 h2) := RV_rs V
  have V2 : RV X M (rs R X a br (va_up g0 f 2) g1 g3 h2) := RV_rs V
  have p8 := hP.1
  unfold f_X11_takeFields_J77 f_X11_takeFields_J111
  rw [r_226_1146 V1.1, ob_eq, if_neg (by decide), wi_260 V1.1 (by omega), ob_eq, rs_a0, rs_0, r_226_1146 V2.1, ob_eq, ai_260 V2.1 (by omega), ob_eq, rs_a0, vau_eq, if_neg (by decide)]
theorem j77_0 (V : RV X M R) (hP : IP M X p) (hf : f < p) (hc : ¬ (k = 2 ∧ rub M X f = true)) (k2 : k ≤ 2) : f_X11_takeFields_J77 K (rs R X a br g0 g1 g3 h2) (X + 226) (nI l) (nI k) (nI f) 0 = f_X11_takeFields_J167 K (rs R X a br (va_up g0 f 0) g1 g3 h2) (X + 226) (nI l) (nI k) (nI f) := by
  have V1 : RV X M (rs R X a br g0 g1 g3 h2) := RV_rs V
  have V2 : RV X M (rs R X a br (va_up g0 f 0) g1 g3 h2) := RV_rs V
  have p8 := hP.1
  have kk2 : (nI k = 2) ↔ k = 2 := ⟨fun q => (nI_eq (b := 2) (by omega) (by decide)).mp q, fun q => by rw [q]; rfl⟩
  have e : f_X11_takeFields_J111 K (rs R X a br g0 g1 g3 h2) (X + 226) (nI l) (nI k) (nI f) (X + 260) (nI f) 0 = f_X11_takeFields_J167 K (rs R X a br (va_up g0 f 0) g1 g3 h2) (X + 226) (nI l) (nI k) (nI f) := by
    unfold f_X11_takeFields_J111
    rw [wi_260 V1.1 (by omega), ob_eq, rs_a0, rs_0, r_226_1146 V2.1, ob_eq, ai_260 V2.1 (by omega), ob_eq, rs_a0, vau_eq, if_neg (by decide)]
  unfold f_X11_takeFields_J77 f_X11_takeFields_J110
  rw [r_226_1146 V1.1, ob_eq, if_pos rfl, ru_r V1 hP hf, ob_eq, e]
  by_cases c : k = 2
  · rw [if_pos (kk2.mpr c), if_neg (fun q => hc ⟨c, q⟩), if_pos rfl]
  · rw [if_neg (fun q => c (kk2.mp q))]
theorem j77_s (V : RV X M R) (hP : IP M X p) (hf : f < p) (hq : rub M X f = true) : f_X11_takeFields_J77 K (rs R X a br g0 g1 g3 h2) (X + 226) (nI l) (nI 2) (nI f) 0 = ob2 (f_X11_take (rs R X a br (va_up g0 f 1) g1 g3 h2) (X + 226) (nI l) 6) (fun M7 v8 => (wI M7 (X + 261) (nI f) v8.toInt32).bind fun M9 => (gI M9 12 1145 (X + 226)).bind fun v10 => if v10 = 0 then ((gR M9 12 1147 (X + 226)).bind fun v12 => (aI M9 v12 (nI f)).bind fun v13 => (gR M9 12 1103 (X + 226)).bind fun v14 => (aI M9 v14 (nI f)).bind fun v15 => if v13 ≤ v15 then (f_X11_takeFields_J164 K M9 (X + 226) (nI l) (nI 2) (nI f) (X + 226) 0) else (f_X11_takeFields_J159 K M9 (X + 226) (nI l) (nI 2) (nI f) (X + 226))) else (f_X11_takeFields_J159 K M9 (X + 226) (nI l) (nI 2) (nI f) (X + 226))) := by
  have V1 : RV X M (rs R X a br g0 g1 g3 h2) := RV_rs V
  have V2 : RV X M (rs R X a br (va_up g0 f 1) g1 g3 h2) := RV_rs V
  have p8 := hP.1
  unfold f_X11_takeFields_J77 f_X11_takeFields_J111
  rw [r_226_1146 V1.1, ob_eq, if_pos rfl, if_pos (show nI 2 = 2 from rfl), ru_r V1 hP hf, ob_eq, if_pos hq, if_neg (by decide), wi_260 V1.1 (by omega), ob_eq, rs_a0, rs_0, r_226_1146 V2.1, ob_eq, ai_260 V2.1 (by omega), ob_eq, rs_a0, vau_eq, if_pos rfl, r_226_1147 V2.1, ob_eq]
end RFld
