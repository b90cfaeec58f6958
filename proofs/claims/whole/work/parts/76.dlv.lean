/-! deliver: the reference's taking of a letter; what n bits find; the invariant behind a delivery. -/
def PR (M R' : Mm) (X len p : Nat) (r : Nat → Nat) : Prop := mI R' 1150 (X + 226) = nI (ror r) ∧ ∃ a, pos M X len r (kdr r) 26 p = some a ∧ (kdr r = 1 ∨ kdr r = 2 → mJ R' 1151 (X + 226) = lN (rdv r a 8)) ∧ ∀ f, f < p → dtr M X len r (kdr r) 26 (mA R' (X + 260)) (mA R' (X + 261)) (mA R' (X + 263)) (mB R' (X + 262)) f
theorem RB_sI {R : Mm} {X l len num x : Nat} {v : Int32} {r : Nat → Nat} (h : RB R X l len r) (hn : ¬ num = 1144) : RB (sI R num x v) X l len r := ⟨h.1, h.2.1, by rw [mI_sI, if_neg (fun q => hn q.symm)]; exact h.2.2.1, h.2.2.2⟩
theorem RB_sJ {R : Mm} {X l len num x : Nat} {v : Int64} {r : Nat → Nat} (h : RB R X l len r) : RB (sJ R num x v) X l len r := h
theorem RV_sI {M R : Mm} {X num x : Nat} {v : Int32} (V : RV X M R) (hn : ¬ num = 1101) : RV X M (sI R num x v) := ⟨St_sI V.1, V.2.1, V.2.2.1, by rw [mI_sI, if_neg (fun q => hn q.symm)]; exact V.2.2.2⟩
theorem Ag.crs {X N n a : Nat} {br : Int32} {g0 g1 g3 : Nat → Int32} {h2 : Nat → Int64} {M M1 : Mm} (h : Ag X N n T0 T0 T0 M M1) : Ag X N n T0 T0 T0 M (rs M1 X a br g0 g1 g3 h2) := h.tr' Ag_rs
theorem Ag.c0J {X N n num b : Nat} {v : Int64} {M M1 : Mm} (h : Ag X N n T0 T0 T0 M M1) : Ag X N n T0 T0 T0 M (sJ M1 num b v) := h.cJ
theorem Ag.c1 {X N n num b : Nat} {v : Int32} {M M1 : Mm} (h : Ag X N n T0 T0 T0 M M1) (hn : num = 1100 ∨ (1142 ≤ num ∧ num ≤ 1150)) : Ag X N n T0 T0 T0 M (sI M1 num b v) := h.cI (Or.inl (by unfold ScI; omega))
theorem tF_r {M R : Mm} {X l len p : Nat} {r : Nat → Nat} {g0 g1 g3 : Nat → Int32} {h2 : Nat → Int64} (V : RV X M R) (hP : IP M X p) (hB : RB R X l len r) (l3 : 3 ≤ len) (c2 : kdr r ≤ 2) :
    ∃ R' b, f_X11_takeFields (rs R X 22 0 g0 g1 g3 h2) (X + 226) (nI l) (nI (kdr r)) = some R' ∧ (∀ N n, Ag X N n T0 T0 T0 R R') ∧ mS R' = mS R ∧ mI R' 1145 (X + 226) = b ∧ ((b = 0 ∧ goodP M X len p r ∧ PR M R' X len p r) ∨ (b = 1 ∧ ¬ goodP M X len p r)) := by
  have d10 : ¬ (1 : Int32) = 0 := by decide
  have p8 := hP.1
  unfold f_X11_takeFields
  rw [if_pos (k_226 (St_rs V.1))]
  have go : ∀ (v : Int32) (x : Nat) (b0 : Int32), x ≤ 8 * len → (b0 = 0 → v = nI (ror r)) → ((b0 = 0 ∧ x = 26 ∧ 26 ≤ 8 * len) ∨ (b0 = 1 ∧ ¬ 26 ≤ 8 * len)) → ∃ R' b, f_X11_takeFields_L13 1000 (rs (sI R 1150 (X + 226) v) X x b0 g0 g1 g3 h2) (X + 226) (nI l) (nI (kdr r)) 0 = some R' ∧ (∀ N n, Ag X N n T0 T0 T0 R R') ∧ mS R' = mS R ∧ mI R' 1145 (X + 226) = b ∧ ((b = 0 ∧ goodP M X len p r ∧ PR M R' X len p r) ∨ (b = 1 ∧ ¬ goodP M X len p r)) := by
    intro v x b0 hx hv hb
    have V7 : RV X M (sI R 1150 (X + 226) v) := RV_sI V (by decide)
    have B7 : RB (sI R 1150 (X + 226) v) X l len r := RB_sI hB (by decide)
    have A7 : ∀ N n, Ag X N n T0 T0 T0 R (sI R 1150 (X + 226) v) := fun N n => Ag.c1 Ag.rf (by decide)
    have s7 : mS (sI R 1150 (X + 226) v) = mS R := mS_sI _ _ _ _
    have i7 : mI (sI R 1150 (X + 226) v) 1150 (X + 226) = v := by rw [mI_sI, if_pos rfl, if_pos rfl]
    generalize sI R 1150 (X + 226) v = R7 at V7 B7 A7 s7 i7
    rcases hb with ⟨rfl, rfl, c26⟩ | ⟨rfl, c26⟩
    · obtain ⟨a, br, k0, k1, k3, kk2, e1, la, e2⟩ := rf_loop (a0 := 26) (g0 := g0) (g1 := g1) (g3 := g3) (h2 := h2) V7 hP B7 c2 c26
      have hbr : br = 0 ∨ br = 1 := by
        rcases e2 with ⟨x1, -⟩ | ⟨x1, -⟩
        · exact Or.inl x1
        · exact Or.inr x1
      obtain ⟨j, a', b, l1, e3, e4⟩ := j251 (a := a) (br := br) (g0 := k0) (g1 := k1) (g3 := k3) (h2 := kk2) V7.1 B7 c2 la hbr
      refine ⟨_, b, e1.trans e3, fun N n => Ag.crs (Ag.c0J (A7 N n)), by rw [rs_S, mS_sJ]; exact s7, rs_i45, ?_⟩
      rcases e4 with ⟨e4, e5, e6, e7⟩ | ⟨e4, e5⟩
      · rcases e2 with ⟨x1, x3, x4⟩ | ⟨x1, x2⟩
        · refine Or.inl ⟨e4, ⟨by omega, fun _ => ⟨c26, a, x3, e6⟩, fun q => absurd q (by omega)⟩, ?_, a, x3, fun q => ?_, fun f hf => ?_⟩
          · rw [rs_I (by decide) (by decide), mI_sJ, i7]; exact hv rfl
          · show mJ (sJ R7 1151 (X + 226) j) 1151 (X + 226) = _
            rw [mJ_sJ, if_pos rfl, if_pos rfl]; exact e7 q
          · rw [rs_a0, rs_a1, rs_a3, rs_b2]; exact x4 f hf
        · rw [x1] at e5; exact absurd e5 d10
      · refine Or.inr ⟨e4, fun q => ?_⟩
        obtain ⟨-, y1, z1, z2⟩ := q.2.1 c2
        rcases e2 with ⟨x1, x3, x4⟩ | ⟨x1, x2⟩
        · have : a = y1 := Option.some.inj (x3.symm.trans z1)
          subst this
          exact e5 ⟨x1, z2⟩
        · rw [x2] at z1; cases z1
    · obtain ⟨j, a', b, l1, e3, e4⟩ := j251 (a := x) (br := 1) (g0 := g0) (g1 := g1) (g3 := g3) (h2 := h2) V7.1 B7 c2 hx (Or.inr rfl)
      have e1 : f_X11_takeFields_L13 1000 (rs R7 X x 1 g0 g1 g3 h2) (X + 226) (nI l) (nI (kdr r)) 0 = f_X11_takeFields_J251 (rs R7 X x 1 g0 g1 g3 h2) (X + 226) (nI l) (nI (kdr r)) := by
        have : ∀ fu, f_X11_takeFields_L13 (fu + 1) (rs R7 X x 1 g0 g1 g3 h2) (X + 226) (nI l) (nI (kdr r)) 0 = f_X11_takeFields_J251 (rs R7 X x 1 g0 g1 g3 h2) (X + 226) (nI l) (nI (kdr r)) := by
          intro fu
          have V1 : RV X M (rs R7 X x 1 g0 g1 g3 h2) := RV_rs V7
          rw [f_X11_takeFields_L13, gi_226 V1.1, ob_eq, gi_226 V1.1, ob_eq, rs_i45, if_neg d10, ite_self]
        exact this 999
      refine ⟨_, b, e1.trans e3, fun N n => Ag.crs (Ag.c0J (A7 N n)), by rw [rs_S, mS_sJ]; exact s7, rs_i45, ?_⟩
      rcases e4 with ⟨e4, e5, -⟩ | ⟨e4, e5⟩
      · exact absurd e5 d10
      · exact Or.inr ⟨e4, fun q => c26 (q.2.1 c2).1⟩
  by_cases c26 : 26 ≤ 8 * len
  · have r4 : f_X11_take (rs R X 22 0 g0 g1 g3 h2) (X + 226) (nI l) 4 = some (rs R X 26 0 g0 g1 g3 h2, lN (ror r)) := tk_ok (a := 22) (n := 4) V.1 hB (by decide) (by omega)
    rw [r4, ob2_eq, lN_i, pi_226 (St_rs V.1), ob_eq, rs_sI (by decide) (by decide)]
    exact go _ 26 0 c26 (fun _ => rfl) (Or.inl ⟨rfl, rfl, c26⟩)
  · have r4 : f_X11_take (rs R X 22 0 g0 g1 g3 h2) (X + 226) (nI l) 4 = some (rs R X (8 * len) 1 g0 g1 g3 h2, 0) := tk_no (a := 22) (n := 4) V.1 hB (by decide) (by omega) (by omega)
    rw [r4, ob2_eq, pi_226 (St_rs V.1), ob_eq, rs_sI (by decide) (by decide)]
    exact go _ (8 * len) 1 (Nat.le_refl _) (fun q => absurd q d10) (Or.inr ⟨rfl, c26⟩)
/-- found by the reference is found by the class -/
theorem fo_f {M : Mm} {X f wd n : Nat} {g v : Int64} (hS : St M X) (hf : f < 8) (hw : mA M (X + 228) f = nI wd) (h2 : n ≤ wd) (h3 : wd ≤ 32) : f_X11_found M (X + 226) (nI f) g (nI n) v = some (fo (nI wd) g (nI n) v) := by
  unfold f_X11_found fo
  rw [if_pos (k_226 hS)]
  by_cases c : n = 0
  · subst c
    rw [if_pos (show nI 0 = 0 from rfl), if_neg (by decide)]
  · rw [if_neg (nI_ne0 (by omega) (by omega)), if_pos (show (1 : Int32) ≤ nI n from nI_le (a := 1) (by omega) (by omega)), ct_in hS hf, ob_eq, ct_in hS hf, ob_eq, hw]
    show some ((((g - hf2 (nI n)) &&& mk (nI wd)) + ((v - ((g - hf2 (nI n)) &&& mk (nI wd))) &&& mk (nI n))) &&& mk (nI wd)) = some (((g - hf2 (nI n)) + ((v - (g - hf2 (nI n))) &&& mk (nI n))) &&& mk (nI wd))
    generalize g - hf2 (nI n) = a
    have ea := lN_tN a
    have x0 : a &&& mk (nI wd) = lN (tN a % 2 ^ wd) := by
      have := mk_and (u := tN a) (wd := wd) (by omega)
      rw [ea] at this; exact this
    rw [x0]
    generalize ht : v - a = t
    generalize ht2 : v - lN (tN a % 2 ^ wd) = t2
    have et := lN_tN t
    have et2 := lN_tN t2
    have hv : a + t = lN (tN a % 2 ^ wd) + t2 := by
      rw [← ht, ← ht2, Int64.add_comm, Int64.sub_add_cancel, Int64.add_comm, Int64.sub_add_cancel]
    have hv : lN (tN a + tN t) = lN (tN a % 2 ^ wd + tN t2) := by rw [← lN_add, ← lN_add, ea, et, et2]; exact hv
    have hm : (tN a + tN t) % 2 ^ 64 = (tN a % 2 ^ wd + tN t2) % 2 ^ 64 := by
      have h1 := lN_wrap (tN a + tN t)
      have := lN_m (a := (tN a + tN t) % 2 ^ 64) (b := (tN a % 2 ^ wd + tN t2)) (Nat.mod_lt _ (by decide)) (by rw [h1]; exact hv)
      exact this
    have dn : 2 ^ n ∣ 2 ^ 64 := ⟨2 ^ (64 - n), by rw [← Nat.pow_add, show n + (64 - n) = 64 by omega]⟩
    have dw : 2 ^ n ∣ 2 ^ wd := ⟨2 ^ (wd - n), by rw [← Nat.pow_add, show n + (wd - n) = wd by omega]⟩
    have hm2 : (tN a + tN t) % 2 ^ n = (tN a + tN t2) % 2 ^ n := by
      have h1 : ((tN a + tN t) % 2 ^ 64) % 2 ^ n = ((tN a % 2 ^ wd + tN t2) % 2 ^ 64) % 2 ^ n := by rw [hm]
      rw [Nat.mod_mod_of_dvd _ dn, Nat.mod_mod_of_dvd _ dn] at h1
      rw [h1, Nat.add_mod, Nat.mod_mod_of_dvd _ dw, ← Nat.add_mod]
    have ht3 : tN t % 2 ^ n = tN t2 % 2 ^ n := by
      have hn0 : 0 < 2 ^ n := Nat.two_pow_pos n
      rw [Nat.add_mod (tN a) (tN t), Nat.add_mod (tN a) (tN t2)] at hm2
      have b1 := Nat.mod_lt (tN a) hn0
      have b2 := Nat.mod_lt (tN t) hn0
      have b3 := Nat.mod_lt (tN t2) hn0
      generalize tN a % 2 ^ n = A at *
      generalize tN t % 2 ^ n = P at *
      generalize tN t2 % 2 ^ n = Q at *
      generalize 2 ^ n = W at *
      by_cases c1 : A + P < W
      · rw [Nat.mod_eq_of_lt c1] at hm2
        by_cases c2 : A + Q < W
        · rw [Nat.mod_eq_of_lt c2] at hm2; omega
        · rw [Nat.mod_eq_sub_mod (by omega), Nat.mod_eq_of_lt (by omega)] at hm2; omega
      · rw [Nat.mod_eq_sub_mod (by omega), Nat.mod_eq_of_lt (a := A + P - W) (by omega)] at hm2
        by_cases c2 : A + Q < W
        · rw [Nat.mod_eq_of_lt c2] at hm2; omega
        · rw [Nat.mod_eq_sub_mod (a := A + Q) (by omega), Nat.mod_eq_of_lt (a := A + Q - W) (by omega)] at hm2; omega
    have y1 : t &&& mk (nI n) = lN (tN t % 2 ^ n) := by
      have := mk_and (u := tN t) (wd := n) (by omega)
      rw [et] at this; exact this
    have y2 : t2 &&& mk (nI n) = lN (tN t2 % 2 ^ n) := by
      have := mk_and (u := tN t2) (wd := n) (by omega)
      rw [et2] at this; exact this
    have y3 : a + lN (tN t2 % 2 ^ n) = lN (tN a + tN t2 % 2 ^ n) := by
      have := lN_add (tN a) (tN t2 % 2 ^ n)
      rw [ea] at this; exact this
    rw [y1, y2, ht3, y3, lN_add, mk_and (by omega), mk_and (by omega), Nat.mod_add_mod]
def TId (X i : Nat) (A : Nat) : Nat → Nat → Prop := fun num a => (num = 405 ∧ a = A) ∨ (901 ≤ num ∧ num ≤ 906 ∧ a = aSq X i) ∨ ((num = 102 ∨ num = 103) ∧ a = aCx X i) ∨ (num = 301 ∧ (a = aCh X i ∨ a = X + 223)) ∨ (202 ≤ num ∧ num ≤ 204 ∧ a = X + 222) ∨ (1135 ≤ num ∧ num ≤ 1138 ∧ a = X + 226)
def TAd (X i l : Nat) : Nat → Nat → Prop := fun a j => (a = X + 245 ∧ j = l) ∨ ((a = X + 235 ∨ a = X + 236 ∨ a = X + 252 ∨ a = X + 253 ∨ a = X + 254) ∧ j = i) ∨ (a = X + 237 ∧ 9 * i ≤ j ∧ j < 9 * i + 9) ∨ (a = X + 255 ∧ 8 * i ≤ j ∧ j < 8 * i + 8) ∨ a = aCs X i ∨ a = X + 258 ∨ a = X + 225
def TBd (X i : Nat) : Nat → Nat → Prop := fun a j => (a = X + 238 ∧ 72 * i ≤ j ∧ j < 72 * i + 72) ∨ (a = X + 256 ∧ 8 * i ≤ j ∧ j < 8 * i + 8) ∨ a = aCv X i ∨ a = X + 257 ∨ a = X + 224
theorem inv_dlv {M M2 : Mm} {X p n w i l : Nat} {z : Nat → Nat} (H : Inv M X p n w z) (hl : l < n) (hi : i < 8) (A : Ag X (z n) n (TId X i (lA z l)) (TAd X i l) (TBd X i) M M2) (hQi : IQ M2 X p w n i) (hXi : IX M2 X p n i) (hG2 : IG M2 X p n) (h9 : mA M2 (X + 245) l = mI M2 405 (lA z l)) : Inv M2 X p n w z := by
  obtain ⟨hS, hW, ⟨p8, p1, p2, p3⟩, hD, hC, hQ, hX, hZ, hL, hG, hH, hT⟩ := id H
  have hN := z_ge hZ n (Nat.le_refl _)
  have z1 := z_ge hZ l (by omega)
  have z2 := hZ.2.1 l hl
  have z3 := z_mo hZ (l := l + 1) (m := n) (by omega) (Nat.le_refl _)
  have hA : X + 270 ≤ lA z l ∧ lA z l < z n ∧ z l ≤ lA z l ∧ lA z l < z (l + 1) := by unfold lA; omega
  refine ⟨St_Ag hN A hS, tr_W hN A hW ?_, tr_P hN A ⟨p8, p1, p2, p3⟩ ?_ ?_ ?_, tr_D hN A hD ?_ ?_, tr_C hN A hC ?_, fun i' hi' => ?_, fun i' hi' => ?_, tr_Z A hZ, fun l' hl' => ?_, hG2, fun s hs => ?_, tr_T hN A hT ?_ ?_⟩
  · intro nu a h; unfold TId aSq aCx aCh at h; omega
  · intro nu a h; unfold TId aSq aCx aCh at h; omega
  · intro a j h; unfold TAd aCs at h; omega
  · intro a j h; unfold TBd aCv at h; omega
  · intro a j h; unfold TAd aCs at h; omega
  · intro a j h; unfold TBd aCv at h; omega
  · intro nu a h; unfold TId aSq aCx aCh at h; omega
  · by_cases e : i' = i
    · subst e; exact hQi
    · refine tr_Q hN p8 hW.2.2.2 hi' A (hQ i' hi') ?_ ?_ ?_
      · intro nu a h; unfold TId aSq aCx aCh at h; unfold aSq aHd; omega
      · intro a j h; unfold TAd aCs at h; unfold aSt; omega
      · intro a j h; unfold TBd aCv at h; unfold aHv; omega
  · by_cases e : i' = i
    · subst e; exact hXi
    · refine tr_X hN p8 hi' A (hX i' hi') ?_ ?_ ?_
      · intro nu a h; unfold TId aSq aCx aCh at h; unfold aCx aCh; omega
      · intro a j h; unfold TAd aCs at h; unfold aCs; omega
      · intro a j h; unfold TBd aCv at h; unfold aCv; omega
  · by_cases e : l' = l
    · subst e
      obtain ⟨l1, l2, l3, l4, l5, l6, l7, l8, l9, l10, l11, l12, l13, l14, l15⟩ := hL l' hl
      have e406 : mI M2 406 (lA z l') = mI M 406 (lA z l') := A.1 _ _ (by unfold ScI; omega) (by unfold TId aSq aCx aCh; omega) (by omega)
      have e246 : mA M2 (X + 246) l' = mA M (X + 246) l' := A.2.1 _ _ (by unfold ScA; omega) (by unfold TAd aCs; omega) (by omega)
      refine IL_mk p8 hZ hl (Nat.le_refl _) (Nat.le_refl _) A (hL l' hl) ?_ ?_ h9 (by rw [e246, e406]; exact l10) (by rw [e406]; exact l11) (ILb_Ag hZ hl (Nat.le_refl _) A l14 ?_)
      · intro nu a h; unfold TId aSq aCx aCh at h; omega
      · intro a j h; unfold TAd aCs at h; omega
      · intro a j h; unfold TAd aCs at h; unfold lB; omega
    · have y3 := z_apart hZ hl hl' e (a := lA z l) (by omega) (by omega)
      have y1 := z_ge hZ l' (by omega)
      refine tr_L p8 hZ hl' (Nat.le_refl _) (Nat.le_refl _) A (hL l' hl') ?_ ?_
      · intro nu a h; unfold TId aSq aCx aCh at h; omega
      · intro a j h; unfold TAd aCs at h; omega
  · refine tr_H hN hs A (hH s hs) ?_ ?_ ?_
    · intro nu a h; unfold TId aSq aCx aCh at h; unfold aSh; omega
    · intro a j h; unfold TAd aCs at h; omega
    · intro a j h; unfold TBd aCv at h; unfold aSr; omega
  · intro nu a h; unfold TId aSq aCx aCh at h; omega
  · intro a j h; unfold TAd aCs at h; omega
