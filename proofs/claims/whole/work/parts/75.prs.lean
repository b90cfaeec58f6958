/-! The letter as a whole: the class's parse. -/
def kdr (r : Nat → Nat) : Nat := rdv r 0 3
def flr (r : Nat → Nat) : Nat := rdv r 3 3
def nur (r : Nat → Nat) : Nat := rdv r 6 16
def ror (r : Nat → Nat) : Nat := rdv r 22 4
def goodP (M : Mm) (X len p : Nat) (r : Nat → Nat) : Prop := kdr r ≤ 5 ∧ (kdr r ≤ 2 → 26 ≤ 8 * len ∧ ∃ a, pos M X len r (kdr r) 26 p = some a ∧ okE len r (kdr r) a) ∧ (2 < kdr r → eS len r true 22)
theorem cs_own {M : Mm} {X : Nat} {br : Int32} {a : Nat} : sI (sI M 10 (X + 214) (nI a)) 11 (X + 214) br = cs M X a br (mA M (X + 217)) (mA M (X + 218)) (mA M (X + 219)) (mB M (X + 220)) := by
  unfold cs
  generalize hY : sI (sI M 10 (X + 214) (nI a)) 11 (X + 214) br = Y
  have eA : mA Y = mA M := by rw [← hY, mA_sI, mA_sI]
  have eB : mB Y = mB M := by rw [← hY, mB_sI, mB_sI]
  rw [← eA, ← eB, sA_self Y (X + 217) (g := mA Y (X + 217)) (fun j => rfl), sA_self Y (X + 218) (g := mA Y (X + 218)) (fun j => rfl), sA_self Y (X + 219) (g := mA Y (X + 219)) (fun j => rfl), sB_self Y (X + 220) (g := mB Y (X + 220)) (fun j => rfl)]
theorem rs_own {M : Mm} {X : Nat} {br : Int32} {a : Nat} : sI (sI M 1143 (X + 226) (nI a)) 1145 (X + 226) br = rs M X a br (mA M (X + 260)) (mA M (X + 261)) (mA M (X + 263)) (mB M (X + 262)) := by
  unfold rs
  generalize hY : sI (sI M 1143 (X + 226) (nI a)) 1145 (X + 226) br = Y
  have eA : mA Y = mA M := by rw [← hY, mA_sI, mA_sI]
  have eB : mB Y = mB M := by rw [← hY, mB_sI, mB_sI]
  rw [← eA, ← eB, sA_self Y (X + 260) (g := mA Y (X + 260)) (fun j => rfl), sA_self Y (X + 261) (g := mA Y (X + 261)) (fun j => rfl), sA_self Y (X + 263) (g := mA Y (X + 263)) (fun j => rfl), sB_self Y (X + 262) (g := mB Y (X + 262)) (fun j => rfl)]
theorem cl_brk {M : Mm} {X B len k p a0 : Nat} {g7 g8 g9 : Nat → Int32} {h0 : Nat → Int64} {r : Nat → Nat} (hS : St M X) (hP : IP M X p) (hB : BR M X B len r) (hk : mI M 5 (X + 214) = nI k) (k2 : k ≤ 2) : ∃ a k7 k8 k9 k0, f_X0_parse_L79 1000 (cs M X a0 1 g7 g8 g9 h0) (X + 214) (X + 1) 0 = f_X0_parse_J99 (cs M X a 1 k7 k8 k9 k0) (X + 214) := by
  have p8 := hP.1
  have main : ∀ d f fu a c7 c8 c9 c0, f + d = p → d < fu → ∃ a' k7 k8 k9 k0, f_X0_parse_L79 fu (cs M X a 1 c7 c8 c9 c0) (X + 214) (X + 1) (nI f) = f_X0_parse_J99 (cs M X a' 1 k7 k8 k9 k0) (X + 214) := by
    intro d
    induction d with
    | zero =>
      intro f fu a c7 c8 c9 c0 e1 e2
      obtain ⟨fu, rfl⟩ : ∃ k, fu = k + 1 := ⟨fu - 1, by omega⟩
      refine ⟨a, c7, c8, c9, c0, ?_⟩
      rw [f_X0_parse_L79, gi_1 (St_cs hS), ob_eq, cs_I (by decide) (by decide), hP.2.1, if_pos (nI_le (by omega) (by omega))]
    | succ d ih =>
      intro f fu a c7 c8 c9 c0 e1 e2
      obtain ⟨fu, rfl⟩ : ∃ k, fu = k + 1 := ⟨fu - 1, by omega⟩
      have hf : f < p := by omega
      obtain ⟨a', k7, k8, k9, k0, s1⟩ := fld_b (a := a) (g7 := c7) (g8 := c8) (g9 := c9) (h0 := c0) hS hP hB hf hk k2
      obtain ⟨x1, x3, x4, x5, x6, y1⟩ := ih (f + 1) fu a' k7 k8 k9 k0 (by omega) (by omega)
      refine ⟨x1, x3, x4, x5, x6, ?_⟩
      rw [f_X0_parse_L79, gi_1 (St_cs hS), ob_eq, cs_I (by decide) (by decide), hP.2.1, if_neg (nI_ge hf (by omega)), s1, ob_eq, nI_1]
      exact y1
  exact main p 0 1000 a0 g7 g8 g9 h0 (by omega) (by omega)
theorem flS_ag {M M' : Mm} {X len k f a : Nat} {r : Nat → Nat} (h2 : mA M' (X + 2) = mA M (X + 2)) (h3 : mA M' (X + 3) = mA M (X + 3)) : flS M' X len r k f a = flS M X len r k f a := by
  unfold flS wdx rub frb; rw [h2, h3]
theorem pos_ag {M M' : Mm} {X len k a0 : Nat} {r : Nat → Nat} (h2 : mA M' (X + 2) = mA M (X + 2)) (h3 : mA M' (X + 3) = mA M (X + 3)) : ∀ f, pos M' X len r k a0 f = pos M X len r k a0 f
  | 0 => rfl
  | f + 1 => by
    show (pos M' X len r k a0 f).bind _ = (pos M X len r k a0 f).bind _
    rw [pos_ag h2 h3 f]
    congr 1
    funext a
    rw [flS_ag h2 h3]
theorem dtc_ag {M M' : Mm} {X len k a0 f : Nat} {r : Nat → Nat} {g7 g8 g9 : Nat → Int32} {h0 : Nat → Int64} (h2 : mA M' (X + 2) = mA M (X + 2)) (h3 : mA M' (X + 3) = mA M (X + 3)) (h : dtc M' X len r k a0 g7 g8 g9 h0 f) : dtc M X len r k a0 g7 g8 g9 h0 f := by
  obtain ⟨a, a', wy, ln, tv, sd, q1, q2, q3⟩ := h
  exact ⟨a, a', wy, ln, tv, sd, (pos_ag h2 h3 f).symm.trans q1, (flS_ag h2 h3).symm.trans q2, q3⟩
/-- what stands behind a good parse -/
def PC (M M' : Mm) (X len p : Nat) (r : Nat → Nat) : Prop := mI M' 5 (X + 214) = nI (kdr r) ∧ mI M' 6 (X + 214) = nI (flr r) ∧ mI M' 301 (X + 215) = nI (nur r) ∧ (kdr r ≤ 2 → mI M' 7 (X + 214) = nI (ror r) ∧ ∃ a, pos M X len r (kdr r) 26 p = some a ∧ (kdr r = 1 ∨ kdr r = 2 → mI M' 8 (X + 214) = nI (rdv r a 8)) ∧ ∀ f, f < p → dtc M X len r (kdr r) 26 (mA M' (X + 217)) (mA M' (X + 218)) (mA M' (X + 219)) (mB M' (X + 220)) f)
theorem BR_sI {M : Mm} {X B len num x : Nat} {v : Int32} {r : Nat → Nat} (h : BR M X B len r) : BR (sI M num x v) X B len r := h
theorem Ag.c9 {X N n num b : Nat} {v : Int32} {M M1 : Mm} (h : Ag X N n T0 T0 T0 M M1) (hn : num ≤ 99) : Ag X N n T0 T0 T0 M (sI M1 num b v) := h.cI (Or.inl (Or.inl hn))
theorem Ag.ccs {X N n a : Nat} {br : Int32} {g7 g8 g9 : Nat → Int32} {h0 : Nat → Int64} {M M1 : Mm} (h : Ag X N n T0 T0 T0 M M1) : Ag X N n T0 T0 T0 M (cs M1 X a br g7 g8 g9 h0) := h.tr' Ag_cs
theorem prs_tail {M M7 : Mm} {X B len p a0 : Nat} {r : Nat → Nat} {br0 : Int32} {g7 g8 g9 : Nat → Int32} {h0 : Nat → Int64} (S7 : St M7 X) (P7 : IP M7 X p) (B7 : BR M7 X B len r) (k7 : mI M7 5 (X + 214) = nI (kdr r)) (f6 : mI M7 6 (X + 214) = nI (flr r)) (f301 : mI M7 301 (X + 215) = nI (nur r)) (f7 : br0 = 0 → mI M7 7 (X + 214) = nI (ror r)) (m2 : mA M7 (X + 2) = mA M (X + 2)) (m3 : mA M7 (X + 3) = mA M (X + 3)) (A7 : ∀ N n, Ag X N n T0 T0 T0 M M7) (s7 : mS M7 = mS M) (c2 : kdr r ≤ 2) (h : (br0 = 0 ∧ a0 = 26 ∧ 26 ≤ 8 * len) ∨ (br0 = 1 ∧ ¬ 26 ≤ 8 * len)) :
    ∃ M' v, f_X0_parse_L79 1000 (cs M7 X a0 br0 g7 g8 g9 h0) (X + 214) (X + 1) 0 = some (M', v) ∧ (∀ N n, Ag X N n T0 T0 T0 M M') ∧ mS M' = mS M ∧ ((v = 1 ∧ goodP M X len p r ∧ PC M M' X len p r) ∨ (v = 0 ∧ ¬ goodP M X len p r)) := by
  have d10 : ¬ (1 : Int32) = 0 := by decide
  rcases h with ⟨rfl, rfl, c26⟩ | ⟨rfl, c26⟩
  · obtain ⟨a, br, k7', k8', k9', k0', e1, e2⟩ := cl_loop (a0 := 26) (br0 := 0) (g7 := g7) (g8 := g8) (g9 := g9) (h0 := h0) S7 P7 B7 k7 c2 ⟨rfl, c26⟩
    have hb : (br = 0 ∧ a ≤ 8 * len) ∨ br = 1 := by
      rcases e2 with ⟨x1, x2, -⟩ | ⟨x1, -⟩
      · exact Or.inl ⟨x1, x2⟩
      · exact Or.inr x1
    obtain ⟨s, a', b', v, e3, e4⟩ := j99_c (a := a) (br := br) (g7 := k7') (g8 := k8') (g9 := k9') (h0 := k0') S7 B7 k7 (by omega) hb
    have AA : ∀ N n, Ag X N n T0 T0 T0 M (cs (sI M7 8 (X + 214) s) X a' b' k7' k8' k9' k0') := fun N n => Ag.ccs (Ag.c9 (A7 N n) (by decide))
    have SS : mS (cs (sI M7 8 (X + 214) s) X a' b' k7' k8' k9' k0') = mS M := by rw [cs_S, mS_sI]; exact s7
    refine ⟨_, v, e1.trans e3, AA, SS, ?_⟩
    rcases e4 with ⟨e4, e5, e6, e7⟩ | ⟨e4, e5⟩
    · rcases e2 with ⟨x1, x2, x3, x4⟩ | ⟨x1, x2⟩
      · have x3' := (pos_ag m2 m3 p).symm.trans x3
        refine Or.inl ⟨e4, ⟨by omega, fun _ => ⟨c26, a, x3', e6⟩, fun q => absurd q (by omega)⟩, ?_, ?_, ?_, fun _ => ⟨?_, a, x3', fun q => ?_, fun f hf => ?_⟩⟩
        · rw [cs_I (by decide) (by decide), mI_sI, if_neg (by decide)]; exact k7
        · rw [cs_I (by decide) (by decide), mI_sI, if_neg (by decide)]; exact f6
        · rw [cs_I (by decide) (by decide), mI_sI, if_neg (by decide)]; exact f301
        · rw [cs_I (by decide) (by decide), mI_sI, if_neg (by decide)]; exact f7 rfl
        · rw [cs_I (by decide) (by decide), mI_sI, if_pos rfl, if_pos rfl]; exact e7 q
        · rw [cs_a7, cs_a8, cs_a9, cs_b0]
          exact dtc_ag m2 m3 (x4 f hf)
      · rw [x1] at e5; exact absurd e5 d10
    · refine Or.inr ⟨e4, fun q => ?_⟩
      obtain ⟨-, y1, z1, z2⟩ := q.2.1 c2
      rw [← pos_ag m2 m3 p] at z1
      rcases e2 with ⟨x1, x2, x3, x4⟩ | ⟨x1, x2⟩
      · have : a = y1 := Option.some.inj (x3.symm.trans z1)
        subst this
        exact e5 ⟨x1, z2⟩
      · rw [x2] at z1; cases z1
  · obtain ⟨a, k7', k8', k9', k0', e1⟩ := cl_brk (a0 := a0) (g7 := g7) (g8 := g8) (g9 := g9) (h0 := h0) S7 P7 B7 k7 c2
    obtain ⟨s, a', b', v, e3, e4⟩ := j99_c (a := a) (br := 1) (g7 := k7') (g8 := k8') (g9 := k9') (h0 := k0') S7 B7 k7 (by omega) (Or.inr rfl)
    have AA : ∀ N n, Ag X N n T0 T0 T0 M (cs (sI M7 8 (X + 214) s) X a' b' k7' k8' k9' k0') := fun N n => Ag.ccs (Ag.c9 (A7 N n) (by decide))
    have SS : mS (cs (sI M7 8 (X + 214) s) X a' b' k7' k8' k9' k0') = mS M := by rw [cs_S, mS_sI]; exact s7
    refine ⟨_, v, e1.trans e3, AA, SS, ?_⟩
    rcases e4 with ⟨e4, e5, -⟩ | ⟨e4, e5⟩
    · exact absurd e5 d10
    · exact Or.inr ⟨e4, fun q => c26 (q.2.1 c2).1⟩
theorem prs_head {M M0 M1 : Mm} {X B len : Nat} {r : Nat → Nat} {g7 g8 g9 : Nat → Int32} {h0 : Nat → Int64} (hS : St M X) (hM0 : sR M 9 (X + 214) (some B) = M0) (S0 : St M0 X) (B0 : BR M0 X B len r) (l3 : 3 ≤ len) (hg7 : mA M0 (X + 217) = g7) (hg8 : mA M0 (X + 218) = g8) (hg9 : mA M0 (X + 219) = g9) (hh0 : mB M0 (X + 220) = h0) (hM1 : sI (sI (sI M0 5 (X + 214) (nI (kdr r))) 6 (X + 214) (nI (flr r))) 301 (X + 215) (nI (nur r)) = M1) (S1 : St M1 X) (f5 : mI M1 5 (X + 214) = nI (kdr r)) :
    f_X0_parse M (X + 214) (X + 1) B = if nI (kdr r) ≤ 5 then (if 2 < nI (kdr r) then f_X0_parse_J99 (cs M1 X 22 0 g7 g8 g9 h0) (X + 214) else ob2 (f_X0_read (cs M1 X 22 0 g7 g8 g9 h0) (X + 214) 4) (fun M22 v23 => (pI M22 1 7 (X + 214) v23.toInt32).bind fun M24 => f_X0_parse_L79 1000 M24 (X + 214) (X + 1) 0)) else some (cs M1 X 22 0 g7 g8 g9 h0, 0) := by
  have own : sI (sI M0 10 (X + 214) 0) 11 (X + 214) 0 = cs M0 X 0 0 g7 g8 g9 h0 := by
    rw [← hg7, ← hg8, ← hg9, ← hh0]; exact cs_own (a := 0)
  have Sa : St (sI M0 10 (X + 214) 0) X := St_sI S0
  have r1 : f_X0_read (cs M0 X 0 0 g7 g8 g9 h0) (X + 214) 3 = some (cs M0 X 3 0 g7 g8 g9 h0, lN (kdr r)) := rd_ok (a := 0) (n := 3) S0 B0 (by decide) (by omega)
  generalize hA : sI M0 5 (X + 214) (nI (kdr r)) = Ma at hM1
  have SA : St Ma X := by rw [← hA]; exact St_sI S0
  have BA : BR Ma X B len r := by rw [← hA]; exact BR_sI B0
  have r2 : f_X0_read (cs Ma X 3 0 g7 g8 g9 h0) (X + 214) 3 = some (cs Ma X 6 0 g7 g8 g9 h0, lN (flr r)) := rd_ok (a := 3) (n := 3) SA BA (by decide) (by omega)
  generalize hB' : sI Ma 6 (X + 214) (nI (flr r)) = Mb at hM1
  have SB : St Mb X := by rw [← hB']; exact St_sI SA
  have BB : BR Mb X B len r := by rw [← hB']; exact BR_sI BA
  have r3 : f_X0_read (cs Mb X 6 0 g7 g8 g9 h0) (X + 214) 16 = some (cs Mb X 22 0 g7 g8 g9 h0, lN (nur r)) := rd_ok (a := 6) (n := 16) SB BB (by decide) (by omega)
  unfold f_X0_parse
  rw [if_pos (k_214 hS), pR_of (k_214 hS), ob_eq, hM0, pi_214 S0, ob_eq, pZ_of (k_214 Sa) (Or.inl rfl), ob_eq, own, r1, ob2_eq, lN_i, pi_214 (St_cs S0), ob_eq, cs_sI (by decide) (by decide), hA, r2, ob2_eq, lN_i, pi_214 (St_cs SA), ob_eq, cs_sI (by decide) (by decide), hB', r_214_0 (St_cs SB), ob_eq, r3, ob2_eq, lN_i, pi_215 (St_cs SB), ob_eq, cs_sI (by decide) (by decide), hM1, gi_214 (St_cs S1), ob_eq, cs_I (by decide) (by decide), f5, ob_eq]
theorem parse_c {M : Mm} {X B len p : Nat} {r : Nat → Nat} (hS : St M X) (hP : IP M X p) (hk : mK M B = 20) (hn : mN M B = len) (l3 : 3 ≤ len) (l6 : len ≤ 60) (hB : X + 270 ≤ B) (hr : ∀ q, q < len → r q < 256 ∧ mA M B q = nI (r q)) :
    ∃ M' v, f_X0_parse M (X + 214) (X + 1) B = some (M', v) ∧ (∀ N n, Ag X N n T0 T0 T0 M M') ∧ mS M' = mS M ∧ ((v = 1 ∧ goodP M X len p r ∧ PC M M' X len p r) ∨ (v = 0 ∧ ¬ goodP M X len p r)) := by
  have d10 : ¬ (1 : Int32) = 0 := by decide
  have p8 := hP.1
  have k8 : kdr r < 8 := rdv_lt 3
  generalize hM0 : sR M 9 (X + 214) (some B) = M0
  have A0 : ∀ N n, Ag X N n T0 T0 T0 M M0 := fun N n => by rw [← hM0]; exact Ag_sR (Or.inl ⟨rfl, rfl⟩)
  have S0 : St M0 X := St_Ag (N := X + 270) (Nat.le_refl _) (A0 _ 0) hS
  have BR0 : BR M0 X B len r := by
    rw [← hM0]
    exact ⟨by rw [mR_sR, if_pos rfl, if_pos rfl], hk, hn, l6, hB, hr⟩
  have s0 : mS M0 = mS M := by rw [← hM0, mS_sR]
  have a0 : mA M0 = mA M := by rw [← hM0, mA_sR]
  generalize hM1 : sI (sI (sI M0 5 (X + 214) (nI (kdr r))) 6 (X + 214) (nI (flr r))) 301 (X + 215) (nI (nur r)) = M1
  have A1 : ∀ N n, Ag X N n T0 T0 T0 M M1 := fun N n => by
    rw [← hM1]
    exact ((Ag.c9 (Ag.c9 (A0 N n) (by decide)) (by decide))).cI (Or.inl (Or.inr (Or.inr (Or.inr (Or.inr ⟨rfl, Or.inr rfl⟩)))))
  have S1 : St M1 X := St_Ag (N := X + 270) (Nat.le_refl _) (A1 _ 0) hS
  have BR1 : BR M1 X B len r := by rw [← hM1]; exact BR_sI (BR_sI (BR_sI BR0))
  have s1 : mS M1 = mS M := by rw [← hM1, mS_sI, mS_sI, mS_sI, s0]
  have a1 : mA M1 = mA M := by rw [← hM1, mA_sI, mA_sI, mA_sI, a0]
  have f5 : mI M1 5 (X + 214) = nI (kdr r) := by rw [← hM1, mI_sI, if_neg (by decide), mI_sI, if_neg (by decide), mI_sI, if_pos rfl, if_pos rfl]
  have f6 : mI M1 6 (X + 214) = nI (flr r) := by rw [← hM1, mI_sI, if_neg (by decide), mI_sI, if_pos rfl, if_pos rfl]
  have f301 : mI M1 301 (X + 215) = nI (nur r) := by rw [← hM1, mI_sI, if_pos rfl, if_pos rfl]
  have hd := prs_head hS hM0 S0 BR0 l3 rfl rfl rfl rfl hM1 S1 f5
  generalize mA M0 (X + 217) = g7 at hd
  generalize mA M0 (X + 218) = g8 at hd
  generalize mA M0 (X + 219) = g9 at hd
  generalize mB M0 (X + 220) = h0 at hd
  clear hM1
  rw [hd]
  by_cases c5 : kdr r ≤ 5
  rotate_left
  · rw [if_neg (show ¬ nI (kdr r) ≤ 5 from nI_ge (a := 5) (by omega) (by omega))]
    exact ⟨_, 0, rfl, fun N n => Ag.ccs (A1 N n), by rw [cs_S]; exact s1, Or.inr ⟨rfl, fun q => c5 q.1⟩⟩
  rw [if_pos (show nI (kdr r) ≤ 5 from nI_le (b := 5) c5 (by decide))]
  by_cases c2 : 2 < kdr r
  · rw [if_pos (show 2 < nI (kdr r) from nI_lt (a := 2) c2 (by omega))]
    obtain ⟨s, a', b', v, e1, e2⟩ := j99_c (a := 22) (br := 0) (g7 := g7) (g8 := g8) (g9 := g9) (h0 := h0) S1 BR1 f5 k8 (Or.inl ⟨rfl, by omega⟩)
    rw [e1]
    have nk : ¬ (kdr r = 1 ∨ kdr r = 2) := by omega
    unfold okE at e2
    rw [if_neg nk] at e2
    refine ⟨_, v, rfl, fun N n => Ag.ccs (Ag.c9 (A1 N n) (by decide)), by rw [cs_S, mS_sI]; exact s1, ?_⟩
    rcases e2 with ⟨e2, -, e4, e5⟩ | ⟨e2, e3⟩
    · refine Or.inl ⟨e2, ⟨c5, fun q => absurd q (by omega), fun _ => e4⟩, ?_, ?_, ?_, fun q => absurd q (by omega)⟩
      · rw [cs_I (by decide) (by decide), mI_sI, if_neg (by decide)]; exact f5
      · rw [cs_I (by decide) (by decide), mI_sI, if_neg (by decide)]; exact f6
      · rw [cs_I (by decide) (by decide), mI_sI, if_neg (by decide)]; exact f301
    · exact Or.inr ⟨e2, fun q => e3 ⟨rfl, q.2.2 c2⟩⟩
  · rw [if_neg (show ¬ 2 < nI (kdr r) from nI_nlt (a := 2) (by omega) (by decide))]
    have go : ∀ (v : Int32) (x : Nat) (b : Int32), (b = 0 → v = nI (ror r)) → ((b = 0 ∧ x = 26 ∧ 26 ≤ 8 * len) ∨ (b = 1 ∧ ¬ 26 ≤ 8 * len)) → ∃ M' v', f_X0_parse_L79 1000 (cs (sI M1 7 (X + 214) v) X x b g7 g8 g9 h0) (X + 214) (X + 1) 0 = some (M', v') ∧ (∀ N n, Ag X N n T0 T0 T0 M M') ∧ mS M' = mS M ∧ ((v' = 1 ∧ goodP M X len p r ∧ PC M M' X len p r) ∨ (v' = 0 ∧ ¬ goodP M X len p r)) := by
      intro v x b hv hb
      generalize h7 : sI M1 7 (X + 214) v = M7
      have A7 : ∀ N n, Ag X N n T0 T0 T0 M M7 := fun N n => by rw [← h7]; exact Ag.c9 (A1 N n) (by decide)
      refine prs_tail (St_Ag (N := X + 270) (Nat.le_refl _) (A7 _ 0) hS) (tr_P (N := X + 270) (Nat.le_refl _) (A7 _ 0) hP (fun _ _ q => q.elim) (fun _ _ q => q.elim) (fun _ _ q => q.elim)) (by rw [← h7]; exact BR_sI BR1) ?_ ?_ ?_ ?_ (by rw [← h7, mA_sI, a1]) (by rw [← h7, mA_sI, a1]) A7 (by rw [← h7, mS_sI]; exact s1) (by omega) hb
      · rw [← h7, mI_sI, if_neg (by decide)]; exact f5
      · rw [← h7, mI_sI, if_neg (by decide)]; exact f6
      · rw [← h7, mI_sI, if_neg (by decide)]; exact f301
      · intro q
        rw [← h7, mI_sI, if_pos rfl, if_pos rfl]; exact hv q
    by_cases c26 : 26 ≤ 8 * len
    · have r4 : f_X0_read (cs M1 X 22 0 g7 g8 g9 h0) (X + 214) 4 = some (cs M1 X 26 0 g7 g8 g9 h0, lN (ror r)) := rd_ok (a := 22) (n := 4) S1 BR1 (by decide) (by omega)
      rw [r4, ob2_eq, lN_i, pi_214 (St_cs S1), ob_eq, cs_sI (by decide) (by decide)]
      exact go _ 26 0 (fun _ => rfl) (Or.inl ⟨rfl, rfl, c26⟩)
    · have r4 : f_X0_read (cs M1 X 22 0 g7 g8 g9 h0) (X + 214) 4 = some (cs M1 X 22 1 g7 g8 g9 h0, 0) := rd_no (a := 22) (n := 4) S1 BR1 (by decide) (by omega) (by omega)
      rw [r4, ob2_eq, pi_214 (St_cs S1), ob_eq, cs_sI (by decide) (by decide)]
      exact go _ 22 1 (fun q => absurd q d10) (Or.inr ⟨rfl, c26⟩)
