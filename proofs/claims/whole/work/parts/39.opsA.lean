/-! keep -/
theorem wr0_s {α : Type} (g : Nat → α) (i : Nat) (v : Nat → α) : va_up (wr g 0 i v) i (v i) = wr g 0 (i + 1) v := by
  have e := wr_s g 0 i v
  rw [Nat.zero_add] at e
  exact e
theorem wr0_in {α : Type} {g : Nat → α} {i k : Nat} {v : Nat → α} (h : k < i) : wr g 0 i v k = v k := by
  have e := wr_in (g := g) (lo := 0) (v := v) h
  rw [Nat.zero_add] at e
  exact e
/-- the reference's loop: one step -/
theorem kl_step {M : Mm} {X s i : Nat} {x2 x3 : Int32} {v : Nat → Int64} {F : Mm → Nat → Int32 → Int32 → Int32 → Int32 → Option (Mm × Int32)} (hS : St M X) (hi : 64 * s + i < 512) : f_X11_keep_J188 F (sB M (X + 268) (wr (mB M (X + 268)) (64 * s) i v)) (X + 226) (nI s) x2 x3 (nI i) (X + 268) ((64 * nI s) + nI i) (v i) = F (sB M (X + 268) (wr (mB M (X + 268)) (64 * s) (i + 1) v)) (X + 226) (nI s) x2 x3 (nI (i + 1)) := by
  have hS1 : St (sB M (X + 268) (wr (mB M (X + 268)) (64 * s) i v)) X := St_sB hS
  unfold f_X11_keep_J188
  rw [m64, nI_add, wj_268 hS1 hi, ob_eq, mB_sB, if_pos rfl, sB_sB, wr_s, nI_1]
theorem kl12 {M : Mm} {X s l sz hk : Nat} (hS : St M X) (hs : s < 8) (hl : l < 200) (hz : sz ≤ 60) (h1 : hk < 3) (h266 : mA M (X + 266) s = nI sz) : f_X11_keep_L112 1000 M (X + 226) (nI s) (nI hk) (nI l) 0 = some (sB M (X + 268) (wr (mB M (X + 268)) (64 * s) sz (fun i => (mA M (X + 240) (64 * l + i)).toInt64)), 0) := by
  have e := loop_run (fun fu i => f_X11_keep_L112 fu (sB M (X + 268) (wr (mB M (X + 268)) (64 * s) i (fun i => (mA M (X + 240) (64 * l + i)).toInt64))) (X + 226) (nI s) (nI hk) (nI l) (nI i)) sz (some (sB M (X + 268) (wr (mB M (X + 268)) (64 * s) sz (fun i => (mA M (X + 240) (64 * l + i)).toInt64)), 0))
    (fun i fu hi => by
      have hS1 : St (sB M (X + 268) (wr (mB M (X + 268)) (64 * s) i (fun i => (mA M (X + 240) (64 * l + i)).toInt64))) X := St_sB hS
      have e3 : ¬ (3 : Int32) ≤ nI hk := nI_ge (b := 3) h1 (by decide)
      show f_X11_keep_L112 (fu + 1) (sB M (X + 268) (wr (mB M (X + 268)) (64 * s) i (fun i => (mA M (X + 240) (64 * l + i)).toInt64))) (X + 226) (nI s) (nI hk) (nI l) (nI i) = f_X11_keep_L112 fu (sB M (X + 268) (wr (mB M (X + 268)) (64 * s) (i + 1) (fun i => (mA M (X + 240) (64 * l + i)).toInt64))) (X + 226) (nI s) (nI hk) (nI l) (nI (i + 1))
      rw [f_X11_keep_L112, r_226_1154 hS1, ob_eq, ai_266 hS1 hs, ob_eq, mA_sB, h266, if_neg (nI_ge hi (by omega)), r_226_1156 hS1, ob_eq, if_neg e3, r_226_1118 hS1, ob_eq, m64 l, nI_add, ai_240 hS1 (by omega), ob_eq, mA_sB]
      exact kl_step (F := f_X11_keep_L112 fu) (v := (fun i => (mA M (X + 240) (64 * l + i)).toInt64)) hS (by omega))
    (fun fu => by
      have hS1 : St (sB M (X + 268) (wr (mB M (X + 268)) (64 * s) sz (fun i => (mA M (X + 240) (64 * l + i)).toInt64))) X := St_sB hS
      show f_X11_keep_L112 (fu + 1) _ (X + 226) (nI s) (nI hk) (nI l) (nI sz) = _
      rw [f_X11_keep_L112, r_226_1154 hS1, ob_eq, ai_266 hS1 hs, ob_eq, mA_sB, h266, if_pos (nI_le (Nat.le_refl _) (by omega))]) 1000 (by omega)
  have e2 : sB M (X + 268) (wr (mB M (X + 268)) (64 * s) 0 (fun i => (mA M (X + 240) (64 * l + i)).toInt64)) = M := sB_self _ _ (fun j => by rw [wr_0])
  rw [e2] at e
  exact e
theorem kl3 {M : Mm} {X s l sz : Nat} (hS : St M X) (hs : s < 8) (hl : l < 8) (hz : sz ≤ 8) (h266 : mA M (X + 266) s = nI sz) : f_X11_keep_L112 1000 M (X + 226) (nI s) 3 (nI l) 0 = some (sB M (X + 268) (wr (mB M (X + 268)) (64 * s) sz (fun i => (mA M (X + 237) (9 * l + i)).toInt64)), 0) := by
  have e := loop_run (fun fu i => f_X11_keep_L112 fu (sB M (X + 268) (wr (mB M (X + 268)) (64 * s) i (fun i => (mA M (X + 237) (9 * l + i)).toInt64))) (X + 226) (nI s) 3 (nI l) (nI i)) sz (some (sB M (X + 268) (wr (mB M (X + 268)) (64 * s) sz (fun i => (mA M (X + 237) (9 * l + i)).toInt64)), 0))
    (fun i fu hi => by
      have hS1 : St (sB M (X + 268) (wr (mB M (X + 268)) (64 * s) i (fun i => (mA M (X + 237) (9 * l + i)).toInt64))) X := St_sB hS
      have e3 : (3 : Int32) ≤ 3 := by decide
      show f_X11_keep_L112 (fu + 1) (sB M (X + 268) (wr (mB M (X + 268)) (64 * s) i (fun i => (mA M (X + 237) (9 * l + i)).toInt64))) (X + 226) (nI s) 3 (nI l) (nI i) = f_X11_keep_L112 fu (sB M (X + 268) (wr (mB M (X + 268)) (64 * s) (i + 1) (fun i => (mA M (X + 237) (9 * l + i)).toInt64))) (X + 226) (nI s) 3 (nI l) (nI (i + 1))
      rw [f_X11_keep_L112, r_226_1154 hS1, ob_eq, ai_266 hS1 hs, ob_eq, mA_sB, h266, if_neg (nI_ge hi (by omega)), r_226_1156 hS1, ob_eq, if_pos e3, if_pos rfl, r_226_1114 hS1, ob_eq, m9 l, nI_add, ai_237 hS1 (by omega), ob_eq, mA_sB]
      exact kl_step (F := f_X11_keep_L112 fu) (v := (fun i => (mA M (X + 237) (9 * l + i)).toInt64)) hS (by omega))
    (fun fu => by
      have hS1 : St (sB M (X + 268) (wr (mB M (X + 268)) (64 * s) sz (fun i => (mA M (X + 237) (9 * l + i)).toInt64))) X := St_sB hS
      show f_X11_keep_L112 (fu + 1) _ (X + 226) (nI s) 3 (nI l) (nI sz) = _
      rw [f_X11_keep_L112, r_226_1154 hS1, ob_eq, ai_266 hS1 hs, ob_eq, mA_sB, h266, if_pos (nI_le (Nat.le_refl _) (by omega))]) 1000 (by omega)
  have e2 : sB M (X + 268) (wr (mB M (X + 268)) (64 * s) 0 (fun i => (mA M (X + 237) (9 * l + i)).toInt64)) = M := sB_self _ _ (fun j => by rw [wr_0])
  rw [e2] at e
  exact e
theorem kl4 {M : Mm} {X s l sz : Nat} (hS : St M X) (hs : s < 8) (hl : l < 8) (hz : sz ≤ 8) (h266 : mA M (X + 266) s = nI sz) : f_X11_keep_L112 1000 M (X + 226) (nI s) 4 (nI l) 0 = some (sB M (X + 268) (wr (mB M (X + 268)) (64 * s) sz (fun i => mB M (X + 256) (8 * l + i))), 0) := by
  have e := loop_run (fun fu i => f_X11_keep_L112 fu (sB M (X + 268) (wr (mB M (X + 268)) (64 * s) i (fun i => mB M (X + 256) (8 * l + i)))) (X + 226) (nI s) 4 (nI l) (nI i)) sz (some (sB M (X + 268) (wr (mB M (X + 268)) (64 * s) sz (fun i => mB M (X + 256) (8 * l + i))), 0))
    (fun i fu hi => by
      have hS1 : St (sB M (X + 268) (wr (mB M (X + 268)) (64 * s) i (fun i => mB M (X + 256) (8 * l + i)))) X := St_sB hS
      have e3 : (3 : Int32) ≤ 4 := by decide
      have e4 : ¬ (4 : Int32) = 3 := by decide
      show f_X11_keep_L112 (fu + 1) (sB M (X + 268) (wr (mB M (X + 268)) (64 * s) i (fun i => mB M (X + 256) (8 * l + i)))) (X + 226) (nI s) 4 (nI l) (nI i) = f_X11_keep_L112 fu (sB M (X + 268) (wr (mB M (X + 268)) (64 * s) (i + 1) (fun i => mB M (X + 256) (8 * l + i)))) (X + 226) (nI s) 4 (nI l) (nI (i + 1))
      rw [f_X11_keep_L112, r_226_1154 hS1, ob_eq, ai_266 hS1 hs, ob_eq, mA_sB, h266, if_neg (nI_ge hi (by omega)), r_226_1156 hS1, ob_eq, if_pos e3, if_neg e4, r_226_1134 hS1, ob_eq, m8 l, nI_add, aj_256 hS1 (by omega), ob_eq, mB_sB, if_neg (by omega)]
      exact kl_step (F := f_X11_keep_L112 fu) (v := (fun i => mB M (X + 256) (8 * l + i))) hS (by omega))
    (fun fu => by
      have hS1 : St (sB M (X + 268) (wr (mB M (X + 268)) (64 * s) sz (fun i => mB M (X + 256) (8 * l + i)))) X := St_sB hS
      show f_X11_keep_L112 (fu + 1) _ (X + 226) (nI s) 4 (nI l) (nI sz) = _
      rw [f_X11_keep_L112, r_226_1154 hS1, ob_eq, ai_266 hS1 hs, ob_eq, mA_sB, h266, if_pos (nI_le (Nat.le_refl _) (by omega))]) 1000 (by omega)
  have e2 : sB M (X + 268) (wr (mB M (X + 268)) (64 * s) 0 (fun i => mB M (X + 256) (8 * l + i))) = M := sB_self _ _ (fun j => by rw [wr_0])
  rw [e2] at e
  exact e
/-- the class's memory after holdRow -/
def kR (M : Mm) (X s hk sz : Nat) : Mm := sB (sI (sI M 801 (aSh X s) (nI hk)) 802 (aSh X s) (nI sz)) (aSr X s) (fun j => if j < 60 then 0 else mB M (aSr X s) j)
def kV (M : Mm) (X s hk sz : Nat) (v : Nat → Int64) : Mm := sB (kR M X s hk sz) (aSr X s) (wr (mB (kR M X s hk sz) (aSr X s)) 0 sz v)
/-- the reference's, before its loop -/
def kS (M : Mm) (X s hk sz : Nat) (kd : Int32) : Mm := sA (sA (sA (sI M 1100 (X + 226) 0) (X + 265) (va_up (mA M (X + 265)) s (nI hk))) (X + 266) (va_up (mA M (X + 266)) s (nI sz))) (X + 267) (va_up (mA M (X + 267)) s kd)
theorem St_kR {M : Mm} {X s hk sz : Nat} (h : St M X) : St (kR M X s hk sz) X := St_sB (St_sI (St_sI h))
theorem St_kV {M : Mm} {X s hk sz : Nat} {v : Nat → Int64} (h : St M X) : St (kV M X s hk sz v) X := St_sB (St_kR h)
theorem St_kS {M : Mm} {X s hk sz : Nat} {kd : Int32} (h : St M X) : St (kS M X s hk sz kd) X := St_sA (St_sA (St_sA (St_sI h)))
theorem kS_266 {M : Mm} {X s hk sz : Nat} {kd : Int32} : mA (kS M X s hk sz kd) (X + 266) s = nI sz := by
  unfold kS; rw [mA_sA, if_neg (by omega), mA_sA, if_pos rfl, vau_eq]
theorem kS_265 {M : Mm} {X s hk sz : Nat} {kd : Int32} : mA (kS M X s hk sz kd) (X + 265) s = nI hk := by
  unfold kS; rw [mA_sA, if_neg (by omega), mA_sA, if_neg (by omega), mA_sA, if_pos rfl, vau_eq]
theorem kS_267 {M : Mm} {X s hk sz : Nat} {kd : Int32} : mA (kS M X s hk sz kd) (X + 267) s = kd := by
  unfold kS; rw [mA_sA, if_pos rfl, vau_eq]
theorem kS_A {M : Mm} {X s hk sz a : Nat} {kd : Int32} (h : a ≠ X + 265) (h2 : a ≠ X + 266) (h3 : a ≠ X + 267) : mA (kS M X s hk sz kd) a = mA M a := by
  unfold kS; rw [mA_sA, if_neg h3, mA_sA, if_neg h2, mA_sA, if_neg h, mA_sI]
theorem kS_B {M : Mm} {X s hk sz : Nat} {kd : Int32} : mB (kS M X s hk sz kd) = mB M := by
  unfold kS; rw [mB_sA, mB_sA, mB_sA, mB_sI]
theorem kS_I {M : Mm} {X s hk sz num : Nat} {kd : Int32} (h : num ≠ 1100) : mI (kS M X s hk sz kd) num = mI M num := by
  unfold kS; rw [mI_sA, mI_sA, mI_sA]; funext y; rw [mI_sI, if_neg h]
theorem ks_tail {M : Mm} {X s hk sz : Nat} {c : Int32} (hS : St M X) (hs : s < 8) : f_X11_keep_J87 (sA (sI M 1100 (X + 226) 0) (X + 265) (va_up (mA (sI M 1100 (X + 226) 0) (X + 265)) s (nI hk))) (X + 226) (nI s) (nI hk) c (X + 266) (nI s) (nI sz) = if nI hk = 1 then (aI (sA (sA (sI M 1100 (X + 226) 0) (X + 265) (va_up (mA M (X + 265)) s (nI hk))) (X + 266) (va_up (mA M (X + 266)) s (nI sz))) (X + 241) c).bind (fun kd => f_X11_keep_L112 1000 (kS M X s hk sz kd) (X + 226) (nI s) (nI hk) c 0) else f_X11_keep_L112 1000 (kS M X s hk sz 0) (X + 226) (nI s) (nI hk) c 0 := by
  rw [mA_sI]
  generalize hA : sA (sI M 1100 (X + 226) 0) (X + 265) (va_up (mA M (X + 265)) s (nI hk)) = Ma
  have hSa : St Ma X := by rw [← hA]; exact St_sA (St_sI hS)
  have e266 : mA Ma (X + 266) = mA M (X + 266) := by rw [← hA, mA_sA, if_neg (by omega), mA_sI]
  unfold f_X11_keep_J87
  rw [wi_266 hSa hs, ob_eq, e266]
  generalize hB : sA Ma (X + 266) (va_up (mA M (X + 266)) s (nI sz)) = Mb
  have hSb : St Mb X := by rw [← hB]; exact St_sA hSa
  have e267 : mA Mb (X + 267) = mA M (X + 267) := by rw [← hB, mA_sA, if_neg (by omega), ← hA, mA_sA, if_neg (by omega), mA_sI]
  have ek : ∀ kd : Int32, sA Mb (X + 267) (va_up (mA Mb (X + 267)) s kd) = kS M X s hk sz kd := by
    intro kd; rw [e267, ← hB, ← hA]; rfl
  rw [r_226_1155 hSb, ob_eq]
  by_cases q : nI hk = 1
  · rw [if_pos q, if_pos q, r_226_1119 hSb, ob_eq]
    congr 1
    funext kd
    unfold f_X11_keep_J108
    rw [wi_267 hSb hs, ob_eq, ek]
  · rw [if_neg q, if_neg q]
    unfold f_X11_keep_J108
    rw [wi_267 hSb hs, ob_eq, ek]
theorem Ag_kS {M : Mm} {X N n s hk sz : Nat} {kd : Int32} : Ag X N n (TIs X s) (TAs X s) (TBs X s) M (kS M X s hk sz kd) := by
  refine ⟨fun num a h1 h2 h3 => by rw [kS_I (fun e => h1 (by unfold ScI; omega))], fun a j h1 h2 h3 => ?_, fun a j _ _ _ => by rw [kS_B], fun a _ => ⟨rfl, rfl⟩, fun _ _ _ _ => rfl, fun _ _ _ _ => rfl, Nat.le_refl _⟩
  by_cases e : a = X + 265 ∨ a = X + 266 ∨ a = X + 267
  · have hj : j ≠ s := fun q => h2 ⟨e, q⟩
    unfold kS
    rcases e with e | e | e
    · subst e; rw [mA_sA, if_neg (by omega), mA_sA, if_neg (by omega), mA_sA, if_pos rfl, vau_ne hj]
    · subst e; rw [mA_sA, if_neg (by omega), mA_sA, if_pos rfl, vau_ne hj]
    · subst e; rw [mA_sA, if_pos rfl, vau_ne hj]
  · rw [kS_A (fun q => e (Or.inl q)) (fun q => e (Or.inr (Or.inl q))) (fun q => e (Or.inr (Or.inr q)))]
theorem Ag_kR {M : Mm} {X N n s hk sz : Nat} : Ag X N n (TIs X s) (TAs X s) (TBs X s) M (kR M X s hk sz) := by
  unfold kR
  refine Ag.cB (Ag.cI (Ag.cI Ag.rf ?_) ?_) ?_
  · exact Or.inr (Or.inl ⟨by decide, by decide, rfl⟩)
  · exact Or.inr (Or.inl ⟨by decide, by decide, rfl⟩)
  · exact Or.inr (Or.inr (fun j t => absurd (Or.inl rfl) t))
theorem Ag_kV {M : Mm} {X N n s hk sz : Nat} {v : Nat → Int64} : Ag X N n (TIs X s) (TAs X s) (TBs X s) M (kV M X s hk sz v) :=
  Ag.cB Ag_kR (Or.inr (Or.inr (fun j t => absurd (Or.inl rfl) t)))
/-- both ends hold the same row -/
theorem inv_row {M : Mm} {X p n w s hk sz : Nat} {z : Nat → Nat} {v : Nat → Int64} {kd : Int32} (H : Inv M X p n w z) (hs : s < 8) (h2 : 2 ≤ hk) (h4 : hk ≤ 4) (hz : sz ≤ 60) : Inv (sB (kS (kV M X s hk sz v) X s hk sz kd) (X + 268) (wr (mB (kS (kV M X s hk sz v) X s hk sz kd) (X + 268)) (64 * s) sz v)) X p n w z := by
  refine inv_shelf H hs ?_ ?_
  · exact Ag.cBw (Ag_kV.tr' Ag_kS) (fun j q1 q2 => Or.inr ⟨rfl, q1, by omega⟩)
  · have eI : ∀ num, ¬ num = 1100 → mI (sB (kS (kV M X s hk sz v) X s hk sz kd) (X + 268) (wr (mB (kS (kV M X s hk sz v) X s hk sz kd) (X + 268)) (64 * s) sz v)) num = mI (kV M X s hk sz v) num := by
      intro num hn; rw [mI_sB, kS_I hn]
    have i801 : mI (kV M X s hk sz v) 801 (aSh X s) = nI hk := by unfold kV kR; rw [mI_sB, mI_sB, mI_sI, if_neg (by decide), mI_sI, if_pos rfl, if_pos rfl]
    have i802 : mI (kV M X s hk sz v) 802 (aSh X s) = nI sz := by unfold kV kR; rw [mI_sB, mI_sB, mI_sI, if_pos rfl, if_pos rfl]
    refine ⟨by rw [eI 801 (by decide), mA_sB, kS_265]; exact i801, hk, h4, by rw [mA_sB, kS_265], fun q => absurd h2 (by omega), fun _ => ⟨sz, hz, by rw [eI 802 (by decide)]; exact i802, by rw [mA_sB, kS_266], fun k hkk => ?_⟩⟩
    rw [mB_sB, if_pos rfl, wr_in hkk, mB_sB, if_neg (by unfold aSr; omega), kS_B]
    unfold kV
    rw [mB_sB, if_pos rfl, wr0_in hkk]
