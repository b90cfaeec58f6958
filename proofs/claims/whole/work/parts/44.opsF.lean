/-! field -/
def apM (M : Mm) (X p : Nat) (a b t d : Int32) : Mm := sI (sA (sA (sA (sA M (X + 2) (va_up (mA M (X + 2)) p a)) (X + 3) (va_up (mA M (X + 3)) p b)) (X + 4) (va_up (mA M (X + 4)) p t)) (X + 5) (va_up (mA M (X + 5)) p d)) 604 (X + 1) (nI (p + 1))
theorem ap_eq {M : Mm} {X p : Nat} {a b c d : Int32} (hS : St M X) (p1 : mI M 604 (X + 1) = nI p) (hp : p < 8) : f_X6_append M (X + 1) a b c d = some (apM M X p a b (if a = 1 then c else 0) d, nI p) := by
  unfold f_X6_append
  have l8 : nI p < 8 := nI_lt (b := 8) hp (by decide)
  simp only [if_pos (k_1 hS), gi_1 hS, ob_eq, p1, if_pos l8, r_1_600 hS, wi_2 hS hp]
  generalize hA : sA M (X + 2) (va_up (mA M (X + 2)) p a) = Ma
  have hSa : St Ma X := by rw [← hA]; exact St_sA hS
  have pa : mI Ma 604 (X + 1) = nI p := by rw [← hA, mI_sA]; exact p1
  simp only [gi_1 hSa, ob_eq, pa, r_1_601 hSa, wi_3 hSa hp]
  generalize hB : sA Ma (X + 3) (va_up (mA Ma (X + 3)) p b) = Mb
  have hSb : St Mb X := by rw [← hB]; exact St_sA hSa
  have pb : mI Mb 604 (X + 1) = nI p := by rw [← hB, mI_sA]; exact pa
  have key : ∀ t : Int32, f_X6_append_J50 Mb (X + 1) d (X + 4) (nI p) t = some (apM M X p a b t d, nI p) := by
    intro t
    unfold f_X6_append_J50
    simp only [wi_4 hSb hp, ob_eq]
    generalize hC : sA Mb (X + 4) (va_up (mA Mb (X + 4)) p t) = Mc
    have hSc : St Mc X := by rw [← hC]; exact St_sA hSb
    have pc : mI Mc 604 (X + 1) = nI p := by rw [← hC, mI_sA]; exact pb
    simp only [gi_1 hSc, ob_eq, pc, r_1_603 hSc, wi_5 hSc hp]
    generalize hD : sA Mc (X + 5) (va_up (mA Mc (X + 5)) p d) = Md
    have hSd : St Md X := by rw [← hD]; exact St_sA hSc
    have pd : mI Md 604 (X + 1) = nI p := by rw [← hD, mI_sA]; exact pc
    simp only [gi_1 hSd, ob_eq, pd, pi_1 hSd, nI_1, gi_1 (St_sI hSd)]
    have e1 : mI (sI Md 604 (X + 1) (nI (p + 1))) 604 (X + 1) = nI (p + 1) := by rw [mI_sI, if_pos rfl, if_pos rfl]
    have e2 : nI (p + 1) - 1 = nI p := by rw [nI_succ]; exact Int32.add_sub_cancel _ _
    rw [e1, e2]
    have e3 : sI Md 604 (X + 1) (nI (p + 1)) = apM M X p a b t d := by
      rw [← hD, ← hC, ← hB, ← hA]
      unfold apM
      simp only [mA_sA, if_neg (by omega : ¬ X + 3 = X + 2), if_neg (by omega : ¬ X + 4 = X + 3), if_neg (by omega : ¬ X + 4 = X + 2), if_neg (by omega : ¬ X + 5 = X + 2), if_neg (by omega : ¬ X + 5 = X + 3), if_neg (by omega : ¬ X + 5 = X + 4)]
    rw [e3]
  simp only [gi_1 hSb, ob_eq, pb, r_1_602 hSb]
  by_cases q : a = 1
  · rw [if_pos q, if_pos q, key]
  · rw [if_neg q, if_neg q, key]
def amM (M : Mm) (X p : Nat) (a b t d : Int32) : Mm := sI (sB (sB (sA (sA (sA M (X + 227) (va_up (mA M (X + 227)) p a)) (X + 228) (va_up (mA M (X + 228)) p b)) (X + 229) (va_up (mA M (X + 229)) p t)) (X + 230) (va_up (mB M (X + 230)) p d.toInt64)) (X + 231) (va_up (mB M (X + 231)) p 0)) 1101 (X + 226) (nI (p + 1))
theorem am_eq {M : Mm} {X p : Nat} {a b c d : Int32} (hS : St M X) (p1 : mI M 1101 (X + 226) = nI p) (hp : p < 8) (h6 : mI M 1106 (X + 226) = 0) : f_X11_field_J65 M (X + 226) a b c d 1 = some (amM M X p a b c d, nI p) := by
  have d10 : ¬ (1 : Int32) = 0 := by decide
  have n8 : ¬ nI p = 8 := fun q => absurd ((nI_eq (a := p) (b := 8) (by omega) (by decide)).mp q) (by omega)
  unfold f_X11_field_J65
  simp only [if_neg d10, gi_226 hS, ob_eq, p1, if_neg n8, h6, if_true, r_226_1102 hS, wi_227 hS hp]
  generalize hA : sA M (X + 227) (va_up (mA M (X + 227)) p a) = Ma
  have hSa : St Ma X := by rw [← hA]; exact St_sA hS
  have pa : mI Ma 1101 (X + 226) = nI p := by rw [← hA, mI_sA]; exact p1
  simp only [gi_226 hSa, ob_eq, pa, r_226_1103 hSa, wi_228 hSa hp]
  generalize hB : sA Ma (X + 228) (va_up (mA Ma (X + 228)) p b) = Mb
  have hSb : St Mb X := by rw [← hB]; exact St_sA hSa
  have pb : mI Mb 1101 (X + 226) = nI p := by rw [← hB, mI_sA]; exact pa
  simp only [gi_226 hSb, ob_eq, pb, r_226_1104 hSb, wi_229 hSb hp]
  generalize hC : sA Mb (X + 229) (va_up (mA Mb (X + 229)) p c) = Mc
  have hSc : St Mc X := by rw [← hC]; exact St_sA hSb
  have pc : mI Mc 1101 (X + 226) = nI p := by rw [← hC, mI_sA]; exact pb
  simp only [gi_226 hSc, ob_eq, pc, r_226_1105 hSc, wj_230 hSc hp]
  generalize hD : sB Mc (X + 230) (va_up (mB Mc (X + 230)) p d.toInt64) = Md
  have hSd : St Md X := by rw [← hD]; exact St_sB hSc
  have pd : mI Md 1101 (X + 226) = nI p := by rw [← hD, mI_sB]; exact pc
  simp only [gi_226 hSd, ob_eq, pd, r_226_1108 hSd, wj_231 hSd hp]
  generalize hE : sB Md (X + 231) (va_up (mB Md (X + 231)) p 0) = Me
  have hSe : St Me X := by rw [← hE]; exact St_sB hSd
  have pe : mI Me 1101 (X + 226) = nI p := by rw [← hE, mI_sB]; exact pd
  simp only [gi_226 hSe, ob_eq, pe, pi_226 hSe, nI_1, gi_226 (St_sI hSe)]
  have e1 : mI (sI Me 1101 (X + 226) (nI (p + 1))) 1101 (X + 226) = nI (p + 1) := by rw [mI_sI, if_pos rfl, if_pos rfl]
  have e2 : nI (p + 1) - 1 = nI p := by rw [nI_succ]; exact Int32.add_sub_cancel _ _
  rw [e1, e2]
  have e3 : sI Me 1101 (X + 226) (nI (p + 1)) = amM M X p a b c d := by
    rw [← hE, ← hD, ← hC, ← hB, ← hA]
    unfold amM
    simp only [mA_sA, mB_sA, mB_sB, if_neg (by omega : ¬ X + 228 = X + 227), if_neg (by omega : ¬ X + 229 = X + 228), if_neg (by omega : ¬ X + 229 = X + 227), if_neg (by omega : ¬ X + 231 = X + 230)]
  rw [e3]
theorem fd_good {M Mt : Mm} {X p : Nat} (hS : St M X) (hSt : St Mt X) (p1 : mI M 604 (X + 1) = nI p) (p2 : mI Mt 1101 (X + 226) = nI p) (p8 : p ≤ 8) (a b c d : Int32) : ∃ g : Int32, f_X6_allows M (X + 1) a b c d = some g ∧ ((f_X11_isIn a.toInt64 0 4).bind fun v3 => if v3 = 0 then (f_X11_field_J64 Mt (X + 226) a b c d) else ((f_X11_isIn b.toInt64 1 32).bind fun v6 => if v6 = 0 then (f_X11_field_J64 Mt (X + 226) a b c d) else (if a = 1 then ((f_X11_isField Mt (X + 226) c).bind fun v10 => if v10 = 0 then (f_X11_field_J64 Mt (X + 226) a b c d) else (f_X11_field_J42 Mt (X + 226) a b c d)) else (f_X11_field_J42 Mt (X + 226) a b c d)))) = f_X11_field_J65 Mt (X + 226) a b c d g ∧ (g = 0 ∨ (g = 1 ∧ (∃ k, k ≤ 4 ∧ a = nI k) ∧ (∃ wd, 1 ≤ wd ∧ wd ≤ 32 ∧ b = nI wd) ∧ (a = 1 → ∃ t, t < p ∧ c = nI t))) := by
  have d10 : ¬ (1 : Int32) = 0 := by decide
  have r01 : (0 : Int32) = 0 ∨ (0 : Int32) = 1 := Or.inl rfl
  have r11 : (1 : Int32) = 0 ∨ (1 : Int32) = 1 := Or.inr rfl
  unfold f_X6_allows
  rw [if_pos (k_1 hS), isIn_0_4, isIn_1_32, ob_eq, ob_eq]
  unfold f_X11_field_J64
  by_cases a0 : a < 0
  · exact ⟨0, by rw [if_pos a0], by rw [if_pos a0, if_pos rfl], Or.inl rfl⟩
  by_cases a1 : 4 < a
  · exact ⟨0, by rw [if_neg a0, if_pos a1], by rw [if_neg a0, if_pos a1, if_pos rfl], Or.inl rfl⟩
  by_cases b0 : b < 1
  · exact ⟨0, by rw [if_neg a0, if_neg a1, if_pos b0], by rw [if_neg a0, if_neg a1, if_neg d10, if_pos b0, if_pos rfl], Or.inl rfl⟩
  by_cases b1 : b ≤ 32
  rotate_left
  · exact ⟨0, by rw [if_neg a0, if_neg a1, if_neg b0, if_neg b1], by rw [if_neg a0, if_neg a1, if_neg d10, if_neg b0, if_pos (Int32.not_le.mp b1), if_pos rfl], Or.inl rfl⟩
  have hb : ∃ wd, 1 ≤ wd ∧ wd ≤ 32 ∧ b = nI wd := by
    rcases rg_cases b 32 (by decide) with h | h | ⟨wd, h1, h2⟩
    · exact absurd (Int32.lt_trans h (by decide)) b0
    · exact absurd b1 (Int32.not_le.mpr h)
    · refine ⟨wd, Nat.le_of_not_lt (fun q => b0 ?_), h1, h2⟩
      have : wd = 0 := by omega
      subst this; rw [h2]; decide
  have ha : ∃ k, k ≤ 4 ∧ a = nI k := by
    rcases rg_cases a 4 (by decide) with h | h | ⟨k, h1, h2⟩
    · exact absurd h a0
    · exact absurd h a1
    · exact ⟨k, h1, h2⟩
  have nb1 := Int32.not_lt.mpr b1
  by_cases c1 : a = 1
  · have c3 : ¬ a = 3 := fun q => absurd (c1.symm.trans q) (by decide)
    rcases ix_cases c (n := p) (by omega) with h | ⟨t, ht, rfl⟩
    · exact ⟨0, by rw [if_neg a0, if_neg a1, if_neg b0, if_pos b1, if_pos c1, has_out hS p1 h, ob_eq, if_pos r01], by rw [if_neg a0, if_neg a1, if_neg d10, if_neg b0, if_neg nb1, if_neg d10, if_pos c1, fd_out hSt p2 h, ob_eq, if_pos rfl], Or.inl rfl⟩
    · refine ⟨1, by rw [if_neg a0, if_neg a1, if_neg b0, if_pos b1, if_pos c1, has_in hS p1 p8 ht, ob_eq, if_pos r11], ?_, Or.inr ⟨rfl, ha, hb, fun _ => ⟨t, ht, rfl⟩⟩⟩
      rw [if_neg a0, if_neg a1, if_neg d10, if_neg b0, if_neg nb1, if_neg d10, if_pos c1, fd_in hSt p2 p8 ht, ob_eq, if_neg d10]
      unfold f_X11_field_J42 f_X11_field_J60
      rw [if_neg c3]
  · by_cases c3 : a = 3
    · by_cases d0 : d < 1
      · refine ⟨0, by rw [if_neg a0, if_neg a1, if_neg b0, if_pos b1, if_neg c1, if_pos c3, if_pos d0], ?_, Or.inl rfl⟩
        rw [if_neg a0, if_neg a1, if_neg d10, if_neg b0, if_neg nb1, if_neg d10, if_neg c1]
        unfold f_X11_field_J42 f_X11_field_J64
        rw [if_pos c3, isIn_1_1000, ob_eq, if_pos d0, if_pos rfl]
      · by_cases d1 : 1000 < d
        · refine ⟨0, by rw [if_neg a0, if_neg a1, if_neg b0, if_pos b1, if_neg c1, if_pos c3, if_neg d0, if_pos d1], ?_, Or.inl rfl⟩
          rw [if_neg a0, if_neg a1, if_neg d10, if_neg b0, if_neg nb1, if_neg d10, if_neg c1]
          unfold f_X11_field_J42 f_X11_field_J64
          rw [if_pos c3, isIn_1_1000, ob_eq, if_neg d0, if_pos d1, if_pos rfl]
        · refine ⟨1, by rw [if_neg a0, if_neg a1, if_neg b0, if_pos b1, if_neg c1, if_pos c3, if_neg d0, if_neg d1], ?_, Or.inr ⟨rfl, ha, hb, fun q => absurd q c1⟩⟩
          rw [if_neg a0, if_neg a1, if_neg d10, if_neg b0, if_neg nb1, if_neg d10, if_neg c1]
          unfold f_X11_field_J42 f_X11_field_J60
          rw [if_pos c3, isIn_1_1000, ob_eq, if_neg d0, if_neg d1, if_neg d10]
    · refine ⟨1, by rw [if_neg a0, if_neg a1, if_neg b0, if_pos b1, if_neg c1, if_neg c3], ?_, Or.inr ⟨rfl, ha, hb, fun q => absurd q c1⟩⟩
      rw [if_neg a0, if_neg a1, if_neg d10, if_neg b0, if_neg nb1, if_neg d10, if_neg c1]
      unfold f_X11_field_J42 f_X11_field_J60
      rw [if_neg c3]
theorem op_field {M : Mm} {X p n w : Nat} {z : Nat → Nat} (H : Inv M X p n w z) (a b c d : Int32) : ∃ M1 M2 r p', f_X10_field M X a b c d = some (M1, r) ∧ f_X11_field M1 (X + 226) a b c d = some (M2, r) ∧ Inv M2 X p' n w z := by
  obtain ⟨hS, hW, ⟨p8, p1, p2, p3⟩, hD, hC, hQ, hX, hZ, hL, hG, hH, hT⟩ := id H
  have d10 : ¬ (1 : Int32) = 0 := by decide
  have hN := z_ge hZ n (Nat.le_refl _)
  obtain ⟨g, g1, -, g3⟩ := fd_good (Mt := M) hS hS p1 p2 p8 a b c d
  have e11 : ∀ M', St M' X → mI M' 1101 (X + 226) = nI p → f_X11_field M' (X + 226) a b c d = f_X11_field_J65 (sI M' 1100 (X + 226) 0) (X + 226) a b c d g := by
    intro M' hS' p'
    obtain ⟨g', k1, k2, -⟩ := fd_good (Mt := sI M' 1100 (X + 226) 0) hS (St_sI hS') p1 (by rw [mI_sI, if_neg (by decide)]; exact p') p8 a b c d
    have : g' = g := Option.some.inj (k1.symm.trans g1)
    subst this
    unfold f_X11_field
    rw [if_pos (k_226 hS'), pi_226 hS', ob_eq, k2]
  have e10 : f_X10_field M X a b c d = if g = 0 then some (M, -1) else if nI p < 8 then (if nI n ≤ 0 then ob2 (f_X6_append M (X + 1) a b c d) (fun M v => some (M, v)) else some (M, -3)) else some (M, -2) := by
    unfold f_X10_field
    rw [if_pos (k_0 hS), r_0_1001 hS, ob_eq, g1, ob_eq, ob_eq, gi_1 hS, ob_eq, gi_0 hS, ob_eq, ob_eq, p1, hC.2.1]
  have p2' : mI (sI M 1100 (X + 226) 0) 1101 (X + 226) = nI p := by rw [mI_sI, if_neg (by decide)]; exact p2
  have hSt : St (sI M 1100 (X + 226) 0) X := St_sI hS
  rcases g3 with g0 | ⟨gg, ⟨k, hk, rfl⟩, ⟨wd, w1, w2, rfl⟩, gt⟩
  · refine ⟨M, _, -1, p, by rw [e10, if_pos g0], ?_, inv_thr (v := 0) H⟩
    rw [e11 M hS p2]
    unfold f_X11_field_J65
    rw [if_pos g0]
  have gn : ¬ g = 0 := by rw [gg]; exact d10
  by_cases pe : p = 8
  · have n8 : ¬ nI p < 8 := by rw [pe]; decide
    refine ⟨M, _, -2, p, by rw [e10, if_neg gn, if_neg n8], ?_, inv_thr (v := 0) H⟩
    rw [e11 M hS p2]
    unfold f_X11_field_J65
    rw [if_neg gn, gi_226 hSt, ob_eq, p2', if_pos (by rw [pe]; rfl)]
  have hp : p < 8 := by omega
  have l8 : nI p < 8 := nI_lt (b := 8) hp (by decide)
  have n8 : ¬ nI p = 8 := fun q => absurd ((nI_eq (a := p) (b := 8) (by omega) (by decide)).mp q) (by omega)
  by_cases n0 : n = 0
  rotate_left
  · have q0 : ¬ nI n ≤ 0 := nI_ge (a := 0) (b := n) (by omega) (by have := hC.1; omega)
    have c4 : mI (sI M 1100 (X + 226) 0) 1106 (X + 226) = 1 := by rw [mI_sI, if_neg (by decide), hC.2.2.2, if_neg n0]
    refine ⟨M, _, -3, p, by rw [e10, if_neg gn, if_pos l8, if_neg q0], ?_, inv_thr (v := 0) H⟩
    rw [e11 M hS p2]
    unfold f_X11_field_J65
    rw [if_neg gn, gi_226 hSt, ob_eq, p2', if_neg n8, gi_226 hSt, ob_eq, c4, if_neg d10]
  subst n0
  generalize hMp : apM M X p (nI k) (nI wd) (if nI k = 1 then c else 0) d = M1
  have hS1 : St M1 X := by rw [← hMp]; exact St_sI (St_sA (St_sA (St_sA (St_sA hS))))
  have i1 : ∀ num, num ≠ 604 → mI M1 num = mI M num := by
    intro num hn; rw [← hMp]; unfold apM; funext y; rw [mI_sI, if_neg hn, mI_sA, mI_sA, mI_sA, mI_sA]
  generalize hMt : sI M1 1100 (X + 226) 0 = Mt
  have hSt1 : St Mt X := by rw [← hMt]; exact St_sI hS1
  have it : ∀ num, num ≠ 604 → num ≠ 1100 → mI Mt num = mI M num := by
    intro num hn hm; rw [← hMt]; funext y; rw [mI_sI, if_neg hm, i1 num hn]
  generalize hM2 : amM Mt X p (nI k) (nI wd) c d = M2
  have q0 : nI 0 ≤ 0 := by decide
  have eC : f_X10_field M X (nI k) (nI wd) c d = some (M1, nI p) := by
    rw [e10, if_neg gn, if_pos l8, if_pos q0, ap_eq hS p1 hp, ob2_eq, hMp]
  have eM : f_X11_field M1 (X + 226) (nI k) (nI wd) c d = some (M2, nI p) := by
    have c4 : mI Mt 1106 (X + 226) = 0 := by rw [it 1106 (by decide) (by decide), hC.2.2.2, if_pos rfl]
    rw [e11 M1 hS1 (by rw [i1 1101 (by decide)]; exact p2), hMt, gg, am_eq hSt1 (by rw [it 1101 (by decide) (by decide)]; exact p2) hp c4, hM2]
  have A : Ag X (z 0) 0 (fun num _ => num = 604 ∨ num = 1101) (fun a j => ((X + 2 ≤ a ∧ a ≤ X + 5) ∨ (X + 227 ≤ a ∧ a ≤ X + 229)) ∧ j = p) (fun a j => (a = X + 230 ∨ a = X + 231) ∧ j = p) M M2 := by
    have up : ∀ {α : Type} {f : Nat → α} {v : α} {j : Nat} {Q : Prop}, ¬ (Q ∧ j = p) → Q → va_up f p v j = f j := fun h q => vau_ne (fun e => h ⟨q, e⟩)
    have A1 : Ag X (z 0) 0 (fun num _ => num = 604 ∨ num = 1101) (fun a j => ((X + 2 ≤ a ∧ a ≤ X + 5) ∨ (X + 227 ≤ a ∧ a ≤ X + 229)) ∧ j = p) (fun a j => (a = X + 230 ∨ a = X + 231) ∧ j = p) M M1 := by
      rw [← hMp]
      unfold apM
      refine Ag.cI (Ag.cA (Ag.cA (Ag.cA (Ag.cA Ag.rf ?_) ?_) ?_) ?_) (Or.inr (Or.inl (Or.inl rfl)))
      · exact Or.inr (Or.inr (fun j t => up t (by omega)))
      · exact Or.inr (Or.inr (fun j t => (up t (by omega)).trans (by rw [mA_sA, if_neg (by omega)])))
      · exact Or.inr (Or.inr (fun j t => (up t (by omega)).trans (by rw [mA_sA, if_neg (by omega), mA_sA, if_neg (by omega)])))
      · exact Or.inr (Or.inr (fun j t => (up t (by omega)).trans (by rw [mA_sA, if_neg (by omega), mA_sA, if_neg (by omega), mA_sA, if_neg (by omega)])))
    have A2 : Ag X (z 0) 0 (fun num _ => num = 604 ∨ num = 1101) (fun a j => ((X + 2 ≤ a ∧ a ≤ X + 5) ∨ (X + 227 ≤ a ∧ a ≤ X + 229)) ∧ j = p) (fun a j => (a = X + 230 ∨ a = X + 231) ∧ j = p) M1 Mt := by rw [← hMt]; exact Ag_sI (Or.inl (by unfold ScI; omega))
    have A3 : Ag X (z 0) 0 (fun num _ => num = 604 ∨ num = 1101) (fun a j => ((X + 2 ≤ a ∧ a ≤ X + 5) ∨ (X + 227 ≤ a ∧ a ≤ X + 229)) ∧ j = p) (fun a j => (a = X + 230 ∨ a = X + 231) ∧ j = p) Mt M2 := by
      rw [← hM2]
      unfold amM
      refine Ag.cI (Ag.cB (Ag.cB (Ag.cA (Ag.cA (Ag.cA Ag.rf ?_) ?_) ?_) ?_) ?_) (Or.inr (Or.inl (Or.inr rfl)))
      · exact Or.inr (Or.inr (fun j t => up t (by omega)))
      · exact Or.inr (Or.inr (fun j t => (up t (by omega)).trans (by rw [mA_sA, if_neg (by omega)])))
      · exact Or.inr (Or.inr (fun j t => (up t (by omega)).trans (by rw [mA_sA, if_neg (by omega), mA_sA, if_neg (by omega)])))
      · exact Or.inr (Or.inr (fun j t => (up t (by omega)).trans (by rw [mB_sA, mB_sA, mB_sA])))
      · exact Or.inr (Or.inr (fun j t => (up t (by omega)).trans (by rw [mB_sB, if_neg (by omega), mB_sA, mB_sA, mB_sA])))
    exact (A1.tr' A2).tr' A3
  have aO : ∀ o f, o < 270 → f ≠ p → (o < 213 ∨ (226 < o ∧ o < 259)) → mA M2 (X + o) f = mA M (X + o) f := fun o f h1 h2 h3 => A.2.1 _ _ (by unfold ScA; omega) (fun q => h2 q.2) (by omega)
  have bO : ∀ o f, o < 270 → f ≠ p → (o < 213 ∨ (226 < o ∧ o < 259)) → mB M2 (X + o) f = mB M (X + o) f := fun o f h1 h2 h3 => A.2.2.1 _ _ (by unfold ScB; omega) (fun q => h2 q.2) (by omega)
  have n604 : mI M2 604 (X + 1) = nI (p + 1) := by
    rw [← hM2]; unfold amM; rw [mI_sI, if_neg (by decide), mI_sB, mI_sB, mI_sA, mI_sA, mI_sA, ← hMt, mI_sI, if_neg (by decide), ← hMp]; unfold apM; rw [mI_sI, if_pos rfl, if_pos rfl]
  have n1101 : mI M2 1101 (X + 226) = nI (p + 1) := by rw [← hM2]; unfold amM; rw [mI_sI, if_pos rfl, if_pos rfl]
  have kA1 : ∀ o, (o < 227 ∨ 229 < o) → mA M2 (X + o) = mA M1 (X + o) := by
    intro o ho; rw [← hM2]; unfold amM; rw [mA_sI, mA_sB, mA_sB, mA_sA, if_neg (by omega), mA_sA, if_neg (by omega), mA_sA, if_neg (by omega), ← hMt, mA_sI]
  have v2 : mA M2 (X + 2) p = nI k := by rw [kA1 2 (by omega), ← hMp]; unfold apM; rw [mA_sI, mA_sA, if_neg (by omega), mA_sA, if_neg (by omega), mA_sA, if_neg (by omega), mA_sA, if_pos rfl, vau_eq]
  have v3 : mA M2 (X + 3) p = nI wd := by rw [kA1 3 (by omega), ← hMp]; unfold apM; rw [mA_sI, mA_sA, if_neg (by omega), mA_sA, if_neg (by omega), mA_sA, if_pos rfl, vau_eq]
  have v4 : mA M2 (X + 4) p = if nI k = 1 then c else 0 := by rw [kA1 4 (by omega), ← hMp]; unfold apM; rw [mA_sI, mA_sA, if_neg (by omega), mA_sA, if_pos rfl, vau_eq]
  have v5 : mA M2 (X + 5) p = d := by rw [kA1 5 (by omega), ← hMp]; unfold apM; rw [mA_sI, mA_sA, if_pos rfl, vau_eq]
  have v227 : mA M2 (X + 227) p = nI k := by rw [← hM2]; unfold amM; rw [mA_sI, mA_sB, mA_sB, mA_sA, if_neg (by omega), mA_sA, if_neg (by omega), mA_sA, if_pos rfl, vau_eq]
  have v228 : mA M2 (X + 228) p = nI wd := by rw [← hM2]; unfold amM; rw [mA_sI, mA_sB, mA_sB, mA_sA, if_neg (by omega), mA_sA, if_pos rfl, vau_eq]
  have v229 : mA M2 (X + 229) p = c := by rw [← hM2]; unfold amM; rw [mA_sI, mA_sB, mA_sB, mA_sA, if_pos rfl, vau_eq]
  have v230 : mB M2 (X + 230) p = d.toInt64 := by rw [← hM2]; unfold amM; rw [mB_sI, mB_sB, if_neg (by omega), mB_sB, if_pos rfl, vau_eq]
  have v231 : mB M2 (X + 231) p = 0 := by rw [← hM2]; unfold amM; rw [mB_sI, mB_sB, if_pos rfl, vau_eq]
  have b7 : ∀ f, mB M2 (X + 7) f = mB M (X + 7) f := fun f => A.2.2.1 _ _ (by unfold ScB; omega) (by omega) (by omega)
  refine ⟨M1, M2, nI p, p + 1, eC, eM, St_Ag hN A hS, tr_W hN A hW (by intro a j h; first | exact False.elim h | ((try dsimp only at h); (try simp only [aSq, aSt, aRg, aHd, aHv, aCx, aCh, aCv, aCs, aSh, aSr] at h ⊢); omega)), ⟨by omega, n604, n1101, fun f hf => ?_⟩, ⟨fun f hf => ?_, fun f h1 h2 => by rw [b7]; exact hD.2 f (by omega) h2⟩, tr_C hN A hC (by intro a j h; first | exact False.elim h | ((try dsimp only at h); (try simp only [aSq, aSt, aRg, aHd, aHv, aCx, aCh, aCv, aCs, aSh, aSr] at h ⊢); omega)), fun i hi => ?_, fun i hi => ?_, tr_Z A hZ, fun l hl => absurd hl (Nat.not_lt_zero _), ?_, fun s hs => tr_H hN hs A (hH s hs) (by intro a j h; first | exact False.elim h | ((try dsimp only at h); (try simp only [aSq, aSt, aRg, aHd, aHv, aCx, aCh, aCv, aCs, aSh, aSr] at h ⊢); omega)) (by intro a j h; first | exact False.elim h | ((try dsimp only at h); (try simp only [aSq, aSt, aRg, aHd, aHv, aCx, aCh, aCv, aCs, aSh, aSr] at h ⊢); omega)) (by intro a j h; first | exact False.elim h | ((try dsimp only at h); (try simp only [aSq, aSt, aRg, aHd, aHv, aCx, aCh, aCv, aCs, aSh, aSr] at h ⊢); omega)), tr_T hN A hT (by intro a j h; first | exact False.elim h | ((try dsimp only at h); (try simp only [aSq, aSt, aRg, aHd, aHv, aCx, aCh, aCv, aCs, aSh, aSr] at h ⊢); omega)) (by intro a j h; first | exact False.elim h | ((try dsimp only at h); (try simp only [aSq, aSt, aRg, aHd, aHv, aCx, aCh, aCv, aCs, aSh, aSr] at h ⊢); omega))⟩
  · by_cases e : f = p
    · subst e
      refine ⟨v227.trans v2.symm, v228.trans v3.symm, ⟨k, hk, v2⟩, ⟨wd, w1, w2, v3⟩, by rw [v230, v5], fun q => ?_⟩
      rw [v2] at q
      obtain ⟨t, t1, t2⟩ := gt q
      rw [v229, v4, if_pos q]
      exact ⟨rfl, t, t1, t2⟩
    · obtain ⟨f1, f2, f3, f4, f5, f6⟩ := p3 f (by omega)
      unfold IF
      rw [aO 2 f (by decide) e (by decide), aO 3 f (by decide) e (by decide), aO 4 f (by decide) e (by decide), aO 5 f (by decide) e (by decide), aO 227 f (by decide) e (by decide), aO 228 f (by decide) e (by decide), aO 229 f (by decide) e (by decide), bO 230 f (by decide) e (by decide)]
      exact ⟨f1, f2, f3, f4, f5, f6⟩
  · by_cases e : f = p
    · subst e
      refine ⟨by rw [v231, b7]; exact (hD.2 f (Nat.le_refl _) hp).symm, wd, 0, v3, w1, w2, Nat.two_pow_pos _, ?_⟩
      rw [b7, hD.2 f (Nat.le_refl _) hp]
      rfl
    · rw [bO 231 f (by decide) e (by decide), b7, aO 3 f (by decide) e (by decide)]
      exact hD.1 f (by omega)
  · obtain ⟨k', r, hh, f0, q1, q2, q3, q4, q5, q6, q7, q8, q9, q10, q11, q12, q13, q14, q15⟩ := tr_Q hN p8 hW.2.2.2 hi A (hQ i hi) (by intro a j h; first | exact False.elim h | ((try dsimp only at h); (try simp only [aSq, aSt, aRg, aHd, aHv, aCx, aCh, aCv, aCs, aSh, aSr] at h ⊢); omega)) (by intro a j h; first | exact False.elim h | ((try dsimp only at h); (try simp only [aSq, aSt, aRg, aHd, aHv, aCx, aCh, aCv, aCs, aSh, aSr] at h ⊢); omega)) (by intro a j h; first | exact False.elim h | ((try dsimp only at h); (try simp only [aSq, aSt, aRg, aHd, aHv, aCx, aCh, aCv, aCs, aSh, aSr] at h ⊢); omega))
    refine ⟨k', r, hh, f0, q1, q2, q3, q4, q5, q6, q7, q8, q9, q10, q11, q12, q13, q14, fun j hj => ?_⟩
    obtain ⟨⟨u, hu, -⟩, -⟩ := q15 j hj
    omega
  · obtain ⟨x1, x2⟩ := tr_X hN p8 hi A (hX i hi) (by intro a j h; first | exact False.elim h | ((try dsimp only at h); (try simp only [aSq, aSt, aRg, aHd, aHv, aCx, aCh, aCv, aCs, aSh, aSr] at h ⊢); omega)) (by intro a j h; first | exact False.elim h | ((try dsimp only at h); (try simp only [aSq, aSt, aRg, aHd, aHv, aCx, aCh, aCv, aCs, aSh, aSr] at h ⊢); omega)) (by intro a j h; first | exact False.elim h | ((try dsimp only at h); (try simp only [aSq, aSt, aRg, aHd, aHv, aCx, aCh, aCv, aCs, aSh, aSr] at h ⊢); omega))
    refine ⟨x1, x2.imp_right (fun x => absurd x.2.1 (Nat.not_lt_zero _))⟩
  · obtain ⟨x1, x2⟩ := tr_G hN A hG (by intro a j h; first | exact False.elim h | ((try dsimp only at h); (try simp only [aSq, aSt, aRg, aHd, aHv, aCx, aCh, aCv, aCs, aSh, aSr] at h ⊢); omega)) (by intro a j h; first | exact False.elim h | ((try dsimp only at h); (try simp only [aSq, aSt, aRg, aHd, aHv, aCx, aCh, aCv, aCs, aSh, aSr] at h ⊢); omega)) (by intro a j h; first | exact False.elim h | ((try dsimp only at h); (try simp only [aSq, aSt, aRg, aHd, aHv, aCx, aCh, aCv, aCs, aSh, aSr] at h ⊢); omega))
    exact ⟨x1, x2.imp_right (fun x => absurd x.1 (Nat.not_lt_zero _))⟩
