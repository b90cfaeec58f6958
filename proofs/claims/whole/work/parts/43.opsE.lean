/-! spent -/
def sm (c : Nat → Bool) (v : Nat → Int64) : Nat → Int64
  | 0 => 0
  | n + 1 => if c n then sm c v n + v n else sm c v n
def wbs (kd wd : Nat → Int32) : Nat → Nat → Int32
  | 0, _ => 26
  | f + 1, i => wbs kd wd f i + (wd f + (if kd f = 2 then 8 else if kd f = 3 then 8 else 0))
theorem wb10 {M : Mm} {X p : Nat} (hS : St M X) (p1 : mI M 604 (X + 1) = nI p) (p8 : p ≤ 8) : f_X6_wholeBits M (X + 1) = some (wbs (mA M (X + 2)) (mA M (X + 3)) p 0) := by
  unfold f_X6_wholeBits
  rw [if_pos (k_1 hS)]
  exact loop_run (fun fu i => f_X6_wholeBits_L5 M fu (X + 1) (wbs (mA M (X + 2)) (mA M (X + 3)) i 0) (nI i)) p (some (wbs (mA M (X + 2)) (mA M (X + 3)) p 0))
    (fun i fu hi => by
      show f_X6_wholeBits_L5 M (fu + 1) (X + 1) (wbs (mA M (X + 2)) (mA M (X + 3)) i 0) (nI i) = f_X6_wholeBits_L5 M fu (X + 1) (wbs (mA M (X + 2)) (mA M (X + 3)) (i + 1) 0) (nI (i + 1))
      rw [f_X6_wholeBits_L5, gi_1 hS, ob_eq, p1, if_neg (nI_ge hi (by omega)), r_1_601 hS, ob_eq, ai_3 hS (by omega), ob_eq, hs_in hS p1 p8 hi, ob_eq]
      unfold f_X6_wholeBits_J34
      show _ = f_X6_wholeBits_L5 M fu (X + 1) (wbs (mA M (X + 2)) (mA M (X + 3)) i 0 + (mA M (X + 3) i + (if mA M (X + 2) i = 2 then 8 else if mA M (X + 2) i = 3 then 8 else 0))) (nI (i + 1))
      rw [nI_1]
      by_cases q : mA M (X + 2) i = 2
      · rw [if_pos q, if_pos q, if_neg (by decide)]
      · rw [if_neg q, if_neg q]
        by_cases q2 : mA M (X + 2) i = 3
        · rw [if_pos q2, if_pos q2, if_neg (by decide)]
        · rw [if_neg q2, if_neg q2, if_pos rfl])
    (fun fu => by
      show f_X6_wholeBits_L5 M (fu + 1) (X + 1) (wbs (mA M (X + 2)) (mA M (X + 3)) p 0) (nI p) = _
      rw [f_X6_wholeBits_L5, gi_1 hS, ob_eq, p1, if_pos (nI_le (Nat.le_refl _) (by omega))]) 1000 (by omega)
theorem wb11 {M : Mm} {X p : Nat} (hS : St M X) (p1 : mI M 1101 (X + 226) = nI p) (p8 : p ≤ 8) : f_X11_wholeBits M (X + 226) = some (wbs (mA M (X + 227)) (mA M (X + 228)) p 0) := by
  unfold f_X11_wholeBits
  rw [if_pos (k_226 hS)]
  exact loop_run (fun fu i => f_X11_wholeBits_L5 M fu (X + 226) (wbs (mA M (X + 227)) (mA M (X + 228)) i 0) (nI i)) p (some (wbs (mA M (X + 227)) (mA M (X + 228)) p 0))
    (fun i fu hi => by
      show f_X11_wholeBits_L5 M (fu + 1) (X + 226) (wbs (mA M (X + 227)) (mA M (X + 228)) i 0) (nI i) = f_X11_wholeBits_L5 M fu (X + 226) (wbs (mA M (X + 227)) (mA M (X + 228)) (i + 1) 0) (nI (i + 1))
      rw [f_X11_wholeBits_L5, gi_226 hS, ob_eq, p1, if_neg (nI_ge hi (by omega)), r_226_1103 hS, ob_eq, ai_228 hS (by omega), ob_eq, ru_in hS (by omega), ob_eq]
      unfold f_X11_wholeBits_J34
      show _ = f_X11_wholeBits_L5 M fu (X + 226) (wbs (mA M (X + 227)) (mA M (X + 228)) i 0 + (mA M (X + 228) i + (if mA M (X + 227) i = 2 then 8 else if mA M (X + 227) i = 3 then 8 else 0))) (nI (i + 1))
      rw [nI_1]
      by_cases q : mA M (X + 227) i = 2
      · rw [if_pos q, if_pos q, if_neg (by decide)]
      · rw [if_neg q, if_neg q]
        by_cases q2 : mA M (X + 227) i = 3
        · rw [if_pos q2, if_pos q2, if_neg (by decide)]
        · rw [if_neg q2, if_neg q2, if_pos rfl])
    (fun fu => by
      show f_X11_wholeBits_L5 M (fu + 1) (X + 226) (wbs (mA M (X + 227)) (mA M (X + 228)) p 0) (nI p) = _
      rw [f_X11_wholeBits_L5, gi_226 hS, ob_eq, p1, if_pos (nI_le (Nat.le_refl _) (by omega))]) 1000 (by omega)
theorem wbs_eq {M : Mm} {X p : Nat} (p8 : p ≤ 8) (h : ∀ f, f < p → IF M X f) : ∃ W, W ≤ 26 + 40 * p ∧ wbs (mA M (X + 2)) (mA M (X + 3)) p 0 = nI W ∧ wbs (mA M (X + 227)) (mA M (X + 228)) p 0 = nI W := by
  induction p with
  | zero => exact ⟨26, by decide, rfl, rfl⟩
  | succ p ih =>
    obtain ⟨W, w1, w2, w3⟩ := ih (by omega) (fun f hf => h f (by omega))
    obtain ⟨f1, f2, -, ⟨wd, g1, g2, g3⟩, -⟩ := h p (by omega)
    have e8 : (8 : Int32) = nI 8 := rfl
    have e0 : (0 : Int32) = nI 0 := rfl
    have key : ∀ b : Nat, b ≤ 8 → nI W + (nI wd + nI b) = nI (W + (wd + b)) := fun b hb => by rw [nI_add, nI_add]
    have main : ∃ b : Nat, b ≤ 8 ∧ (if mA M (X + 2) p = 2 then (8 : Int32) else if mA M (X + 2) p = 3 then 8 else 0) = nI b := by
      by_cases q : mA M (X + 2) p = 2
      · exact ⟨8, by decide, by rw [if_pos q]; rfl⟩
      · by_cases q2 : mA M (X + 2) p = 3
        · exact ⟨8, by decide, by rw [if_neg q, if_pos q2]; rfl⟩
        · exact ⟨0, by decide, by rw [if_neg q, if_neg q2]; rfl⟩
    obtain ⟨b, b1, b2⟩ := main
    refine ⟨W + (wd + b), by omega, ?_, ?_⟩
    · show wbs (mA M (X + 2)) (mA M (X + 3)) p 0 + (mA M (X + 3) p + _) = _
      rw [w2, g3, b2, key b b1]
    · show wbs (mA M (X + 227)) (mA M (X + 228)) p 0 + (mA M (X + 228) p + _) = _
      rw [w3, f2, f1, g3, b2, key b b1]
def spc (M : Mm) (X : Nat) (fl k : Int32) (l : Nat) : Bool := decide (mA M (X + 247) l = 0) && (decide (mA M (X + 242) l = fl) && decide (mA M (X + 241) l = k))
theorem sp10 {M : Mm} {X p n : Nat} {z : Nat → Nat} {fl k what : Int32} (hS : St M X) (hC : IC M X n) (hL : ∀ l, l < n → IL M X p z l) : f_X10_spent_L38 M 1000 X fl k what 0 0 0 = if what = 0 then some (sm (spc M X fl k) (fun _ => 1) n) else if what = 1 then some (sm (spc M X fl k) (fun l => (mA M (X + 244) l).toInt64) n) else if k ≤ 2 then (f_X6_wholeBits M (X + 1)).bind (fun v => some (sm (spc M X fl k) (fun _ => 1) n * v.toInt64 - sm (spc M X fl k) (fun l => (mA M (X + 244) l).toInt64) n)) else some 0 := by
  have h200 := hC.1
  exact loop_run (fun fu i => f_X10_spent_L38 M fu X fl k what (sm (spc M X fl k) (fun _ => 1) i) (sm (spc M X fl k) (fun l => (mA M (X + 244) l).toInt64) i) (nI i)) n _
    (fun i fu hi => by
      show f_X10_spent_L38 M (fu + 1) X fl k what (sm (spc M X fl k) (fun _ => 1) i) (sm (spc M X fl k) (fun l => (mA M (X + 244) l).toInt64) i) (nI i) = f_X10_spent_L38 M fu X fl k what (sm (spc M X fl k) (fun _ => 1) (i + 1)) (sm (spc M X fl k) (fun l => (mA M (X + 244) l).toInt64) (i + 1)) (nI (i + 1))
      obtain ⟨h1, h2, h3, h4, ⟨kk, g5, h5, h5b⟩, ⟨fi, g6, h6, h6b⟩, h7, ⟨nb, g8, h8, h8b⟩, h9, h10, h11, h12, h13, -⟩ := hL i hi
      rw [f_X10_spent_L38, gi_0 hS, ob_eq, hC.2.1, if_neg (nI_ge hi (by omega)), r_0_1005 hS, ob_eq, aN_of (k_194 hS) (n_194 hS) (by omega) (by decide), ob_eq, h1, nm_some, gI_of h2, ob_eq, gI_of h2, ob_eq, gI_of h2, ob_eq, gI_of h2, ob_eq, h5, h6, h8, ← h12]
      unfold f_X10_spent_J104
      rw [nI_1]
      by_cases q : spc M X fl k i = true
      · have e1 : sm (spc M X fl k) (fun _ => 1) (i + 1) = sm (spc M X fl k) (fun _ => 1) i + 1 := if_pos q
        have e2 : sm (spc M X fl k) (fun l => (mA M (X + 244) l).toInt64) (i + 1) = sm (spc M X fl k) (fun l => (mA M (X + 244) l).toInt64) i + (mA M (X + 244) i).toInt64 := if_pos q
        rw [e1, e2]
        unfold spc at q
        rw [Bool.and_eq_true, Bool.and_eq_true, decide_eq_true_eq, decide_eq_true_eq, decide_eq_true_eq] at q
        rw [if_pos q.1, if_pos (h5b.symm.trans q.2.2), if_pos (h6b.symm.trans q.2.1), h8b]
      · have e1 : sm (spc M X fl k) (fun _ => 1) (i + 1) = sm (spc M X fl k) (fun _ => 1) i := if_neg q
        have e2 : sm (spc M X fl k) (fun l => (mA M (X + 244) l).toInt64) (i + 1) = sm (spc M X fl k) (fun l => (mA M (X + 244) l).toInt64) i := if_neg q
        rw [e1, e2]
        unfold spc at q
        rw [Bool.and_eq_true, Bool.and_eq_true, decide_eq_true_eq, decide_eq_true_eq, decide_eq_true_eq] at q
        by_cases q1 : mA M (X + 247) i = 0
        · rw [if_pos q1]
          by_cases q2 : nI kk = k
          · rw [if_pos q2, if_neg (fun q3 => q ⟨q1, h6b.trans q3, h5b.trans q2⟩)]
          · rw [if_neg q2]
        · rw [if_neg q1])
    (fun fu => by
      show f_X10_spent_L38 M (fu + 1) X fl k what (sm (spc M X fl k) (fun _ => 1) n) (sm (spc M X fl k) (fun l => (mA M (X + 244) l).toInt64) n) (nI n) = _
      rw [f_X10_spent_L38, gi_0 hS, ob_eq, hC.2.1, if_pos (nI_le (Nat.le_refl _) (by omega)), r_0_1001 hS, ob_eq]) 1000 (by omega)
theorem sp11 {M : Mm} {X p n : Nat} {fl k what W : Int32} (hS : St M X) (hC : IC M X n) (hW : f_X11_wholeBits M (X + 226) = some W) : f_X11_spent_L46 1000 M (X + 226) fl k what 0 0 = some (M, sm (spc M X fl k) (fun l => if what = 0 then 1 else if what = 1 then (mA M (X + 244) l).toInt64 else if 3 ≤ k then 0 else (W - mA M (X + 244) l).toInt64) n) := by
  have h200 := hC.1
  exact loop_run (fun fu i => f_X11_spent_L46 fu M (X + 226) fl k what (sm (spc M X fl k) (fun l => if what = 0 then 1 else if what = 1 then (mA M (X + 244) l).toInt64 else if 3 ≤ k then 0 else (W - mA M (X + 244) l).toInt64) i) (nI i)) n _
    (fun i fu hi => by
      show f_X11_spent_L46 (fu + 1) M (X + 226) fl k what (sm (spc M X fl k) (fun l => if what = 0 then 1 else if what = 1 then (mA M (X + 244) l).toInt64 else if 3 ≤ k then 0 else (W - mA M (X + 244) l).toInt64) i) (nI i) = f_X11_spent_L46 fu M (X + 226) fl k what (sm (spc M X fl k) (fun l => if what = 0 then 1 else if what = 1 then (mA M (X + 244) l).toInt64 else if 3 ≤ k then 0 else (W - mA M (X + 244) l).toInt64) (i + 1)) (nI (i + 1))
      rw [f_X11_spent_L46, gi_226 hS, ob_eq, hC.2.2.1, if_neg (nI_ge hi (by omega)), r_226_1125 hS, ob_eq, az_247 hS (by omega), ob_eq, r_226_1120 hS, ob_eq, ai_242 hS (by omega), ob_eq, r_226_1119 hS, ob_eq, ai_241 hS (by omega), ob_eq, r_226_1122 hS, ob_eq, ai_244 hS (by omega), ob_eq, hW, ob_eq, ob_eq, ai_244 hS (by omega), ob_eq]
      unfold f_X11_spent_J135 f_X11_spent_J138
      rw [nI_1]
      by_cases q : spc M X fl k i = true
      · have e1 : sm (spc M X fl k) (fun l => if what = 0 then 1 else if what = 1 then (mA M (X + 244) l).toInt64 else if 3 ≤ k then 0 else (W - mA M (X + 244) l).toInt64) (i + 1) = sm (spc M X fl k) (fun l => if what = 0 then 1 else if what = 1 then (mA M (X + 244) l).toInt64 else if 3 ≤ k then 0 else (W - mA M (X + 244) l).toInt64) i + (if what = 0 then 1 else if what = 1 then (mA M (X + 244) i).toInt64 else if 3 ≤ k then 0 else (W - mA M (X + 244) i).toInt64) := if_pos q
        rw [e1]
        unfold spc at q
        rw [Bool.and_eq_true, Bool.and_eq_true, decide_eq_true_eq, decide_eq_true_eq, decide_eq_true_eq] at q
        rw [if_pos q.1, if_pos q.2.1, if_pos q.2.2]
        by_cases c0 : what = 0
        · rw [if_pos c0, if_pos c0]
        · rw [if_neg c0, if_neg c0]
          by_cases c1 : what = 1
          · rw [if_pos c1, if_pos c1]
          · rw [if_neg c1, if_neg c1]
            by_cases c2 : 3 ≤ k
            · rw [if_pos c2, if_pos c2]
            · rw [if_neg c2, if_neg c2]
      · have e1 : sm (spc M X fl k) (fun l => if what = 0 then 1 else if what = 1 then (mA M (X + 244) l).toInt64 else if 3 ≤ k then 0 else (W - mA M (X + 244) l).toInt64) (i + 1) = sm (spc M X fl k) (fun l => if what = 0 then 1 else if what = 1 then (mA M (X + 244) l).toInt64 else if 3 ≤ k then 0 else (W - mA M (X + 244) l).toInt64) i := if_neg q
        rw [e1]
        unfold spc at q
        rw [Bool.and_eq_true, Bool.and_eq_true, decide_eq_true_eq, decide_eq_true_eq, decide_eq_true_eq] at q
        by_cases q1 : mA M (X + 247) i = 0
        · rw [if_pos q1]
          by_cases q2 : mA M (X + 242) i = fl
          · rw [if_pos q2, if_neg (fun q3 => q ⟨q1, q2, q3⟩)]
          · rw [if_neg q2]
        · rw [if_neg q1])
    (fun fu => by
      show f_X11_spent_L46 (fu + 1) M (X + 226) fl k what _ (nI n) = _
      rw [f_X11_spent_L46, gi_226 hS, ob_eq, hC.2.2.1, if_pos (nI_le (Nat.le_refl _) (by omega))]) 1000 (by omega)
theorem sm_congr {c : Nat → Bool} {v v' : Nat → Int64} : ∀ {n : Nat}, (∀ l, l < n → v l = v' l) → sm c v n = sm c v' n
  | 0, _ => rfl
  | n + 1, h => by
    show (if c n then sm c v n + v n else sm c v n) = if c n then sm c v' n + v' n else sm c v' n
    rw [sm_congr (fun l hl => h l (by omega)), h n (by omega)]
theorem sm_zero {c : Nat → Bool} : ∀ n : Nat, sm c (fun _ => 0) n = 0
  | 0 => rfl
  | n + 1 => by
    show (if c n then sm c (fun _ => 0) n + 0 else sm c (fun _ => 0) n) = 0
    rw [sm_zero n]
    by_cases q : c n = true
    · rw [if_pos q]; rfl
    · rw [if_neg q]
theorem i64r (c W b v : Int64) : (c + 1) * W - (b + v) = c * W - b + (W - v) := by
  rw [Int64.add_mul, Int64.one_mul, Int64.sub_eq_add_neg, Int64.sub_eq_add_neg, Int64.sub_eq_add_neg, Int64.neg_add]
  simp only [Int64.add_assoc, Int64.sub_eq_add_neg]
  rw [← Int64.add_assoc W, Int64.add_comm W, Int64.add_assoc]
theorem sm_lin {c : Nat → Bool} {v : Nat → Int64} {W : Int64} : ∀ n : Nat, sm c (fun l => W - v l) n = sm c (fun _ => 1) n * W - sm c v n
  | 0 => by show (0 : Int64) = 0 * W - 0; rw [Int64.zero_mul]; rfl
  | n + 1 => by
    show (if c n then sm c (fun l => W - v l) n + (W - v n) else sm c (fun l => W - v l) n) = (if c n then sm c (fun _ => 1) n + 1 else sm c (fun _ => 1) n) * W - (if c n then sm c v n + v n else sm c v n)
    rw [sm_lin n]
    by_cases q : c n = true
    · rw [if_pos q, if_pos q, if_pos q, i64r]
    · rw [if_neg q, if_neg q, if_neg q]
theorem w64_sub {a b : Nat} (ha : a < 2 ^ 30) (hb : b < 2 ^ 30) : (nI a - nI b).toInt64 = (nI a).toInt64 - (nI b).toInt64 := by
  apply Int64.toInt_inj.mp
  rw [Int32.toInt_toInt64, Int32.toInt_sub, Int64.toInt_sub, Int32.toInt_toInt64, Int32.toInt_toInt64, nI_toInt (by omega), nI_toInt (by omega)]
  rw [Int.bmod_eq_of_le_mul_two (by omega) (by omega), Int.bmod_eq_of_le_mul_two (by omega) (by omega)]
theorem op_spent {M : Mm} {X p n w : Nat} {z : Nat → Nat} (H : Inv M X p n w z) (a b c : Int32) : ∃ r, f_X10_spent M X a b c = some r ∧ f_X11_spent M (X + 226) a b c = some (sI M 1100 (X + 226) 0, r) := by
  obtain ⟨hS, hW, ⟨p8, p1, p2, p3⟩, hD, hC, hQ, hX, hZ, hL, hG, hH, hT⟩ := id H
  have hSt : St (sI M 1100 (X + 226) 0) X := St_sI hS
  have hC' : IC (sI M 1100 (X + 226) 0) X n := by
    obtain ⟨c1, c2, c3, c4⟩ := hC
    exact ⟨c1, by rw [mI_sI, if_neg (by decide)]; exact c2, by rw [mI_sI, if_neg (by decide)]; exact c3, by rw [mI_sI, if_neg (by decide)]; exact c4⟩
  have d10 : ¬ (1 : Int32) = 0 := by decide
  obtain ⟨W, w1, w2, w3⟩ := wbs_eq p8 p3
  have hWb : f_X11_wholeBits (sI M 1100 (X + 226) 0) (X + 226) = some (nI W) := by
    rw [wb11 hSt (by rw [mI_sI, if_neg (by decide)]; exact p2) p8, mA_sI, w3]
  unfold f_X10_spent f_X11_spent
  rw [if_pos (k_0 hS), if_pos (k_226 hS), pi_226 hS, ob_eq, isIn_0_5, isIn_0_2, ob_eq, ob_eq, sp10 hS hC hL, sp11 (p := p) hSt hC' hWb, wb10 hS p1 p8, ob_eq, w2]
  rcases ix_cases a (n := 8) (by omega) with h | ⟨i, hi, rfl⟩
  · rw [(fl_out h).1, (fl_out h).2.1, ob_eq, ob_eq, if_pos rfl, if_pos rfl]; exact ⟨_, rfl, rfl⟩
  rw [(fl_in hi).1, (fl_in hi).2.1, ob_eq, ob_eq, if_neg d10, if_neg d10]
  by_cases b0 : b < 0
  · rw [if_pos b0, if_pos b0, if_pos rfl]; exact ⟨_, rfl, rfl⟩
  rw [if_neg b0, if_neg b0]
  by_cases b1 : 5 < b
  · rw [if_pos b1, if_pos b1, if_pos rfl]; exact ⟨_, rfl, rfl⟩
  rw [if_neg b1, if_neg b1, if_neg d10]
  by_cases c0 : c < 0
  · rw [if_pos c0, if_pos c0, if_pos rfl]; exact ⟨_, rfl, rfl⟩
  rw [if_neg c0, if_neg c0]
  by_cases c1 : c ≤ 2
  rotate_left
  · rw [if_neg c1, if_pos (Int32.not_le.mp c1), if_pos rfl]; exact ⟨_, rfl, rfl⟩
  rw [if_pos c1, if_neg (Int32.not_lt.mpr c1), if_neg d10]
  have es : spc (sI M 1100 (X + 226) 0) X (nI i) b = spc M X (nI i) b := rfl
  rw [es, mA_sI]
  by_cases x0 : c = 0
  · rw [if_pos x0]
    refine ⟨_, rfl, ?_⟩
    rw [sm_congr (v' := fun _ => 1) (fun l hl => if_pos x0)]
  by_cases x1 : c = 1
  · rw [if_neg x0, if_pos x1]
    refine ⟨_, rfl, ?_⟩
    rw [sm_congr (v' := fun l => (mA M (X + 244) l).toInt64) (fun l hl => by rw [if_neg x0, if_pos x1])]
  rw [if_neg x0, if_neg x1]
  by_cases x2 : b ≤ 2
  · rw [if_pos x2]
    refine ⟨_, rfl, ?_⟩
    have x3 : ¬ 3 ≤ b := fun q => absurd (Int32.le_trans q x2) (by decide)
    rw [sm_congr (v' := fun l => (nI W).toInt64 - (mA M (X + 244) l).toInt64) (fun l hl => by
      obtain ⟨h1, h2, h3, h4, h5, h6, h7, ⟨nb, g8, h8, h8b⟩, -⟩ := hL l hl
      rw [if_neg x0, if_neg x1, if_neg x3, h8b]
      exact w64_sub (by omega) (by omega)), sm_lin]
  · rw [if_neg x2]
    have x3 : 3 ≤ b := by
      have q1 := Int32.lt_iff_toInt_lt.mp (Int32.not_le.mp x2)
      exact Int32.le_iff_toInt_le.mpr (by
        have e2 : (2 : Int32).toInt = 2 := by decide
        have e3 : (3 : Int32).toInt = 3 := by decide
        rw [e2] at q1; rw [e3]; omega)
    refine ⟨_, rfl, ?_⟩
    rw [sm_congr (v' := fun _ => 0) (fun l hl => by rw [if_neg x0, if_neg x1, if_pos x3]), sm_zero]
