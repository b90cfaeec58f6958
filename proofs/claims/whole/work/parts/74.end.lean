/-! The end of a letter. -/
def eS (len : Nat) (r : Nat → Nat) (c : Bool) (a : Nat) : Prop := len = (a + 7) / 8 + (if c then 1 else 0) ∧ rdv r a (8 * ((a + 7) / 8) - a) = 0 ∧ (c = true → r ((a + 7) / 8) = cbv r ((a + 7) / 8))
def okE (len : Nat) (r : Nat → Nat) (k a : Nat) : Prop := if k = 1 ∨ k = 2 then a + 8 ≤ 8 * len ∧ eS len r false (a + 8) else eS len r true a
def ckb (k : Nat) : Bool := decide (¬ (k = 1 ∨ k = 2))
theorem ec_k {k : Nat} (hk : k < 8) : f_X10_endsInCheck (nI k) = some (if ckb k then 1 else 0) := by
  have : ∀ q, q < 8 → f_X10_endsInCheck (nI q) = some (if ckb q then 1 else 0) := by decide
  exact this k hk
theorem rdv_z {r : Nat → Nat} {a : Nat} : ∀ {n : Nat}, rdv r a n = 0 ↔ ∀ t, t < n → bt r (a + t) = 0
  | 0 => ⟨fun _ t h => absurd h (Nat.not_lt_zero _), fun _ => rfl⟩
  | n + 1 => by
    show 2 * rdv r a n + bt r (a + n) = 0 ↔ _
    constructor
    · intro h t ht
      by_cases e : t = n
      · subst e; omega
      · exact (rdv_z (n := n)).mp (by omega) t (by omega)
    · intro h
      have h1 := (rdv_z (r := r) (a := a) (n := n)).mpr (fun t ht => h t (by omega))
      have h2 := h n (by omega)
      omega
theorem cs_sI {M : Mm} {X a num x : Nat} {br v : Int32} {g7 g8 g9 : Nat → Int32} {h0 : Nat → Int64} (h1 : ¬ num = 10) (h2 : ¬ num = 11) : sI (cs M X a br g7 g8 g9 h0) num x v = cs (sI M num x v) X a br g7 g8 g9 h0 := by
  unfold cs
  have e : sI (sI (sI M 10 (X + 214) (nI a)) 11 (X + 214) br) num x v = sI (sI (sI M num x v) 10 (X + 214) (nI a)) 11 (X + 214) br := by
    rw [sI_comm _ (fun q => h2 q.symm), sI_comm _ (fun q => h1 q.symm)]
  rw [← e]
  rfl
theorem rs_sJ {M : Mm} {X a num x : Nat} {br : Int32} {v : Int64} {g0 g1 g3 : Nat → Int32} {h2 : Nat → Int64} : sJ (rs M X a br g0 g1 g3 h2) num x v = rs (sJ M num x v) X a br g0 g1 g3 h2 := rfl
theorem rs_sI {M : Mm} {X a num x : Nat} {br v : Int32} {g0 g1 g3 : Nat → Int32} {h2 : Nat → Int64} (h1 : ¬ num = 1143) (h2' : ¬ num = 1145) : sI (rs M X a br g0 g1 g3 h2) num x v = rs (sI M num x v) X a br g0 g1 g3 h2 := by
  unfold rs
  have e : sI (sI (sI M 1143 (X + 226) (nI a)) 1145 (X + 226) br) num x v = sI (sI (sI M num x v) 1143 (X + 226) (nI a)) 1145 (X + 226) br := by
    rw [sI_comm _ (fun q => h2' q.symm), sI_comm _ (fun q => h1 q.symm)]
  rw [← e]
  rfl
section EndC
variable {M : Mm} {X a B len k : Nat} {br : Int32} {g7 g8 g9 : Nat → Int32} {h0 : Nat → Int64} {r : Nat → Nat}
theorem end_c (hS : St M X) (hB : BR M X B len r) (hk : mI M 5 (X + 214) = nI k) (k8 : k < 8) (ha : a ≤ 8 * len) : ∃ a' v, f_X0_isEndRight (cs M X a 0 g7 g8 g9 h0) (X + 214) = some (cs M X a' 0 g7 g8 g9 h0, v) ∧ ((v = 1 ∧ eS len r (ckb k) a) ∨ (v = 0 ∧ ¬ eS len r (ckb k) a)) := by
  obtain ⟨b1, b2, b3, b4, b5, b6⟩ := id hB
  have S0 : St (cs M X a 0 g7 g8 g9 h0) X := St_cs hS
  have gB : ∀ {x : Nat} {c : Int32}, gR (cs M X x c g7 g8 g9 h0) 1 9 (X + 214) = some B := fun {x c} => gR_of (k_214 (St_cs hS)) b1
  have lB : ∀ {x : Nat} {c : Int32}, aL (cs M X x c g7 g8 g9 h0) B = some (nI len) := fun {x c} => aL_of (k := 20) b2 (by decide) (by decide) b3
  have d10 : ¬ (1 : Int32) = 0 := by decide
  have e0 : f_X0_isEndRight (cs M X a 0 g7 g8 g9 h0) (X + 214) = f_X0_isEndRight_J31 (cs M X a 0 g7 g8 g9 h0) (X + 214) (nI ((a + 7) / 8)) (if ckb k then 1 else 0) (nI len) (nI ((a + 7) / 8)) (nI (if ckb k then 1 else 0)) := by
    unfold f_X0_isEndRight
    rw [if_pos (k_214 S0), gi_214 S0, ob_eq, cs_i10, wBy (by omega), ob_eq, gi_214 S0, ob_eq, cs_I (by decide) (by decide), hk, ec_k k8, ob_eq, gB, ob_eq, lB, ob_eq]
    cases ckb k with
    | false => rfl
    | true => rfl
  rw [e0]
  unfold f_X0_isEndRight_J31
  rw [nI_add]
  by_cases c1 : len = (a + 7) / 8 + (if ckb k then 1 else 0)
  rotate_left
  · rw [if_neg (fun q => c1 ((nI_eq (by omega) (by cases ckb k <;> simp <;> omega)).mp q))]
    exact ⟨a, 0, rfl, Or.inr ⟨rfl, fun q => c1 q.1⟩⟩
  have e8 : nI ((a + 7) / 8) * 8 = nI (8 * ((a + 7) / 8)) := by rw [Nat.mul_comm]; exact pk_mul _ 8
  have le8 : 8 * ((a + 7) / 8) ≤ 8 * len := by omega
  have er : f_X0_read (cs M X a 0 g7 g8 g9 h0) (X + 214) (nI (8 * ((a + 7) / 8) - a)) = _ := rd_ok (n := 8 * ((a + 7) / 8) - a) hS hB (by omega) (by omega)
  rw [if_pos (by rw [← c1]), gi_214 S0, ob_eq, cs_i10, e8, pk_sub (by omega), er, ob2_eq]
  by_cases c2 : rdv r a (8 * ((a + 7) / 8) - a) = 0
  rotate_left
  · rw [if_neg (fun q => c2 ?_)]
    · exact ⟨_, 0, rfl, Or.inr ⟨rfl, fun q => c2 q.2.1⟩⟩
    · have := (lgc_eq _ _).mp q
      have lt := rdv_lt (r := r) (a := a) (8 * ((a + 7) / 8) - a)
      have l2 : 2 ^ (8 * ((a + 7) / 8) - a) ≤ 2 ^ 7 := Nat.pow_le_pow_right (by decide) (by omega)
      exact (pk_lEQ (b := 0) (by omega) (by decide)).mp this
  rw [if_pos ((lgc_eq _ _).mpr (by rw [c2]; rfl))]
  cases hc : ckb k with
  | false =>
    rw [hc] at c1
    rw [if_pos (show (if false = true then (1 : Int32) else 0) = 0 from rfl)]
    exact ⟨_, 1, rfl, Or.inl ⟨rfl, c1, c2, fun q => absurd q (by decide)⟩⟩
  | true =>
    rw [hc, if_pos rfl] at c1
    obtain ⟨x1, x2⟩ := b6 ((a + 7) / 8) (by omega)
    have aB : ∀ {x : Nat}, aI (cs M X x 0 g7 g8 g9 h0) B (nI ((a + 7) / 8)) = some (nI (r ((a + 7) / 8))) := by
      intro x
      rw [aI_of (k := (a + 7) / 8) (n := len) (show mK (cs M X x 0 g7 g8 g9 h0) B = 20 from b2) (show mN (cs M X x 0 g7 g8 g9 h0) B = len from b3) (by omega) (by omega), cs_A (by omega) (by omega) (by omega), x2]
    have ck : ∀ {x : Nat}, f_X10_checkOf (cs M X x 0 g7 g8 g9 h0) B (nI ((a + 7) / 8)) = some (nI (cbv r ((a + 7) / 8))) := by
      intro x
      exact ck10 (L := len) (show mK (cs M X x 0 g7 g8 g9 h0) B = 20 from b2) (show mN (cs M X x 0 g7 g8 g9 h0) B = len from b3) (by omega) (by omega) (fun q hq => (b6 q (by omega)).1) (fun q hq => by rw [cs_A (by omega) (by omega) (by omega)]; exact (b6 q (by omega)).2)
    have cl : cbv r ((a + 7) / 8) < 256 := by unfold cbv; omega
    rw [if_pos rfl, if_neg d10, gB, ob_eq, aB, ob_eq, ob_eq, ck, ob_eq]
    by_cases c3 : r ((a + 7) / 8) = cbv r ((a + 7) / 8)
    · rw [if_pos (by rw [c3])]
      exact ⟨_, 1, rfl, Or.inl ⟨rfl, by rw [if_pos rfl]; exact c1, c2, fun _ => c3⟩⟩
    · rw [if_neg (fun q => c3 ((nI_eq (by omega) (by omega)).mp q))]
      exact ⟨_, 0, rfl, Or.inr ⟨rfl, fun q => c3 (q.2.2 rfl)⟩⟩
theorem j120_c (hS : St M X) (hB : BR M X B len r) (hk : mI M 5 (X + 214) = nI k) (k8 : k < 8) (h : (br = 0 ∧ a ≤ 8 * len) ∨ br = 1) : ∃ a' b' v, f_X0_parse_J120 (cs M X a br g7 g8 g9 h0) (X + 214) = some (cs M X a' b' g7 g8 g9 h0, v) ∧ ((v = 1 ∧ br = 0 ∧ eS len r (ckb k) a) ∨ (v = 0 ∧ ¬ (br = 0 ∧ eS len r (ckb k) a))) := by
  have d10 : ¬ (1 : Int32) = 0 := by decide
  unfold f_X0_parse_J120
  rw [gi_214 (St_cs hS), ob_eq, cs_i11]
  rcases h with ⟨rfl, h⟩ | rfl
  · obtain ⟨a', v, e1, e2⟩ := end_c (g7 := g7) (g8 := g8) (g9 := g9) (h0 := h0) hS hB hk k8 h
    rw [if_pos rfl, e1, ob2_eq]
    rcases e2 with ⟨rfl, e2⟩ | ⟨rfl, e2⟩
    · rw [if_neg d10]; exact ⟨_, _, _, rfl, Or.inl ⟨rfl, rfl, e2⟩⟩
    · rw [if_pos rfl]; exact ⟨_, _, _, rfl, Or.inr ⟨rfl, fun q => e2 q.2⟩⟩
  · rw [if_neg d10]
    exact ⟨_, _, _, rfl, Or.inr ⟨rfl, fun q => absurd q.1 d10⟩⟩
theorem j99_c (hS : St M X) (hB : BR M X B len r) (hk : mI M 5 (X + 214) = nI k) (k8 : k < 8) (h : (br = 0 ∧ a ≤ 8 * len) ∨ br = 1) : ∃ s a' b' v, f_X0_parse_J99 (cs M X a br g7 g8 g9 h0) (X + 214) = some (cs (sI M 8 (X + 214) s) X a' b' g7 g8 g9 h0, v) ∧ ((v = 1 ∧ br = 0 ∧ okE len r k a ∧ (k = 1 ∨ k = 2 → s = nI (rdv r a 8))) ∨ (v = 0 ∧ ¬ (br = 0 ∧ okE len r k a))) := by
  have d10 : ¬ (1 : Int32) = 0 := by decide
  unfold f_X0_parse_J99
  rw [gi_214 (St_cs hS), ob_eq, cs_I (by decide) (by decide), hk, ec_k k8, ob_eq]
  by_cases c : k = 1 ∨ k = 2
  · have ec : ckb k = false := decide_eq_false (fun q => q c)
    rw [ec, if_pos (show (if false = true then (1 : Int32) else 0) = 0 from rfl)]
    have go : ∀ (x : Nat) (b : Int32) (v : Int64), ((b = 0 ∧ x ≤ 8 * len) ∨ b = 1) → ∃ a' b' v', ((pI (cs M X x b g7 g8 g9 h0) 1 8 (X + 214) v.toInt32).bind fun M8 => f_X0_parse_J120 M8 (X + 214)) = some (cs (sI M 8 (X + 214) v.toInt32) X a' b' g7 g8 g9 h0, v') ∧ ((v' = 1 ∧ b = 0 ∧ eS len r false x) ∨ (v' = 0 ∧ ¬ (b = 0 ∧ eS len r false x))) := by
      intro x b v hb
      rw [pi_214 (St_cs hS), ob_eq, cs_sI (by decide) (by decide)]
      have := j120_c (M := sI M 8 (X + 214) v.toInt32) (g7 := g7) (g8 := g8) (g9 := g9) (h0 := h0) (St_sI hS) hB (show mI (sI M 8 (X + 214) v.toInt32) 5 (X + 214) = nI k by rw [mI_sI, if_neg (by decide)]; exact hk) k8 hb
      rw [ec] at this
      exact this
    rcases h with ⟨rfl, h⟩ | rfl
    · by_cases c2 : a + 8 ≤ 8 * len
      · have e8 : f_X0_read (cs M X a 0 g7 g8 g9 h0) (X + 214) 8 = _ := rd_ok (n := 8) hS hB (by decide) c2
        obtain ⟨a', b', v', e1, e2⟩ := go (a + 8) 0 (lN (rdv r a 8)) (Or.inl ⟨rfl, c2⟩)
        rw [e8, ob2_eq, e1]
        refine ⟨_, _, _, _, rfl, ?_⟩
        unfold okE
        rw [if_pos c]
        rcases e2 with ⟨e2, e3, e4⟩ | ⟨e2, e3⟩
        · exact Or.inl ⟨e2, rfl, ⟨c2, e4⟩, fun _ => lN_i _⟩
        · exact Or.inr ⟨e2, fun q => e3 ⟨rfl, q.2.2⟩⟩
      · have e8 : f_X0_read (cs M X a 0 g7 g8 g9 h0) (X + 214) 8 = _ := rd_no (n := 8) hS hB (by decide) h (by omega)
        obtain ⟨a', b', v', e1, e2⟩ := go a 1 0 (Or.inr rfl)
        rw [e8, ob2_eq, e1]
        refine ⟨_, _, _, _, rfl, ?_⟩
        unfold okE
        rw [if_pos c]
        rcases e2 with ⟨e2, e3, e4⟩ | ⟨e2, e3⟩
        · exact absurd e3 d10
        · exact Or.inr ⟨e2, fun q => c2 q.2.1⟩
    · have e8 : f_X0_read (cs M X a 1 g7 g8 g9 h0) (X + 214) 8 = _ := rd_br (n := 8) hS
      obtain ⟨a', b', v', e1, e2⟩ := go a 1 0 (Or.inr rfl)
      rw [e8, ob2_eq, e1]
      refine ⟨_, _, _, _, rfl, ?_⟩
      rcases e2 with ⟨e2, e3, e4⟩ | ⟨e2, e3⟩
      · exact absurd e3 d10
      · exact Or.inr ⟨e2, fun q => absurd q.1 d10⟩
  · have ec : ckb k = true := decide_eq_true c
    rw [ec, if_pos rfl, if_neg d10]
    obtain ⟨a', b', v, e1, e2⟩ := j120_c (a := a) (br := br) (g7 := g7) (g8 := g8) (g9 := g9) (h0 := h0) hS hB hk k8 h
    refine ⟨mI M 8 (X + 214), a', b', v, ?_, ?_⟩
    · rw [sI_self M 8 (X + 214) rfl]; exact e1
    · unfold okE
      rw [if_neg c]
      rw [ec] at e2
      rcases e2 with ⟨e2, e3, e4⟩ | ⟨e2, e3⟩
      · exact Or.inl ⟨e2, e3, e4, fun q => absurd q c⟩
      · exact Or.inr ⟨e2, e3⟩
end EndC
section EndR
variable {M R : Mm} {X a l len k : Nat} {br : Int32} {g0 g1 g3 : Nat → Int32} {h2 : Nat → Int64} {r : Nat → Nat}
theorem j101 (hS : St R X) (hB : RB R X l len r) {b : Int32} {x : Nat} (hb : b = 0 ∨ b = 1) (hx : x < 1000) : f_X11_takeEnd_J101 (rs R X a b g0 g1 g3 h2) (X + 226) (nI l) (nI x) = some (rs R X a (if b = 0 ∧ x = len then 0 else 1) g0 g1 g3 h2) := by
  have d10 : ¬ (1 : Int32) = 0 := by decide
  have b2 := hB.2.1
  unfold f_X11_takeEnd_J101
  rw [gi_226 (St_rs hS), ob_eq, rs_i45]
  rcases hb with rfl | rfl
  · rw [if_pos rfl, r_226_1117 (St_rs hS), ob_eq, ai_239 (St_rs hS) hB.1, ob_eq, rs_A (by omega) (by omega) (by omega), hB.2.2.2.1]
    by_cases c : x = len
    · rw [if_pos (by rw [c]), pZ_of (k_226 (St_rs hS)) (Or.inl rfl), ob_eq, rs_45, if_pos ⟨rfl, c⟩]
    · rw [if_neg (fun q => c ((nI_eq (by omega) (by omega)).mp q)), pZ_of (k_226 (St_rs hS)) (Or.inr rfl), ob_eq, rs_45, if_neg (fun q => c q.2)]
  · rw [if_neg d10, pZ_of (k_226 (St_rs hS)) (Or.inr rfl), ob_eq, rs_45, if_neg (fun q => d10 q.1)]
theorem j40_b (hS : St R X) (hB : RB R X l len r) (ha : a ≤ 8 * len) {c : Int32} : f_X11_takeEnd_J40 (rs R X a 1 g0 g1 g3 h2) (X + 226) (nI l) c = some (rs R X a 1 g0 g1 g3 h2) := by
  have d10 : ¬ (1 : Int32) = 0 := by decide
  have b2 := hB.2.1
  have ed : nI a / 8 = nI (a / 8) := pk_div (d := 8) (by omega) (by decide) (by decide)
  unfold f_X11_takeEnd_J40
  rw [gi_226 (St_rs hS), ob_eq, rs_i43, ed, j101 hS hB (Or.inr rfl) (by omega), gi_226 (St_rs hS), ob_eq, rs_i45, if_neg d10, ite_self, if_neg (show ¬ ((1 : Int32) = 0 ∧ a / 8 = len) from fun q => d10 q.1)]
theorem j40_g (hS : St R X) (hB : RB R X l len r) (ha : a ≤ 8 * len) (h8 : a % 8 = 0) (c : Bool) : ∃ b, f_X11_takeEnd_J40 (rs R X a 0 g0 g1 g3 h2) (X + 226) (nI l) (if c then 1 else 0) = some (rs R X a b g0 g1 g3 h2) ∧ ((b = 0 ∧ eS len r c a) ∨ (b = 1 ∧ ¬ eS len r c a)) := by
  have d10 : ¬ (1 : Int32) = 0 := by decide
  obtain ⟨b1, b2, b3, b4, b5⟩ := id hB
  have ed : nI a / 8 = nI (a / 8) := pk_div (d := 8) (by omega) (by decide) (by decide)
  have ce : (a + 7) / 8 = a / 8 := by omega
  have z0 : rdv r a (8 * (a / 8) - a) = 0 := by rw [show 8 * (a / 8) - a = 0 by omega]; rfl
  unfold f_X11_takeEnd_J40 eS
  rw [gi_226 (St_rs hS), ob_eq, rs_i43, ed, ce]
  cases c with
  | false =>
    rw [if_pos (show (if false = true then (1 : Int32) else 0) = 0 from rfl), j101 hS hB (Or.inl rfl) (by omega), if_neg (show ¬ false = true by decide)]
    by_cases q : a / 8 = len
    · rw [if_pos ⟨rfl, q⟩]
      exact ⟨0, rfl, Or.inl ⟨rfl, q.symm, z0, fun x => absurd x (by decide)⟩⟩
    · rw [if_neg (fun x => q x.2)]
      exact ⟨1, rfl, Or.inr ⟨rfl, fun x => q x.1.symm⟩⟩
  | true =>
    rw [if_neg (show ¬ (if true = true then (1 : Int32) else 0) = 0 from d10), gi_226 (St_rs hS), ob_eq, rs_i45, if_pos rfl, r_226_1117 (St_rs hS), ob_eq, ai_239 (St_rs hS) b1, ob_eq, rs_A (by omega) (by omega) (by omega), b4, if_pos (show true = true from rfl)]
    have bad : f_X11_takeEnd_J90 (rs R X a 0 g0 g1 g3 h2) (X + 226) (nI l) (nI (a / 8)) (X + 226) = some (rs R X a 1 g0 g1 g3 h2) := by
      unfold f_X11_takeEnd_J90 f_X11_takeEnd_J95
      rw [pZ_of (k_226 (St_rs hS)) (Or.inr rfl), ob_eq, rs_45, nI_1, j101 hS hB (Or.inr rfl) (by omega), if_neg (fun q => d10 q.1)]
    rw [bad]
    by_cases q : len ≤ a / 8
    · rw [if_pos (nI_le q (by omega))]
      exact ⟨1, rfl, Or.inr ⟨rfl, fun x => by have := x.1; omega⟩⟩
    · obtain ⟨x1, x2⟩ := b5 (a / 8) (by omega)
      have cl : cbv r (a / 8) < 256 := by unfold cbv; omega
      rw [if_neg (nI_ge (by omega) (by omega)), r_226_1118 (St_rs hS), ob_eq, m64, nI_add, ai_240 (St_rs hS) (by omega), ob_eq, rs_A (by omega) (by omega) (by omega), x2, ck11 (f := r) (St_rs hS) b1 (by omega) (fun t ht => (b5 t (by omega)).1) (fun t ht => by rw [rs_A (by omega) (by omega) (by omega)]; exact (b5 t (by omega)).2), ob_eq]
      by_cases q2 : r (a / 8) = cbv r (a / 8)
      · rw [if_pos (by rw [q2])]
        unfold f_X11_takeEnd_J95
        rw [pZ_of (k_226 (St_rs hS)) (Or.inl rfl), ob_eq, rs_45, nI_1, j101 hS hB (Or.inl rfl) (by omega)]
        by_cases q3 : a / 8 + 1 = len
        · rw [if_pos ⟨rfl, q3⟩]
          exact ⟨0, rfl, Or.inl ⟨rfl, q3.symm, z0, fun _ => q2⟩⟩
        · rw [if_neg (fun x => q3 x.2)]
          exact ⟨1, rfl, Or.inr ⟨rfl, fun x => q3 x.1.symm⟩⟩
      · rw [if_neg (fun x => q2 ((nI_eq (by omega) (by omega)).mp x))]
        exact ⟨1, rfl, Or.inr ⟨rfl, fun x => q2 (x.2.2 rfl)⟩⟩
theorem tEnd (hS : St R X) (hB : RB R X l len r) (c : Bool) (h : a ≤ 8 * len) (hb : br = 0 ∨ br = 1) : ∃ a' b, a' ≤ 8 * len ∧ f_X11_takeEnd (rs R X a br g0 g1 g3 h2) (X + 226) (nI l) (if c then 1 else 0) = some (rs R X a' b g0 g1 g3 h2) ∧ ((b = 0 ∧ br = 0 ∧ eS len r c a) ∨ (b = 1 ∧ ¬ (br = 0 ∧ eS len r c a))) := by
  have d10 : ¬ (1 : Int32) = 0 := by decide
  have b2 := hB.2.1
  have bl : ∀ {x fu : Nat}, x ≤ 8 * len → f_X11_takeEnd_L0 (fu + 1) (rs R X x 1 g0 g1 g3 h2) (X + 226) (nI l) (if c then 1 else 0) = some (rs R X x 1 g0 g1 g3 h2) := by
    intro x fu hx
    rw [f_X11_takeEnd_L0, gi_226 (St_rs hS), ob_eq, rs_i45, if_neg d10, j40_b hS hB hx]
  unfold f_X11_takeEnd
  rw [if_pos (k_226 (St_rs hS))]
  rcases hb with rfl | rfl
  rotate_left
  · exact ⟨a, 1, h, bl (fu := 999) h, Or.inr ⟨rfl, fun q => d10 q.1⟩⟩
  have main : ∀ d x fu, 8 * ((a + 7) / 8) = x + d → a ≤ x → d < fu - 1 → d < 8 → rdv r a (x - a) = 0 → ∃ a' b, a' ≤ 8 * len ∧ f_X11_takeEnd_L0 fu (rs R X x 0 g0 g1 g3 h2) (X + 226) (nI l) (if c then 1 else 0) = some (rs R X a' b g0 g1 g3 h2) ∧ ((b = 0 ∧ eS len r c a) ∨ (b = 1 ∧ ¬ eS len r c a)) := by
    intro d
    induction d with
    | zero =>
      intro x fu e1 e2 e3 e4 e5
      obtain ⟨fu, rfl⟩ : ∃ k, fu = k + 1 := ⟨fu - 1, by omega⟩
      have er : nI x - nI x / 8 * 8 = nI (x % 8) := pk_rem (d := 8) (by omega) (by decide) (by decide)
      obtain ⟨b, f1, f2⟩ := j40_g (a := x) (g0 := g0) (g1 := g1) (g3 := g3) (h2 := h2) hS hB (by omega) (by omega) c
      have ex : eS len r c x ↔ eS len r c a := by
        unfold eS
        rw [show (x + 7) / 8 = (a + 7) / 8 by omega, show 8 * ((a + 7) / 8) - x = 0 by omega]
        constructor
        · intro ⟨q1, _, q3⟩
          exact ⟨q1, by rw [e1, Nat.add_zero]; exact e5, q3⟩
        · intro ⟨q1, _, q3⟩
          exact ⟨q1, rfl, q3⟩
      refine ⟨x, b, by omega, ?_, ?_⟩
      · rw [f_X11_takeEnd_L0, gi_226 (St_rs hS), ob_eq, rs_i45, if_pos rfl, gi_226 (St_rs hS), ob_eq, rs_i43, er, if_pos (by rw [show x % 8 = 0 by omega]; rfl), f1]
      · rcases f2 with ⟨f2, f3⟩ | ⟨f2, f3⟩
        · exact Or.inl ⟨f2, ex.mp f3⟩
        · exact Or.inr ⟨f2, fun q => f3 (ex.mpr q)⟩
    | succ d ih =>
      intro x fu e1 e2 e3 e4 e5
      obtain ⟨fu, rfl⟩ : ∃ k, fu = k + 1 := ⟨fu - 1, by omega⟩
      have er : nI x - nI x / 8 * 8 = nI (x % 8) := pk_rem (d := 8) (by omega) (by decide) (by decide)
      have tk : f_X11_take (rs R X x 0 g0 g1 g3 h2) (X + 226) (nI l) 1 = _ := tk_ok (n := 1) hS hB (by decide) (show x + 1 ≤ 8 * len by omega)
      have rb : rdv r x 1 = bt r x := by show 2 * 0 + bt r (x + 0) = _; rw [Nat.add_zero]; omega
      have st : f_X11_takeEnd_L0 (fu + 1) (rs R X x 0 g0 g1 g3 h2) (X + 226) (nI l) (if c then 1 else 0) = if bt r x = 0 then f_X11_takeEnd_L0 fu (rs R X (x + 1) 0 g0 g1 g3 h2) (X + 226) (nI l) (if c then 1 else 0) else f_X11_takeEnd_L0 fu (rs R X (x + 1) 1 g0 g1 g3 h2) (X + 226) (nI l) (if c then 1 else 0) := by
        have lb := bt_lt (r := r) (j := x)
        rw [f_X11_takeEnd_L0, gi_226 (St_rs hS), ob_eq, rs_i45, if_pos rfl, gi_226 (St_rs hS), ob_eq, rs_i43, er, if_neg (nI_ne0 (by omega) (by omega)), tk, ob2_eq, rb]
        unfold f_X11_takeEnd_J34
        rw [pZ_of (k_226 (St_rs hS)) (Or.inl rfl), ob_eq, rs_45, pZ_of (k_226 (St_rs hS)) (Or.inr rfl), ob_eq, rs_45]
        have kq : (lg_cmp (lN (bt r x)) 0 = 0) ↔ bt r x = 0 := by rw [lgc_eq]; exact pk_lEQ (b := 0) (by omega) (by decide)
        by_cases q : bt r x = 0
        · rw [if_pos (kq.mpr q), if_pos q]
        · rw [if_neg (fun y => q (kq.mp y)), if_neg q]
      rw [st]
      by_cases q : bt r x = 0
      · rw [if_pos q]
        refine ih (x + 1) fu (by omega) (by omega) (by omega) (by omega) ?_
        rw [show x + 1 - a = (x - a) + 1 by omega]
        show 2 * rdv r a (x - a) + bt r (a + (x - a)) = 0
        rw [e5, show a + (x - a) = x by omega, q]
      · rw [if_neg q]
        obtain ⟨fu, rfl⟩ : ∃ k, fu = k + 1 := ⟨fu - 1, by omega⟩
        refine ⟨x + 1, 1, by omega, bl (by omega), Or.inr ⟨rfl, fun e => q ?_⟩⟩
        have := rdv_z.mp e.2.1 (x - a) (by omega)
        rw [show a + (x - a) = x by omega] at this
        exact this
  obtain ⟨a', b, l1, f1, f2⟩ := main (8 * ((a + 7) / 8) - a) a 1000 (by omega) (Nat.le_refl _) (by omega) (by omega) (by rw [Nat.sub_self]; rfl)
  refine ⟨a', b, l1, f1, ?_⟩
  rcases f2 with ⟨f2, f3⟩ | ⟨f2, f3⟩
  · exact Or.inl ⟨f2, rfl, f3⟩
  · exact Or.inr ⟨f2, fun q => f3 q.2⟩
theorem j251 (hS : St R X) (hB : RB R X l len r) (k2 : k ≤ 2) (h : a ≤ 8 * len) (hb : br = 0 ∨ br = 1) : ∃ j a' b, a' ≤ 8 * len ∧ f_X11_takeFields_J251 (rs R X a br g0 g1 g3 h2) (X + 226) (nI l) (nI k) = some (rs (sJ R 1151 (X + 226) j) X a' b g0 g1 g3 h2) ∧ ((b = 0 ∧ br = 0 ∧ okE len r k a ∧ (k = 1 ∨ k = 2 → j = lN (rdv r a 8))) ∨ (b = 1 ∧ ¬ (br = 0 ∧ okE len r k a))) := by
  have d10 : ¬ (1 : Int32) = 0 := by decide
  have k0 : (nI k = 0) ↔ k = 0 := ⟨fun q => (nI_eq (b := 0) (by omega) (by decide)).mp q, fun q => by rw [q]; rfl⟩
  have fin : ∀ (x : Nat) (b : Int32) (v : Int64) (c : Bool), x ≤ 8 * len → (b = 0 ∨ b = 1) → ∃ a' b', a' ≤ 8 * len ∧ ((pJ (rs R X x b g0 g1 g3 h2) 12 1151 (X + 226) v).bind fun M1 => (f_X11_takeEnd M1 (X + 226) (nI l) (if c then 1 else 0)).bind fun M2 => some M2) = some (rs (sJ R 1151 (X + 226) v) X a' b' g0 g1 g3 h2) ∧ ((b' = 0 ∧ b = 0 ∧ eS len r c x) ∨ (b' = 1 ∧ ¬ (b = 0 ∧ eS len r c x))) := by
    intro x b v c hx hb'
    obtain ⟨a', b', l1, e1, e2⟩ := tEnd (R := sJ R 1151 (X + 226) v) (g0 := g0) (g1 := g1) (g3 := g3) (h2 := h2) (St_sJ hS) hB c hx hb'
    refine ⟨a', b', l1, ?_, e2⟩
    rw [pJ_of (k_226 (St_rs hS)), ob_eq, rs_sJ, e1, ob_eq]
  unfold f_X11_takeFields_J251 f_X11_takeFields_J267 f_X11_takeFields_J281
  by_cases c : k = 0
  · have nk : ¬ (k = 1 ∨ k = 2) := by omega
    rw [if_pos (k0.mpr c)]
    obtain ⟨a', b', l1, e1, e2⟩ := fin a br 0 true h hb
    refine ⟨0, a', b', l1, ?_, ?_⟩
    · rw [pJ_of (k_226 (St_rs hS)), ob_eq] at e1
      rw [pJ_of (k_226 (St_rs hS)), ob_eq, if_pos (k0.mpr c)]
      exact e1
    · unfold okE
      rw [if_neg nk]
      rcases e2 with ⟨e2, e3, e4⟩ | ⟨e2, e3⟩
      · exact Or.inl ⟨e2, e3, e4, fun q => absurd q nk⟩
      · exact Or.inr ⟨e2, e3⟩
  · have yk : k = 1 ∨ k = 2 := by omega
    rw [if_neg (fun q => c (k0.mp q))]
    rcases hb with rfl | rfl
    · by_cases c2 : a + 8 ≤ 8 * len
      · have e8 : f_X11_take (rs R X a 0 g0 g1 g3 h2) (X + 226) (nI l) 8 = _ := tk_ok (n := 8) hS hB (by decide) c2
        obtain ⟨a', b', l1, e1, e2⟩ := fin (a + 8) 0 (lN (rdv r a 8)) false c2 (Or.inl rfl)
        rw [pJ_of (k_226 (St_rs hS)), ob_eq] at e1
        refine ⟨lN (rdv r a 8), a', b', l1, ?_, ?_⟩
        · rw [e8, ob2_eq, pJ_of (k_226 (St_rs hS)), ob_eq, if_neg (fun q => c (k0.mp q))]; exact e1
        · unfold okE
          rw [if_pos yk]
          rcases e2 with ⟨e2, e3, e4⟩ | ⟨e2, e3⟩
          · exact Or.inl ⟨e2, rfl, ⟨c2, e4⟩, fun _ => rfl⟩
          · exact Or.inr ⟨e2, fun q => e3 ⟨rfl, q.2.2⟩⟩
      · have e8 : f_X11_take (rs R X a 0 g0 g1 g3 h2) (X + 226) (nI l) 8 = _ := tk_no (n := 8) hS hB (by decide) h (by omega)
        obtain ⟨a', b', l1, e1, e2⟩ := fin (8 * len) 1 0 false (Nat.le_refl _) (Or.inr rfl)
        rw [pJ_of (k_226 (St_rs hS)), ob_eq] at e1
        refine ⟨0, a', b', l1, ?_, ?_⟩
        · rw [e8, ob2_eq, pJ_of (k_226 (St_rs hS)), ob_eq, if_neg (fun q => c (k0.mp q))]; exact e1
        · unfold okE
          rw [if_pos yk]
          rcases e2 with ⟨e2, e3, e4⟩ | ⟨e2, e3⟩
          · exact absurd e3 d10
          · exact Or.inr ⟨e2, fun q => c2 q.2.1⟩
    · obtain ⟨x, v, l0, e8⟩ := tk_br (a := a) (n := 8) (g0 := g0) (g1 := g1) (g3 := g3) (h2 := h2) hS hB (by decide) h
      have e8' : f_X11_take (rs R X a 1 g0 g1 g3 h2) (X + 226) (nI l) 8 = _ := e8
      obtain ⟨a', b', l1, e1, e2⟩ := fin x 1 v false l0 (Or.inr rfl)
      rw [pJ_of (k_226 (St_rs hS)), ob_eq] at e1
      refine ⟨v, a', b', l1, ?_, ?_⟩
      · rw [e8', ob2_eq, pJ_of (k_226 (St_rs hS)), ob_eq, if_neg (fun q => c (k0.mp q))]; exact e1
      · rcases e2 with ⟨e2, e3, e4⟩ | ⟨e2, e3⟩
        · exact absurd e3 d10
        · exact Or.inr ⟨e2, fun q => absurd q.1 d10⟩
end EndR
