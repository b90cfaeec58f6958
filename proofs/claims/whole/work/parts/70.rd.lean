/-! Reading bits: the arrival of the class, and what the reference takes. -/
def bt (r : Nat → Nat) (j : Nat) : Nat := r (j / 8) / 2 ^ (7 - j % 8) % 2
def rdv (r : Nat → Nat) (a : Nat) : Nat → Nat
  | 0 => 0
  | n + 1 => 2 * rdv r a n + bt r (a + n)
theorem bt_lt {r : Nat → Nat} {j : Nat} : bt r j < 2 := Nat.mod_lt _ (by decide)
theorem rdv_lt {r : Nat → Nat} {a : Nat} : ∀ n, rdv r a n < 2 ^ n
  | 0 => by show 0 < 1; decide
  | n + 1 => by
    have h1 := rdv_lt (r := r) (a := a) n
    have h2 := bt_lt (r := r) (j := a + n)
    show 2 * rdv r a n + bt r (a + n) < 2 ^ (n + 1)
    rw [Nat.pow_succ]; omega
theorem sh7 : ∀ q, q < 8 → (((7 - nI q) &&& 31).toBitVec.smod 32).toNat = 7 - q := by decide
theorem and1 (m : Nat) : nI m &&& 1 = nI (m % 2) := by
  have e : nI m &&& nI 1 = nI (m &&& (2 ^ 1 - 1)) := andI m 1
  rw [Nat.and_two_pow_sub_one_eq_mod] at e
  exact e
theorem bitA {b q : Nat} (hb : b < 256) (hq : q < 8) : (nI b >>> ((7 - nI q) &&& 31)) &&& 1 = nI (b / 2 ^ (7 - q) % 2) := by
  rw [pk_shrN (by omega) _ (7 - q) (sh7 q hq), and1]
theorem orL (a b : Nat) : lN a ||| lN b = lN (a ||| b) := by
  apply Int64.toBitVec_inj.1
  show BitVec.ofNat 64 a ||| BitVec.ofNat 64 b = BitVec.ofNat 64 (a ||| b)
  apply BitVec.eq_of_getLsbD_eq
  intro i hi
  simp [hi]
theorem shl1L (v : Nat) : lN v <<< ((1 : Int32).toInt64 &&& 63) = lN (2 * v) := by
  have e : ((1 : Int32).toInt64 &&& 63) = 1 := by decide
  rw [e]
  apply Int64.toBitVec_inj.1
  rw [Int64.toBitVec_shiftLeft]
  have e2 : (1 : Int64).toBitVec.smod 64 = 1#64 := by decide
  rw [e2]
  show BitVec.ofNat 64 v <<< 1#64 = BitVec.ofNat 64 (2 * v)
  apply BitVec.eq_of_toNat_eq
  simp [BitVec.toNat_shiftLeft, Nat.shiftLeft_eq, Nat.mul_comm]
theorem app1 {v b : Nat} (hb : b < 2) : (lN v <<< ((1 : Int32).toInt64 &&& 63)) ||| lN b = lN (2 * v + b) := by
  rw [shl1L, orL]
  have or := Nat.shiftLeft_add_eq_or_of_lt (i := 1) (show b < 2 ^ 1 by omega) v
  rw [Nat.shiftLeft_eq] at or
  rw [show 2 * v = v * 2 ^ 1 by omega, ← or]
def cs (M : Mm) (X a : Nat) (br : Int32) (g7 g8 g9 : Nat → Int32) (h0 : Nat → Int64) : Mm := sB (sA (sA (sA (sI (sI M 10 (X + 214) (nI a)) 11 (X + 214) br) (X + 217) g7) (X + 218) g8) (X + 219) g9) (X + 220) h0
def rs (M : Mm) (X a : Nat) (br : Int32) (g0 g1 g3 : Nat → Int32) (h2 : Nat → Int64) : Mm := sB (sA (sA (sA (sI (sI M 1143 (X + 226) (nI a)) 1145 (X + 226) br) (X + 260) g0) (X + 261) g1) (X + 263) g3) (X + 262) h2
section CsS
variable {M : Mm} {X a : Nat} {br : Int32} {g7 g8 g9 : Nat → Int32} {h0 : Nat → Int64}
theorem St_cs (h : St M X) : St (cs M X a br g7 g8 g9 h0) X := St_sB (St_sA (St_sA (St_sA (St_sI (St_sI h)))))
theorem cs_10 (a' : Nat) : sI (cs M X a br g7 g8 g9 h0) 10 (X + 214) (nI a') = cs M X a' br g7 g8 g9 h0 := by
  unfold cs
  have e : sI (sI (sI M 10 (X + 214) (nI a)) 11 (X + 214) br) 10 (X + 214) (nI a') = sI (sI M 10 (X + 214) (nI a')) 11 (X + 214) br := by
    rw [sI_comm _ (show ¬ 11 = 10 by decide), sI_sI]
  rw [← e]
  rfl
theorem cs_11 (b' : Int32) : sI (cs M X a br g7 g8 g9 h0) 11 (X + 214) b' = cs M X a b' g7 g8 g9 h0 := by
  unfold cs
  have e : sI (sI (sI M 10 (X + 214) (nI a)) 11 (X + 214) br) 11 (X + 214) b' = sI (sI M 10 (X + 214) (nI a)) 11 (X + 214) b' := sI_sI _ _ _ _ _
  rw [← e]
  rfl
theorem cs_7 (g : Nat → Int32) : sA (cs M X a br g7 g8 g9 h0) (X + 217) g = cs M X a br g g8 g9 h0 := by
  unfold cs
  rw [sA_sB, sA_comm _ _ _ (show ¬ X + 219 = X + 217 by omega), sA_comm _ _ _ (show ¬ X + 218 = X + 217 by omega), sA_sA]
theorem cs_8 (g : Nat → Int32) : sA (cs M X a br g7 g8 g9 h0) (X + 218) g = cs M X a br g7 g g9 h0 := by
  unfold cs
  rw [sA_sB, sA_comm _ _ _ (show ¬ X + 219 = X + 218 by omega), sA_sA]
theorem cs_9 (g : Nat → Int32) : sA (cs M X a br g7 g8 g9 h0) (X + 219) g = cs M X a br g7 g8 g h0 := by
  unfold cs
  rw [sA_sB, sA_sA]
theorem cs_0 (g : Nat → Int64) : sB (cs M X a br g7 g8 g9 h0) (X + 220) g = cs M X a br g7 g8 g9 g := by
  unfold cs
  rw [sB_sB]
theorem cs_i10 : mI (cs M X a br g7 g8 g9 h0) 10 (X + 214) = nI a := by
  unfold cs; rw [mI_sB, mI_sA, mI_sA, mI_sA, mI_sI, if_neg (by decide), mI_sI, if_pos rfl, if_pos rfl]
theorem cs_i11 : mI (cs M X a br g7 g8 g9 h0) 11 (X + 214) = br := by
  unfold cs; rw [mI_sB, mI_sA, mI_sA, mI_sA, mI_sI, if_pos rfl, if_pos rfl]
theorem cs_I {num : Nat} (h : ¬ num = 10) (h2 : ¬ num = 11) : mI (cs M X a br g7 g8 g9 h0) num = mI M num := by
  unfold cs; rw [mI_sB, mI_sA, mI_sA, mI_sA]; funext y; rw [mI_sI, if_neg h2, mI_sI, if_neg h]
theorem cs_a7 : mA (cs M X a br g7 g8 g9 h0) (X + 217) = g7 := by
  unfold cs; rw [mA_sB, mA_sA, if_neg (by omega), mA_sA, if_neg (by omega), mA_sA, if_pos rfl]
theorem cs_a8 : mA (cs M X a br g7 g8 g9 h0) (X + 218) = g8 := by
  unfold cs; rw [mA_sB, mA_sA, if_neg (by omega), mA_sA, if_pos rfl]
theorem cs_a9 : mA (cs M X a br g7 g8 g9 h0) (X + 219) = g9 := by
  unfold cs; rw [mA_sB, mA_sA, if_pos rfl]
theorem cs_A {x : Nat} (h7 : ¬ x = X + 217) (h8 : ¬ x = X + 218) (h9 : ¬ x = X + 219) : mA (cs M X a br g7 g8 g9 h0) x = mA M x := by
  unfold cs; rw [mA_sB, mA_sA, if_neg h9, mA_sA, if_neg h8, mA_sA, if_neg h7, mA_sI, mA_sI]
theorem cs_b0 : mB (cs M X a br g7 g8 g9 h0) (X + 220) = h0 := by unfold cs; rw [mB_sB, if_pos rfl]
theorem cs_B {x : Nat} (h : ¬ x = X + 220) : mB (cs M X a br g7 g8 g9 h0) x = mB M x := by
  unfold cs; rw [mB_sB, if_neg h, mB_sA, mB_sA, mB_sA, mB_sI, mB_sI]
theorem cs_K : mK (cs M X a br g7 g8 g9 h0) = mK M := rfl
theorem cs_N : mN (cs M X a br g7 g8 g9 h0) = mN M := rfl
theorem cs_R : mR (cs M X a br g7 g8 g9 h0) = mR M := rfl
theorem cs_S : mS (cs M X a br g7 g8 g9 h0) = mS M := rfl
theorem Ag_cs {N n : Nat} : Ag X N n T0 T0 T0 M (cs M X a br g7 g8 g9 h0) := by
  unfold cs
  exact (((((Ag_sI (Or.inl (by unfold ScI; omega))).cI (Or.inl (by unfold ScI; omega))).cA (Or.inl (by unfold ScA; omega))).cA (Or.inl (by unfold ScA; omega))).cA (Or.inl (by unfold ScA; omega))).cB (Or.inl (by unfold ScB; omega))
theorem cs_cs {a' : Nat} {b' : Int32} {k7 k8 k9 : Nat → Int32} {k0 : Nat → Int64} : cs (cs M X a br g7 g8 g9 h0) X a' b' k7 k8 k9 k0 = cs M X a' b' k7 k8 k9 k0 := by
  show sB (sA (sA (sA (sI (sI (cs M X a br g7 g8 g9 h0) 10 (X + 214) (nI a')) 11 (X + 214) b') (X + 217) k7) (X + 218) k8) (X + 219) k9) (X + 220) k0 = _
  rw [cs_10, cs_11, cs_7, cs_8, cs_9, cs_0]
end CsS
section RsS
variable {M : Mm} {X a : Nat} {br : Int32} {g0 g1 g3 : Nat → Int32} {h2 : Nat → Int64}
theorem St_rs (h : St M X) : St (rs M X a br g0 g1 g3 h2) X := St_sB (St_sA (St_sA (St_sA (St_sI (St_sI h)))))
theorem rs_43 (a' : Nat) : sI (rs M X a br g0 g1 g3 h2) 1143 (X + 226) (nI a') = rs M X a' br g0 g1 g3 h2 := by
  unfold rs
  have e : sI (sI (sI M 1143 (X + 226) (nI a)) 1145 (X + 226) br) 1143 (X + 226) (nI a') = sI (sI M 1143 (X + 226) (nI a')) 1145 (X + 226) br := by
    rw [sI_comm _ (show ¬ 1145 = 1143 by decide), sI_sI]
  rw [← e]
  rfl
theorem rs_45 (b' : Int32) : sI (rs M X a br g0 g1 g3 h2) 1145 (X + 226) b' = rs M X a b' g0 g1 g3 h2 := by
  unfold rs
  have e : sI (sI (sI M 1143 (X + 226) (nI a)) 1145 (X + 226) br) 1145 (X + 226) b' = sI (sI M 1143 (X + 226) (nI a)) 1145 (X + 226) b' := sI_sI _ _ _ _ _
  rw [← e]
  rfl
theorem rs_0 (g : Nat → Int32) : sA (rs M X a br g0 g1 g3 h2) (X + 260) g = rs M X a br g g1 g3 h2 := by
  unfold rs
  rw [sA_sB, sA_comm _ _ _ (show ¬ X + 263 = X + 260 by omega), sA_comm _ _ _ (show ¬ X + 261 = X + 260 by omega), sA_sA]
theorem rs_1 (g : Nat → Int32) : sA (rs M X a br g0 g1 g3 h2) (X + 261) g = rs M X a br g0 g g3 h2 := by
  unfold rs
  rw [sA_sB, sA_comm _ _ _ (show ¬ X + 263 = X + 261 by omega), sA_sA]
theorem rs_3 (g : Nat → Int32) : sA (rs M X a br g0 g1 g3 h2) (X + 263) g = rs M X a br g0 g1 g h2 := by
  unfold rs
  rw [sA_sB, sA_sA]
theorem rs_2 (g : Nat → Int64) : sB (rs M X a br g0 g1 g3 h2) (X + 262) g = rs M X a br g0 g1 g3 g := by
  unfold rs
  rw [sB_sB]
theorem rs_i43 : mI (rs M X a br g0 g1 g3 h2) 1143 (X + 226) = nI a := by
  unfold rs; rw [mI_sB, mI_sA, mI_sA, mI_sA, mI_sI, if_neg (by decide), mI_sI, if_pos rfl, if_pos rfl]
theorem rs_i45 : mI (rs M X a br g0 g1 g3 h2) 1145 (X + 226) = br := by
  unfold rs; rw [mI_sB, mI_sA, mI_sA, mI_sA, mI_sI, if_pos rfl, if_pos rfl]
theorem rs_I {num : Nat} (h : ¬ num = 1143) (h2' : ¬ num = 1145) : mI (rs M X a br g0 g1 g3 h2) num = mI M num := by
  unfold rs; rw [mI_sB, mI_sA, mI_sA, mI_sA]; funext y; rw [mI_sI, if_neg h2', mI_sI, if_neg h]
theorem rs_a0 : mA (rs M X a br g0 g1 g3 h2) (X + 260) = g0 := by
  unfold rs; rw [mA_sB, mA_sA, if_neg (by omega), mA_sA, if_neg (by omega), mA_sA, if_pos rfl]
theorem rs_a1 : mA (rs M X a br g0 g1 g3 h2) (X + 261) = g1 := by
  unfold rs; rw [mA_sB, mA_sA, if_neg (by omega), mA_sA, if_pos rfl]
theorem rs_a3 : mA (rs M X a br g0 g1 g3 h2) (X + 263) = g3 := by
  unfold rs; rw [mA_sB, mA_sA, if_pos rfl]
theorem rs_A {x : Nat} (h7 : ¬ x = X + 260) (h8 : ¬ x = X + 261) (h9 : ¬ x = X + 263) : mA (rs M X a br g0 g1 g3 h2) x = mA M x := by
  unfold rs; rw [mA_sB, mA_sA, if_neg h9, mA_sA, if_neg h8, mA_sA, if_neg h7, mA_sI, mA_sI]
theorem rs_b2 : mB (rs M X a br g0 g1 g3 h2) (X + 262) = h2 := by unfold rs; rw [mB_sB, if_pos rfl]
theorem rs_B {x : Nat} (h : ¬ x = X + 262) : mB (rs M X a br g0 g1 g3 h2) x = mB M x := by
  unfold rs; rw [mB_sB, if_neg h, mB_sA, mB_sA, mB_sA, mB_sI, mB_sI]
theorem rs_S : mS (rs M X a br g0 g1 g3 h2) = mS M := rfl
theorem Ag_rs {N n : Nat} : Ag X N n T0 T0 T0 M (rs M X a br g0 g1 g3 h2) := by
  unfold rs
  exact (((((Ag_sI (Or.inl (by unfold ScI; omega))).cI (Or.inl (by unfold ScI; omega))).cA (Or.inl (by unfold ScA; omega))).cA (Or.inl (by unfold ScA; omega))).cA (Or.inl (by unfold ScA; omega))).cB (Or.inl (by unfold ScB; omega))
theorem rs_rs {a' : Nat} {b' : Int32} {k0 k1 k3 : Nat → Int32} {k2 : Nat → Int64} : rs (rs M X a br g0 g1 g3 h2) X a' b' k0 k1 k3 k2 = rs M X a' b' k0 k1 k3 k2 := by
  show sB (sA (sA (sA (sI (sI (rs M X a br g0 g1 g3 h2) 1143 (X + 226) (nI a')) 1145 (X + 226) b') (X + 260) k0) (X + 261) k1) (X + 263) k3) (X + 262) k2 = _
  rw [rs_43, rs_45, rs_0, rs_1, rs_3, rs_2]
end RsS
/-! one reading -/
def BR (M : Mm) (X B len : Nat) (r : Nat → Nat) : Prop := mR M 9 (X + 214) = some B ∧ mK M B = 20 ∧ mN M B = len ∧ len ≤ 60 ∧ X + 270 ≤ B ∧ ∀ k, k < len → r k < 256 ∧ mA M B k = nI (r k)
section Rd
variable {M : Mm} {X a n B len : Nat} {br : Int32} {g7 g8 g9 : Nat → Int32} {h0 : Nat → Int64} {r : Nat → Nat}
theorem rd_ok (hS : St M X) (hB : BR M X B len r) (hn : n < 64) (ha : a + n ≤ 8 * len) : f_X0_read (cs M X a 0 g7 g8 g9 h0) (X + 214) (nI n) = some (cs M X (a + n) 0 g7 g8 g9 h0, lN (rdv r a n)) := by
  obtain ⟨b1, b2, b3, b4, b5, b6⟩ := hB
  have S0 : St (cs M X a 0 g7 g8 g9 h0) X := St_cs hS
  have gB : ∀ {x : Nat} {c : Int32}, gR (cs M X x c g7 g8 g9 h0) 1 9 (X + 214) = some B := fun {x c} => gR_of (k_214 (St_cs hS)) b1
  have lB : ∀ {x : Nat} {c : Int32}, aL (cs M X x c g7 g8 g9 h0) B = some (nI len) := fun {x c} => aL_of (k := 20) b2 (by decide) (by decide) b3
  have e8 : nI len * 8 = nI (8 * len) := by rw [Nat.mul_comm]; exact pk_mul len 8
  unfold f_X0_read
  rw [if_pos (k_214 S0), gi_214 S0, ob_eq, cs_i11, if_pos rfl, gi_214 S0, ob_eq, cs_i10, gB, ob_eq, lB, ob_eq, nI_add, e8, if_pos (nI_le ha (by omega))]
  exact loop_run (fun fu t => f_X0_read_L36 fu (cs M X (a + t) 0 g7 g8 g9 h0) (X + 214) (nI n) (lN (rdv r a t)) (nI t)) n _
    (fun t fu ht => by
      show f_X0_read_L36 (fu + 1) (cs M X (a + t) 0 g7 g8 g9 h0) (X + 214) (nI n) (lN (rdv r a t)) (nI t) = f_X0_read_L36 fu (cs M X (a + t + 1) 0 g7 g8 g9 h0) (X + 214) (nI n) (lN (2 * rdv r a t + bt r (a + t))) (nI (t + 1))
      have S1 : St (cs M X (a + t) 0 g7 g8 g9 h0) X := St_cs hS
      obtain ⟨c1, c2⟩ := b6 ((a + t) / 8) (by omega)
      have aB : aI (cs M X (a + t) 0 g7 g8 g9 h0) B (nI ((a + t) / 8)) = some (nI (r ((a + t) / 8))) := by
        rw [aI_of (k := (a + t) / 8) (n := len) (show mK (cs M X (a + t) 0 g7 g8 g9 h0) B = 20 from b2) (show mN (cs M X (a + t) 0 g7 g8 g9 h0) B = len from b3) (by omega) (by omega), cs_A (by omega) (by omega) (by omega), c2]
      have hq : (a + t) % 8 < 8 := Nat.mod_lt _ (by decide)
      have eb : ((nI (r ((a + t) / 8)) >>> ((7 - nI ((a + t) % 8)) &&& 31)) &&& 1).toInt64 = lN (bt r (a + t)) := by
        rw [bitA c1 hq, nI_l (by omega)]; rfl
      rw [f_X0_read_L36, if_neg (nI_ge ht (by omega)), gB, ob_eq, gi_214 S1, ob_eq, cs_i10, shr3 (by omega), aB, ob_eq, ob_eq, and7, eb, app1 bt_lt, ob_eq, nI_1, pi_214 S1, ob_eq, cs_10, nI_1])
    (fun fu => by
      show f_X0_read_L36 (fu + 1) (cs M X (a + n) 0 g7 g8 g9 h0) (X + 214) (nI n) (lN (rdv r a n)) (nI n) = _
      rw [f_X0_read_L36, if_pos (nI_le (Nat.le_refl _) (by omega))]) 1000 (by omega)
theorem rd_no (hS : St M X) (hB : BR M X B len r) (hn : n < 64) (h1 : a ≤ 8 * len) (ha : 8 * len < a + n) : f_X0_read (cs M X a 0 g7 g8 g9 h0) (X + 214) (nI n) = some (cs M X a 1 g7 g8 g9 h0, 0) := by
  obtain ⟨b1, b2, b3, b4, b5, b6⟩ := hB
  have S0 : St (cs M X a 0 g7 g8 g9 h0) X := St_cs hS
  have gB : gR (cs M X a 0 g7 g8 g9 h0) 1 9 (X + 214) = some B := gR_of (k_214 S0) b1
  have lB : aL (cs M X a 0 g7 g8 g9 h0) B = some (nI len) := aL_of (k := 20) b2 (by decide) (by decide) b3
  have e8 : nI len * 8 = nI (8 * len) := by rw [Nat.mul_comm]; exact pk_mul len 8
  unfold f_X0_read
  rw [if_pos (k_214 S0), gi_214 S0, ob_eq, cs_i11, if_pos rfl, gi_214 S0, ob_eq, cs_i10, gB, ob_eq, lB, ob_eq, nI_add, e8, if_neg (nI_ge ha (by omega)), pZ_of (k_214 S0) (Or.inr rfl), ob_eq, cs_11]
theorem rd_br (hS : St M X) : f_X0_read (cs M X a 1 g7 g8 g9 h0) (X + 214) (nI n) = some (cs M X a 1 g7 g8 g9 h0, 0) := by
  have S0 : St (cs M X a 1 g7 g8 g9 h0) X := St_cs hS
  unfold f_X0_read
  rw [if_pos (k_214 S0), gi_214 S0, ob_eq, cs_i11, if_neg (by decide), pZ_of (k_214 S0) (Or.inr rfl), ob_eq, cs_11]
end Rd
section Tk
variable {M : Mm} {X a n l len : Nat} {br : Int32} {g0 g1 g3 : Nat → Int32} {h2 : Nat → Int64} {r : Nat → Nat}
def RB (M : Mm) (X l len : Nat) (r : Nat → Nat) : Prop := l < 200 ∧ len ≤ 60 ∧ mI M 1144 (X + 226) = nI (8 * len) ∧ mA M (X + 239) l = nI len ∧ ∀ k, k < len → r k < 256 ∧ mA M (X + 240) (64 * l + k) = nI (r k)
/-- t bits taken of n -/
theorem tk_run (hS : St M X) (hB : RB M X l len r) (hn : n < 64) : ∀ d t fu, t + d ≤ n → a + t + d ≤ 8 * len → d ≤ fu → f_X11_take_L5 fu (rs M X (a + t) br g0 g1 g3 h2) (X + 226) (nI l) (nI n) (lN (rdv r a t)) (nI t) = f_X11_take_L5 (fu - d) (rs M X (a + t + d) br g0 g1 g3 h2) (X + 226) (nI l) (nI n) (lN (rdv r a (t + d))) (nI (t + d)) := by
  obtain ⟨b1, b2, b3, b4, b5⟩ := hB
  intro d
  induction d with
  | zero => intro t fu _ _ _; rfl
  | succ d ih =>
    intro t fu h1 h2' h3
    obtain ⟨fu, rfl⟩ : ∃ k, fu = k + 1 := ⟨fu - 1, by omega⟩
    have S1 : St (rs M X (a + t) br g0 g1 g3 h2) X := St_rs hS
    obtain ⟨c1, c2⟩ := b5 ((a + t) / 8) (by omega)
    have hq : (a + t) % 8 < 8 := Nat.mod_lt _ (by decide)
    have eb : ((nI (r ((a + t) / 8)) >>> ((7 - nI ((a + t) % 8)) &&& 31)) &&& 1).toInt64 = lN (bt r (a + t)) := by
      rw [bitA c1 hq, nI_l (by omega)]; rfl
    have ed : nI (a + t) / 8 = nI ((a + t) / 8) := pk_div (d := 8) (by omega) (by decide) (by decide)
    have er : nI (a + t) - nI (a + t) / 8 * 8 = nI ((a + t) % 8) := pk_rem (d := 8) (by omega) (by decide) (by decide)
    have e2 : (2 : Int64) * lN (rdv r a t) + lN (bt r (a + t)) = lN (rdv r a (t + 1)) := by
      have : (2 : Int64) * lN (rdv r a t) = lN (2 * rdv r a t) := lN_mul 2 _
      rw [this, lN_add]; rfl
    have e := ih (t + 1) fu (by omega) (by omega) (by omega)
    rw [f_X11_take_L5, if_neg (nI_ge (by omega) (by omega)), gi_226 S1, ob_eq, rs_i43, gi_226 S1, ob_eq, rs_I (by decide) (by decide), b3, if_pos (nI_lt (by omega) (by omega)), r_226_1118 S1, ob_eq, ob_eq, ed, m64, nI_add, ai_240 S1 (by omega), ob_eq, rs_A (by omega) (by omega) (by omega), c2, ob_eq, ob_eq, er, eb, e2, nI_1, pi_226 S1, ob_eq, rs_43, nI_1]
    rw [show a + t + 1 = a + (t + 1) by omega, e, show fu - d = fu + 1 - (d + 1) by omega, show a + (t + 1) + d = a + t + (d + 1) by omega, show t + 1 + d = t + (d + 1) by omega]
theorem tk_ok (hS : St M X) (hB : RB M X l len r) (hn : n < 64) (ha : a + n ≤ 8 * len) : f_X11_take (rs M X a br g0 g1 g3 h2) (X + 226) (nI l) (nI n) = some (rs M X (a + n) br g0 g1 g3 h2, lN (rdv r a n)) := by
  unfold f_X11_take
  rw [if_pos (k_226 (St_rs hS))]
  have e := tk_run (a := a) (br := br) (g0 := g0) (g1 := g1) (g3 := g3) (h2 := h2) hS hB hn n 0 1000 (by omega) (by omega) (by omega)
  rw [Nat.zero_add, Nat.add_zero] at e
  have e1 : f_X11_take_L5 1000 (rs M X a br g0 g1 g3 h2) (X + 226) (nI l) (nI n) 0 0 = _ := e
  rw [e1, show 1000 - n = 999 - n + 1 by omega, f_X11_take_L5, if_pos (nI_le (Nat.le_refl _) (by omega))]
theorem tk_no (hS : St M X) (hB : RB M X l len r) (hn : n < 64) (h1 : a ≤ 8 * len) (ha : 8 * len < a + n) : f_X11_take (rs M X a br g0 g1 g3 h2) (X + 226) (nI l) (nI n) = some (rs M X (8 * len) 1 g0 g1 g3 h2, 0) := by
  have b2 := hB.2.1
  unfold f_X11_take
  rw [if_pos (k_226 (St_rs hS))]
  have e := tk_run (a := a) (br := br) (g0 := g0) (g1 := g1) (g3 := g3) (h2 := h2) hS hB hn (8 * len - a) 0 1000 (by omega) (by omega) (by omega)
  rw [Nat.zero_add, Nat.add_zero, show a + (8 * len - a) = 8 * len by omega] at e
  have e1 : f_X11_take_L5 1000 (rs M X a br g0 g1 g3 h2) (X + 226) (nI l) (nI n) 0 0 = _ := e
  have S1 : St (rs M X (8 * len) br g0 g1 g3 h2) X := St_rs hS
  rw [e1, show 1000 - (8 * len - a) = 999 - (8 * len - a) + 1 by omega, f_X11_take_L5, if_neg (nI_ge (by omega) (by omega)), gi_226 S1, ob_eq, rs_i43, gi_226 S1, ob_eq, rs_I (by decide) (by decide), hB.2.2.1, if_neg (nI_nlt (Nat.le_refl _) (by omega)), pZ_of (k_226 S1) (Or.inr rfl), ob_eq, rs_45]
/-- whatever stands: it ends, and what is broken stays so -/
theorem tk_br (hS : St M X) (hB : RB M X l len r) (hn : n < 64) (h1 : a ≤ 8 * len) : ∃ a' v, a' ≤ 8 * len ∧ f_X11_take (rs M X a 1 g0 g1 g3 h2) (X + 226) (nI l) (nI n) = some (rs M X a' 1 g0 g1 g3 h2, v) := by
  by_cases c : a + n ≤ 8 * len
  · exact ⟨a + n, _, c, tk_ok hS hB hn c⟩
  · exact ⟨8 * len, _, Nat.le_refl _, tk_no hS hB hn h1 (by omega)⟩
end Tk
