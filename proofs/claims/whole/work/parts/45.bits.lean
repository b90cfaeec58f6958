/-! Bits: how they are written, and what bytes they make. -/
theorem andI (a b : Nat) : nI a &&& nI b = nI (a &&& b) := by
  apply Int32.toBitVec_inj.1
  show BitVec.ofNat 32 a &&& BitVec.ofNat 32 b = BitVec.ofNat 32 (a &&& b)
  apply BitVec.eq_of_getLsbD_eq
  intro i hi
  simp [hi]
theorem orI (a b : Nat) : nI a ||| nI b = nI (a ||| b) := by
  apply Int32.toBitVec_inj.1
  show BitVec.ofNat 32 a ||| BitVec.ofNat 32 b = BitVec.ofNat 32 (a ||| b)
  apply BitVec.eq_of_getLsbD_eq
  intro i hi
  simp [hi]
theorem and7 (m : Nat) : nI m &&& 7 = nI (m % 8) := by
  have e : nI m &&& nI 7 = nI (m &&& (2 ^ 3 - 1)) := andI m 7
  rw [Nat.and_two_pow_sub_one_eq_mod] at e
  exact e
theorem and255 (m : Nat) : nI m &&& 255 = nI (m % 256) := by
  have e : nI m &&& nI 255 = nI (m &&& (2 ^ 8 - 1)) := andI m 255
  rw [Nat.and_two_pow_sub_one_eq_mod] at e
  exact e
theorem shr3 {m : Nat} (h : m < 2 ^ 31) : nI m >>> (3 &&& 31) = nI (m / 8) := pk_shrN h _ 3 (by decide)
theorem shl7 : ∀ r, r < 8 → ∀ v, v < 2 → nI v <<< ((7 - nI r) &&& 31) = nI (v * 2 ^ (7 - r)) := by decide
theorem shn : ∀ i, i < 64 → ((nI i).toInt64 &&& 63).toBitVec.smod 64 = BitVec.ofNat 64 i := by decide
theorem shrL (x : Int64) {i : Nat} (hi : i < 64) : (x >>> ((nI i).toInt64 &&& 63)).toBitVec = x.toBitVec.sshiftRight i := by
  rw [Int64.toBitVec_shiftRight, shn i hi]
  simp [BitVec.sshiftRight', Nat.mod_eq_of_lt (Nat.lt_trans hi (by decide : 64 < 2 ^ 64))]
theorem bitM {u i : Nat} (hi : i < 64) : ((lN u >>> ((nI i).toInt64 &&& 63)) &&& 1).toInt32 = nI (u / 2 ^ i % 2) := by
  apply Int32.toBitVec_inj.1
  show _ = BitVec.ofNat 32 (u / 2 ^ i % 2)
  rw [Int64.toBitVec_toInt32, Int64.toBitVec_and, shrL _ hi]
  apply BitVec.eq_of_getLsbD_eq
  intro j hj
  have e1 : (1 : Int64).toBitVec = BitVec.ofNat 64 1 := rfl
  have e2 : (lN u).toBitVec = BitVec.ofNat 64 u := rfl
  rw [e1, e2]
  have e3 : u / 2 ^ i % 2 = u / 2 ^ i % 2 ^ 1 := rfl
  rw [e3, BitVec.getLsbD_ofNat, Nat.testBit_mod_two_pow, Nat.testBit_div_two_pow]
  by_cases q : j = 0
  · subst q
    rw [BitVec.getLsbD_signExtend, BitVec.getLsbD_and, BitVec.getLsbD_sshiftRight, BitVec.getLsbD_ofNat, BitVec.getLsbD_ofNat]
    simp [hi]
  · simp [BitVec.getLsbD_signExtend, hj, q, BitVec.getLsbD_one, (by omega : j < 64)]
theorem bitP {u i : Nat} (hi : i < 64) : ((lN u >>> ((nI i).toInt64 &&& 63)).toInt32) &&& 1 = nI (u / 2 ^ i % 2) := by
  rw [← bitM hi]
  apply Int32.toBitVec_inj.1
  rw [Int32.toBitVec_and]
  rw [Int64.toBitVec_toInt32, Int64.toBitVec_toInt32, Int64.toBitVec_and]
  apply BitVec.eq_of_getLsbD_eq
  intro j hj
  have e1 : (1 : Int64).toBitVec = BitVec.ofNat 64 1 := rfl
  have e2 : (1 : Int32).toBitVec = BitVec.ofNat 32 1 := rfl
  rw [e1, e2]
  by_cases q : j = 0
  · subst q; simp [BitVec.getLsbD_signExtend]
  · simp [BitVec.getLsbD_signExtend, hj, q, BitVec.getLsbD_one, (by omega : j < 64)]
def hv (b : Nat → Nat) (m k : Nat) : Nat → Nat
  | 0 => 0
  | i + 1 => 2 * hv b m k i + (if 8 * k + i < m then b (8 * k + i) else 0)
def byv (b : Nat → Nat) (m k : Nat) : Nat := hv b m k 8
theorem hv_congr {b b' : Nat → Nat} {m k : Nat} (h : ∀ j, j < m → b' j = b j) : ∀ i, hv b' m k i = hv b m k i
  | 0 => rfl
  | i + 1 => by
    show 2 * hv b' m k i + _ = 2 * hv b m k i + _
    rw [hv_congr h i]
    by_cases q : 8 * k + i < m
    · rw [if_pos q, if_pos q, h _ q]
    · rw [if_neg q, if_neg q]
theorem byv_congr {b b' : Nat → Nat} {m k : Nat} (h : ∀ j, j < m → b' j = b j) : byv b' m k = byv b m k := hv_congr h 8
theorem hv_lt {b : Nat → Nat} {m k : Nat} (h : ∀ j, j < m → b j < 2) : ∀ i, hv b m k i < 2 ^ i
  | 0 => by show 0 < 1; decide
  | i + 1 => by
    have e := hv_lt (k := k) h i
    show 2 * hv b m k i + _ < 2 ^ (i + 1)
    rw [Nat.pow_succ]
    by_cases q : 8 * k + i < m
    · rw [if_pos q]; have := h _ q; omega
    · rw [if_neg q]; omega
theorem byv_lt {b : Nat → Nat} {m k : Nat} (h : ∀ j, j < m → b j < 2) : byv b m k < 256 := hv_lt h 8
theorem hv_far {b b' : Nat → Nat} {m k : Nat} (h : ∀ j, j < m → b' j = b j) (hk : k ≠ m / 8) : ∀ i, i ≤ 8 → hv b' (m + 1) k i = hv b m k i
  | 0, _ => rfl
  | i + 1, hi => by
    show 2 * hv b' (m + 1) k i + _ = 2 * hv b m k i + _
    rw [hv_far h hk i (by omega)]
    by_cases q : 8 * k + i < m
    · rw [if_pos q, if_pos (by omega), h _ q]
    · rw [if_neg q, if_neg (by omega)]
theorem hv_zero {b : Nat → Nat} {m k i : Nat} (hm : m ≤ 8 * k + i) : ∀ t, hv b m k (i + t) = hv b m k i * 2 ^ t
  | 0 => by rw [Nat.add_zero, Nat.pow_zero, Nat.mul_one]
  | t + 1 => by
    show 2 * hv b m k (i + t) + (if 8 * k + (i + t) < m then b (8 * k + (i + t)) else 0) = _
    rw [hv_zero hm t, if_neg (by omega), Nat.add_zero, Nat.pow_succ]
    rw [Nat.mul_comm 2, Nat.mul_assoc]
theorem hv_near {b b' : Nat → Nat} {m k : Nat} (h : ∀ j, j < m → b' j = b j) : ∀ i, 8 * k + i ≤ m → hv b' (m + 1) k i = hv b m k i
  | 0, _ => rfl
  | i + 1, hi => by
    show 2 * hv b' (m + 1) k i + _ = 2 * hv b m k i + _
    rw [hv_near h i (by omega), if_pos (by omega), if_pos (by omega), h _ (by omega)]
theorem byv_step {b b' : Nat → Nat} {m : Nat} (h : ∀ j, j < m → b' j = b j) (hv2 : b' m < 2) (hb : ∀ j, j < m → b j < 2) : byv b' (m + 1) (m / 8) = byv b m (m / 8) ||| (b' m * 2 ^ (7 - m % 8)) := by
  have hr : m % 8 < 8 := Nat.mod_lt _ (by decide)
  have e0 : 8 * (m / 8) + m % 8 = m := Nat.div_add_mod m 8
  have a1 : byv b m (m / 8) = hv b m (m / 8) (m % 8) * 2 ^ (8 - m % 8) := by
    have := hv_zero (b := b) (m := m) (k := m / 8) (i := m % 8) (by omega) (8 - m % 8)
    rw [show m % 8 + (8 - m % 8) = 8 by omega] at this
    exact this
  have a2 : hv b' (m + 1) (m / 8) (m % 8 + 1) = 2 * hv b m (m / 8) (m % 8) + b' m := by
    show 2 * hv b' (m + 1) (m / 8) (m % 8) + _ = _
    rw [hv_near h _ (by omega), if_pos (by omega), e0]
  have a3 : byv b' (m + 1) (m / 8) = (2 * hv b m (m / 8) (m % 8) + b' m) * 2 ^ (7 - m % 8) := by
    have := hv_zero (b := b') (m := m + 1) (k := m / 8) (i := m % 8 + 1) (by omega) (7 - m % 8)
    rw [show m % 8 + 1 + (7 - m % 8) = 8 by omega, a2] at this
    exact this
  have e8 : 2 ^ (8 - m % 8) = 2 * 2 ^ (7 - m % 8) := by
    rw [show 8 - m % 8 = 7 - m % 8 + 1 by omega, Nat.pow_succ, Nat.mul_comm]
  have hlt : b' m * 2 ^ (7 - m % 8) < 2 ^ (8 - m % 8) := by
    rw [e8]
    exact Nat.mul_lt_mul_of_pos_right hv2 (Nat.two_pow_pos _)
  have or := Nat.shiftLeft_add_eq_or_of_lt hlt (hv b m (m / 8) (m % 8))
  rw [Nat.shiftLeft_eq] at or
  rw [a3, a1, ← or, e8, Nat.add_mul, Nat.mul_comm 2 (hv _ _ _ _), Nat.mul_assoc]
/-- c bits of u behind the m that stand, t of them written -/
def apt (b : Nat → Nat) (m u c t : Nat) : Nat → Nat := fun j => if m ≤ j ∧ j < m + t then u / 2 ^ (m + c - 1 - j) % 2 else b j
def ap (b : Nat → Nat) (m u c : Nat) : Nat → Nat := apt b m u c c
theorem apt_0 (b : Nat → Nat) (m u c : Nat) : apt b m u c 0 = b := by funext j; unfold apt; rw [if_neg (by omega)]
theorem apt_lo {b : Nat → Nat} {m u c t j : Nat} (h : j < m) : apt b m u c t j = b j := by unfold apt; rw [if_neg (by omega)]
theorem apt_s {b : Nat → Nat} {m u c t j : Nat} (h : j < m + t) : apt b m u c (t + 1) j = apt b m u c t j := by
  unfold apt
  by_cases q : m ≤ j ∧ j < m + t
  · rw [if_pos q, if_pos (by omega)]
  · rw [if_neg q, if_neg (by omega)]
theorem apt_n {b : Nat → Nat} {m u c t : Nat} : apt b m u c (t + 1) (m + t) = u / 2 ^ (c - 1 - t) % 2 := by
  unfold apt
  rw [if_pos (by omega), show m + c - 1 - (m + t) = c - 1 - t by omega]
theorem apt_b {b : Nat → Nat} {m u c t : Nat} (h : ∀ j, j < m → b j < 2) : ∀ j, j < m + t → apt b m u c t j < 2 := by
  intro j hj
  unfold apt
  by_cases q : m ≤ j ∧ j < m + t
  · rw [if_pos q]; exact Nat.mod_lt _ (by decide)
  · rw [if_neg q]; exact h j (by omega)
