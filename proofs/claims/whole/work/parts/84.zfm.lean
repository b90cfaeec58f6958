/-! The remainder by 8, of any int. -/
theorem tm8 (z : Int) : ∃ q c : Int, z.tdiv 8 = q ∧ z = q * 8 + c ∧ -7 ≤ c ∧ c ≤ 7 ∧ (c < 0 → z < 0) ∧ (0 < c → 0 ≤ z) := by
  by_cases h : 0 ≤ z
  · exact ⟨z / 8, z % 8, Int.tdiv_eq_ediv_of_nonneg h, by omega, by omega, by omega, by omega, by omega⟩
  · refine ⟨-((-z) / 8), -((-z) % 8), ?_, by omega, by omega, by omega, by omega, by omega⟩
    rw [← Int.tdiv_eq_ediv_of_nonneg (show 0 ≤ -z by omega), Int.neg_tdiv, Int.neg_neg]
theorem rem8 (a : Int32) : ∃ c : Int, -7 ≤ c ∧ c ≤ 7 ∧ (c < 0 → a.toInt < 0) ∧ (0 < c → 0 ≤ a.toInt) ∧ (a - a / 8 * 8) = Int32.ofInt c := by
  have l1 := Int32.le_toInt a
  have l2 := Int32.toInt_lt a
  obtain ⟨q, c, h1, h2, h3, h4, h5, h6⟩ := tm8 a.toInt
  have hd : (a / 8).toInt = q := (Int32.toInt_div_of_ne_right a 8 (by decide)).trans h1
  refine ⟨c, h3, h4, h5, h6, ?_⟩
  apply Int32.toInt_inj.1
  rw [Int32.toInt_sub, Int32.toInt_mul, hd, show (8 : Int32).toInt = 8 from rfl, Int.bmod_eq_of_le_mul_two (x := q * 8) (by omega) (by omega), Int32.toInt_ofInt_of_le (by omega) (by omega), Int.bmod_eq_of_le_mul_two (by omega) (by omega)]
  omega
theorem xor8 (a : Int32) : (0 ≤ (a ^^^ 8)) ↔ 0 ≤ a.toInt := by
  rw [Int32.le_iff_toInt_le]
  show 0 ≤ (a.toBitVec ^^^ (8 : Int32).toBitVec).toInt ↔ 0 ≤ a.toBitVec.toInt
  have h1 := @BitVec.msb_eq_toInt 32 (a.toBitVec ^^^ (8 : Int32).toBitVec)
  have h2 := @BitVec.msb_eq_toInt 32 a.toBitVec
  rw [BitVec.msb_xor, show (8 : Int32).toBitVec.msb = false by decide, Bool.xor_false, h2] at h1
  have h3 := decide_eq_decide.mp h1
  omega
def e8 (a : Int32) : Int32 := 1 + (((a - a / 8 * 8) + 8) - ((a - a / 8 * 8) + 8) / 8 * 8)
theorem both8 (a : Int32) : ∃ v, v < 8 ∧ f_J9_floorMod_7cf53 a 8 = some (nI v) ∧ e8 a = nI (v + 1) := by
  obtain ⟨c, h1, h2, h3, h4, h5⟩ := rem8 a
  have hx := xor8 a
  unfold e8 f_J9_floorMod_7cf53
  rw [h5, if_neg (show ¬ (8 : Int32) = 0 by decide)]
  by_cases hn : 0 ≤ a.toInt
  · rw [if_pos (hx.mpr hn)]
    have h0 : 0 ≤ c := by omega
    obtain ⟨v, rfl⟩ := Int.eq_ofNat_of_zero_le h0
    have hv : v < 8 := by omega
    clear hx h1 h2 h3 h4 h5 h0
    refine ⟨v, hv, ?_⟩
    revert v
    decide
  · rw [if_neg (fun q => hn (hx.mp q))]
    have h0 : 0 ≤ -c := by omega
    obtain ⟨v, hv0⟩ := Int.eq_ofNat_of_zero_le h0
    have hc : c = -(v : Int) := by omega
    subst hc
    have hv : v < 8 := by omega
    clear hx h1 h2 h3 h4 h5 h0 hv0
    refine ⟨(8 - v) % 8, by omega, ?_⟩
    revert v
    decide
