theorem lgc_lt (x y : Int64) : lg_cmp x y < 0 ↔ x < y := by
  unfold lg_cmp
  by_cases h1 : y < x
  · rw [if_pos h1]
    have h2 := Int64.lt_iff_toInt_lt.mp h1
    constructor
    · intro h; exact absurd h (by decide)
    · intro h; have h3 := Int64.lt_iff_toInt_lt.mp h; omega
  · rw [if_neg h1]
    by_cases h2 : x = y
    · rw [if_pos h2]
      subst h2
      constructor
      · intro h; exact absurd h (by decide)
      · intro h; exact absurd h h1
    · rw [if_neg h2]
      constructor
      · intro _
        have h3 : ¬ y.toInt < x.toInt := fun q => h1 (Int64.lt_iff_toInt_lt.mpr q)
        have h4 : ¬ x.toInt = y.toInt := fun q => h2 (Int64.toInt_inj.mp q)
        exact Int64.lt_iff_toInt_lt.mpr (by omega)
      · intro _; decide
theorem lgc_gt (x y : Int64) : 0 < lg_cmp x y ↔ y < x := by
  unfold lg_cmp
  by_cases h1 : y < x
  · rw [if_pos h1]
    exact ⟨fun _ => h1, fun _ => by decide⟩
  · rw [if_neg h1]
    by_cases h2 : x = y
    · rw [if_pos h2]
      exact ⟨fun h => absurd h (by decide), fun h => absurd h h1⟩
    · rw [if_neg h2]
      exact ⟨fun h => absurd h (by decide), fun h => absurd h h1⟩
theorem lgc_eq (x y : Int64) : lg_cmp x y = 0 ↔ x = y := by
  unfold lg_cmp
  by_cases h1 : y < x
  · rw [if_pos h1]
    constructor
    · intro h; exact absurd h (by decide)
    · intro h; subst h; exact absurd (Int64.lt_iff_toInt_lt.mp h1) (by omega)
  · rw [if_neg h1]
    by_cases h2 : x = y
    · rw [if_pos h2]; exact ⟨fun _ => h2, fun _ => rfl⟩
    · rw [if_neg h2]; exact ⟨fun h => absurd h (by decide), fun h => absurd h h2⟩
theorem lgc_ge (x y : Int64) : 0 ≤ lg_cmp x y ↔ ¬ x < y := by
  rw [← lgc_lt, Int32.not_lt]
theorem w64_lt (a b : Int32) : a.toInt64 < b.toInt64 ↔ a < b := by
  rw [Int64.lt_iff_toInt_lt, Int32.lt_iff_toInt_lt, Int32.toInt_toInt64, Int32.toInt_toInt64]
theorem isIn_eq (a lo hi : Int32) : f_X11_isIn a.toInt64 lo.toInt64 hi.toInt64 = some (if a < lo then 0 else if hi < a then 0 else 1) := by
  unfold f_X11_isIn
  simp only [lgc_lt, lgc_gt, w64_lt]
  by_cases h1 : a < lo
  · simp only [if_pos h1]
  · by_cases h2 : hi < a
    · simp only [if_neg h1, if_pos h2]
    · simp only [if_neg h1, if_neg h2]
theorem m8 (i : Nat) : (8 : Int32) * nI i = nI (8 * i) := pk_mul 8 i
theorem m9 (i : Nat) : (9 : Int32) * nI i = nI (9 * i) := pk_mul 9 i
theorem m64 (i : Nat) : (64 : Int32) * nI i = nI (64 * i) := pk_mul 64 i
theorem gi_0 {M : Mm} {X : Nat} (h : St M X) {num : Nat} : gI M 11 num X = some (mI M num X) := gI_of (k_0 h)
theorem pi_0 {M : Mm} {X : Nat} (h : St M X) {num : Nat} {v : Int32} : pI M 11 num X v = some (sI M num X v) := pI_of (k_0 h)
theorem gi_1 {M : Mm} {X : Nat} (h : St M X) {num : Nat} : gI M 7 num (X + 1) = some (mI M num (X + 1)) := gI_of (k_1 h)
theorem pi_1 {M : Mm} {X : Nat} (h : St M X) {num : Nat} {v : Int32} : pI M 7 num (X + 1) v = some (sI M num (X + 1) v) := pI_of (k_1 h)
theorem ai_2 {M : Mm} {X : Nat} (h : St M X) {k : Nat} (hk : k < 8) : aI M (X + 2) (nI k) = some (mA M (X + 2) k) := aI_of (k_2 h) (n_2 h) hk (by decide)
theorem wi_2 {M : Mm} {X : Nat} (h : St M X) {k : Nat} {v : Int32} (hk : k < 8) : wI M (X + 2) (nI k) v = some (sA M (X + 2) (va_up (mA M (X + 2)) k v)) := wI_of (k_2 h) (n_2 h) hk (by decide)
theorem al_2 {M : Mm} {X : Nat} (h : St M X) : aL M (X + 2) = some (nI 8) := aL_of (k_2 h) (by decide) (by decide) (n_2 h)
theorem ai_3 {M : Mm} {X : Nat} (h : St M X) {k : Nat} (hk : k < 8) : aI M (X + 3) (nI k) = some (mA M (X + 3) k) := aI_of (k_3 h) (n_3 h) hk (by decide)
theorem wi_3 {M : Mm} {X : Nat} (h : St M X) {k : Nat} {v : Int32} (hk : k < 8) : wI M (X + 3) (nI k) v = some (sA M (X + 3) (va_up (mA M (X + 3)) k v)) := wI_of (k_3 h) (n_3 h) hk (by decide)
theorem al_3 {M : Mm} {X : Nat} (h : St M X) : aL M (X + 3) = some (nI 8) := aL_of (k_3 h) (by decide) (by decide) (n_3 h)
theorem ai_4 {M : Mm} {X : Nat} (h : St M X) {k : Nat} (hk : k < 8) : aI M (X + 4) (nI k) = some (mA M (X + 4) k) := aI_of (k_4 h) (n_4 h) hk (by decide)
theorem wi_4 {M : Mm} {X : Nat} (h : St M X) {k : Nat} {v : Int32} (hk : k < 8) : wI M (X + 4) (nI k) v = some (sA M (X + 4) (va_up (mA M (X + 4)) k v)) := wI_of (k_4 h) (n_4 h) hk (by decide)
theorem al_4 {M : Mm} {X : Nat} (h : St M X) : aL M (X + 4) = some (nI 8) := aL_of (k_4 h) (by decide) (by decide) (n_4 h)
theorem ai_5 {M : Mm} {X : Nat} (h : St M X) {k : Nat} (hk : k < 8) : aI M (X + 5) (nI k) = some (mA M (X + 5) k) := aI_of (k_5 h) (n_5 h) hk (by decide)
theorem wi_5 {M : Mm} {X : Nat} (h : St M X) {k : Nat} {v : Int32} (hk : k < 8) : wI M (X + 5) (nI k) v = some (sA M (X + 5) (va_up (mA M (X + 5)) k v)) := wI_of (k_5 h) (n_5 h) hk (by decide)
theorem al_5 {M : Mm} {X : Nat} (h : St M X) : aL M (X + 5) = some (nI 8) := aL_of (k_5 h) (by decide) (by decide) (n_5 h)
theorem gi_6 {M : Mm} {X : Nat} (h : St M X) {num : Nat} : gI M 4 num (X + 6) = some (mI M num (X + 6)) := gI_of (k_6 h)
theorem pi_6 {M : Mm} {X : Nat} (h : St M X) {num : Nat} {v : Int32} : pI M 4 num (X + 6) v = some (sI M num (X + 6) v) := pI_of (k_6 h)
theorem aj_7 {M : Mm} {X : Nat} (h : St M X) {k : Nat} (hk : k < 8) : aJ M (X + 7) (nI k) = some (mB M (X + 7) k) := aJ_of (k_7 h) (n_7 h) hk (by decide)
theorem wj_7 {M : Mm} {X : Nat} (h : St M X) {k : Nat} {v : Int64} (hk : k < 8) : wJ M (X + 7) (nI k) v = some (sB M (X + 7) (va_up (mB M (X + 7)) k v)) := wJ_of (k_7 h) (n_7 h) hk (by decide)
theorem gi_212 {M : Mm} {X : Nat} (h : St M X) {num : Nat} : gI M 6 num (X + 212) = some (mI M num (X + 212)) := gI_of (k_212 h)
theorem pi_212 {M : Mm} {X : Nat} (h : St M X) {num : Nat} {v : Int32} : pI M 6 num (X + 212) v = some (sI M num (X + 212) v) := pI_of (k_212 h)
theorem ai_213 {M : Mm} {X : Nat} (h : St M X) {k : Nat} (hk : k < 60) : aI M (X + 213) (nI k) = some (mA M (X + 213) k) := aI_of (k_213 h) (n_213 h) hk (by decide)
theorem wi_213 {M : Mm} {X : Nat} (h : St M X) {k : Nat} {v : Int32} (hk : k < 60) : wI M (X + 213) (nI k) v = some (sA M (X + 213) (va_up (mA M (X + 213)) k v)) := wI_of (k_213 h) (n_213 h) hk (by decide)
theorem al_213 {M : Mm} {X : Nat} (h : St M X) : aL M (X + 213) = some (nI 60) := aL_of (k_213 h) (by decide) (by decide) (n_213 h)
theorem gi_214 {M : Mm} {X : Nat} (h : St M X) {num : Nat} : gI M 1 num (X + 214) = some (mI M num (X + 214)) := gI_of (k_214 h)
theorem pi_214 {M : Mm} {X : Nat} (h : St M X) {num : Nat} {v : Int32} : pI M 1 num (X + 214) v = some (sI M num (X + 214) v) := pI_of (k_214 h)
theorem gi_215 {M : Mm} {X : Nat} (h : St M X) {num : Nat} : gI M 4 num (X + 215) = some (mI M num (X + 215)) := gI_of (k_215 h)
theorem pi_215 {M : Mm} {X : Nat} (h : St M X) {num : Nat} {v : Int32} : pI M 4 num (X + 215) v = some (sI M num (X + 215) v) := pI_of (k_215 h)
theorem aj_216 {M : Mm} {X : Nat} (h : St M X) {k : Nat} (hk : k < 8) : aJ M (X + 216) (nI k) = some (mB M (X + 216) k) := aJ_of (k_216 h) (n_216 h) hk (by decide)
theorem wj_216 {M : Mm} {X : Nat} (h : St M X) {k : Nat} {v : Int64} (hk : k < 8) : wJ M (X + 216) (nI k) v = some (sB M (X + 216) (va_up (mB M (X + 216)) k v)) := wJ_of (k_216 h) (n_216 h) hk (by decide)
theorem ai_217 {M : Mm} {X : Nat} (h : St M X) {k : Nat} (hk : k < 8) : aI M (X + 217) (nI k) = some (mA M (X + 217) k) := aI_of (k_217 h) (n_217 h) hk (by decide)
theorem wi_217 {M : Mm} {X : Nat} (h : St M X) {k : Nat} {v : Int32} (hk : k < 8) : wI M (X + 217) (nI k) v = some (sA M (X + 217) (va_up (mA M (X + 217)) k v)) := wI_of (k_217 h) (n_217 h) hk (by decide)
theorem al_217 {M : Mm} {X : Nat} (h : St M X) : aL M (X + 217) = some (nI 8) := aL_of (k_217 h) (by decide) (by decide) (n_217 h)
theorem ai_218 {M : Mm} {X : Nat} (h : St M X) {k : Nat} (hk : k < 8) : aI M (X + 218) (nI k) = some (mA M (X + 218) k) := aI_of (k_218 h) (n_218 h) hk (by decide)
theorem wi_218 {M : Mm} {X : Nat} (h : St M X) {k : Nat} {v : Int32} (hk : k < 8) : wI M (X + 218) (nI k) v = some (sA M (X + 218) (va_up (mA M (X + 218)) k v)) := wI_of (k_218 h) (n_218 h) hk (by decide)
theorem al_218 {M : Mm} {X : Nat} (h : St M X) : aL M (X + 218) = some (nI 8) := aL_of (k_218 h) (by decide) (by decide) (n_218 h)
theorem ai_219 {M : Mm} {X : Nat} (h : St M X) {k : Nat} (hk : k < 8) : aI M (X + 219) (nI k) = some (mA M (X + 219) k) := aI_of (k_219 h) (n_219 h) hk (by decide)
theorem wi_219 {M : Mm} {X : Nat} (h : St M X) {k : Nat} {v : Int32} (hk : k < 8) : wI M (X + 219) (nI k) v = some (sA M (X + 219) (va_up (mA M (X + 219)) k v)) := wI_of (k_219 h) (n_219 h) hk (by decide)
theorem al_219 {M : Mm} {X : Nat} (h : St M X) : aL M (X + 219) = some (nI 8) := aL_of (k_219 h) (by decide) (by decide) (n_219 h)
theorem aj_220 {M : Mm} {X : Nat} (h : St M X) {k : Nat} (hk : k < 8) : aJ M (X + 220) (nI k) = some (mB M (X + 220) k) := aJ_of (k_220 h) (n_220 h) hk (by decide)
theorem wj_220 {M : Mm} {X : Nat} (h : St M X) {k : Nat} {v : Int64} (hk : k < 8) : wJ M (X + 220) (nI k) v = some (sB M (X + 220) (va_up (mB M (X + 220)) k v)) := wJ_of (k_220 h) (n_220 h) hk (by decide)
theorem ai_221 {M : Mm} {X : Nat} (h : St M X) {k : Nat} (hk : k < 0) : aI M (X + 221) (nI k) = some (mA M (X + 221) k) := aI_of (k_221 h) (n_221 h) hk (by decide)
theorem wi_221 {M : Mm} {X : Nat} (h : St M X) {k : Nat} {v : Int32} (hk : k < 0) : wI M (X + 221) (nI k) v = some (sA M (X + 221) (va_up (mA M (X + 221)) k v)) := wI_of (k_221 h) (n_221 h) hk (by decide)
theorem al_221 {M : Mm} {X : Nat} (h : St M X) : aL M (X + 221) = some (nI 0) := aL_of (k_221 h) (by decide) (by decide) (n_221 h)
theorem gi_222 {M : Mm} {X : Nat} (h : St M X) {num : Nat} : gI M 3 num (X + 222) = some (mI M num (X + 222)) := gI_of (k_222 h)
theorem pi_222 {M : Mm} {X : Nat} (h : St M X) {num : Nat} {v : Int32} : pI M 3 num (X + 222) v = some (sI M num (X + 222) v) := pI_of (k_222 h)
theorem gi_223 {M : Mm} {X : Nat} (h : St M X) {num : Nat} : gI M 4 num (X + 223) = some (mI M num (X + 223)) := gI_of (k_223 h)
theorem pi_223 {M : Mm} {X : Nat} (h : St M X) {num : Nat} {v : Int32} : pI M 4 num (X + 223) v = some (sI M num (X + 223) v) := pI_of (k_223 h)
theorem aj_224 {M : Mm} {X : Nat} (h : St M X) {k : Nat} (hk : k < 8) : aJ M (X + 224) (nI k) = some (mB M (X + 224) k) := aJ_of (k_224 h) (n_224 h) hk (by decide)
theorem wj_224 {M : Mm} {X : Nat} (h : St M X) {k : Nat} {v : Int64} (hk : k < 8) : wJ M (X + 224) (nI k) v = some (sB M (X + 224) (va_up (mB M (X + 224)) k v)) := wJ_of (k_224 h) (n_224 h) hk (by decide)
theorem ai_225 {M : Mm} {X : Nat} (h : St M X) {k : Nat} (hk : k < 8) : aI M (X + 225) (nI k) = some (mA M (X + 225) k) := aI_of (k_225 h) (n_225 h) hk (by decide)
theorem wi_225 {M : Mm} {X : Nat} (h : St M X) {k : Nat} {v : Int32} (hk : k < 8) : wI M (X + 225) (nI k) v = some (sA M (X + 225) (va_up (mA M (X + 225)) k v)) := wI_of (k_225 h) (n_225 h) hk (by decide)
theorem al_225 {M : Mm} {X : Nat} (h : St M X) : aL M (X + 225) = some (nI 8) := aL_of (k_225 h) (by decide) (by decide) (n_225 h)
theorem gi_226 {M : Mm} {X : Nat} (h : St M X) {num : Nat} : gI M 12 num (X + 226) = some (mI M num (X + 226)) := gI_of (k_226 h)
theorem pi_226 {M : Mm} {X : Nat} (h : St M X) {num : Nat} {v : Int32} : pI M 12 num (X + 226) v = some (sI M num (X + 226) v) := pI_of (k_226 h)
theorem ai_227 {M : Mm} {X : Nat} (h : St M X) {k : Nat} (hk : k < 8) : aI M (X + 227) (nI k) = some (mA M (X + 227) k) := aI_of (k_227 h) (n_227 h) hk (by decide)
theorem wi_227 {M : Mm} {X : Nat} (h : St M X) {k : Nat} {v : Int32} (hk : k < 8) : wI M (X + 227) (nI k) v = some (sA M (X + 227) (va_up (mA M (X + 227)) k v)) := wI_of (k_227 h) (n_227 h) hk (by decide)
theorem al_227 {M : Mm} {X : Nat} (h : St M X) : aL M (X + 227) = some (nI 8) := aL_of (k_227 h) (by decide) (by decide) (n_227 h)
theorem ai_228 {M : Mm} {X : Nat} (h : St M X) {k : Nat} (hk : k < 8) : aI M (X + 228) (nI k) = some (mA M (X + 228) k) := aI_of (k_228 h) (n_228 h) hk (by decide)
theorem wi_228 {M : Mm} {X : Nat} (h : St M X) {k : Nat} {v : Int32} (hk : k < 8) : wI M (X + 228) (nI k) v = some (sA M (X + 228) (va_up (mA M (X + 228)) k v)) := wI_of (k_228 h) (n_228 h) hk (by decide)
theorem al_228 {M : Mm} {X : Nat} (h : St M X) : aL M (X + 228) = some (nI 8) := aL_of (k_228 h) (by decide) (by decide) (n_228 h)
theorem ai_229 {M : Mm} {X : Nat} (h : St M X) {k : Nat} (hk : k < 8) : aI M (X + 229) (nI k) = some (mA M (X + 229) k) := aI_of (k_229 h) (n_229 h) hk (by decide)
theorem wi_229 {M : Mm} {X : Nat} (h : St M X) {k : Nat} {v : Int32} (hk : k < 8) : wI M (X + 229) (nI k) v = some (sA M (X + 229) (va_up (mA M (X + 229)) k v)) := wI_of (k_229 h) (n_229 h) hk (by decide)
theorem al_229 {M : Mm} {X : Nat} (h : St M X) : aL M (X + 229) = some (nI 8) := aL_of (k_229 h) (by decide) (by decide) (n_229 h)
theorem aj_230 {M : Mm} {X : Nat} (h : St M X) {k : Nat} (hk : k < 8) : aJ M (X + 230) (nI k) = some (mB M (X + 230) k) := aJ_of (k_230 h) (n_230 h) hk (by decide)
theorem wj_230 {M : Mm} {X : Nat} (h : St M X) {k : Nat} {v : Int64} (hk : k < 8) : wJ M (X + 230) (nI k) v = some (sB M (X + 230) (va_up (mB M (X + 230)) k v)) := wJ_of (k_230 h) (n_230 h) hk (by decide)
theorem aj_231 {M : Mm} {X : Nat} (h : St M X) {k : Nat} (hk : k < 8) : aJ M (X + 231) (nI k) = some (mB M (X + 231) k) := aJ_of (k_231 h) (n_231 h) hk (by decide)
theorem wj_231 {M : Mm} {X : Nat} (h : St M X) {k : Nat} {v : Int64} (hk : k < 8) : wJ M (X + 231) (nI k) v = some (sB M (X + 231) (va_up (mB M (X + 231)) k v)) := wJ_of (k_231 h) (n_231 h) hk (by decide)
theorem ai_232 {M : Mm} {X : Nat} (h : St M X) {k : Nat} (hk : k < 8) : aI M (X + 232) (nI k) = some (mA M (X + 232) k) := aI_of (k_232 h) (n_232 h) hk (by decide)
theorem wi_232 {M : Mm} {X : Nat} (h : St M X) {k : Nat} {v : Int32} (hk : k < 8) : wI M (X + 232) (nI k) v = some (sA M (X + 232) (va_up (mA M (X + 232)) k v)) := wI_of (k_232 h) (n_232 h) hk (by decide)
theorem al_232 {M : Mm} {X : Nat} (h : St M X) : aL M (X + 232) = some (nI 8) := aL_of (k_232 h) (by decide) (by decide) (n_232 h)
theorem ai_233 {M : Mm} {X : Nat} (h : St M X) {k : Nat} (hk : k < 8) : aI M (X + 233) (nI k) = some (mA M (X + 233) k) := aI_of (k_233 h) (n_233 h) hk (by decide)
theorem wi_233 {M : Mm} {X : Nat} (h : St M X) {k : Nat} {v : Int32} (hk : k < 8) : wI M (X + 233) (nI k) v = some (sA M (X + 233) (va_up (mA M (X + 233)) k v)) := wI_of (k_233 h) (n_233 h) hk (by decide)
theorem al_233 {M : Mm} {X : Nat} (h : St M X) : aL M (X + 233) = some (nI 8) := aL_of (k_233 h) (by decide) (by decide) (n_233 h)
theorem ai_234 {M : Mm} {X : Nat} (h : St M X) {k : Nat} (hk : k < 64) : aI M (X + 234) (nI k) = some (mA M (X + 234) k) := aI_of (k_234 h) (n_234 h) hk (by decide)
theorem wi_234 {M : Mm} {X : Nat} (h : St M X) {k : Nat} {v : Int32} (hk : k < 64) : wI M (X + 234) (nI k) v = some (sA M (X + 234) (va_up (mA M (X + 234)) k v)) := wI_of (k_234 h) (n_234 h) hk (by decide)
theorem al_234 {M : Mm} {X : Nat} (h : St M X) : aL M (X + 234) = some (nI 64) := aL_of (k_234 h) (by decide) (by decide) (n_234 h)
theorem az_235 {M : Mm} {X : Nat} (h : St M X) {k : Nat} (hk : k < 8) : aZ M (X + 235) (nI k) = some (mA M (X + 235) k) := aZ_of (k_235 h) (n_235 h) hk (by decide)
theorem wz_235 {M : Mm} {X : Nat} (h : St M X) {k : Nat} {v : Int32} (hk : k < 8) : wZ M (X + 235) (nI k) v = some (sA M (X + 235) (va_up (mA M (X + 235)) k (vp_nar .boolean v))) := wZ_of (k_235 h) (n_235 h) hk (by decide)
theorem ai_236 {M : Mm} {X : Nat} (h : St M X) {k : Nat} (hk : k < 8) : aI M (X + 236) (nI k) = some (mA M (X + 236) k) := aI_of (k_236 h) (n_236 h) hk (by decide)
theorem wi_236 {M : Mm} {X : Nat} (h : St M X) {k : Nat} {v : Int32} (hk : k < 8) : wI M (X + 236) (nI k) v = some (sA M (X + 236) (va_up (mA M (X + 236)) k v)) := wI_of (k_236 h) (n_236 h) hk (by decide)
theorem al_236 {M : Mm} {X : Nat} (h : St M X) : aL M (X + 236) = some (nI 8) := aL_of (k_236 h) (by decide) (by decide) (n_236 h)
theorem ai_237 {M : Mm} {X : Nat} (h : St M X) {k : Nat} (hk : k < 72) : aI M (X + 237) (nI k) = some (mA M (X + 237) k) := aI_of (k_237 h) (n_237 h) hk (by decide)
theorem wi_237 {M : Mm} {X : Nat} (h : St M X) {k : Nat} {v : Int32} (hk : k < 72) : wI M (X + 237) (nI k) v = some (sA M (X + 237) (va_up (mA M (X + 237)) k v)) := wI_of (k_237 h) (n_237 h) hk (by decide)
theorem al_237 {M : Mm} {X : Nat} (h : St M X) : aL M (X + 237) = some (nI 72) := aL_of (k_237 h) (by decide) (by decide) (n_237 h)
theorem aj_238 {M : Mm} {X : Nat} (h : St M X) {k : Nat} (hk : k < 576) : aJ M (X + 238) (nI k) = some (mB M (X + 238) k) := aJ_of (k_238 h) (n_238 h) hk (by decide)
theorem wj_238 {M : Mm} {X : Nat} (h : St M X) {k : Nat} {v : Int64} (hk : k < 576) : wJ M (X + 238) (nI k) v = some (sB M (X + 238) (va_up (mB M (X + 238)) k v)) := wJ_of (k_238 h) (n_238 h) hk (by decide)
theorem ai_239 {M : Mm} {X : Nat} (h : St M X) {k : Nat} (hk : k < 200) : aI M (X + 239) (nI k) = some (mA M (X + 239) k) := aI_of (k_239 h) (n_239 h) hk (by decide)
theorem wi_239 {M : Mm} {X : Nat} (h : St M X) {k : Nat} {v : Int32} (hk : k < 200) : wI M (X + 239) (nI k) v = some (sA M (X + 239) (va_up (mA M (X + 239)) k v)) := wI_of (k_239 h) (n_239 h) hk (by decide)
theorem al_239 {M : Mm} {X : Nat} (h : St M X) : aL M (X + 239) = some (nI 200) := aL_of (k_239 h) (by decide) (by decide) (n_239 h)
theorem ai_240 {M : Mm} {X : Nat} (h : St M X) {k : Nat} (hk : k < 12800) : aI M (X + 240) (nI k) = some (mA M (X + 240) k) := aI_of (k_240 h) (n_240 h) hk (by decide)
theorem wi_240 {M : Mm} {X : Nat} (h : St M X) {k : Nat} {v : Int32} (hk : k < 12800) : wI M (X + 240) (nI k) v = some (sA M (X + 240) (va_up (mA M (X + 240)) k v)) := wI_of (k_240 h) (n_240 h) hk (by decide)
theorem al_240 {M : Mm} {X : Nat} (h : St M X) : aL M (X + 240) = some (nI 12800) := aL_of (k_240 h) (by decide) (by decide) (n_240 h)
theorem ai_241 {M : Mm} {X : Nat} (h : St M X) {k : Nat} (hk : k < 200) : aI M (X + 241) (nI k) = some (mA M (X + 241) k) := aI_of (k_241 h) (n_241 h) hk (by decide)
theorem wi_241 {M : Mm} {X : Nat} (h : St M X) {k : Nat} {v : Int32} (hk : k < 200) : wI M (X + 241) (nI k) v = some (sA M (X + 241) (va_up (mA M (X + 241)) k v)) := wI_of (k_241 h) (n_241 h) hk (by decide)
theorem al_241 {M : Mm} {X : Nat} (h : St M X) : aL M (X + 241) = some (nI 200) := aL_of (k_241 h) (by decide) (by decide) (n_241 h)
theorem ai_242 {M : Mm} {X : Nat} (h : St M X) {k : Nat} (hk : k < 200) : aI M (X + 242) (nI k) = some (mA M (X + 242) k) := aI_of (k_242 h) (n_242 h) hk (by decide)
theorem wi_242 {M : Mm} {X : Nat} (h : St M X) {k : Nat} {v : Int32} (hk : k < 200) : wI M (X + 242) (nI k) v = some (sA M (X + 242) (va_up (mA M (X + 242)) k v)) := wI_of (k_242 h) (n_242 h) hk (by decide)
theorem al_242 {M : Mm} {X : Nat} (h : St M X) : aL M (X + 242) = some (nI 200) := aL_of (k_242 h) (by decide) (by decide) (n_242 h)
theorem ai_243 {M : Mm} {X : Nat} (h : St M X) {k : Nat} (hk : k < 200) : aI M (X + 243) (nI k) = some (mA M (X + 243) k) := aI_of (k_243 h) (n_243 h) hk (by decide)
theorem wi_243 {M : Mm} {X : Nat} (h : St M X) {k : Nat} {v : Int32} (hk : k < 200) : wI M (X + 243) (nI k) v = some (sA M (X + 243) (va_up (mA M (X + 243)) k v)) := wI_of (k_243 h) (n_243 h) hk (by decide)
theorem al_243 {M : Mm} {X : Nat} (h : St M X) : aL M (X + 243) = some (nI 200) := aL_of (k_243 h) (by decide) (by decide) (n_243 h)
theorem ai_244 {M : Mm} {X : Nat} (h : St M X) {k : Nat} (hk : k < 200) : aI M (X + 244) (nI k) = some (mA M (X + 244) k) := aI_of (k_244 h) (n_244 h) hk (by decide)
theorem wi_244 {M : Mm} {X : Nat} (h : St M X) {k : Nat} {v : Int32} (hk : k < 200) : wI M (X + 244) (nI k) v = some (sA M (X + 244) (va_up (mA M (X + 244)) k v)) := wI_of (k_244 h) (n_244 h) hk (by decide)
theorem al_244 {M : Mm} {X : Nat} (h : St M X) : aL M (X + 244) = some (nI 200) := aL_of (k_244 h) (by decide) (by decide) (n_244 h)
theorem ai_245 {M : Mm} {X : Nat} (h : St M X) {k : Nat} (hk : k < 200) : aI M (X + 245) (nI k) = some (mA M (X + 245) k) := aI_of (k_245 h) (n_245 h) hk (by decide)
theorem wi_245 {M : Mm} {X : Nat} (h : St M X) {k : Nat} {v : Int32} (hk : k < 200) : wI M (X + 245) (nI k) v = some (sA M (X + 245) (va_up (mA M (X + 245)) k v)) := wI_of (k_245 h) (n_245 h) hk (by decide)
theorem al_245 {M : Mm} {X : Nat} (h : St M X) : aL M (X + 245) = some (nI 200) := aL_of (k_245 h) (by decide) (by decide) (n_245 h)
theorem az_246 {M : Mm} {X : Nat} (h : St M X) {k : Nat} (hk : k < 200) : aZ M (X + 246) (nI k) = some (mA M (X + 246) k) := aZ_of (k_246 h) (n_246 h) hk (by decide)
theorem wz_246 {M : Mm} {X : Nat} (h : St M X) {k : Nat} {v : Int32} (hk : k < 200) : wZ M (X + 246) (nI k) v = some (sA M (X + 246) (va_up (mA M (X + 246)) k (vp_nar .boolean v))) := wZ_of (k_246 h) (n_246 h) hk (by decide)
theorem az_247 {M : Mm} {X : Nat} (h : St M X) {k : Nat} (hk : k < 200) : aZ M (X + 247) (nI k) = some (mA M (X + 247) k) := aZ_of (k_247 h) (n_247 h) hk (by decide)
theorem wz_247 {M : Mm} {X : Nat} (h : St M X) {k : Nat} {v : Int32} (hk : k < 200) : wZ M (X + 247) (nI k) v = some (sA M (X + 247) (va_up (mA M (X + 247)) k (vp_nar .boolean v))) := wZ_of (k_247 h) (n_247 h) hk (by decide)
theorem ai_248 {M : Mm} {X : Nat} (h : St M X) {k : Nat} (hk : k < 1600) : aI M (X + 248) (nI k) = some (mA M (X + 248) k) := aI_of (k_248 h) (n_248 h) hk (by decide)
theorem wi_248 {M : Mm} {X : Nat} (h : St M X) {k : Nat} {v : Int32} (hk : k < 1600) : wI M (X + 248) (nI k) v = some (sA M (X + 248) (va_up (mA M (X + 248)) k v)) := wI_of (k_248 h) (n_248 h) hk (by decide)
theorem al_248 {M : Mm} {X : Nat} (h : St M X) : aL M (X + 248) = some (nI 1600) := aL_of (k_248 h) (by decide) (by decide) (n_248 h)
theorem ai_249 {M : Mm} {X : Nat} (h : St M X) {k : Nat} (hk : k < 1600) : aI M (X + 249) (nI k) = some (mA M (X + 249) k) := aI_of (k_249 h) (n_249 h) hk (by decide)
theorem wi_249 {M : Mm} {X : Nat} (h : St M X) {k : Nat} {v : Int32} (hk : k < 1600) : wI M (X + 249) (nI k) v = some (sA M (X + 249) (va_up (mA M (X + 249)) k v)) := wI_of (k_249 h) (n_249 h) hk (by decide)
theorem al_249 {M : Mm} {X : Nat} (h : St M X) : aL M (X + 249) = some (nI 1600) := aL_of (k_249 h) (by decide) (by decide) (n_249 h)
theorem ai_250 {M : Mm} {X : Nat} (h : St M X) {k : Nat} (hk : k < 200) : aI M (X + 250) (nI k) = some (mA M (X + 250) k) := aI_of (k_250 h) (n_250 h) hk (by decide)
theorem wi_250 {M : Mm} {X : Nat} (h : St M X) {k : Nat} {v : Int32} (hk : k < 200) : wI M (X + 250) (nI k) v = some (sA M (X + 250) (va_up (mA M (X + 250)) k v)) := wI_of (k_250 h) (n_250 h) hk (by decide)
theorem al_250 {M : Mm} {X : Nat} (h : St M X) : aL M (X + 250) = some (nI 200) := aL_of (k_250 h) (by decide) (by decide) (n_250 h)
theorem ai_251 {M : Mm} {X : Nat} (h : St M X) {k : Nat} (hk : k < 200) : aI M (X + 251) (nI k) = some (mA M (X + 251) k) := aI_of (k_251 h) (n_251 h) hk (by decide)
theorem wi_251 {M : Mm} {X : Nat} (h : St M X) {k : Nat} {v : Int32} (hk : k < 200) : wI M (X + 251) (nI k) v = some (sA M (X + 251) (va_up (mA M (X + 251)) k v)) := wI_of (k_251 h) (n_251 h) hk (by decide)
theorem al_251 {M : Mm} {X : Nat} (h : St M X) : aL M (X + 251) = some (nI 200) := aL_of (k_251 h) (by decide) (by decide) (n_251 h)
theorem az_252 {M : Mm} {X : Nat} (h : St M X) {k : Nat} (hk : k < 8) : aZ M (X + 252) (nI k) = some (mA M (X + 252) k) := aZ_of (k_252 h) (n_252 h) hk (by decide)
theorem wz_252 {M : Mm} {X : Nat} (h : St M X) {k : Nat} {v : Int32} (hk : k < 8) : wZ M (X + 252) (nI k) v = some (sA M (X + 252) (va_up (mA M (X + 252)) k (vp_nar .boolean v))) := wZ_of (k_252 h) (n_252 h) hk (by decide)
theorem ai_253 {M : Mm} {X : Nat} (h : St M X) {k : Nat} (hk : k < 8) : aI M (X + 253) (nI k) = some (mA M (X + 253) k) := aI_of (k_253 h) (n_253 h) hk (by decide)
theorem wi_253 {M : Mm} {X : Nat} (h : St M X) {k : Nat} {v : Int32} (hk : k < 8) : wI M (X + 253) (nI k) v = some (sA M (X + 253) (va_up (mA M (X + 253)) k v)) := wI_of (k_253 h) (n_253 h) hk (by decide)
theorem al_253 {M : Mm} {X : Nat} (h : St M X) : aL M (X + 253) = some (nI 8) := aL_of (k_253 h) (by decide) (by decide) (n_253 h)
theorem ai_254 {M : Mm} {X : Nat} (h : St M X) {k : Nat} (hk : k < 8) : aI M (X + 254) (nI k) = some (mA M (X + 254) k) := aI_of (k_254 h) (n_254 h) hk (by decide)
theorem wi_254 {M : Mm} {X : Nat} (h : St M X) {k : Nat} {v : Int32} (hk : k < 8) : wI M (X + 254) (nI k) v = some (sA M (X + 254) (va_up (mA M (X + 254)) k v)) := wI_of (k_254 h) (n_254 h) hk (by decide)
theorem al_254 {M : Mm} {X : Nat} (h : St M X) : aL M (X + 254) = some (nI 8) := aL_of (k_254 h) (by decide) (by decide) (n_254 h)
theorem ai_255 {M : Mm} {X : Nat} (h : St M X) {k : Nat} (hk : k < 64) : aI M (X + 255) (nI k) = some (mA M (X + 255) k) := aI_of (k_255 h) (n_255 h) hk (by decide)
theorem wi_255 {M : Mm} {X : Nat} (h : St M X) {k : Nat} {v : Int32} (hk : k < 64) : wI M (X + 255) (nI k) v = some (sA M (X + 255) (va_up (mA M (X + 255)) k v)) := wI_of (k_255 h) (n_255 h) hk (by decide)
theorem al_255 {M : Mm} {X : Nat} (h : St M X) : aL M (X + 255) = some (nI 64) := aL_of (k_255 h) (by decide) (by decide) (n_255 h)
theorem aj_256 {M : Mm} {X : Nat} (h : St M X) {k : Nat} (hk : k < 64) : aJ M (X + 256) (nI k) = some (mB M (X + 256) k) := aJ_of (k_256 h) (n_256 h) hk (by decide)
theorem wj_256 {M : Mm} {X : Nat} (h : St M X) {k : Nat} {v : Int64} (hk : k < 64) : wJ M (X + 256) (nI k) v = some (sB M (X + 256) (va_up (mB M (X + 256)) k v)) := wJ_of (k_256 h) (n_256 h) hk (by decide)
theorem aj_257 {M : Mm} {X : Nat} (h : St M X) {k : Nat} (hk : k < 8) : aJ M (X + 257) (nI k) = some (mB M (X + 257) k) := aJ_of (k_257 h) (n_257 h) hk (by decide)
theorem wj_257 {M : Mm} {X : Nat} (h : St M X) {k : Nat} {v : Int64} (hk : k < 8) : wJ M (X + 257) (nI k) v = some (sB M (X + 257) (va_up (mB M (X + 257)) k v)) := wJ_of (k_257 h) (n_257 h) hk (by decide)
theorem ai_258 {M : Mm} {X : Nat} (h : St M X) {k : Nat} (hk : k < 8) : aI M (X + 258) (nI k) = some (mA M (X + 258) k) := aI_of (k_258 h) (n_258 h) hk (by decide)
theorem wi_258 {M : Mm} {X : Nat} (h : St M X) {k : Nat} {v : Int32} (hk : k < 8) : wI M (X + 258) (nI k) v = some (sA M (X + 258) (va_up (mA M (X + 258)) k v)) := wI_of (k_258 h) (n_258 h) hk (by decide)
theorem al_258 {M : Mm} {X : Nat} (h : St M X) : aL M (X + 258) = some (nI 8) := aL_of (k_258 h) (by decide) (by decide) (n_258 h)
theorem ai_259 {M : Mm} {X : Nat} (h : St M X) {k : Nat} (hk : k < 600) : aI M (X + 259) (nI k) = some (mA M (X + 259) k) := aI_of (k_259 h) (n_259 h) hk (by decide)
theorem wi_259 {M : Mm} {X : Nat} (h : St M X) {k : Nat} {v : Int32} (hk : k < 600) : wI M (X + 259) (nI k) v = some (sA M (X + 259) (va_up (mA M (X + 259)) k v)) := wI_of (k_259 h) (n_259 h) hk (by decide)
theorem al_259 {M : Mm} {X : Nat} (h : St M X) : aL M (X + 259) = some (nI 600) := aL_of (k_259 h) (by decide) (by decide) (n_259 h)
theorem ai_260 {M : Mm} {X : Nat} (h : St M X) {k : Nat} (hk : k < 8) : aI M (X + 260) (nI k) = some (mA M (X + 260) k) := aI_of (k_260 h) (n_260 h) hk (by decide)
theorem wi_260 {M : Mm} {X : Nat} (h : St M X) {k : Nat} {v : Int32} (hk : k < 8) : wI M (X + 260) (nI k) v = some (sA M (X + 260) (va_up (mA M (X + 260)) k v)) := wI_of (k_260 h) (n_260 h) hk (by decide)
theorem al_260 {M : Mm} {X : Nat} (h : St M X) : aL M (X + 260) = some (nI 8) := aL_of (k_260 h) (by decide) (by decide) (n_260 h)
theorem ai_261 {M : Mm} {X : Nat} (h : St M X) {k : Nat} (hk : k < 8) : aI M (X + 261) (nI k) = some (mA M (X + 261) k) := aI_of (k_261 h) (n_261 h) hk (by decide)
theorem wi_261 {M : Mm} {X : Nat} (h : St M X) {k : Nat} {v : Int32} (hk : k < 8) : wI M (X + 261) (nI k) v = some (sA M (X + 261) (va_up (mA M (X + 261)) k v)) := wI_of (k_261 h) (n_261 h) hk (by decide)
theorem al_261 {M : Mm} {X : Nat} (h : St M X) : aL M (X + 261) = some (nI 8) := aL_of (k_261 h) (by decide) (by decide) (n_261 h)
theorem aj_262 {M : Mm} {X : Nat} (h : St M X) {k : Nat} (hk : k < 8) : aJ M (X + 262) (nI k) = some (mB M (X + 262) k) := aJ_of (k_262 h) (n_262 h) hk (by decide)
theorem wj_262 {M : Mm} {X : Nat} (h : St M X) {k : Nat} {v : Int64} (hk : k < 8) : wJ M (X + 262) (nI k) v = some (sB M (X + 262) (va_up (mB M (X + 262)) k v)) := wJ_of (k_262 h) (n_262 h) hk (by decide)
theorem ai_263 {M : Mm} {X : Nat} (h : St M X) {k : Nat} (hk : k < 8) : aI M (X + 263) (nI k) = some (mA M (X + 263) k) := aI_of (k_263 h) (n_263 h) hk (by decide)
theorem wi_263 {M : Mm} {X : Nat} (h : St M X) {k : Nat} {v : Int32} (hk : k < 8) : wI M (X + 263) (nI k) v = some (sA M (X + 263) (va_up (mA M (X + 263)) k v)) := wI_of (k_263 h) (n_263 h) hk (by decide)
theorem al_263 {M : Mm} {X : Nat} (h : St M X) : aL M (X + 263) = some (nI 8) := aL_of (k_263 h) (by decide) (by decide) (n_263 h)
theorem aj_264 {M : Mm} {X : Nat} (h : St M X) {k : Nat} (hk : k < 8) : aJ M (X + 264) (nI k) = some (mB M (X + 264) k) := aJ_of (k_264 h) (n_264 h) hk (by decide)
theorem wj_264 {M : Mm} {X : Nat} (h : St M X) {k : Nat} {v : Int64} (hk : k < 8) : wJ M (X + 264) (nI k) v = some (sB M (X + 264) (va_up (mB M (X + 264)) k v)) := wJ_of (k_264 h) (n_264 h) hk (by decide)
theorem ai_265 {M : Mm} {X : Nat} (h : St M X) {k : Nat} (hk : k < 8) : aI M (X + 265) (nI k) = some (mA M (X + 265) k) := aI_of (k_265 h) (n_265 h) hk (by decide)
theorem wi_265 {M : Mm} {X : Nat} (h : St M X) {k : Nat} {v : Int32} (hk : k < 8) : wI M (X + 265) (nI k) v = some (sA M (X + 265) (va_up (mA M (X + 265)) k v)) := wI_of (k_265 h) (n_265 h) hk (by decide)
theorem al_265 {M : Mm} {X : Nat} (h : St M X) : aL M (X + 265) = some (nI 8) := aL_of (k_265 h) (by decide) (by decide) (n_265 h)
theorem ai_266 {M : Mm} {X : Nat} (h : St M X) {k : Nat} (hk : k < 8) : aI M (X + 266) (nI k) = some (mA M (X + 266) k) := aI_of (k_266 h) (n_266 h) hk (by decide)
theorem wi_266 {M : Mm} {X : Nat} (h : St M X) {k : Nat} {v : Int32} (hk : k < 8) : wI M (X + 266) (nI k) v = some (sA M (X + 266) (va_up (mA M (X + 266)) k v)) := wI_of (k_266 h) (n_266 h) hk (by decide)
theorem al_266 {M : Mm} {X : Nat} (h : St M X) : aL M (X + 266) = some (nI 8) := aL_of (k_266 h) (by decide) (by decide) (n_266 h)
theorem ai_267 {M : Mm} {X : Nat} (h : St M X) {k : Nat} (hk : k < 8) : aI M (X + 267) (nI k) = some (mA M (X + 267) k) := aI_of (k_267 h) (n_267 h) hk (by decide)
theorem wi_267 {M : Mm} {X : Nat} (h : St M X) {k : Nat} {v : Int32} (hk : k < 8) : wI M (X + 267) (nI k) v = some (sA M (X + 267) (va_up (mA M (X + 267)) k v)) := wI_of (k_267 h) (n_267 h) hk (by decide)
theorem al_267 {M : Mm} {X : Nat} (h : St M X) : aL M (X + 267) = some (nI 8) := aL_of (k_267 h) (by decide) (by decide) (n_267 h)
theorem aj_268 {M : Mm} {X : Nat} (h : St M X) {k : Nat} (hk : k < 512) : aJ M (X + 268) (nI k) = some (mB M (X + 268) k) := aJ_of (k_268 h) (n_268 h) hk (by decide)
theorem wj_268 {M : Mm} {X : Nat} (h : St M X) {k : Nat} {v : Int64} (hk : k < 512) : wJ M (X + 268) (nI k) v = some (sB M (X + 268) (va_up (mB M (X + 268)) k v)) := wJ_of (k_268 h) (n_268 h) hk (by decide)
theorem aj_269 {M : Mm} {X : Nat} (h : St M X) {k : Nat} (hk : k < 64) : aJ M (X + 269) (nI k) = some (mB M (X + 269) k) := aJ_of (k_269 h) (n_269 h) hk (by decide)
theorem wj_269 {M : Mm} {X : Nat} (h : St M X) {k : Nat} {v : Int64} (hk : k < 64) : wJ M (X + 269) (nI k) v = some (sB M (X + 269) (va_up (mB M (X + 269)) k v)) := wJ_of (k_269 h) (n_269 h) hk (by decide)
theorem gi_aSq {M : Mm} {X : Nat} (h : St M X) {i : Nat} (hi : i < 8) {num : Nat} : gI M 10 num (aSq X i) = some (mI M num (aSq X i)) := gI_of (k_aSq h hi)
theorem pi_aSq {M : Mm} {X : Nat} (h : St M X) {i : Nat} (hi : i < 8) {num : Nat} {v : Int32} : pI M 10 num (aSq X i) v = some (sI M num (aSq X i) v) := pI_of (k_aSq h hi)
theorem ai_aSt {M : Mm} {X : Nat} (h : St M X) {i : Nat} (hi : i < 8) {k : Nat} (hk : k < 8) : aI M (aSt X i) (nI k) = some (mA M (aSt X i) k) := aI_of (k_aSt h hi) (n_aSt h hi) hk (by decide)
theorem wi_aSt {M : Mm} {X : Nat} (h : St M X) {i : Nat} (hi : i < 8) {k : Nat} {v : Int32} (hk : k < 8) : wI M (aSt X i) (nI k) v = some (sA M (aSt X i) (va_up (mA M (aSt X i)) k v)) := wI_of (k_aSt h hi) (n_aSt h hi) hk (by decide)
theorem gi_aHd {M : Mm} {X : Nat} (h : St M X) {i j : Nat} (hi : i < 8) (hj : j < 8) {num : Nat} : gI M 4 num (aHd X i j) = some (mI M num (aHd X i j)) := gI_of (k_aHd h hi hj)
theorem pi_aHd {M : Mm} {X : Nat} (h : St M X) {i j : Nat} (hi : i < 8) (hj : j < 8) {num : Nat} {v : Int32} : pI M 4 num (aHd X i j) v = some (sI M num (aHd X i j) v) := pI_of (k_aHd h hi hj)
theorem aj_aHv {M : Mm} {X : Nat} (h : St M X) {i j : Nat} (hi : i < 8) (hj : j < 8) {k : Nat} (hk : k < 8) : aJ M (aHv X i j) (nI k) = some (mB M (aHv X i j) k) := aJ_of (k_aHv h hi hj) (n_aHv h hi hj) hk (by decide)
theorem wj_aHv {M : Mm} {X : Nat} (h : St M X) {i j : Nat} (hi : i < 8) (hj : j < 8) {k : Nat} {v : Int64} (hk : k < 8) : wJ M (aHv X i j) (nI k) v = some (sB M (aHv X i j) (va_up (mB M (aHv X i j)) k v)) := wJ_of (k_aHv h hi hj) (n_aHv h hi hj) hk (by decide)
theorem gi_aCx {M : Mm} {X : Nat} (h : St M X) {i : Nat} (hi : i < 8) {num : Nat} : gI M 2 num (aCx X i) = some (mI M num (aCx X i)) := gI_of (k_aCx h hi)
theorem pi_aCx {M : Mm} {X : Nat} (h : St M X) {i : Nat} (hi : i < 8) {num : Nat} {v : Int32} : pI M 2 num (aCx X i) v = some (sI M num (aCx X i) v) := pI_of (k_aCx h hi)
theorem gi_aCh {M : Mm} {X : Nat} (h : St M X) {i : Nat} (hi : i < 8) {num : Nat} : gI M 4 num (aCh X i) = some (mI M num (aCh X i)) := gI_of (k_aCh h hi)
theorem pi_aCh {M : Mm} {X : Nat} (h : St M X) {i : Nat} (hi : i < 8) {num : Nat} {v : Int32} : pI M 4 num (aCh X i) v = some (sI M num (aCh X i) v) := pI_of (k_aCh h hi)
theorem aj_aCv {M : Mm} {X : Nat} (h : St M X) {i : Nat} (hi : i < 8) {k : Nat} (hk : k < 8) : aJ M (aCv X i) (nI k) = some (mB M (aCv X i) k) := aJ_of (k_aCv h hi) (n_aCv h hi) hk (by decide)
theorem wj_aCv {M : Mm} {X : Nat} (h : St M X) {i : Nat} (hi : i < 8) {k : Nat} {v : Int64} (hk : k < 8) : wJ M (aCv X i) (nI k) v = some (sB M (aCv X i) (va_up (mB M (aCv X i)) k v)) := wJ_of (k_aCv h hi) (n_aCv h hi) hk (by decide)
theorem ai_aCs {M : Mm} {X : Nat} (h : St M X) {i : Nat} (hi : i < 8) {k : Nat} (hk : k < 8) : aI M (aCs X i) (nI k) = some (mA M (aCs X i) k) := aI_of (k_aCs h hi) (n_aCs h hi) hk (by decide)
theorem wi_aCs {M : Mm} {X : Nat} (h : St M X) {i : Nat} (hi : i < 8) {k : Nat} {v : Int32} (hk : k < 8) : wI M (aCs X i) (nI k) v = some (sA M (aCs X i) (va_up (mA M (aCs X i)) k v)) := wI_of (k_aCs h hi) (n_aCs h hi) hk (by decide)
theorem gi_aSh {M : Mm} {X : Nat} (h : St M X) {i : Nat} (hi : i < 8) {num : Nat} : gI M 9 num (aSh X i) = some (mI M num (aSh X i)) := gI_of (k_aSh h hi)
theorem pi_aSh {M : Mm} {X : Nat} (h : St M X) {i : Nat} (hi : i < 8) {num : Nat} {v : Int32} : pI M 9 num (aSh X i) v = some (sI M num (aSh X i) v) := pI_of (k_aSh h hi)
theorem aj_aSr {M : Mm} {X : Nat} (h : St M X) {i : Nat} (hi : i < 8) {k : Nat} (hk : k < 60) : aJ M (aSr X i) (nI k) = some (mB M (aSr X i) k) := aJ_of (k_aSr h hi) (n_aSr h hi) hk (by decide)
theorem wj_aSr {M : Mm} {X : Nat} (h : St M X) {i : Nat} (hi : i < 8) {k : Nat} {v : Int64} (hk : k < 60) : wJ M (aSr X i) (nI k) v = some (sB M (aSr X i) (va_up (mB M (aSr X i)) k v)) := wJ_of (k_aSr h hi) (n_aSr h hi) hk (by decide)
theorem isIn_0_4 (a : Int32) : f_X11_isIn a.toInt64 0 4 = some (if a < 0 then 0 else if 4 < a then 0 else 1) := isIn_eq a 0 4
theorem isIn_1_32 (a : Int32) : f_X11_isIn a.toInt64 1 32 = some (if a < 1 then 0 else if 32 < a then 0 else 1) := isIn_eq a 1 32
theorem isIn_1_1000 (a : Int32) : f_X11_isIn a.toInt64 1 1000 = some (if a < 1 then 0 else if 1000 < a then 0 else 1) := isIn_eq a 1 1000
theorem isIn_0_255 (a : Int32) : f_X11_isIn a.toInt64 0 255 = some (if a < 0 then 0 else if 255 < a then 0 else 1) := isIn_eq a 0 255
theorem isIn_0_3 (a : Int32) : f_X11_isIn a.toInt64 0 3 = some (if a < 0 then 0 else if 3 < a then 0 else 1) := isIn_eq a 0 3
theorem isIn_0_2 (a : Int32) : f_X11_isIn a.toInt64 0 2 = some (if a < 0 then 0 else if 2 < a then 0 else 1) := isIn_eq a 0 2
theorem isIn_0_1 (a : Int32) : f_X11_isIn a.toInt64 0 1 = some (if a < 0 then 0 else if 1 < a then 0 else 1) := isIn_eq a 0 1
theorem isIn_0_5 (a : Int32) : f_X11_isIn a.toInt64 0 5 = some (if a < 0 then 0 else if 5 < a then 0 else 1) := isIn_eq a 0 5
theorem isIn_2_4 (a : Int32) : f_X11_isIn a.toInt64 2 4 = some (if a < 2 then 0 else if 4 < a then 0 else 1) := isIn_eq a 2 4
theorem isIn_0_30000 (a : Int32) : f_X11_isIn a.toInt64 0 30000 = some (if a < 0 then 0 else if 30000 < a then 0 else 1) := isIn_eq a 0 30000
theorem isIn_1_255 (a : Int32) : f_X11_isIn a.toInt64 1 255 = some (if a < 1 then 0 else if 255 < a then 0 else 1) := isIn_eq a 1 255
