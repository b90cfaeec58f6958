/-- a letter is made of the row at B, behind which nothing lies -/
theorem mk_let2 {M0 M : Mm} {X N n B k i nb len : Nat} {num : Int32} {g : Nat → Int32} (hX : X + 270 ≤ N) (hS : St M0 X) (A0 : Ag X N n (T10 X) T0 T0 M0 M) (hN : N ≤ mS M) (h1 : mI M 1010 X = nI n) (hn : n < 200) (hB : B < mS M) (kB : mK M B = 20) (nB : mN M B = len) (gB : mA M B = g) :
    ∃ M1, ((f_X4_init (nO M 5) (mS M) (nI k) (nI i) num B (nI nb)).bind fun M10 => (pZ M10 5 407 (mS M) 1).bind fun M11 => ob2 (f_X10_add M11 X (mS M)) fun M13 v14 => some (M13, v14)) = some (M1, nI n) ∧ Ag X N n (T10 X) T0 T0 M0 M1 ∧ mS M1 = mS M + 1 ∧ cLt M1 X n (mS M) B k i nb len num g 1 none ∧ (∀ num a, a < mS M → num ≠ 1010 → mI M1 num a = mI M num a) ∧ (∀ a, mA M1 a = mA M a) ∧ (∀ a, a < mS M → mK M1 a = mK M a ∧ mN M1 a = mN M a) ∧ ∀ num a, a < mS M → mR M1 num a = mR M num a := by
  have x1 : ¬ X = mS M := by omega
  have hk : mK (li M (nI k) (nI i) num B (nI nb)) (mS M) = 5 := by
    unfold li; rw [mK_sI, mK_sR, mK_sI, mK_sI, mK_sI, mK_sI, mK_nO, if_pos rfl]
  have A1 : Ag X N n (T10 X) T0 T0 M0 (sI (li M (nI k) (nI i) num B (nI nb)) 407 (mS M) 1) := (Ag_li A0 hN).cI (Or.inr (Or.inr hN))
  have hS1 : St (sI (li M (nI k) (nI i) num B (nI nb)) 407 (mS M) 1) X := St_Ag hX A1 hS
  have h2 : mI (sI (li M (nI k) (nI i) num B (nI nb)) 407 (mS M) 1) 1010 X = nI n := by
    unfold li
    rw [mI_sIy x1, mI_sIy x1, mI_sR, mI_sIy x1, mI_sIy x1, mI_sIy x1, mI_sIy x1, mI_nO, if_neg x1]
    exact h1
  have ea := add_eq (A := mS M) hS1 h2 hn (by rw [mK_sI]; exact hk)
  refine ⟨sI (sQ (sI (li M (nI k) (nI i) num B (nI nb)) 407 (mS M) 1) (X + 194) (va_up (mQ (sI (li M (nI k) (nI i) num B (nI nb)) 407 (mS M) 1) (X + 194)) n (some (mS M)))) 1010 X (nI (n + 1)), ?_, ?_, ?_, ?_, ?_, ?_, ?_, ?_⟩
  · rw [li_eq, ob_eq, pZ_of hk (Or.inr rfl), ob_eq, ea, ob2_eq]
  · exact (A1.cQ ⟨rfl, fun j hj => vau_ne (by omega)⟩).cI (Or.inr (Or.inl ⟨rfl, rfl⟩))
  · unfold li; rw [mS_sI, mS_sQ, mS_sI, mS_sI, mS_sR, mS_sI, mS_sI, mS_sI, mS_sI, mS_nO]
  · have b1 : ¬ B = mS M := by omega
    refine ⟨?_, ?_, ?_, ?_, ?_, ?_, ?_, ?_, ?_, ?_, ?_, ?_, ?_, ?_, ?_⟩
    · rw [mQ_sI, mQ_sQ, if_pos rfl, vau_eq]
    · rw [mK_sI, mK_sQ, mK_sI]; exact hk
    · unfold li; rw [mR_sI, mR_sQ, mR_sI, mR_sI, mR_sR, if_pos rfl, if_pos rfl]
    · unfold li; rw [mK_sI, mK_sQ, mK_sI, mK_sI, mK_sR, mK_sI, mK_sI, mK_sI, mK_sI, mK_nO, if_neg b1]; exact kB
    · unfold li; rw [mN_sI, mN_sQ, mN_sI, mN_sI, mN_sR, mN_sI, mN_sI, mN_sI, mN_sI, mN_nO]; exact nB
    · unfold li; rw [mA_sI, mA_sQ, mA_sI, mA_sI, mA_sR, mA_sI, mA_sI, mA_sI, mA_sI, mA_nO]; exact gB
    · unfold li; rw [mI_sI, if_neg (by decide), mI_sQ, mI_sI, if_neg (by decide), mI_sI, if_neg (by decide), mI_sR, mI_sI, if_neg (by decide), mI_sI, if_neg (by decide), mI_sI, if_pos rfl, if_pos rfl]
    · unfold li; rw [mI_sI, if_neg (by decide), mI_sQ, mI_sI, if_neg (by decide), mI_sI, if_neg (by decide), mI_sR, mI_sI, if_neg (by decide), mI_sI, if_pos rfl, if_pos rfl]
    · unfold li; rw [mI_sI, if_neg (by decide), mI_sQ, mI_sI, if_neg (by decide), mI_sI, if_neg (by decide), mI_sR, mI_sI, if_pos rfl, if_pos rfl]
    · unfold li; rw [mI_sI, if_neg (by decide), mI_sQ, mI_sI, if_neg (by decide), mI_sI, if_pos rfl, if_pos rfl]
    · unfold li; rw [mI_sI, if_neg (by decide), mI_sQ, mI_sI, if_neg (by decide), mI_sI, if_neg (by decide), mI_sR, mI_sI, if_neg (by decide), mI_sI, if_neg (by decide), mI_sI, if_neg (by decide), mI_sI, if_pos rfl, if_pos rfl]
    · unfold li; rw [mI_sI, if_neg (by decide), mI_sQ, mI_sI, if_neg (by decide), mI_sI, if_neg (by decide), mI_sR, mI_sI, if_neg (by decide), mI_sI, if_neg (by decide), mI_sI, if_neg (by decide), mI_sI, if_neg (by decide), mI_nO, if_pos rfl]
    · rw [mI_sI, if_neg (by decide), mI_sQ, mI_sI, if_pos rfl, if_pos rfl]
    · unfold li; rw [mR_sI, mR_sQ, mR_sI, mR_sI, mR_sR, if_neg (by decide), mR_sI, mR_sI, mR_sI, mR_sI, mR_nO, if_pos rfl]
    · rw [mI_sI, if_pos rfl, if_pos rfl]
  · intro nu a ha hne
    have a1 : ¬ a = mS M := by omega
    unfold li
    rw [mI_sI, if_neg hne, mI_sQ, mI_sIy a1, mI_sIy a1, mI_sR, mI_sIy a1, mI_sIy a1, mI_sIy a1, mI_sIy a1, mI_nO, if_neg a1]
  · intro a
    unfold li; rw [mA_sI, mA_sQ, mA_sI, mA_sI, mA_sR, mA_sI, mA_sI, mA_sI, mA_sI, mA_nO]
  · intro a ha
    have a1 : ¬ a = mS M := by omega
    unfold li
    exact ⟨by rw [mK_sI, mK_sQ, mK_sI, mK_sI, mK_sR, mK_sI, mK_sI, mK_sI, mK_sI, mK_nO, if_neg a1], by rw [mN_sI, mN_sQ, mN_sI, mN_sI, mN_sR, mN_sI, mN_sI, mN_sI, mN_sI, mN_nO]⟩
  · intro nu a ha
    have a1 : ¬ a = mS M := by omega
    unfold li
    rw [mR_sI, mR_sQ, mR_sI, mR_sI, mR_sRy a1, mR_sI, mR_sI, mR_sI, mR_sI, mR_nO, if_neg a1]
theorem cp_eq {M : Mm} {a na L : Nat} (ka : mK M a = 20) (ha : mN M a = na) (hs : ¬ a = mS M) (hL : L < na) (h6 : na ≤ 60) : f_J7_copyOf_59c91 M a (nI L) = some (sA (nA M 20 L) (mS M) (va_cpy (mA M a) (fun _ => 0) 0 0 L), mS M) := by
  have kA : mK (nA M 20 L) a = 20 := by rw [mK_nA, if_neg hs]; exact ka
  have kB : mK (nA M 20 L) (mS M) = 20 := by rw [mK_nA, if_pos rfl]
  have nA' : mN (nA M 20 L) a = na := by rw [mN_nA, if_neg hs]; exact ha
  have nB : mN (nA M 20 L) (mS M) = L := by rw [mN_nA, if_pos rfl]
  have e1 : mA0 M 20 64 (nI L) = some (nA M 20 L) := by
    unfold mA0
    rw [nI_toInt (by omega), if_pos (by omega), if_pos (by omega), ix_nI (by omega)]
  have e2 : cpI (nA M 20 L) a 0 (mS M) 0 (nI L) = some (sA (nA M 20 L) (mS M) (va_cpy (mA (nA M 20 L) a) (mA (nA M 20 L) (mS M)) 0 0 L)) := cpI_of (i := 0) (j := 0) kA kB nA' nB (by omega) (by omega) (by omega) (by omega)
  unfold f_J7_copyOf_59c91
  rw [aL_of ka (by decide) (by decide) ha, ob_eq, if_neg (fun q => absurd ((nI_eq (by omega) (by omega)).mp q) (by omega)), e1, ob_eq, aL_of kA (by decide) (by decide) nA', ob_eq, if_pos (nI_lt hL (by omega)), e2, ob_eq, mA_nA, if_neg hs, mA_nA, if_pos rfl]
theorem cl_eq {M : Mm} {a na : Nat} (ka : mK M a = 20) (ha : mN M a = na) (h6 : na ≤ 60) : f_J7_copyOf_59c91 M a (nI na) = some (sA (nA M 20 na) (mS M) (mA M a), mS M) := by
  unfold f_J7_copyOf_59c91 clI
  rw [aL_of ka (by decide) (by decide) ha, ob_eq, if_pos rfl, if_pos ka, ha, if_pos (by omega), ob_eq]
def bsum (f : Nat → Nat) : Nat → Nat
  | 0 => 0
  | k + 1 => bsum f k + f k
def cbv (f : Nat → Nat) (w : Nat) : Nat := 255 - bsum f w % 256
theorem bsum_le {f : Nat → Nat} : ∀ {w : Nat}, (∀ k, k < w → f k < 256) → bsum f w ≤ 256 * w
  | 0, _ => Nat.le_refl _
  | w + 1, h => by
    have h1 := bsum_le (f := f) (w := w) (fun k hk => h k (by omega))
    have h2 := h w (by omega)
    show bsum f w + f w ≤ _
    omega
theorem ck10 {M : Mm} {B L w : Nat} {f : Nat → Nat} (kB : mK M B = 20) (nB : mN M B = L) (hw : w ≤ L) (hL : L ≤ 100) (hf : ∀ k, k < w → f k < 256) (hr : ∀ k, k < w → mA M B k = nI (f k)) : f_X10_checkOf M B (nI w) = some (nI (cbv f w)) := by
  unfold f_X10_checkOf
  exact loop_run (fun fu i => f_X10_checkOf_L4 M fu B (nI w) (nI (bsum f i)) (nI i)) w _
    (fun i fu hi => by
      show f_X10_checkOf_L4 M (fu + 1) B (nI w) (nI (bsum f i)) (nI i) = f_X10_checkOf_L4 M fu B (nI w) (nI (bsum f i + f i)) (nI (i + 1))
      rw [f_X10_checkOf_L4, if_neg (nI_ge hi (by omega)), aL_of kB (by decide) (by decide) nB, ob_eq, if_neg (nI_ge (by omega) (by omega)), aI_of kB nB (by omega) (by omega), ob_eq, hr i hi, nI_add, nI_1])
    (fun fu => by
      show f_X10_checkOf_L4 M (fu + 1) B (nI w) (nI (bsum f w)) (nI w) = _
      have e : (255 : Int32) - nI (bsum f w % 256) = nI (255 - bsum f w % 256) := pk_sub (a := 255) (by omega)
      rw [f_X10_checkOf_L4, if_pos (nI_le (Nat.le_refl _) (by omega)), and255, e]
      rfl) 1000 (by omega)
theorem ck11 {M : Mm} {X l w : Nat} {f : Nat → Nat} (hS : St M X) (hl : l < 200) (hw : w ≤ 60) (hf : ∀ k, k < w → f k < 256) (hr : ∀ k, k < w → mA M (X + 240) (64 * l + k) = nI (f k)) : f_X11_checkOf M (X + 226) (nI l) (nI w) = some (nI (cbv f w)) := by
  unfold f_X11_checkOf
  rw [if_pos (k_226 hS)]
  exact loop_run (fun fu i => f_X11_checkOf_L5 M fu (X + 226) (nI l) (nI w) (nI (bsum f i)) (nI i)) w _
    (fun i fu hi => by
      show f_X11_checkOf_L5 M (fu + 1) (X + 226) (nI l) (nI w) (nI (bsum f i)) (nI i) = f_X11_checkOf_L5 M fu (X + 226) (nI l) (nI w) (nI (bsum f i + f i)) (nI (i + 1))
      rw [f_X11_checkOf_L5, if_neg (nI_ge hi (by omega)), r_226_1118 hS, ob_eq, m64, nI_add, ai_240 hS (by omega), ob_eq, hr i hi, nI_add, nI_1])
    (fun fu => by
      show f_X11_checkOf_L5 M (fu + 1) (X + 226) (nI l) (nI w) (nI (bsum f w)) (nI w) = _
      have hb := bsum_le hf
      have e : (255 : Int32) - nI (bsum f w % 256) = nI (255 - bsum f w % 256) := pk_sub (a := 255) (by omega)
      have e6 : nI (bsum f w) - nI (bsum f w) / 256 * 256 = nI (bsum f w % 256) := pk_rem (d := 256) (by omega) (by decide) (by decide)
      rw [f_X11_checkOf_L5, if_pos (nI_le (Nat.le_refl _) (by omega)), e6, e]
      rfl) 1000 (by omega)
/-- the bytes of a letter of m bits b, with a check or without -/
def byt (b : Nat → Nat) (m : Nat) (k : Nat) : Nat := if k < (m + 7) / 8 then byv b m k else cbv (byv b m) ((m + 7) / 8)
def bln (m : Nat) (c : Bool) : Nat := (m + 7) / 8 + (if c then 1 else 0)
theorem byt_lt {b : Nat → Nat} {m k : Nat} (hb : ∀ j, j < m → b j < 2) : byt b m k < 256 := by
  unfold byt cbv
  by_cases q : k < (m + 7) / 8
  · rw [if_pos q]; exact byv_lt hb
  · rw [if_neg q]; omega
theorem fin_eq {M : Mm} {X m : Nat} {b : Nat → Nat} (hS : St M X) (h2 : m ≤ 440) (hb : ∀ j, j < m → b j < 2) (c : Bool) : ∃ g, f_X5_finished (pn M X b m) (X + 212) (if c then 1 else 0) = some (sA (nA (pn M X b m) 20 (bln m c)) (mS M) g, mS M) ∧ ∀ k, k < bln m c → g k = nI (byt b m k) := by
  have hSp : St (pn M X b m) X := St_pn hS
  have sP : mS (pn M X b m) = mS M := rfl
  have hne : ¬ X + 213 = mS (pn M X b m) := by have := hSp.2.2.2.2; omega
  have d10 : ¬ (1 : Int32) = 0 := by decide
  unfold f_X5_finished
  rw [if_pos (k_212 hSp), gi_212 hSp, ob_eq, pn_501, wBy (by omega), ob_eq, r_212_500 hSp]
  cases c with
  | false =>
    refine ⟨va_cpy (mA (pn M X b m) (X + 213)) (fun _ => 0) 0 0 ((m + 7) / 8), ?_, ?_⟩
    · rw [if_pos (show (if false = true then (1 : Int32) else 0) = 0 from rfl), ob_eq, cp_eq (L := (m + 7) / 8) (k_213 hSp) (n_213 hSp) hne (by omega) (by omega), ob2_eq, sP]
      rfl
    · intro k hk
      have hk' : k < (m + 7) / 8 := hk
      rw [pk_cpy_in (by omega) (by omega), show 0 + (k - 0) = k by omega, pn_row (by omega)]
      unfold byt
      rw [if_pos hk']
  | true =>
    have kB : mK (sA (nA (pn M X b m) 20 ((m + 7) / 8 + 1)) (mS M) (va_cpy (mA (pn M X b m) (X + 213)) (fun _ => 0) 0 0 ((m + 7) / 8 + 1))) (mS M) = 20 := by rw [mK_sA, mK_nA, sP, if_pos rfl]
    have nB : mN (sA (nA (pn M X b m) 20 ((m + 7) / 8 + 1)) (mS M) (va_cpy (mA (pn M X b m) (X + 213)) (fun _ => 0) 0 0 ((m + 7) / 8 + 1))) (mS M) = (m + 7) / 8 + 1 := by rw [mN_sA, mN_nA, sP, if_pos rfl]
    have hr : ∀ k, k < (m + 7) / 8 → mA (sA (nA (pn M X b m) 20 ((m + 7) / 8 + 1)) (mS M) (va_cpy (mA (pn M X b m) (X + 213)) (fun _ => 0) 0 0 ((m + 7) / 8 + 1))) (mS M) k = nI (byv b m k) := by
      intro k hk
      rw [mA_sA, if_pos rfl, pk_cpy_in (by omega) (by omega), show 0 + (k - 0) = k by omega, pn_row (by omega)]
    refine ⟨va_up (va_cpy (mA (pn M X b m) (X + 213)) (fun _ => 0) 0 0 ((m + 7) / 8 + 1)) ((m + 7) / 8) (nI (cbv (byv b m) ((m + 7) / 8))), ?_, ?_⟩
    · rw [if_neg (show ¬ (if true = true then (1 : Int32) else 0) = 0 from d10), ob_eq, nI_1, cp_eq (L := (m + 7) / 8 + 1) (k_213 hSp) (n_213 hSp) hne (by omega) (by omega), ob2_eq, sP, ck10 kB nB (by omega) (by omega) (fun k hk => byv_lt hb) hr, ob_eq, wI_of kB nB (by omega) (by omega), ob_eq, sA_sA, mA_sA, if_pos rfl]
      rfl
    · intro k hk
      have hk' : k < (m + 7) / 8 + 1 := hk
      by_cases q : k = (m + 7) / 8
      · subst q
        rw [vau_eq]
        unfold byt
        rw [if_neg (Nat.lt_irrefl _)]
      · rw [vau_ne q, pk_cpy_in (by omega) (by omega), show 0 + (k - 0) = k by omega, pn_row (by omega)]
        unfold byt
        rw [if_pos (by omega)]
