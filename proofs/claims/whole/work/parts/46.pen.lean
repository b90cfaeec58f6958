/-! The pen of the class, and what the reference says: bit by bit. -/
theorem sI_sI (M : Mm) (k a : Nat) (v v2 : Int32) : sI (sI M k a v) k a v2 = sI M k a v2 := by
  have e : up2 (up2 (mI M) k a v) k a v2 = up2 (mI M) k a v2 := by
    funext x y
    unfold up2
    by_cases q : x = k
    · by_cases q2 : y = a
      · rw [if_pos q, if_pos q2, if_pos q, if_pos q2]
      · rw [if_pos q, if_neg q2, if_pos q, if_neg q2, if_pos q, if_neg q2]
    · rw [if_neg q, if_neg q, if_neg q]
  show (mK M, mN M, up2 (up2 (mI M) k a v) k a v2, mJ M, mR M, mA M, mB M, mQ M, mS M) = _
  rw [e]; rfl
theorem sI_sA (M : Mm) (k a b : Nat) (v : Int32) (g : Nat → Int32) : sI (sA M b g) k a v = sA (sI M k a v) b g := rfl
def pn (M : Mm) (X : Nat) (b : Nat → Nat) (m : Nat) : Mm := sA (sI M 501 (X + 212) (nI m)) (X + 213) (wr (mA M (X + 213)) 0 60 (fun k => nI (byv b m k)))
def rm (M : Mm) (X : Nat) (b : Nat → Nat) (m : Nat) : Mm := sA (sI M 1142 (X + 226) (nI m)) (X + 259) (wr (mA M (X + 259)) 0 m (fun j => nI (b j)))
theorem St_pn {M : Mm} {X m : Nat} {b : Nat → Nat} (h : St M X) : St (pn M X b m) X := St_sA (St_sI h)
theorem St_rm {M : Mm} {X m : Nat} {b : Nat → Nat} (h : St M X) : St (rm M X b m) X := St_sA (St_sI h)
theorem pn_501 {M : Mm} {X m : Nat} {b : Nat → Nat} : mI (pn M X b m) 501 (X + 212) = nI m := by unfold pn; rw [mI_sA, mI_sI, if_pos rfl, if_pos rfl]
theorem rm_1142 {M : Mm} {X m : Nat} {b : Nat → Nat} : mI (rm M X b m) 1142 (X + 226) = nI m := by unfold rm; rw [mI_sA, mI_sI, if_pos rfl, if_pos rfl]
theorem pn_row {M : Mm} {X m k : Nat} {b : Nat → Nat} (h : k < 60) : mA (pn M X b m) (X + 213) k = nI (byv b m k) := by unfold pn; rw [mA_sA, if_pos rfl]; exact wr0_in h
theorem rm_row {M : Mm} {X m k : Nat} {b : Nat → Nat} (h : k < m) : mA (rm M X b m) (X + 259) k = nI (b k) := by unfold rm; rw [mA_sA, if_pos rfl]; exact wr0_in h
theorem m1I (c : Nat) : nI (c + 1) - 1 = nI c := nI_pred c
theorem sub1 (x : Int32) : x + (-1) = x - 1 := (Int32.sub_eq_add_neg x 1).symm
theorem wBy {m : Nat} (h : m < 2 ^ 30) : f_X10_wholeBytes (nI m) = some (nI ((m + 7) / 8)) := by
  unfold f_X10_wholeBytes
  have e : nI m + 7 = nI (m + 7) := nI_add m 7
  rw [e, shr3 (by omega)]
theorem pn_step {M : Mm} {X : Nat} {b b' : Nat → Nat} {m : Nat} (hm : m < 480) (h : ∀ j, j < m → b' j = b j) (hv2 : b' m < 2) (hb : ∀ j, j < m → b j < 2) : sI (sA (pn M X b m) (X + 213) (va_up (mA (pn M X b m) (X + 213)) (m / 8) (nI (byv b m (m / 8) ||| (b' m * 2 ^ (7 - m % 8)))))) 501 (X + 212) (nI (m + 1)) = pn M X b' (m + 1) := by
  rw [← byv_step h hv2 hb]
  unfold pn
  rw [sA_sA, sI_sA, sI_sI, mA_sA, if_pos rfl]
  congr 1
  funext j
  by_cases q : j = m / 8
  · subst q; rw [vau_eq]; exact (wr0_in (i := 60) (k := m / 8) (v := fun k => nI (byv b' (m + 1) k)) (by omega)).symm
  · rw [vau_ne q]
    by_cases q2 : j < 60
    · rw [wr0_in q2, wr0_in q2]
      exact congrArg nI (hv_far h q 8 (by omega)).symm
    · rw [wr_out (by omega), wr_out (by omega)]
theorem wr_pn {M : Mm} {X m u c : Nat} {b : Nat → Nat} (hS : St M X) (hm : m + c ≤ 480) (hc : c < 64) (hb : ∀ j, j < m → b j < 2) : f_X5_write (pn M X b m) (X + 212) (lN u) (nI c) = some (pn M X (ap b m u c) (m + c)) := by
  unfold f_X5_write
  rw [if_pos (k_212 (St_pn hS))]
  have e := loop_run (fun fu t => f_X5_write_L5 fu (pn M X (apt b m u c t) (m + t)) (X + 212) (lN u) (nI (c - t) - 1)) c (some (pn M X (ap b m u c) (m + c)))
    (fun t fu ht => by
      show f_X5_write_L5 (fu + 1) (pn M X (apt b m u c t) (m + t)) (X + 212) (lN u) (nI (c - t) - 1) = f_X5_write_L5 fu (pn M X (apt b m u c (t + 1)) (m + (t + 1))) (X + 212) (lN u) (nI (c - (t + 1)) - 1)
      have hSp : St (pn M X (apt b m u c t) (m + t)) X := St_pn hS
      have e1 : nI (c - t) - 1 = nI (c - (t + 1)) := by rw [show c - t = c - (t + 1) + 1 by omega]; exact m1I _
      have e2 : nI (m + t) + 1 = nI (m + t + 1) := nI_1 _
      have hr : (m + t) % 8 < 8 := Nat.mod_lt _ (by decide)
      have hb2 : apt b m u c (t + 1) (m + t) = u / 2 ^ (c - (t + 1)) % 2 := by rw [apt_n, show c - 1 - t = c - (t + 1) by omega]
      have hl2 : apt b m u c (t + 1) (m + t) < 2 := by rw [hb2]; exact Nat.mod_lt _ (by decide)
      have e3 : (((lN u >>> ((nI (c - (t + 1))).toInt64 &&& 63)).toInt32) &&& 1) <<< ((7 - nI ((m + t) % 8)) &&& 31) = nI (apt b m u c (t + 1) (m + t) * 2 ^ (7 - (m + t) % 8)) := by
        rw [bitP (by omega), ← hb2]; exact shl7 _ hr _ hl2
      rw [f_X5_write_L5, e1, if_neg (nI_pos (by omega)), gi_212 hSp, ob_eq, pn_501, e2, wBy (by omega), ob_eq, r_212_500 hSp, ob_eq, al_213 hSp, ob_eq, if_neg (nI_nlt (by omega) (by decide)), ob_eq, ob_eq, shr3 (by omega), ai_213 hSp (by omega), ob_eq, ob_eq, and7, e3, pn_row (by omega), orI, wi_213 hSp (by omega), ob_eq, gi_212 (St_sA hSp), ob_eq, mI_sA, pn_501, e2, pi_212 (St_sA hSp), ob_eq, pn_step (by omega) (fun j hj => apt_s hj) hl2 (apt_b hb), sub1]
      rfl)
    (fun fu => by
      show f_X5_write_L5 (fu + 1) (pn M X (apt b m u c c) (m + c)) (X + 212) (lN u) (nI (c - c) - 1) = _
      rw [f_X5_write_L5, Nat.sub_self, if_pos (by decide)]
      rfl) 1000 (by omega)
  rw [apt_0, Nat.add_zero, Nat.sub_zero] at e
  exact e
theorem rm_step {M : Mm} {X : Nat} {b b' : Nat → Nat} {m : Nat} (h : ∀ j, j < m → b' j = b j) : sI (sA (rm M X b m) (X + 259) (va_up (mA (rm M X b m) (X + 259)) m (nI (b' m)))) 1142 (X + 226) (nI (m + 1)) = rm M X b' (m + 1) := by
  unfold rm
  rw [sA_sA, sI_sA, sI_sI, mA_sA, if_pos rfl]
  congr 1
  have e : wr (mA M (X + 259)) 0 m (fun j => nI (b j)) = wr (mA M (X + 259)) 0 m (fun j => nI (b' j)) := by
    funext j
    by_cases q : j < m
    · rw [wr0_in q, wr0_in q, h j q]
    · rw [wr_out (by omega), wr_out (by omega)]
  rw [e]
  exact wr0_s _ _ (fun j => nI (b' j))
theorem say_rm {M : Mm} {X m u c : Nat} {b : Nat → Nat} (hS : St M X) (hm : m + c ≤ 600) (hc : c < 64) : f_X11_say (rm M X b m) (X + 226) (lN u) (nI c) = some (rm M X (ap b m u c) (m + c)) := by
  unfold f_X11_say
  rw [if_pos (k_226 (St_rm hS))]
  have e := loop_run (fun fu t => f_X11_say_L5 fu (rm M X (apt b m u c t) (m + t)) (X + 226) (lN u) (nI (c - t) - 1)) c (some (rm M X (ap b m u c) (m + c)))
    (fun t fu ht => by
      show f_X11_say_L5 (fu + 1) (rm M X (apt b m u c t) (m + t)) (X + 226) (lN u) (nI (c - t) - 1) = f_X11_say_L5 fu (rm M X (apt b m u c (t + 1)) (m + (t + 1))) (X + 226) (lN u) (nI (c - (t + 1)) - 1)
      have hSp : St (rm M X (apt b m u c t) (m + t)) X := St_rm hS
      have e1 : nI (c - t) - 1 = nI (c - (t + 1)) := by rw [show c - t = c - (t + 1) + 1 by omega]; exact m1I _
      have e2 : nI (m + t) + 1 = nI (m + t + 1) := nI_1 _
      have hb2 : apt b m u c (t + 1) (m + t) = u / 2 ^ (c - (t + 1)) % 2 := by rw [apt_n, show c - 1 - t = c - (t + 1) by omega]
      rw [f_X11_say_L5, e1, if_neg (nI_pos (by omega)), r_226_1141 hSp, ob_eq, gi_226 hSp, ob_eq, rm_1142, bitM (by omega), ← hb2, wi_259 hSp (by omega), ob_eq, gi_226 (St_sA hSp), ob_eq, mI_sA, rm_1142, e2, pi_226 (St_sA hSp), ob_eq, rm_step (fun j hj => apt_s hj), sub1]
      rfl)
    (fun fu => by
      show f_X11_say_L5 (fu + 1) (rm M X (apt b m u c c) (m + c)) (X + 226) (lN u) (nI (c - c) - 1) = _
      rw [f_X11_say_L5, Nat.sub_self, if_pos (by decide)]
      rfl) 1000 (by omega)
  rw [apt_0, Nat.add_zero, Nat.sub_zero] at e
  exact e
theorem ap_b {b : Nat → Nat} {m u c : Nat} (h : ∀ j, j < m → b j < 2) : ∀ j, j < m + c → ap b m u c j < 2 := apt_b h
theorem bit_mod {u c i : Nat} (h : i < c) : (u % 2 ^ c) / 2 ^ i % 2 = u / 2 ^ i % 2 := by
  have e : 2 ^ c = 2 ^ i * 2 ^ (c - i) := by rw [← Nat.pow_add, show i + (c - i) = c by omega]
  rw [e, Nat.mod_mul_right_div_self]
  refine Nat.mod_mod_of_dvd _ ?_
  exact ⟨2 ^ (c - i - 1), by rw [Nat.mul_comm, ← Nat.pow_succ]; congr 1; omega⟩
theorem ap_mod (b : Nat → Nat) (m u c : Nat) : ap b m (u % 2 ^ c) c = ap b m u c := by
  funext j
  unfold ap apt
  by_cases q : m ≤ j ∧ j < m + c
  · rw [if_pos q, if_pos q, bit_mod (by omega)]
  · rw [if_neg q, if_neg q]
/-- the head of a letter -/
def hd (k i u : Nat) : Nat → Nat := ap (ap (ap (fun _ => 0) 0 k 3) 3 i 3) 6 u 16
theorem hd_b {k i u : Nat} : ∀ j, j < 22 → hd k i u j < 2 := ap_b (m := 6) (c := 16) (ap_b (m := 3) (c := 3) (ap_b (m := 0) (c := 3) (fun j h => absurd h (Nat.not_lt_zero _))))
theorem hv_0 (b : Nat → Nat) (k : Nat) : ∀ i, hv b 0 k i = 0
  | 0 => rfl
  | i + 1 => by
    show 2 * hv b 0 k i + (if 8 * k + i < 0 then _ else 0) = 0
    rw [hv_0 b k i, if_neg (Nat.not_lt_zero _)]
theorem begin_eq {M : Mm} {X k i u : Nat} (hS : St M X) (hk : k < 8) (hi : i < 8) (hu : u < 2 ^ 31) : f_X5_begin M (X + 212) (nI k) (nI i) (nI u) = some (pn M X (hd k i u) 22) := by
  unfold f_X5_begin
  have e0 : sI (sA M (X + 213) (fun j => if j < 60 then 0 else mA M (X + 213) j)) 501 (X + 212) 0 = pn M X (fun _ => 0) 0 := by
    rw [sI_sA]
    unfold pn
    have e : (fun j => if j < 60 then (0 : Int32) else mA M (X + 213) j) = wr (mA M (X + 213)) 0 60 (fun k => nI (byv (fun _ => 0) 0 k)) := by
      funext j
      by_cases q : j < 60
      · rw [if_pos q, wr0_in q]
        show _ = nI (hv (fun _ => 0) 0 j 8)
        rw [hv_0]; rfl
      · rw [if_neg q, wr_out (by omega)]
    rw [e]; rfl
  have z0 : ∀ j, j < 0 → (fun _ => 0 : Nat → Nat) j < 2 := fun j h => absurd h (Nat.not_lt_zero _)
  have w1 := wr_pn (M := M) (X := X) (m := 0) (u := k) (c := 3) (b := fun _ => 0) hS (by omega) (by omega) z0
  have w2 := wr_pn (M := M) (X := X) (m := 3) (u := i) (c := 3) (b := ap (fun _ => 0) 0 k 3) hS (by omega) (by omega) (ap_b (m := 0) (c := 3) z0)
  have w3 := wr_pn (M := M) (X := X) (m := 6) (u := u) (c := 16) (b := ap (ap (fun _ => 0) 0 k 3) 3 i 3) hS (by omega) (by omega) (ap_b (m := 3) (c := 3) (ap_b (m := 0) (c := 3) z0))
  have g1 : f_X5_write (pn M X (fun _ => 0) 0) (X + 212) (lN k) 3 = some (pn M X (ap (fun _ => 0) 0 k 3) 3) := w1
  have g2 : f_X5_write (pn M X (ap (fun _ => 0) 0 k 3) 3) (X + 212) (lN i) 3 = some (pn M X (ap (ap (fun _ => 0) 0 k 3) 3 i 3) 6) := w2
  have g3 : f_X5_write (pn M X (ap (ap (fun _ => 0) 0 k 3) 3 i 3) 6) (X + 212) (lN u) 16 = some (pn M X (hd k i u) 22) := w3
  rw [if_pos (k_212 hS), r_212_500 hS, ob_eq, fillI (k_213 hS) (n_213 hS) (by decide), ob_eq, pi_212 (St_sA hS), ob_eq, e0, nI_l (by omega), nI_l (by omega), nI_l hu, g1, ob_eq, g2, ob_eq, g3, ob_eq]
theorem head_eq {M : Mm} {X k i u : Nat} (hS : St M X) (hk : k < 8) (hi : i < 8) (hu : u < 2 ^ 31) : f_X11_head M (X + 226) (nI k) (nI i) (nI u) = some (rm M X (hd k i u) 22) := by
  unfold f_X11_head
  have e0 : sI M 1142 (X + 226) 0 = rm M X (fun _ => 0) 0 := by
    unfold rm
    rw [wr_0]
    exact (sA_self _ _ (fun j => rfl)).symm
  have w1 : f_X11_say (rm M X (fun _ => 0) 0) (X + 226) (lN k) 3 = some (rm M X (ap (fun _ => 0) 0 k 3) 3) := say_rm (m := 0) (c := 3) hS (by omega) (by omega)
  have w2 : f_X11_say (rm M X (ap (fun _ => 0) 0 k 3) 3) (X + 226) (lN i) 3 = some (rm M X (ap (ap (fun _ => 0) 0 k 3) 3 i 3) 6) := say_rm (m := 3) (c := 3) hS (by omega) (by omega)
  have w3 : f_X11_say (rm M X (ap (ap (fun _ => 0) 0 k 3) 3 i 3) 6) (X + 226) (lN (u % 65536)) 16 = some (rm M X (hd k i u) 22) := by
    have e := say_rm (M := M) (X := X) (m := 6) (u := u % 2 ^ 16) (c := 16) (b := ap (ap (fun _ => 0) 0 k 3) 3 i 3) hS (by omega) (by omega)
    rw [ap_mod] at e
    exact e
  have e6 : nI u - nI u / 65536 * 65536 = nI (u % 65536) := pk_rem (d := 65536) hu (by decide) (by decide)
  rw [if_pos (k_226 hS), pi_226 hS, ob_eq, e0, e6, nI_l (by omega), nI_l (by omega), nI_l (by omega), w1, ob_eq, w2, ob_eq, w3, ob_eq]
