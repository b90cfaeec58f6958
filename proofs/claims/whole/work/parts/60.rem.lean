/-! The header becomes a reference: class. -/
theorem sI_self (M : Mm) (k a : Nat) {v : Int32} (h : v = mI M k a) : sI M k a v = M := by
  have e : up2 (mI M) k a v = mI M := by
    funext x y
    unfold up2
    by_cases q : x = k
    · by_cases q2 : y = a
      · subst q; subst q2; rw [if_pos rfl, if_pos rfl]; exact h
      · rw [if_pos q, if_neg q2]
    · rw [if_neg q]
  show (mK M, mN M, up2 (mI M) k a v, mJ M, mR M, mA M, mB M, mQ M, mS M) = _
  rw [e]; rfl
theorem sI_comm (M : Mm) {k a k2 a2 : Nat} {v v2 : Int32} (h : ¬ k = k2) : sI (sI M k a v) k2 a2 v2 = sI (sI M k2 a2 v2) k a v := by
  have e : up2 (up2 (mI M) k a v) k2 a2 v2 = up2 (up2 (mI M) k2 a2 v2) k a v := by
    funext x y
    unfold up2
    by_cases q : x = k2
    · have q' : ¬ x = k := fun e => h (e.symm.trans q)
      rw [if_pos q, if_neg q', if_neg q', if_pos q]
    · rw [if_neg q, if_neg q]
  show (mK M, mN M, up2 (up2 (mI M) k a v) k2 a2 v2, mJ M, mR M, mA M, mB M, mQ M, mS M) = _
  rw [e]; rfl
theorem pn_sI {M : Mm} {X m k a : Nat} {b : Nat → Nat} {v : Int32} (h : ¬ k = 501) : sI (pn M X b m) k a v = pn (sI M k a v) X b m := by
  unfold pn
  rw [sI_sA, sI_comm _ (fun e => h e.symm), mA_sI]
theorem pn_self {E : Mm} {X m : Nat} {b : Nat → Nat} (h1 : mI E 501 (X + 212) = nI m) (h2 : ∀ k, k < 60 → mA E (X + 213) k = nI (byv b m k)) : pn E X b m = E := by
  unfold pn
  rw [sI_self E _ _ h1.symm]
  refine sA_self E _ (fun j => ?_)
  by_cases q : j < 60
  · rw [wr0_in q]; exact (h2 j q).symm
  · rw [wr_out (by omega)]
theorem drp_c {M : Mm} {X i f0 h d : Nat} (hS : St M X) (hi : i < 8) (h6 : mI M 906 (aSq X i) = nI f0) (h4 : mI M 904 (aSq X i) = nI h) (hf : f0 < 8) (hd : d ≤ h) (hh : h ≤ 8) : f_X9_dropOldest M (aSq X i) (nI d) = some (sI (sI M 906 (aSq X i) (nI ((f0 + d) % 8))) 904 (aSq X i) (nI (h - d))) := by
  unfold f_X9_dropOldest
  rw [if_pos (k_aSq hS hi), gi_aSq hS hi, ob_eq, h6, nI_add, fmod8 (by omega), ob_eq, pi_aSq hS hi, ob_eq, gi_aSq (St_sI hS) hi, ob_eq, mI_sI, if_neg (by decide), h4, pk_sub hd, pi_aSq (St_sI hS) hi, ob_eq]
theorem bec {M : Mm} {a b va vb : Nat} (ka : mK M a = 4) (kb : mK M b = 4) (ra : gR M 4 300 a = some va) (rb : gR M 4 300 b = some vb) (kva : mK M va = 21) (nva : mN M va = 8) (kvb : mK M vb = 21) (nvb : mN M vb = 8) : f_X3_become M a b = some (sI (sB M va (va_cpy (mB M vb) (mB M va) 0 0 8)) 301 a (mI M 301 b)) := by
  have e2 : cpJ M vb 0 va 0 8 = some (sB M va (va_cpy (mB M vb) (mB M va) 0 0 8)) := cpJ_of (i := 0) (j := 0) (k := 8) kvb kva nvb nva (by omega) (by omega) (by omega) (by omega)
  unfold f_X3_become
  rw [if_pos ka, rb, ob_eq, ra, ob_eq, e2, ob_eq, gI_of (by rw [mK_sB]; exact kb), ob_eq, mI_sB, pI_of (by rw [mK_sB]; exact ka), ob_eq]
def TIr (X i : Nat) : Nat → Nat → Prop := fun num a => (901 ≤ num ∧ num ≤ 906 ∧ a = aSq X i) ∨ (num = 301 ∧ aHd X i 0 ≤ a ∧ a ≤ aHd X i 7)
def TBc (X i : Nat) : Nat → Nat → Prop := fun a _ => aHv X i 0 ≤ a ∧ a ≤ aHv X i 7
theorem rem_c {Q : Mm} {X i f0 h w kk : Nat} (hS : St Q X) (hi : i < 8) (h6 : mI Q 906 (aSq X i) = nI f0) (h4 : mI Q 904 (aSq X i) = nI h) (h1 : mI Q 901 (aSq X i) = nI kk) (hk : mI Q 301 (X + 6) = nI kk) (hf : f0 < 8) (hw : h ≤ w) (w8 : w ≤ 8) (w1 : 1 ≤ w) :
    ∃ E, f_X9_remember Q (aSq X i) (X + 6) (nI w) = some E ∧ (∀ N n0, Ag X N n0 (TIr X i) T0 (TBc X i) Q E) ∧ mS E = mS Q ∧ mA E = mA Q ∧ mI E 901 (aSq X i) = nI (kk + 1) ∧ mI E 904 (aSq X i) = nI (h + 1 - (if h < w then 0 else 1)) ∧ mI E 906 (aSq X i) = nI ((f0 + (if h < w then 0 else 1)) % 8) ∧ (∀ nu, (nu = 902 ∨ nu = 903) → mI E nu (aSq X i) = mI Q nu (aSq X i)) ∧ (∀ nu a, (nu = 501 ∨ a = X + 6) → mI E nu a = mI Q nu a) ∧ (∀ d, d < 8 → mI E 301 (aHd X i d) = if d = (f0 + h) % 8 then nI kk else mI Q 301 (aHd X i d)) ∧ ∀ d f, d < 8 → f < 8 → mB E (aHv X i d) f = if d = (f0 + h) % 8 then mB Q (X + 7) f else mB Q (aHv X i d) f := by
  have key : ∀ (Q' : Mm) (f1 h1' : Nat), St Q' X → mI Q' 906 (aSq X i) = nI f1 → mI Q' 904 (aSq X i) = nI h1' → f1 < 8 → h1' < 8 → mI Q' 901 (aSq X i) = nI kk → mI Q' 301 (X + 6) = nI kk → mB Q' = mB Q → f_X9_remember_J20 Q' (aSq X i) (X + 6) = some (sI (sI (sI (sB Q' (aHv X i ((f1 + h1') % 8)) (va_cpy (mB Q (X + 7)) (mB Q (aHv X i ((f1 + h1') % 8))) 0 0 8)) 301 (aHd X i ((f1 + h1') % 8)) (nI kk)) 904 (aSq X i) (nI (h1' + 1))) 901 (aSq X i) (nI (kk + 1))) := by
    intro Q' f1 h1' S' e6 e4 l1 l2 e1 ek eB
    have hm : (f1 + h1') % 8 < 8 := Nat.mod_lt _ (by decide)
    unfold f_X9_remember_J20
    have nd : ¬ aHv X i ((f1 + h1') % 8) = X + 7 := by unfold aHv; omega
    have S2 : St (sI (sB Q' (aHv X i ((f1 + h1') % 8)) (va_cpy (mB Q' (X + 7)) (mB Q' (aHv X i ((f1 + h1') % 8))) 0 0 8)) 301 (aHd X i ((f1 + h1') % 8)) (nI kk)) X := St_sI (St_sB S')
    rw [gi_aSq S' hi, ob_eq, e4, rf_in S' hi e6 l1 (by omega), ob_eq, bec (k_aHd S' hi hm) (k_6 S') (r_aHd_300 S' hi hm) (r_6_300 S') (k_aHv S' hi hm) (n_aHv S' hi hm) (k_7 S') (n_7 S'), ob_eq, ek, gi_aSq S2 hi, ob_eq, mI_sI, if_neg (by decide), mI_sB, e4, nI_1, pi_aSq S2 hi, ob_eq, gi_aSq (St_sI S2) hi, ob_eq, mI_sI, if_neg (by decide), mI_sI, if_neg (by decide), mI_sB, e1, nI_1, pi_aSq (St_sI S2) hi, ob_eq, eB]
  have fin : ∀ (Q' : Mm) (f1 h1' dd : Nat), dd = (if h < w then 0 else 1) → f_X9_remember Q (aSq X i) (X + 6) (nI w) = f_X9_remember_J20 Q' (aSq X i) (X + 6) → St Q' X → mI Q' 906 (aSq X i) = nI f1 → mI Q' 904 (aSq X i) = nI h1' → f1 = (f0 + dd) % 8 → h1' + dd = h → h1' < 8 → (∀ nu a, ¬ (nu = 904 ∨ nu = 906) → mI Q' nu a = mI Q nu a) → mB Q' = mB Q → mA Q' = mA Q → mS Q' = mS Q → (∀ N n0, Ag X N n0 (TIr X i) T0 (TBc X i) Q Q') → ∃ E, f_X9_remember Q (aSq X i) (X + 6) (nI w) = some E ∧ (∀ N n0, Ag X N n0 (TIr X i) T0 (TBc X i) Q E) ∧ mS E = mS Q ∧ mA E = mA Q ∧ mI E 901 (aSq X i) = nI (kk + 1) ∧ mI E 904 (aSq X i) = nI (h + 1 - (if h < w then 0 else 1)) ∧ mI E 906 (aSq X i) = nI ((f0 + (if h < w then 0 else 1)) % 8) ∧ (∀ nu, (nu = 902 ∨ nu = 903) → mI E nu (aSq X i) = mI Q nu (aSq X i)) ∧ (∀ nu a, (nu = 501 ∨ a = X + 6) → mI E nu a = mI Q nu a) ∧ (∀ d, d < 8 → mI E 301 (aHd X i d) = if d = (f0 + h) % 8 then nI kk else mI Q 301 (aHd X i d)) ∧ ∀ d f, d < 8 → f < 8 → mB E (aHv X i d) f = if d = (f0 + h) % 8 then mB Q (X + 7) f else mB Q (aHv X i d) f := by
    intro Q' f1 h1' dd edd ef S' e6 e4 ef1 eh l2 eI eB eA eS AQ
    have f18 : f1 < 8 := by rw [ef1]; exact Nat.mod_lt _ (by decide)
    have hm : (f1 + h1') % 8 < 8 := Nat.mod_lt _ (by decide)
    have sl : (f1 + h1') % 8 = (f0 + h) % 8 := by omega
    have ex := key Q' f1 h1' S' e6 e4 f18 l2 (by rw [eI _ _ (by omega)]; exact h1) (by rw [eI _ _ (by omega)]; exact hk) eB
    rw [sl] at ex hm
    rw [← edd]
    generalize hd : (f0 + h) % 8 = d0 at ex hm
    refine ⟨_, ef.trans ex, ?_, ?_, ?_, ?_, ?_, ?_, ?_, ?_, ?_, ?_⟩
    · intro N n0
      refine (((Ag.cB (AQ N n0) (Or.inr (Or.inr (fun j t => absurd (show TBc X i (aHv X i d0) j from ⟨by unfold aHv; omega, by unfold aHv; omega⟩) t)))).cI (Or.inr (Or.inl (Or.inr ⟨rfl, by unfold aHd; omega, by unfold aHd; omega⟩)))).cI (Or.inr (Or.inl (Or.inl ⟨by decide, by decide, rfl⟩)))).cI (Or.inr (Or.inl (Or.inl ⟨by decide, by decide, rfl⟩)))
    · rw [mS_sI, mS_sI, mS_sI, mS_sB, eS]
    · rw [mA_sI, mA_sI, mA_sI, mA_sB, eA]
    · rw [mI_sI, if_pos rfl, if_pos rfl]
    · rw [mI_sI, if_neg (by decide), mI_sI, if_pos rfl, if_pos rfl, show h1' + 1 = h + 1 - dd by omega]
    · rw [mI_sI, if_neg (by decide), mI_sI, if_neg (by decide), mI_sI, if_neg (by decide), mI_sB, e6, ef1]
    · intro nu hn
      rw [mI_sI, if_neg (by omega), mI_sI, if_neg (by omega), mI_sI, if_neg (by omega), mI_sB, eI _ _ (by omega)]
    · intro nu a hn
      have na : nu = 501 ∨ (¬ a = aSq X i ∧ ¬ a = aHd X i d0 ∧ a = X + 6) := by
        rcases hn with hn | hn
        · exact Or.inl hn
        · exact Or.inr ⟨by unfold aSq; omega, by unfold aHd; omega, hn⟩
      rcases na with na | ⟨n1, n2, n3⟩
      · rw [mI_sI, if_neg (by omega), mI_sI, if_neg (by omega), mI_sI, if_neg (by omega), mI_sB, eI _ _ (by omega)]
      · rw [mI_sIy n1, mI_sIy n1, mI_sIy n2, mI_sB]
        by_cases c : nu = 904 ∨ nu = 906
        · have a1 := (AQ (a + 1) 0).1 nu a (by unfold ScI; omega) (by unfold TIr aSq aHd; omega) (by omega)
          exact a1
        · exact eI _ _ c
    · intro d hd8
      rw [mI_sI, if_neg (by decide), mI_sI, if_neg (by decide), mI_sI, if_pos rfl]
      by_cases c : d = d0
      · rw [if_pos c, if_pos (by rw [c])]
      · rw [if_neg c, if_neg (by unfold aHd; omega), mI_sB, eI _ _ (by omega)]
    · intro d f hd8 hf8
      rw [mB_sI, mB_sI, mB_sI, mB_sB]
      by_cases c : d = d0
      · rw [if_pos c, if_pos (by rw [c]), pk_cpy_in (by omega) (by omega), show 0 + (f - 0) = f by omega]
      · rw [if_neg c, if_neg (by unfold aHv; omega), eB]
  have st : f_X9_remember Q (aSq X i) (X + 6) (nI w) = if nI h < nI w then f_X9_remember_J20 Q (aSq X i) (X + 6) else (f_X9_dropOldest Q (aSq X i) (nI h - nI w + 1)).bind (fun M5 => f_X9_remember_J20 M5 (aSq X i) (X + 6)) := by
    unfold f_X9_remember
    rw [if_pos (k_aSq hS hi), gi_aSq hS hi, ob_eq, h4, ob_eq]
  by_cases c : h < w
  · refine fin Q f0 h 0 (by rw [if_pos c]) ?_ hS h6 h4 (by omega) (by omega) (by omega) (fun _ _ _ => rfl) rfl rfl rfl (fun _ _ => Ag.rf)
    rw [st, if_pos (nI_lt c (by omega))]
  · have e : h = w := by omega
    subst e
    have e1 : nI h - nI h + 1 = nI 1 := by rw [Int32.sub_self]; rfl
    have e0 := drp_c (d := 1) hS hi h6 h4 hf (by omega) w8
    refine fin (sI (sI Q 906 (aSq X i) (nI ((f0 + 1) % 8))) 904 (aSq X i) (nI (h - 1))) ((f0 + 1) % 8) (h - 1) 1 (by rw [if_neg c]) ?_ (St_sI (St_sI hS)) ?_ ?_ rfl (by omega) (by omega) ?_ (by rw [mB_sI, mB_sI]) (by rw [mA_sI, mA_sI]) (by rw [mS_sI, mS_sI]) (fun _ _ => (Ag_sI (Or.inr (Or.inl (Or.inl ⟨by decide, by decide, rfl⟩)))).cI (Or.inr (Or.inl (Or.inl ⟨by decide, by decide, rfl⟩))))
    · rw [st, if_neg (nI_nlt (Nat.le_refl _) (by omega)), e1, e0, ob_eq]
    · rw [mI_sI, if_neg (by decide), mI_sI, if_pos rfl, if_pos rfl]
    · rw [mI_sI, if_pos rfl, if_pos rfl]
    · intro nu a hn
      rw [mI_sI, if_neg (by omega), mI_sI, if_neg (by omega)]
