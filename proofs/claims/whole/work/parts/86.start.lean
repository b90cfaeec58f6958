/-! Behind both constructors the invariant holds. -/
theorem all0_of {n : Nat} {p : Nat → Bool} (h : all0 n p = true) {i : Nat} (hi : i < n) : p i = true := List.all_eq_true.mp h i (List.mem_range.mpr hi)
theorem and_of {a b : Bool} (h : (a && b) = true) : a = true ∧ b = true := by
  cases a <;> cases b <;> first | exact ⟨rfl, rfl⟩ | exact Bool.noConfusion h
theorem St_ck {V T : Mm} {X : Nat} (fK : ∀ a, mK V (X + a) = mK T a) (fN : ∀ a, mN V (X + a) = mN T a) (fR : ∀ k a, mR V k (X + a) = (mR T k a).map (fun y => X + y)) (fQ : ∀ a i, mQ V (X + a) i = (mQ T a i).map (fun y => X + y)) (fS : mS V = X + mS T) (h : ckS T = true) : St V X ∧ mS V = X + 270 := by
  obtain ⟨h1, h⟩ := and_of h
  obtain ⟨h2, h⟩ := and_of h
  obtain ⟨h3, h⟩ := and_of h
  obtain ⟨h4, h5⟩ := and_of h
  have e5 : mS T = 270 := of_decide_eq_true h5
  refine ⟨⟨fun o ho => ?_, fun o ho hk => ?_, fun q hq => ?_, fun q hq => ?_, ?_⟩, by rw [fS, e5]⟩
  · rw [fK]; exact of_decide_eq_true (all0_of h1 ho)
  · rw [fN]; exact (show 20 ≤ kT o → mN T o = nT o from of_decide_eq_true (all0_of h2 ho)) hk
  · rw [fR, show mR T q.1 q.2.1 = some q.2.2 from of_decide_eq_true (List.all_eq_true.mp h3 q hq)]; rfl
  · rw [fQ, show mQ T q.1 q.2.1 = some q.2.2 from of_decide_eq_true (List.all_eq_true.mp h4 q hq)]; rfl
  · rw [fS, e5]; exact Nat.le_refl _
theorem Inv_ck {V T : Mm} {X w : Nat} (fK : ∀ a, mK V (X + a) = mK T a) (fN : ∀ a, mN V (X + a) = mN T a) (fI : ∀ k a, mI V k (X + a) = mI T k a) (fR : ∀ k a, mR V k (X + a) = (mR T k a).map (fun y => X + y)) (fA : ∀ a, mA V (X + a) = mA T a) (fB : ∀ a, mB V (X + a) = mB T a) (fQ : ∀ a i, mQ V (X + a) i = (mQ T a i).map (fun y => X + y)) (fS : mS V = X + mS T) (hw : 1 ≤ w ∧ w ≤ 8) (h : (ckS T && (ckI w T && ckA T)) = true) : Inv V X 0 0 w (fun _ => X + 270) := by
  obtain ⟨h1, h⟩ := and_of h
  obtain ⟨h2, h3⟩ := and_of h
  obtain ⟨hS, hs⟩ := St_ck fK fN fR fQ fS h1
  have f0 : ∀ k, mI V k X = mI T k 0 := fun k => fI k 0
  obtain ⟨a1, a2, a3, a4, a5, a6, a7, a8, a9, a10⟩ := (show mI T 1000 0 = nI w ∧ mI T 1107 226 = nI w ∧ mI T 604 1 = 0 ∧ mI T 1101 226 = 0 ∧ mI T 1010 0 = 0 ∧ mI T 1116 226 = 0 ∧ mI T 1106 226 = 0 ∧ mI T 204 222 = 0 ∧ mI T 1135 226 = 0 ∧ mI T 1011 0 = 0 from of_decide_eq_true h2)
  have b : ∀ i, i < 8 → (mB T 7 i = 0 ∧ mI T 901 (10 + 23 * i) = 0 ∧ mA T 232 i = 0 ∧ mI T 902 (10 + 23 * i) = 0 ∧ mA T 233 i = 0 ∧ mI T 903 (10 + 23 * i) = 1 ∧ mA T 235 i = 1 ∧ mI T 904 (10 + 23 * i) = 0 ∧ mA T 236 i = 0 ∧ mI T 906 (10 + 23 * i) = 0 ∧ mI T 103 (29 + 23 * i) = 0 ∧ mA T 252 i = 0 ∧ mI T 801 (196 + 2 * i) = 0 ∧ mA T 265 i = 0) ∧ ∀ f, f < 8 → (mA T 234 (8 * i + f) = 1 ∧ mA T (11 + 23 * i) f = 1) := by
    intro i hi
    obtain ⟨q1, q2⟩ := and_of (all0_of h3 hi)
    exact ⟨of_decide_eq_true q1, fun f hf => of_decide_eq_true (all0_of q2 hf)⟩
  refine ⟨hS, ⟨?_, ?_, hw.1, hw.2⟩, ⟨by decide, ?_, ?_, fun f hf => absurd hf (Nat.not_lt_zero f)⟩, ⟨fun f hf => absurd hf (Nat.not_lt_zero f), fun f _ hf => ?_⟩, ⟨by decide, ?_, ?_, ?_⟩, fun i hi => ?_, fun i hi => ?_, ⟨rfl, fun l hl => absurd hl (Nat.not_lt_zero l), ?_⟩, fun l hl => absurd hl (Nat.not_lt_zero l), ⟨?_, Or.inl ?_⟩, fun s hs => ?_, ?_⟩
  · rw [f0, a1]
  · rw [fI, a2]
  · rw [fI, a3]; rfl
  · rw [fI, a4]; rfl
  · rw [fB, (b f hf).1.1]
  · rw [f0, a5]; rfl
  · rw [fI, a6]; rfl
  · rw [fI, a7, if_pos rfl]
  · obtain ⟨⟨c0, c1, c2, c3, c4, c5, c6, c7, c8, c9, c10, c11, c12, c13⟩, d⟩ := b i hi
    unfold IQ IQ' aSq aSt
    rw [fI, fI, fI, fI, fI, fA, fA, fA, fA, fA, fA, c1, c2, c3, c4, c5, c6, c7, c8, c9]
    refine ⟨0, 0, 0, 0, Nat.le_refl _, rfl, rfl, by decide, rfl, rfl, rfl, Or.inr rfl, Nat.zero_le _, rfl, rfl, by decide, rfl, fun f hf => ?_, fun j hj => absurd hj (Nat.not_lt_zero j)⟩
    rw [(d f hf).1, (d f hf).2]
  · obtain ⟨⟨c0, c1, c2, c3, c4, c5, c6, c7, c8, c9, c10, c11, c12, c13⟩, d⟩ := b i hi
    unfold IX aCx
    rw [fI, fA, c10, c11]
    exact ⟨rfl, Or.inl rfl⟩
  · show X + 270 ≤ mS V
    omega
  · rw [fI, fI, a8, a9]
  · rw [fI, a8]
  · obtain ⟨⟨c0, c1, c2, c3, c4, c5, c6, c7, c8, c9, c10, c11, c12, c13⟩, d⟩ := b s hs
    unfold IH aSh
    rw [fI, fA, c12, c13]
    exact ⟨rfl, 0, by decide, rfl, fun e => absurd e (by decide), fun e => absurd e (by decide)⟩
  · show mI V 1011 X = nI 0
    rw [f0, a10]; rfl
theorem runI_ck {v : Nat} (hv : v < 8) : ckO (v + 1) (runI (nI v)) = true := by
  match v, hv with
  | 0, _ => exact runI_0
  | 1, _ => exact runI_1
  | 2, _ => exact runI_2
  | 3, _ => exact runI_3
  | 4, _ => exact runI_4
  | 5, _ => exact runI_5
  | 6, _ => exact runI_6
  | 7, _ => exact runI_7
  | n + 8, h => exact absurd h (by omega)
theorem runI_ex {v w : Nat} {x : Int32} (h : ckO w (runI x) = true) : ∃ T1 T2, f_X10_init (nO T00 11) 0 x = some T1 ∧ mS T1 = 226 ∧ f_X11_init (nO T1 12) 226 x = some T2 ∧ (ckS T2 && (ckI w T2 && ckA T2)) = true := by
  unfold runI at h
  generalize hx : f_X10_init (nO T00 11) 0 x = o at h
  cases o with
  | none => exact Bool.noConfusion (show false = true from h)
  | some T1 =>
    rw [ob_eq] at h
    by_cases e : mS T1 = 226
    · rw [if_pos e] at h
      generalize hy : f_X11_init (nO T1 12) 226 x = o2 at h
      cases o2 with
      | none => exact Bool.noConfusion (show false = true from h)
      | some T2 => exact ⟨T1, T2, by first | exact hx | rfl, e, hy, h⟩
    · rw [if_neg e] at h
      exact Bool.noConfusion (show false = true from h)
theorem X10_v {T : Mm} {y v : Nat} {a : Int32} (hv : v < 8) (h : f_J9_floorMod_7cf53 a 8 = some (nI v)) : f_X10_init T y a = f_X10_init T y (nI v) := by
  unfold f_X10_init
  rw [h, show f_J9_floorMod_7cf53 (nI v) 8 = some (nI v) from (fmod8 (by omega)).trans (by rw [Nat.mod_eq_of_lt hv])]
theorem e8_v : ∀ v, v < 8 → e8 (nI v) = nI (v + 1) := by decide
theorem X11_v {T : Mm} {y v : Nat} {a : Int32} (hv : v < 8) (h : e8 a = nI (v + 1)) : f_X11_init T y a = f_X11_init T y (nI v) := by
  have h' : (1 + (((a - a / 8 * 8) + 8) - ((a - a / 8 * 8) + 8) / 8 * 8)) = (1 + (((nI v - nI v / 8 * 8) + 8) - ((nI v - nI v / 8 * 8) + 8) / 8 * 8)) := h.trans (e8_v v hv).symm
  unfold f_X11_init
  rw [h']
theorem start {M : Mm} {X : Nat} (h0 : M = ov M X T00) (a : Int32) : ∃ w M1 T2, f_X10_init (nO M 11) X a = some M1 ∧ mS M1 = X + 226 ∧ f_X11_init (nO M1 12) (X + 226) a = some (ov M X T2) ∧ Inv (ov M X T2) X 0 0 w (fun _ => X + 270) ∧ mS (ov M X T2) = X + 270 := by
  obtain ⟨v, hv, g1, g2⟩ := both8 a
  obtain ⟨T1, T2, r1, r2, r3, r4⟩ := runI_ex (v := v) (runI_ck hv)
  have q1 : f_X10_init (nO M 11) X (nI v) = some (ov M X T1) := by
    have q := X10_ov (M := M) (T := nO T00 11) (T' := nO M 11) (X := X) (a := 0) (a' := X) (x := nI v) ((congrArg (fun m => nO m 11) h0).trans nO_ov) rfl
    rw [r1] at q
    exact q
  have q2 : f_X11_init (nO (ov M X T1) 12) (X + 226) (nI v) = some (ov M X T2) := by
    have q := X11_ov (M := M) (T := nO T1 12) (T' := nO (ov M X T1) 12) (X := X) (a := 226) (a' := X + 226) (x := nI v) nO_ov rfl
    rw [r3] at q
    exact q
  have I := Inv_ck (V := ov M X T2) (T := T2) (X := X) (w := v + 1) (fun a => ovK) (fun a => ovN) (fun k a => ovI) (fun k a => ovR) (fun a => ovA) (fun a => ovB) (fun a i => ovQ) rfl ⟨by omega, by omega⟩ r4
  have e2 : mS T2 = 270 := by
    obtain ⟨h1, h⟩ := and_of r4
    obtain ⟨_, h1⟩ := and_of h1
    obtain ⟨_, h1⟩ := and_of h1
    obtain ⟨_, h1⟩ := and_of h1
    obtain ⟨_, h1⟩ := and_of h1
    exact of_decide_eq_true h1
  refine ⟨v + 1, ov M X T1, T2, (X10_v hv g1).trans q1, ?_, (X11_v hv g2).trans q2, I, ?_⟩
  · show X + mS T1 = X + 226
    rw [r2]
  · show X + mS T2 = X + 270
    rw [e2]
