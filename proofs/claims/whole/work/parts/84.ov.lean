/-! A memory T laid behind X over M: what is below X is M's, what is from X on is T's, its addresses moved by X. -/
def ov (M : Mm) (X : Nat) (T : Mm) : Mm := ((fun x => if x < X then mK M x else mK T (x - X)), (fun x => if x < X then mN M x else mN T (x - X)), (fun k x => if x < X then mI M k x else mI T k (x - X)), (fun k x => if x < X then mJ M k x else mJ T k (x - X)), (fun k x => if x < X then mR M k x else (mR T k (x - X)).map (fun y => X + y)), (fun x => if x < X then mA M x else mA T (x - X)), (fun x => if x < X then mB M x else mB T (x - X)), (fun x => if x < X then mQ M x else fun i => (mQ T (x - X) i).map (fun y => X + y)), X + mS T)
theorem ov_ge {α : Type} {X a : Nat} {u v : α} : (if X + a < X then u else v) = v := if_neg (by omega)
theorem ovK {M T : Mm} {X a : Nat} : mK (ov M X T) (X + a) = mK T a := by
  show (if X + a < X then mK M (X + a) else mK T (X + a - X)) = _
  rw [ov_ge, Nat.add_sub_cancel_left]
theorem ovN {M T : Mm} {X a : Nat} : mN (ov M X T) (X + a) = mN T a := by
  show (if X + a < X then mN M (X + a) else mN T (X + a - X)) = _
  rw [ov_ge, Nat.add_sub_cancel_left]
theorem ovI {M T : Mm} {X k a : Nat} : mI (ov M X T) k (X + a) = mI T k a := by
  show (if X + a < X then mI M k (X + a) else mI T k (X + a - X)) = _
  rw [ov_ge, Nat.add_sub_cancel_left]
theorem ovR {M T : Mm} {X k a : Nat} : mR (ov M X T) k (X + a) = (mR T k a).map (fun y => X + y) := by
  show (if X + a < X then mR M k (X + a) else (mR T k (X + a - X)).map (fun y => X + y)) = _
  rw [ov_ge, Nat.add_sub_cancel_left]
theorem ovA {M T : Mm} {X a : Nat} : mA (ov M X T) (X + a) = mA T a := by
  show (if X + a < X then mA M (X + a) else mA T (X + a - X)) = _
  rw [ov_ge, Nat.add_sub_cancel_left]
theorem ovB {M T : Mm} {X a : Nat} : mB (ov M X T) (X + a) = mB T a := by
  show (if X + a < X then mB M (X + a) else mB T (X + a - X)) = _
  rw [ov_ge, Nat.add_sub_cancel_left]
theorem ovQ {M T : Mm} {X a i : Nat} : mQ (ov M X T) (X + a) i = (mQ T a i).map (fun y => X + y) := by
  show (if X + a < X then mQ M (X + a) else fun i => (mQ T (X + a - X) i).map (fun y => X + y)) i = _
  rw [ov_ge, Nat.add_sub_cancel_left]
theorem Mm_ext {A B : Mm} (h1 : mK A = mK B) (h2 : mN A = mN B) (h3 : mI A = mI B) (h4 : mJ A = mJ B) (h5 : mR A = mR B) (h6 : mA A = mA B) (h7 : mB A = mB B) (h8 : mQ A = mQ B) (h9 : mS A = mS B) : A = B := by
  obtain ⟨a1, a2, a3, a4, a5, a6, a7, a8, a9⟩ := A
  obtain ⟨b1, b2, b3, b4, b5, b6, b7, b8, b9⟩ := B
  cases (show a1 = b1 from h1)
  cases (show a2 = b2 from h2)
  cases (show a3 = b3 from h3)
  cases (show a4 = b4 from h4)
  cases (show a5 = b5 from h5)
  cases (show a6 = b6 from h6)
  cases (show a7 = b7 from h7)
  cases (show a8 = b8 from h8)
  cases (show a9 = b9 from h9)
  rfl
theorem vup_ov {α β : Type} (h : α → β) (f : Nat → β) (g : Nat → α) (X a : Nat) (v : α) : va_up (fun x => if x < X then f x else h (g (x - X))) (X + a) (h v) = fun x => if x < X then f x else h (va_up g a v (x - X)) := by
  funext x
  show (if x = X + a then h v else (if x < X then f x else h (g (x - X)))) = (if x < X then f x else h (if x - X = a then v else g (x - X)))
  by_cases hx : x < X
  · rw [if_pos hx, if_pos hx, if_neg (show ¬ x = X + a by omega)]
  · rw [if_neg hx, if_neg hx]
    by_cases hy : x = X + a
    · rw [if_pos hy, if_pos (show x - X = a by omega)]
    · rw [if_neg hy, if_neg (show ¬ x - X = a by omega)]
theorem up2_ov {α β : Type} (h : α → β) (f : Nat → Nat → β) (g : Nat → Nat → α) (X n a : Nat) (v : α) : up2 (fun k x => if x < X then f k x else h (g k (x - X))) n (X + a) (h v) = fun k x => if x < X then f k x else h (up2 g n a v k (x - X)) := by
  funext k x
  show (if k = n then (if x = X + a then h v else (if x < X then f k x else h (g k (x - X)))) else (if x < X then f k x else h (g k (x - X)))) = (if x < X then f k x else h (if k = n then (if x - X = a then v else g k (x - X)) else g k (x - X)))
  by_cases hk : k = n
  · rw [if_pos hk, if_pos hk]
    by_cases hx : x < X
    · rw [if_pos hx, if_pos hx, if_neg (show ¬ x = X + a by omega)]
    · rw [if_neg hx, if_neg hx]
      by_cases hy : x = X + a
      · rw [if_pos hy, if_pos (show x - X = a by omega)]
      · rw [if_neg hy, if_neg (show ¬ x - X = a by omega)]
  · rw [if_neg hk, if_neg hk]
theorem z2_ov {α β : Type} (h : α → β) (f : Nat → Nat → β) (g : Nat → Nat → α) (X a : Nat) (v : α) : (fun k x => if x = X + a then h v else (if x < X then f k x else h (g k (x - X)))) = fun k x => if x < X then f k x else h (if x - X = a then v else g k (x - X)) := by
  funext k x
  by_cases hx : x < X
  · rw [if_pos hx, if_pos hx, if_neg (show ¬ x = X + a by omega)]
  · rw [if_neg hx, if_neg hx]
    by_cases hy : x = X + a
    · rw [if_pos hy, if_pos (show x - X = a by omega)]
    · rw [if_neg hy, if_neg (show ¬ x - X = a by omega)]
theorem nO_ov {M T : Mm} {X kd : Nat} : nO (ov M X T) kd = ov M X (nO T kd) :=
  Mm_ext (vup_ov (fun y => y) (mK M) (mK T) X (mS T) kd) rfl (z2_ov (fun y => y) (mI M) (mI T) X (mS T) 0) (z2_ov (fun y => y) (mJ M) (mJ T) X (mS T) 0) (z2_ov (fun y : Option Nat => y.map (fun y => X + y)) (mR M) (mR T) X (mS T) none) rfl rfl rfl rfl
theorem nA_ov {M T : Mm} {X kd n : Nat} : nA (ov M X T) kd n = ov M X (nA T kd n) :=
  Mm_ext (vup_ov (fun y => y) (mK M) (mK T) X (mS T) kd) (vup_ov (fun y => y) (mN M) (mN T) X (mS T) n) rfl rfl rfl (vup_ov (fun y => y) (mA M) (mA T) X (mS T) (fun _ => 0)) (vup_ov (fun y => y) (mB M) (mB T) X (mS T) (fun _ => 0)) (vup_ov (fun (y : Nat → Option Nat) => fun i => (y i).map (fun y => X + y)) (mQ M) (mQ T) X (mS T) (fun _ => none)) rfl
theorem sI_ov {M T : Mm} {X k a : Nat} {v : Int32} : sI (ov M X T) k (X + a) v = ov M X (sI T k a v) :=
  Mm_ext rfl rfl (up2_ov (fun y => y) (mI M) (mI T) X k a v) rfl rfl rfl rfl rfl rfl
theorem sR_ov {M T : Mm} {X k a b : Nat} : sR (ov M X T) k (X + a) (some (X + b)) = ov M X (sR T k a (some b)) :=
  Mm_ext rfl rfl rfl rfl (up2_ov (fun y : Option Nat => y.map (fun y => X + y)) (mR M) (mR T) X k a (some b)) rfl rfl rfl rfl
theorem sA_ov {M T : Mm} {X a : Nat} {g : Nat → Int32} : sA (ov M X T) (X + a) g = ov M X (sA T a g) :=
  Mm_ext rfl rfl rfl rfl rfl (vup_ov (fun y => y) (mA M) (mA T) X a g) rfl rfl rfl
theorem sQ_ov {M T : Mm} {X a i v : Nat} : sQ (ov M X T) (X + a) (va_up (mQ (ov M X T) (X + a)) i (some (X + v))) = ov M X (sQ T a (va_up (mQ T a) i (some v))) := by
  have e : va_up (mQ (ov M X T) (X + a)) i (some (X + v)) = fun j => (va_up (mQ T a) i (some v) j).map (fun y => X + y) := by
    funext j
    show (if j = i then some (X + v) else mQ (ov M X T) (X + a) j) = Option.map _ (if j = i then some v else mQ T a j)
    by_cases hj : j = i
    · rw [if_pos hj, if_pos hj]; rfl
    · rw [if_neg hj, if_neg hj, ovQ]
  rw [e]
  exact Mm_ext rfl rfl rfl rfl rfl rfl rfl (vup_ov (fun (y : Nat → Option Nat) => fun i => (y i).map (fun y => X + y)) (mQ M) (mQ T) X a (va_up (mQ T a) i (some v))) rfl
theorem rel_bind {α β γ δ : Type} {x' : Option β} {x : Option α} {g : α → β} {f' : β → Option δ} {f : α → Option γ} {h : γ → δ} (hx : x' = x.map g) (hf : ∀ v, f' (g v) = (f v).map h) : x'.bind f' = (x.bind f).map h := by
  subst hx
  cases x with
  | none => rfl
  | some v => exact hf v
theorem rel_if {α β : Type} {c c' : Prop} [Decidable c] [Decidable c'] {A' B' : Option β} {A B : Option α} {h : α → β} (hc : c' ↔ c) (hA : A' = A.map h) (hB : B' = B.map h) : (if c' then A' else B') = (if c then A else B).map h := by
  by_cases e : c
  · rw [if_pos e, if_pos (hc.mpr e), hA]
  · rw [if_neg e, if_neg (fun q => e (hc.mp q)), hB]
theorem ovKc {M T : Mm} {X a a' kd : Nat} (ha : a' = X + a) : mK (ov M X T) a' = kd ↔ mK T a = kd := by rw [ha, ovK]
theorem ovV {M T : Mm} {X a : Nat} {i : Int32} : (vin i (mN (ov M X T) (X + a)) = true) ↔ (vin i (mN T a) = true) := by rw [ovN]
theorem gR_ov {M T : Mm} {X kd num a a' : Nat} (ha : a' = X + a) : gR (ov M X T) kd num a' = (gR T kd num a).map (fun y => X + y) := by
  subst ha
  exact rel_if (ovKc rfl) ovR rfl
theorem pR_ov {M T : Mm} {X kd num a a' b b' : Nat} (ha : a' = X + a) (hb : b' = X + b) : pR (ov M X T) kd num a' (some b') = (pR T kd num a (some b)).map (ov M X) := by
  subst ha; subst hb
  exact rel_if (ovKc rfl) (congrArg some sR_ov) rfl
theorem pI_ov {M T : Mm} {X kd num a a' : Nat} {v : Int32} (ha : a' = X + a) : pI (ov M X T) kd num a' v = (pI T kd num a v).map (ov M X) := by
  subst ha
  exact rel_if (ovKc rfl) (congrArg some sI_ov) rfl
theorem pZ_ov {M T : Mm} {X kd num a a' : Nat} {v : Int32} (ha : a' = X + a) : pZ (ov M X T) kd num a' v = (pZ T kd num a v).map (ov M X) := by
  subst ha
  exact rel_if (ovKc rfl) (rel_if Iff.rfl (congrArg some sI_ov) rfl) rfl
theorem mA0_ov {M T : Mm} {X kd B : Nat} {n : Int32} : mA0 (ov M X T) kd B n = (mA0 T kd B n).map (ov M X) :=
  rel_if Iff.rfl (rel_if Iff.rfl (congrArg some nA_ov) rfl) rfl
theorem wR_ov {M T : Mm} {X kd ke a a' v v' : Nat} {i : Int32} (ha : a' = X + a) (hv : v' = X + v) : wR (ov M X T) kd ke a' i v' = (wR T kd ke a i v).map (ov M X) := by
  subst ha; subst hv
  exact rel_if (ovKc rfl) (rel_if ovV (rel_if (ovKc rfl) (congrArg some sQ_ov) rfl) rfl) rfl
theorem wI_ov {M T : Mm} {X a a' : Nat} {i v : Int32} (ha : a' = X + a) : wI (ov M X T) a' i v = (wI T a i v).map (ov M X) := by
  subst ha
  refine rel_if (ovKc rfl) (rel_if ovV ?_ rfl) rfl
  rw [ovA]
  exact congrArg some sA_ov
theorem wZ_ov {M T : Mm} {X a a' : Nat} {i v : Int32} (ha : a' = X + a) : wZ (ov M X T) a' i v = (wZ T a i v).map (ov M X) := by
  subst ha
  refine rel_if (ovKc rfl) (rel_if ovV ?_ rfl) rfl
  rw [ovA]
  exact congrArg some sA_ov
theorem mid {α : Type} (x : Option α) : x = x.map (fun v => v) := by cases x <;> rfl
theorem aL_ov {M T : Mm} {X a a' : Nat} (ha : a' = X + a) : aL (ov M X T) a' = (aL T a).map (fun v => v) := by
  subst ha
  rw [← mid]
  unfold aL
  rw [ovK, ovN]
theorem fillL_ov {M : Mm} {X : Nat} : ∀ (fu : Nat) (T : Mm) (a a' : Nat) (x y z : Int32), a' = X + a → f_J7_fill_53178_L5 fu (ov M X T) a' x y z = (f_J7_fill_53178_L5 fu T a x y z).map (ov M X) := by
  intro fu
  induction fu with
  | zero => intro T a a' x y z h; rfl
  | succ fu ih =>
    intro T a a' x y z h
    exact rel_if Iff.rfl rfl (rel_bind (wI_ov h) (fun v => ih v a a' x (y + 1) z h))
theorem fill_ov {M T : Mm} {X a a' : Nat} {x : Int32} (ha : a' = X + a) : f_J7_fill_53178 (ov M X T) a' x = (f_J7_fill_53178 T a x).map (ov M X) := by
  unfold f_J7_fill_53178
  exact rel_bind (aL_ov ha) (fun v => fillL_ov _ _ _ _ _ _ _ ha)
theorem L410_ov {M : Mm} {X : Nat} : ∀ (fu : Nat) (T : Mm) (a a' : Nat) (x : Int32), a' = X + a → f_X11_init_L410 fu (ov M X T) a' x = (f_X11_init_L410 fu T a x).map (ov M X) := by
  intro fu
  induction fu with
  | zero => intro T a a' x h; rfl
  | succ fu ih =>
    intro T a a' x h
    exact rel_if Iff.rfl rfl (rel_bind (gR_ov h) (fun v => rel_bind (wZ_ov rfl) (fun w => ih w a a' (x + 1) h)))
theorem L382_ov {M : Mm} {X : Nat} : ∀ (fu : Nat) (T : Mm) (a a' : Nat) (x : Int32), a' = X + a → f_X11_init_L382 fu (ov M X T) a' x = (f_X11_init_L382 fu T a x).map (ov M X) := by
  intro fu
  induction fu with
  | zero => intro T a a' x h; rfl
  | succ fu ih =>
    intro T a a' x h
    exact rel_if Iff.rfl (L410_ov _ _ _ _ _ h) (rel_bind (gR_ov h) (fun v => rel_bind (wI_ov rfl) (fun w => rel_bind (gR_ov h) (fun v => rel_bind (wI_ov rfl) (fun w => ih w a a' (x + 1) h)))))
theorem X3_ov {M T T' : Mm} {X a a' : Nat} (hT : T' = ov M X T) (ha : a' = X + a) : f_X3_init T' a' = (f_X3_init T a).map (ov M X) := by
  subst hT
  unfold f_X3_init
  refine rel_if (ovKc ha) ?_ rfl
  refine rel_bind mA0_ov (fun _ => ?_)
  refine rel_bind (pR_ov ha rfl) (fun _ => ?_)
  rfl
theorem X0_ov {M T T' : Mm} {X a a' : Nat} (hT : T' = ov M X T) (ha : a' = X + a) : f_X0_init T' a' = (f_X0_init T a).map (ov M X) := by
  subst hT
  unfold f_X0_init
  refine rel_if (ovKc ha) ?_ rfl
  refine rel_bind (X3_ov nO_ov rfl) (fun _ => ?_)
  refine rel_bind (pR_ov ha rfl) (fun _ => ?_)
  refine rel_bind mA0_ov (fun _ => ?_)
  refine rel_bind (pR_ov ha rfl) (fun _ => ?_)
  refine rel_bind mA0_ov (fun _ => ?_)
  refine rel_bind (pR_ov ha rfl) (fun _ => ?_)
  refine rel_bind mA0_ov (fun _ => ?_)
  refine rel_bind (pR_ov ha rfl) (fun _ => ?_)
  refine rel_bind mA0_ov (fun _ => ?_)
  refine rel_bind (pR_ov ha rfl) (fun _ => ?_)
  refine rel_bind mA0_ov (fun _ => ?_)
  refine rel_bind (pR_ov ha rfl) (fun _ => ?_)
  rfl
theorem X1_ov {M T T' : Mm} {X a a' : Nat} (hT : T' = ov M X T) (ha : a' = X + a) : f_X1_init T' a' = (f_X1_init T a).map (ov M X) := by
  subst hT
  unfold f_X1_init
  refine rel_if (ovKc ha) ?_ rfl
  refine rel_bind (X3_ov nO_ov rfl) (fun _ => ?_)
  refine rel_bind (pR_ov ha rfl) (fun _ => ?_)
  refine rel_bind mA0_ov (fun _ => ?_)
  refine rel_bind (pR_ov ha rfl) (fun _ => ?_)
  rfl
theorem X2_ov {M T T' : Mm} {X a a' : Nat} (hT : T' = ov M X T) (ha : a' = X + a) : f_X2_init T' a' = (f_X2_init T a).map (ov M X) := by
  subst hT
  unfold f_X2_init
  refine rel_if (ovKc ha) ?_ rfl
  refine rel_bind (X3_ov nO_ov rfl) (fun _ => ?_)
  refine rel_bind (pR_ov ha rfl) (fun _ => ?_)
  refine rel_bind mA0_ov (fun _ => ?_)
  refine rel_bind (pR_ov ha rfl) (fun _ => ?_)
  rfl
theorem X5_ov {M T T' : Mm} {X a a' : Nat} (hT : T' = ov M X T) (ha : a' = X + a) : f_X5_init T' a' = (f_X5_init T a).map (ov M X) := by
  subst hT
  unfold f_X5_init
  refine rel_if (ovKc ha) ?_ rfl
  refine rel_bind mA0_ov (fun _ => ?_)
  refine rel_bind (pR_ov ha rfl) (fun _ => ?_)
  rfl
theorem X6_ov {M T T' : Mm} {X a a' : Nat} (hT : T' = ov M X T) (ha : a' = X + a) : f_X6_init T' a' = (f_X6_init T a).map (ov M X) := by
  subst hT
  unfold f_X6_init
  refine rel_if (ovKc ha) ?_ rfl
  refine rel_bind mA0_ov (fun _ => ?_)
  refine rel_bind (pR_ov ha rfl) (fun _ => ?_)
  refine rel_bind mA0_ov (fun _ => ?_)
  refine rel_bind (pR_ov ha rfl) (fun _ => ?_)
  refine rel_bind mA0_ov (fun _ => ?_)
  refine rel_bind (pR_ov ha rfl) (fun _ => ?_)
  refine rel_bind mA0_ov (fun _ => ?_)
  refine rel_bind (pR_ov ha rfl) (fun _ => ?_)
  rfl
theorem X8_ov {M T T' : Mm} {X a a' : Nat} (hT : T' = ov M X T) (ha : a' = X + a) : f_X8_init T' a' = (f_X8_init T a).map (ov M X) := by
  subst hT
  unfold f_X8_init
  refine rel_if (ovKc ha) ?_ rfl
  refine rel_bind mA0_ov (fun _ => ?_)
  refine rel_bind (pR_ov ha rfl) (fun _ => ?_)
  rfl
theorem X9_ov {M T T' : Mm} {X a a' : Nat} (hT : T' = ov M X T) (ha : a' = X + a) : f_X9_init T' a' = (f_X9_init T a).map (ov M X) := by
  subst hT
  unfold f_X9_init
  refine rel_if (ovKc ha) ?_ rfl
  refine rel_bind mA0_ov (fun _ => ?_)
  refine rel_bind (pR_ov ha rfl) (fun _ => ?_)
  refine rel_bind (pZ_ov ha) (fun _ => ?_)
  refine rel_bind mA0_ov (fun _ => ?_)
  refine rel_bind (pR_ov ha rfl) (fun _ => ?_)
  refine rel_bind (gR_ov ha) (fun _ => ?_)
  refine rel_bind (fill_ov rfl) (fun _ => ?_)
  refine rel_bind (gR_ov ha) (fun _ => ?_)
  refine rel_bind (X3_ov nO_ov rfl) (fun _ => ?_)
  refine rel_bind (wR_ov rfl rfl) (fun _ => ?_)
  refine rel_bind (gR_ov ha) (fun _ => ?_)
  refine rel_bind (X3_ov nO_ov rfl) (fun _ => ?_)
  refine rel_bind (wR_ov rfl rfl) (fun _ => ?_)
  refine rel_bind (gR_ov ha) (fun _ => ?_)
  refine rel_bind (X3_ov nO_ov rfl) (fun _ => ?_)
  refine rel_bind (wR_ov rfl rfl) (fun _ => ?_)
  refine rel_bind (gR_ov ha) (fun _ => ?_)
  refine rel_bind (X3_ov nO_ov rfl) (fun _ => ?_)
  refine rel_bind (wR_ov rfl rfl) (fun _ => ?_)
  refine rel_bind (gR_ov ha) (fun _ => ?_)
  refine rel_bind (X3_ov nO_ov rfl) (fun _ => ?_)
  refine rel_bind (wR_ov rfl rfl) (fun _ => ?_)
  refine rel_bind (gR_ov ha) (fun _ => ?_)
  refine rel_bind (X3_ov nO_ov rfl) (fun _ => ?_)
  refine rel_bind (wR_ov rfl rfl) (fun _ => ?_)
  refine rel_bind (gR_ov ha) (fun _ => ?_)
  refine rel_bind (X3_ov nO_ov rfl) (fun _ => ?_)
  refine rel_bind (wR_ov rfl rfl) (fun _ => ?_)
  refine rel_bind (gR_ov ha) (fun _ => ?_)
  refine rel_bind (X3_ov nO_ov rfl) (fun _ => ?_)
  refine rel_bind (wR_ov rfl rfl) (fun _ => ?_)
  rfl
theorem X10_ov {M T T' : Mm} {X a a' : Nat} {x : Int32} (hT : T' = ov M X T) (ha : a' = X + a) : f_X10_init T' a' x = (f_X10_init T a x).map (ov M X) := by
  subst hT
  unfold f_X10_init
  refine rel_if (ovKc ha) ?_ rfl
  refine rel_bind (mid _) (fun _ => ?_)
  refine rel_bind (pI_ov ha) (fun _ => ?_)
  refine rel_bind (X6_ov nO_ov rfl) (fun _ => ?_)
  refine rel_bind (pR_ov ha rfl) (fun _ => ?_)
  refine rel_bind (X3_ov nO_ov rfl) (fun _ => ?_)
  refine rel_bind (pR_ov ha rfl) (fun _ => ?_)
  refine rel_bind mA0_ov (fun _ => ?_)
  refine rel_bind (pR_ov ha rfl) (fun _ => ?_)
  refine rel_bind mA0_ov (fun _ => ?_)
  refine rel_bind (pR_ov ha rfl) (fun _ => ?_)
  refine rel_bind (gR_ov ha) (fun _ => ?_)
  refine rel_bind (X9_ov nO_ov rfl) (fun _ => ?_)
  refine rel_bind (wR_ov rfl rfl) (fun _ => ?_)
  refine rel_bind (gR_ov ha) (fun _ => ?_)
  refine rel_bind (X1_ov nO_ov rfl) (fun _ => ?_)
  refine rel_bind (wR_ov rfl rfl) (fun _ => ?_)
  refine rel_bind (gR_ov ha) (fun _ => ?_)
  refine rel_bind (X9_ov nO_ov rfl) (fun _ => ?_)
  refine rel_bind (wR_ov rfl rfl) (fun _ => ?_)
  refine rel_bind (gR_ov ha) (fun _ => ?_)
  refine rel_bind (X1_ov nO_ov rfl) (fun _ => ?_)
  refine rel_bind (wR_ov rfl rfl) (fun _ => ?_)
  refine rel_bind (gR_ov ha) (fun _ => ?_)
  refine rel_bind (X9_ov nO_ov rfl) (fun _ => ?_)
  refine rel_bind (wR_ov rfl rfl) (fun _ => ?_)
  refine rel_bind (gR_ov ha) (fun _ => ?_)
  refine rel_bind (X1_ov nO_ov rfl) (fun _ => ?_)
  refine rel_bind (wR_ov rfl rfl) (fun _ => ?_)
  refine rel_bind (gR_ov ha) (fun _ => ?_)
  refine rel_bind (X9_ov nO_ov rfl) (fun _ => ?_)
  refine rel_bind (wR_ov rfl rfl) (fun _ => ?_)
  refine rel_bind (gR_ov ha) (fun _ => ?_)
  refine rel_bind (X1_ov nO_ov rfl) (fun _ => ?_)
  refine rel_bind (wR_ov rfl rfl) (fun _ => ?_)
  refine rel_bind (gR_ov ha) (fun _ => ?_)
  refine rel_bind (X9_ov nO_ov rfl) (fun _ => ?_)
  refine rel_bind (wR_ov rfl rfl) (fun _ => ?_)
  refine rel_bind (gR_ov ha) (fun _ => ?_)
  refine rel_bind (X1_ov nO_ov rfl) (fun _ => ?_)
  refine rel_bind (wR_ov rfl rfl) (fun _ => ?_)
  refine rel_bind (gR_ov ha) (fun _ => ?_)
  refine rel_bind (X9_ov nO_ov rfl) (fun _ => ?_)
  refine rel_bind (wR_ov rfl rfl) (fun _ => ?_)
  refine rel_bind (gR_ov ha) (fun _ => ?_)
  refine rel_bind (X1_ov nO_ov rfl) (fun _ => ?_)
  refine rel_bind (wR_ov rfl rfl) (fun _ => ?_)
  refine rel_bind (gR_ov ha) (fun _ => ?_)
  refine rel_bind (X9_ov nO_ov rfl) (fun _ => ?_)
  refine rel_bind (wR_ov rfl rfl) (fun _ => ?_)
  refine rel_bind (gR_ov ha) (fun _ => ?_)
  refine rel_bind (X1_ov nO_ov rfl) (fun _ => ?_)
  refine rel_bind (wR_ov rfl rfl) (fun _ => ?_)
  refine rel_bind (gR_ov ha) (fun _ => ?_)
  refine rel_bind (X9_ov nO_ov rfl) (fun _ => ?_)
  refine rel_bind (wR_ov rfl rfl) (fun _ => ?_)
  refine rel_bind (gR_ov ha) (fun _ => ?_)
  refine rel_bind (X1_ov nO_ov rfl) (fun _ => ?_)
  refine rel_bind (wR_ov rfl rfl) (fun _ => ?_)
  refine rel_bind mA0_ov (fun _ => ?_)
  refine rel_bind (pR_ov ha rfl) (fun _ => ?_)
  refine rel_bind mA0_ov (fun _ => ?_)
  refine rel_bind (pR_ov ha rfl) (fun _ => ?_)
  refine rel_bind (gR_ov ha) (fun _ => ?_)
  refine rel_bind (X8_ov nO_ov rfl) (fun _ => ?_)
  refine rel_bind (wR_ov rfl rfl) (fun _ => ?_)
  refine rel_bind (gR_ov ha) (fun _ => ?_)
  refine rel_bind (X8_ov nO_ov rfl) (fun _ => ?_)
  refine rel_bind (wR_ov rfl rfl) (fun _ => ?_)
  refine rel_bind (gR_ov ha) (fun _ => ?_)
  refine rel_bind (X8_ov nO_ov rfl) (fun _ => ?_)
  refine rel_bind (wR_ov rfl rfl) (fun _ => ?_)
  refine rel_bind (gR_ov ha) (fun _ => ?_)
  refine rel_bind (X8_ov nO_ov rfl) (fun _ => ?_)
  refine rel_bind (wR_ov rfl rfl) (fun _ => ?_)
  refine rel_bind (gR_ov ha) (fun _ => ?_)
  refine rel_bind (X8_ov nO_ov rfl) (fun _ => ?_)
  refine rel_bind (wR_ov rfl rfl) (fun _ => ?_)
  refine rel_bind (gR_ov ha) (fun _ => ?_)
  refine rel_bind (X8_ov nO_ov rfl) (fun _ => ?_)
  refine rel_bind (wR_ov rfl rfl) (fun _ => ?_)
  refine rel_bind (gR_ov ha) (fun _ => ?_)
  refine rel_bind (X8_ov nO_ov rfl) (fun _ => ?_)
  refine rel_bind (wR_ov rfl rfl) (fun _ => ?_)
  refine rel_bind (gR_ov ha) (fun _ => ?_)
  refine rel_bind (X8_ov nO_ov rfl) (fun _ => ?_)
  refine rel_bind (wR_ov rfl rfl) (fun _ => ?_)
  refine rel_bind (X5_ov nO_ov rfl) (fun _ => ?_)
  refine rel_bind (pR_ov ha rfl) (fun _ => ?_)
  refine rel_bind (X0_ov nO_ov rfl) (fun _ => ?_)
  refine rel_bind (pR_ov ha rfl) (fun _ => ?_)
  refine rel_bind (X2_ov nO_ov rfl) (fun _ => ?_)
  refine rel_bind (pR_ov ha rfl) (fun _ => ?_)
  rfl
theorem X11_ov {M T T' : Mm} {X a a' : Nat} {x : Int32} (hT : T' = ov M X T) (ha : a' = X + a) : f_X11_init T' a' x = (f_X11_init T a x).map (ov M X) := by
  subst hT
  unfold f_X11_init
  refine rel_if (ovKc ha) ?_ rfl
  refine rel_bind mA0_ov (fun _ => ?_)
  refine rel_bind (pR_ov ha rfl) (fun _ => ?_)
  refine rel_bind mA0_ov (fun _ => ?_)
  refine rel_bind (pR_ov ha rfl) (fun _ => ?_)
  refine rel_bind mA0_ov (fun _ => ?_)
  refine rel_bind (pR_ov ha rfl) (fun _ => ?_)
  refine rel_bind mA0_ov (fun _ => ?_)
  refine rel_bind (pR_ov ha rfl) (fun _ => ?_)
  refine rel_bind mA0_ov (fun _ => ?_)
  refine rel_bind (pR_ov ha rfl) (fun _ => ?_)
  refine rel_bind mA0_ov (fun _ => ?_)
  refine rel_bind (pR_ov ha rfl) (fun _ => ?_)
  refine rel_bind mA0_ov (fun _ => ?_)
  refine rel_bind (pR_ov ha rfl) (fun _ => ?_)
  refine rel_bind mA0_ov (fun _ => ?_)
  refine rel_bind (pR_ov ha rfl) (fun _ => ?_)
  refine rel_bind mA0_ov (fun _ => ?_)
  refine rel_bind (pR_ov ha rfl) (fun _ => ?_)
  refine rel_bind mA0_ov (fun _ => ?_)
  refine rel_bind (pR_ov ha rfl) (fun _ => ?_)
  refine rel_bind mA0_ov (fun _ => ?_)
  refine rel_bind (pR_ov ha rfl) (fun _ => ?_)
  refine rel_bind mA0_ov (fun _ => ?_)
  refine rel_bind (pR_ov ha rfl) (fun _ => ?_)
  refine rel_bind mA0_ov (fun _ => ?_)
  refine rel_bind (pR_ov ha rfl) (fun _ => ?_)
  refine rel_bind mA0_ov (fun _ => ?_)
  refine rel_bind (pR_ov ha rfl) (fun _ => ?_)
  refine rel_bind mA0_ov (fun _ => ?_)
  refine rel_bind (pR_ov ha rfl) (fun _ => ?_)
  refine rel_bind mA0_ov (fun _ => ?_)
  refine rel_bind (pR_ov ha rfl) (fun _ => ?_)
  refine rel_bind mA0_ov (fun _ => ?_)
  refine rel_bind (pR_ov ha rfl) (fun _ => ?_)
  refine rel_bind mA0_ov (fun _ => ?_)
  refine rel_bind (pR_ov ha rfl) (fun _ => ?_)
  refine rel_bind mA0_ov (fun _ => ?_)
  refine rel_bind (pR_ov ha rfl) (fun _ => ?_)
  refine rel_bind mA0_ov (fun _ => ?_)
  refine rel_bind (pR_ov ha rfl) (fun _ => ?_)
  refine rel_bind mA0_ov (fun _ => ?_)
  refine rel_bind (pR_ov ha rfl) (fun _ => ?_)
  refine rel_bind mA0_ov (fun _ => ?_)
  refine rel_bind (pR_ov ha rfl) (fun _ => ?_)
  refine rel_bind mA0_ov (fun _ => ?_)
  refine rel_bind (pR_ov ha rfl) (fun _ => ?_)
  refine rel_bind mA0_ov (fun _ => ?_)
  refine rel_bind (pR_ov ha rfl) (fun _ => ?_)
  refine rel_bind mA0_ov (fun _ => ?_)
  refine rel_bind (pR_ov ha rfl) (fun _ => ?_)
  refine rel_bind mA0_ov (fun _ => ?_)
  refine rel_bind (pR_ov ha rfl) (fun _ => ?_)
  refine rel_bind mA0_ov (fun _ => ?_)
  refine rel_bind (pR_ov ha rfl) (fun _ => ?_)
  refine rel_bind mA0_ov (fun _ => ?_)
  refine rel_bind (pR_ov ha rfl) (fun _ => ?_)
  refine rel_bind mA0_ov (fun _ => ?_)
  refine rel_bind (pR_ov ha rfl) (fun _ => ?_)
  refine rel_bind mA0_ov (fun _ => ?_)
  refine rel_bind (pR_ov ha rfl) (fun _ => ?_)
  refine rel_bind mA0_ov (fun _ => ?_)
  refine rel_bind (pR_ov ha rfl) (fun _ => ?_)
  refine rel_bind mA0_ov (fun _ => ?_)
  refine rel_bind (pR_ov ha rfl) (fun _ => ?_)
  refine rel_bind mA0_ov (fun _ => ?_)
  refine rel_bind (pR_ov ha rfl) (fun _ => ?_)
  refine rel_bind mA0_ov (fun _ => ?_)
  refine rel_bind (pR_ov ha rfl) (fun _ => ?_)
  refine rel_bind mA0_ov (fun _ => ?_)
  refine rel_bind (pR_ov ha rfl) (fun _ => ?_)
  refine rel_bind mA0_ov (fun _ => ?_)
  refine rel_bind (pR_ov ha rfl) (fun _ => ?_)
  refine rel_bind mA0_ov (fun _ => ?_)
  refine rel_bind (pR_ov ha rfl) (fun _ => ?_)
  refine rel_bind mA0_ov (fun _ => ?_)
  refine rel_bind (pR_ov ha rfl) (fun _ => ?_)
  refine rel_bind mA0_ov (fun _ => ?_)
  refine rel_bind (pR_ov ha rfl) (fun _ => ?_)
  refine rel_bind mA0_ov (fun _ => ?_)
  refine rel_bind (pR_ov ha rfl) (fun _ => ?_)
  refine rel_bind mA0_ov (fun _ => ?_)
  refine rel_bind (pR_ov ha rfl) (fun _ => ?_)
  refine rel_bind mA0_ov (fun _ => ?_)
  refine rel_bind (pR_ov ha rfl) (fun _ => ?_)
  refine rel_bind mA0_ov (fun _ => ?_)
  refine rel_bind (pR_ov ha rfl) (fun _ => ?_)
  refine rel_bind (pI_ov ha) (fun _ => ?_)
  exact L382_ov _ _ _ _ _ ha
