/-! What the machine's heap is, of a memory; and the rows: an instruction, a step of the pure value. -/
def tyTab : List (List Nat) := [[2, 2, 2, 2, 2, 0, 0, 0, 0, 2, 0, 0], [2, 2, 0, 0], [2, 2, 0, 0, 0], [2, 0], [0, 0, 0, 2, 0, 0, 0, 0, 2], [2, 0], [2, 2, 2, 2, 0], [2, 2, 0, 0], [2, 0, 0, 0, 0], [2, 0, 0, 0, 0, 2, 0], [0, 2, 2, 2, 2, 2, 2, 2, 2, 2, 0, 0], [0, 0, 2, 2, 2, 2, 0, 0, 2, 2, 2, 2, 2, 2, 2, 2, 0, 2, 2, 2, 2, 2, 2, 2, 2, 2, 2, 2, 2, 2, 2, 2, 2, 2, 2, 0, 0, 0, 0, 2, 2, 2, 0, 0, 0, 0, 2, 2, 2, 2, 0, 1, 2, 2, 2, 2, 2, 2]]
def tyO (c k : Nat) : Nat := (tyTab.getD c []).getD k 0
def fv (M : Mm) (c k a : Nat) : Value := if tyO c k = 0 then .int (mI M (100 * c + k) a) else if tyO c k = 1 then .long (mJ M (100 * c + k) a) else va_rf (mR M (100 * c + k) a)
def tysC (cy : Nat → ClassId) : List (ClassId × FieldType) := [(cy 0, .int), (cy 1, .long), (cy 2, .boolean), (cy 3, .object RX1), (cy 4, .object RX3), (cy 5, .object RX4), (cy 6, .object RX8), (cy 7, .object RX9)]
def cAt (D : va_G) (cy : Nat → ClassId) (M : Mm) (H : Heap) (a : Nat) : Prop :=
  (mK M a ≤ 12 → ∃ r : vw_C, vwCl[mK M a - 1]? = some r ∧ t_OB a (D.1 (mK M a - 1)) r.2.2 (D.2 (mK M a - 1)) H (fun k => fv M (mK M a - 1) k a)) ∧
  (mK M a = 20 → H[a]? = some (arrV (cy 0) (mN M a) (fun j => .int (mA M a j)))) ∧
  (mK M a = 21 → H[a]? = some (arrV (cy 1) (mN M a) (fun j => .long (mB M a j)))) ∧
  (mK M a = 22 → H[a]? = some (arrV (cy 2) (mN M a) (fun j => .int (mA M a j)))) ∧
  (23 ≤ mK M a → H[a]? = some (arrV (cy (mK M a - 20)) (mN M a) (fun j => va_rf (mQ M a j))))
def Hp (b0 : Nat) (D : va_G) (cy : Nat → ClassId) (M : Mm) (H : Heap) : Prop := H.size = mS M ∧ ∀ a, mK M a ≠ 0 → b0 ≤ a ∧ a < H.size ∧ cAt D cy M H a
theorem cAt_kept {D : va_G} {cy : Nat → ClassId} {M M1 : Mm} {H H1 : Heap} {a : Nat} (h : cAt D cy M H a) (hH : H1[a]? = H[a]?) (hk : mK M1 a = mK M a) (hn : mN M1 a = mN M a) (hi : ∀ k, mI M1 k a = mI M k a) (hj : ∀ k, mJ M1 k a = mJ M k a) (hr : ∀ k, mR M1 k a = mR M k a) (hA : mA M1 a = mA M a) (hB : mB M1 a = mB M a) (hQ : mQ M1 a = mQ M a) : cAt D cy M1 H1 a := by
  obtain ⟨h0, h1, h2, h3, h4⟩ := h
  refine ⟨fun g => ?_, fun g => ?_, fun g => ?_, fun g => ?_, fun g => ?_⟩
  · rw [hk] at g
    obtain ⟨r, e1, e2⟩ := h0 g
    refine ⟨r, by rw [hk]; exact e1, ?_⟩
    rw [hk]
    refine (e2.kept hH).to (fun k _ => ?_)
    simp only [fv, hi, hj, hr]
  · rw [hk] at g; rw [hH, hn, hA]; exact h1 g
  · rw [hk] at g; rw [hH, hn, hB]; exact h2 g
  · rw [hk] at g; rw [hH, hn, hA]; exact h3 g
  · rw [hk] at g; rw [hH, hn, hQ, hk]; exact h4 g
theorem Hp_of {b0 : Nat} {D : va_G} {cy : Nat → ClassId} {M M1 : Mm} {H H1 : Heap} {a : Nat} (hP : Hp b0 D cy M H) (z : H1.size = H.size) (oq : ∀ q : Nat, q ≠ a → H1[q]? = H[q]?) (hs : mS M1 = mS M) (hk : mK M1 = mK M) (hn : mN M1 = mN M)
    (hi : ∀ b, b ≠ a → ∀ k, mI M1 k b = mI M k b) (hj : ∀ b, b ≠ a → ∀ k, mJ M1 k b = mJ M k b) (hr : ∀ b, b ≠ a → ∀ k, mR M1 k b = mR M k b) (hA : ∀ b, b ≠ a → mA M1 b = mA M b) (hB : ∀ b, b ≠ a → mB M1 b = mB M b) (hQ : ∀ b, b ≠ a → mQ M1 b = mQ M b) (ha : mK M a ≠ 0 → cAt D cy M1 H1 a) : Hp b0 D cy M1 H1 := by
  refine ⟨by rw [z, hs]; exact hP.1, fun b hb => ?_⟩
  rw [hk] at hb
  obtain ⟨g1, g2, g3⟩ := hP.2 b hb
  refine ⟨g1, by rw [z]; exact g2, ?_⟩
  by_cases e : b = a
  · subst e; exact ha hb
  · exact cAt_kept g3 (oq b e) (by rw [hk]) (by rw [hn]) (hi b e) (hj b e) (hr b e) (hA b e) (hB b e) (hQ b e)
theorem up2_ne {α : Type} {f : Nat → Nat → α} {k a : Nat} {v : α} {x y : Nat} (h : y ≠ a) : up2 f k a v x y = f x y := by
  simp only [up2, if_neg h, ite_self]
theorem vau_ne {α : Type} {f : Nat → α} {k : Nat} {v : α} {j : Nat} (h : j ≠ k) : va_up f k v j = f j := if_neg h
theorem vau_eq {α : Type} {f : Nat → α} {k : Nat} {v : α} : va_up f k v k = v := if_pos rfl
theorem Hp_obj {b0 : Nat} {D : va_G} {cy : Nat → ClassId} {M : Mm} {H : Heap} {a ci : Nat} {C : String} {T : u_T} {N : Nat} (hP : Hp b0 D cy M H) (hk : mK M a = ci + 1) (hc : vwCl[ci]? = some (C, T, N)) : b0 ≤ a ∧ t_OB a (D.1 ci) N (D.2 ci) H (fun k => fv M ci k a) := by
  have hlt : ci < 12 := (List.getElem?_eq_some_iff.mp hc).1
  obtain ⟨g1, -, g3, -⟩ := hP.2 a (by omega)
  obtain ⟨r, e1, e2⟩ := g3 (by omega)
  rw [hk] at e1 e2
  have hr : r = (C, T, N) := Option.some.inj (e1.symm.trans hc)
  subst hr
  exact ⟨g1, e2⟩
theorem Hp_I {b0 : Nat} {D : va_G} {cy : Nat → ClassId} {M : Mm} {H : Heap} {a : Nat} (hP : Hp b0 D cy M H) (hk : mK M a = 20) : b0 ≤ a ∧ H[a]? = some (arrV (cy 0) (mN M a) (fun j => .int (mA M a j))) := by
  obtain ⟨g1, -, -, g4, -⟩ := hP.2 a (by omega)
  exact ⟨g1, g4 hk⟩
theorem Hp_J {b0 : Nat} {D : va_G} {cy : Nat → ClassId} {M : Mm} {H : Heap} {a : Nat} (hP : Hp b0 D cy M H) (hk : mK M a = 21) : b0 ≤ a ∧ H[a]? = some (arrV (cy 1) (mN M a) (fun j => .long (mB M a j))) := by
  obtain ⟨g1, -, -, -, g4, -⟩ := hP.2 a (by omega)
  exact ⟨g1, g4 hk⟩
theorem Hp_Z {b0 : Nat} {D : va_G} {cy : Nat → ClassId} {M : Mm} {H : Heap} {a : Nat} (hP : Hp b0 D cy M H) (hk : mK M a = 22) : b0 ≤ a ∧ H[a]? = some (arrV (cy 2) (mN M a) (fun j => .int (mA M a j))) := by
  obtain ⟨g1, -, -, -, -, g4, -⟩ := hP.2 a (by omega)
  exact ⟨g1, g4 hk⟩
theorem Hp_Q {b0 : Nat} {D : va_G} {cy : Nat → ClassId} {M : Mm} {H : Heap} {a kd : Nat} (hP : Hp b0 D cy M H) (hk : mK M a = kd) (h23 : 23 ≤ kd) : b0 ≤ a ∧ H[a]? = some (arrV (cy (kd - 20)) (mN M a) (fun j => va_rf (mQ M a j))) := by
  obtain ⟨g1, -, -, -, -, -, g4⟩ := hP.2 a (by omega)
  rw [← hk]
  exact ⟨g1, g4 (by omega)⟩
def BA (b0 : Nat) : Nat → Prop := fun q => b0 ≤ q
section XRows
variable {p : Program} {l : Launch} {e : Env} {R : Room} {s : State} {m : MethodId} {args : Array Value} {below : List Frame} {meth : Method} {c : Code} {H : Heap} {locs : List Loc} {cells slots : Nat} {Q : State → Prop}
variable {cc : ByteArray} {pc : Nat} {ls : Array Slot} {rest : List Value} {D : va_G} {cy : Nat → ClassId} {a b0 : Nat} {M : Mm} {H0 : Heap} {Ts : List Cond} {own C : String} {T : u_T} {N ci k idx kd num : Nat} {ρ : Type} {r : ρ}
/-- getfield: the value, whatever its type -/
theorem xr_getV (hx : p.tables.exec = Jvm.exec) (hb : c.code = cc) (hts : ∀ w ∈ Ts, w.before args s = true) (hin : ∀ w ∈ u_ws C T N, w ∈ Ts) (hown : s.vm.findClass own = some m.cls) (hK : va_K D vwCl (tysC cy) s) (hP : Hp b0 D cy M H) (hc : vwCl[ci]? = some (C, T, N)) (hk : k < N) (hl : Cond.fieldLink own idx (T k).1 (T k).2.1 (T k).2.2.1 ∈ Ts) (hkd : mK M a = ci + 1) {v : Value} (hv : fv M ci k a = v) (hd : decode cc pc = .ok (.getfield idx, 3))
    (kk : W p l e R s m args below meth c H locs cells slots Q (F0 m (pc + 3) ls (v :: rest))) : W p l e R s m args below meth c H locs cells slots Q (F0 m pc ls (.ref a :: rest)) := by
  obtain ⟨-, cell, q1, q2, q3, q4⟩ := Hp_obj hP hkd hc
  obtain ⟨hS, hfc, kC, hkC, hkind⟩ := hK.1 ci _ hc
  obtain ⟨cf, kf, fi, f, hi, hsl⟩ := hS k hk
  refine W.getf hx hb hown (hts _ hl) hi (u_facts hfc hkC (u_lays hts hin hk) hi).1 q1 (by rw [q3]; exact fun h => by cases h) (v := v) ?_ rfl rfl hd kk
  have hsl2 : f.slot = D.2 ci k := hsl
  rw [hsl2, q4 k hk]
  exact congrArg some hv
theorem xr_getI (hx : p.tables.exec = Jvm.exec) (hb : c.code = cc) (hts : ∀ w ∈ Ts, w.before args s = true) (hin : ∀ w ∈ u_ws C T N, w ∈ Ts) (hown : s.vm.findClass own = some m.cls) (hK : va_K D vwCl (tysC cy) s) (hP : Hp b0 D cy M H) {f : Int32 → Option ρ} (hF : (gI M kd num a).bind f = some r) (ci k : Nat) (hc : vwCl[ci]? = some (C, T, N)) (hk : k < N) (hl : Cond.fieldLink own idx (T k).1 (T k).2.1 (T k).2.2.1 ∈ Ts) (hz : tyO ci k = 0 ∧ kd = ci + 1 ∧ num = 100 * ci + k) (hd : decode cc pc = .ok (.getfield idx, 3))
    (kk : ∀ v, f v = some r → W p l e R s m args below meth c H locs cells slots Q (F0 m (pc + 3) ls (.int v :: rest))) : W p l e R s m args below meth c H locs cells slots Q (F0 m pc ls (.ref a :: rest)) := by
  obtain ⟨v, h1, h2⟩ := ob_some hF
  obtain ⟨h3, h4⟩ := if_some h1
  obtain ⟨z1, z2, z3⟩ := hz
  have h5 : mI M num a = v := Option.some.inj h4
  exact xr_getV hx hb hts hin hown hK hP hc hk hl (by rw [h3, z2]) (v := .int v) (by simp only [fv, z1, if_true, ← z3, h5]) hd (kk v h2)
theorem xr_getJ (hx : p.tables.exec = Jvm.exec) (hb : c.code = cc) (hts : ∀ w ∈ Ts, w.before args s = true) (hin : ∀ w ∈ u_ws C T N, w ∈ Ts) (hown : s.vm.findClass own = some m.cls) (hK : va_K D vwCl (tysC cy) s) (hP : Hp b0 D cy M H) {f : Int64 → Option ρ} (hF : (gJ M kd num a).bind f = some r) (ci k : Nat) (hc : vwCl[ci]? = some (C, T, N)) (hk : k < N) (hl : Cond.fieldLink own idx (T k).1 (T k).2.1 (T k).2.2.1 ∈ Ts) (hz : tyO ci k = 1 ∧ kd = ci + 1 ∧ num = 100 * ci + k) (hd : decode cc pc = .ok (.getfield idx, 3))
    (kk : ∀ v, f v = some r → W p l e R s m args below meth c H locs cells slots Q (F0 m (pc + 3) ls (.long v :: rest))) : W p l e R s m args below meth c H locs cells slots Q (F0 m pc ls (.ref a :: rest)) := by
  obtain ⟨v, h1, h2⟩ := ob_some hF
  obtain ⟨h3, h4⟩ := if_some h1
  obtain ⟨z1, z2, z3⟩ := hz
  have h5 : mJ M num a = v := Option.some.inj h4
  exact xr_getV hx hb hts hin hown hK hP hc hk hl (by rw [h3, z2]) (v := .long v) (by simp only [fv, z1, ← z3, h5]; rfl) hd (kk v h2)
theorem xr_getR (hx : p.tables.exec = Jvm.exec) (hb : c.code = cc) (hts : ∀ w ∈ Ts, w.before args s = true) (hin : ∀ w ∈ u_ws C T N, w ∈ Ts) (hown : s.vm.findClass own = some m.cls) (hK : va_K D vwCl (tysC cy) s) (hP : Hp b0 D cy M H) {f : Nat → Option ρ} (hF : (gR M kd num a).bind f = some r) (ci k : Nat) (hc : vwCl[ci]? = some (C, T, N)) (hk : k < N) (hl : Cond.fieldLink own idx (T k).1 (T k).2.1 (T k).2.2.1 ∈ Ts) (hz : tyO ci k = 2 ∧ kd = ci + 1 ∧ num = 100 * ci + k) (hd : decode cc pc = .ok (.getfield idx, 3))
    (kk : ∀ v, f v = some r → W p l e R s m args below meth c H locs cells slots Q (F0 m (pc + 3) ls (.ref v :: rest))) : W p l e R s m args below meth c H locs cells slots Q (F0 m pc ls (.ref a :: rest)) := by
  obtain ⟨v, h1, h2⟩ := ob_some hF
  obtain ⟨h3, h4⟩ := if_some h1
  obtain ⟨z1, z2, z3⟩ := hz
  exact xr_getV hx hb hts hin hown hK hP hc hk hl (by rw [h3, z2]) (v := .ref v) (by simp only [fv, z1, ← z3, h4]; rfl) hd (kk v h2)
theorem xr_getN (hx : p.tables.exec = Jvm.exec) (hb : c.code = cc) (hts : ∀ w ∈ Ts, w.before args s = true) (hin : ∀ w ∈ u_ws C T N, w ∈ Ts) (hown : s.vm.findClass own = some m.cls) (hK : va_K D vwCl (tysC cy) s) (hP : Hp b0 D cy M H) {f : Option Nat → Option ρ} (hF : (gN M kd num a).bind f = some r) (ci k : Nat) (hc : vwCl[ci]? = some (C, T, N)) (hk : k < N) (hl : Cond.fieldLink own idx (T k).1 (T k).2.1 (T k).2.2.1 ∈ Ts) (hz : tyO ci k = 2 ∧ kd = ci + 1 ∧ num = 100 * ci + k) (hd : decode cc pc = .ok (.getfield idx, 3))
    (kk : ∀ v, f v = some r → W p l e R s m args below meth c H locs cells slots Q (F0 m (pc + 3) ls (va_rf v :: rest))) : W p l e R s m args below meth c H locs cells slots Q (F0 m pc ls (.ref a :: rest)) := by
  obtain ⟨v, h1, h2⟩ := ob_some hF
  obtain ⟨h3, h4⟩ := if_some h1
  obtain ⟨z1, z2, z3⟩ := hz
  have h5 : mR M num a = v := Option.some.inj h4
  exact xr_getV hx hb hts hin hown hK hP hc hk hl (by rw [h3, z2]) (v := va_rf v) (by simp only [fv, z1, ← z3, h5]; rfl) hd (kk v h2)
/-- putfield, whatever the type: M1 is M but for that field of that object -/
theorem xr_putV (hx : p.tables.exec = Jvm.exec) (hb : c.code = cc) (hts : ∀ w ∈ Ts, w.before args s = true) (hin : ∀ w ∈ u_ws C T N, w ∈ Ts) (hown : s.vm.findClass own = some m.cls) (hK : va_K D vwCl (tysC cy) s) (hP : Hp b0 D cy M H) (hS0 : va_S (BA b0) H0 H locs) (hc : vwCl[ci]? = some (C, T, N)) (hk : k < N) (ty0 : Nat → FieldType) (hty : ∀ k, k < N → parseFieldDescriptor (T k).2.2.1 = some (ty0 k)) (hnm : ∀ a, a < N → ∀ b, b < N → a ≠ b → (T a).2.1 ≠ (T b).2.1) (hl : Cond.fieldLink own idx (T k).1 (T k).2.1 (T k).2.2.1 ∈ Ts)
    (hfin : (T k).2.2.2 = false ∨ ((T k).2.2.2 = true ∧ meth.name = "<init>" ∧ (T k).1 = own)) (hkd : mK M a = ci + 1) {v : Value} {M1 : Mm} (hn : narrow (ty0 k) v = v) (hfit : fits (ty0 k) v = true)
    (hs1 : mS M1 = mS M) (hk1 : mK M1 = mK M) (hn1 : mN M1 = mN M) (hi : ∀ b, b ≠ a → ∀ k, mI M1 k b = mI M k b) (hj : ∀ b, b ≠ a → ∀ k, mJ M1 k b = mJ M k b) (hr : ∀ b, b ≠ a → ∀ k, mR M1 k b = mR M k b) (hA : mA M1 = mA M) (hB : mB M1 = mB M) (hQ : mQ M1 = mQ M) (hf : ∀ j, fv M1 ci j a = updV (fun k => fv M ci k a) k v j)
    (hd : decode cc pc = .ok (.putfield idx, 3)) (kk : ∀ (H1 : Heap) (locs1 : List Loc), Hp b0 D cy M1 H1 → va_S (BA b0) H0 H1 locs1 → W p l e R s m args below meth c H1 locs1 cells slots Q (F0 m (pc + 3) ls rest)) : W p l e R s m args below meth c H locs cells slots Q (F0 m pc ls (v :: .ref a :: rest)) := by
  have hap := va_apart (own := own) hts hin ty0 hty hnm hK hc
  obtain ⟨hba, cell, q1, q2, q3, q4⟩ := Hp_obj hP hkd hc
  obtain ⟨hS, hfc, kC, hkC, hkind⟩ := hK.1 ci _ hc
  obtain ⟨cf, kf, fi, f, hi0, hsl⟩ := hS k hk
  have hsl2 : f.slot = D.2 ci k := hsl
  have hlay := u_lays hts hin hk
  have hst := (u_facts hfc hkC hlay hi0).1
  have h6 := u_fits hfc hkC hkind hlay hi0 (hty k hk) hn hfit
  have fin : ∀ H' : Heap, H'[a]? = some (cell.setSlot f.slot v) → H'.size = H.size → (∀ q, q ≠ a → H'[q]? = H[q]?) → W p l e R s m args below meth c H' (locs ++ [⟨a, f.slot⟩]) cells slots Q (F0 m (pc + 3) ls rest) := by
    intro H' e1 e2 e3
    rw [hsl2] at e1
    refine kk H' _ (Hp_of (a := a) hP e2 e3 hs1 hk1 hn1 hi hj hr (fun b _ => by rw [hA]) (fun b _ => by rw [hB]) (fun b _ => by rw [hQ]) (fun _ => ?_)) (hS0.put e2 e3 hba)
    have hlt : ci < 12 := (List.getElem?_eq_some_iff.mp hc).1
    refine ⟨fun _ => ?_, fun g => by rw [hk1] at g; omega, fun g => by rw [hk1] at g; omega, fun g => by rw [hk1] at g; omega, fun g => by rw [hk1] at g; omega⟩
    rw [hk1, hkd]
    refine ⟨_, hc, t_OB.to (V := updV (fun k => fv M ci k a) k v) ⟨_, e1, q2, q3, t_set q4 hap hk v⟩ (fun j _ => (hf j).symm)⟩
  rcases hfin with hfin | ⟨hfin, hin2, hdecl⟩
  · have hlay2 := hts _ (hin _ (u_in_lay hk))
    unfold u_lay at hlay2
    rw [if_neg (by rw [hfin]; decide)] at hlay2
    have h7 := u_store hfc hkC hkind hlay2 hi0 (hty k hk) hn hfit
    exact W.putK hx hb (f := f) ⟨hown, hts _ hl, ⟨_, _, _, hi0⟩, hst⟩ (by rw [q2]; exact h7) q1 q3 (by rw [hsl2]; exact k2_hasslot (q4 k hk)) rfl rfl hd fin
  · have hlay2 := hts _ (hin _ (u_in_lay hk))
    unfold u_lay at hlay2
    rw [if_pos hfin] at hlay2
    have hcf : m.cls = cf := by
      obtain ⟨_, _, c', _, _, _, -, -, hf', -, -, -, hown2, -⟩ := Cond.laysFinal_spec hlay2
      have e1 : c' = cf := by have := hi0.symm.trans hf'; simp at this; exact this.1.symm
      rw [hdecl] at hown2
      rw [← e1]; exact Option.some.inj (hown.symm.trans hown2)
    exact W.putFinK hx hb hown (hts _ hl) hi0 hst hcf hin2 (by rw [q2]; exact h6) q1 q3 (by rw [hsl2]; exact k2_hasslot (q4 k hk)) rfl rfl hd fin
theorem xr_putI (hx : p.tables.exec = Jvm.exec) (hb : c.code = cc) (hts : ∀ w ∈ Ts, w.before args s = true) (hin : ∀ w ∈ u_ws C T N, w ∈ Ts) (hown : s.vm.findClass own = some m.cls) (hK : va_K D vwCl (tysC cy) s) (hP : Hp b0 D cy M H) (hS : va_S (BA b0) H0 H locs) {v : Int32} {f : Mm → Option ρ} (hF : (pI M kd num a v).bind f = some r) (ci k : Nat) (hc : vwCl[ci]? = some (C, T, N)) (hk : k < N) (ty0 : Nat → FieldType) (hty : ∀ k, k < N → parseFieldDescriptor (T k).2.2.1 = some (ty0 k)) (hnm : ∀ a, a < N → ∀ b, b < N → a ≠ b → (T a).2.1 ≠ (T b).2.1) (hl : Cond.fieldLink own idx (T k).1 (T k).2.1 (T k).2.2.1 ∈ Ts) (hfin : (T k).2.2.2 = false ∨ ((T k).2.2.2 = true ∧ meth.name = "<init>" ∧ (T k).1 = own)) (hti : ty0 k = .int) (hz : tyO ci k = 0 ∧ kd = ci + 1 ∧ num = 100 * ci + k) (hd : decode cc pc = .ok (.putfield idx, 3))
    (kk : ∀ (M : Mm) (H : Heap) (locs : List Loc), f M = some r → Hp b0 D cy M H → va_S (BA b0) H0 H locs → W p l e R s m args below meth c H locs cells slots Q (F0 m (pc + 3) ls rest)) : W p l e R s m args below meth c H locs cells slots Q (F0 m pc ls (.int v :: .ref a :: rest)) := by
  obtain ⟨M1, h1, h2⟩ := ob_some hF
  obtain ⟨h3, h4⟩ := if_some h1
  obtain ⟨z1, z2, z3⟩ := hz
  have h5 : sI M num a v = M1 := Option.some.inj h4
  subst h5
  refine xr_putV (M1 := sI M num a v) hx hb hts hin hown hK hP hS hc hk ty0 hty hnm hl hfin (by rw [h3, z2]) (by rw [hti]; rfl) (by rw [hti]; rfl) rfl rfl rfl (fun b hb2 k2 => ?_) (fun b hb2 k2 => ?_) (fun b hb2 k2 => ?_) rfl rfl rfl (fun j => ?_) hd (fun H1 locs1 g1 g2 => kk _ H1 locs1 h2 g1 g2)
  · first | exact up2_ne hb2 | rfl
  · first | exact up2_ne hb2 | rfl
  · first | exact up2_ne hb2 | rfl
  · by_cases hj : j = k
    · subst hj
      simp only [fv, updV, z1, ← z3, if_true]
      simp [sI, mI, up2]
    · have hne : ¬ 100 * ci + j = num := by omega
      simp [fv, updV, hj, sI, mI, mJ, mR, up2, hne]
theorem xr_putZ (hx : p.tables.exec = Jvm.exec) (hb : c.code = cc) (hts : ∀ w ∈ Ts, w.before args s = true) (hin : ∀ w ∈ u_ws C T N, w ∈ Ts) (hown : s.vm.findClass own = some m.cls) (hK : va_K D vwCl (tysC cy) s) (hP : Hp b0 D cy M H) (hS : va_S (BA b0) H0 H locs) {v : Int32} {f : Mm → Option ρ} (hF : (pZ M kd num a v).bind f = some r) (ci k : Nat) (hc : vwCl[ci]? = some (C, T, N)) (hk : k < N) (ty0 : Nat → FieldType) (hty : ∀ k, k < N → parseFieldDescriptor (T k).2.2.1 = some (ty0 k)) (hnm : ∀ a, a < N → ∀ b, b < N → a ≠ b → (T a).2.1 ≠ (T b).2.1) (hl : Cond.fieldLink own idx (T k).1 (T k).2.1 (T k).2.2.1 ∈ Ts) (hfin : (T k).2.2.2 = false ∨ ((T k).2.2.2 = true ∧ meth.name = "<init>" ∧ (T k).1 = own)) (hti : ty0 k = .boolean) (hz : tyO ci k = 0 ∧ kd = ci + 1 ∧ num = 100 * ci + k) (hd : decode cc pc = .ok (.putfield idx, 3))
    (kk : ∀ (M : Mm) (H : Heap) (locs : List Loc), f M = some r → Hp b0 D cy M H → va_S (BA b0) H0 H locs → W p l e R s m args below meth c H locs cells slots Q (F0 m (pc + 3) ls rest)) : W p l e R s m args below meth c H locs cells slots Q (F0 m pc ls (.int v :: .ref a :: rest)) := by
  obtain ⟨M1, h1, h2⟩ := ob_some hF
  obtain ⟨h3, h4⟩ := if_some h1
  obtain ⟨hv01, h4⟩ := if_some h4
  obtain ⟨z1, z2, z3⟩ := hz
  have h5 : sI M num a v = M1 := Option.some.inj h4
  subst h5
  refine xr_putV (M1 := sI M num a v) hx hb hts hin hown hK hP hS hc hk ty0 hty hnm hl hfin (by rw [h3, z2]) (by rw [hti]; rcases hv01 with e | e <;> subst e <;> rfl) (by rw [hti]; rcases hv01 with e | e <;> subst e <;> rfl) rfl rfl rfl (fun b hb2 k2 => ?_) (fun b hb2 k2 => ?_) (fun b hb2 k2 => ?_) rfl rfl rfl (fun j => ?_) hd (fun H1 locs1 g1 g2 => kk _ H1 locs1 h2 g1 g2)
  · first | exact up2_ne hb2 | rfl
  · first | exact up2_ne hb2 | rfl
  · first | exact up2_ne hb2 | rfl
  · by_cases hj : j = k
    · subst hj
      simp only [fv, updV, z1, ← z3, if_true]
      simp [sI, mI, up2]
    · have hne : ¬ 100 * ci + j = num := by omega
      simp [fv, updV, hj, sI, mI, mJ, mR, up2, hne]
theorem xr_putJ (hx : p.tables.exec = Jvm.exec) (hb : c.code = cc) (hts : ∀ w ∈ Ts, w.before args s = true) (hin : ∀ w ∈ u_ws C T N, w ∈ Ts) (hown : s.vm.findClass own = some m.cls) (hK : va_K D vwCl (tysC cy) s) (hP : Hp b0 D cy M H) (hS : va_S (BA b0) H0 H locs) {v : Int64} {f : Mm → Option ρ} (hF : (pJ M kd num a v).bind f = some r) (ci k : Nat) (hc : vwCl[ci]? = some (C, T, N)) (hk : k < N) (ty0 : Nat → FieldType) (hty : ∀ k, k < N → parseFieldDescriptor (T k).2.2.1 = some (ty0 k)) (hnm : ∀ a, a < N → ∀ b, b < N → a ≠ b → (T a).2.1 ≠ (T b).2.1) (hl : Cond.fieldLink own idx (T k).1 (T k).2.1 (T k).2.2.1 ∈ Ts) (hfin : (T k).2.2.2 = false ∨ ((T k).2.2.2 = true ∧ meth.name = "<init>" ∧ (T k).1 = own)) (hti : ty0 k = .long) (hz : tyO ci k = 1 ∧ kd = ci + 1 ∧ num = 100 * ci + k) (hd : decode cc pc = .ok (.putfield idx, 3))
    (kk : ∀ (M : Mm) (H : Heap) (locs : List Loc), f M = some r → Hp b0 D cy M H → va_S (BA b0) H0 H locs → W p l e R s m args below meth c H locs cells slots Q (F0 m (pc + 3) ls rest)) : W p l e R s m args below meth c H locs cells slots Q (F0 m pc ls (.long v :: .ref a :: rest)) := by
  obtain ⟨M1, h1, h2⟩ := ob_some hF
  obtain ⟨h3, h4⟩ := if_some h1
  obtain ⟨z1, z2, z3⟩ := hz
  have h5 : sJ M num a v = M1 := Option.some.inj h4
  subst h5
  refine xr_putV (M1 := sJ M num a v) hx hb hts hin hown hK hP hS hc hk ty0 hty hnm hl hfin (by rw [h3, z2]) (by rw [hti]; rfl) (by rw [hti]; rfl) rfl rfl rfl (fun b hb2 k2 => ?_) (fun b hb2 k2 => ?_) (fun b hb2 k2 => ?_) rfl rfl rfl (fun j => ?_) hd (fun H1 locs1 g1 g2 => kk _ H1 locs1 h2 g1 g2)
  · first | exact up2_ne hb2 | rfl
  · first | exact up2_ne hb2 | rfl
  · first | exact up2_ne hb2 | rfl
  · by_cases hj : j = k
    · subst hj
      simp only [fv, updV, z1, ← z3, if_true]
      simp [sJ, mJ, up2]
    · have hne : ¬ 100 * ci + j = num := by omega
      simp [fv, updV, hj, sJ, mI, mJ, mR, up2, hne]
theorem xr_putR (hx : p.tables.exec = Jvm.exec) (hb : c.code = cc) (hts : ∀ w ∈ Ts, w.before args s = true) (hin : ∀ w ∈ u_ws C T N, w ∈ Ts) (hown : s.vm.findClass own = some m.cls) (hK : va_K D vwCl (tysC cy) s) (hP : Hp b0 D cy M H) (hS : va_S (BA b0) H0 H locs) {v : Option Nat} {f : Mm → Option ρ} (hF : (pR M kd num a v).bind f = some r) (ci k : Nat) (hc : vwCl[ci]? = some (C, T, N)) (hk : k < N) (ty0 : Nat → FieldType) (hty : ∀ k, k < N → parseFieldDescriptor (T k).2.2.1 = some (ty0 k)) (hnm : ∀ a, a < N → ∀ b, b < N → a ≠ b → (T a).2.1 ≠ (T b).2.1) (hl : Cond.fieldLink own idx (T k).1 (T k).2.1 (T k).2.2.1 ∈ Ts) (hfin : (T k).2.2.2 = false ∨ ((T k).2.2.2 = true ∧ meth.name = "<init>" ∧ (T k).1 = own)) (hti : (∃ n, ty0 k = .object n) ∨ ∃ t, ty0 k = .array t) (hz : tyO ci k = 2 ∧ kd = ci + 1 ∧ num = 100 * ci + k) (hd : decode cc pc = .ok (.putfield idx, 3))
    (kk : ∀ (M : Mm) (H : Heap) (locs : List Loc), f M = some r → Hp b0 D cy M H → va_S (BA b0) H0 H locs → W p l e R s m args below meth c H locs cells slots Q (F0 m (pc + 3) ls rest)) : W p l e R s m args below meth c H locs cells slots Q (F0 m pc ls (va_rf v :: .ref a :: rest)) := by
  obtain ⟨M1, h1, h2⟩ := ob_some hF
  obtain ⟨h3, h4⟩ := if_some h1
  obtain ⟨z1, z2, z3⟩ := hz
  have h5 : sR M num a v = M1 := Option.some.inj h4
  subst h5
  refine xr_putV (M1 := sR M num a v) hx hb hts hin hown hK hP hS hc hk ty0 hty hnm hl hfin (by rw [h3, z2]) (by rcases hti with ⟨n, e⟩ | ⟨t, e⟩ <;> rw [e] <;> cases v <;> rfl) (by rcases hti with ⟨n, e⟩ | ⟨t, e⟩ <;> rw [e] <;> cases v <;> rfl) rfl rfl rfl (fun b hb2 k2 => ?_) (fun b hb2 k2 => ?_) (fun b hb2 k2 => ?_) rfl rfl rfl (fun j => ?_) hd (fun H1 locs1 g1 g2 => kk _ H1 locs1 h2 g1 g2)
  · first | exact up2_ne hb2 | rfl
  · first | exact up2_ne hb2 | rfl
  · first | exact up2_ne hb2 | rfl
  · by_cases hj : j = k
    · subst hj
      simp only [fv, updV, z1, ← z3, if_true]
      simp [sR, mR, up2]
    · have hne : ¬ 100 * ci + j = num := by omega
      simp [fv, updV, hj, sR, mI, mJ, mR, up2, hne]
theorem xr_aI (hx : p.tables.exec = Jvm.exec) (hb : c.code = cc) (hK : va_K D vwCl (tysC cy) s) (hP : Hp b0 D cy M H) {i : Int32} {f : Int32 → Option ρ} (hF : (aI M a i).bind f = some r) (hd : decode cc pc = .ok (.iaload, 1))
    (kk : ∀ v, f v = some r → W p l e R s m args below meth c H locs cells slots Q (F0 m (pc + 1) ls (.int v :: rest))) : W p l e R s m args below meth c H locs cells slots Q (F0 m pc ls (.int i :: .ref a :: rest)) := by
  obtain ⟨v, h1, h2⟩ := ob_some hF
  obtain ⟨h3, h4⟩ := if_some h1
  obtain ⟨h5, h6⟩ := if_some h4
  have hin := vin_in h5
  have hlt : i.toNatClampNeg < mN M a := Nat.not_le.mp fun q => hin (Or.inr q)
  have h7 := Option.some.inj h6
  exact W.iald (v := .int v) hx hb (Hp_I hP h3).2 ((hK.2 0 _ rfl).1 _ _) (fun q => by cases q) (by rw [arrV_size]; exact hin) (by rw [arrV_read _ _ hlt, ← h7]; rfl) rfl rfl hd (kk v h2)
theorem xr_aJ (hx : p.tables.exec = Jvm.exec) (hb : c.code = cc) (hK : va_K D vwCl (tysC cy) s) (hP : Hp b0 D cy M H) {i : Int32} {f : Int64 → Option ρ} (hF : (aJ M a i).bind f = some r) (hd : decode cc pc = .ok (.laload, 1))
    (kk : ∀ v, f v = some r → W p l e R s m args below meth c H locs cells slots Q (F0 m (pc + 1) ls (.long v :: rest))) : W p l e R s m args below meth c H locs cells slots Q (F0 m pc ls (.int i :: .ref a :: rest)) := by
  obtain ⟨v, h1, h2⟩ := ob_some hF
  obtain ⟨h3, h4⟩ := if_some h1
  obtain ⟨h5, h6⟩ := if_some h4
  have hin := vin_in h5
  have hlt : i.toNatClampNeg < mN M a := Nat.not_le.mp fun q => hin (Or.inr q)
  have h7 := Option.some.inj h6
  exact W.lald (v := .long v) hx hb (Hp_J hP h3).2 ((hK.2 1 _ rfl).1 _ _) (fun q => by cases q) (by rw [arrV_size]; exact hin) (by rw [arrV_read _ _ hlt, ← h7]; rfl) rfl rfl hd (kk v h2)
theorem xr_aZ (hx : p.tables.exec = Jvm.exec) (hb : c.code = cc) (hK : va_K D vwCl (tysC cy) s) (hP : Hp b0 D cy M H) {i : Int32} {f : Int32 → Option ρ} (hF : (aZ M a i).bind f = some r) (hd : decode cc pc = .ok (.baload, 1))
    (kk : ∀ v, f v = some r → W p l e R s m args below meth c H locs cells slots Q (F0 m (pc + 1) ls (.int v :: rest))) : W p l e R s m args below meth c H locs cells slots Q (F0 m pc ls (.int i :: .ref a :: rest)) := by
  obtain ⟨v, h1, h2⟩ := ob_some hF
  obtain ⟨h3, h4⟩ := if_some h1
  obtain ⟨h5, h6⟩ := if_some h4
  have hin := vin_in h5
  have hlt : i.toNatClampNeg < mN M a := Nat.not_le.mp fun q => hin (Or.inr q)
  have h7 := Option.some.inj h6
  exact W.zald (v := .int v) hx hb (Hp_Z hP h3).2 ((hK.2 2 _ rfl).1 _ _) (fun q => by cases q) (by rw [arrV_size]; exact hin) (by rw [arrV_read _ _ hlt, ← h7]; rfl) rfl rfl hd (kk v h2)
theorem xr_aR (hx : p.tables.exec = Jvm.exec) (hb : c.code = cc) (hK : va_K D vwCl (tysC cy) s) (hP : Hp b0 D cy M H) {i : Int32} {f : Nat → Option ρ} (hF : (aR M kd a i).bind f = some r) {En : String} (t0 : Nat) (ht : (tysC cy)[t0]? = some (cy (kd - 20), .object En)) (h23 : 23 ≤ kd) (hd : decode cc pc = .ok (.aaload, 1))
    (kk : ∀ v, f v = some r → W p l e R s m args below meth c H locs cells slots Q (F0 m (pc + 1) ls (.ref v :: rest))) : W p l e R s m args below meth c H locs cells slots Q (F0 m pc ls (.int i :: .ref a :: rest)) := by
  obtain ⟨v, h1, h2⟩ := ob_some hF
  obtain ⟨h3, h4⟩ := if_some h1
  obtain ⟨h5, h6⟩ := if_some h4
  have hin := vin_in h5
  have hlt : i.toNatClampNeg < mN M a := Nat.not_le.mp fun q => hin (Or.inr q)
  have h7 : mQ M a i.toNatClampNeg = some v := h6
  exact W.aald (v := .ref v) (ty := .object En) hx hb (Hp_Q hP h3 h23).2 ((hK.2 t0 _ ht).1 _ _) rfl (fun q => by cases q) (by rw [arrV_size]; exact hin) (by rw [arrV_read _ _ hlt, h7]; rfl) rfl rfl hd (kk v h2)
theorem xr_aN (hx : p.tables.exec = Jvm.exec) (hb : c.code = cc) (hK : va_K D vwCl (tysC cy) s) (hP : Hp b0 D cy M H) {i : Int32} {f : Option Nat → Option ρ} (hF : (aN M kd a i).bind f = some r) {En : String} (t0 : Nat) (ht : (tysC cy)[t0]? = some (cy (kd - 20), .object En)) (h23 : 23 ≤ kd) (hd : decode cc pc = .ok (.aaload, 1))
    (kk : ∀ v, f v = some r → W p l e R s m args below meth c H locs cells slots Q (F0 m (pc + 1) ls (va_rf v :: rest))) : W p l e R s m args below meth c H locs cells slots Q (F0 m pc ls (.int i :: .ref a :: rest)) := by
  obtain ⟨v, h1, h2⟩ := ob_some hF
  obtain ⟨h3, h4⟩ := if_some h1
  obtain ⟨h5, h6⟩ := if_some h4
  have hin := vin_in h5
  have hlt : i.toNatClampNeg < mN M a := Nat.not_le.mp fun q => hin (Or.inr q)
  have h7 : mQ M a i.toNatClampNeg = v := Option.some.inj h6
  exact W.aald (v := va_rf v) (ty := .object En) hx hb (Hp_Q hP h3 h23).2 ((hK.2 t0 _ ht).1 _ _) rfl (fun q => by cases q) (by rw [arrV_size]; exact hin) (by rw [arrV_read _ _ hlt, h7]) rfl rfl hd (kk v h2)
theorem xr_wI (hx : p.tables.exec = Jvm.exec) (hb : c.code = cc) (hK : va_K D vwCl (tysC cy) s) (hP : Hp b0 D cy M H) (hS : va_S (BA b0) H0 H locs) {i : Int32} {x : Int32} {f : Mm → Option ρ} (hF : (wI M a i x).bind f = some r) (hd : decode cc pc = .ok (.iastore, 1))
    (kk : ∀ (M : Mm) (H : Heap) (locs : List Loc), f M = some r → Hp b0 D cy M H → va_S (BA b0) H0 H locs → W p l e R s m args below meth c H locs cells slots Q (F0 m (pc + 1) ls rest)) : W p l e R s m args below meth c H locs cells slots Q (F0 m pc ls (.int x :: .int i :: .ref a :: rest)) := by
  obtain ⟨M1, h1, h2⟩ := ob_some hF
  obtain ⟨h3, h4⟩ := if_some h1
  obtain ⟨h5, h6⟩ := if_some h4
  have hin := vin_in h5
  have h7 : sA M a (va_up (mA M a) (ix i) x) = M1 := Option.some.inj h6
  subst h7
  have hc1 := Hp_I hP h3
  refine W.iast hx hb hc1.2 ((hK.2 0 _ rfl).1 _ _) (fun q => by cases q) (by rw [arrV_size]; exact hin) rfl rfl hd fun H1 e z oq => ?_
  have hcell : H1[a]? = some (arrV (cy 0) (mN M a) (fun j => .int (va_up (mA M) a (va_up (mA M a) (ix i) x) a j))) := by
    rw [e, arrV_store]
    congr 2
    funext q
    rw [vau_eq]
    by_cases hq : q = i.toNatClampNeg
    · subst hq
      simp [updV, va_up, ix, vp_nar]
      try rfl
    · simp [updV, va_up, ix, hq]
  refine kk _ H1 _ h2 (Hp_of (a := a) hP z oq rfl rfl rfl (fun _ _ _ => rfl) (fun _ _ _ => rfl) (fun _ _ _ => rfl) (fun b hb2 => ?_) (fun b hb2 => ?_) (fun b hb2 => ?_) (fun _ => ⟨fun g => by have g2 : mK M a ≤ 12 := g; omega, fun _ => hcell, fun g => by have g2 : mK M a = 21 := g; omega, fun g => by have g2 : mK M a = 22 := g; omega, fun g => by have g2 : 23 ≤ mK M a := g; omega⟩)) (hS.put z oq hc1.1)
  · first | exact vau_ne hb2 | rfl
  · first | exact vau_ne hb2 | rfl
  · first | exact vau_ne hb2 | rfl
theorem xr_wJ (hx : p.tables.exec = Jvm.exec) (hb : c.code = cc) (hK : va_K D vwCl (tysC cy) s) (hP : Hp b0 D cy M H) (hS : va_S (BA b0) H0 H locs) {i : Int32} {x : Int64} {f : Mm → Option ρ} (hF : (wJ M a i x).bind f = some r) (hd : decode cc pc = .ok (.lastore, 1))
    (kk : ∀ (M : Mm) (H : Heap) (locs : List Loc), f M = some r → Hp b0 D cy M H → va_S (BA b0) H0 H locs → W p l e R s m args below meth c H locs cells slots Q (F0 m (pc + 1) ls rest)) : W p l e R s m args below meth c H locs cells slots Q (F0 m pc ls (.long x :: .int i :: .ref a :: rest)) := by
  obtain ⟨M1, h1, h2⟩ := ob_some hF
  obtain ⟨h3, h4⟩ := if_some h1
  obtain ⟨h5, h6⟩ := if_some h4
  have hin := vin_in h5
  have h7 : sB M a (va_up (mB M a) (ix i) x) = M1 := Option.some.inj h6
  subst h7
  have hc1 := Hp_J hP h3
  refine W.last hx hb hc1.2 ((hK.2 1 _ rfl).1 _ _) (fun q => by cases q) (by rw [arrV_size]; exact hin) rfl rfl hd fun H1 e z oq => ?_
  have hcell : H1[a]? = some (arrV (cy 1) (mN M a) (fun j => .long (va_up (mB M) a (va_up (mB M a) (ix i) x) a j))) := by
    rw [e, arrV_store]
    congr 2
    funext q
    rw [vau_eq]
    by_cases hq : q = i.toNatClampNeg
    · subst hq
      simp [updV, va_up, ix, vp_nar]
      try rfl
    · simp [updV, va_up, ix, hq]
  refine kk _ H1 _ h2 (Hp_of (a := a) hP z oq rfl rfl rfl (fun _ _ _ => rfl) (fun _ _ _ => rfl) (fun _ _ _ => rfl) (fun b hb2 => ?_) (fun b hb2 => ?_) (fun b hb2 => ?_) (fun _ => ⟨fun g => by have g2 : mK M a ≤ 12 := g; omega, fun g => by have g2 : mK M a = 20 := g; omega, fun _ => hcell, fun g => by have g2 : mK M a = 22 := g; omega, fun g => by have g2 : 23 ≤ mK M a := g; omega⟩)) (hS.put z oq hc1.1)
  · first | exact vau_ne hb2 | rfl
  · first | exact vau_ne hb2 | rfl
  · first | exact vau_ne hb2 | rfl
theorem xr_wZ (hx : p.tables.exec = Jvm.exec) (hb : c.code = cc) (hK : va_K D vwCl (tysC cy) s) (hP : Hp b0 D cy M H) (hS : va_S (BA b0) H0 H locs) {i : Int32} {x : Int32} {f : Mm → Option ρ} (hF : (wZ M a i x).bind f = some r) (hd : decode cc pc = .ok (.bastore, 1))
    (kk : ∀ (M : Mm) (H : Heap) (locs : List Loc), f M = some r → Hp b0 D cy M H → va_S (BA b0) H0 H locs → W p l e R s m args below meth c H locs cells slots Q (F0 m (pc + 1) ls rest)) : W p l e R s m args below meth c H locs cells slots Q (F0 m pc ls (.int x :: .int i :: .ref a :: rest)) := by
  obtain ⟨M1, h1, h2⟩ := ob_some hF
  obtain ⟨h3, h4⟩ := if_some h1
  obtain ⟨h5, h6⟩ := if_some h4
  have hin := vin_in h5
  have h7 : sA M a (va_up (mA M a) (ix i) (vp_nar .boolean x)) = M1 := Option.some.inj h6
  subst h7
  have hc1 := Hp_Z hP h3
  refine W.zast hx hb hc1.2 ((hK.2 2 _ rfl).1 _ _) (fun q => by cases q) (by rw [arrV_size]; exact hin) rfl rfl hd fun H1 e z oq => ?_
  have hcell : H1[a]? = some (arrV (cy 2) (mN M a) (fun j => .int (va_up (mA M) a (va_up (mA M a) (ix i) (vp_nar .boolean x)) a j))) := by
    rw [e, arrV_store]
    congr 2
    funext q
    rw [vau_eq]
    by_cases hq : q = i.toNatClampNeg
    · subst hq
      simp [updV, va_up, ix, vp_nar]
      try rfl
    · simp [updV, va_up, ix, hq]
  refine kk _ H1 _ h2 (Hp_of (a := a) hP z oq rfl rfl rfl (fun _ _ _ => rfl) (fun _ _ _ => rfl) (fun _ _ _ => rfl) (fun b hb2 => ?_) (fun b hb2 => ?_) (fun b hb2 => ?_) (fun _ => ⟨fun g => by have g2 : mK M a ≤ 12 := g; omega, fun g => by have g2 : mK M a = 20 := g; omega, fun g => by have g2 : mK M a = 21 := g; omega, fun _ => hcell, fun g => by have g2 : 23 ≤ mK M a := g; omega⟩)) (hS.put z oq hc1.1)
  · first | exact vau_ne hb2 | rfl
  · first | exact vau_ne hb2 | rfl
  · first | exact vau_ne hb2 | rfl
theorem xr_wR (hx : p.tables.exec = Jvm.exec) (hb : c.code = cc) (hK : va_K D vwCl (tysC cy) s) (hP : Hp b0 D cy M H) (hS : va_S (BA b0) H0 H locs) {i : Int32} {x ke : Nat} {f : Mm → Option ρ} (hF : (wR M kd ke a i x).bind f = some r) (t0 ci : Nat) {q0 : vw_C} (ht : (tysC cy)[t0]? = some (cy (kd - 20), .object q0.1)) (h23 : 23 ≤ kd) (hc : vwCl[ci]? = some q0) (hke : ke = ci + 1) (hd : decode cc pc = .ok (.aastore, 1))
    (kk : ∀ (M : Mm) (H : Heap) (locs : List Loc), f M = some r → Hp b0 D cy M H → va_S (BA b0) H0 H locs → W p l e R s m args below meth c H locs cells slots Q (F0 m (pc + 1) ls rest)) : W p l e R s m args below meth c H locs cells slots Q (F0 m pc ls (.ref x :: .int i :: .ref a :: rest)) := by
  obtain ⟨M1, h1, h2⟩ := ob_some hF
  obtain ⟨h3, h4⟩ := if_some h1
  obtain ⟨h5, h6⟩ := if_some h4
  obtain ⟨h8, h9⟩ := if_some h6
  have hin := vin_in h5
  have hlt : i.toNatClampNeg < mN M a := Nat.not_le.mp fun q => hin (Or.inr q)
  have h0 : ¬ i < 0 := fun q => hin (Or.inl q)
  have h7 : sQ M a (va_up (mQ M a) (ix i) (some x)) = M1 := Option.some.inj h9
  subst h7
  have hc1 := Hp_Q hP h3 h23
  obtain ⟨-, cellV, g1, g2, g3, -⟩ := Hp_obj (C := q0.1) (T := q0.2.1) (N := q0.2.2) hP (by rw [h8, hke]) hc
  have hcls := (hK.1 ci q0 hc).2
  obtain ⟨kA, comp, k1, k2, k3, -⟩ := (hK.2 t0 _ ht).2
  have hcomp : comp = D.1 ci := Option.some.inj (k3.symm.trans hcls.1)
  subst hcomp
  obtain ⟨kC, hkC, -⟩ := hcls.2
  refine W.aast hx hb hc1.2 (fun q h => by cases h) (fun h => by cases h) k1 k2 rfl hkC ⟨h0, by rw [arrV_size]; exact hlt⟩ g1 (fun q h => by rw [g3] at h; cases h) (by rw [g2]; exact hkC) (by rw [g2]; exact va_assign hcls) rfl rfl hd fun H1 e z oq => ?_
  have hcell : H1[a]? = some (arrV (cy (kd - 20)) (mN M a) (fun j => va_rf (va_up (mQ M) a (va_up (mQ M a) (ix i) (some x)) a j))) := by
    rw [e, arrV_store]
    congr 2
    funext q
    rw [vau_eq]
    by_cases hq : q = i.toNatClampNeg
    · subst hq
      simp [updV, va_up, ix, va_rf]
    · simp [updV, va_up, ix, hq]
  refine kk _ H1 _ h2 (Hp_of (a := a) hP z oq rfl rfl rfl (fun _ _ _ => rfl) (fun _ _ _ => rfl) (fun _ _ _ => rfl) (fun b hb2 => rfl) (fun b hb2 => rfl) (fun b hb2 => vau_ne hb2) (fun _ => ⟨fun g => by have g2 : mK M a ≤ 12 := g; omega, fun g => by have g2 : mK M a = 20 := g; omega, fun g => by have g2 : mK M a = 21 := g; omega, fun g => by have g2 : mK M a = 22 := g; omega, fun _ => ?_⟩)) (hS.put z oq hc1.1)
  show H1[a]? = some (arrV (cy (mK M a - 20)) _ _)
  rw [h3]
  exact hcell
end XRows
