/-! Clones, casts, null, calls, returns. -/
section XRows3
variable {p : Program} {l : Launch} {e : Env} {R : Room} {s : State} {m : MethodId} {args : Array Value} {below : List Frame} {meth : Method} {c : Code} {H : Heap} {locs : List Loc} {cells slots : Nat} {Q : State → Prop}
variable {cc : ByteArray} {pc : Nat} {ls : Array Slot} {rest : List Value} {D : va_G} {cy : Nat → ClassId} {a b0 : Nat} {M : Mm} {H0 : Heap} {Ts : List Cond} {own C : String} {T : u_T} {N ci k idx kd num : Nat} {ρ : Type} {r : ρ}
theorem xr_clI (hx : p.tables.exec = Jvm.exec) (hb : c.code = cc) (hml : c.maxLocals = ls.size) (hts : ∀ w ∈ Ts, w.before args s = true) (hown : s.vm.findClass own = some m.cls) (hK : va_K D vwCl (tysC cy) s) (hN : NK s) (hP : Hp b0 D cy M H) (hS : va_S (BA b0) H0 H locs) (hb0 : b0 ≤ H0.size) {B : Nat} {f : Mm → Option ρ} (hF : (clI M B a).bind f = some r)
    (hlink : Cond.methodLink own idx ⟨"[I", "clone", "()Ljava/lang/Object;"⟩ ∈ Ts) (hw : Cond.sameMethod "[I" "java/lang/Object" "clone" "()Ljava/lang/Object;" ∈ Ts ∧ Cond.native ⟨"java/lang/Object", "clone", "()Ljava/lang/Object;"⟩ ∈ Ts ∧ Cond.instanceMethod ⟨"java/lang/Object", "clone", "()Ljava/lang/Object;"⟩ ∈ Ts ∧ Cond.selects "[I" ⟨"[I", "clone", "()Ljava/lang/Object;"⟩ ⟨"java/lang/Object", "clone", "()Ljava/lang/Object;"⟩ ∈ Ts)
    (hframes : 1 ≤ R.frames) (hlocals : (rest.map fun v => v.category).sum + 14 ≤ R.locals) (hcells : cells + 1 ≤ R.cells) (hslots : slots + B ≤ R.slots) (hd : decode cc pc = .ok (.invokevirtual idx, 3))
    (kk : ∀ (M1 : Mm) (H : Heap), f M1 = some r → mK M1 (mS M) = 20 → Hp b0 D cy M1 H → va_S (BA b0) H0 H locs → W p l e R s m args below meth c H locs (cells + 1) (slots + B) Q (F0 m (pc + 3) ls (.ref (mS M) :: rest))) : W p l e R s m args below meth c H locs cells slots Q (F0 m pc ls (.ref a :: rest)) := by
  obtain ⟨M1, h1, h2⟩ := ob_some hF
  obtain ⟨h3, h4⟩ := if_some h1
  obtain ⟨h5, h6⟩ := if_some h4
  have h7 : sA (nA M 20 (mN M a)) (mS M) (mA M a) = M1 := Option.some.inj h6
  subst h7
  have hbH : b0 ≤ H.size := Nat.le_trans hb0 hS.1
  have hnm : s.vm.findClass "[I" = some (cy 0) := (hK.2 0 _ rfl).2
  obtain ⟨c0, t0', f1, f2, f3⟩ := Cond.castable_spec (va_Nw.use (A := args) rfl hN.2.1)
  cases hnm.symm.trans f1
  generalize hcell : arrV (cy 0) (mN M a) (fun j => .int (mA M a j)) = cell
  have hsz : cell.slots.size = mN M a := by rw [← hcell]; exact arrV_size _ _ _
  have hvm0 : cell.vm = .none := by rw [← hcell]; rfl
  have hcl0 : cell.cls = cy 0 := by rw [← hcell]; rfl
  have hcellE : ({ cls := cell.cls, slots := cell.slots } : Cell) = cell := by rw [← hcell]; rfl
  have hat : H[a]? = some cell := by rw [← hcell]; exact (Hp_I hP h3).2
  intro T hT X
  have hcellT : T.heap[a]? = some cell := by rw [hT]; exact hat
  obtain ⟨-, kA, hkA, comp, hkind⟩ := State.isArrayOf_alike X.warmed.alike ((hK.2 0 _ rfl).1 0 (fun _ => .null))
  obtain ⟨-, kS, hkS, compS, hkindS⟩ := (hK.2 0 _ rfl).1 0 (fun _ => .null)
  obtain ⟨vm', X', st⟩ := X.cloneArray hx hown (hts _ hlink) (hts _ hw.1) (hts _ hw.2.1) (hts _ hw.2.2.1) (hts _ hw.2.2.2) (a := a) (cell := cell) hcellT (fun k h => by rw [hvm0] at h; cases h) (by rw [hvm0]; exact fun h => by cases h) (by rw [hcl0]; exact hnm) f2 (by rw [hcl0]; exact f3)
    (fun i v hv => by
      rw [hcl0]
      have hk' : T.vm.classes[cy 0]? = some kA := hkA
      have hfit : fits .int v = true := by
        have hi : i < mN M a := by
          have := (Array.getElem?_eq_some_iff.mp hv).1
          rw [hsz] at this
          exact this
        rw [← hcell, arrV_read _ _ hi] at hv
        rw [← Option.some.inj hv]
        rfl
      simpa [State.fitsSlot, State.slotType?, hk', hkind] using hfit)
    (g := F0 m pc ls (.ref a :: rest)) rfl (by rw [hml]) rfl (by rw [hb]; exact hd) hframes (by show 2 * 0 + _ + 14 ≤ _; omega) hcells (by rw [hsz]; omega) (hloader := by rw [hcl0]; exact Vm.clonesLoader_of_array hkS hkindS)
  rw [hcellE, hsz] at X'
  generalize hH1 : H.push cell = H1
  have z1 : H1.size = H.size + 1 := by rw [← hH1, Array.size_push]
  have e1 : H1[H.size]? = some cell := by rw [← hH1, Array.getElem?_push_size]
  have o1 : ∀ q : Nat, q < H.size → H1[q]? = H[q]? := fun q hq => by rw [← hH1, Array.getElem?_push, if_neg (Nat.ne_of_lt hq)]
  rw [hP.1, ← hcell] at e1
  have hkk : mK (sA (nA M 20 (mN M a)) (mS M) (mA M a)) (mS M) = 20 := vau_eq
  have hnn : mN (sA (nA M 20 (mN M a)) (mS M) (mA M a)) (mS M) = mN M a := vau_eq
  have hAA : mA (sA (nA M 20 (mN M a)) (mS M) (mA M a)) (mS M) = mA M a := vau_eq
  have hPn : Hp b0 D cy (sA (nA M 20 (mN M a)) (mS M) (mA M a)) H1 := by
    refine Hp_new hP hbH z1 o1 rfl (fun b q => vau_ne q) (fun b q => vau_ne q) (fun _ _ _ => rfl) (fun _ _ _ => rfl) (fun _ _ _ => rfl) (fun b q => (vau_ne q).trans (vau_ne q)) (fun b q => vau_ne q) (fun b q => vau_ne q) ?_
    refine ⟨fun g => by rw [hkk] at g; omega, fun g => ?_, fun g => by rw [hkk] at g; omega, fun g => by rw [hkk] at g; omega, fun g => by rw [hkk] at g; omega⟩
    rw [hnn, hAA]
    exact e1
  have kw := kk _ H1 h2 hkk hPn (va_S_new hS z1 o1)
  have kw2 := W.widen (k := cells + 1) (n := slots + B) (cells := cells + 1) (slots := slots + mN M a) (Nat.le_refl _) (by omega) kw
  obtain ⟨t, b1, b2⟩ := kw2 ((T.setVm vm').pushCell cell) (by rw [← hH1, ← hT]; rfl) X'
  refine ⟨t, st t ?_, b2⟩
  rw [hcellE, hT, hP.1]
  exact b1
theorem xr_castI (hx : p.tables.exec = Jvm.exec) (hb : c.code = cc) (hts : ∀ w ∈ Ts, w.before args s = true) (hown : s.vm.findClass own = some m.cls) (hK : va_K D vwCl (tysC cy) s) (hP : Hp b0 D cy M H) (hk : mK M a = 20) (hlink : Cond.classLink own idx "[I" ∈ Ts) (hd : decode cc pc = .ok (.checkcast idx, 3))
    (kk : W p l e R s m args below meth c H locs cells slots Q (F0 m (pc + 3) ls (.ref a :: rest))) : W p l e R s m args below meth c H locs cells slots Q (F0 m pc ls (.ref a :: rest)) := by
  have hat := (Hp_I hP hk).2
  have hP1 : va_P D vwCl [(a, .inl (cy 0, mN M a, .inl (mA M a)))] H := by
    intro k q hq
    have hz : k < 1 := (List.getElem?_eq_some_iff.mp hq).1
    rw [show k = 0 by omega] at hq
    cases hq
    exact hat
  exact va_castA hx hb hown (hts _ hlink) hP1 0 rfl (hK.2 0 _ rfl).2 hd kk
theorem cat_rf (v : Option Nat) : (va_rf v).category = 1 := by cases v <;> rfl
theorem xr_aload_n (hx : p.tables.exec = Jvm.exec) (hb : c.code = cc) {v : Option Nat} {k : Fin 4} {i : Nat} (hd : decode cc pc = .ok (.aload_n k, 1)) (hi : (k : Nat) = i) (hl : ls[i]? = some (.val (va_rf v)))
    (kk : W p l e R s m args below meth c H locs cells slots Q (F0 m (pc + 1) ls (va_rf v :: rest))) : W p l e R s m args below meth c H locs cells slots Q (F0 m pc ls rest) := by
  cases v with
  | none => exact lv_aload_nN hx hb hd hi hl kk
  | some x => exact lv_aload_n hx hb hd hi hl kk
theorem xr_aload (hx : p.tables.exec = Jvm.exec) (hb : c.code = cc) {v : Option Nat} {i : Nat} (hd : decode cc pc = .ok (.aload i, 2)) (hl : ls[i]? = some (.val (va_rf v)))
    (kk : W p l e R s m args below meth c H locs cells slots Q (F0 m (pc + 2) ls (va_rf v :: rest))) : W p l e R s m args below meth c H locs cells slots Q (F0 m pc ls rest) := by
  cases v with
  | none => exact lv_aloadN hx hb hd hl kk
  | some x => exact lv_aload hx hb hd hl kk
theorem xr_astore_n (hx : p.tables.exec = Jvm.exec) (hb : c.code = cc) {v : Option Nat} {k : Fin 4} {i nL : Nat} {lv lv' : List (Nat × Value)} (hd : decode cc pc = .ok (.astore_n k, 1)) (hi : (k : Nat) = i) (h : lv_has ls nL lv) (hn : i < nL) (hl : (i, va_rf v) :: lv.filter (fun q => !(q.1 == i) && !(q.1 + 1 == i && q.2.category == 2)) = lv')
    (kk : ∀ ls : Array Slot, lv_has ls nL lv' → W p l e R s m args below meth c H locs cells slots Q (F0 m (pc + 1) ls rest)) : W p l e R s m args below meth c H locs cells slots Q (F0 m pc ls (va_rf v :: rest)) := by
  cases v with
  | none => exact lv_astore_nN hx hb hd hi h hn hl kk
  | some x => exact lv_astore_n hx hb hd hi h hn hl kk
theorem xr_astore (hx : p.tables.exec = Jvm.exec) (hb : c.code = cc) {v : Option Nat} {i nL : Nat} {lv lv' : List (Nat × Value)} (hd : decode cc pc = .ok (.astore i, 2)) (h : lv_has ls nL lv) (hn : i < nL) (hl : (i, va_rf v) :: lv.filter (fun q => !(q.1 == i) && !(q.1 + 1 == i && q.2.category == 2)) = lv')
    (kk : ∀ ls : Array Slot, lv_has ls nL lv' → W p l e R s m args below meth c H locs cells slots Q (F0 m (pc + 2) ls rest)) : W p l e R s m args below meth c H locs cells slots Q (F0 m pc ls (va_rf v :: rest)) := by
  cases v with
  | none => exact lv_astoreN hx hb hd h hn hl kk
  | some x => exact lv_astore hx hb hd h hn hl kk
theorem nm_n {β : Type} {A : Option β} {B : Nat → Option β} {r : Option β} (h : nm none A B = r) : A = r := h
theorem nm_s {β : Type} {x : Nat} {A : Option β} {B : Nat → Option β} {r : Option β} (h : nm (some x) A B = r) : B x = r := h
theorem nz01 {v : Int32} (h : v = 0 ∨ v = 1) : narrow .boolean (.int v) = .int v := by rcases h with e | e <;> subst e <;> rfl
theorem ov_rf (v : Option Nat) : va_rf v = .null ∨ ∃ a, va_rf v = .ref a := by
  cases v with
  | none => exact Or.inl rfl
  | some x => exact Or.inr ⟨x, rfl⟩
theorem xr_call1 {mc ms : Nat} {st0 : List Value} {M1 : Mm} {v : Value} {aa : Array Value} (hr : va_Run p l e R s m args below meth c H locs cells slots mc ms (F0 m pc ls st0) rest (Qm b0 D cy M1 (some v) aa) (BA b0)) (hS : va_S (BA b0) H0 H locs)
    (kk : ∀ (H : Heap) (locs : List Loc), Hp b0 D cy M1 H → va_S (BA b0) H0 H locs → W p l e R s m args below meth c H locs (cells + mc) (slots + ms) Q (F0 m (pc + 3) ls (v :: rest))) : W p l e R s m args below meth c H locs cells slots Q (F0 m pc ls st0) := by
  intro T hT X
  obtain ⟨v', st₀, t, T', L, h0, X', hL, e1, e2, ⟨hv, hp, hz, hk⟩, st⟩ := hr T hT X
  cases hv
  rw [h0] at hz hk
  obtain ⟨t2, a1, b1⟩ := kk T'.heap (locs ++ L) (by rw [e1]; exact hp)
    ⟨Nat.le_trans hS.1 (by rw [e1]; exact hz), fun q h1 h2 => by rw [e1, hk q (Nat.lt_of_lt_of_le h1 hS.1) h2]; exact hS.2.1 q h1 h2, fun q hq => by
      rcases List.mem_append.mp hq with h | h
      · exact hS.2.2 q h
      · exact hL q h⟩ T' rfl X'
  exact ⟨t2, st t2 a1, b1⟩
theorem xr_call0 {mc ms : Nat} {st0 : List Value} {M1 : Mm} {aa : Array Value} (hr : va_Run p l e R s m args below meth c H locs cells slots mc ms (F0 m pc ls st0) rest (Qm b0 D cy M1 none aa) (BA b0)) (hS : va_S (BA b0) H0 H locs)
    (kk : ∀ (H : Heap) (locs : List Loc), Hp b0 D cy M1 H → va_S (BA b0) H0 H locs → W p l e R s m args below meth c H locs (cells + mc) (slots + ms) Q (F0 m (pc + 3) ls rest)) : W p l e R s m args below meth c H locs cells slots Q (F0 m pc ls st0) := by
  intro T hT X
  obtain ⟨v', st₀, t, T', L, h0, X', hL, e1, e2, ⟨hv, hp, hz, hk⟩, st⟩ := hr T hT X
  cases hv
  rw [h0] at hz hk
  obtain ⟨t2, a1, b1⟩ := kk T'.heap (locs ++ L) (by rw [e1]; exact hp)
    ⟨Nat.le_trans hS.1 (by rw [e1]; exact hz), fun q h1 h2 => by rw [e1, hk q (Nat.lt_of_lt_of_le h1 hS.1) h2]; exact hS.2.1 q h1 h2, fun q hq => by
      rcases List.mem_append.mp hq with h | h
      · exact hS.2.2 q h
      · exact hL q h⟩ T' rfl X'
  exact ⟨t2, st t2 a1, b1⟩
theorem xp_B {av : List Value} : FrameBlind (va_Pc av (Pm b0 D cy M)) := fun a U g mk q => ⟨q.1, q.2.1, va_K.moved (u := U) (U := U.calling g mk a) (Vm.Alike.refl U.vm) q.2.2.1, NK.same (u := U) (U := U.calling g mk a) rfl q.2.2.2.1, q.2.2.2.2⟩
theorem xp_S {As : List Value} (hP : Hp b0 D cy M H) (hK : va_K D vwCl (tysC cy) s) (hN : NK s) (hS : va_S (BA b0) H0 H locs) (hb0 : b0 ≤ H0.size) : PreS s H (va_Pc As (Pm b0 D cy M)) As :=
  ⟨xp_B, fun U hU hW => ⟨rfl, by rw [hU]; exact hP, va_K.moved hW.alike hK, NK.warm hW hN, by rw [hU]; exact Nat.le_trans hb0 hS.1⟩⟩
theorem xp_V {As : List Value} (hP : Hp b0 D cy M H) (hK : va_K D vwCl (tysC cy) s) (hN : NK s) (hS : va_S (BA b0) H0 H locs) (hb0 : b0 ≤ H0.size) (ci : Nat) (hc : vwCl[ci]? = some (C, T, N)) (hk : mK M a = ci + 1) : PreV s H C a (va_Pc (.ref a :: As) (Pm b0 D cy M)) As := by
  obtain ⟨-, cell, g1, g2, g3, -⟩ := Hp_obj hP hk hc
  exact ⟨xp_B, ⟨cell, g1, by rw [g3]; rfl, by rw [g2]; exact (hK.1 ci _ hc).2.1⟩, fun U hU hW => ⟨rfl, by rw [hU]; exact hP, va_K.moved hW.alike hK, NK.warm hW hN, by rw [hU]; exact Nat.le_trans hb0 hS.1⟩⟩
end XRows3
/-- what a walk of a method takes along -/
def Cx (y : MethodName) (cc : ByteArray) (nL : Nat) (ret : Option FieldType) (ws : List Cond) (b0 : Nat) (D : va_G) (cy : Nat → ClassId) (p : Program) (s : State) (m : MethodId) (args : Array Value) (meth : Method) (c : Code) : Prop :=
  p.tables.exec = Jvm.exec ∧ c.code = cc ∧ meth.sig.returnType = ret ∧ c.maxLocals = nL ∧ s.vm.findClass y.cls = some m.cls ∧ (∀ w ∈ ws, w.before args s = true) ∧ meth.locks = false ∧ va_K D vwCl (tysC cy) s ∧ NK s ∧ b0 ≤ s.heap.size ∧ meth.name = y.name
theorem ct_of {l : Launch} {y : MethodName} {cc : ByteArray} {nL : Nat} {ret : Option FieldType} {ws ws' : List Cond} {rm : Room} {b0 : Nat} {D : va_G} {cy : Nat → ClassId} {M M1 : Mm} {ov : Option Value} {mc ms : Nat} (av : List Value) (hy : plainName y.cls = true) (hw : ws = Cond.code y cc nL ret :: ws')
    (body : ∀ p e s m below meth c, Cx y cc nL ret ws b0 D cy p s m av.toArray meth c → Hp b0 D cy M s.heap → W p l e rm s m av.toArray below meth c s.heap [] 0 0 (MQ below (Qm b0 D cy M1 ov) av.toArray s mc ms (BA b0)) (F0 m 0 ((lg_sl av ++ List.replicate (nL - (lg_sl av).length) Slot.unset).toArray) [])) :
    Met l y ws rm (va_Pc av (Pm b0 D cy M)) (Qm b0 D cy M1 ov) mc ms (BA b0) := by
  refine Met.ofW (cc := cc) (maxL := nL) (ret := ret) hy hw ?_
  intro p e s m args below meth c s₁ B hml hv
  obtain ⟨rfl, hP, hK, hN, hb0⟩ := hv
  rw [lg_entry_eq]
  exact body p e s m below meth c ⟨B.exec, B.bytes, B.returns, hml, findClass_of_methodNamed B.named, atoms_spec (ws := ws) B.pre, B.notSynchronized, hK, hN, hb0, (name_of_methodNamed B.named B.method).1⟩ hP
