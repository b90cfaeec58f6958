/-! New cells, lengths, copies, calls, returns. -/
theorem Hp_new {b0 : Nat} {D : va_G} {cy : Nat → ClassId} {M M1 : Mm} {H H1 : Heap} (hP : Hp b0 D cy M H) (hb0 : b0 ≤ H.size) (z : H1.size = H.size + 1) (oq : ∀ q : Nat, q < H.size → H1[q]? = H[q]?) (hs : mS M1 = mS M + 1) (hk : ∀ b, b ≠ mS M → mK M1 b = mK M b) (hn : ∀ b, b ≠ mS M → mN M1 b = mN M b)
    (hi : ∀ b, b ≠ mS M → ∀ k, mI M1 k b = mI M k b) (hj : ∀ b, b ≠ mS M → ∀ k, mJ M1 k b = mJ M k b) (hr : ∀ b, b ≠ mS M → ∀ k, mR M1 k b = mR M k b) (hA : ∀ b, b ≠ mS M → mA M1 b = mA M b) (hB : ∀ b, b ≠ mS M → mB M1 b = mB M b) (hQ : ∀ b, b ≠ mS M → mQ M1 b = mQ M b) (ha : cAt D cy M1 H1 (mS M)) : Hp b0 D cy M1 H1 := by
  refine ⟨by rw [z, hs, hP.1], fun b hb => ?_⟩
  by_cases e : b = mS M
  · subst e; exact ⟨by rw [← hP.1]; exact hb0, by rw [z, hP.1]; omega, ha⟩
  · rw [hk b e] at hb
    obtain ⟨g1, g2, g3⟩ := hP.2 b hb
    exact ⟨g1, by omega, cAt_kept g3 (oq b g2) (hk b e) (hn b e) (hi b e) (hj b e) (hr b e) (hA b e) (hB b e) (hQ b e)⟩
theorem va_S_new {A : Nat → Prop} {H0 H H1 : Heap} {locs : List Loc} (hS : va_S A H0 H locs) (z : H1.size = H.size + 1) (oq : ∀ q : Nat, q < H.size → H1[q]? = H[q]?) : va_S A H0 H1 locs :=
  ⟨Nat.le_trans hS.1 (by omega), fun x h1 h2 => (oq x (Nat.lt_of_lt_of_le h1 hS.1)).trans (hS.2.1 x h1 h2), hS.2.2⟩
/-- the words on nest mates, and on casts, that the tables give and no list of words may hold -/
def nests : List (String × Nat × MethodName × String) := [("HeaderLine", 21, ⟨"HeaderLine$Plan", "<init>", "()V"⟩, "HeaderLine"), ("HeaderLine", 28, ⟨"HeaderLine$Header", "<init>", "()V"⟩, "HeaderLine"), ("HeaderLine$Squeezer", 31, ⟨"HeaderLine$Header", "<init>", "()V"⟩, "HeaderLine"), ("HeaderLine", 46, ⟨"HeaderLine$Context", "<init>", "()V"⟩, "HeaderLine"), ("HeaderLine$Context", 11, ⟨"HeaderLine$Header", "<init>", "()V"⟩, "HeaderLine"), ("HeaderLine", 59, ⟨"HeaderLine$Shelf", "<init>", "()V"⟩, "HeaderLine"), ("HeaderLine", 62, ⟨"HeaderLine$Pen", "<init>", "()V"⟩, "HeaderLine"), ("HeaderLine", 69, ⟨"HeaderLine$Arrival", "<init>", "()V"⟩, "HeaderLine"), ("HeaderLine$Arrival", 11, ⟨"HeaderLine$Header", "<init>", "()V"⟩, "HeaderLine"), ("HeaderLine", 76, ⟨"HeaderLine$Got", "<init>", "()V"⟩, "HeaderLine"), ("HeaderLine$Got", 11, ⟨"HeaderLine$Header", "<init>", "()V"⟩, "HeaderLine"), ("HeaderLine$Plan", 32, ⟨"HeaderLine", "lowest", "(JI)J"⟩, "HeaderLine"), ("HeaderLine$Pen", 29, ⟨"HeaderLine", "wholeBytes", "(I)I"⟩, "HeaderLine"), ("HeaderLine", 151, ⟨"HeaderLine$Proof", "<init>", "()V"⟩, "HeaderLine"), ("HeaderLine$Pen", 37, ⟨"HeaderLine", "checkOf", "([II)I"⟩, "HeaderLine"), ("HeaderLine$Arrival", 68, ⟨"HeaderLine", "endsInCheck", "(I)Z"⟩, "HeaderLine"), ("HeaderLine$Arrival", 107, ⟨"HeaderLine", "wholeBytes", "(I)I"⟩, "HeaderLine"), ("HeaderLine$Arrival", 111, ⟨"HeaderLine", "checkOf", "([II)I"⟩, "HeaderLine")]
def NK (U : State) : Prop := (∀ q ∈ nests, va_Nw (.methodLinkNest q.1 q.2.1 q.2.2.1 q.2.2.2) U) ∧ va_Nw (.castable "[I" "java/lang/Cloneable") U ∧ va_AO RX1 U ∧ va_AO RX3 U ∧ va_AO RX4 U ∧ va_AO RX8 U ∧ va_AO RX9 U
theorem NK.warm {s U : State} (hW : s.WarmedH U.vm) (h : NK s) : NK U := ⟨fun q hq => va_Nw.warmM hW (h.1 q hq), va_Nw.warmC hW h.2.1, h.2.2.1.moved hW.alike, h.2.2.2.1.moved hW.alike, h.2.2.2.2.1.moved hW.alike, h.2.2.2.2.2.1.moved hW.alike, h.2.2.2.2.2.2.moved hW.alike⟩
theorem NK.same {u U : State} (e : u.vm = U.vm) (h : NK u) : NK U := ⟨fun q hq => va_Nw.same rfl e (h.1 q hq), va_Nw.same rfl e h.2.1, h.2.2.1.moved (by rw [e]; exact Vm.Alike.refl _), h.2.2.2.1.moved (by rw [e]; exact Vm.Alike.refl _), h.2.2.2.2.1.moved (by rw [e]; exact Vm.Alike.refl _), h.2.2.2.2.2.1.moved (by rw [e]; exact Vm.Alike.refl _), h.2.2.2.2.2.2.moved (by rw [e]; exact Vm.Alike.refl _)⟩
/-- a method's start and end, in terms of the memory -/
def Pm (b0 : Nat) (D : va_G) (cy : Nat → ClassId) (M : Mm) (U : State) : Prop := Hp b0 D cy M U.heap ∧ va_K D vwCl (tysC cy) U ∧ NK U ∧ b0 ≤ U.heap.size
def Qm (b0 : Nat) (D : va_G) (cy : Nat → ClassId) (M : Mm) (ov : Option Value) : Array Value → State → Outcome → State → Prop := fun _ st oc t => oc = .returned ov ∧ Hp b0 D cy M t.heap ∧ va_F (BA b0) st t
section XRows2
variable {p : Program} {l : Launch} {e : Env} {R : Room} {s : State} {m : MethodId} {args : Array Value} {below : List Frame} {meth : Method} {c : Code} {H : Heap} {locs : List Loc} {cells slots : Nat} {Q : State → Prop}
variable {cc : ByteArray} {pc : Nat} {ls : Array Slot} {rest : List Value} {D : va_G} {cy : Nat → ClassId} {a b0 : Nat} {M : Mm} {H0 : Heap} {Ts : List Cond} {own C : String} {T : u_T} {N ci k idx kd num : Nat} {ρ : Type} {r : ρ}
theorem xr_aL (hx : p.tables.exec = Jvm.exec) (hb : c.code = cc) (hK : va_K D vwCl (tysC cy) s) (hP : Hp b0 D cy M H) {f : Int32 → Option ρ} (hF : (aL M a).bind f = some r) (hd : decode cc pc = .ok (.arraylength, 1))
    (kk : ∀ v, f v = some r → W p l e R s m args below meth c H locs cells slots Q (F0 m (pc + 1) ls (.int v :: rest))) : W p l e R s m args below meth c H locs cells slots Q (F0 m pc ls (.ref a :: rest)) := by
  obtain ⟨v, h1, h2⟩ := ob_some hF
  obtain ⟨h3, h4⟩ := if_some h1
  obtain ⟨h5, h6⟩ := if_some h4
  have h7 : nI (mN M a) = v := Option.some.inj h6
  subst h7
  rcases (show mK M a = 20 ∨ mK M a = 21 ∨ mK M a = 22 ∨ mK M a = 23 ∨ mK M a = 24 ∨ mK M a = 25 ∨ mK M a = 26 ∨ mK M a = 27 by omega) with g | g | g | g | g | g | g | g
  · exact W.alen (n := nI (mN M a)) hx hb (Hp_I hP g).2 ((hK.2 0 _ rfl).1 _ _) (by rw [arrV_size]; rfl) rfl rfl hd (kk _ h2)
  · exact W.alen (n := nI (mN M a)) hx hb (Hp_J hP g).2 ((hK.2 1 _ rfl).1 _ _) (by rw [arrV_size]; rfl) rfl rfl hd (kk _ h2)
  · exact W.alen (n := nI (mN M a)) hx hb (Hp_Z hP g).2 ((hK.2 2 _ rfl).1 _ _) (by rw [arrV_size]; rfl) rfl rfl hd (kk _ h2)
  · exact W.alen (n := nI (mN M a)) hx hb (Hp_Q hP g (by omega)).2 ((hK.2 3 _ rfl).1 _ _) (by rw [arrV_size]; rfl) rfl rfl hd (kk _ h2)
  · exact W.alen (n := nI (mN M a)) hx hb (Hp_Q hP g (by omega)).2 ((hK.2 4 _ rfl).1 _ _) (by rw [arrV_size]; rfl) rfl rfl hd (kk _ h2)
  · exact W.alen (n := nI (mN M a)) hx hb (Hp_Q hP g (by omega)).2 ((hK.2 5 _ rfl).1 _ _) (by rw [arrV_size]; rfl) rfl rfl hd (kk _ h2)
  · exact W.alen (n := nI (mN M a)) hx hb (Hp_Q hP g (by omega)).2 ((hK.2 6 _ rfl).1 _ _) (by rw [arrV_size]; rfl) rfl rfl hd (kk _ h2)
  · exact W.alen (n := nI (mN M a)) hx hb (Hp_Q hP g (by omega)).2 ((hK.2 7 _ rfl).1 _ _) (by rw [arrV_size]; rfl) rfl rfl hd (kk _ h2)
theorem ix_le {n : Int32} {B : Nat} (h0 : 0 ≤ n.toInt) (h : n.toInt ≤ (B : Int)) : ¬ n < 0 ∧ n.toNatClampNeg ≤ B := by
  refine ⟨fun q => ?_, ?_⟩
  · have := Int32.lt_iff_toInt_lt.mp q
    simp at this
    omega
  · show n.toInt.toNat ≤ B
    omega
/-- newarray of int, long, boolean: kd 20, 21, 22 -/
theorem xr_newA (hx : p.tables.exec = Jvm.exec) (hb : c.code = cc) (hts : ∀ w ∈ Ts, w.before args s = true) (hK : va_K D vwCl (tysC cy) s) (hP : Hp b0 D cy M H) (hS : va_S (BA b0) H0 H locs) (hb0 : b0 ≤ H0.size) {n : Int32} {B : Nat} {f : Mm → Option ρ} (hF : (mA0 M kd B n).bind f = some r) {atype : ArrayType} (harr : Cond.arrayClass (newarray.typeOf atype) ∈ Ts) (hz : (atype = .int ∧ kd = 20) ∨ (atype = .long ∧ kd = 21) ∨ (atype = .boolean ∧ kd = 22)) (hB : B ≤ 20000) (hcells : cells + 1 ≤ R.cells) (hslots : slots + B ≤ R.slots) (hd : decode cc pc = .ok (.newarray atype, 2))
    (kk : ∀ (M1 : Mm) (H : Heap), f M1 = some r → Hp b0 D cy M1 H → va_S (BA b0) H0 H locs → W p l e R s m args below meth c H locs (cells + 1) (slots + B) Q (F0 m (pc + 2) ls (.ref (mS M) :: rest))) : W p l e R s m args below meth c H locs cells slots Q (F0 m pc ls (.int n :: rest)) := by
  obtain ⟨M1, h1, h2⟩ := ob_some hF
  obtain ⟨h3, h4⟩ := if_some h1
  obtain ⟨h5, h6⟩ := if_some h4
  obtain ⟨g1, g2⟩ := ix_le h3 h5
  have h7 : nA M kd (ix n) = M1 := Option.some.inj h6
  subst h7
  have hbH : b0 ≤ H.size := Nat.le_trans hb0 hS.1
  refine va_newaK hx hb (hts _ harr) rfl hd rfl g1 rfl (by rcases hz with ⟨rfl, -⟩ | ⟨rfl, -⟩ | ⟨rfl, -⟩ <;> simp [newarray.typeOf, componentBytes] <;> omega) hcells (by omega) rfl fun H1 cA e1 z1 o1 hAr hNm => ?_
  refine W.widen (k := cells + 1) (n := slots + B) (Nat.le_refl _) (by omega) ?_
  refine W.eq (g2 := F0 m (pc + 2) ls (.ref (mS M) :: rest)) (by rw [← hP.1]) ?_
  rw [hP.1] at e1
  refine kk _ H1 h2 (Hp_new hP hbH z1 o1 rfl (fun b q => vau_ne q) (fun b q => vau_ne q) (fun _ _ _ => rfl) (fun _ _ _ => rfl) (fun _ _ _ => rfl) (fun b q => vau_ne q) (fun b q => vau_ne q) (fun b q => vau_ne q) ?_) (va_S_new hS z1 o1)
  have hkk : mK (nA M kd (ix n)) (mS M) = kd := vau_eq
  have hnn : mN (nA M kd (ix n)) (mS M) = ix n := vau_eq
  have hAA : mA (nA M kd (ix n)) (mS M) = fun _ => 0 := vau_eq
  have hBB : mB (nA M kd (ix n)) (mS M) = fun _ => 0 := vau_eq
  rcases hz with ⟨rfl, rfl⟩ | ⟨rfl, rfl⟩ | ⟨rfl, rfl⟩
  · have hcy : cA = cy 0 := Option.some.inj (hNm.symm.trans (hK.2 0 _ rfl).2)
    subst hcy
    refine ⟨fun g => by rw [hkk] at g; omega, fun g => ?_, fun g => by rw [hkk] at g; omega, fun g => by rw [hkk] at g; omega, fun g => by rw [hkk] at g; omega⟩
    rw [hnn, hAA]
    exact e1
  · have hcy : cA = cy 1 := Option.some.inj (hNm.symm.trans (hK.2 1 _ rfl).2)
    subst hcy
    refine ⟨fun g => by rw [hkk] at g; omega, fun g => by rw [hkk] at g; omega, fun g => ?_, fun g => by rw [hkk] at g; omega, fun g => by rw [hkk] at g; omega⟩
    rw [hnn, hBB]
    exact e1
  · have hcy : cA = cy 2 := Option.some.inj (hNm.symm.trans (hK.2 2 _ rfl).2)
    subst hcy
    refine ⟨fun g => by rw [hkk] at g; omega, fun g => by rw [hkk] at g; omega, fun g => by rw [hkk] at g; omega, fun g => ?_, fun g => by rw [hkk] at g; omega⟩
    rw [hnn, hAA]
    exact e1
theorem xr_newQ (hx : p.tables.exec = Jvm.exec) (hb : c.code = cc) (hts : ∀ w ∈ Ts, w.before args s = true) (hown : s.vm.findClass own = some m.cls) (hK : va_K D vwCl (tysC cy) s) (hP : Hp b0 D cy M H) (hS : va_S (BA b0) H0 H locs) (hb0 : b0 ≤ H0.size) {n : Int32} {B : Nat} {f : Mm → Option ρ} (hF : (mA0 M kd B n).bind f = some r) (t0 : Nat) (ht : (tysC cy)[t0]? = some (cy (kd - 20), .object C)) (h23 : 23 ≤ kd) (hl : Cond.classLink own idx C ∈ Ts) (hover : va_AO C s) (hB : B ≤ 20000) (hcells : cells + 1 ≤ R.cells) (hslots : slots + B ≤ R.slots) (hd : decode cc pc = .ok (.anewarray idx, 3))
    (kk : ∀ (M1 : Mm) (H : Heap), f M1 = some r → Hp b0 D cy M1 H → va_S (BA b0) H0 H locs → W p l e R s m args below meth c H locs (cells + 1) (slots + B) Q (F0 m (pc + 3) ls (.ref (mS M) :: rest))) : W p l e R s m args below meth c H locs cells slots Q (F0 m pc ls (.int n :: rest)) := by
  obtain ⟨M1, h1, h2⟩ := ob_some hF
  obtain ⟨h3, h4⟩ := if_some h1
  obtain ⟨h5, h6⟩ := if_some h4
  obtain ⟨g1, g2⟩ := ix_le h3 h5
  have h7 : nA M kd (ix n) = M1 := Option.some.inj h6
  subst h7
  have hbH : b0 ≤ H.size := Nat.le_trans hb0 hS.1
  refine W.anew hx hb hown (hts _ hl) (va_AO.use hover) rfl hd rfl g1 (by omega) hcells (by omega) fun cA kA comp f1 f2 f3 f4 => ?_
  generalize hH1 : H.push ({ cls := cA, slots := Array.replicate n.toNatClampNeg .null, vm := .none } : Cell) = H1
  have z1 : H1.size = H.size + 1 := by rw [← hH1, Array.size_push]
  have e1 : H1[H.size]? = some (arrV cA n.toNatClampNeg (fun _ => .null)) := by rw [← hH1, Array.getElem?_push_size, ← arrV_new]
  have o1 : ∀ q : Nat, q < H.size → H1[q]? = H[q]? := fun q hq => by rw [← hH1, Array.getElem?_push, if_neg (Nat.ne_of_lt hq)]
  refine W.widen (k := cells + 1) (n := slots + B) (Nat.le_refl _) (by omega) ?_
  refine W.eq (g2 := F0 m (pc + 3) ls (.ref (mS M) :: rest)) (by rw [← hP.1]) ?_
  rw [hP.1] at e1
  obtain ⟨-, -, -, -, -, hcy0⟩ := (hK.2 t0 _ ht).2
  have hcy : cA = cy (kd - 20) := Option.some.inj (f1.symm.trans hcy0)
  subst hcy
  refine kk _ H1 h2 (Hp_new hP hbH z1 o1 rfl (fun b q => vau_ne q) (fun b q => vau_ne q) (fun _ _ _ => rfl) (fun _ _ _ => rfl) (fun _ _ _ => rfl) (fun b q => vau_ne q) (fun b q => vau_ne q) (fun b q => vau_ne q) ?_) (va_S_new hS z1 o1)
  have hkk : mK (nA M kd (ix n)) (mS M) = kd := vau_eq
  have hnn : mN (nA M kd (ix n)) (mS M) = ix n := vau_eq
  have hQQ : mQ (nA M kd (ix n)) (mS M) = fun _ => none := vau_eq
  refine ⟨fun g => by rw [hkk] at g; omega, fun g => by rw [hkk] at g; omega, fun g => by rw [hkk] at g; omega, fun g => by rw [hkk] at g; omega, fun g => ?_⟩
  rw [hnn, hQQ, hkk]
  exact e1
theorem xr_new (hx : p.tables.exec = Jvm.exec) (hb : c.code = cc) (hts : ∀ w ∈ Ts, w.before args s = true) (hin : ∀ w ∈ u_ws C T N, w ∈ Ts) (hown : s.vm.findClass own = some m.cls) (hK : va_K D vwCl (tysC cy) s) (hP : Hp b0 D cy M H) (hS : va_S (BA b0) H0 H locs) (hb0 : b0 ≤ H0.size) (ci : Nat) (hc : vwCl[ci]? = some (C, T, N)) (ty0 : Nat → FieldType) (hty : ∀ k, k < N → parseFieldDescriptor (T k).2.2.1 = some (ty0 k)) (hdf : ∀ k, k < N → defaultValue (ty0 k) = if tyO ci k = 0 then .int 0 else if tyO ci k = 1 then .long 0 else .null) (hl : Cond.classLink own idx C ∈ Ts) (hli : Cond.instantiable C N ∈ Ts) (hln : Cond.initialized C ∈ Ts) (hcells : cells + 1 ≤ R.cells) (hslots : slots + N ≤ R.slots) (hd : decode cc pc = .ok (.new idx, 3)) (hkd : kd = ci + 1)
    (kk : ∀ (H : Heap), Hp b0 D cy (nO M kd) H → va_S (BA b0) H0 H locs → W p l e R s m args below meth c H locs (cells + 1) (slots + N) Q (F0 m (pc + 3) ls (.ref (mS M) :: rest))) : W p l e R s m args below meth c H locs cells slots Q (F0 m pc ls rest) := by
  subst hkd
  have hKn := hK.1 ci _ hc
  have hbH : b0 ≤ H.size := Nat.le_trans hb0 hS.1
  refine W.newcK hx hb hown (hts _ hl) (hts _ hli) (hts _ hln) rfl hd hcells hslots hKn.2.1 rfl fun H1 kC hkC e1 z1 o1 => ?_
  refine W.eq (g2 := F0 m (pc + 3) ls (.ref (mS M) :: rest)) (by rw [← hP.1]) ?_
  have hb1 := u_born ty0 hts hin hKn hkC e1 hty
  rw [hP.1] at hb1
  refine kk H1 (Hp_new hP hbH z1 o1 rfl (fun b q => vau_ne q) (fun _ _ => rfl) (fun b q k => if_neg q) (fun b q k => if_neg q) (fun b q k => if_neg q) (fun _ _ => rfl) (fun _ _ => rfl) (fun _ _ => rfl) ?_) (va_S_new hS z1 o1)
  have hkk : mK (nO M (ci + 1)) (mS M) = ci + 1 := vau_eq
  have hlt : ci < 12 := (List.getElem?_eq_some_iff.mp hc).1
  refine ⟨fun _ => ?_, fun g => by rw [hkk] at g; omega, fun g => by rw [hkk] at g; omega, fun g => by rw [hkk] at g; omega, fun g => by rw [hkk] at g; omega⟩
  rw [hkk]
  refine ⟨_, hc, hb1.to (fun j hj => ?_)⟩
  rw [hdf j hj]
  show _ = fv (nO M (ci + 1)) ci j (mS M)
  simp [fv, nO, mI, mJ, mR, mS, va_rf]
theorem xr_cpI (hx : p.tables.exec = Jvm.exec) (hb : c.code = cc) (hml : c.maxLocals = ls.size) (hts : ∀ w ∈ Ts, w.before args s = true) (hown : s.vm.findClass own = some m.cls) (hK : va_K D vwCl (tysC cy) s) (hP : Hp b0 D cy M H) (hS : va_S (BA b0) H0 H locs) {a2 : Nat} {i j n : Int32} {f : Mm → Option ρ} (hF : (cpI M a i a2 j n).bind f = some r) (hl : Cond.methodLink own idx arraycopyName ∈ Ts) (hw : Cond.native arraycopyName ∈ Ts ∧ Cond.static arraycopyName ∈ Ts ∧ Cond.initialized "java/lang/System" ∈ Ts) (hframes : 1 ≤ R.frames) (hlocals : (rest.map fun v => v.category).sum + (nativeFrameWords "java/lang/System" "arraycopy" 5 + 11) ≤ R.locals) (hd : decode cc pc = .ok (.invokestatic idx, 3))
    (kk : ∀ (M : Mm) (H : Heap) (locs : List Loc), f M = some r → Hp b0 D cy M H → va_S (BA b0) H0 H locs → W p l e R s m args below meth c H locs cells slots Q (F0 m (pc + 3) ls rest)) : W p l e R s m args below meth c H locs cells slots Q (F0 m pc ls (.int n :: .int j :: .ref a2 :: .int i :: .ref a :: rest)) := by
  obtain ⟨M1, h1, h2⟩ := ob_some hF
  obtain ⟨k1, h1⟩ := if_some h1
  obtain ⟨k2, h1⟩ := if_some h1
  obtain ⟨k3, h1⟩ := if_some h1
  obtain ⟨k4, h1⟩ := if_some h1
  obtain ⟨k5, h1⟩ := if_some h1
  obtain ⟨k6, h1⟩ := if_some h1
  obtain ⟨k7, h1⟩ := if_some h1
  have h7 : sA M a2 (va_cpy (mA M a) (mA M a2) (ix i) (ix j) (ix n)) = M1 := Option.some.inj h1
  subst h7
  have nn : ∀ z : Int32, 0 ≤ z.toInt → ¬ z < 0 := fun z hz q => by
    have := Int32.lt_iff_toInt_lt.mp q
    simp at this
    omega
  have tn : ∀ z : Int32, 0 ≤ z.toInt → (z.toNatClampNeg : Int) = z.toInt := fun z hz => by show ((z.toInt.toNat : Nat) : Int) = _; omega
  have c0 := Hp_I hP k1
  have c1 := Hp_I hP k2
  have e6 : i.toNatClampNeg + n.toNatClampNeg ≤ mN M a := by have := tn i k3; have := tn n k5; omega
  have e7 : j.toNatClampNeg + n.toNatClampNeg ≤ mN M a2 := by have := tn j k4; have := tn n k5; omega
  intro T hT X
  obtain ⟨-, kk0, hk0, cm0, hkk0⟩ := (hK.2 0 _ rfl).1 (mN M a) (fun j => .int (mA M a j))
  obtain ⟨vm', X', step⟩ := X.arraycopy hx hown (hts _ hl) (hts _ hw.1) (hts _ hw.2.1) (hts _ hw.2.2) (src := a) (dst := a2) (cs := arrV (cy 0) (mN M a) (fun j => .int (mA M a j))) (cd := arrV (cy 0) (mN M a2) (fun j => .int (mA M a2 j))) (srcPos := i) (destPos := j) (n := n) (by rw [hT]; exact c0.2) (by rw [hT]; exact c1.2)
    (fun _ h => by cases h) (fun _ h => by cases h) (fun h => by cases h) (fun h => by cases h) hk0 hk0 hkk0 hkk0 (by simp [refKind]) (nn i k3) (nn j k4) (nn n k5)
    (by rw [arrV_size]; omega) (by rw [arrV_size]; omega)
    (fun vm₁ _ q hq => by
      have e : (arrV (cy 0) (mN M a) (fun j => .int (mA M a j))).slots.getD (i.toNatClampNeg + q) .null = .int (mA M a (i.toNatClampNeg + q)) := by
        rw [Array.getD_eq_getD_getElem?, arrV_read _ _ (by omega)]
        rfl
      refine ⟨?_, ?_⟩
      · rw [e]; rfl
      · rw [e]; exact trivial)
    (g := F0 m pc ls (.int n :: .int j :: .ref a2 :: .int i :: .ref a :: rest)) rfl (by rw [hml]) (rest := rest) rfl (by rw [hb]; exact hd) hframes (by show 2 * 0 + _ + _ ≤ _; omega)
  have e1 : copied (arrV (cy 0) (mN M a) (fun j => .int (mA M a j))) (arrV (cy 0) (mN M a2) (fun j => .int (mA M a2 j))) i j n = arrV (cy 0) (mN M a2) (fun q => .int (va_cpy (mA M a) (mA M a2) (ix i) (ix j) (ix n) q)) := va_copied (fun z => .int z) _ _ _ _ e6
  rw [e1] at X' step
  have hl2 : a2 < H.size := (Array.getElem?_eq_some_iff.mp c1.2).1
  have hheap : ((T.setVm vm').setCell a2 (arrV (cy 0) (mN M a2) (fun q => .int (va_cpy (mA M a) (mA M a2) (ix i) (ix j) (ix n) q)))).heap = H.setIfInBounds a2 (arrV (cy 0) (mN M a2) (fun q => .int (va_cpy (mA M a) (mA M a2) (ix i) (ix j) (ix n) q))) := by rw [← hT]; rfl
  generalize hH1 : H.setIfInBounds a2 (arrV (cy 0) (mN M a2) (fun q => .int (va_cpy (mA M a) (mA M a2) (ix i) (ix j) (ix n) q))) = H1 at hheap
  have oq : ∀ q : Nat, q ≠ a2 → H1[q]? = H[q]? := fun q hq => by rw [← hH1]; simp [Array.getElem?_setIfInBounds, Ne.symm hq]
  have z1 : H1.size = H.size := by rw [← hH1]; simp
  have ec : H1[a2]? = some (arrV (cy 0) (mN M a2) (fun q => .int (va_up (mA M) a2 (va_cpy (mA M a) (mA M a2) (ix i) (ix j) (ix n)) a2 q))) := by rw [← hH1, vau_eq]; simp [Array.getElem?_setIfInBounds, hl2]
  obtain ⟨t, a1, b1⟩ := kk _ H1 _ h2 (Hp_of (a := a2) hP z1 oq rfl rfl rfl (fun _ _ _ => rfl) (fun _ _ _ => rfl) (fun _ _ _ => rfl) (fun b q => vau_ne q) (fun _ _ => rfl) (fun _ _ => rfl) (fun _ => ⟨fun g => by have g2 : mK M a2 ≤ 12 := g; omega, fun _ => ec, fun g => by have g2 : mK M a2 = 21 := g; omega, fun g => by have g2 : mK M a2 = 22 := g; omega, fun g => by have g2 : 23 ≤ mK M a2 := g; omega⟩))
    ⟨by rw [z1]; exact hS.1, fun q g1 g2 => by rw [oq q (fun e => g2 (by rw [e]; exact c1.1))]; exact hS.2.1 q g1 g2, fun q hq => by
      rcases List.mem_append.mp hq with h | h
      · exact hS.2.2 q h
      · obtain ⟨z, -, hz⟩ := List.mem_map.mp h
        rw [← hz]
        exact c1.1⟩ _ hheap X'
  exact ⟨t, step t a1, b1⟩
theorem xr_cpJ (hx : p.tables.exec = Jvm.exec) (hb : c.code = cc) (hml : c.maxLocals = ls.size) (hts : ∀ w ∈ Ts, w.before args s = true) (hown : s.vm.findClass own = some m.cls) (hK : va_K D vwCl (tysC cy) s) (hP : Hp b0 D cy M H) (hS : va_S (BA b0) H0 H locs) {a2 : Nat} {i j n : Int32} {f : Mm → Option ρ} (hF : (cpJ M a i a2 j n).bind f = some r) (hl : Cond.methodLink own idx arraycopyName ∈ Ts) (hw : Cond.native arraycopyName ∈ Ts ∧ Cond.static arraycopyName ∈ Ts ∧ Cond.initialized "java/lang/System" ∈ Ts) (hframes : 1 ≤ R.frames) (hlocals : (rest.map fun v => v.category).sum + (nativeFrameWords "java/lang/System" "arraycopy" 5 + 11) ≤ R.locals) (hd : decode cc pc = .ok (.invokestatic idx, 3))
    (kk : ∀ (M : Mm) (H : Heap) (locs : List Loc), f M = some r → Hp b0 D cy M H → va_S (BA b0) H0 H locs → W p l e R s m args below meth c H locs cells slots Q (F0 m (pc + 3) ls rest)) : W p l e R s m args below meth c H locs cells slots Q (F0 m pc ls (.int n :: .int j :: .ref a2 :: .int i :: .ref a :: rest)) := by
  obtain ⟨M1, h1, h2⟩ := ob_some hF
  obtain ⟨k1, h1⟩ := if_some h1
  obtain ⟨k2, h1⟩ := if_some h1
  obtain ⟨k3, h1⟩ := if_some h1
  obtain ⟨k4, h1⟩ := if_some h1
  obtain ⟨k5, h1⟩ := if_some h1
  obtain ⟨k6, h1⟩ := if_some h1
  obtain ⟨k7, h1⟩ := if_some h1
  have h7 : sB M a2 (va_cpy (mB M a) (mB M a2) (ix i) (ix j) (ix n)) = M1 := Option.some.inj h1
  subst h7
  have nn : ∀ z : Int32, 0 ≤ z.toInt → ¬ z < 0 := fun z hz q => by
    have := Int32.lt_iff_toInt_lt.mp q
    simp at this
    omega
  have tn : ∀ z : Int32, 0 ≤ z.toInt → (z.toNatClampNeg : Int) = z.toInt := fun z hz => by show ((z.toInt.toNat : Nat) : Int) = _; omega
  have c0 := Hp_J hP k1
  have c1 := Hp_J hP k2
  have e6 : i.toNatClampNeg + n.toNatClampNeg ≤ mN M a := by have := tn i k3; have := tn n k5; omega
  have e7 : j.toNatClampNeg + n.toNatClampNeg ≤ mN M a2 := by have := tn j k4; have := tn n k5; omega
  intro T hT X
  obtain ⟨-, kk0, hk0, cm0, hkk0⟩ := (hK.2 1 _ rfl).1 (mN M a) (fun j => .long (mB M a j))
  obtain ⟨vm', X', step⟩ := X.arraycopy hx hown (hts _ hl) (hts _ hw.1) (hts _ hw.2.1) (hts _ hw.2.2) (src := a) (dst := a2) (cs := arrV (cy 1) (mN M a) (fun j => .long (mB M a j))) (cd := arrV (cy 1) (mN M a2) (fun j => .long (mB M a2 j))) (srcPos := i) (destPos := j) (n := n) (by rw [hT]; exact c0.2) (by rw [hT]; exact c1.2)
    (fun _ h => by cases h) (fun _ h => by cases h) (fun h => by cases h) (fun h => by cases h) hk0 hk0 hkk0 hkk0 (by simp [refKind]) (nn i k3) (nn j k4) (nn n k5)
    (by rw [arrV_size]; omega) (by rw [arrV_size]; omega)
    (fun vm₁ _ q hq => by
      have e : (arrV (cy 1) (mN M a) (fun j => .long (mB M a j))).slots.getD (i.toNatClampNeg + q) .null = .long (mB M a (i.toNatClampNeg + q)) := by
        rw [Array.getD_eq_getD_getElem?, arrV_read _ _ (by omega)]
        rfl
      refine ⟨?_, ?_⟩
      · rw [e]; rfl
      · rw [e]; exact trivial)
    (g := F0 m pc ls (.int n :: .int j :: .ref a2 :: .int i :: .ref a :: rest)) rfl (by rw [hml]) (rest := rest) rfl (by rw [hb]; exact hd) hframes (by show 2 * 0 + _ + _ ≤ _; omega)
  have e1 : copied (arrV (cy 1) (mN M a) (fun j => .long (mB M a j))) (arrV (cy 1) (mN M a2) (fun j => .long (mB M a2 j))) i j n = arrV (cy 1) (mN M a2) (fun q => .long (va_cpy (mB M a) (mB M a2) (ix i) (ix j) (ix n) q)) := va_copied (fun z => .long z) _ _ _ _ e6
  rw [e1] at X' step
  have hl2 : a2 < H.size := (Array.getElem?_eq_some_iff.mp c1.2).1
  have hheap : ((T.setVm vm').setCell a2 (arrV (cy 1) (mN M a2) (fun q => .long (va_cpy (mB M a) (mB M a2) (ix i) (ix j) (ix n) q)))).heap = H.setIfInBounds a2 (arrV (cy 1) (mN M a2) (fun q => .long (va_cpy (mB M a) (mB M a2) (ix i) (ix j) (ix n) q))) := by rw [← hT]; rfl
  generalize hH1 : H.setIfInBounds a2 (arrV (cy 1) (mN M a2) (fun q => .long (va_cpy (mB M a) (mB M a2) (ix i) (ix j) (ix n) q))) = H1 at hheap
  have oq : ∀ q : Nat, q ≠ a2 → H1[q]? = H[q]? := fun q hq => by rw [← hH1]; simp [Array.getElem?_setIfInBounds, Ne.symm hq]
  have z1 : H1.size = H.size := by rw [← hH1]; simp
  have ec : H1[a2]? = some (arrV (cy 1) (mN M a2) (fun q => .long (va_up (mB M) a2 (va_cpy (mB M a) (mB M a2) (ix i) (ix j) (ix n)) a2 q))) := by rw [← hH1, vau_eq]; simp [Array.getElem?_setIfInBounds, hl2]
  obtain ⟨t, a1, b1⟩ := kk _ H1 _ h2 (Hp_of (a := a2) hP z1 oq rfl rfl rfl (fun _ _ _ => rfl) (fun _ _ _ => rfl) (fun _ _ _ => rfl) (fun _ _ => rfl) (fun b q => vau_ne q) (fun _ _ => rfl) (fun _ => ⟨fun g => by have g2 : mK M a2 ≤ 12 := g; omega, fun g => by have g2 : mK M a2 = 20 := g; omega, fun _ => ec, fun g => by have g2 : mK M a2 = 22 := g; omega, fun g => by have g2 : 23 ≤ mK M a2 := g; omega⟩))
    ⟨by rw [z1]; exact hS.1, fun q g1 g2 => by rw [oq q (fun e => g2 (by rw [e]; exact c1.1))]; exact hS.2.1 q g1 g2, fun q hq => by
      rcases List.mem_append.mp hq with h | h
      · exact hS.2.2 q h
      · obtain ⟨z, -, hz⟩ := List.mem_map.mp h
        rw [← hz]
        exact c1.1⟩ _ hheap X'
  exact ⟨t, step t a1, b1⟩
end XRows2
