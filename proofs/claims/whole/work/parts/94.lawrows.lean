/-! THE CLAIM OUT OF ONE WALK OF THE LAW'S BODY. Your part is whole_start (and what it stands on); all else here is the same for every law, but numbers. -/
def R_law : String := "HeaderLineLaw"
def lw_P (b : Addr) (xs : List Int32) (args : Array Value) (s : State) : Prop := args = #[.ref b] ∧ s.IntsAt b xs ∧ xs.length ≤ 3073 ∧ (Jvm.Cond.and given_1 narrow_1).before args s = true
def lw_Q (_ : Array Value) (s : State) (o : Outcome) (t : State) : Prop := o = .returned (some (.int 1)) ∧ Framed s o t [] 600000 7302250
def lw_Z (below : List Frame) (a : Array Value) (s : State) : State → Prop := fun t => ∃ o, t.status = .running ∧ Ended t below o ∧ lw_Q a s o t
/-- the law's own end, with 1 on the stack, nothing written that was there before, its room as the claim has it -/
theorem lw_ret {p : Program} {l : Launch} {e : Env} {s : State} {m : MethodId} {below : List Frame} {meth : Method} {c : Code} {b : Nat} (hx : p.tables.exec = Jvm.exec) (hb : c.code = code) (hr : meth.sig.returnType = ret) (hlocks : meth.locks = false) {pc : Nat} {H : Heap} {ls : Array Slot} (hdg : decode code pc = .ok (.ireturn, 1)) : W p l e room_1 s m #[Value.ref b] below meth c H [] 600000 7302250 (lw_Z below #[Value.ref b] s) (F0 m pc ls [.int 1]) := by
  intro T hT X
  obtain ⟨fs, hret, hrun, hended, hW, hframe⟩ := X.leave (v := some (.int 1)) (hlocks := hlocks) (fun h => by rw [hr] at h; cases h)
  have hmeth' : T.vm.method? m = some meth := X.method'
  refine ⟨T.setFrames fs, ?_, .returned (some (.int 1)), hrun, hended, rfl, ⟨_, rfl⟩, hW, hframe⟩
  jvm_step X.here [X.here.top, hx, hb, hdg, hmeth', hr, ret, narrow_b1]
  (try refine ⟨rfl, ?_⟩); (try refine ⟨rfl, ?_⟩)
  first | (intro acts; rw [hret _ acts rfl rfl rfl]) | rw [hret _ _ rfl rfl rfl]
  exact Steps.refl _
/-- what holds at the law's entry: the machine, the code, the tables' words (any of lw_tbl by 'hts w (by decide +kernel)'), the script of L ints xs at the cell b, what the Statement gives of the start (any of its parts by flat_of_before) -/
def lw_At (p : Program) (s : State) (m : MethodId) (meth : Method) (c : Code) (b L : Nat) (xs : Nat → Int32) : Prop :=
  p.tables.exec = Jvm.exec ∧ c.code = code ∧ meth.sig.returnType = ret ∧ c.maxLocals = 4 ∧ s.vm.findClass R_law = some m.cls ∧ (∀ w ∈ lw_tbl, w.before #[Value.ref b] s = true) ∧ va_X b L xs s s.heap ∧ b < s.heap.size ∧ meth.locks = false ∧ (Jvm.Cond.and given_1 narrow_1).before #[Value.ref b] s = true
section LRows
variable {p : Program} {l : Launch} {e : Env} {R : Room} {s : State} {m : MethodId} {args : Array Value} {below : List Frame} {meth : Method} {c : Code} {H : Heap} {locs : List Loc} {cells slots : Nat} {Q : State → Prop} {cc : ByteArray} {pc : Nat} {ls : Array Slot} {rest : List Value} {A : Nat → Prop} {H0 : Heap} {ρ : Type} {r : ρ}
theorem xs_ld (hx : p.tables.exec = Jvm.exec) (hb : c.code = cc) {b L : Nat} {xs : Nat → Int32} (hX : va_X b L xs s H0) (hbl : b < H0.size) (hbA : ¬ A b) (hS : va_S A H0 H locs) {i : Int32} {f : Int32 → Option ρ} (hF : (sx L xs i).bind f = some r) (hd : decode cc pc = .ok (.iaload, 1))
    (kk : ∀ v : Int32, f v = some r → W p l e R s m args below meth c H locs cells slots Q (F0 m (pc + 1) ls (.int v :: rest))) : W p l e R s m args below meth c H locs cells slots Q (F0 m pc ls (.int i :: .ref b :: rest)) := by
  obtain ⟨v, h1, h2⟩ := ob_some hF
  unfold sx at h1
  obtain ⟨h3, h4⟩ := if_some h1
  cases h4
  exact va_sld hx hb hX hbl hbA hS (vin_in h3) hd (kk _ h2)
theorem xs_len (hx : p.tables.exec = Jvm.exec) (hb : c.code = cc) {b L : Nat} {xs : Nat → Int32} (hX : va_X b L xs s H0) (hbl : b < H0.size) (hbA : ¬ A b) (hS : va_S A H0 H locs) (hd : decode cc pc = .ok (.arraylength, 1))
    (kk : W p l e R s m args below meth c H locs cells slots Q (F0 m (pc + 1) ls (.int (nI L) :: rest))) : W p l e R s m args below meth c H locs cells slots Q (F0 m pc ls (.ref b :: rest)) := va_slen hx hb hX hbl hbA hS hd kk
end LRows
theorem no_01 (M M1 : Mm) : ¬ (some (M, (0 : Int32)) = some (M1, 1)) := fun h => absurd (Prod.mk.inj (Option.some.inj h)).2 (by decide)
theorem law_end {p : Program} {l : Launch} {e : Env} {s : State} {m : MethodId} {below : List Frame} {meth : Method} {c : Code} {b : Nat} (hx : p.tables.exec = Jvm.exec) (hb : c.code = cL_law) (hr : meth.sig.returnType = ret) (hlocks : meth.locks = false) {cells slots : Nat} (hc : cells + 5 ≤ 600000) (hs : slots + 93 ≤ 7302250) {H : Heap} {locs : List Loc} {ls : Array Slot} {pc : Nat} (hS : va_S (BA s.heap.size) s.heap H locs) (hd : decode cL_law pc = .ok (.ireturn, 1)) : W p l e room_1 s m #[Value.ref b] below meth c H locs cells slots (lw_Z below #[Value.ref b] s) (F0 m pc ls [.int 1]) := by
  refine va_forget (fun q hq => hS.2.2 q hq) ?_
  refine W.widen (k := 600000) (n := 7302250) (by omega) (by omega) ?_
  exact lw_ret hx hb hr hlocks hd
def CL (p : Program) (s : State) (m : MethodId) (meth : Method) (c : Code) (b L : Nat) (xs : Nat → Int32) (D : va_G) (cy : Nat → ClassId) : Prop :=
  p.tables.exec = Jvm.exec ∧ c.code = cL_law ∧ meth.sig.returnType = ret ∧ c.maxLocals = 4 ∧ s.vm.findClass RL = some m.cls ∧ (∀ w ∈ wsL_law, w.before #[Value.ref b] s = true) ∧ meth.locks = false ∧ va_K D vwCl (tysC cy) s ∧ NK s ∧ va_X b L xs s s.heap ∧ b < s.heap.size
abbrev rm_L_cell : Room := { frames := 0, cells := 0, slots := 0, locals := 0 }
theorem ct_L_cell (l : Launch) (b0 : Nat) (D : va_G) (cy : Nat → ClassId) (M : Mm) (L : Nat) (xs : Nat → Int32) (b : Nat) : Met l yL_cell wsL_cell rm_L_cell (va_Pc [.ref b, .int 0] (fun U => Pm b0 D cy M U ∧ va_X b L xs U U.heap ∧ b < b0)) (Qm b0 D cy M (some (.int (f_L_cell L xs 0)))) 0 0 (BA b0) := by
  refine Met.ofW (cc := cL_cell) (maxL := 2) (ret := some .int) (by decide) rfl ?_
  intro p e s m args below meth c s₁ B hml hv
  obtain ⟨rfl, ⟨hP, hK, hN, hb0⟩, hX, hlt⟩ := hv
  rw [lg_entry_eq]
  have hx := B.exec
  have hb := B.bytes
  have hr := B.returns
  have hlk := B.notSynchronized
  have hS : va_S (BA b0) s.heap s.heap [] := va_S.rf
  have hbA : ¬ BA b0 b := Nat.not_le.mpr hlt
  have hbl : b < s.heap.size := Nat.lt_of_lt_of_le hlt hb0
  have hl := lv_entry [.ref b, .int 0] (n := 2) (Nat.le_of_ble_eq_true rfl)
  generalize (lg_sl ([.ref b, .int 0]) ++ List.replicate (2 - (lg_sl ([.ref b, .int 0])).length) Slot.unset).toArray = ls at hl ⊢
  have hl : lv_has ls 2 [(0, .ref b), (1, .int 0)] := hl
  refine lv_iload_n hx hb dL_cell_0 rfl (lv_at hl 1 rfl) ?_
  refine lv_aload_n hx hb dL_cell_1 rfl (lv_at hl 0 rfl) ?_
  refine xs_len hx hb hX hbl hbA hS dL_cell_2 ?_
  refine lv_icmp_ge (tgt := 12) hx hb dL_cell_3 (by decide) (fun c1 => ?_) (fun c1 => ?_)
  · refine lv_iconst (v := 0) hx hb dL_cell_12 (by decide) ?_
    exact W.iret hx hb hr (fun t ht hW => ⟨by rw [show f_L_cell L xs 0 = 0 from if_pos c1], by rw [ht]; exact hP, hS.F ht⟩) hS.2.2 dL_cell_13 hlk
  · have hin : vp_in (0 : Int32) L := by
      rcases Nat.eq_zero_or_pos L with h | h
      · exact absurd (by rw [h]; decide) c1
      · exact fun q => by
          rcases q with q | q
          · exact absurd q (by decide)
          · exact absurd q (Nat.not_le.mpr h)
    refine lv_aload_n hx hb dL_cell_6 rfl (lv_at hl 0 rfl) ?_
    refine lv_iload_n hx hb dL_cell_7 rfl (lv_at hl 1 rfl) ?_
    refine va_sld hx hb hX hbl hbA hS hin dL_cell_8 ?_
    refine lv_goto (tgt := 13) hx hb dL_cell_9 (by decide) ?_
    exact W.iret hx hb hr (fun t ht hW => ⟨by rw [show f_L_cell L xs 0 = xs (ix 0) from if_neg c1]; rfl, by rw [ht]; exact hP, hS.F ht⟩) hS.2.2 dL_cell_13 hlk
theorem xp_C {s : State} {D : va_G} {cy : Nat → ClassId} {M : Mm} {H : Heap} {locs : List Loc} {b L : Nat} {xs : Nat → Int32} (hP : Hp s.heap.size D cy M H) (hK : va_K D vwCl (tysC cy) s) (hN : NK s) (hS : va_S (BA s.heap.size) s.heap H locs) (hX : va_X b L xs s s.heap) (hbl : b < s.heap.size) : PreS s H (va_Pc [.ref b, .int 0] (fun U => Pm s.heap.size D cy M U ∧ va_X b L xs U U.heap ∧ b < s.heap.size)) [.ref b, .int 0] :=
  ⟨fun a U g mk q => ⟨q.1, ⟨q.2.1.1, va_K.moved (u := U) (U := U.calling g mk a) (Vm.Alike.refl U.vm) q.2.1.2.1, NK.same (u := U) (U := U.calling g mk a) rfl q.2.1.2.2.1, q.2.1.2.2.2⟩, va_X.moved (u := U) (U := U.calling g mk a) (Vm.Alike.refl U.vm) q.2.2.1, q.2.2.2⟩,
    fun U hU hW => ⟨rfl, ⟨by rw [hU]; exact hP, va_K.moved hW.alike hK, NK.warm hW hN, by rw [hU]; exact hS.1⟩, va_X.moved hW.alike (by rw [hU]; exact hX.kept (hS.2.1 b hbl (Nat.not_le.mpr hbl))), hbl⟩⟩
