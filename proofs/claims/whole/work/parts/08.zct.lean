/-! A contract's walk for a method of a class some of whose methods the machine runs by itself (java.lang.Math): the method has no such row. -/
theorem ct_ofF {l : Launch} {y : MethodName} {cc : ByteArray} {nL : Nat} {ret : Option FieldType} {ws ws' : List Cond} {rm : Room} {b0 : Nat} {D : va_G} {cy : Nat → ClassId} {M M1 : Mm} {ov : Option Value} {mc ms : Nat} (av : List Value) (hy : plainFor y = true) (hw : ws = Cond.code y cc nL ret :: ws')
    (body : ∀ p e s m below meth c, Cx y cc nL ret ws b0 D cy p s m av.toArray meth c → Hp b0 D cy M s.heap → W p l e rm s m av.toArray below meth c s.heap [] 0 0 (MQ below (Qm b0 D cy M1 ov) av.toArray s mc ms (BA b0)) (F0 m 0 ((lg_sl av ++ List.replicate (nL - (lg_sl av).length) Slot.unset).toArray) [])) :
    Met l y ws rm (va_Pc av (Pm b0 D cy M)) (Qm b0 D cy M1 ov) mc ms (BA b0) := by
  refine MetFree.of_bodySF (code := cc) (maxLocals := nL) (ret := ret) hy ?_ ?_
  · intro args s m h hn
    obtain ⟨meth, c, h1, h2, h3, h4, h5, h6, -, -⟩ := Cond.code_spec hn (atoms_spec (ws := ws) h _ (by rw [hw]; exact List.mem_cons_self))
    exact ⟨meth, c, h1, h2, h3, h4, h5, h6⟩
  · intro p e s m args below meth c s₁ B hml hv _
    obtain ⟨rfl, hP, hK, hN, hb0⟩ := hv
    have hh0 : s₁.heap = s.heap := by rw [B.state]; rfl
    have Wb := body p e s m below meth c ⟨B.exec, B.bytes, B.returns, hml, findClass_of_methodNamed B.named, atoms_spec (ws := ws) B.pre, B.notSynchronized, hK, hN, hb0, (name_of_methodNamed B.named B.method).1⟩ hP
    rw [← lg_entry_eq] at Wb
    obtain ⟨t, a1, o, b1, b2, b3⟩ := Wb s₁ hh0 (Stand.of_body B)
    exact ⟨t, o, a1, b1, b2, ⟨b3.1, b3.2⟩⟩
