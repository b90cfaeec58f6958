/-! X11_wholeBits -/
theorem iw_X11_wholeBits_11 : ∀ w ∈ u_ws RX11 TX11 58, w ∈ wsX11_wholeBits := by decide +kernel
abbrev rm_X11_wholeBits : Room := { frames := 1, cells := 0, slots := 0, locals := 21 }
set_option maxHeartbeats 4000000 in
set_option maxRecDepth 100000 in
theorem nd_X11_wholeBits_34 {p : Program} {l : Launch} {e : Env} {s : State} {m : MethodId} {args : Array Value} {below : List Frame} {meth : Method} {c : Code} {b0 : Nat} {D : va_G} {cy : Nat → ClassId} {r : Int32} {M : Mm} (CX : Cx yX11_wholeBits cX11_wholeBits 3 (some .int) wsX11_wholeBits b0 D cy p s m args meth c) (k5 : Nat → Int32 → Int32 → Option Int32) (hk5 : ∀ (x0 : Nat) (x1 : Int32) (x2 : Int32) (H : Heap) (locs : List Loc) (ls : Array Slot), k5 x0 x1 x2 = some r → Hp b0 D cy M H → va_S (BA b0) s.heap H locs → lv_has ls 3 [(0, .ref x0), (1, .int x1), (2, .int x2)] → W p l e rm_X11_wholeBits s m args below meth c H locs 0 0 (MQ below (Qm b0 D cy M (some (.int r))) args s 0 0 (BA b0)) (F0 m 5 ls [])) : ∀ (x0 : Nat) (x2 : Int32) (s0 : Int32) (s1 : Int32) (s2 : Int32) (H : Heap) (locs : List Loc) (ls : Array Slot), f_X11_wholeBits_J34 k5 M x0 x2 s0 s1 s2 = some r → Hp b0 D cy M H → va_S (BA b0) s.heap H locs → lv_has ls 3 [(0, .ref x0), (2, .int x2)] → W p l e rm_X11_wholeBits s m args below meth c H locs 0 0 (MQ below (Qm b0 D cy M (some (.int r))) args s 0 0 (BA b0)) (F0 m 34 ls [.int s2, .int s1, .int s0]) := by
  obtain ⟨hx, hb, hr, hml, hown0, hts, hlk, hK, hN, hb0, hnm⟩ := id CX
  have hown : s.vm.findClass RX11 = some m.cls := hown0
  intro x0 x2 s0 s1 s2 H locs ls hF hP hS hl
  unfold f_X11_wholeBits_J34 at hF
  refine lv_iadd hx hb dX11_wholeBits_34 ?_
  refine lv_iadd hx hb dX11_wholeBits_35 ?_
  refine lv_istore_n (lv' := [(1, .int (s0 + (s1 + s2))), (0, .ref x0), (2, .int x2)]) hx hb dX11_wholeBits_36 rfl hl (by decide) (by first | rfl | simp [cat_rf]) (fun ls hl => ?_)
  refine lv_iinc (v := x2 + 1) (lv' := [(2, .int (x2 + 1)), (1, .int (s0 + (s1 + s2))), (0, .ref x0)]) hx hb dX11_wholeBits_37 hl (k := 2) rfl (by rfl) (by decide) rfl (fun ls hl => ?_)
  refine lv_goto (tgt := 5) hx hb dX11_wholeBits_40 (by decide) ?_
  exact hk5 _ _ _ _ _ _ hF hP hS (lv_sub hl [2, 1, 0] rfl)
set_option maxHeartbeats 4000000 in
set_option maxRecDepth 100000 in
theorem nd_X11_wholeBits_5 {p : Program} {l : Launch} {e : Env} {s : State} {m : MethodId} {args : Array Value} {below : List Frame} {meth : Method} {c : Code} {b0 : Nat} {D : va_G} {cy : Nat → ClassId} {r : Int32} {M : Mm} (CX : Cx yX11_wholeBits cX11_wholeBits 3 (some .int) wsX11_wholeBits b0 D cy p s m args meth c) : ∀ (fu : Nat), ∀ (x0 : Nat) (x1 : Int32) (x2 : Int32) (H : Heap) (locs : List Loc) (ls : Array Slot), f_X11_wholeBits_L5 M fu x0 x1 x2 = some r → Hp b0 D cy M H → va_S (BA b0) s.heap H locs → lv_has ls 3 [(0, .ref x0), (1, .int x1), (2, .int x2)] → W p l e rm_X11_wholeBits s m args below meth c H locs 0 0 (MQ below (Qm b0 D cy M (some (.int r))) args s 0 0 (BA b0)) (F0 m 5 ls []) := by
  obtain ⟨hx, hb, hr, hml, hown0, hts, hlk, hK, hN, hb0, hnm⟩ := id CX
  have hown : s.vm.findClass RX11 = some m.cls := hown0
  intro fu
  induction fu with
  | zero =>
    intro x0 x1 x2 H locs ls hF hP hS hl
    rw [f_X11_wholeBits_L5] at hF
    cases hF
  | succ fu ih =>
    intro x0 x1 x2 H locs ls hF hP hS hl
    rw [f_X11_wholeBits_L5] at hF
    refine lv_iload_n hx hb dX11_wholeBits_5 rfl (lv_at hl 2 rfl) ?_
    refine lv_aload_n hx hb dX11_wholeBits_6 rfl (lv_at hl 0 rfl) ?_
    refine xr_getI hx hb hts iw_X11_wholeBits_11 hown hK hP hF 11 1 rfl (by decide) (by decide +kernel) ⟨rfl, rfl, rfl⟩ dX11_wholeBits_7 (fun v1 hF => ?_)
    refine lv_icmp_ge (tgt := 43) hx hb dX11_wholeBits_10 (by decide) (fun c2 => ?_) (fun c2 => ?_)
    · replace hF := it_t hF c2
      refine lv_iload_n hx hb dX11_wholeBits_43 rfl (lv_at hl 1 rfl) ?_
      cases hF
      exact W.iret hx hb hr (fun t ht hW => ⟨rfl, by rw [ht]; exact hP, hS.F ht⟩) hS.2.2 dX11_wholeBits_44 hlk
    · replace hF := it_f hF c2
      refine lv_iload_n hx hb dX11_wholeBits_13 rfl (lv_at hl 1 rfl) ?_
      refine lv_aload_n hx hb dX11_wholeBits_14 rfl (lv_at hl 0 rfl) ?_
      refine xr_getR hx hb hts iw_X11_wholeBits_11 hown hK hP hF 11 3 rfl (by decide) (by decide +kernel) ⟨rfl, rfl, rfl⟩ dX11_wholeBits_15 (fun v3 hF => ?_)
      refine lv_iload_n hx hb dX11_wholeBits_18 rfl (lv_at hl 2 rfl) ?_
      refine xr_aI hx hb hK hP hF dX11_wholeBits_19 (fun v4 hF => ?_)
      refine lv_aload_n hx hb dX11_wholeBits_20 rfl (lv_at hl 0 rfl) ?_
      refine lv_iload_n hx hb dX11_wholeBits_21 rfl (lv_at hl 2 rfl) ?_
      obtain ⟨v6, h5, hF⟩ := ob_some hF
      refine xr_call1 (va_runV (As := [.int x2]) (rest := [.int v4, .int x1]) ⟨hx, hb, hml, hown, hts⟩ (ct_X11_runs l b0 D cy M x0 x2 v6 h5) (cwV 1 hts gX11_wholeBits_X11_runs rfl rfl rfl (by decide +kernel) ⟨Nat.le_of_ble_eq_true rfl, Nat.le_of_ble_eq_true rfl⟩) (xp_V hP hK hN hS hb0 11 rfl (gk_X11_runs h5)) rfl rfl hl.1 rfl (lv_room (Nat.le_of_ble_eq_true rfl)) dX11_wholeBits_22 ⟨Nat.le_of_ble_eq_true rfl, Nat.le_of_ble_eq_true rfl⟩) hS (fun H locs hP hS => ?_)
      refine lv_if_eq (tgt := 33) hx hb dX11_wholeBits_25 (by decide) (fun c7 => ?_) (fun c7 => ?_)
      · replace hF := it_t hF c7
        refine lv_iconst (v := 0) hx hb dX11_wholeBits_33 (by decide) ?_
        exact nd_X11_wholeBits_34 CX (f_X11_wholeBits_L5 M fu) ih _ _ _ _ _ _ _ _ hF hP hS (lv_sub hl [0, 2] rfl)
      · replace hF := it_f hF c7
        refine lv_bipush (v := 8) hx hb dX11_wholeBits_28 (by decide) ?_
        refine lv_goto (tgt := 34) hx hb dX11_wholeBits_30 (by decide) ?_
        exact nd_X11_wholeBits_34 CX (f_X11_wholeBits_L5 M fu) ih _ _ _ _ _ _ _ _ hF hP hS (lv_sub hl [0, 2] rfl)
theorem gk_X11_wholeBits {M : Mm} {a0 : Nat} {r : Int32} (h : f_X11_wholeBits M a0 = some r) : mK M a0 = 12 := by
  unfold f_X11_wholeBits at h
  exact (if_some h).1
set_option maxHeartbeats 4000000 in
set_option maxRecDepth 100000 in
theorem ct_X11_wholeBits (l : Launch) (b0 : Nat) (D : va_G) (cy : Nat → ClassId) (M : Mm) (a0 : Nat) (r : Int32) (hF : f_X11_wholeBits M a0 = some r) : Met l yX11_wholeBits wsX11_wholeBits rm_X11_wholeBits (va_Pc [.ref a0] (Pm b0 D cy M)) (Qm b0 D cy M (some (.int r))) 0 0 (BA b0) := by
  refine ct_of [.ref a0] (by decide) rfl ?_
  intro p e s m below meth c CX hP
  obtain ⟨hx, hb, hr, hml, hown0, hts, hlk, hK, hN, hb0, hnm⟩ := id CX
  have hown : s.vm.findClass RX11 = some m.cls := hown0
  have hS : va_S (BA b0) s.heap s.heap [] := va_S.rf
  have hl := lv_entry [.ref a0] (n := 3) (Nat.le_of_ble_eq_true rfl)
  generalize (lg_sl [.ref a0] ++ List.replicate (3 - (lg_sl [.ref a0]).length) Slot.unset).toArray = ls at hl ⊢
  have hl : lv_has ls 3 [(0, .ref a0)] := hl
  unfold f_X11_wholeBits at hF
  replace hF := (if_some hF).2
  refine lv_bipush (v := 26) hx hb dX11_wholeBits_0 (by decide) ?_
  refine lv_istore_n (lv' := [(1, .int 26), (0, .ref a0)]) hx hb dX11_wholeBits_2 rfl hl (by decide) (by first | rfl | simp [cat_rf]) (fun ls hl => ?_)
  refine lv_iconst (v := 0) hx hb dX11_wholeBits_3 (by decide) ?_
  refine lv_istore_n (lv' := [(2, .int 0), (1, .int 26), (0, .ref a0)]) hx hb dX11_wholeBits_4 rfl hl (by decide) (by first | rfl | simp [cat_rf]) (fun ls hl => ?_)
  exact nd_X11_wholeBits_5 CX _ _ _ _ _ _ _ hF hP hS (lv_sub hl [2, 1, 0] rfl)
/-! X11_spent -/
theorem iw_X11_spent_11 : ∀ w ∈ u_ws RX11 TX11 58, w ∈ wsX11_spent := by decide +kernel
abbrev rm_X11_spent : Room := { frames := 2, cells := 0, slots := 0, locals := 43 }
set_option maxHeartbeats 4000000 in
set_option maxRecDepth 100000 in
theorem nd_X11_spent_138 {p : Program} {l : Launch} {e : Env} {s : State} {m : MethodId} {args : Array Value} {below : List Frame} {meth : Method} {c : Code} {b0 : Nat} {D : va_G} {cy : Nat → ClassId} {M1 : Mm} {r : Int64} (CX : Cx yX11_spent cX11_spent 7 (some .long) wsX11_spent b0 D cy p s m args meth c) (k46 : Mm → Nat → Int32 → Int32 → Int32 → Int64 → Int32 → Option (Mm × Int64)) (hk46 : ∀ (M : Mm) (x0 : Nat) (x1 : Int32) (x2 : Int32) (x3 : Int32) (x4 : Int64) (x6 : Int32) (H : Heap) (locs : List Loc) (ls : Array Slot), k46 M x0 x1 x2 x3 x4 x6 = some (M1, r) → Hp b0 D cy M H → va_S (BA b0) s.heap H locs → lv_has ls 7 [(0, .ref x0), (1, .int x1), (2, .int x2), (3, .int x3), (4, .long x4), (6, .int x6)] → W p l e rm_X11_spent s m args below meth c H locs 0 0 (MQ below (Qm b0 D cy M1 (some (.long r))) args s 0 0 (BA b0)) (F0 m 46 ls [])) : ∀ (M : Mm) (x0 : Nat) (x1 : Int32) (x2 : Int32) (x3 : Int32) (x4 : Int64) (x6 : Int32) (H : Heap) (locs : List Loc) (ls : Array Slot), f_X11_spent_J138 k46 M x0 x1 x2 x3 x4 x6 = some (M1, r) → Hp b0 D cy M H → va_S (BA b0) s.heap H locs → lv_has ls 7 [(0, .ref x0), (1, .int x1), (2, .int x2), (3, .int x3), (4, .long x4), (6, .int x6)] → W p l e rm_X11_spent s m args below meth c H locs 0 0 (MQ below (Qm b0 D cy M1 (some (.long r))) args s 0 0 (BA b0)) (F0 m 138 ls []) := by
  obtain ⟨hx, hb, hr, hml, hown0, hts, hlk, hK, hN, hb0, hnm⟩ := id CX
  have hown : s.vm.findClass RX11 = some m.cls := hown0
  intro M x0 x1 x2 x3 x4 x6 H locs ls hF hP hS hl
  unfold f_X11_spent_J138 at hF
  refine lv_iinc (v := x6 + 1) (lv' := [(6, .int (x6 + 1)), (0, .ref x0), (1, .int x1), (2, .int x2), (3, .int x3), (4, .long x4)]) hx hb dX11_spent_138 hl (k := 5) rfl (by rfl) (by decide) rfl (fun ls hl => ?_)
  refine lv_goto (tgt := 46) hx hb dX11_spent_141 (by decide) ?_
  exact hk46 _ _ _ _ _ _ _ _ _ _ hF hP hS (lv_sub hl [1, 2, 3, 4, 5, 0] rfl)
set_option maxHeartbeats 4000000 in
set_option maxRecDepth 100000 in
theorem nd_X11_spent_135 {p : Program} {l : Launch} {e : Env} {s : State} {m : MethodId} {args : Array Value} {below : List Frame} {meth : Method} {c : Code} {b0 : Nat} {D : va_G} {cy : Nat → ClassId} {M1 : Mm} {r : Int64} (CX : Cx yX11_spent cX11_spent 7 (some .long) wsX11_spent b0 D cy p s m args meth c) (k46 : Mm → Nat → Int32 → Int32 → Int32 → Int64 → Int32 → Option (Mm × Int64)) (hk46 : ∀ (M : Mm) (x0 : Nat) (x1 : Int32) (x2 : Int32) (x3 : Int32) (x4 : Int64) (x6 : Int32) (H : Heap) (locs : List Loc) (ls : Array Slot), k46 M x0 x1 x2 x3 x4 x6 = some (M1, r) → Hp b0 D cy M H → va_S (BA b0) s.heap H locs → lv_has ls 7 [(0, .ref x0), (1, .int x1), (2, .int x2), (3, .int x3), (4, .long x4), (6, .int x6)] → W p l e rm_X11_spent s m args below meth c H locs 0 0 (MQ below (Qm b0 D cy M1 (some (.long r))) args s 0 0 (BA b0)) (F0 m 46 ls [])) : ∀ (M : Mm) (x0 : Nat) (x1 : Int32) (x2 : Int32) (x3 : Int32) (x6 : Int32) (s0 : Int64) (s1 : Int64) (H : Heap) (locs : List Loc) (ls : Array Slot), f_X11_spent_J135 k46 M x0 x1 x2 x3 x6 s0 s1 = some (M1, r) → Hp b0 D cy M H → va_S (BA b0) s.heap H locs → lv_has ls 7 [(0, .ref x0), (1, .int x1), (2, .int x2), (3, .int x3), (6, .int x6)] → W p l e rm_X11_spent s m args below meth c H locs 0 0 (MQ below (Qm b0 D cy M1 (some (.long r))) args s 0 0 (BA b0)) (F0 m 135 ls [.long s1, .long s0]) := by
  obtain ⟨hx, hb, hr, hml, hown0, hts, hlk, hK, hN, hb0, hnm⟩ := id CX
  have hown : s.vm.findClass RX11 = some m.cls := hown0
  intro M x0 x1 x2 x3 x6 s0 s1 H locs ls hF hP hS hl
  unfold f_X11_spent_J135 at hF
  refine lv_ladd hx hb dX11_spent_135 ?_
  refine lv_lstore (lv' := [(4, .long (s0 + s1)), (0, .ref x0), (1, .int x1), (2, .int x2), (3, .int x3), (6, .int x6)]) hx hb dX11_spent_136 hl (by decide) (by first | rfl | simp [cat_rf]) (fun ls hl => ?_)
  exact nd_X11_spent_138 CX k46 hk46 _ _ _ _ _ _ _ _ _ _ hF hP hS (lv_sub hl [1, 2, 3, 4, 0, 5] rfl)
set_option maxHeartbeats 4000000 in
set_option maxRecDepth 100000 in
theorem nd_X11_spent_46 {p : Program} {l : Launch} {e : Env} {s : State} {m : MethodId} {args : Array Value} {below : List Frame} {meth : Method} {c : Code} {b0 : Nat} {D : va_G} {cy : Nat → ClassId} {M1 : Mm} {r : Int64} (CX : Cx yX11_spent cX11_spent 7 (some .long) wsX11_spent b0 D cy p s m args meth c) : ∀ (fu : Nat), ∀ (M : Mm) (x0 : Nat) (x1 : Int32) (x2 : Int32) (x3 : Int32) (x4 : Int64) (x6 : Int32) (H : Heap) (locs : List Loc) (ls : Array Slot), f_X11_spent_L46 fu M x0 x1 x2 x3 x4 x6 = some (M1, r) → Hp b0 D cy M H → va_S (BA b0) s.heap H locs → lv_has ls 7 [(0, .ref x0), (1, .int x1), (2, .int x2), (3, .int x3), (4, .long x4), (6, .int x6)] → W p l e rm_X11_spent s m args below meth c H locs 0 0 (MQ below (Qm b0 D cy M1 (some (.long r))) args s 0 0 (BA b0)) (F0 m 46 ls []) := by
  obtain ⟨hx, hb, hr, hml, hown0, hts, hlk, hK, hN, hb0, hnm⟩ := id CX
  have hown : s.vm.findClass RX11 = some m.cls := hown0
  intro fu
  induction fu with
  | zero =>
    intro M x0 x1 x2 x3 x4 x6 H locs ls hF hP hS hl
    rw [f_X11_spent_L46] at hF
    cases hF
  | succ fu ih =>
    intro M x0 x1 x2 x3 x4 x6 H locs ls hF hP hS hl
    rw [f_X11_spent_L46] at hF
    refine lv_iload hx hb dX11_spent_46 (lv_at hl 5 rfl) ?_
    refine lv_aload_n hx hb dX11_spent_48 rfl (lv_at hl 0 rfl) ?_
    refine xr_getI hx hb hts iw_X11_spent_11 hown hK hP hF 11 16 rfl (by decide) (by decide +kernel) ⟨rfl, rfl, rfl⟩ dX11_spent_49 (fun v1 hF => ?_)
    refine lv_icmp_ge (tgt := 144) hx hb dX11_spent_52 (by decide) (fun c2 => ?_) (fun c2 => ?_)
    · replace hF := it_t hF c2
      refine lv_lload hx hb dX11_spent_144 (lv_at hl 4 rfl) ?_
      cases hF
      exact W.lret hx hb hr (fun t ht hW => ⟨rfl, by rw [ht]; exact hP, hS.F ht⟩) hS.2.2 dX11_spent_146 hlk
    · replace hF := it_f hF c2
      refine lv_aload_n hx hb dX11_spent_55 rfl (lv_at hl 0 rfl) ?_
      refine xr_getR hx hb hts iw_X11_spent_11 hown hK hP hF 11 25 rfl (by decide) (by decide +kernel) ⟨rfl, rfl, rfl⟩ dX11_spent_56 (fun v3 hF => ?_)
      refine lv_iload hx hb dX11_spent_59 (lv_at hl 5 rfl) ?_
      refine xr_aZ hx hb hK hP hF dX11_spent_61 (fun v4 hF => ?_)
      refine lv_if_ne (tgt := 138) hx hb dX11_spent_62 (by decide) (fun c5 => ?_) (fun c5 => ?_)
      · replace hF := it_f hF c5
        exact nd_X11_spent_138 CX (f_X11_spent_L46 fu) ih _ _ _ _ _ _ _ _ _ _ hF hP hS (lv_sub hl [0, 1, 2, 3, 4, 5] rfl)
      · replace hF := it_t hF c5
        refine lv_aload_n hx hb dX11_spent_65 rfl (lv_at hl 0 rfl) ?_
        refine xr_getR hx hb hts iw_X11_spent_11 hown hK hP hF 11 20 rfl (by decide) (by decide +kernel) ⟨rfl, rfl, rfl⟩ dX11_spent_66 (fun v6 hF => ?_)
        refine lv_iload hx hb dX11_spent_69 (lv_at hl 5 rfl) ?_
        refine xr_aI hx hb hK hP hF dX11_spent_71 (fun v7 hF => ?_)
        refine lv_iload_n hx hb dX11_spent_72 rfl (lv_at hl 1 rfl) ?_
        refine lv_icmp_ne (tgt := 138) hx hb dX11_spent_73 (by decide) (fun c8 => ?_) (fun c8 => ?_)
        · replace hF := it_f hF c8
          exact nd_X11_spent_138 CX (f_X11_spent_L46 fu) ih _ _ _ _ _ _ _ _ _ _ hF hP hS (lv_sub hl [0, 1, 2, 3, 4, 5] rfl)
        · replace hF := it_t hF c8
          refine lv_aload_n hx hb dX11_spent_76 rfl (lv_at hl 0 rfl) ?_
          refine xr_getR hx hb hts iw_X11_spent_11 hown hK hP hF 11 19 rfl (by decide) (by decide +kernel) ⟨rfl, rfl, rfl⟩ dX11_spent_77 (fun v9 hF => ?_)
          refine lv_iload hx hb dX11_spent_80 (lv_at hl 5 rfl) ?_
          refine xr_aI hx hb hK hP hF dX11_spent_82 (fun v10 hF => ?_)
          refine lv_iload_n hx hb dX11_spent_83 rfl (lv_at hl 2 rfl) ?_
          refine lv_icmp_ne (tgt := 138) hx hb dX11_spent_84 (by decide) (fun c11 => ?_) (fun c11 => ?_)
          · replace hF := it_f hF c11
            exact nd_X11_spent_138 CX (f_X11_spent_L46 fu) ih _ _ _ _ _ _ _ _ _ _ hF hP hS (lv_sub hl [0, 1, 2, 3, 4, 5] rfl)
          · replace hF := it_t hF c11
            refine lv_lload hx hb dX11_spent_87 (lv_at hl 4 rfl) ?_
            refine lv_iload_n hx hb dX11_spent_89 rfl (lv_at hl 3 rfl) ?_
            refine lv_if_ne (tgt := 97) hx hb dX11_spent_90 (by decide) (fun c12 => ?_) (fun c12 => ?_)
            · replace hF := it_f hF c12
              refine lv_iload_n hx hb dX11_spent_97 rfl (lv_at hl 3 rfl) ?_
              refine lv_iconst (v := 1) hx hb dX11_spent_98 (by decide) ?_
              refine lv_icmp_ne (tgt := 113) hx hb dX11_spent_99 (by decide) (fun c13 => ?_) (fun c13 => ?_)
              · replace hF := it_f hF c13
                refine lv_iload_n hx hb dX11_spent_113 rfl (lv_at hl 2 rfl) ?_
                refine lv_iconst (v := 3) hx hb dX11_spent_114 (by decide) ?_
                refine lv_icmp_ge (tgt := 134) hx hb dX11_spent_115 (by decide) (fun c14 => ?_) (fun c14 => ?_)
                · replace hF := it_t hF c14
                  refine lv_lconst (v := 0) hx hb dX11_spent_134 (by decide) ?_
                  exact nd_X11_spent_135 CX (f_X11_spent_L46 fu) ih _ _ _ _ _ _ _ _ _ _ _ hF hP hS (lv_sub hl [0, 1, 2, 3, 5] rfl)
                · replace hF := it_f hF c14
                  refine lv_aload_n hx hb dX11_spent_118 rfl (lv_at hl 0 rfl) ?_
                  obtain ⟨v16, h15, hF⟩ := ob_some hF
                  refine xr_call1 (va_runV (As := []) (rest := [.long x4]) ⟨hx, hb, hml, hown, hts⟩ (ct_X11_wholeBits l b0 D cy M x0 v16 h15) (cwV 0 hts gX11_spent_X11_wholeBits rfl rfl rfl (by decide +kernel) ⟨Nat.le_of_ble_eq_true rfl, Nat.le_of_ble_eq_true rfl⟩) (xp_V hP hK hN hS hb0 11 rfl (gk_X11_wholeBits h15)) rfl rfl hl.1 rfl (lv_room (Nat.le_of_ble_eq_true rfl)) dX11_spent_119 ⟨Nat.le_of_ble_eq_true rfl, Nat.le_of_ble_eq_true rfl⟩) hS (fun H locs hP hS => ?_)
                  refine lv_aload_n hx hb dX11_spent_122 rfl (lv_at hl 0 rfl) ?_
                  refine xr_getR hx hb hts iw_X11_spent_11 hown hK hP hF 11 22 rfl (by decide) (by decide +kernel) ⟨rfl, rfl, rfl⟩ dX11_spent_123 (fun v17 hF => ?_)
                  refine lv_iload hx hb dX11_spent_126 (lv_at hl 5 rfl) ?_
                  refine xr_aI hx hb hK hP hF dX11_spent_128 (fun v18 hF => ?_)
                  refine lv_isub hx hb dX11_spent_129 ?_
                  refine lv_i2l hx hb dX11_spent_130 rfl ?_
                  refine lv_goto (tgt := 135) hx hb dX11_spent_131 (by decide) ?_
                  exact nd_X11_spent_135 CX (f_X11_spent_L46 fu) ih _ _ _ _ _ _ _ _ _ _ _ hF hP hS (lv_sub hl [0, 1, 2, 3, 5] rfl)
              · replace hF := it_t hF c13
                refine lv_aload_n hx hb dX11_spent_102 rfl (lv_at hl 0 rfl) ?_
                refine xr_getR hx hb hts iw_X11_spent_11 hown hK hP hF 11 22 rfl (by decide) (by decide +kernel) ⟨rfl, rfl, rfl⟩ dX11_spent_103 (fun v19 hF => ?_)
                refine lv_iload hx hb dX11_spent_106 (lv_at hl 5 rfl) ?_
                refine xr_aI hx hb hK hP hF dX11_spent_108 (fun v20 hF => ?_)
                refine lv_i2l hx hb dX11_spent_109 rfl ?_
                refine lv_goto (tgt := 135) hx hb dX11_spent_110 (by decide) ?_
                exact nd_X11_spent_135 CX (f_X11_spent_L46 fu) ih _ _ _ _ _ _ _ _ _ _ _ hF hP hS (lv_sub hl [0, 1, 2, 3, 5] rfl)
            · replace hF := it_t hF c12
              refine lv_lconst (v := 1) hx hb dX11_spent_93 (by decide) ?_
              refine lv_goto (tgt := 135) hx hb dX11_spent_94 (by decide) ?_
              exact nd_X11_spent_135 CX (f_X11_spent_L46 fu) ih _ _ _ _ _ _ _ _ _ _ _ hF hP hS (lv_sub hl [0, 1, 2, 3, 5] rfl)
theorem gk_X11_spent {M : Mm} {a0 : Nat} {a1 : Int32} {a2 : Int32} {a3 : Int32} {r : (Mm × Int64)} (h : f_X11_spent M a0 a1 a2 a3 = some r) : mK M a0 = 12 := by
  unfold f_X11_spent at h
  exact (if_some h).1
set_option maxHeartbeats 4000000 in
set_option maxRecDepth 100000 in
theorem ct_X11_spent (l : Launch) (b0 : Nat) (D : va_G) (cy : Nat → ClassId) (M : Mm) (a0 : Nat) (a1 : Int32) (a2 : Int32) (a3 : Int32) (M1 : Mm) (r : Int64) (hF : f_X11_spent M a0 a1 a2 a3 = some (M1, r)) : Met l yX11_spent wsX11_spent rm_X11_spent (va_Pc [.ref a0, .int a1, .int a2, .int a3] (Pm b0 D cy M)) (Qm b0 D cy M1 (some (.long r))) 0 0 (BA b0) := by
  refine ct_of [.ref a0, .int a1, .int a2, .int a3] (by decide) rfl ?_
  intro p e s m below meth c CX hP
  obtain ⟨hx, hb, hr, hml, hown0, hts, hlk, hK, hN, hb0, hnm⟩ := id CX
  have hown : s.vm.findClass RX11 = some m.cls := hown0
  have hS : va_S (BA b0) s.heap s.heap [] := va_S.rf
  have hl := lv_entry [.ref a0, .int a1, .int a2, .int a3] (n := 7) (Nat.le_of_ble_eq_true rfl)
  generalize (lg_sl [.ref a0, .int a1, .int a2, .int a3] ++ List.replicate (7 - (lg_sl [.ref a0, .int a1, .int a2, .int a3]).length) Slot.unset).toArray = ls at hl ⊢
  have hl : lv_has ls 7 [(0, .ref a0), (1, .int a1), (2, .int a2), (3, .int a3)] := hl
  unfold f_X11_spent at hF
  replace hF := (if_some hF).2
  refine lv_aload_n hx hb dX11_spent_0 rfl (lv_at hl 0 rfl) ?_
  refine lv_iconst (v := 0) hx hb dX11_spent_1 (by decide) ?_
  refine xr_putI hx hb hts iw_X11_spent_11 hown hK hP hS hF 11 0 rfl (by decide) tyX11 tyX11_ok nmX11 (by decide +kernel) (Or.inl rfl) rfl ⟨rfl, rfl, rfl⟩ dX11_spent_2 (fun M1 H locs hF hP hS => ?_)
  refine lv_iload_n hx hb dX11_spent_5 rfl (lv_at hl 1 rfl) ?_
  obtain ⟨v3, h2, hF⟩ := ob_some hF
  refine xr_call1 (va_runS (As := [.int a1]) (rest := []) ⟨hx, hb, hml, hown, hts⟩ (ct_X11_isFlow l b0 D cy M1 a1 v3 h2) (va_cwS 1 hts gX11_spent_X11_isFlow rfl rfl rfl (by decide +kernel) ⟨Nat.le_of_ble_eq_true rfl, Nat.le_of_ble_eq_true rfl⟩) (xp_S hP hK hN hS hb0) rfl rfl hl.1 rfl (lv_room (Nat.le_of_ble_eq_true rfl)) dX11_spent_6 ⟨Nat.le_of_ble_eq_true rfl, Nat.le_of_ble_eq_true rfl⟩) hS (fun H locs hP hS => ?_)
  refine lv_if_eq (tgt := 36) hx hb dX11_spent_9 (by decide) (fun c4 => ?_) (fun c4 => ?_)
  · replace hF := it_t hF c4
    refine lv_ldc2 (v := (-1)) hx hb hown (hts (.constantLong RX11 169 (-1)) (by decide +kernel)) dX11_spent_36 ?_
    cases hF
    exact W.lret hx hb hr (fun t ht hW => ⟨rfl, by rw [ht]; exact hP, hS.F ht⟩) hS.2.2 dX11_spent_39 hlk
  · replace hF := it_f hF c4
    refine lv_iload_n hx hb dX11_spent_12 rfl (lv_at hl 2 rfl) ?_
    refine lv_i2l hx hb dX11_spent_13 rfl ?_
    refine lv_lconst (v := 0) hx hb dX11_spent_14 (by decide) ?_
    refine lv_ldc2 (v := 5) hx hb hown (hts (.constantLong RX11 321 5) (by decide +kernel)) dX11_spent_15 ?_
    obtain ⟨v6, h5, hF⟩ := ob_some hF
    refine xr_call1 (va_runS (As := [.long a2.toInt64, .long 0, .long 5]) (rest := []) ⟨hx, hb, hml, hown, hts⟩ (ct_X11_isIn l b0 D cy M1 a2.toInt64 0 5 v6 h5) (va_cwS 3 hts gX11_spent_X11_isIn rfl rfl rfl (by decide +kernel) ⟨Nat.le_of_ble_eq_true rfl, Nat.le_of_ble_eq_true rfl⟩) (xp_S hP hK hN hS hb0) rfl rfl hl.1 rfl (lv_room (Nat.le_of_ble_eq_true rfl)) dX11_spent_18 ⟨Nat.le_of_ble_eq_true rfl, Nat.le_of_ble_eq_true rfl⟩) hS (fun H locs hP hS => ?_)
    refine lv_if_eq (tgt := 36) hx hb dX11_spent_21 (by decide) (fun c7 => ?_) (fun c7 => ?_)
    · replace hF := it_t hF c7
      refine lv_ldc2 (v := (-1)) hx hb hown (hts (.constantLong RX11 169 (-1)) (by decide +kernel)) dX11_spent_36 ?_
      cases hF
      exact W.lret hx hb hr (fun t ht hW => ⟨rfl, by rw [ht]; exact hP, hS.F ht⟩) hS.2.2 dX11_spent_39 hlk
    · replace hF := it_f hF c7
      refine lv_iload_n hx hb dX11_spent_24 rfl (lv_at hl 3 rfl) ?_
      refine lv_i2l hx hb dX11_spent_25 rfl ?_
      refine lv_lconst (v := 0) hx hb dX11_spent_26 (by decide) ?_
      refine lv_ldc2 (v := 2) hx hb hown (hts (.constantLong RX11 265 2) (by decide +kernel)) dX11_spent_27 ?_
      obtain ⟨v9, h8, hF⟩ := ob_some hF
      refine xr_call1 (va_runS (As := [.long a3.toInt64, .long 0, .long 2]) (rest := []) ⟨hx, hb, hml, hown, hts⟩ (ct_X11_isIn l b0 D cy M1 a3.toInt64 0 2 v9 h8) (va_cwS 3 hts gX11_spent_X11_isIn rfl rfl rfl (by decide +kernel) ⟨Nat.le_of_ble_eq_true rfl, Nat.le_of_ble_eq_true rfl⟩) (xp_S hP hK hN hS hb0) rfl rfl hl.1 rfl (lv_room (Nat.le_of_ble_eq_true rfl)) dX11_spent_30 ⟨Nat.le_of_ble_eq_true rfl, Nat.le_of_ble_eq_true rfl⟩) hS (fun H locs hP hS => ?_)
      refine lv_if_ne (tgt := 40) hx hb dX11_spent_33 (by decide) (fun c10 => ?_) (fun c10 => ?_)
      · replace hF := it_f hF c10
        refine lv_lconst (v := 0) hx hb dX11_spent_40 (by decide) ?_
        refine lv_lstore (lv' := [(4, .long 0), (0, .ref a0), (1, .int a1), (2, .int a2), (3, .int a3)]) hx hb dX11_spent_41 hl (by decide) (by first | rfl | simp [cat_rf]) (fun ls hl => ?_)
        refine lv_iconst (v := 0) hx hb dX11_spent_43 (by decide) ?_
        refine lv_istore (lv' := [(6, .int 0), (4, .long 0), (0, .ref a0), (1, .int a1), (2, .int a2), (3, .int a3)]) hx hb dX11_spent_44 hl (by decide) (by first | rfl | simp [cat_rf]) (fun ls hl => ?_)
        exact nd_X11_spent_46 CX _ _ _ _ _ _ _ _ _ _ _ hF hP hS (lv_sub hl [2, 3, 4, 5, 1, 0] rfl)
      · replace hF := it_t hF c10
        refine lv_ldc2 (v := (-1)) hx hb hown (hts (.constantLong RX11 169 (-1)) (by decide +kernel)) dX11_spent_36 ?_
        cases hF
        exact W.lret hx hb hr (fun t ht hW => ⟨rfl, by rw [ht]; exact hP, hS.F ht⟩) hS.2.2 dX11_spent_39 hlk
/-! X11_isShelf -/
abbrev rm_X11_isShelf : Room := { frames := 0, cells := 0, slots := 0, locals := 0 }
set_option maxHeartbeats 4000000 in
set_option maxRecDepth 100000 in
theorem ct_X11_isShelf (l : Launch) (b0 : Nat) (D : va_G) (cy : Nat → ClassId) (M : Mm) (a0 : Int32) (r : Int32) (hF : f_X11_isShelf a0 = some r) : Met l yX11_isShelf wsX11_isShelf rm_X11_isShelf (va_Pc [.int a0] (Pm b0 D cy M)) (Qm b0 D cy M (some (.int r))) 0 0 (BA b0) := by
  refine ct_of [.int a0] (by decide) rfl ?_
  intro p e s m below meth c CX hP
  obtain ⟨hx, hb, hr, hml, hown0, hts, hlk, hK, hN, hb0, hnm⟩ := id CX
  have hown : s.vm.findClass RX11 = some m.cls := hown0
  have hS : va_S (BA b0) s.heap s.heap [] := va_S.rf
  have hl := lv_entry [.int a0] (n := 1) (Nat.le_of_ble_eq_true rfl)
  generalize (lg_sl [.int a0] ++ List.replicate (1 - (lg_sl [.int a0]).length) Slot.unset).toArray = ls at hl ⊢
  have hl : lv_has ls 1 [(0, .int a0)] := hl
  unfold f_X11_isShelf at hF
  refine lv_iload_n hx hb dX11_isShelf_0 rfl (lv_at hl 0 rfl) ?_
  refine lv_if_lt (tgt := 14) hx hb dX11_isShelf_1 (by decide) (fun c1 => ?_) (fun c1 => ?_)
  · replace hF := it_t hF c1
    refine lv_iconst (v := 0) hx hb dX11_isShelf_14 (by decide) ?_
    cases hF
    exact W.zret hx hb hr rfl (fun t ht hW => ⟨rfl, by rw [ht]; exact hP, hS.F ht⟩) hS.2.2 dX11_isShelf_15 hlk
  · replace hF := it_f hF c1
    refine lv_iload_n hx hb dX11_isShelf_4 rfl (lv_at hl 0 rfl) ?_
    refine lv_bipush (v := 8) hx hb dX11_isShelf_5 (by decide) ?_
    refine lv_icmp_ge (tgt := 14) hx hb dX11_isShelf_7 (by decide) (fun c2 => ?_) (fun c2 => ?_)
    · replace hF := it_t hF c2
      refine lv_iconst (v := 0) hx hb dX11_isShelf_14 (by decide) ?_
      cases hF
      exact W.zret hx hb hr rfl (fun t ht hW => ⟨rfl, by rw [ht]; exact hP, hS.F ht⟩) hS.2.2 dX11_isShelf_15 hlk
    · replace hF := it_f hF c2
      refine lv_iconst (v := 1) hx hb dX11_isShelf_10 (by decide) ?_
      refine lv_goto (tgt := 15) hx hb dX11_isShelf_11 (by decide) ?_
      cases hF
      exact W.zret hx hb hr rfl (fun t ht hW => ⟨rfl, by rw [ht]; exact hP, hS.F ht⟩) hS.2.2 dX11_isShelf_15 hlk
/-! X11_canKeep -/
theorem iw_X11_canKeep_11 : ∀ w ∈ u_ws RX11 TX11 58, w ∈ wsX11_canKeep := by decide +kernel
abbrev rm_X11_canKeep : Room := { frames := 1, cells := 0, slots := 0, locals := 20 }
set_option maxHeartbeats 4000000 in
set_option maxRecDepth 100000 in
theorem nd_X11_canKeep_10 {p : Program} {l : Launch} {e : Env} {s : State} {m : MethodId} {args : Array Value} {below : List Frame} {meth : Method} {c : Code} {b0 : Nat} {D : va_G} {cy : Nat → ClassId} {r : Int32} {M : Mm} (CX : Cx yX11_canKeep cX11_canKeep 3 (some .boolean) wsX11_canKeep b0 D cy p s m args meth c) : ∀ (x0 : Nat) (x2 : Int32) (H : Heap) (locs : List Loc) (ls : Array Slot), f_X11_canKeep_J10 M x0 x2 = some r → Hp b0 D cy M H → va_S (BA b0) s.heap H locs → lv_has ls 3 [(0, .ref x0), (2, .int x2)] → W p l e rm_X11_canKeep s m args below meth c H locs 0 0 (MQ below (Qm b0 D cy M (some (.int r))) args s 0 0 (BA b0)) (F0 m 10 ls []) := by
  obtain ⟨hx, hb, hr, hml, hown0, hts, hlk, hK, hN, hb0, hnm⟩ := id CX
  have hown : s.vm.findClass RX11 = some m.cls := hown0
  intro x0 x2 H locs ls hF hP hS hl
  unfold f_X11_canKeep_J10 at hF
  refine lv_iload_n hx hb dX11_canKeep_10 rfl (lv_at hl 1 rfl) ?_
  refine lv_if_lt (tgt := 26) hx hb dX11_canKeep_11 (by decide) (fun c1 => ?_) (fun c1 => ?_)
  · replace hF := it_t hF c1
    refine lv_iconst (v := 0) hx hb dX11_canKeep_26 (by decide) ?_
    cases hF
    exact W.zret hx hb hr rfl (fun t ht hW => ⟨rfl, by rw [ht]; exact hP, hS.F ht⟩) hS.2.2 dX11_canKeep_27 hlk
  · replace hF := it_f hF c1
    refine lv_iload_n hx hb dX11_canKeep_14 rfl (lv_at hl 1 rfl) ?_
    refine lv_aload_n hx hb dX11_canKeep_15 rfl (lv_at hl 0 rfl) ?_
    refine xr_getI hx hb hts iw_X11_canKeep_11 hown hK hP hF 11 16 rfl (by decide) (by decide +kernel) ⟨rfl, rfl, rfl⟩ dX11_canKeep_16 (fun v2 hF => ?_)
    refine lv_icmp_ge (tgt := 26) hx hb dX11_canKeep_19 (by decide) (fun c3 => ?_) (fun c3 => ?_)
    · replace hF := it_t hF c3
      refine lv_iconst (v := 0) hx hb dX11_canKeep_26 (by decide) ?_
      cases hF
      exact W.zret hx hb hr rfl (fun t ht hW => ⟨rfl, by rw [ht]; exact hP, hS.F ht⟩) hS.2.2 dX11_canKeep_27 hlk
    · replace hF := it_f hF c3
      refine lv_iconst (v := 1) hx hb dX11_canKeep_22 (by decide) ?_
      refine lv_goto (tgt := 27) hx hb dX11_canKeep_23 (by decide) ?_
      cases hF
      exact W.zret hx hb hr rfl (fun t ht hW => ⟨rfl, by rw [ht]; exact hP, hS.F ht⟩) hS.2.2 dX11_canKeep_27 hlk
theorem gk_X11_canKeep {M : Mm} {a0 : Nat} {a1 : Int32} {a2 : Int32} {r : Int32} (h : f_X11_canKeep M a0 a1 a2 = some r) : mK M a0 = 12 := by
  unfold f_X11_canKeep at h
  exact (if_some h).1
set_option maxHeartbeats 4000000 in
set_option maxRecDepth 100000 in
theorem ct_X11_canKeep (l : Launch) (b0 : Nat) (D : va_G) (cy : Nat → ClassId) (M : Mm) (a0 : Nat) (a1 : Int32) (a2 : Int32) (r : Int32) (hF : f_X11_canKeep M a0 a1 a2 = some r) : Met l yX11_canKeep wsX11_canKeep rm_X11_canKeep (va_Pc [.ref a0, .int a1, .int a2] (Pm b0 D cy M)) (Qm b0 D cy M (some (.int r))) 0 0 (BA b0) := by
  refine ct_of [.ref a0, .int a1, .int a2] (by decide) rfl ?_
  intro p e s m below meth c CX hP
  obtain ⟨hx, hb, hr, hml, hown0, hts, hlk, hK, hN, hb0, hnm⟩ := id CX
  have hown : s.vm.findClass RX11 = some m.cls := hown0
  have hS : va_S (BA b0) s.heap s.heap [] := va_S.rf
  have hl := lv_entry [.ref a0, .int a1, .int a2] (n := 3) (Nat.le_of_ble_eq_true rfl)
  generalize (lg_sl [.ref a0, .int a1, .int a2] ++ List.replicate (3 - (lg_sl [.ref a0, .int a1, .int a2]).length) Slot.unset).toArray = ls at hl ⊢
  have hl : lv_has ls 3 [(0, .ref a0), (1, .int a1), (2, .int a2)] := hl
  unfold f_X11_canKeep at hF
  replace hF := (if_some hF).2
  refine lv_iload_n hx hb dX11_canKeep_0 rfl (lv_at hl 1 rfl) ?_
  refine lv_iconst (v := 1) hx hb dX11_canKeep_1 (by decide) ?_
  refine lv_icmp_eq (tgt := 10) hx hb dX11_canKeep_2 (by decide) (fun c1 => ?_) (fun c1 => ?_)
  · replace hF := it_t hF c1
    exact nd_X11_canKeep_10 CX _ _ _ _ _ hF hP hS (lv_sub hl [0, 2] rfl)
  · replace hF := it_f hF c1
    refine lv_iload_n hx hb dX11_canKeep_5 rfl (lv_at hl 1 rfl) ?_
    refine lv_iconst (v := 2) hx hb dX11_canKeep_6 (by decide) ?_
    refine lv_icmp_ne (tgt := 28) hx hb dX11_canKeep_7 (by decide) (fun c2 => ?_) (fun c2 => ?_)
    · replace hF := it_f hF c2
      refine lv_iload_n hx hb dX11_canKeep_28 rfl (lv_at hl 1 rfl) ?_
      refine lv_if_eq (tgt := 53) hx hb dX11_canKeep_29 (by decide) (fun c3 => ?_) (fun c3 => ?_)
      · replace hF := it_t hF c3
        refine lv_iconst (v := 1) hx hb dX11_canKeep_53 (by decide) ?_
        refine lv_goto (tgt := 58) hx hb dX11_canKeep_54 (by decide) ?_
        cases hF
        exact W.zret hx hb hr rfl (fun t ht hW => ⟨rfl, by rw [ht]; exact hP, hS.F ht⟩) hS.2.2 dX11_canKeep_58 hlk
      · replace hF := it_f hF c3
        refine lv_iload_n hx hb dX11_canKeep_32 rfl (lv_at hl 2 rfl) ?_
        obtain ⟨v5, h4, hF⟩ := ob_some hF
        refine xr_call1 (va_runS (As := [.int a2]) (rest := []) ⟨hx, hb, hml, hown, hts⟩ (ct_X11_isFlow l b0 D cy M a2 v5 h4) (va_cwS 1 hts gX11_canKeep_X11_isFlow rfl rfl rfl (by decide +kernel) ⟨Nat.le_of_ble_eq_true rfl, Nat.le_of_ble_eq_true rfl⟩) (xp_S hP hK hN hS hb0) rfl rfl hl.1 rfl (lv_room (Nat.le_of_ble_eq_true rfl)) dX11_canKeep_33 ⟨Nat.le_of_ble_eq_true rfl, Nat.le_of_ble_eq_true rfl⟩) hS (fun H locs hP hS => ?_)
        refine lv_if_eq (tgt := 57) hx hb dX11_canKeep_36 (by decide) (fun c6 => ?_) (fun c6 => ?_)
        · replace hF := it_t hF c6
          refine lv_iconst (v := 0) hx hb dX11_canKeep_57 (by decide) ?_
          cases hF
          exact W.zret hx hb hr rfl (fun t ht hW => ⟨rfl, by rw [ht]; exact hP, hS.F ht⟩) hS.2.2 dX11_canKeep_58 hlk
        · replace hF := it_f hF c6
          refine lv_iload_n hx hb dX11_canKeep_39 rfl (lv_at hl 1 rfl) ?_
          refine lv_iconst (v := 3) hx hb dX11_canKeep_40 (by decide) ?_
          refine lv_icmp_eq (tgt := 53) hx hb dX11_canKeep_41 (by decide) (fun c7 => ?_) (fun c7 => ?_)
          · replace hF := it_t hF c7
            refine lv_iconst (v := 1) hx hb dX11_canKeep_53 (by decide) ?_
            refine lv_goto (tgt := 58) hx hb dX11_canKeep_54 (by decide) ?_
            cases hF
            exact W.zret hx hb hr rfl (fun t ht hW => ⟨rfl, by rw [ht]; exact hP, hS.F ht⟩) hS.2.2 dX11_canKeep_58 hlk
          · replace hF := it_f hF c7
            refine lv_aload_n hx hb dX11_canKeep_44 rfl (lv_at hl 0 rfl) ?_
            refine xr_getR hx hb hts iw_X11_canKeep_11 hown hK hP hF 11 30 rfl (by decide) (by decide +kernel) ⟨rfl, rfl, rfl⟩ dX11_canKeep_45 (fun v8 hF => ?_)
            refine lv_iload_n hx hb dX11_canKeep_48 rfl (lv_at hl 2 rfl) ?_
            refine xr_aZ hx hb hK hP hF dX11_canKeep_49 (fun v9 hF => ?_)
            refine lv_if_eq (tgt := 57) hx hb dX11_canKeep_50 (by decide) (fun c10 => ?_) (fun c10 => ?_)
            · replace hF := it_t hF c10
              refine lv_iconst (v := 0) hx hb dX11_canKeep_57 (by decide) ?_
              cases hF
              exact W.zret hx hb hr rfl (fun t ht hW => ⟨rfl, by rw [ht]; exact hP, hS.F ht⟩) hS.2.2 dX11_canKeep_58 hlk
            · replace hF := it_f hF c10
              refine lv_iconst (v := 1) hx hb dX11_canKeep_53 (by decide) ?_
              refine lv_goto (tgt := 58) hx hb dX11_canKeep_54 (by decide) ?_
              cases hF
              exact W.zret hx hb hr rfl (fun t ht hW => ⟨rfl, by rw [ht]; exact hP, hS.F ht⟩) hS.2.2 dX11_canKeep_58 hlk
    · replace hF := it_t hF c2
      exact nd_X11_canKeep_10 CX _ _ _ _ _ hF hP hS (lv_sub hl [0, 2] rfl)
/-! X11_keep -/
theorem iw_X11_keep_11 : ∀ w ∈ u_ws RX11 TX11 58, w ∈ wsX11_keep := by decide +kernel
abbrev rm_X11_keep : Room := { frames := 2, cells := 0, slots := 0, locals := 42 }
set_option maxHeartbeats 4000000 in
set_option maxRecDepth 100000 in
theorem nd_X11_keep_188 {p : Program} {l : Launch} {e : Env} {s : State} {m : MethodId} {args : Array Value} {below : List Frame} {meth : Method} {c : Code} {b0 : Nat} {D : va_G} {cy : Nat → ClassId} {M1 : Mm} {r : Int32} (CX : Cx yX11_keep cX11_keep 5 (some .int) wsX11_keep b0 D cy p s m args meth c) (k112 : Mm → Nat → Int32 → Int32 → Int32 → Int32 → Option (Mm × Int32)) (hk112 : ∀ (M : Mm) (x0 : Nat) (x1 : Int32) (x2 : Int32) (x3 : Int32) (x4 : Int32) (H : Heap) (locs : List Loc) (ls : Array Slot), k112 M x0 x1 x2 x3 x4 = some (M1, r) → Hp b0 D cy M H → va_S (BA b0) s.heap H locs → lv_has ls 5 [(0, .ref x0), (1, .int x1), (2, .int x2), (3, .int x3), (4, .int x4)] → W p l e rm_X11_keep s m args below meth c H locs 0 0 (MQ below (Qm b0 D cy M1 (some (.int r))) args s 0 0 (BA b0)) (F0 m 112 ls [])) : ∀ (M : Mm) (x0 : Nat) (x1 : Int32) (x2 : Int32) (x3 : Int32) (x4 : Int32) (s0 : Nat) (s1 : Int32) (s2 : Int64) (H : Heap) (locs : List Loc) (ls : Array Slot), f_X11_keep_J188 k112 M x0 x1 x2 x3 x4 s0 s1 s2 = some (M1, r) → Hp b0 D cy M H → va_S (BA b0) s.heap H locs → lv_has ls 5 [(0, .ref x0), (1, .int x1), (2, .int x2), (3, .int x3), (4, .int x4)] → W p l e rm_X11_keep s m args below meth c H locs 0 0 (MQ below (Qm b0 D cy M1 (some (.int r))) args s 0 0 (BA b0)) (F0 m 188 ls [.long s2, .int s1, .ref s0]) := by
  obtain ⟨hx, hb, hr, hml, hown0, hts, hlk, hK, hN, hb0, hnm⟩ := id CX
  have hown : s.vm.findClass RX11 = some m.cls := hown0
  intro M x0 x1 x2 x3 x4 s0 s1 s2 H locs ls hF hP hS hl
  unfold f_X11_keep_J188 at hF
  refine xr_wJ hx hb hK hP hS hF dX11_keep_188 (fun M1 H locs hF hP hS => ?_)
  refine lv_iinc (v := x4 + 1) (lv' := [(4, .int (x4 + 1)), (0, .ref x0), (1, .int x1), (2, .int x2), (3, .int x3)]) hx hb dX11_keep_189 hl (k := 4) rfl (by rfl) (by decide) rfl (fun ls hl => ?_)
  refine lv_goto (tgt := 112) hx hb dX11_keep_192 (by decide) ?_
  exact hk112 _ _ _ _ _ _ _ _ _ hF hP hS (lv_sub hl [1, 2, 3, 4, 0] rfl)
set_option maxHeartbeats 4000000 in
set_option maxRecDepth 100000 in
theorem nd_X11_keep_112 {p : Program} {l : Launch} {e : Env} {s : State} {m : MethodId} {args : Array Value} {below : List Frame} {meth : Method} {c : Code} {b0 : Nat} {D : va_G} {cy : Nat → ClassId} {M1 : Mm} {r : Int32} (CX : Cx yX11_keep cX11_keep 5 (some .int) wsX11_keep b0 D cy p s m args meth c) : ∀ (fu : Nat), ∀ (M : Mm) (x0 : Nat) (x1 : Int32) (x2 : Int32) (x3 : Int32) (x4 : Int32) (H : Heap) (locs : List Loc) (ls : Array Slot), f_X11_keep_L112 fu M x0 x1 x2 x3 x4 = some (M1, r) → Hp b0 D cy M H → va_S (BA b0) s.heap H locs → lv_has ls 5 [(0, .ref x0), (1, .int x1), (2, .int x2), (3, .int x3), (4, .int x4)] → W p l e rm_X11_keep s m args below meth c H locs 0 0 (MQ below (Qm b0 D cy M1 (some (.int r))) args s 0 0 (BA b0)) (F0 m 112 ls []) := by
  obtain ⟨hx, hb, hr, hml, hown0, hts, hlk, hK, hN, hb0, hnm⟩ := id CX
  have hown : s.vm.findClass RX11 = some m.cls := hown0
  intro fu
  induction fu with
  | zero =>
    intro M x0 x1 x2 x3 x4 H locs ls hF hP hS hl
    rw [f_X11_keep_L112] at hF
    cases hF
  | succ fu ih =>
    intro M x0 x1 x2 x3 x4 H locs ls hF hP hS hl
    rw [f_X11_keep_L112] at hF
    refine lv_iload hx hb dX11_keep_112 (lv_at hl 4 rfl) ?_
    refine lv_aload_n hx hb dX11_keep_114 rfl (lv_at hl 0 rfl) ?_
    refine xr_getR hx hb hts iw_X11_keep_11 hown hK hP hF 11 54 rfl (by decide) (by decide +kernel) ⟨rfl, rfl, rfl⟩ dX11_keep_115 (fun v1 hF => ?_)
    refine lv_iload_n hx hb dX11_keep_118 rfl (lv_at hl 1 rfl) ?_
    refine xr_aI hx hb hK hP hF dX11_keep_119 (fun v2 hF => ?_)
    refine lv_icmp_ge (tgt := 195) hx hb dX11_keep_120 (by decide) (fun c3 => ?_) (fun c3 => ?_)
    · replace hF := it_t hF c3
      refine lv_iconst (v := 0) hx hb dX11_keep_195 (by decide) ?_
      cases hF
      exact W.iret hx hb hr (fun t ht hW => ⟨rfl, by rw [ht]; exact hP, hS.F ht⟩) hS.2.2 dX11_keep_196 hlk
    · replace hF := it_f hF c3
      refine lv_aload_n hx hb dX11_keep_123 rfl (lv_at hl 0 rfl) ?_
      refine xr_getR hx hb hts iw_X11_keep_11 hown hK hP hF 11 56 rfl (by decide) (by decide +kernel) ⟨rfl, rfl, rfl⟩ dX11_keep_124 (fun v4 hF => ?_)
      refine lv_bipush (v := 64) hx hb dX11_keep_127 (by decide) ?_
      refine lv_iload_n hx hb dX11_keep_129 rfl (lv_at hl 1 rfl) ?_
      refine lv_imul hx hb dX11_keep_130 ?_
      refine lv_iload hx hb dX11_keep_131 (lv_at hl 4 rfl) ?_
      refine lv_iadd hx hb dX11_keep_133 ?_
      refine lv_iload_n hx hb dX11_keep_134 rfl (lv_at hl 2 rfl) ?_
      refine lv_iconst (v := 3) hx hb dX11_keep_135 (by decide) ?_
      refine lv_icmp_ge (tgt := 155) hx hb dX11_keep_136 (by decide) (fun c5 => ?_) (fun c5 => ?_)
      · replace hF := it_t hF c5
        refine lv_iload_n hx hb dX11_keep_155 rfl (lv_at hl 2 rfl) ?_
        refine lv_iconst (v := 3) hx hb dX11_keep_156 (by decide) ?_
        refine lv_icmp_ne (tgt := 176) hx hb dX11_keep_157 (by decide) (fun c6 => ?_) (fun c6 => ?_)
        · replace hF := it_f hF c6
          refine lv_aload_n hx hb dX11_keep_176 rfl (lv_at hl 0 rfl) ?_
          refine xr_getR hx hb hts iw_X11_keep_11 hown hK hP hF 11 34 rfl (by decide) (by decide +kernel) ⟨rfl, rfl, rfl⟩ dX11_keep_177 (fun v7 hF => ?_)
          refine lv_bipush (v := 8) hx hb dX11_keep_180 (by decide) ?_
          refine lv_iload_n hx hb dX11_keep_182 rfl (lv_at hl 3 rfl) ?_
          refine lv_imul hx hb dX11_keep_183 ?_
          refine lv_iload hx hb dX11_keep_184 (lv_at hl 4 rfl) ?_
          refine lv_iadd hx hb dX11_keep_186 ?_
          refine xr_aJ hx hb hK hP hF dX11_keep_187 (fun v8 hF => ?_)
          exact nd_X11_keep_188 CX (f_X11_keep_L112 fu) ih _ _ _ _ _ _ _ _ _ _ _ _ hF hP hS (lv_sub hl [0, 1, 2, 3, 4] rfl)
        · replace hF := it_t hF c6
          refine lv_aload_n hx hb dX11_keep_160 rfl (lv_at hl 0 rfl) ?_
          refine xr_getR hx hb hts iw_X11_keep_11 hown hK hP hF 11 14 rfl (by decide) (by decide +kernel) ⟨rfl, rfl, rfl⟩ dX11_keep_161 (fun v9 hF => ?_)
          refine lv_bipush (v := 9) hx hb dX11_keep_164 (by decide) ?_
          refine lv_iload_n hx hb dX11_keep_166 rfl (lv_at hl 3 rfl) ?_
          refine lv_imul hx hb dX11_keep_167 ?_
          refine lv_iload hx hb dX11_keep_168 (lv_at hl 4 rfl) ?_
          refine lv_iadd hx hb dX11_keep_170 ?_
          refine xr_aI hx hb hK hP hF dX11_keep_171 (fun v10 hF => ?_)
          refine lv_i2l hx hb dX11_keep_172 rfl ?_
          refine lv_goto (tgt := 188) hx hb dX11_keep_173 (by decide) ?_
          exact nd_X11_keep_188 CX (f_X11_keep_L112 fu) ih _ _ _ _ _ _ _ _ _ _ _ _ hF hP hS (lv_sub hl [0, 1, 2, 3, 4] rfl)
      · replace hF := it_f hF c5
        refine lv_aload_n hx hb dX11_keep_139 rfl (lv_at hl 0 rfl) ?_
        refine xr_getR hx hb hts iw_X11_keep_11 hown hK hP hF 11 18 rfl (by decide) (by decide +kernel) ⟨rfl, rfl, rfl⟩ dX11_keep_140 (fun v11 hF => ?_)
        refine lv_bipush (v := 64) hx hb dX11_keep_143 (by decide) ?_
        refine lv_iload_n hx hb dX11_keep_145 rfl (lv_at hl 3 rfl) ?_
        refine lv_imul hx hb dX11_keep_146 ?_
        refine lv_iload hx hb dX11_keep_147 (lv_at hl 4 rfl) ?_
        refine lv_iadd hx hb dX11_keep_149 ?_
        refine xr_aI hx hb hK hP hF dX11_keep_150 (fun v12 hF => ?_)
        refine lv_i2l hx hb dX11_keep_151 rfl ?_
        refine lv_goto (tgt := 188) hx hb dX11_keep_152 (by decide) ?_
        exact nd_X11_keep_188 CX (f_X11_keep_L112 fu) ih _ _ _ _ _ _ _ _ _ _ _ _ hF hP hS (lv_sub hl [0, 1, 2, 3, 4] rfl)
set_option maxHeartbeats 4000000 in
set_option maxRecDepth 100000 in
theorem nd_X11_keep_108 {p : Program} {l : Launch} {e : Env} {s : State} {m : MethodId} {args : Array Value} {below : List Frame} {meth : Method} {c : Code} {b0 : Nat} {D : va_G} {cy : Nat → ClassId} {M1 : Mm} {r : Int32} (CX : Cx yX11_keep cX11_keep 5 (some .int) wsX11_keep b0 D cy p s m args meth c) : ∀ (M : Mm) (x0 : Nat) (x1 : Int32) (x2 : Int32) (x3 : Int32) (s0 : Nat) (s1 : Int32) (s2 : Int32) (H : Heap) (locs : List Loc) (ls : Array Slot), f_X11_keep_J108 M x0 x1 x2 x3 s0 s1 s2 = some (M1, r) → Hp b0 D cy M H → va_S (BA b0) s.heap H locs → lv_has ls 5 [(0, .ref x0), (1, .int x1), (2, .int x2), (3, .int x3)] → W p l e rm_X11_keep s m args below meth c H locs 0 0 (MQ below (Qm b0 D cy M1 (some (.int r))) args s 0 0 (BA b0)) (F0 m 108 ls [.int s2, .int s1, .ref s0]) := by
  obtain ⟨hx, hb, hr, hml, hown0, hts, hlk, hK, hN, hb0, hnm⟩ := id CX
  have hown : s.vm.findClass RX11 = some m.cls := hown0
  intro M x0 x1 x2 x3 s0 s1 s2 H locs ls hF hP hS hl
  unfold f_X11_keep_J108 at hF
  refine xr_wI hx hb hK hP hS hF dX11_keep_108 (fun M1 H locs hF hP hS => ?_)
  refine lv_iconst (v := 0) hx hb dX11_keep_109 (by decide) ?_
  refine lv_istore (lv' := [(4, .int 0), (0, .ref x0), (1, .int x1), (2, .int x2), (3, .int x3)]) hx hb dX11_keep_110 hl (by decide) (by first | rfl | simp [cat_rf]) (fun ls hl => ?_)
  exact nd_X11_keep_112 CX _ _ _ _ _ _ _ _ _ _ hF hP hS (lv_sub hl [1, 2, 3, 4, 0] rfl)
set_option maxHeartbeats 4000000 in
set_option maxRecDepth 100000 in
theorem nd_X11_keep_87 {p : Program} {l : Launch} {e : Env} {s : State} {m : MethodId} {args : Array Value} {below : List Frame} {meth : Method} {c : Code} {b0 : Nat} {D : va_G} {cy : Nat → ClassId} {M1 : Mm} {r : Int32} (CX : Cx yX11_keep cX11_keep 5 (some .int) wsX11_keep b0 D cy p s m args meth c) : ∀ (M : Mm) (x0 : Nat) (x1 : Int32) (x2 : Int32) (x3 : Int32) (s0 : Nat) (s1 : Int32) (s2 : Int32) (H : Heap) (locs : List Loc) (ls : Array Slot), f_X11_keep_J87 M x0 x1 x2 x3 s0 s1 s2 = some (M1, r) → Hp b0 D cy M H → va_S (BA b0) s.heap H locs → lv_has ls 5 [(0, .ref x0), (1, .int x1), (2, .int x2), (3, .int x3)] → W p l e rm_X11_keep s m args below meth c H locs 0 0 (MQ below (Qm b0 D cy M1 (some (.int r))) args s 0 0 (BA b0)) (F0 m 87 ls [.int s2, .int s1, .ref s0]) := by
  obtain ⟨hx, hb, hr, hml, hown0, hts, hlk, hK, hN, hb0, hnm⟩ := id CX
  have hown : s.vm.findClass RX11 = some m.cls := hown0
  intro M x0 x1 x2 x3 s0 s1 s2 H locs ls hF hP hS hl
  unfold f_X11_keep_J87 at hF
  refine xr_wI hx hb hK hP hS hF dX11_keep_87 (fun M1 H locs hF hP hS => ?_)
  refine lv_aload_n hx hb dX11_keep_88 rfl (lv_at hl 0 rfl) ?_
  refine xr_getR hx hb hts iw_X11_keep_11 hown hK hP hF 11 55 rfl (by decide) (by decide +kernel) ⟨rfl, rfl, rfl⟩ dX11_keep_89 (fun v2 hF => ?_)
  refine lv_iload_n hx hb dX11_keep_92 rfl (lv_at hl 1 rfl) ?_
  refine lv_iload_n hx hb dX11_keep_93 rfl (lv_at hl 2 rfl) ?_
  refine lv_iconst (v := 1) hx hb dX11_keep_94 (by decide) ?_
  refine lv_icmp_ne (tgt := 107) hx hb dX11_keep_95 (by decide) (fun c3 => ?_) (fun c3 => ?_)
  · replace hF := it_f hF c3
    refine lv_iconst (v := 0) hx hb dX11_keep_107 (by decide) ?_
    exact nd_X11_keep_108 CX _ _ _ _ _ _ _ _ _ _ _ hF hP hS (lv_sub hl [0, 1, 2, 3] rfl)
  · replace hF := it_t hF c3
    refine lv_aload_n hx hb dX11_keep_98 rfl (lv_at hl 0 rfl) ?_
    refine xr_getR hx hb hts iw_X11_keep_11 hown hK hP hF 11 19 rfl (by decide) (by decide +kernel) ⟨rfl, rfl, rfl⟩ dX11_keep_99 (fun v4 hF => ?_)
    refine lv_iload_n hx hb dX11_keep_102 rfl (lv_at hl 3 rfl) ?_
    refine xr_aI hx hb hK hP hF dX11_keep_103 (fun v5 hF => ?_)
    refine lv_goto (tgt := 108) hx hb dX11_keep_104 (by decide) ?_
    exact nd_X11_keep_108 CX _ _ _ _ _ _ _ _ _ _ _ hF hP hS (lv_sub hl [0, 1, 2, 3] rfl)
theorem gk_X11_keep {M : Mm} {a0 : Nat} {a1 : Int32} {a2 : Int32} {a3 : Int32} {r : (Mm × Int32)} (h : f_X11_keep M a0 a1 a2 a3 = some r) : mK M a0 = 12 := by
  unfold f_X11_keep at h
  exact (if_some h).1
set_option maxHeartbeats 4000000 in
set_option maxRecDepth 100000 in
theorem ct_X11_keep (l : Launch) (b0 : Nat) (D : va_G) (cy : Nat → ClassId) (M : Mm) (a0 : Nat) (a1 : Int32) (a2 : Int32) (a3 : Int32) (M1 : Mm) (r : Int32) (hF : f_X11_keep M a0 a1 a2 a3 = some (M1, r)) : Met l yX11_keep wsX11_keep rm_X11_keep (va_Pc [.ref a0, .int a1, .int a2, .int a3] (Pm b0 D cy M)) (Qm b0 D cy M1 (some (.int r))) 0 0 (BA b0) := by
  refine ct_of [.ref a0, .int a1, .int a2, .int a3] (by decide) rfl ?_
  intro p e s m below meth c CX hP
  obtain ⟨hx, hb, hr, hml, hown0, hts, hlk, hK, hN, hb0, hnm⟩ := id CX
  have hown : s.vm.findClass RX11 = some m.cls := hown0
  have hS : va_S (BA b0) s.heap s.heap [] := va_S.rf
  have hl := lv_entry [.ref a0, .int a1, .int a2, .int a3] (n := 5) (Nat.le_of_ble_eq_true rfl)
  generalize (lg_sl [.ref a0, .int a1, .int a2, .int a3] ++ List.replicate (5 - (lg_sl [.ref a0, .int a1, .int a2, .int a3]).length) Slot.unset).toArray = ls at hl ⊢
  have hl : lv_has ls 5 [(0, .ref a0), (1, .int a1), (2, .int a2), (3, .int a3)] := hl
  unfold f_X11_keep at hF
  replace hF := (if_some hF).2
  refine lv_aload_n hx hb dX11_keep_0 rfl (lv_at hl 0 rfl) ?_
  refine lv_iconst (v := 0) hx hb dX11_keep_1 (by decide) ?_
  refine xr_putI hx hb hts iw_X11_keep_11 hown hK hP hS hF 11 0 rfl (by decide) tyX11 tyX11_ok nmX11 (by decide +kernel) (Or.inl rfl) rfl ⟨rfl, rfl, rfl⟩ dX11_keep_2 (fun M1 H locs hF hP hS => ?_)
  refine lv_iload_n hx hb dX11_keep_5 rfl (lv_at hl 1 rfl) ?_
  obtain ⟨v3, h2, hF⟩ := ob_some hF
  refine xr_call1 (va_runS (As := [.int a1]) (rest := []) ⟨hx, hb, hml, hown, hts⟩ (ct_X11_isShelf l b0 D cy M1 a1 v3 h2) (va_cwS 1 hts gX11_keep_X11_isShelf rfl rfl rfl (by decide +kernel) ⟨Nat.le_of_ble_eq_true rfl, Nat.le_of_ble_eq_true rfl⟩) (xp_S hP hK hN hS hb0) rfl rfl hl.1 rfl (lv_room (Nat.le_of_ble_eq_true rfl)) dX11_keep_6 ⟨Nat.le_of_ble_eq_true rfl, Nat.le_of_ble_eq_true rfl⟩) hS (fun H locs hP hS => ?_)
  refine lv_if_eq (tgt := 33) hx hb dX11_keep_9 (by decide) (fun c4 => ?_) (fun c4 => ?_)
  · replace hF := it_t hF c4
    refine lv_iconst (v := (-1)) hx hb dX11_keep_33 (by decide) ?_
    cases hF
    exact W.iret hx hb hr (fun t ht hW => ⟨rfl, by rw [ht]; exact hP, hS.F ht⟩) hS.2.2 dX11_keep_34 hlk
  · replace hF := it_f hF c4
    refine lv_iload_n hx hb dX11_keep_12 rfl (lv_at hl 2 rfl) ?_
    refine lv_i2l hx hb dX11_keep_13 rfl ?_
    refine lv_lconst (v := 0) hx hb dX11_keep_14 (by decide) ?_
    refine lv_ldc2 (v := 4) hx hb hown (hts (.constantLong RX11 151 4) (by decide +kernel)) dX11_keep_15 ?_
    obtain ⟨v6, h5, hF⟩ := ob_some hF
    refine xr_call1 (va_runS (As := [.long a2.toInt64, .long 0, .long 4]) (rest := []) ⟨hx, hb, hml, hown, hts⟩ (ct_X11_isIn l b0 D cy M1 a2.toInt64 0 4 v6 h5) (va_cwS 3 hts gX11_keep_X11_isIn rfl rfl rfl (by decide +kernel) ⟨Nat.le_of_ble_eq_true rfl, Nat.le_of_ble_eq_true rfl⟩) (xp_S hP hK hN hS hb0) rfl rfl hl.1 rfl (lv_room (Nat.le_of_ble_eq_true rfl)) dX11_keep_18 ⟨Nat.le_of_ble_eq_true rfl, Nat.le_of_ble_eq_true rfl⟩) hS (fun H locs hP hS => ?_)
    refine lv_if_eq (tgt := 33) hx hb dX11_keep_21 (by decide) (fun c7 => ?_) (fun c7 => ?_)
    · replace hF := it_t hF c7
      refine lv_iconst (v := (-1)) hx hb dX11_keep_33 (by decide) ?_
      cases hF
      exact W.iret hx hb hr (fun t ht hW => ⟨rfl, by rw [ht]; exact hP, hS.F ht⟩) hS.2.2 dX11_keep_34 hlk
    · replace hF := it_f hF c7
      refine lv_aload_n hx hb dX11_keep_24 rfl (lv_at hl 0 rfl) ?_
      refine lv_iload_n hx hb dX11_keep_25 rfl (lv_at hl 2 rfl) ?_
      refine lv_iload_n hx hb dX11_keep_26 rfl (lv_at hl 3 rfl) ?_
      obtain ⟨v9, h8, hF⟩ := ob_some hF
      refine xr_call1 (va_runV (As := [.int a2, .int a3]) (rest := []) ⟨hx, hb, hml, hown, hts⟩ (ct_X11_canKeep l b0 D cy M1 a0 a2 a3 v9 h8) (cwV 2 hts gX11_keep_X11_canKeep rfl rfl rfl (by decide +kernel) ⟨Nat.le_of_ble_eq_true rfl, Nat.le_of_ble_eq_true rfl⟩) (xp_V hP hK hN hS hb0 11 rfl (gk_X11_canKeep h8)) rfl rfl hl.1 rfl (lv_room (Nat.le_of_ble_eq_true rfl)) dX11_keep_27 ⟨Nat.le_of_ble_eq_true rfl, Nat.le_of_ble_eq_true rfl⟩) hS (fun H locs hP hS => ?_)
      refine lv_if_ne (tgt := 35) hx hb dX11_keep_30 (by decide) (fun c10 => ?_) (fun c10 => ?_)
      · replace hF := it_f hF c10
        refine lv_aload_n hx hb dX11_keep_35 rfl (lv_at hl 0 rfl) ?_
        refine xr_getR hx hb hts iw_X11_keep_11 hown hK hP hF 11 53 rfl (by decide) (by decide +kernel) ⟨rfl, rfl, rfl⟩ dX11_keep_36 (fun v11 hF => ?_)
        refine lv_iload_n hx hb dX11_keep_39 rfl (lv_at hl 1 rfl) ?_
        refine lv_iload_n hx hb dX11_keep_40 rfl (lv_at hl 2 rfl) ?_
        refine xr_wI hx hb hK hP hS hF dX11_keep_41 (fun M12 H locs hF hP hS => ?_)
        refine lv_aload_n hx hb dX11_keep_42 rfl (lv_at hl 0 rfl) ?_
        refine xr_getR hx hb hts iw_X11_keep_11 hown hK hP hF 11 54 rfl (by decide) (by decide +kernel) ⟨rfl, rfl, rfl⟩ dX11_keep_43 (fun v13 hF => ?_)
        refine lv_iload_n hx hb dX11_keep_46 rfl (lv_at hl 1 rfl) ?_
        refine lv_iload_n hx hb dX11_keep_47 rfl (lv_at hl 2 rfl) ?_
        refine lv_if_ne (tgt := 55) hx hb dX11_keep_48 (by decide) (fun c14 => ?_) (fun c14 => ?_)
        · replace hF := it_f hF c14
          refine lv_iload_n hx hb dX11_keep_55 rfl (lv_at hl 2 rfl) ?_
          refine lv_iconst (v := 3) hx hb dX11_keep_56 (by decide) ?_
          refine lv_icmp_ge (tgt := 69) hx hb dX11_keep_57 (by decide) (fun c15 => ?_) (fun c15 => ?_)
          · replace hF := it_t hF c15
            refine lv_iload_n hx hb dX11_keep_69 rfl (lv_at hl 2 rfl) ?_
            refine lv_iconst (v := 3) hx hb dX11_keep_70 (by decide) ?_
            refine lv_icmp_ne (tgt := 83) hx hb dX11_keep_71 (by decide) (fun c16 => ?_) (fun c16 => ?_)
            · replace hF := it_f hF c16
              refine lv_aload_n hx hb dX11_keep_83 rfl (lv_at hl 0 rfl) ?_
              refine xr_getI hx hb hts iw_X11_keep_11 hown hK hP hF 11 1 rfl (by decide) (by decide +kernel) ⟨rfl, rfl, rfl⟩ dX11_keep_84 (fun v17 hF => ?_)
              exact nd_X11_keep_87 CX _ _ _ _ _ _ _ _ _ _ _ hF hP hS (lv_sub hl [0, 1, 2, 3] rfl)
            · replace hF := it_t hF c16
              refine lv_aload_n hx hb dX11_keep_74 rfl (lv_at hl 0 rfl) ?_
              refine xr_getR hx hb hts iw_X11_keep_11 hown hK hP hF 11 13 rfl (by decide) (by decide +kernel) ⟨rfl, rfl, rfl⟩ dX11_keep_75 (fun v18 hF => ?_)
              refine lv_iload_n hx hb dX11_keep_78 rfl (lv_at hl 3 rfl) ?_
              refine xr_aI hx hb hK hP hF dX11_keep_79 (fun v19 hF => ?_)
              refine lv_goto (tgt := 87) hx hb dX11_keep_80 (by decide) ?_
              exact nd_X11_keep_87 CX _ _ _ _ _ _ _ _ _ _ _ hF hP hS (lv_sub hl [0, 1, 2, 3] rfl)
          · replace hF := it_f hF c15
            refine lv_aload_n hx hb dX11_keep_60 rfl (lv_at hl 0 rfl) ?_
            refine xr_getR hx hb hts iw_X11_keep_11 hown hK hP hF 11 17 rfl (by decide) (by decide +kernel) ⟨rfl, rfl, rfl⟩ dX11_keep_61 (fun v20 hF => ?_)
            refine lv_iload_n hx hb dX11_keep_64 rfl (lv_at hl 3 rfl) ?_
            refine xr_aI hx hb hK hP hF dX11_keep_65 (fun v21 hF => ?_)
            refine lv_goto (tgt := 87) hx hb dX11_keep_66 (by decide) ?_
            exact nd_X11_keep_87 CX _ _ _ _ _ _ _ _ _ _ _ hF hP hS (lv_sub hl [0, 1, 2, 3] rfl)
        · replace hF := it_t hF c14
          refine lv_iconst (v := 0) hx hb dX11_keep_51 (by decide) ?_
          refine lv_goto (tgt := 87) hx hb dX11_keep_52 (by decide) ?_
          exact nd_X11_keep_87 CX _ _ _ _ _ _ _ _ _ _ _ hF hP hS (lv_sub hl [0, 1, 2, 3] rfl)
      · replace hF := it_t hF c10
        refine lv_iconst (v := (-1)) hx hb dX11_keep_33 (by decide) ?_
        cases hF
        exact W.iret hx hb hr (fun t ht hW => ⟨rfl, by rw [ht]; exact hP, hS.F ht⟩) hS.2.2 dX11_keep_34 hlk
/-! X11_make -/
theorem iw_X11_make_11 : ∀ w ∈ u_ws RX11 TX11 58, w ∈ wsX11_make := by decide +kernel
abbrev rm_X11_make : Room := { frames := 1, cells := 0, slots := 0, locals := 25 }
set_option maxHeartbeats 4000000 in
set_option maxRecDepth 100000 in
theorem nd_X11_make_58 {p : Program} {l : Launch} {e : Env} {s : State} {m : MethodId} {args : Array Value} {below : List Frame} {meth : Method} {c : Code} {b0 : Nat} {D : va_G} {cy : Nat → ClassId} {M1 : Mm} {r : Int32} (CX : Cx yX11_make cX11_make 5 (some .int) wsX11_make b0 D cy p s m args meth c) : ∀ (fu : Nat), ∀ (M : Mm) (x0 : Nat) (x1 : Int32) (x3 : Int32) (x4 : Int32) (H : Heap) (locs : List Loc) (ls : Array Slot), f_X11_make_L58 fu M x0 x1 x3 x4 = some (M1, r) → Hp b0 D cy M H → va_S (BA b0) s.heap H locs → lv_has ls 5 [(0, .ref x0), (1, .int x1), (3, .int x3), (4, .int x4)] → W p l e rm_X11_make s m args below meth c H locs 0 0 (MQ below (Qm b0 D cy M1 (some (.int r))) args s 0 0 (BA b0)) (F0 m 58 ls []) := by
  obtain ⟨hx, hb, hr, hml, hown0, hts, hlk, hK, hN, hb0, hnm⟩ := id CX
  have hown : s.vm.findClass RX11 = some m.cls := hown0
  intro fu
  induction fu with
  | zero =>
    intro M x0 x1 x3 x4 H locs ls hF hP hS hl
    rw [f_X11_make_L58] at hF
    cases hF
  | succ fu ih =>
    intro M x0 x1 x3 x4 H locs ls hF hP hS hl
    rw [f_X11_make_L58] at hF
    refine lv_iload hx hb dX11_make_58 (lv_at hl 3 rfl) ?_
    refine lv_iload_n hx hb dX11_make_60 rfl (lv_at hl 2 rfl) ?_
    refine lv_icmp_ge (tgt := 83) hx hb dX11_make_61 (by decide) (fun c1 => ?_) (fun c1 => ?_)
    · replace hF := it_t hF c1
      refine lv_iconst (v := 0) hx hb dX11_make_83 (by decide) ?_
      cases hF
      exact W.iret hx hb hr (fun t ht hW => ⟨rfl, by rw [ht]; exact hP, hS.F ht⟩) hS.2.2 dX11_make_84 hlk
    · replace hF := it_f hF c1
      refine lv_aload_n hx hb dX11_make_64 rfl (lv_at hl 0 rfl) ?_
      refine xr_getR hx hb hts iw_X11_make_11 hown hK hP hF 11 56 rfl (by decide) (by decide +kernel) ⟨rfl, rfl, rfl⟩ dX11_make_65 (fun v2 hF => ?_)
      refine lv_bipush (v := 64) hx hb dX11_make_68 (by decide) ?_
      refine lv_iload_n hx hb dX11_make_70 rfl (lv_at hl 1 rfl) ?_
      refine lv_imul hx hb dX11_make_71 ?_
      refine lv_iload hx hb dX11_make_72 (lv_at hl 3 rfl) ?_
      refine lv_iadd hx hb dX11_make_74 ?_
      refine lv_lconst (v := 0) hx hb dX11_make_75 (by decide) ?_
      refine xr_wJ hx hb hK hP hS hF dX11_make_76 (fun M3 H locs hF hP hS => ?_)
      refine lv_iinc (v := x4 + 1) (lv' := [(4, .int (x4 + 1)), (0, .ref x0), (1, .int x1), (3, .int x3)]) hx hb dX11_make_77 hl (k := 3) rfl (by rfl) (by decide) rfl (fun ls hl => ?_)
      refine lv_goto (tgt := 58) hx hb dX11_make_80 (by decide) ?_
      exact ih _ _ _ _ _ _ _ _ hF hP hS (lv_sub hl [1, 2, 3, 0] rfl)
theorem gk_X11_make {M : Mm} {a0 : Nat} {a1 : Int32} {a2 : Int32} {a3 : Int32} {r : (Mm × Int32)} (h : f_X11_make M a0 a1 a2 a3 = some r) : mK M a0 = 12 := by
  unfold f_X11_make at h
  exact (if_some h).1
set_option maxHeartbeats 4000000 in
set_option maxRecDepth 100000 in
theorem ct_X11_make (l : Launch) (b0 : Nat) (D : va_G) (cy : Nat → ClassId) (M : Mm) (a0 : Nat) (a1 : Int32) (a2 : Int32) (a3 : Int32) (M1 : Mm) (r : Int32) (hF : f_X11_make M a0 a1 a2 a3 = some (M1, r)) : Met l yX11_make wsX11_make rm_X11_make (va_Pc [.ref a0, .int a1, .int a2, .int a3] (Pm b0 D cy M)) (Qm b0 D cy M1 (some (.int r))) 0 0 (BA b0) := by
  refine ct_of [.ref a0, .int a1, .int a2, .int a3] (by decide) rfl ?_
  intro p e s m below meth c CX hP
  obtain ⟨hx, hb, hr, hml, hown0, hts, hlk, hK, hN, hb0, hnm⟩ := id CX
  have hown : s.vm.findClass RX11 = some m.cls := hown0
  have hS : va_S (BA b0) s.heap s.heap [] := va_S.rf
  have hl := lv_entry [.ref a0, .int a1, .int a2, .int a3] (n := 5) (Nat.le_of_ble_eq_true rfl)
  generalize (lg_sl [.ref a0, .int a1, .int a2, .int a3] ++ List.replicate (5 - (lg_sl [.ref a0, .int a1, .int a2, .int a3]).length) Slot.unset).toArray = ls at hl ⊢
  have hl : lv_has ls 5 [(0, .ref a0), (1, .int a1), (2, .int a2), (3, .int a3)] := hl
  unfold f_X11_make at hF
  replace hF := (if_some hF).2
  refine lv_aload_n hx hb dX11_make_0 rfl (lv_at hl 0 rfl) ?_
  refine lv_iconst (v := 0) hx hb dX11_make_1 (by decide) ?_
  refine xr_putI hx hb hts iw_X11_make_11 hown hK hP hS hF 11 0 rfl (by decide) tyX11 tyX11_ok nmX11 (by decide +kernel) (Or.inl rfl) rfl ⟨rfl, rfl, rfl⟩ dX11_make_2 (fun M1 H locs hF hP hS => ?_)
  refine lv_iload_n hx hb dX11_make_5 rfl (lv_at hl 1 rfl) ?_
  obtain ⟨v3, h2, hF⟩ := ob_some hF
  refine xr_call1 (va_runS (As := [.int a1]) (rest := []) ⟨hx, hb, hml, hown, hts⟩ (ct_X11_isShelf l b0 D cy M1 a1 v3 h2) (va_cwS 1 hts gX11_make_X11_isShelf rfl rfl rfl (by decide +kernel) ⟨Nat.le_of_ble_eq_true rfl, Nat.le_of_ble_eq_true rfl⟩) (xp_S hP hK hN hS hb0) rfl rfl hl.1 rfl (lv_room (Nat.le_of_ble_eq_true rfl)) dX11_make_6 ⟨Nat.le_of_ble_eq_true rfl, Nat.le_of_ble_eq_true rfl⟩) hS (fun H locs hP hS => ?_)
  refine lv_if_eq (tgt := 32) hx hb dX11_make_9 (by decide) (fun c4 => ?_) (fun c4 => ?_)
  · replace hF := it_t hF c4
    refine lv_iconst (v := (-1)) hx hb dX11_make_32 (by decide) ?_
    cases hF
    exact W.iret hx hb hr (fun t ht hW => ⟨rfl, by rw [ht]; exact hP, hS.F ht⟩) hS.2.2 dX11_make_33 hlk
  · replace hF := it_f hF c4
    refine lv_iload_n hx hb dX11_make_12 rfl (lv_at hl 2 rfl) ?_
    refine lv_i2l hx hb dX11_make_13 rfl ?_
    refine lv_ldc2 (v := 2) hx hb hown (hts (.constantLong RX11 265 2) (by decide +kernel)) dX11_make_14 ?_
    refine lv_ldc2 (v := 4) hx hb hown (hts (.constantLong RX11 151 4) (by decide +kernel)) dX11_make_17 ?_
    obtain ⟨v6, h5, hF⟩ := ob_some hF
    refine xr_call1 (va_runS (As := [.long a2.toInt64, .long 2, .long 4]) (rest := []) ⟨hx, hb, hml, hown, hts⟩ (ct_X11_isIn l b0 D cy M1 a2.toInt64 2 4 v6 h5) (va_cwS 3 hts gX11_make_X11_isIn rfl rfl rfl (by decide +kernel) ⟨Nat.le_of_ble_eq_true rfl, Nat.le_of_ble_eq_true rfl⟩) (xp_S hP hK hN hS hb0) rfl rfl hl.1 rfl (lv_room (Nat.le_of_ble_eq_true rfl)) dX11_make_20 ⟨Nat.le_of_ble_eq_true rfl, Nat.le_of_ble_eq_true rfl⟩) hS (fun H locs hP hS => ?_)
    refine lv_if_eq (tgt := 32) hx hb dX11_make_23 (by decide) (fun c7 => ?_) (fun c7 => ?_)
    · replace hF := it_t hF c7
      refine lv_iconst (v := (-1)) hx hb dX11_make_32 (by decide) ?_
      cases hF
      exact W.iret hx hb hr (fun t ht hW => ⟨rfl, by rw [ht]; exact hP, hS.F ht⟩) hS.2.2 dX11_make_33 hlk
    · replace hF := it_f hF c7
      refine lv_iload_n hx hb dX11_make_26 rfl (lv_at hl 3 rfl) ?_
      refine lv_bipush (v := 60) hx hb dX11_make_27 (by decide) ?_
      refine lv_icmp_le (tgt := 34) hx hb dX11_make_29 (by decide) (fun c8 => ?_) (fun c8 => ?_)
      · replace hF := it_t hF c8
        refine lv_iload_n hx hb dX11_make_34 rfl (lv_at hl 3 rfl) ?_
        refine lv_if_ge (tgt := 41) hx hb dX11_make_35 (by decide) (fun c9 => ?_) (fun c9 => ?_)
        · replace hF := it_t hF c9
          refine lv_aload_n hx hb dX11_make_41 rfl (lv_at hl 0 rfl) ?_
          refine xr_getR hx hb hts iw_X11_make_11 hown hK hP hF 11 53 rfl (by decide) (by decide +kernel) ⟨rfl, rfl, rfl⟩ dX11_make_42 (fun v10 hF => ?_)
          refine lv_iload_n hx hb dX11_make_45 rfl (lv_at hl 1 rfl) ?_
          refine lv_iload_n hx hb dX11_make_46 rfl (lv_at hl 2 rfl) ?_
          refine xr_wI hx hb hK hP hS hF dX11_make_47 (fun M11 H locs hF hP hS => ?_)
          refine lv_aload_n hx hb dX11_make_48 rfl (lv_at hl 0 rfl) ?_
          refine xr_getR hx hb hts iw_X11_make_11 hown hK hP hF 11 54 rfl (by decide) (by decide +kernel) ⟨rfl, rfl, rfl⟩ dX11_make_49 (fun v12 hF => ?_)
          refine lv_iload_n hx hb dX11_make_52 rfl (lv_at hl 1 rfl) ?_
          refine lv_iload_n hx hb dX11_make_53 rfl (lv_at hl 3 rfl) ?_
          refine xr_wI hx hb hK hP hS hF dX11_make_54 (fun M13 H locs hF hP hS => ?_)
          refine lv_iconst (v := 0) hx hb dX11_make_55 (by decide) ?_
          refine lv_istore (lv' := [(4, .int 0), (0, .ref a0), (1, .int a1), (2, .int a2), (3, .int a3)]) hx hb dX11_make_56 hl (by decide) (by first | rfl | simp [cat_rf]) (fun ls hl => ?_)
          exact nd_X11_make_58 CX _ _ _ _ _ _ _ _ _ hF hP hS (lv_sub hl [1, 2, 4, 0] rfl)
        · replace hF := it_f hF c9
          refine lv_bipush (v := (-14)) hx hb dX11_make_38 (by decide) ?_
          cases hF
          exact W.iret hx hb hr (fun t ht hW => ⟨rfl, by rw [ht]; exact hP, hS.F ht⟩) hS.2.2 dX11_make_40 hlk
      · replace hF := it_f hF c8
        refine lv_iconst (v := (-1)) hx hb dX11_make_32 (by decide) ?_
        cases hF
        exact W.iret hx hb hr (fun t ht hW => ⟨rfl, by rw [ht]; exact hP, hS.F ht⟩) hS.2.2 dX11_make_33 hlk
/-! X11_put -/
theorem iw_X11_put_11 : ∀ w ∈ u_ws RX11 TX11 58, w ∈ wsX11_put := by decide +kernel
abbrev rm_X11_put : Room := { frames := 1, cells := 0, slots := 0, locals := 25 }
theorem gk_X11_put {M : Mm} {a0 : Nat} {a1 : Int32} {a2 : Int32} {a3 : Int32} {r : (Mm × Int64)} (h : f_X11_put M a0 a1 a2 a3 = some r) : mK M a0 = 12 := by
  unfold f_X11_put at h
  exact (if_some h).1
set_option maxHeartbeats 4000000 in
set_option maxRecDepth 100000 in
theorem ct_X11_put (l : Launch) (b0 : Nat) (D : va_G) (cy : Nat → ClassId) (M : Mm) (a0 : Nat) (a1 : Int32) (a2 : Int32) (a3 : Int32) (M1 : Mm) (r : Int64) (hF : f_X11_put M a0 a1 a2 a3 = some (M1, r)) : Met l yX11_put wsX11_put rm_X11_put (va_Pc [.ref a0, .int a1, .int a2, .int a3] (Pm b0 D cy M)) (Qm b0 D cy M1 (some (.long r))) 0 0 (BA b0) := by
  refine ct_of [.ref a0, .int a1, .int a2, .int a3] (by decide) rfl ?_
  intro p e s m below meth c CX hP
  obtain ⟨hx, hb, hr, hml, hown0, hts, hlk, hK, hN, hb0, hnm⟩ := id CX
  have hown : s.vm.findClass RX11 = some m.cls := hown0
  have hS : va_S (BA b0) s.heap s.heap [] := va_S.rf
  have hl := lv_entry [.ref a0, .int a1, .int a2, .int a3] (n := 6) (Nat.le_of_ble_eq_true rfl)
  generalize (lg_sl [.ref a0, .int a1, .int a2, .int a3] ++ List.replicate (6 - (lg_sl [.ref a0, .int a1, .int a2, .int a3]).length) Slot.unset).toArray = ls at hl ⊢
  have hl : lv_has ls 6 [(0, .ref a0), (1, .int a1), (2, .int a2), (3, .int a3)] := hl
  unfold f_X11_put at hF
  replace hF := (if_some hF).2
  refine lv_aload_n hx hb dX11_put_0 rfl (lv_at hl 0 rfl) ?_
  refine lv_iconst (v := 0) hx hb dX11_put_1 (by decide) ?_
  refine xr_putI hx hb hts iw_X11_put_11 hown hK hP hS hF 11 0 rfl (by decide) tyX11 tyX11_ok nmX11 (by decide +kernel) (Or.inl rfl) rfl ⟨rfl, rfl, rfl⟩ dX11_put_2 (fun M1 H locs hF hP hS => ?_)
  refine lv_iload_n hx hb dX11_put_5 rfl (lv_at hl 1 rfl) ?_
  obtain ⟨v3, h2, hF⟩ := ob_some hF
  refine xr_call1 (va_runS (As := [.int a1]) (rest := []) ⟨hx, hb, hml, hown, hts⟩ (ct_X11_isShelf l b0 D cy M1 a1 v3 h2) (va_cwS 1 hts gX11_put_X11_isShelf rfl rfl rfl (by decide +kernel) ⟨Nat.le_of_ble_eq_true rfl, Nat.le_of_ble_eq_true rfl⟩) (xp_S hP hK hN hS hb0) rfl rfl hl.1 rfl (lv_room (Nat.le_of_ble_eq_true rfl)) dX11_put_6 ⟨Nat.le_of_ble_eq_true rfl, Nat.le_of_ble_eq_true rfl⟩) hS (fun H locs hP hS => ?_)
  refine lv_if_eq (tgt := 24) hx hb dX11_put_9 (by decide) (fun c4 => ?_) (fun c4 => ?_)
  · replace hF := it_t hF c4
    refine lv_ldc2 (v := (-1)) hx hb hown (hts (.constantLong RX11 169 (-1)) (by decide +kernel)) dX11_put_24 ?_
    cases hF
    exact W.lret hx hb hr (fun t ht hW => ⟨rfl, by rw [ht]; exact hP, hS.F ht⟩) hS.2.2 dX11_put_27 hlk
  · replace hF := it_f hF c4
    refine lv_iload_n hx hb dX11_put_12 rfl (lv_at hl 3 rfl) ?_
    refine lv_i2l hx hb dX11_put_13 rfl ?_
    refine lv_lconst (v := 0) hx hb dX11_put_14 (by decide) ?_
    refine lv_ldc2 (v := 30000) hx hb hown (hts (.constantLong RX11 333 30000) (by decide +kernel)) dX11_put_15 ?_
    obtain ⟨v6, h5, hF⟩ := ob_some hF
    refine xr_call1 (va_runS (As := [.long a3.toInt64, .long 0, .long 30000]) (rest := []) ⟨hx, hb, hml, hown, hts⟩ (ct_X11_isIn l b0 D cy M1 a3.toInt64 0 30000 v6 h5) (va_cwS 3 hts gX11_put_X11_isIn rfl rfl rfl (by decide +kernel) ⟨Nat.le_of_ble_eq_true rfl, Nat.le_of_ble_eq_true rfl⟩) (xp_S hP hK hN hS hb0) rfl rfl hl.1 rfl (lv_room (Nat.le_of_ble_eq_true rfl)) dX11_put_18 ⟨Nat.le_of_ble_eq_true rfl, Nat.le_of_ble_eq_true rfl⟩) hS (fun H locs hP hS => ?_)
    refine lv_if_ne (tgt := 28) hx hb dX11_put_21 (by decide) (fun c7 => ?_) (fun c7 => ?_)
    · replace hF := it_f hF c7
      refine lv_aload_n hx hb dX11_put_28 rfl (lv_at hl 0 rfl) ?_
      refine xr_getR hx hb hts iw_X11_put_11 hown hK hP hF 11 53 rfl (by decide) (by decide +kernel) ⟨rfl, rfl, rfl⟩ dX11_put_29 (fun v8 hF => ?_)
      refine lv_iload_n hx hb dX11_put_32 rfl (lv_at hl 1 rfl) ?_
      refine xr_aI hx hb hK hP hF dX11_put_33 (fun v9 hF => ?_)
      refine lv_iconst (v := 2) hx hb dX11_put_34 (by decide) ?_
      refine lv_icmp_ge (tgt := 57) hx hb dX11_put_35 (by decide) (fun c10 => ?_) (fun c10 => ?_)
      · replace hF := it_t hF c10
        refine lv_iload_n hx hb dX11_put_57 rfl (lv_at hl 2 rfl) ?_
        refine lv_if_lt (tgt := 71) hx hb dX11_put_58 (by decide) (fun c11 => ?_) (fun c11 => ?_)
        · replace hF := it_t hF c11
          refine lv_ldc2 (v := (-13)) hx hb hown (hts (.constantLong RX11 339 (-13)) (by decide +kernel)) dX11_put_71 ?_
          cases hF
          exact W.lret hx hb hr (fun t ht hW => ⟨rfl, by rw [ht]; exact hP, hS.F ht⟩) hS.2.2 dX11_put_74 hlk
        · replace hF := it_f hF c11
          refine lv_iload_n hx hb dX11_put_61 rfl (lv_at hl 2 rfl) ?_
          refine lv_aload_n hx hb dX11_put_62 rfl (lv_at hl 0 rfl) ?_
          refine xr_getR hx hb hts iw_X11_put_11 hown hK hP hF 11 54 rfl (by decide) (by decide +kernel) ⟨rfl, rfl, rfl⟩ dX11_put_63 (fun v12 hF => ?_)
          refine lv_iload_n hx hb dX11_put_66 rfl (lv_at hl 1 rfl) ?_
          refine xr_aI hx hb hK hP hF dX11_put_67 (fun v13 hF => ?_)
          refine lv_icmp_lt (tgt := 75) hx hb dX11_put_68 (by decide) (fun c14 => ?_) (fun c14 => ?_)
          · replace hF := it_t hF c14
            refine lv_aload_n hx hb dX11_put_75 rfl (lv_at hl 0 rfl) ?_
            refine xr_getR hx hb hts iw_X11_put_11 hown hK hP hF 11 56 rfl (by decide) (by decide +kernel) ⟨rfl, rfl, rfl⟩ dX11_put_76 (fun v15 hF => ?_)
            refine lv_bipush (v := 64) hx hb dX11_put_79 (by decide) ?_
            refine lv_iload_n hx hb dX11_put_81 rfl (lv_at hl 1 rfl) ?_
            refine lv_imul hx hb dX11_put_82 ?_
            refine lv_iload_n hx hb dX11_put_83 rfl (lv_at hl 2 rfl) ?_
            refine lv_iadd hx hb dX11_put_84 ?_
            refine xr_aJ hx hb hK hP hF dX11_put_85 (fun v16 hF => ?_)
            refine lv_lstore (lv' := [(4, .long v16), (0, .ref a0), (1, .int a1), (2, .int a2), (3, .int a3)]) hx hb dX11_put_86 hl (by decide) (by first | rfl | simp [cat_rf]) (fun ls hl => ?_)
            refine lv_aload_n hx hb dX11_put_88 rfl (lv_at hl 1 rfl) ?_
            refine xr_getR hx hb hts iw_X11_put_11 hown hK hP hF 11 56 rfl (by decide) (by decide +kernel) ⟨rfl, rfl, rfl⟩ dX11_put_89 (fun v17 hF => ?_)
            refine lv_bipush (v := 64) hx hb dX11_put_92 (by decide) ?_
            refine lv_iload_n hx hb dX11_put_94 rfl (lv_at hl 2 rfl) ?_
            refine lv_imul hx hb dX11_put_95 ?_
            refine lv_iload_n hx hb dX11_put_96 rfl (lv_at hl 3 rfl) ?_
            refine lv_iadd hx hb dX11_put_97 ?_
            refine lv_iload_n hx hb dX11_put_98 rfl (lv_at hl 4 rfl) ?_
            refine lv_i2l hx hb dX11_put_99 rfl ?_
            refine xr_wJ hx hb hK hP hS hF dX11_put_100 (fun M18 H locs hF hP hS => ?_)
            refine lv_lload hx hb dX11_put_101 (lv_at hl 0 rfl) ?_
            cases hF
            exact W.lret hx hb hr (fun t ht hW => ⟨rfl, by rw [ht]; exact hP, hS.F ht⟩) hS.2.2 dX11_put_103 hlk
          · replace hF := it_f hF c14
            refine lv_ldc2 (v := (-13)) hx hb hown (hts (.constantLong RX11 339 (-13)) (by decide +kernel)) dX11_put_71 ?_
            cases hF
            exact W.lret hx hb hr (fun t ht hW => ⟨rfl, by rw [ht]; exact hP, hS.F ht⟩) hS.2.2 dX11_put_74 hlk
      · replace hF := it_f hF c10
        refine lv_aload_n hx hb dX11_put_38 rfl (lv_at hl 0 rfl) ?_
        refine xr_getR hx hb hts iw_X11_put_11 hown hK hP hF 11 53 rfl (by decide) (by decide +kernel) ⟨rfl, rfl, rfl⟩ dX11_put_39 (fun v19 hF => ?_)
        refine lv_iload_n hx hb dX11_put_42 rfl (lv_at hl 1 rfl) ?_
        refine xr_aI hx hb hK hP hF dX11_put_43 (fun v20 hF => ?_)
        refine lv_if_ne (tgt := 53) hx hb dX11_put_44 (by decide) (fun c21 => ?_) (fun c21 => ?_)
        · replace hF := it_f hF c21
          refine lv_ldc2 (v := (-12)) hx hb hown (hts (.constantLong RX11 337 (-12)) (by decide +kernel)) dX11_put_53 ?_
          cases hF
          exact W.lret hx hb hr (fun t ht hW => ⟨rfl, by rw [ht]; exact hP, hS.F ht⟩) hS.2.2 dX11_put_56 hlk
        · replace hF := it_t hF c21
          refine lv_ldc2 (v := (-11)) hx hb hown (hts (.constantLong RX11 335 (-11)) (by decide +kernel)) dX11_put_47 ?_
          refine lv_goto (tgt := 56) hx hb dX11_put_50 (by decide) ?_
          cases hF
          exact W.lret hx hb hr (fun t ht hW => ⟨rfl, by rw [ht]; exact hP, hS.F ht⟩) hS.2.2 dX11_put_56 hlk
    · replace hF := it_t hF c7
      refine lv_ldc2 (v := (-1)) hx hb hown (hts (.constantLong RX11 169 (-1)) (by decide +kernel)) dX11_put_24 ?_
      cases hF
      exact W.lret hx hb hr (fun t ht hW => ⟨rfl, by rw [ht]; exact hP, hS.F ht⟩) hS.2.2 dX11_put_27 hlk
/-! X11_hasPlaces -/
theorem iw_X11_hasPlaces_11 : ∀ w ∈ u_ws RX11 TX11 58, w ∈ wsX11_hasPlaces := by decide +kernel
abbrev rm_X11_hasPlaces : Room := { frames := 0, cells := 0, slots := 0, locals := 0 }
theorem gk_X11_hasPlaces {M : Mm} {a0 : Nat} {a1 : Int32} {a2 : Int32} {a3 : Int32} {r : Int32} (h : f_X11_hasPlaces M a0 a1 a2 a3 = some r) : mK M a0 = 12 := by
  unfold f_X11_hasPlaces at h
  exact (if_some h).1
set_option maxHeartbeats 4000000 in
set_option maxRecDepth 100000 in
theorem ct_X11_hasPlaces (l : Launch) (b0 : Nat) (D : va_G) (cy : Nat → ClassId) (M : Mm) (a0 : Nat) (a1 : Int32) (a2 : Int32) (a3 : Int32) (r : Int32) (hF : f_X11_hasPlaces M a0 a1 a2 a3 = some r) : Met l yX11_hasPlaces wsX11_hasPlaces rm_X11_hasPlaces (va_Pc [.ref a0, .int a1, .int a2, .int a3] (Pm b0 D cy M)) (Qm b0 D cy M (some (.int r))) 0 0 (BA b0) := by
  refine ct_of [.ref a0, .int a1, .int a2, .int a3] (by decide) rfl ?_
  intro p e s m below meth c CX hP
  obtain ⟨hx, hb, hr, hml, hown0, hts, hlk, hK, hN, hb0, hnm⟩ := id CX
  have hown : s.vm.findClass RX11 = some m.cls := hown0
  have hS : va_S (BA b0) s.heap s.heap [] := va_S.rf
  have hl := lv_entry [.ref a0, .int a1, .int a2, .int a3] (n := 4) (Nat.le_of_ble_eq_true rfl)
  generalize (lg_sl [.ref a0, .int a1, .int a2, .int a3] ++ List.replicate (4 - (lg_sl [.ref a0, .int a1, .int a2, .int a3]).length) Slot.unset).toArray = ls at hl ⊢
  have hl : lv_has ls 4 [(0, .ref a0), (1, .int a1), (2, .int a2), (3, .int a3)] := hl
  unfold f_X11_hasPlaces at hF
  replace hF := (if_some hF).2
  refine lv_iload_n hx hb dX11_hasPlaces_0 rfl (lv_at hl 3 rfl) ?_
  refine lv_if_lt (tgt := 34) hx hb dX11_hasPlaces_1 (by decide) (fun c1 => ?_) (fun c1 => ?_)
  · replace hF := it_t hF c1
    refine lv_iconst (v := 0) hx hb dX11_hasPlaces_34 (by decide) ?_
    cases hF
    exact W.zret hx hb hr rfl (fun t ht hW => ⟨rfl, by rw [ht]; exact hP, hS.F ht⟩) hS.2.2 dX11_hasPlaces_35 hlk
  · replace hF := it_f hF c1
    refine lv_iload_n hx hb dX11_hasPlaces_4 rfl (lv_at hl 2 rfl) ?_
    refine lv_if_lt (tgt := 34) hx hb dX11_hasPlaces_5 (by decide) (fun c2 => ?_) (fun c2 => ?_)
    · replace hF := it_t hF c2
      refine lv_iconst (v := 0) hx hb dX11_hasPlaces_34 (by decide) ?_
      cases hF
      exact W.zret hx hb hr rfl (fun t ht hW => ⟨rfl, by rw [ht]; exact hP, hS.F ht⟩) hS.2.2 dX11_hasPlaces_35 hlk
    · replace hF := it_f hF c2
      refine lv_iload_n hx hb dX11_hasPlaces_8 rfl (lv_at hl 2 rfl) ?_
      refine lv_aload_n hx hb dX11_hasPlaces_9 rfl (lv_at hl 0 rfl) ?_
      refine xr_getR hx hb hts iw_X11_hasPlaces_11 hown hK hP hF 11 54 rfl (by decide) (by decide +kernel) ⟨rfl, rfl, rfl⟩ dX11_hasPlaces_10 (fun v3 hF => ?_)
      refine lv_iload_n hx hb dX11_hasPlaces_13 rfl (lv_at hl 1 rfl) ?_
      refine xr_aI hx hb hK hP hF dX11_hasPlaces_14 (fun v4 hF => ?_)
      refine lv_icmp_gt (tgt := 34) hx hb dX11_hasPlaces_15 (by decide) (fun c5 => ?_) (fun c5 => ?_)
      · replace hF := it_t hF c5
        refine lv_iconst (v := 0) hx hb dX11_hasPlaces_34 (by decide) ?_
        cases hF
        exact W.zret hx hb hr rfl (fun t ht hW => ⟨rfl, by rw [ht]; exact hP, hS.F ht⟩) hS.2.2 dX11_hasPlaces_35 hlk
      · replace hF := it_f hF c5
        refine lv_iload_n hx hb dX11_hasPlaces_18 rfl (lv_at hl 3 rfl) ?_
        refine lv_aload_n hx hb dX11_hasPlaces_19 rfl (lv_at hl 0 rfl) ?_
        refine xr_getR hx hb hts iw_X11_hasPlaces_11 hown hK hP hF 11 54 rfl (by decide) (by decide +kernel) ⟨rfl, rfl, rfl⟩ dX11_hasPlaces_20 (fun v6 hF => ?_)
        refine lv_iload_n hx hb dX11_hasPlaces_23 rfl (lv_at hl 1 rfl) ?_
        refine xr_aI hx hb hK hP hF dX11_hasPlaces_24 (fun v7 hF => ?_)
        refine lv_iload_n hx hb dX11_hasPlaces_25 rfl (lv_at hl 2 rfl) ?_
        refine lv_isub hx hb dX11_hasPlaces_26 ?_
        refine lv_icmp_gt (tgt := 34) hx hb dX11_hasPlaces_27 (by decide) (fun c8 => ?_) (fun c8 => ?_)
        · replace hF := it_t hF c8
          refine lv_iconst (v := 0) hx hb dX11_hasPlaces_34 (by decide) ?_
          cases hF
          exact W.zret hx hb hr rfl (fun t ht hW => ⟨rfl, by rw [ht]; exact hP, hS.F ht⟩) hS.2.2 dX11_hasPlaces_35 hlk
        · replace hF := it_f hF c8
          refine lv_iconst (v := 1) hx hb dX11_hasPlaces_30 (by decide) ?_
          refine lv_goto (tgt := 35) hx hb dX11_hasPlaces_31 (by decide) ?_
          cases hF
          exact W.zret hx hb hr rfl (fun t ht hW => ⟨rfl, by rw [ht]; exact hP, hS.F ht⟩) hS.2.2 dX11_hasPlaces_35 hlk
/-! X11_copy -/
theorem iw_X11_copy_11 : ∀ w ∈ u_ws RX11 TX11 58, w ∈ wsX11_copy := by decide +kernel
abbrev rm_X11_copy : Room := { frames := 1, cells := 0, slots := 0, locals := 23 }
set_option maxHeartbeats 4000000 in
set_option maxRecDepth 100000 in
theorem nd_X11_copy_136 {p : Program} {l : Launch} {e : Env} {s : State} {m : MethodId} {args : Array Value} {below : List Frame} {meth : Method} {c : Code} {b0 : Nat} {D : va_G} {cy : Nat → ClassId} {M1 : Mm} {r : Int32} (CX : Cx yX11_copy cX11_copy 7 (some .int) wsX11_copy b0 D cy p s m args meth c) : ∀ (fu : Nat), ∀ (M : Mm) (x0 : Nat) (x3 : Int32) (x4 : Int32) (x5 : Int32) (x6 : Int32) (H : Heap) (locs : List Loc) (ls : Array Slot), f_X11_copy_L136 fu M x0 x3 x4 x5 x6 = some (M1, r) → Hp b0 D cy M H → va_S (BA b0) s.heap H locs → lv_has ls 7 [(0, .ref x0), (3, .int x3), (4, .int x4), (5, .int x5), (6, .int x6)] → W p l e rm_X11_copy s m args below meth c H locs 0 0 (MQ below (Qm b0 D cy M1 (some (.int r))) args s 0 0 (BA b0)) (F0 m 136 ls []) := by
  obtain ⟨hx, hb, hr, hml, hown0, hts, hlk, hK, hN, hb0, hnm⟩ := id CX
  have hown : s.vm.findClass RX11 = some m.cls := hown0
  intro fu
  induction fu with
  | zero =>
    intro M x0 x3 x4 x5 x6 H locs ls hF hP hS hl
    rw [f_X11_copy_L136] at hF
    cases hF
  | succ fu ih =>
    intro M x0 x3 x4 x5 x6 H locs ls hF hP hS hl
    rw [f_X11_copy_L136] at hF
    refine lv_iload hx hb dX11_copy_136 (lv_at hl 4 rfl) ?_
    refine lv_iload hx hb dX11_copy_138 (lv_at hl 3 rfl) ?_
    refine lv_icmp_ge (tgt := 171) hx hb dX11_copy_140 (by decide) (fun c1 => ?_) (fun c1 => ?_)
    · replace hF := it_t hF c1
      refine lv_iload hx hb dX11_copy_171 (lv_at hl 3 rfl) ?_
      cases hF
      exact W.iret hx hb hr (fun t ht hW => ⟨rfl, by rw [ht]; exact hP, hS.F ht⟩) hS.2.2 dX11_copy_173 hlk
    · replace hF := it_f hF c1
      refine lv_aload_n hx hb dX11_copy_143 rfl (lv_at hl 0 rfl) ?_
      refine xr_getR hx hb hts iw_X11_copy_11 hown hK hP hF 11 56 rfl (by decide) (by decide +kernel) ⟨rfl, rfl, rfl⟩ dX11_copy_144 (fun v2 hF => ?_)
      refine lv_bipush (v := 64) hx hb dX11_copy_147 (by decide) ?_
      refine lv_iload_n hx hb dX11_copy_149 rfl (lv_at hl 1 rfl) ?_
      refine lv_imul hx hb dX11_copy_150 ?_
      refine lv_iload hx hb dX11_copy_151 (lv_at hl 2 rfl) ?_
      refine lv_iadd hx hb dX11_copy_153 ?_
      refine lv_iload hx hb dX11_copy_154 (lv_at hl 4 rfl) ?_
      refine lv_iadd hx hb dX11_copy_156 ?_
      refine lv_aload_n hx hb dX11_copy_157 rfl (lv_at hl 0 rfl) ?_
      refine xr_getR hx hb hts iw_X11_copy_11 hown hK hP hF 11 57 rfl (by decide) (by decide +kernel) ⟨rfl, rfl, rfl⟩ dX11_copy_158 (fun v3 hF => ?_)
      refine lv_iload hx hb dX11_copy_161 (lv_at hl 4 rfl) ?_
      refine xr_aJ hx hb hK hP hF dX11_copy_163 (fun v4 hF => ?_)
      refine xr_wJ hx hb hK hP hS hF dX11_copy_164 (fun M5 H locs hF hP hS => ?_)
      refine lv_iinc (v := x6 + 1) (lv' := [(6, .int (x6 + 1)), (0, .ref x0), (3, .int x3), (4, .int x4), (5, .int x5)]) hx hb dX11_copy_165 hl (k := 4) rfl (by rfl) (by decide) rfl (fun ls hl => ?_)
      refine lv_goto (tgt := 136) hx hb dX11_copy_168 (by decide) ?_
      exact ih _ _ _ _ _ _ _ _ _ hF hP hS (lv_sub hl [1, 2, 3, 4, 0] rfl)
set_option maxHeartbeats 4000000 in
set_option maxRecDepth 100000 in
theorem nd_X11_copy_99 {p : Program} {l : Launch} {e : Env} {s : State} {m : MethodId} {args : Array Value} {below : List Frame} {meth : Method} {c : Code} {b0 : Nat} {D : va_G} {cy : Nat → ClassId} {M1 : Mm} {r : Int32} (CX : Cx yX11_copy cX11_copy 7 (some .int) wsX11_copy b0 D cy p s m args meth c) : ∀ (fu : Nat), ∀ (M : Mm) (x0 : Nat) (x1 : Int32) (x2 : Int32) (x3 : Int32) (x4 : Int32) (x5 : Int32) (x6 : Int32) (H : Heap) (locs : List Loc) (ls : Array Slot), f_X11_copy_L99 fu M x0 x1 x2 x3 x4 x5 x6 = some (M1, r) → Hp b0 D cy M H → va_S (BA b0) s.heap H locs → lv_has ls 7 [(0, .ref x0), (1, .int x1), (2, .int x2), (3, .int x3), (4, .int x4), (5, .int x5), (6, .int x6)] → W p l e rm_X11_copy s m args below meth c H locs 0 0 (MQ below (Qm b0 D cy M1 (some (.int r))) args s 0 0 (BA b0)) (F0 m 99 ls []) := by
  obtain ⟨hx, hb, hr, hml, hown0, hts, hlk, hK, hN, hb0, hnm⟩ := id CX
  have hown : s.vm.findClass RX11 = some m.cls := hown0
  intro fu
  induction fu with
  | zero =>
    intro M x0 x1 x2 x3 x4 x5 x6 H locs ls hF hP hS hl
    rw [f_X11_copy_L99] at hF
    cases hF
  | succ fu ih =>
    intro M x0 x1 x2 x3 x4 x5 x6 H locs ls hF hP hS hl
    rw [f_X11_copy_L99] at hF
    refine lv_iload hx hb dX11_copy_99 (lv_at hl 6 rfl) ?_
    refine lv_iload hx hb dX11_copy_101 (lv_at hl 5 rfl) ?_
    refine lv_icmp_ge (tgt := 133) hx hb dX11_copy_103 (by decide) (fun c1 => ?_) (fun c1 => ?_)
    · replace hF := it_t hF c1
      refine lv_iconst (v := 0) hx hb dX11_copy_133 (by decide) ?_
      refine lv_istore (lv' := [(6, .int 0), (0, .ref x0), (1, .int x1), (2, .int x2), (3, .int x3), (4, .int x4), (5, .int x5)]) hx hb dX11_copy_134 hl (by decide) (by first | rfl | simp [cat_rf]) (fun ls hl => ?_)
      exact nd_X11_copy_136 CX _ _ _ _ _ _ _ _ _ _ hF hP hS (lv_sub hl [1, 4, 5, 6, 0] rfl)
    · replace hF := it_f hF c1
      refine lv_aload_n hx hb dX11_copy_106 rfl (lv_at hl 0 rfl) ?_
      refine xr_getR hx hb hts iw_X11_copy_11 hown hK hP hF 11 57 rfl (by decide) (by decide +kernel) ⟨rfl, rfl, rfl⟩ dX11_copy_107 (fun v2 hF => ?_)
      refine lv_iload hx hb dX11_copy_110 (lv_at hl 6 rfl) ?_
      refine lv_aload_n hx hb dX11_copy_112 rfl (lv_at hl 0 rfl) ?_
      refine xr_getR hx hb hts iw_X11_copy_11 hown hK hP hF 11 56 rfl (by decide) (by decide +kernel) ⟨rfl, rfl, rfl⟩ dX11_copy_113 (fun v3 hF => ?_)
      refine lv_bipush (v := 64) hx hb dX11_copy_116 (by decide) ?_
      refine lv_iload_n hx hb dX11_copy_118 rfl (lv_at hl 1 rfl) ?_
      refine lv_imul hx hb dX11_copy_119 ?_
      refine lv_iload_n hx hb dX11_copy_120 rfl (lv_at hl 2 rfl) ?_
      refine lv_iadd hx hb dX11_copy_121 ?_
      refine lv_iload hx hb dX11_copy_122 (lv_at hl 6 rfl) ?_
      refine lv_iadd hx hb dX11_copy_124 ?_
      refine xr_aJ hx hb hK hP hF dX11_copy_125 (fun v4 hF => ?_)
      refine xr_wJ hx hb hK hP hS hF dX11_copy_126 (fun M5 H locs hF hP hS => ?_)
      refine lv_iinc (v := x6 + 1) (lv' := [(6, .int (x6 + 1)), (0, .ref x0), (1, .int x1), (2, .int x2), (3, .int x3), (4, .int x4), (5, .int x5)]) hx hb dX11_copy_127 hl (k := 6) rfl (by rfl) (by decide) rfl (fun ls hl => ?_)
      refine lv_goto (tgt := 99) hx hb dX11_copy_130 (by decide) ?_
      exact ih _ _ _ _ _ _ _ _ _ _ _ hF hP hS (lv_sub hl [1, 2, 3, 4, 5, 6, 0] rfl)
theorem gk_X11_copy {M : Mm} {a0 : Nat} {a1 : Int32} {a2 : Int32} {a3 : Int32} {a4 : Int32} {a5 : Int32} {r : (Mm × Int32)} (h : f_X11_copy M a0 a1 a2 a3 a4 a5 = some r) : mK M a0 = 12 := by
  unfold f_X11_copy at h
  exact (if_some h).1
set_option maxHeartbeats 4000000 in
set_option maxRecDepth 100000 in
theorem ct_X11_copy (l : Launch) (b0 : Nat) (D : va_G) (cy : Nat → ClassId) (M : Mm) (a0 : Nat) (a1 : Int32) (a2 : Int32) (a3 : Int32) (a4 : Int32) (a5 : Int32) (M1 : Mm) (r : Int32) (hF : f_X11_copy M a0 a1 a2 a3 a4 a5 = some (M1, r)) : Met l yX11_copy wsX11_copy rm_X11_copy (va_Pc [.ref a0, .int a1, .int a2, .int a3, .int a4, .int a5] (Pm b0 D cy M)) (Qm b0 D cy M1 (some (.int r))) 0 0 (BA b0) := by
  refine ct_of [.ref a0, .int a1, .int a2, .int a3, .int a4, .int a5] (by decide) rfl ?_
  intro p e s m below meth c CX hP
  obtain ⟨hx, hb, hr, hml, hown0, hts, hlk, hK, hN, hb0, hnm⟩ := id CX
  have hown : s.vm.findClass RX11 = some m.cls := hown0
  have hS : va_S (BA b0) s.heap s.heap [] := va_S.rf
  have hl := lv_entry [.ref a0, .int a1, .int a2, .int a3, .int a4, .int a5] (n := 7) (Nat.le_of_ble_eq_true rfl)
  generalize (lg_sl [.ref a0, .int a1, .int a2, .int a3, .int a4, .int a5] ++ List.replicate (7 - (lg_sl [.ref a0, .int a1, .int a2, .int a3, .int a4, .int a5]).length) Slot.unset).toArray = ls at hl ⊢
  have hl : lv_has ls 7 [(0, .ref a0), (1, .int a1), (2, .int a2), (3, .int a3), (4, .int a4), (5, .int a5)] := hl
  unfold f_X11_copy at hF
  replace hF := (if_some hF).2
  refine lv_aload_n hx hb dX11_copy_0 rfl (lv_at hl 0 rfl) ?_
  refine lv_iconst (v := 0) hx hb dX11_copy_1 (by decide) ?_
  refine xr_putI hx hb hts iw_X11_copy_11 hown hK hP hS hF 11 0 rfl (by decide) tyX11 tyX11_ok nmX11 (by decide +kernel) (Or.inl rfl) rfl ⟨rfl, rfl, rfl⟩ dX11_copy_2 (fun M1 H locs hF hP hS => ?_)
  refine lv_iload_n hx hb dX11_copy_5 rfl (lv_at hl 1 rfl) ?_
  obtain ⟨v3, h2, hF⟩ := ob_some hF
  refine xr_call1 (va_runS (As := [.int a1]) (rest := []) ⟨hx, hb, hml, hown, hts⟩ (ct_X11_isShelf l b0 D cy M1 a1 v3 h2) (va_cwS 1 hts gX11_copy_X11_isShelf rfl rfl rfl (by decide +kernel) ⟨Nat.le_of_ble_eq_true rfl, Nat.le_of_ble_eq_true rfl⟩) (xp_S hP hK hN hS hb0) rfl rfl hl.1 rfl (lv_room (Nat.le_of_ble_eq_true rfl)) dX11_copy_6 ⟨Nat.le_of_ble_eq_true rfl, Nat.le_of_ble_eq_true rfl⟩) hS (fun H locs hP hS => ?_)
  refine lv_if_eq (tgt := 19) hx hb dX11_copy_9 (by decide) (fun c4 => ?_) (fun c4 => ?_)
  · replace hF := it_t hF c4
    refine lv_iconst (v := (-1)) hx hb dX11_copy_19 (by decide) ?_
    cases hF
    exact W.iret hx hb hr (fun t ht hW => ⟨rfl, by rw [ht]; exact hP, hS.F ht⟩) hS.2.2 dX11_copy_20 hlk
  · replace hF := it_f hF c4
    refine lv_iload_n hx hb dX11_copy_12 rfl (lv_at hl 3 rfl) ?_
    obtain ⟨v6, h5, hF⟩ := ob_some hF
    refine xr_call1 (va_runS (As := [.int a3]) (rest := []) ⟨hx, hb, hml, hown, hts⟩ (ct_X11_isShelf l b0 D cy M1 a3 v6 h5) (va_cwS 1 hts gX11_copy_X11_isShelf rfl rfl rfl (by decide +kernel) ⟨Nat.le_of_ble_eq_true rfl, Nat.le_of_ble_eq_true rfl⟩) (xp_S hP hK hN hS hb0) rfl rfl hl.1 rfl (lv_room (Nat.le_of_ble_eq_true rfl)) dX11_copy_13 ⟨Nat.le_of_ble_eq_true rfl, Nat.le_of_ble_eq_true rfl⟩) hS (fun H locs hP hS => ?_)
    refine lv_if_ne (tgt := 21) hx hb dX11_copy_16 (by decide) (fun c7 => ?_) (fun c7 => ?_)
    · replace hF := it_f hF c7
      refine lv_aload_n hx hb dX11_copy_21 rfl (lv_at hl 0 rfl) ?_
      refine xr_getR hx hb hts iw_X11_copy_11 hown hK hP hF 11 53 rfl (by decide) (by decide +kernel) ⟨rfl, rfl, rfl⟩ dX11_copy_22 (fun v8 hF => ?_)
      refine lv_iload_n hx hb dX11_copy_25 rfl (lv_at hl 1 rfl) ?_
      refine xr_aI hx hb hK hP hF dX11_copy_26 (fun v9 hF => ?_)
      refine lv_if_eq (tgt := 39) hx hb dX11_copy_27 (by decide) (fun c10 => ?_) (fun c10 => ?_)
      · replace hF := it_t hF c10
        refine lv_bipush (v := (-11)) hx hb dX11_copy_39 (by decide) ?_
        cases hF
        exact W.iret hx hb hr (fun t ht hW => ⟨rfl, by rw [ht]; exact hP, hS.F ht⟩) hS.2.2 dX11_copy_41 hlk
      · replace hF := it_f hF c10
        refine lv_aload_n hx hb dX11_copy_30 rfl (lv_at hl 0 rfl) ?_
        refine xr_getR hx hb hts iw_X11_copy_11 hown hK hP hF 11 53 rfl (by decide) (by decide +kernel) ⟨rfl, rfl, rfl⟩ dX11_copy_31 (fun v11 hF => ?_)
        refine lv_iload_n hx hb dX11_copy_34 rfl (lv_at hl 3 rfl) ?_
        refine xr_aI hx hb hK hP hF dX11_copy_35 (fun v12 hF => ?_)
        refine lv_if_ne (tgt := 42) hx hb dX11_copy_36 (by decide) (fun c13 => ?_) (fun c13 => ?_)
        · replace hF := it_f hF c13
          refine lv_aload_n hx hb dX11_copy_42 rfl (lv_at hl 0 rfl) ?_
          refine xr_getR hx hb hts iw_X11_copy_11 hown hK hP hF 11 53 rfl (by decide) (by decide +kernel) ⟨rfl, rfl, rfl⟩ dX11_copy_43 (fun v14 hF => ?_)
          refine lv_iload_n hx hb dX11_copy_46 rfl (lv_at hl 1 rfl) ?_
          refine xr_aI hx hb hK hP hF dX11_copy_47 (fun v15 hF => ?_)
          refine lv_iconst (v := 1) hx hb dX11_copy_48 (by decide) ?_
          refine lv_icmp_eq (tgt := 67) hx hb dX11_copy_49 (by decide) (fun c16 => ?_) (fun c16 => ?_)
          · replace hF := it_t hF c16
            refine lv_bipush (v := (-12)) hx hb dX11_copy_67 (by decide) ?_
            cases hF
            exact W.iret hx hb hr (fun t ht hW => ⟨rfl, by rw [ht]; exact hP, hS.F ht⟩) hS.2.2 dX11_copy_69 hlk
          · replace hF := it_f hF c16
            refine lv_aload_n hx hb dX11_copy_52 rfl (lv_at hl 0 rfl) ?_
            refine xr_getR hx hb hts iw_X11_copy_11 hown hK hP hF 11 53 rfl (by decide) (by decide +kernel) ⟨rfl, rfl, rfl⟩ dX11_copy_53 (fun v17 hF => ?_)
            refine lv_iload_n hx hb dX11_copy_56 rfl (lv_at hl 1 rfl) ?_
            refine xr_aI hx hb hK hP hF dX11_copy_57 (fun v18 hF => ?_)
            refine lv_aload_n hx hb dX11_copy_58 rfl (lv_at hl 0 rfl) ?_
            refine xr_getR hx hb hts iw_X11_copy_11 hown hK hP hF 11 53 rfl (by decide) (by decide +kernel) ⟨rfl, rfl, rfl⟩ dX11_copy_59 (fun v19 hF => ?_)
            refine lv_iload_n hx hb dX11_copy_62 rfl (lv_at hl 3 rfl) ?_
            refine xr_aI hx hb hK hP hF dX11_copy_63 (fun v20 hF => ?_)
            refine lv_icmp_eq (tgt := 70) hx hb dX11_copy_64 (by decide) (fun c21 => ?_) (fun c21 => ?_)
            · replace hF := it_t hF c21
              refine lv_aload_n hx hb dX11_copy_70 rfl (lv_at hl 0 rfl) ?_
              refine lv_iload_n hx hb dX11_copy_71 rfl (lv_at hl 1 rfl) ?_
              refine lv_iload_n hx hb dX11_copy_72 rfl (lv_at hl 2 rfl) ?_
              refine lv_iload hx hb dX11_copy_73 (lv_at hl 5 rfl) ?_
              obtain ⟨v23, h22, hF⟩ := ob_some hF
              refine xr_call1 (va_runV (As := [.int a1, .int a2, .int a5]) (rest := []) ⟨hx, hb, hml, hown, hts⟩ (ct_X11_hasPlaces l b0 D cy M1 a0 a1 a2 a5 v23 h22) (cwV 3 hts gX11_copy_X11_hasPlaces rfl rfl rfl (by decide +kernel) ⟨Nat.le_of_ble_eq_true rfl, Nat.le_of_ble_eq_true rfl⟩) (xp_V hP hK hN hS hb0 11 rfl (gk_X11_hasPlaces h22)) rfl rfl hl.1 rfl (lv_room (Nat.le_of_ble_eq_true rfl)) dX11_copy_75 ⟨Nat.le_of_ble_eq_true rfl, Nat.le_of_ble_eq_true rfl⟩) hS (fun H locs hP hS => ?_)
              refine lv_if_eq (tgt := 93) hx hb dX11_copy_78 (by decide) (fun c24 => ?_) (fun c24 => ?_)
              · replace hF := it_t hF c24
                refine lv_bipush (v := (-13)) hx hb dX11_copy_93 (by decide) ?_
                cases hF
                exact W.iret hx hb hr (fun t ht hW => ⟨rfl, by rw [ht]; exact hP, hS.F ht⟩) hS.2.2 dX11_copy_95 hlk
              · replace hF := it_f hF c24
                refine lv_aload_n hx hb dX11_copy_81 rfl (lv_at hl 0 rfl) ?_
                refine lv_iload_n hx hb dX11_copy_82 rfl (lv_at hl 3 rfl) ?_
                refine lv_iload hx hb dX11_copy_83 (lv_at hl 4 rfl) ?_
                refine lv_iload hx hb dX11_copy_85 (lv_at hl 5 rfl) ?_
                obtain ⟨v26, h25, hF⟩ := ob_some hF
                refine xr_call1 (va_runV (As := [.int a3, .int a4, .int a5]) (rest := []) ⟨hx, hb, hml, hown, hts⟩ (ct_X11_hasPlaces l b0 D cy M1 a0 a3 a4 a5 v26 h25) (cwV 3 hts gX11_copy_X11_hasPlaces rfl rfl rfl (by decide +kernel) ⟨Nat.le_of_ble_eq_true rfl, Nat.le_of_ble_eq_true rfl⟩) (xp_V hP hK hN hS hb0 11 rfl (gk_X11_hasPlaces h25)) rfl rfl hl.1 rfl (lv_room (Nat.le_of_ble_eq_true rfl)) dX11_copy_87 ⟨Nat.le_of_ble_eq_true rfl, Nat.le_of_ble_eq_true rfl⟩) hS (fun H locs hP hS => ?_)
                refine lv_if_ne (tgt := 96) hx hb dX11_copy_90 (by decide) (fun c27 => ?_) (fun c27 => ?_)
                · replace hF := it_f hF c27
                  refine lv_iconst (v := 0) hx hb dX11_copy_96 (by decide) ?_
                  refine lv_istore (lv' := [(6, .int 0), (0, .ref a0), (1, .int a1), (2, .int a2), (3, .int a3), (4, .int a4), (5, .int a5)]) hx hb dX11_copy_97 hl (by decide) (by first | rfl | simp [cat_rf]) (fun ls hl => ?_)
                  exact nd_X11_copy_99 CX _ _ _ _ _ _ _ _ _ _ _ _ hF hP hS (lv_sub hl [1, 2, 3, 4, 5, 6, 0] rfl)
                · replace hF := it_t hF c27
                  refine lv_bipush (v := (-13)) hx hb dX11_copy_93 (by decide) ?_
                  cases hF
                  exact W.iret hx hb hr (fun t ht hW => ⟨rfl, by rw [ht]; exact hP, hS.F ht⟩) hS.2.2 dX11_copy_95 hlk
            · replace hF := it_f hF c21
              refine lv_bipush (v := (-12)) hx hb dX11_copy_67 (by decide) ?_
              cases hF
              exact W.iret hx hb hr (fun t ht hW => ⟨rfl, by rw [ht]; exact hP, hS.F ht⟩) hS.2.2 dX11_copy_69 hlk
        · replace hF := it_t hF c13
          refine lv_bipush (v := (-11)) hx hb dX11_copy_39 (by decide) ?_
          cases hF
          exact W.iret hx hb hr (fun t ht hW => ⟨rfl, by rw [ht]; exact hP, hS.F ht⟩) hS.2.2 dX11_copy_41 hlk
    · replace hF := it_t hF c7
      refine lv_iconst (v := (-1)) hx hb dX11_copy_19 (by decide) ?_
      cases hF
      exact W.iret hx hb hr (fun t ht hW => ⟨rfl, by rw [ht]; exact hP, hS.F ht⟩) hS.2.2 dX11_copy_20 hlk
/-! X11_denied -/
theorem iw_X11_denied_11 : ∀ w ∈ u_ws RX11 TX11 58, w ∈ wsX11_denied := by decide +kernel
abbrev rm_X11_denied : Room := { frames := 1, cells := 0, slots := 0, locals := 20 }
theorem gk_X11_denied {M : Mm} {a0 : Nat} {a1 : Int32} {r : Int32} (h : f_X11_denied M a0 a1 = some r) : mK M a0 = 12 := by
  unfold f_X11_denied at h
  exact (if_some h).1
set_option maxHeartbeats 4000000 in
set_option maxRecDepth 100000 in
theorem ct_X11_denied (l : Launch) (b0 : Nat) (D : va_G) (cy : Nat → ClassId) (M : Mm) (a0 : Nat) (a1 : Int32) (r : Int32) (hF : f_X11_denied M a0 a1 = some r) : Met l yX11_denied wsX11_denied rm_X11_denied (va_Pc [.ref a0, .int a1] (Pm b0 D cy M)) (Qm b0 D cy M (some (.int r))) 0 0 (BA b0) := by
  refine ct_of [.ref a0, .int a1] (by decide) rfl ?_
  intro p e s m below meth c CX hP
  obtain ⟨hx, hb, hr, hml, hown0, hts, hlk, hK, hN, hb0, hnm⟩ := id CX
  have hown : s.vm.findClass RX11 = some m.cls := hown0
  have hS : va_S (BA b0) s.heap s.heap [] := va_S.rf
  have hl := lv_entry [.ref a0, .int a1] (n := 2) (Nat.le_of_ble_eq_true rfl)
  generalize (lg_sl [.ref a0, .int a1] ++ List.replicate (2 - (lg_sl [.ref a0, .int a1]).length) Slot.unset).toArray = ls at hl ⊢
  have hl : lv_has ls 2 [(0, .ref a0), (1, .int a1)] := hl
  unfold f_X11_denied at hF
  replace hF := (if_some hF).2
  refine lv_iload_n hx hb dX11_denied_0 rfl (lv_at hl 1 rfl) ?_
  obtain ⟨v2, h1, hF⟩ := ob_some hF
  refine xr_call1 (va_runS (As := [.int a1]) (rest := []) ⟨hx, hb, hml, hown, hts⟩ (ct_X11_isShelf l b0 D cy M a1 v2 h1) (va_cwS 1 hts gX11_denied_X11_isShelf rfl rfl rfl (by decide +kernel) ⟨Nat.le_of_ble_eq_true rfl, Nat.le_of_ble_eq_true rfl⟩) (xp_S hP hK hN hS hb0) rfl rfl hl.1 rfl (lv_room (Nat.le_of_ble_eq_true rfl)) dX11_denied_1 ⟨Nat.le_of_ble_eq_true rfl, Nat.le_of_ble_eq_true rfl⟩) hS (fun H locs hP hS => ?_)
  refine lv_if_ne (tgt := 11) hx hb dX11_denied_4 (by decide) (fun c3 => ?_) (fun c3 => ?_)
  · replace hF := it_f hF c3
    refine lv_aload_n hx hb dX11_denied_11 rfl (lv_at hl 0 rfl) ?_
    refine xr_getR hx hb hts iw_X11_denied_11 hown hK hP hF 11 53 rfl (by decide) (by decide +kernel) ⟨rfl, rfl, rfl⟩ dX11_denied_12 (fun v4 hF => ?_)
    refine lv_iload_n hx hb dX11_denied_15 rfl (lv_at hl 1 rfl) ?_
    refine xr_aI hx hb hK hP hF dX11_denied_16 (fun v5 hF => ?_)
    refine lv_if_ne (tgt := 25) hx hb dX11_denied_17 (by decide) (fun c6 => ?_) (fun c6 => ?_)
    · replace hF := it_f hF c6
      refine lv_aload_n hx hb dX11_denied_25 rfl (lv_at hl 0 rfl) ?_
      refine xr_getR hx hb hts iw_X11_denied_11 hown hK hP hF 11 53 rfl (by decide) (by decide +kernel) ⟨rfl, rfl, rfl⟩ dX11_denied_26 (fun v7 hF => ?_)
      refine lv_iload_n hx hb dX11_denied_29 rfl (lv_at hl 1 rfl) ?_
      refine xr_aI hx hb hK hP hF dX11_denied_30 (fun v8 hF => ?_)
      refine lv_iconst (v := 1) hx hb dX11_denied_31 (by decide) ?_
      refine lv_icmp_le (tgt := 40) hx hb dX11_denied_32 (by decide) (fun c9 => ?_) (fun c9 => ?_)
      · replace hF := it_t hF c9
        refine lv_iconst (v := 0) hx hb dX11_denied_40 (by decide) ?_
        cases hF
        exact W.iret hx hb hr (fun t ht hW => ⟨rfl, by rw [ht]; exact hP, hS.F ht⟩) hS.2.2 dX11_denied_41 hlk
      · replace hF := it_f hF c9
        refine lv_bipush (v := (-12)) hx hb dX11_denied_35 (by decide) ?_
        refine lv_goto (tgt := 41) hx hb dX11_denied_37 (by decide) ?_
        cases hF
        exact W.iret hx hb hr (fun t ht hW => ⟨rfl, by rw [ht]; exact hP, hS.F ht⟩) hS.2.2 dX11_denied_41 hlk
    · replace hF := it_t hF c6
      refine lv_bipush (v := (-11)) hx hb dX11_denied_20 (by decide) ?_
      refine lv_goto (tgt := 41) hx hb dX11_denied_22 (by decide) ?_
      cases hF
      exact W.iret hx hb hr (fun t ht hW => ⟨rfl, by rw [ht]; exact hP, hS.F ht⟩) hS.2.2 dX11_denied_41 hlk
  · replace hF := it_t hF c3
    refine lv_iconst (v := (-1)) hx hb dX11_denied_7 (by decide) ?_
    refine lv_goto (tgt := 41) hx hb dX11_denied_8 (by decide) ?_
    cases hF
    exact W.iret hx hb hr (fun t ht hW => ⟨rfl, by rw [ht]; exact hP, hS.F ht⟩) hS.2.2 dX11_denied_41 hlk
/-! X11_worth -/
theorem iw_X11_worth_11 : ∀ w ∈ u_ws RX11 TX11 58, w ∈ wsX11_worth := by decide +kernel
abbrev rm_X11_worth : Room := { frames := 2, cells := 0, slots := 0, locals := 41 }
theorem gk_X11_worth {M : Mm} {a0 : Nat} {a1 : Int32} {r : (Mm × Int32)} (h : f_X11_worth M a0 a1 = some r) : mK M a0 = 12 := by
  unfold f_X11_worth at h
  exact (if_some h).1
set_option maxHeartbeats 4000000 in
set_option maxRecDepth 100000 in
theorem ct_X11_worth (l : Launch) (b0 : Nat) (D : va_G) (cy : Nat → ClassId) (M : Mm) (a0 : Nat) (a1 : Int32) (M1 : Mm) (r : Int32) (hF : f_X11_worth M a0 a1 = some (M1, r)) : Met l yX11_worth wsX11_worth rm_X11_worth (va_Pc [.ref a0, .int a1] (Pm b0 D cy M)) (Qm b0 D cy M1 (some (.int r))) 0 0 (BA b0) := by
  refine ct_of [.ref a0, .int a1] (by decide) rfl ?_
  intro p e s m below meth c CX hP
  obtain ⟨hx, hb, hr, hml, hown0, hts, hlk, hK, hN, hb0, hnm⟩ := id CX
  have hown : s.vm.findClass RX11 = some m.cls := hown0
  have hS : va_S (BA b0) s.heap s.heap [] := va_S.rf
  have hl := lv_entry [.ref a0, .int a1] (n := 5) (Nat.le_of_ble_eq_true rfl)
  generalize (lg_sl [.ref a0, .int a1] ++ List.replicate (5 - (lg_sl [.ref a0, .int a1]).length) Slot.unset).toArray = ls at hl ⊢
  have hl : lv_has ls 5 [(0, .ref a0), (1, .int a1)] := hl
  unfold f_X11_worth at hF
  replace hF := (if_some hF).2
  refine lv_aload_n hx hb dX11_worth_0 rfl (lv_at hl 0 rfl) ?_
  refine lv_iconst (v := 0) hx hb dX11_worth_1 (by decide) ?_
  refine xr_putI hx hb hts iw_X11_worth_11 hown hK hP hS hF 11 0 rfl (by decide) tyX11 tyX11_ok nmX11 (by decide +kernel) (Or.inl rfl) rfl ⟨rfl, rfl, rfl⟩ dX11_worth_2 (fun M1 H locs hF hP hS => ?_)
  refine lv_aload_n hx hb dX11_worth_5 rfl (lv_at hl 0 rfl) ?_
  refine lv_iload_n hx hb dX11_worth_6 rfl (lv_at hl 1 rfl) ?_
  obtain ⟨v3, h2, hF⟩ := ob_some hF
  refine xr_call1 (va_runV (As := [.int a1]) (rest := []) ⟨hx, hb, hml, hown, hts⟩ (ct_X11_denied l b0 D cy M1 a0 a1 v3 h2) (cwV 1 hts gX11_worth_X11_denied rfl rfl rfl (by decide +kernel) ⟨Nat.le_of_ble_eq_true rfl, Nat.le_of_ble_eq_true rfl⟩) (xp_V hP hK hN hS hb0 11 rfl (gk_X11_denied h2)) rfl rfl hl.1 rfl (lv_room (Nat.le_of_ble_eq_true rfl)) dX11_worth_7 ⟨Nat.le_of_ble_eq_true rfl, Nat.le_of_ble_eq_true rfl⟩) hS (fun H locs hP hS => ?_)
  refine lv_istore_n (lv' := [(2, .int v3), (0, .ref a0), (1, .int a1)]) hx hb dX11_worth_10 rfl hl (by decide) (by first | rfl | simp [cat_rf]) (fun ls hl => ?_)
  refine lv_iload_n hx hb dX11_worth_11 rfl (lv_at hl 0 rfl) ?_
  refine lv_if_ge (tgt := 17) hx hb dX11_worth_12 (by decide) (fun c4 => ?_) (fun c4 => ?_)
  · replace hF := it_t hF c4
    refine lv_aload_n hx hb dX11_worth_17 rfl (lv_at hl 1 rfl) ?_
    refine xr_getR hx hb hts iw_X11_worth_11 hown hK hP hF 11 55 rfl (by decide) (by decide +kernel) ⟨rfl, rfl, rfl⟩ dX11_worth_18 (fun v5 hF => ?_)
    refine lv_iload_n hx hb dX11_worth_21 rfl (lv_at hl 2 rfl) ?_
    refine xr_aI hx hb hK hP hF dX11_worth_22 (fun v6 hF => ?_)
    refine lv_istore_n (lv' := [(3, .int v6), (2, .int v3), (0, .ref a0), (1, .int a1)]) hx hb dX11_worth_23 rfl hl (by decide) (by first | rfl | simp [cat_rf]) (fun ls hl => ?_)
    refine lv_bipush (v := 10) hx hb dX11_worth_24 (by decide) ?_
    refine lv_aload_n hx hb dX11_worth_26 rfl (lv_at hl 2 rfl) ?_
    refine xr_getR hx hb hts iw_X11_worth_11 hown hK hP hF 11 54 rfl (by decide) (by decide +kernel) ⟨rfl, rfl, rfl⟩ dX11_worth_27 (fun v7 hF => ?_)
    refine lv_iload_n hx hb dX11_worth_30 rfl (lv_at hl 3 rfl) ?_
    refine xr_aI hx hb hK hP hF dX11_worth_31 (fun v8 hF => ?_)
    refine lv_imul hx hb dX11_worth_32 ?_
    refine lv_iload_n hx hb dX11_worth_33 rfl (lv_at hl 0 rfl) ?_
    refine lv_iadd hx hb dX11_worth_34 ?_
    refine lv_istore (lv' := [(4, .int ((10 * v8) + v6)), (3, .int v6), (2, .int v3), (0, .ref a0), (1, .int a1)]) hx hb dX11_worth_35 hl (by decide) (by first | rfl | simp [cat_rf]) (fun ls hl => ?_)
    refine lv_iload_n hx hb dX11_worth_37 rfl (lv_at hl 1 rfl) ?_
    by_cases c9 : v6 = 0
    · replace hF := it_t hF c9
      refine lv_tableIn (off := 34) (tgt := 72) hx hb dX11_worth_38 (by rw [c9]; decide) (by rw [c9]; decide) (by rw [c9]; decide) (by decide) ?_
      refine lv_iload hx hb dX11_worth_72 (lv_at hl 0 rfl) ?_
      cases hF
      exact W.iret hx hb hr (fun t ht hW => ⟨rfl, by rw [ht]; exact hP, hS.F ht⟩) hS.2.2 dX11_worth_74 hlk
    replace hF := it_f hF c9
    by_cases c10 : v6 = 1
    · replace hF := it_t hF c10
      refine lv_tableIn (off := 37) (tgt := 75) hx hb dX11_worth_38 (by rw [c10]; decide) (by rw [c10]; decide) (by rw [c10]; decide) (by decide) ?_
      refine lv_iload hx hb dX11_worth_75 (lv_at hl 0 rfl) ?_
      refine lv_iconst (v := 3) hx hb dX11_worth_77 (by decide) ?_
      refine lv_iadd hx hb dX11_worth_78 ?_
      cases hF
      exact W.iret hx hb hr (fun t ht hW => ⟨rfl, by rw [ht]; exact hP, hS.F ht⟩) hS.2.2 dX11_worth_79 hlk
    replace hF := it_f hF c10
    by_cases c11 : v6 = 2
    · replace hF := it_t hF c11
      refine lv_tableIn (off := 42) (tgt := 80) hx hb dX11_worth_38 (by rw [c11]; decide) (by rw [c11]; decide) (by rw [c11]; decide) (by decide) ?_
      refine lv_iconst (v := 2) hx hb dX11_worth_80 (by decide) ?_
      refine lv_iload hx hb dX11_worth_81 (lv_at hl 0 rfl) ?_
      refine lv_iconst (v := 3) hx hb dX11_worth_83 (by decide) ?_
      refine lv_iadd hx hb dX11_worth_84 ?_
      refine lv_imul hx hb dX11_worth_85 ?_
      cases hF
      exact W.iret hx hb hr (fun t ht hW => ⟨rfl, by rw [ht]; exact hP, hS.F ht⟩) hS.2.2 dX11_worth_86 hlk
    replace hF := it_f hF c11
    by_cases c12 : v6 = 3
    · replace hF := it_t hF c12
      refine lv_tableIn (off := 49) (tgt := 87) hx hb dX11_worth_38 (by rw [c12]; decide) (by rw [c12]; decide) (by rw [c12]; decide) (by decide) ?_
      refine lv_iload hx hb dX11_worth_87 (lv_at hl 0 rfl) ?_
      refine lv_iconst (v := 1) hx hb dX11_worth_89 (by decide) ?_
      refine lv_iadd hx hb dX11_worth_90 ?_
      cases hF
      exact W.iret hx hb hr (fun t ht hW => ⟨rfl, by rw [ht]; exact hP, hS.F ht⟩) hS.2.2 dX11_worth_91 hlk
    replace hF := it_f hF c12
    by_cases c13 : v6 = 4
    · replace hF := it_t hF c13
      refine lv_tableIn (off := 54) (tgt := 92) hx hb dX11_worth_38 (by rw [c13]; decide) (by rw [c13]; decide) (by rw [c13]; decide) (by decide) ?_
      refine lv_iload hx hb dX11_worth_92 (lv_at hl 0 rfl) ?_
      refine lv_bipush (v := 6) hx hb dX11_worth_94 (by decide) ?_
      refine lv_iadd hx hb dX11_worth_96 ?_
      cases hF
      exact W.iret hx hb hr (fun t ht hW => ⟨rfl, by rw [ht]; exact hP, hS.F ht⟩) hS.2.2 dX11_worth_97 hlk
    replace hF := it_f hF c13
    refine lv_tableOut (tgt := 98) hx hb dX11_worth_38 (by have := lv_neT c9 (by decide : (0 : Int32).toInt = 0); have := lv_neT c10 (by decide : (1 : Int32).toInt = 1); have := lv_neT c11 (by decide : (2 : Int32).toInt = 2); have := lv_neT c12 (by decide : (3 : Int32).toInt = 3); have := lv_neT c13 (by decide : (4 : Int32).toInt = 4); omega) (by decide) ?_
    refine lv_iconst (v := 3) hx hb dX11_worth_98 (by decide) ?_
    refine lv_iload hx hb dX11_worth_99 (lv_at hl 0 rfl) ?_
    refine lv_bipush (v := 6) hx hb dX11_worth_101 (by decide) ?_
    refine lv_iadd hx hb dX11_worth_103 ?_
    refine lv_imul hx hb dX11_worth_104 ?_
    cases hF
    exact W.iret hx hb hr (fun t ht hW => ⟨rfl, by rw [ht]; exact hP, hS.F ht⟩) hS.2.2 dX11_worth_105 hlk
  · replace hF := it_f hF c4
    refine lv_iload_n hx hb dX11_worth_15 rfl (lv_at hl 0 rfl) ?_
    cases hF
    exact W.iret hx hb hr (fun t ht hW => ⟨rfl, by rw [ht]; exact hP, hS.F ht⟩) hS.2.2 dX11_worth_16 hlk
/-! X11_toss -/
theorem iw_X11_toss_11 : ∀ w ∈ u_ws RX11 TX11 58, w ∈ wsX11_toss := by decide +kernel
abbrev rm_X11_toss : Room := { frames := 2, cells := 0, slots := 0, locals := 41 }
theorem gk_X11_toss {M : Mm} {a0 : Nat} {a1 : Int32} {r : (Mm × Int32)} (h : f_X11_toss M a0 a1 = some r) : mK M a0 = 12 := by
  unfold f_X11_toss at h
  exact (if_some h).1
set_option maxHeartbeats 4000000 in
set_option maxRecDepth 100000 in
theorem ct_X11_toss (l : Launch) (b0 : Nat) (D : va_G) (cy : Nat → ClassId) (M : Mm) (a0 : Nat) (a1 : Int32) (M1 : Mm) (r : Int32) (hF : f_X11_toss M a0 a1 = some (M1, r)) : Met l yX11_toss wsX11_toss rm_X11_toss (va_Pc [.ref a0, .int a1] (Pm b0 D cy M)) (Qm b0 D cy M1 (some (.int r))) 0 0 (BA b0) := by
  refine ct_of [.ref a0, .int a1] (by decide) rfl ?_
  intro p e s m below meth c CX hP
  obtain ⟨hx, hb, hr, hml, hown0, hts, hlk, hK, hN, hb0, hnm⟩ := id CX
  have hown : s.vm.findClass RX11 = some m.cls := hown0
  have hS : va_S (BA b0) s.heap s.heap [] := va_S.rf
  have hl := lv_entry [.ref a0, .int a1] (n := 3) (Nat.le_of_ble_eq_true rfl)
  generalize (lg_sl [.ref a0, .int a1] ++ List.replicate (3 - (lg_sl [.ref a0, .int a1]).length) Slot.unset).toArray = ls at hl ⊢
  have hl : lv_has ls 3 [(0, .ref a0), (1, .int a1)] := hl
  unfold f_X11_toss at hF
  replace hF := (if_some hF).2
  refine lv_aload_n hx hb dX11_toss_0 rfl (lv_at hl 0 rfl) ?_
  refine lv_iconst (v := 0) hx hb dX11_toss_1 (by decide) ?_
  refine xr_putI hx hb hts iw_X11_toss_11 hown hK hP hS hF 11 0 rfl (by decide) tyX11 tyX11_ok nmX11 (by decide +kernel) (Or.inl rfl) rfl ⟨rfl, rfl, rfl⟩ dX11_toss_2 (fun M1 H locs hF hP hS => ?_)
  refine lv_aload_n hx hb dX11_toss_5 rfl (lv_at hl 0 rfl) ?_
  refine lv_iload_n hx hb dX11_toss_6 rfl (lv_at hl 1 rfl) ?_
  obtain ⟨v3, h2, hF⟩ := ob_some hF
  refine xr_call1 (va_runV (As := [.int a1]) (rest := []) ⟨hx, hb, hml, hown, hts⟩ (ct_X11_denied l b0 D cy M1 a0 a1 v3 h2) (cwV 1 hts gX11_toss_X11_denied rfl rfl rfl (by decide +kernel) ⟨Nat.le_of_ble_eq_true rfl, Nat.le_of_ble_eq_true rfl⟩) (xp_V hP hK hN hS hb0 11 rfl (gk_X11_denied h2)) rfl rfl hl.1 rfl (lv_room (Nat.le_of_ble_eq_true rfl)) dX11_toss_7 ⟨Nat.le_of_ble_eq_true rfl, Nat.le_of_ble_eq_true rfl⟩) hS (fun H locs hP hS => ?_)
  refine lv_istore_n (lv' := [(2, .int v3), (0, .ref a0), (1, .int a1)]) hx hb dX11_toss_10 rfl hl (by decide) (by first | rfl | simp [cat_rf]) (fun ls hl => ?_)
  refine lv_iload_n hx hb dX11_toss_11 rfl (lv_at hl 0 rfl) ?_
  refine lv_if_ge (tgt := 19) hx hb dX11_toss_12 (by decide) (fun c4 => ?_) (fun c4 => ?_)
  · replace hF := it_t hF c4
    refine lv_aload_n hx hb dX11_toss_19 rfl (lv_at hl 1 rfl) ?_
    refine xr_getR hx hb hts iw_X11_toss_11 hown hK hP hF 11 55 rfl (by decide) (by decide +kernel) ⟨rfl, rfl, rfl⟩ dX11_toss_20 (fun v5 hF => ?_)
    refine lv_iload_n hx hb dX11_toss_23 rfl (lv_at hl 2 rfl) ?_
    refine xr_aI hx hb hK hP hF dX11_toss_24 (fun v6 hF => ?_)
    refine lv_if_eq (tgt := 38) hx hb dX11_toss_25 (by decide) (fun c7 => ?_) (fun c7 => ?_)
    · replace hF := it_t hF c7
      refine lv_bipush (v := (-15)) hx hb dX11_toss_38 (by decide) ?_
      refine lv_goto (tgt := 49) hx hb dX11_toss_40 (by decide) ?_
      cases hF
      exact W.iret hx hb hr (fun t ht hW => ⟨rfl, by rw [ht]; exact hP, hS.F ht⟩) hS.2.2 dX11_toss_49 hlk
    · replace hF := it_f hF c7
      refine lv_aload_n hx hb dX11_toss_28 rfl (lv_at hl 1 rfl) ?_
      refine xr_getR hx hb hts iw_X11_toss_11 hown hK hP hF 11 55 rfl (by decide) (by decide +kernel) ⟨rfl, rfl, rfl⟩ dX11_toss_29 (fun v8 hF => ?_)
      refine lv_iload_n hx hb dX11_toss_32 rfl (lv_at hl 2 rfl) ?_
      refine xr_aI hx hb hK hP hF dX11_toss_33 (fun v9 hF => ?_)
      refine lv_iconst (v := 3) hx hb dX11_toss_34 (by decide) ?_
      refine lv_icmp_ne (tgt := 43) hx hb dX11_toss_35 (by decide) (fun c10 => ?_) (fun c10 => ?_)
      · replace hF := it_f hF c10
        refine lv_aload_n hx hb dX11_toss_43 rfl (lv_at hl 1 rfl) ?_
        refine xr_getR hx hb hts iw_X11_toss_11 hown hK hP hF 11 55 rfl (by decide) (by decide +kernel) ⟨rfl, rfl, rfl⟩ dX11_toss_44 (fun v11 hF => ?_)
        refine lv_iload_n hx hb dX11_toss_47 rfl (lv_at hl 2 rfl) ?_
        refine xr_aI hx hb hK hP hF dX11_toss_48 (fun v12 hF => ?_)
        cases hF
        exact W.iret hx hb hr (fun t ht hW => ⟨rfl, by rw [ht]; exact hP, hS.F ht⟩) hS.2.2 dX11_toss_49 hlk
      · replace hF := it_t hF c10
        refine lv_bipush (v := (-15)) hx hb dX11_toss_38 (by decide) ?_
        refine lv_goto (tgt := 49) hx hb dX11_toss_40 (by decide) ?_
        cases hF
        exact W.iret hx hb hr (fun t ht hW => ⟨rfl, by rw [ht]; exact hP, hS.F ht⟩) hS.2.2 dX11_toss_49 hlk
  · replace hF := it_f hF c4
    refine lv_iload_n hx hb dX11_toss_15 rfl (lv_at hl 0 rfl) ?_
    refine lv_goto (tgt := 49) hx hb dX11_toss_16 (by decide) ?_
    cases hF
    exact W.iret hx hb hr (fun t ht hW => ⟨rfl, by rw [ht]; exact hP, hS.F ht⟩) hS.2.2 dX11_toss_49 hlk
