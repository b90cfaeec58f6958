/-! X0_rebuild -/
theorem iw_X0_rebuild_0 : ∀ w ∈ u_ws RX0 TX0 12, w ∈ wsX0_rebuild := by decide +kernel
theorem iw_X0_rebuild_1 : ∀ w ∈ u_ws RX1 TX1 4, w ∈ wsX0_rebuild := by decide +kernel
theorem iw_X0_rebuild_3 : ∀ w ∈ u_ws RX3 TX3 2, w ∈ wsX0_rebuild := by decide +kernel
theorem iw_X0_rebuild_6 : ∀ w ∈ u_ws RX6 TX6 5, w ∈ wsX0_rebuild := by decide +kernel
abbrev rm_X0_rebuild : Room := { frames := 3, cells := 0, slots := 0, locals := 73 }
set_option maxHeartbeats 4000000 in
set_option maxRecDepth 100000 in
theorem nd_X0_rebuild_79 {p : Program} {l : Launch} {e : Env} {s : State} {m : MethodId} {args : Array Value} {below : List Frame} {meth : Method} {c : Code} {b0 : Nat} {D : va_G} {cy : Nat → ClassId} {M1 : Mm} (CX : Cx yX0_rebuild cX0_rebuild 8 none wsX0_rebuild b0 D cy p s m args meth c) (k2 : Mm → Nat → Nat → Nat → Int32 → Option Mm) (hk2 : ∀ (M : Mm) (x0 : Nat) (x1 : Nat) (x2 : Nat) (x3 : Int32) (H : Heap) (locs : List Loc) (ls : Array Slot), k2 M x0 x1 x2 x3 = some M1 → Hp b0 D cy M H → va_S (BA b0) s.heap H locs → lv_has ls 8 [(0, .ref x0), (1, .ref x1), (2, .ref x2), (3, .int x3)] → W p l e rm_X0_rebuild s m args below meth c H locs 0 0 (MQ below (Qm b0 D cy M1 none) args s 0 0 (BA b0)) (F0 m 2 ls [])) : ∀ (M : Mm) (x0 : Nat) (x1 : Nat) (x2 : Nat) (x3 : Int32) (x4 : Int64) (H : Heap) (locs : List Loc) (ls : Array Slot), f_X0_rebuild_J79 k2 M x0 x1 x2 x3 x4 = some M1 → Hp b0 D cy M H → va_S (BA b0) s.heap H locs → lv_has ls 8 [(0, .ref x0), (1, .ref x1), (2, .ref x2), (3, .int x3), (4, .long x4)] → W p l e rm_X0_rebuild s m args below meth c H locs 0 0 (MQ below (Qm b0 D cy M1 none) args s 0 0 (BA b0)) (F0 m 79 ls []) := by
  obtain ⟨hx, hb, hr, hml, hown0, hts, hlk, hK, hN, hb0, hnm⟩ := id CX
  have hown : s.vm.findClass RX0 = some m.cls := hown0
  intro M x0 x1 x2 x3 x4 H locs ls hF hP hS hl
  unfold f_X0_rebuild_J79 at hF
  refine lv_aload_n hx hb dX0_rebuild_79 rfl (lv_at hl 0 rfl) ?_
  refine xr_getR hx hb hts iw_X0_rebuild_0 hown hK hP hF 0 0 rfl (by decide) (by decide +kernel) ⟨rfl, rfl, rfl⟩ dX0_rebuild_80 (fun v1 hF => ?_)
  refine xr_getR hx hb hts iw_X0_rebuild_3 hown hK hP hF 3 0 rfl (by decide) (by decide +kernel) ⟨rfl, rfl, rfl⟩ dX0_rebuild_83 (fun v2 hF => ?_)
  refine lv_iload_n hx hb dX0_rebuild_86 rfl (lv_at hl 3 rfl) ?_
  refine lv_lload hx hb dX0_rebuild_87 (lv_at hl 4 rfl) ?_
  refine xr_wJ hx hb hK hP hS hF dX0_rebuild_89 (fun M3 H locs hF hP hS => ?_)
  refine lv_iinc (v := x3 + 1) (lv' := [(3, .int (x3 + 1)), (0, .ref x0), (1, .ref x1), (2, .ref x2), (4, .long x4)]) hx hb dX0_rebuild_90 hl (k := 3) rfl (by rfl) (by decide) rfl (fun ls hl => ?_)
  refine lv_goto (tgt := 2) hx hb dX0_rebuild_93 (by decide) ?_
  exact hk2 _ _ _ _ _ _ _ _ hF hP hS (lv_sub hl [1, 2, 3, 0] rfl)
set_option maxHeartbeats 4000000 in
set_option maxRecDepth 100000 in
theorem nd_X0_rebuild_77 {p : Program} {l : Launch} {e : Env} {s : State} {m : MethodId} {args : Array Value} {below : List Frame} {meth : Method} {c : Code} {b0 : Nat} {D : va_G} {cy : Nat → ClassId} {M1 : Mm} (CX : Cx yX0_rebuild cX0_rebuild 8 none wsX0_rebuild b0 D cy p s m args meth c) (k2 : Mm → Nat → Nat → Nat → Int32 → Option Mm) (hk2 : ∀ (M : Mm) (x0 : Nat) (x1 : Nat) (x2 : Nat) (x3 : Int32) (H : Heap) (locs : List Loc) (ls : Array Slot), k2 M x0 x1 x2 x3 = some M1 → Hp b0 D cy M H → va_S (BA b0) s.heap H locs → lv_has ls 8 [(0, .ref x0), (1, .ref x1), (2, .ref x2), (3, .int x3)] → W p l e rm_X0_rebuild s m args below meth c H locs 0 0 (MQ below (Qm b0 D cy M1 none) args s 0 0 (BA b0)) (F0 m 2 ls [])) : ∀ (M : Mm) (x0 : Nat) (x1 : Nat) (x2 : Nat) (x3 : Int32) (s0 : Int64) (H : Heap) (locs : List Loc) (ls : Array Slot), f_X0_rebuild_J77 k2 M x0 x1 x2 x3 s0 = some M1 → Hp b0 D cy M H → va_S (BA b0) s.heap H locs → lv_has ls 8 [(0, .ref x0), (1, .ref x1), (2, .ref x2), (3, .int x3)] → W p l e rm_X0_rebuild s m args below meth c H locs 0 0 (MQ below (Qm b0 D cy M1 none) args s 0 0 (BA b0)) (F0 m 77 ls [.long s0]) := by
  obtain ⟨hx, hb, hr, hml, hown0, hts, hlk, hK, hN, hb0, hnm⟩ := id CX
  have hown : s.vm.findClass RX0 = some m.cls := hown0
  intro M x0 x1 x2 x3 s0 H locs ls hF hP hS hl
  unfold f_X0_rebuild_J77 at hF
  refine lv_lstore (lv' := [(4, .long s0), (0, .ref x0), (1, .ref x1), (2, .ref x2), (3, .int x3)]) hx hb dX0_rebuild_77 hl (by decide) (by first | rfl | simp [cat_rf]) (fun ls hl => ?_)
  exact nd_X0_rebuild_79 CX k2 hk2 _ _ _ _ _ _ _ _ _ hF hP hS (lv_sub hl [1, 2, 3, 4, 0] rfl)
set_option maxHeartbeats 4000000 in
set_option maxRecDepth 100000 in
theorem nd_X0_rebuild_2 {p : Program} {l : Launch} {e : Env} {s : State} {m : MethodId} {args : Array Value} {below : List Frame} {meth : Method} {c : Code} {b0 : Nat} {D : va_G} {cy : Nat → ClassId} {M1 : Mm} (CX : Cx yX0_rebuild cX0_rebuild 8 none wsX0_rebuild b0 D cy p s m args meth c) : ∀ (fu : Nat), ∀ (M : Mm) (x0 : Nat) (x1 : Nat) (x2 : Nat) (x3 : Int32) (H : Heap) (locs : List Loc) (ls : Array Slot), f_X0_rebuild_L2 fu M x0 x1 x2 x3 = some M1 → Hp b0 D cy M H → va_S (BA b0) s.heap H locs → lv_has ls 8 [(0, .ref x0), (1, .ref x1), (2, .ref x2), (3, .int x3)] → W p l e rm_X0_rebuild s m args below meth c H locs 0 0 (MQ below (Qm b0 D cy M1 none) args s 0 0 (BA b0)) (F0 m 2 ls []) := by
  obtain ⟨hx, hb, hr, hml, hown0, hts, hlk, hK, hN, hb0, hnm⟩ := id CX
  have hown : s.vm.findClass RX0 = some m.cls := hown0
  intro fu
  induction fu with
  | zero =>
    intro M x0 x1 x2 x3 H locs ls hF hP hS hl
    rw [f_X0_rebuild_L2] at hF
    cases hF
  | succ fu ih =>
    intro M x0 x1 x2 x3 H locs ls hF hP hS hl
    rw [f_X0_rebuild_L2] at hF
    refine lv_iload_n hx hb dX0_rebuild_2 rfl (lv_at hl 3 rfl) ?_
    refine lv_aload_n hx hb dX0_rebuild_3 rfl (lv_at hl 1 rfl) ?_
    refine xr_getI hx hb hts iw_X0_rebuild_6 hown hK hP hF 6 4 rfl (by decide) (by decide +kernel) ⟨rfl, rfl, rfl⟩ dX0_rebuild_4 (fun v1 hF => ?_)
    refine lv_icmp_ge (tgt := 96) hx hb dX0_rebuild_7 (by decide) (fun c2 => ?_) (fun c2 => ?_)
    · replace hF := it_t hF c2
      cases hF
      exact W.vret hx hb hr (fun t ht hW => ⟨rfl, by rw [ht]; exact hP, hS.F ht⟩) hS.2.2 dX0_rebuild_96 hlk
    · replace hF := it_f hF c2
      refine lv_aload_n hx hb dX0_rebuild_10 rfl (lv_at hl 0 rfl) ?_
      refine xr_getR hx hb hts iw_X0_rebuild_0 hown hK hP hF 0 4 rfl (by decide) (by decide +kernel) ⟨rfl, rfl, rfl⟩ dX0_rebuild_11 (fun v3 hF => ?_)
      refine lv_iload_n hx hb dX0_rebuild_14 rfl (lv_at hl 3 rfl) ?_
      refine xr_aJ hx hb hK hP hF dX0_rebuild_15 (fun v4 hF => ?_)
      refine lv_lstore (lv' := [(4, .long v4), (0, .ref x0), (1, .ref x1), (2, .ref x2), (3, .int x3)]) hx hb dX0_rebuild_16 hl (by decide) (by first | rfl | simp [cat_rf]) (fun ls hl => ?_)
      refine lv_aload_n hx hb dX0_rebuild_18 rfl (lv_at hl 1 rfl) ?_
      refine xr_getR hx hb hts iw_X0_rebuild_0 hown hK hP hF 0 2 rfl (by decide) (by decide +kernel) ⟨rfl, rfl, rfl⟩ dX0_rebuild_19 (fun v5 hF => ?_)
      refine lv_iload_n hx hb dX0_rebuild_22 rfl (lv_at hl 4 rfl) ?_
      refine xr_aI hx hb hK hP hF dX0_rebuild_23 (fun v6 hF => ?_)
      refine lv_iconst (v := 2) hx hb dX0_rebuild_24 (by decide) ?_
      refine lv_icmp_eq (tgt := 79) hx hb dX0_rebuild_25 (by decide) (fun c7 => ?_) (fun c7 => ?_)
      · replace hF := it_t hF c7
        exact nd_X0_rebuild_79 CX (f_X0_rebuild_L2 fu) ih _ _ _ _ _ _ _ _ _ hF hP hS (lv_sub hl [1, 2, 3, 4, 0] rfl)
      · replace hF := it_f hF c7
        refine lv_aload_n hx hb dX0_rebuild_28 rfl (lv_at hl 2 rfl) ?_
        refine lv_iload_n hx hb dX0_rebuild_29 rfl (lv_at hl 4 rfl) ?_
        refine lv_aload_n hx hb dX0_rebuild_30 rfl (lv_at hl 3 rfl) ?_
        refine xr_getR hx hb hts iw_X0_rebuild_1 hown hK hP hF 1 0 rfl (by decide) (by decide +kernel) ⟨rfl, rfl, rfl⟩ dX0_rebuild_31 (fun v8 hF => ?_)
        refine lv_aload_n hx hb dX0_rebuild_34 rfl (lv_at hl 3 rfl) ?_
        refine xr_getR hx hb hts iw_X0_rebuild_1 hown hK hP hF 1 1 rfl (by decide) (by decide +kernel) ⟨rfl, rfl, rfl⟩ dX0_rebuild_35 (fun v9 hF => ?_)
        refine lv_aload_n hx hb dX0_rebuild_38 rfl (lv_at hl 1 rfl) ?_
        refine xr_getR hx hb hts iw_X0_rebuild_0 hown hK hP hF 0 0 rfl (by decide) (by decide +kernel) ⟨rfl, rfl, rfl⟩ dX0_rebuild_39 (fun v10 hF => ?_)
        obtain ⟨v12, h11, hF⟩ := ob_some hF
        refine xr_call1 (va_runV (As := [.int x3, .ref v8, .ref v9, .ref v10]) (rest := []) ⟨hx, hb, hml, hown, hts⟩ (ct_X6_given l b0 D cy M x1 x3 v8 v9 v10 v12 h11) (cwV 4 hts gX0_rebuild_X6_given rfl rfl rfl (by decide +kernel) ⟨Nat.le_of_ble_eq_true rfl, Nat.le_of_ble_eq_true rfl⟩) (xp_V hP hK hN hS hb0 6 rfl (gk_X6_given h11)) rfl rfl hl.1 rfl (lv_room (Nat.le_of_ble_eq_true rfl)) dX0_rebuild_42 ⟨Nat.le_of_ble_eq_true rfl, Nat.le_of_ble_eq_true rfl⟩) hS (fun H locs hP hS => ?_)
        refine lv_lstore (lv' := [(6, .long v12), (4, .long v4), (0, .ref x0), (1, .ref x1), (2, .ref x2), (3, .int x3)]) hx hb dX0_rebuild_45 hl (by decide) (by first | rfl | simp [cat_rf]) (fun ls hl => ?_)
        refine lv_aload_n hx hb dX0_rebuild_47 rfl (lv_at hl 2 rfl) ?_
        refine xr_getR hx hb hts iw_X0_rebuild_0 hown hK hP hF 0 2 rfl (by decide) (by decide +kernel) ⟨rfl, rfl, rfl⟩ dX0_rebuild_48 (fun v13 hF => ?_)
        refine lv_iload_n hx hb dX0_rebuild_51 rfl (lv_at hl 5 rfl) ?_
        refine xr_aI hx hb hK hP hF dX0_rebuild_52 (fun v14 hF => ?_)
        refine lv_iconst (v := 1) hx hb dX0_rebuild_53 (by decide) ?_
        refine lv_icmp_ne (tgt := 75) hx hb dX0_rebuild_54 (by decide) (fun c15 => ?_) (fun c15 => ?_)
        · replace hF := it_f hF c15
          refine lv_lload hx hb dX0_rebuild_75 (lv_at hl 0 rfl) ?_
          exact nd_X0_rebuild_77 CX (f_X0_rebuild_L2 fu) ih _ _ _ _ _ _ _ _ _ hF hP hS (lv_sub hl [2, 3, 4, 5] rfl)
        · replace hF := it_t hF c15
          refine lv_aload_n hx hb dX0_rebuild_57 rfl (lv_at hl 3 rfl) ?_
          refine lv_iload_n hx hb dX0_rebuild_58 rfl (lv_at hl 5 rfl) ?_
          refine lv_lload hx hb dX0_rebuild_59 (lv_at hl 0 rfl) ?_
          refine lv_aload_n hx hb dX0_rebuild_61 rfl (lv_at hl 2 rfl) ?_
          refine xr_getR hx hb hts iw_X0_rebuild_0 hown hK hP hF 0 3 rfl (by decide) (by decide +kernel) ⟨rfl, rfl, rfl⟩ dX0_rebuild_62 (fun v16 hF => ?_)
          refine lv_iload_n hx hb dX0_rebuild_65 rfl (lv_at hl 5 rfl) ?_
          refine xr_aI hx hb hK hP hF dX0_rebuild_66 (fun v17 hF => ?_)
          refine lv_lload hx hb dX0_rebuild_67 (lv_at hl 1 rfl) ?_
          obtain ⟨v19, h18, hF⟩ := ob_some hF
          refine xr_call1 (va_runV (As := [.int x3, .long v12, .int v17, .long v4]) (rest := []) ⟨hx, hb, hml, hown, hts⟩ (ct_X6_found l b0 D cy M x1 x3 v12 v17 v4 v19 h18) (cwV 4 hts gX0_rebuild_X6_found rfl rfl rfl (by decide +kernel) ⟨Nat.le_of_ble_eq_true rfl, Nat.le_of_ble_eq_true rfl⟩) (xp_V hP hK hN hS hb0 6 rfl (gk_X6_found h18)) rfl rfl hl.1 rfl (lv_room (Nat.le_of_ble_eq_true rfl)) dX0_rebuild_69 ⟨Nat.le_of_ble_eq_true rfl, Nat.le_of_ble_eq_true rfl⟩) hS (fun H locs hP hS => ?_)
          refine lv_goto (tgt := 77) hx hb dX0_rebuild_72 (by decide) ?_
          exact nd_X0_rebuild_77 CX (f_X0_rebuild_L2 fu) ih _ _ _ _ _ _ _ _ _ hF hP hS (lv_sub hl [2, 3, 4, 5] rfl)
theorem gk_X0_rebuild {M : Mm} {a0 : Nat} {a1 : Nat} {a2 : Nat} {r : Mm} (h : f_X0_rebuild M a0 a1 a2 = some r) : mK M a0 = 1 := by
  unfold f_X0_rebuild at h
  exact (if_some h).1
set_option maxHeartbeats 4000000 in
set_option maxRecDepth 100000 in
theorem ct_X0_rebuild (l : Launch) (b0 : Nat) (D : va_G) (cy : Nat → ClassId) (M : Mm) (a0 : Nat) (a1 : Nat) (a2 : Nat) (M1 : Mm) (hF : f_X0_rebuild M a0 a1 a2 = some M1) : Met l yX0_rebuild wsX0_rebuild rm_X0_rebuild (va_Pc [.ref a0, .ref a1, .ref a2] (Pm b0 D cy M)) (Qm b0 D cy M1 none) 0 0 (BA b0) := by
  refine ct_of [.ref a0, .ref a1, .ref a2] (by decide) rfl ?_
  intro p e s m below meth c CX hP
  obtain ⟨hx, hb, hr, hml, hown0, hts, hlk, hK, hN, hb0, hnm⟩ := id CX
  have hown : s.vm.findClass RX0 = some m.cls := hown0
  have hS : va_S (BA b0) s.heap s.heap [] := va_S.rf
  have hl := lv_entry [.ref a0, .ref a1, .ref a2] (n := 8) (Nat.le_of_ble_eq_true rfl)
  generalize (lg_sl [.ref a0, .ref a1, .ref a2] ++ List.replicate (8 - (lg_sl [.ref a0, .ref a1, .ref a2]).length) Slot.unset).toArray = ls at hl ⊢
  have hl : lv_has ls 8 [(0, .ref a0), (1, .ref a1), (2, .ref a2)] := hl
  unfold f_X0_rebuild at hF
  replace hF := (if_some hF).2
  refine lv_iconst (v := 0) hx hb dX0_rebuild_0 (by decide) ?_
  refine lv_istore_n (lv' := [(3, .int 0), (0, .ref a0), (1, .ref a1), (2, .ref a2)]) hx hb dX0_rebuild_1 rfl hl (by decide) (by first | rfl | simp [cat_rf]) (fun ls hl => ?_)
  exact nd_X0_rebuild_2 CX _ _ _ _ _ _ _ _ _ hF hP hS (lv_sub hl [1, 2, 3, 0] rfl)
/-! X1_init -/
theorem iw_X1_init_1 : ∀ w ∈ u_ws RX1 TX1 4, w ∈ wsX1_init := by decide +kernel
theorem iw_X1_init_3 : ∀ w ∈ u_ws RX3 TX3 2, w ∈ wsX1_init := by decide +kernel
abbrev rm_X1_init : Room := { frames := 2, cells := 3, slots := 18, locals := 40 }
theorem gk_X1_init {M : Mm} {a0 : Nat} {r : Mm} (h : f_X1_init M a0 = some r) : mK M a0 = 2 := by
  unfold f_X1_init at h
  exact (if_some h).1
set_option maxHeartbeats 4000000 in
set_option maxRecDepth 100000 in
theorem ct_X1_init (l : Launch) (b0 : Nat) (D : va_G) (cy : Nat → ClassId) (M : Mm) (a0 : Nat) (M1 : Mm) (hF : f_X1_init M a0 = some M1) : Met l yX1_init wsX1_init rm_X1_init (va_Pc [.ref a0] (Pm b0 D cy M)) (Qm b0 D cy M1 none) 3 18 (BA b0) := by
  refine ct_of [.ref a0] (by decide) rfl ?_
  intro p e s m below meth c CX hP
  obtain ⟨hx, hb, hr, hml, hown0, hts, hlk, hK, hN, hb0, hnm⟩ := id CX
  have hown : s.vm.findClass RX1 = some m.cls := hown0
  have hS : va_S (BA b0) s.heap s.heap [] := va_S.rf
  have hl := lv_entry [.ref a0] (n := 1) (Nat.le_of_ble_eq_true rfl)
  generalize (lg_sl [.ref a0] ++ List.replicate (1 - (lg_sl [.ref a0]).length) Slot.unset).toArray = ls at hl ⊢
  have hl : lv_has ls 1 [(0, .ref a0)] := hl
  unfold f_X1_init at hF
  replace hF := (if_some hF).2
  refine lv_aload_n hx hb dX1_init_0 rfl (lv_at hl 0 rfl) ?_
  refine W.objInit hx hb hown (hts (.methodLink RX1 3 objectInit) (by decide +kernel)) (hts (.instanceMethod objectInit) (by decide +kernel)) (hts (.code objectInit ⟨#[0xb1]⟩ 1 none) (by decide +kernel)) rfl (by rw [hml]; exact hl.1) rfl dX1_init_1 (Nat.le_of_ble_eq_true rfl) (Nat.le_of_ble_eq_true rfl) ?_
  refine W.eq (g2 := F0 m 4 ls []) rfl ?_
  refine lv_aload_n hx hb dX1_init_4 rfl (lv_at hl 0 rfl) ?_
  refine xr_new hx hb hts iw_X1_init_3 hown hK hP hS hb0 3 rfl tyX3 tyX3_ok df_3 (by decide +kernel) (by decide +kernel) (by decide +kernel) (Nat.le_of_ble_eq_true rfl) (Nat.le_of_ble_eq_true rfl) dX1_init_5 (kd := 4) rfl (fun H hP hS => ?_)
  refine W.cs (cells' := 1) (slots' := 2) rfl rfl ?_
  refine lv_dup hx hb dX1_init_8 rfl ?_
  obtain ⟨M2, h1, hF⟩ := ob_some hF
  refine xr_call0 (va_runIN (As := []) (rest := [.ref (mS M), .ref a0]) ⟨hx, hb, hml, hown, hts⟩ (ct_X3_init l b0 D cy (nO M 4) (mS M) M2 h1) ⟨va_cnB 0 hts gX1_init_X3_init_n11 rfl rfl rfl (hN.1 (RX1, 11, yX3_init, "HeaderLine") (by decide +kernel)) (hts (.initialized RX3) (by decide +kernel)) (by decide +kernel) ⟨Nat.le_of_ble_eq_true rfl, Nat.le_of_ble_eq_true rfl⟩, rfl, hts (.instanceMethod yX3_init) (by decide +kernel)⟩ (xp_S hP hK hN hS hb0) rfl rfl hl.1 rfl (lv_room (Nat.le_of_ble_eq_true rfl)) dX1_init_9 ⟨Nat.le_of_ble_eq_true rfl, Nat.le_of_ble_eq_true rfl⟩) hS (fun H locs hP hS => ?_)
  refine W.cs (cells' := 2) (slots' := 10) rfl rfl ?_
  refine xr_putR hx hb hts iw_X1_init_1 hown hK hP hS (v := (some (mS M))) hF 1 0 rfl (by decide) tyX1 tyX1_ok nmX1 (by decide +kernel) (Or.inr ⟨rfl, hnm, rfl⟩) (Or.inl ⟨_, rfl⟩) ⟨rfl, rfl, rfl⟩ dX1_init_12 (fun M3 H locs hF hP hS => ?_)
  refine lv_aload_n hx hb dX1_init_15 rfl (lv_at hl 0 rfl) ?_
  refine lv_bipush (v := 8) hx hb dX1_init_16 (by decide) ?_
  refine xr_newA hx hb hts hK hP hS hb0 hF (by decide +kernel) (Or.inl ⟨rfl, rfl⟩) (by decide) (Nat.le_of_ble_eq_true rfl) (Nat.le_of_ble_eq_true rfl) dX1_init_18 (fun M4 H hF hP hS => ?_)
  refine W.cs (cells' := 3) (slots' := 18) rfl rfl ?_
  refine xr_putR hx hb hts iw_X1_init_1 hown hK hP hS (v := (some (mS M3))) hF 1 1 rfl (by decide) tyX1 tyX1_ok nmX1 (by decide +kernel) (Or.inr ⟨rfl, hnm, rfl⟩) (Or.inr ⟨_, rfl⟩) ⟨rfl, rfl, rfl⟩ dX1_init_20 (fun M5 H locs hF hP hS => ?_)
  cases hF
  exact W.vret hx hb hr (fun t ht hW => ⟨rfl, by rw [ht]; exact hP, hS.F ht⟩) hS.2.2 dX1_init_23 hlk
/-! X3_become -/
theorem iw_X3_become_3 : ∀ w ∈ u_ws RX3 TX3 2, w ∈ wsX3_become := by decide +kernel
abbrev rm_X3_become : Room := { frames := 1, cells := 0, slots := 0, locals := 50 }
theorem gk_X3_become {M : Mm} {a0 : Nat} {a1 : Nat} {r : Mm} (h : f_X3_become M a0 a1 = some r) : mK M a0 = 4 := by
  unfold f_X3_become at h
  exact (if_some h).1
set_option maxHeartbeats 4000000 in
set_option maxRecDepth 100000 in
theorem ct_X3_become (l : Launch) (b0 : Nat) (D : va_G) (cy : Nat → ClassId) (M : Mm) (a0 : Nat) (a1 : Nat) (M1 : Mm) (hF : f_X3_become M a0 a1 = some M1) : Met l yX3_become wsX3_become rm_X3_become (va_Pc [.ref a0, .ref a1] (Pm b0 D cy M)) (Qm b0 D cy M1 none) 0 0 (BA b0) := by
  refine ct_of [.ref a0, .ref a1] (by decide) rfl ?_
  intro p e s m below meth c CX hP
  obtain ⟨hx, hb, hr, hml, hown0, hts, hlk, hK, hN, hb0, hnm⟩ := id CX
  have hown : s.vm.findClass RX3 = some m.cls := hown0
  have hS : va_S (BA b0) s.heap s.heap [] := va_S.rf
  have hl := lv_entry [.ref a0, .ref a1] (n := 2) (Nat.le_of_ble_eq_true rfl)
  generalize (lg_sl [.ref a0, .ref a1] ++ List.replicate (2 - (lg_sl [.ref a0, .ref a1]).length) Slot.unset).toArray = ls at hl ⊢
  have hl : lv_has ls 2 [(0, .ref a0), (1, .ref a1)] := hl
  unfold f_X3_become at hF
  replace hF := (if_some hF).2
  refine lv_aload_n hx hb dX3_become_0 rfl (lv_at hl 1 rfl) ?_
  refine xr_getR hx hb hts iw_X3_become_3 hown hK hP hF 3 0 rfl (by decide) (by decide +kernel) ⟨rfl, rfl, rfl⟩ dX3_become_1 (fun v1 hF => ?_)
  refine lv_iconst (v := 0) hx hb dX3_become_4 (by decide) ?_
  refine lv_aload_n hx hb dX3_become_5 rfl (lv_at hl 0 rfl) ?_
  refine xr_getR hx hb hts iw_X3_become_3 hown hK hP hF 3 0 rfl (by decide) (by decide +kernel) ⟨rfl, rfl, rfl⟩ dX3_become_6 (fun v2 hF => ?_)
  refine lv_iconst (v := 0) hx hb dX3_become_9 (by decide) ?_
  refine lv_bipush (v := 8) hx hb dX3_become_10 (by decide) ?_
  refine xr_cpJ hx hb (hml.trans hl.1.symm) hts hown hK hP hS hF (by decide +kernel) (by decide +kernel) (Nat.le_of_ble_eq_true rfl) (Nat.le_of_ble_eq_true rfl) dX3_become_12 (fun M3 H locs hF hP hS => ?_)
  refine lv_aload_n hx hb dX3_become_15 rfl (lv_at hl 0 rfl) ?_
  refine lv_aload_n hx hb dX3_become_16 rfl (lv_at hl 1 rfl) ?_
  refine xr_getI hx hb hts iw_X3_become_3 hown hK hP hF 3 1 rfl (by decide) (by decide +kernel) ⟨rfl, rfl, rfl⟩ dX3_become_17 (fun v4 hF => ?_)
  refine xr_putI hx hb hts iw_X3_become_3 hown hK hP hS hF 3 1 rfl (by decide) tyX3 tyX3_ok nmX3 (by decide +kernel) (Or.inl rfl) rfl ⟨rfl, rfl, rfl⟩ dX3_become_20 (fun M5 H locs hF hP hS => ?_)
  cases hF
  exact W.vret hx hb hr (fun t ht hW => ⟨rfl, by rw [ht]; exact hP, hS.F ht⟩) hS.2.2 dX3_become_23 hlk
/-! X1_accept -/
theorem iw_X1_accept_0 : ∀ w ∈ u_ws RX0 TX0 12, w ∈ wsX1_accept := by decide +kernel
theorem iw_X1_accept_1 : ∀ w ∈ u_ws RX1 TX1 4, w ∈ wsX1_accept := by decide +kernel
abbrev rm_X1_accept : Room := { frames := 2, cells := 0, slots := 0, locals := 71 }
theorem gk_X1_accept {M : Mm} {a0 : Nat} {a1 : Nat} {r : Mm} (h : f_X1_accept M a0 a1 = some r) : mK M a0 = 2 := by
  unfold f_X1_accept at h
  exact (if_some h).1
set_option maxHeartbeats 4000000 in
set_option maxRecDepth 100000 in
theorem ct_X1_accept (l : Launch) (b0 : Nat) (D : va_G) (cy : Nat → ClassId) (M : Mm) (a0 : Nat) (a1 : Nat) (M1 : Mm) (hF : f_X1_accept M a0 a1 = some M1) : Met l yX1_accept wsX1_accept rm_X1_accept (va_Pc [.ref a0, .ref a1] (Pm b0 D cy M)) (Qm b0 D cy M1 none) 0 0 (BA b0) := by
  refine ct_of [.ref a0, .ref a1] (by decide) rfl ?_
  intro p e s m below meth c CX hP
  obtain ⟨hx, hb, hr, hml, hown0, hts, hlk, hK, hN, hb0, hnm⟩ := id CX
  have hown : s.vm.findClass RX1 = some m.cls := hown0
  have hS : va_S (BA b0) s.heap s.heap [] := va_S.rf
  have hl := lv_entry [.ref a0, .ref a1] (n := 2) (Nat.le_of_ble_eq_true rfl)
  generalize (lg_sl [.ref a0, .ref a1] ++ List.replicate (2 - (lg_sl [.ref a0, .ref a1]).length) Slot.unset).toArray = ls at hl ⊢
  have hl : lv_has ls 2 [(0, .ref a0), (1, .ref a1)] := hl
  unfold f_X1_accept at hF
  replace hF := (if_some hF).2
  refine lv_aload_n hx hb dX1_accept_0 rfl (lv_at hl 0 rfl) ?_
  refine xr_getR hx hb hts iw_X1_accept_1 hown hK hP hF 1 0 rfl (by decide) (by decide +kernel) ⟨rfl, rfl, rfl⟩ dX1_accept_1 (fun v1 hF => ?_)
  refine lv_aload_n hx hb dX1_accept_4 rfl (lv_at hl 1 rfl) ?_
  refine xr_getR hx hb hts iw_X1_accept_0 hown hK hP hF 0 0 rfl (by decide) (by decide +kernel) ⟨rfl, rfl, rfl⟩ dX1_accept_5 (fun v2 hF => ?_)
  obtain ⟨M4, h3, hF⟩ := ob_some hF
  refine xr_call0 (va_runV (As := [.ref v2]) (rest := []) ⟨hx, hb, hml, hown, hts⟩ (ct_X3_become l b0 D cy M v1 v2 M4 h3) (cwV 1 hts gX1_accept_X3_become rfl rfl rfl (by decide +kernel) ⟨Nat.le_of_ble_eq_true rfl, Nat.le_of_ble_eq_true rfl⟩) (xp_V hP hK hN hS hb0 3 rfl (gk_X3_become h3)) rfl rfl hl.1 rfl (lv_room (Nat.le_of_ble_eq_true rfl)) dX1_accept_8 ⟨Nat.le_of_ble_eq_true rfl, Nat.le_of_ble_eq_true rfl⟩) hS (fun H locs hP hS => ?_)
  refine lv_aload_n hx hb dX1_accept_11 rfl (lv_at hl 0 rfl) ?_
  refine lv_iconst (v := 1) hx hb dX1_accept_12 (by decide) ?_
  refine xr_putZ hx hb hts iw_X1_accept_1 hown hK hP hS hF 1 3 rfl (by decide) tyX1 tyX1_ok nmX1 (by decide +kernel) (Or.inl rfl) rfl ⟨rfl, rfl, rfl⟩ dX1_accept_13 (fun M5 H locs hF hP hS => ?_)
  refine lv_aload_n hx hb dX1_accept_16 rfl (lv_at hl 1 rfl) ?_
  refine xr_getI hx hb hts iw_X1_accept_0 hown hK hP hF 0 5 rfl (by decide) (by decide +kernel) ⟨rfl, rfl, rfl⟩ dX1_accept_17 (fun v6 hF => ?_)
  refine lv_if_ne (tgt := 46) hx hb dX1_accept_20 (by decide) (fun c7 => ?_) (fun c7 => ?_)
  · replace hF := it_f hF c7
    cases hF
    exact W.vret hx hb hr (fun t ht hW => ⟨rfl, by rw [ht]; exact hP, hS.F ht⟩) hS.2.2 dX1_accept_46 hlk
  · replace hF := it_t hF c7
    refine lv_aload_n hx hb dX1_accept_23 rfl (lv_at hl 0 rfl) ?_
    refine lv_aload_n hx hb dX1_accept_24 rfl (lv_at hl 1 rfl) ?_
    refine xr_getI hx hb hts iw_X1_accept_0 hown hK hP hF 0 7 rfl (by decide) (by decide +kernel) ⟨rfl, rfl, rfl⟩ dX1_accept_25 (fun v8 hF => ?_)
    refine xr_putI hx hb hts iw_X1_accept_1 hown hK hP hS hF 1 2 rfl (by decide) tyX1 tyX1_ok nmX1 (by decide +kernel) (Or.inl rfl) rfl ⟨rfl, rfl, rfl⟩ dX1_accept_28 (fun M9 H locs hF hP hS => ?_)
    refine lv_aload_n hx hb dX1_accept_31 rfl (lv_at hl 1 rfl) ?_
    refine xr_getR hx hb hts iw_X1_accept_0 hown hK hP hF 0 1 rfl (by decide) (by decide +kernel) ⟨rfl, rfl, rfl⟩ dX1_accept_32 (fun v10 hF => ?_)
    refine lv_iconst (v := 0) hx hb dX1_accept_35 (by decide) ?_
    refine lv_aload_n hx hb dX1_accept_36 rfl (lv_at hl 0 rfl) ?_
    refine xr_getR hx hb hts iw_X1_accept_1 hown hK hP hF 1 1 rfl (by decide) (by decide +kernel) ⟨rfl, rfl, rfl⟩ dX1_accept_37 (fun v11 hF => ?_)
    refine lv_iconst (v := 0) hx hb dX1_accept_40 (by decide) ?_
    refine lv_bipush (v := 8) hx hb dX1_accept_41 (by decide) ?_
    refine xr_cpI hx hb (hml.trans hl.1.symm) hts hown hK hP hS hF (by decide +kernel) (by decide +kernel) (Nat.le_of_ble_eq_true rfl) (Nat.le_of_ble_eq_true rfl) dX1_accept_43 (fun M12 H locs hF hP hS => ?_)
    cases hF
    exact W.vret hx hb hr (fun t ht hW => ⟨rfl, by rw [ht]; exact hP, hS.F ht⟩) hS.2.2 dX1_accept_46 hlk
/-! X2_init -/
theorem iw_X2_init_2 : ∀ w ∈ u_ws RX2 TX2 5, w ∈ wsX2_init := by decide +kernel
theorem iw_X2_init_3 : ∀ w ∈ u_ws RX3 TX3 2, w ∈ wsX2_init := by decide +kernel
abbrev rm_X2_init : Room := { frames := 2, cells := 3, slots := 18, locals := 40 }
theorem gk_X2_init {M : Mm} {a0 : Nat} {r : Mm} (h : f_X2_init M a0 = some r) : mK M a0 = 3 := by
  unfold f_X2_init at h
  exact (if_some h).1
set_option maxHeartbeats 4000000 in
set_option maxRecDepth 100000 in
theorem ct_X2_init (l : Launch) (b0 : Nat) (D : va_G) (cy : Nat → ClassId) (M : Mm) (a0 : Nat) (M1 : Mm) (hF : f_X2_init M a0 = some M1) : Met l yX2_init wsX2_init rm_X2_init (va_Pc [.ref a0] (Pm b0 D cy M)) (Qm b0 D cy M1 none) 3 18 (BA b0) := by
  refine ct_of [.ref a0] (by decide) rfl ?_
  intro p e s m below meth c CX hP
  obtain ⟨hx, hb, hr, hml, hown0, hts, hlk, hK, hN, hb0, hnm⟩ := id CX
  have hown : s.vm.findClass RX2 = some m.cls := hown0
  have hS : va_S (BA b0) s.heap s.heap [] := va_S.rf
  have hl := lv_entry [.ref a0] (n := 1) (Nat.le_of_ble_eq_true rfl)
  generalize (lg_sl [.ref a0] ++ List.replicate (1 - (lg_sl [.ref a0]).length) Slot.unset).toArray = ls at hl ⊢
  have hl : lv_has ls 1 [(0, .ref a0)] := hl
  unfold f_X2_init at hF
  replace hF := (if_some hF).2
  refine lv_aload_n hx hb dX2_init_0 rfl (lv_at hl 0 rfl) ?_
  refine W.objInit hx hb hown (hts (.methodLink RX2 3 objectInit) (by decide +kernel)) (hts (.instanceMethod objectInit) (by decide +kernel)) (hts (.code objectInit ⟨#[0xb1]⟩ 1 none) (by decide +kernel)) rfl (by rw [hml]; exact hl.1) rfl dX2_init_1 (Nat.le_of_ble_eq_true rfl) (Nat.le_of_ble_eq_true rfl) ?_
  refine W.eq (g2 := F0 m 4 ls []) rfl ?_
  refine lv_aload_n hx hb dX2_init_4 rfl (lv_at hl 0 rfl) ?_
  refine xr_new hx hb hts iw_X2_init_3 hown hK hP hS hb0 3 rfl tyX3 tyX3_ok df_3 (by decide +kernel) (by decide +kernel) (by decide +kernel) (Nat.le_of_ble_eq_true rfl) (Nat.le_of_ble_eq_true rfl) dX2_init_5 (kd := 4) rfl (fun H hP hS => ?_)
  refine W.cs (cells' := 1) (slots' := 2) rfl rfl ?_
  refine lv_dup hx hb dX2_init_8 rfl ?_
  obtain ⟨M2, h1, hF⟩ := ob_some hF
  refine xr_call0 (va_runIN (As := []) (rest := [.ref (mS M), .ref a0]) ⟨hx, hb, hml, hown, hts⟩ (ct_X3_init l b0 D cy (nO M 4) (mS M) M2 h1) ⟨va_cnB 0 hts gX2_init_X3_init_n11 rfl rfl rfl (hN.1 (RX2, 11, yX3_init, "HeaderLine") (by decide +kernel)) (hts (.initialized RX3) (by decide +kernel)) (by decide +kernel) ⟨Nat.le_of_ble_eq_true rfl, Nat.le_of_ble_eq_true rfl⟩, rfl, hts (.instanceMethod yX3_init) (by decide +kernel)⟩ (xp_S hP hK hN hS hb0) rfl rfl hl.1 rfl (lv_room (Nat.le_of_ble_eq_true rfl)) dX2_init_9 ⟨Nat.le_of_ble_eq_true rfl, Nat.le_of_ble_eq_true rfl⟩) hS (fun H locs hP hS => ?_)
  refine W.cs (cells' := 2) (slots' := 10) rfl rfl ?_
  refine xr_putR hx hb hts iw_X2_init_2 hown hK hP hS (v := (some (mS M))) hF 2 0 rfl (by decide) tyX2 tyX2_ok nmX2 (by decide +kernel) (Or.inr ⟨rfl, hnm, rfl⟩) (Or.inl ⟨_, rfl⟩) ⟨rfl, rfl, rfl⟩ dX2_init_12 (fun M3 H locs hF hP hS => ?_)
  refine lv_aload_n hx hb dX2_init_15 rfl (lv_at hl 0 rfl) ?_
  refine lv_bipush (v := 8) hx hb dX2_init_16 (by decide) ?_
  refine xr_newA hx hb hts hK hP hS hb0 hF (by decide +kernel) (Or.inl ⟨rfl, rfl⟩) (by decide) (Nat.le_of_ble_eq_true rfl) (Nat.le_of_ble_eq_true rfl) dX2_init_18 (fun M4 H hF hP hS => ?_)
  refine W.cs (cells' := 3) (slots' := 18) rfl rfl ?_
  refine xr_putR hx hb hts iw_X2_init_2 hown hK hP hS (v := (some (mS M3))) hF 2 1 rfl (by decide) tyX2 tyX2_ok nmX2 (by decide +kernel) (Or.inr ⟨rfl, hnm, rfl⟩) (Or.inr ⟨_, rfl⟩) ⟨rfl, rfl, rfl⟩ dX2_init_20 (fun M5 H locs hF hP hS => ?_)
  cases hF
  exact W.vret hx hb hr (fun t ht hW => ⟨rfl, by rw [ht]; exact hP, hS.F ht⟩) hS.2.2 dX2_init_23 hlk
/-! X2_accept -/
theorem iw_X2_accept_0 : ∀ w ∈ u_ws RX0 TX0 12, w ∈ wsX2_accept := by decide +kernel
theorem iw_X2_accept_2 : ∀ w ∈ u_ws RX2 TX2 5, w ∈ wsX2_accept := by decide +kernel
abbrev rm_X2_accept : Room := { frames := 2, cells := 0, slots := 0, locals := 71 }
theorem gk_X2_accept {M : Mm} {a0 : Nat} {a1 : Nat} {a2 : Int32} {r : Mm} (h : f_X2_accept M a0 a1 a2 = some r) : mK M a0 = 3 := by
  unfold f_X2_accept at h
  exact (if_some h).1
set_option maxHeartbeats 4000000 in
set_option maxRecDepth 100000 in
theorem ct_X2_accept (l : Launch) (b0 : Nat) (D : va_G) (cy : Nat → ClassId) (M : Mm) (a0 : Nat) (a1 : Nat) (a2 : Int32) (M1 : Mm) (hF : f_X2_accept M a0 a1 a2 = some M1) : Met l yX2_accept wsX2_accept rm_X2_accept (va_Pc [.ref a0, .ref a1, .int a2] (Pm b0 D cy M)) (Qm b0 D cy M1 none) 0 0 (BA b0) := by
  refine ct_of [.ref a0, .ref a1, .int a2] (by decide) rfl ?_
  intro p e s m below meth c CX hP
  obtain ⟨hx, hb, hr, hml, hown0, hts, hlk, hK, hN, hb0, hnm⟩ := id CX
  have hown : s.vm.findClass RX2 = some m.cls := hown0
  have hS : va_S (BA b0) s.heap s.heap [] := va_S.rf
  have hl := lv_entry [.ref a0, .ref a1, .int a2] (n := 3) (Nat.le_of_ble_eq_true rfl)
  generalize (lg_sl [.ref a0, .ref a1, .int a2] ++ List.replicate (3 - (lg_sl [.ref a0, .ref a1, .int a2]).length) Slot.unset).toArray = ls at hl ⊢
  have hl : lv_has ls 3 [(0, .ref a0), (1, .ref a1), (2, .int a2)] := hl
  unfold f_X2_accept at hF
  replace hF := (if_some hF).2
  refine lv_aload_n hx hb dX2_accept_0 rfl (lv_at hl 0 rfl) ?_
  refine xr_getR hx hb hts iw_X2_accept_2 hown hK hP hF 2 0 rfl (by decide) (by decide +kernel) ⟨rfl, rfl, rfl⟩ dX2_accept_1 (fun v1 hF => ?_)
  refine lv_aload_n hx hb dX2_accept_4 rfl (lv_at hl 1 rfl) ?_
  refine xr_getR hx hb hts iw_X2_accept_0 hown hK hP hF 0 0 rfl (by decide) (by decide +kernel) ⟨rfl, rfl, rfl⟩ dX2_accept_5 (fun v2 hF => ?_)
  obtain ⟨M4, h3, hF⟩ := ob_some hF
  refine xr_call0 (va_runV (As := [.ref v2]) (rest := []) ⟨hx, hb, hml, hown, hts⟩ (ct_X3_become l b0 D cy M v1 v2 M4 h3) (cwV 1 hts gX2_accept_X3_become rfl rfl rfl (by decide +kernel) ⟨Nat.le_of_ble_eq_true rfl, Nat.le_of_ble_eq_true rfl⟩) (xp_V hP hK hN hS hb0 3 rfl (gk_X3_become h3)) rfl rfl hl.1 rfl (lv_room (Nat.le_of_ble_eq_true rfl)) dX2_accept_8 ⟨Nat.le_of_ble_eq_true rfl, Nat.le_of_ble_eq_true rfl⟩) hS (fun H locs hP hS => ?_)
  refine lv_aload_n hx hb dX2_accept_11 rfl (lv_at hl 1 rfl) ?_
  refine xr_getR hx hb hts iw_X2_accept_0 hown hK hP hF 0 2 rfl (by decide) (by decide +kernel) ⟨rfl, rfl, rfl⟩ dX2_accept_12 (fun v5 hF => ?_)
  refine lv_iconst (v := 0) hx hb dX2_accept_15 (by decide) ?_
  refine lv_aload_n hx hb dX2_accept_16 rfl (lv_at hl 0 rfl) ?_
  refine xr_getR hx hb hts iw_X2_accept_2 hown hK hP hF 2 1 rfl (by decide) (by decide +kernel) ⟨rfl, rfl, rfl⟩ dX2_accept_17 (fun v6 hF => ?_)
  refine lv_iconst (v := 0) hx hb dX2_accept_20 (by decide) ?_
  refine lv_bipush (v := 8) hx hb dX2_accept_21 (by decide) ?_
  refine xr_cpI hx hb (hml.trans hl.1.symm) hts hown hK hP hS hF (by decide +kernel) (by decide +kernel) (Nat.le_of_ble_eq_true rfl) (Nat.le_of_ble_eq_true rfl) dX2_accept_23 (fun M7 H locs hF hP hS => ?_)
  refine lv_aload_n hx hb dX2_accept_26 rfl (lv_at hl 0 rfl) ?_
  refine lv_aload_n hx hb dX2_accept_27 rfl (lv_at hl 1 rfl) ?_
  refine xr_getI hx hb hts iw_X2_accept_0 hown hK hP hF 0 6 rfl (by decide) (by decide +kernel) ⟨rfl, rfl, rfl⟩ dX2_accept_28 (fun v8 hF => ?_)
  refine xr_putI hx hb hts iw_X2_accept_2 hown hK hP hS hF 2 2 rfl (by decide) tyX2 tyX2_ok nmX2 (by decide +kernel) (Or.inl rfl) rfl ⟨rfl, rfl, rfl⟩ dX2_accept_31 (fun M9 H locs hF hP hS => ?_)
  refine lv_aload_n hx hb dX2_accept_34 rfl (lv_at hl 0 rfl) ?_
  refine lv_iload_n hx hb dX2_accept_35 rfl (lv_at hl 2 rfl) ?_
  refine xr_putI hx hb hts iw_X2_accept_2 hown hK hP hS hF 2 3 rfl (by decide) tyX2 tyX2_ok nmX2 (by decide +kernel) (Or.inl rfl) rfl ⟨rfl, rfl, rfl⟩ dX2_accept_36 (fun M10 H locs hF hP hS => ?_)
  refine lv_aload_n hx hb dX2_accept_39 rfl (lv_at hl 0 rfl) ?_
  refine lv_dup hx hb dX2_accept_40 rfl ?_
  refine xr_getI hx hb hts iw_X2_accept_2 hown hK hP hF 2 4 rfl (by decide) (by decide +kernel) ⟨rfl, rfl, rfl⟩ dX2_accept_41 (fun v11 hF => ?_)
  refine lv_iconst (v := 1) hx hb dX2_accept_44 (by decide) ?_
  refine lv_iadd hx hb dX2_accept_45 ?_
  refine xr_putI hx hb hts iw_X2_accept_2 hown hK hP hS hF 2 4 rfl (by decide) tyX2 tyX2_ok nmX2 (by decide +kernel) (Or.inl rfl) rfl ⟨rfl, rfl, rfl⟩ dX2_accept_46 (fun M12 H locs hF hP hS => ?_)
  cases hF
  exact W.vret hx hb hr (fun t ht hW => ⟨rfl, by rw [ht]; exact hP, hS.F ht⟩) hS.2.2 dX2_accept_49 hlk
/-! X4_init -/
theorem iw_X4_init_4 : ∀ w ∈ u_ws RX4 TX4 9, w ∈ wsX4_init := by decide +kernel
abbrev rm_X4_init : Room := { frames := 1, cells := 0, slots := 0, locals := 20 }
theorem gk_X4_init {M : Mm} {a0 : Nat} {a1 : Int32} {a2 : Int32} {a3 : Int32} {a4 : Nat} {a5 : Int32} {r : Mm} (h : f_X4_init M a0 a1 a2 a3 a4 a5 = some r) : mK M a0 = 5 := by
  unfold f_X4_init at h
  exact (if_some h).1
set_option maxHeartbeats 4000000 in
set_option maxRecDepth 100000 in
theorem ct_X4_init (l : Launch) (b0 : Nat) (D : va_G) (cy : Nat → ClassId) (M : Mm) (a0 : Nat) (a1 : Int32) (a2 : Int32) (a3 : Int32) (a4 : Nat) (a5 : Int32) (M1 : Mm) (hF : f_X4_init M a0 a1 a2 a3 a4 a5 = some M1) : Met l yX4_init wsX4_init rm_X4_init (va_Pc [.ref a0, .int a1, .int a2, .int a3, .ref a4, .int a5] (Pm b0 D cy M)) (Qm b0 D cy M1 none) 0 0 (BA b0) := by
  refine ct_of [.ref a0, .int a1, .int a2, .int a3, .ref a4, .int a5] (by decide) rfl ?_
  intro p e s m below meth c CX hP
  obtain ⟨hx, hb, hr, hml, hown0, hts, hlk, hK, hN, hb0, hnm⟩ := id CX
  have hown : s.vm.findClass RX4 = some m.cls := hown0
  have hS : va_S (BA b0) s.heap s.heap [] := va_S.rf
  have hl := lv_entry [.ref a0, .int a1, .int a2, .int a3, .ref a4, .int a5] (n := 6) (Nat.le_of_ble_eq_true rfl)
  generalize (lg_sl [.ref a0, .int a1, .int a2, .int a3, .ref a4, .int a5] ++ List.replicate (6 - (lg_sl [.ref a0, .int a1, .int a2, .int a3, .ref a4, .int a5]).length) Slot.unset).toArray = ls at hl ⊢
  have hl : lv_has ls 6 [(0, .ref a0), (1, .int a1), (2, .int a2), (3, .int a3), (4, .ref a4), (5, .int a5)] := hl
  unfold f_X4_init at hF
  replace hF := (if_some hF).2
  refine lv_aload_n hx hb dX4_init_0 rfl (lv_at hl 0 rfl) ?_
  refine W.objInit hx hb hown (hts (.methodLink RX4 1 objectInit) (by decide +kernel)) (hts (.instanceMethod objectInit) (by decide +kernel)) (hts (.code objectInit ⟨#[0xb1]⟩ 1 none) (by decide +kernel)) rfl (by rw [hml]; exact hl.1) rfl dX4_init_1 (Nat.le_of_ble_eq_true rfl) (Nat.le_of_ble_eq_true rfl) ?_
  refine W.eq (g2 := F0 m 4 ls []) rfl ?_
  refine lv_aload_n hx hb dX4_init_4 rfl (lv_at hl 0 rfl) ?_
  refine lv_iconst (v := (-1)) hx hb dX4_init_5 (by decide) ?_
  refine xr_putI hx hb hts iw_X4_init_4 hown hK hP hS hF 4 5 rfl (by decide) tyX4 tyX4_ok nmX4 (by decide +kernel) (Or.inl rfl) rfl ⟨rfl, rfl, rfl⟩ dX4_init_6 (fun M1 H locs hF hP hS => ?_)
  refine lv_aload_n hx hb dX4_init_9 rfl (lv_at hl 0 rfl) ?_
  refine lv_iload_n hx hb dX4_init_10 rfl (lv_at hl 1 rfl) ?_
  refine xr_putI hx hb hts iw_X4_init_4 hown hK hP hS hF 4 0 rfl (by decide) tyX4 tyX4_ok nmX4 (by decide +kernel) (Or.inr ⟨rfl, hnm, rfl⟩) rfl ⟨rfl, rfl, rfl⟩ dX4_init_11 (fun M2 H locs hF hP hS => ?_)
  refine lv_aload_n hx hb dX4_init_14 rfl (lv_at hl 0 rfl) ?_
  refine lv_iload_n hx hb dX4_init_15 rfl (lv_at hl 2 rfl) ?_
  refine xr_putI hx hb hts iw_X4_init_4 hown hK hP hS hF 4 1 rfl (by decide) tyX4 tyX4_ok nmX4 (by decide +kernel) (Or.inr ⟨rfl, hnm, rfl⟩) rfl ⟨rfl, rfl, rfl⟩ dX4_init_16 (fun M3 H locs hF hP hS => ?_)
  refine lv_aload_n hx hb dX4_init_19 rfl (lv_at hl 0 rfl) ?_
  refine lv_iload_n hx hb dX4_init_20 rfl (lv_at hl 3 rfl) ?_
  refine xr_putI hx hb hts iw_X4_init_4 hown hK hP hS hF 4 2 rfl (by decide) tyX4 tyX4_ok nmX4 (by decide +kernel) (Or.inr ⟨rfl, hnm, rfl⟩) rfl ⟨rfl, rfl, rfl⟩ dX4_init_21 (fun M4 H locs hF hP hS => ?_)
  refine lv_aload_n hx hb dX4_init_24 rfl (lv_at hl 0 rfl) ?_
  refine lv_aload hx hb dX4_init_25 (lv_at hl 4 rfl) ?_
  refine xr_putR hx hb hts iw_X4_init_4 hown hK hP hS (v := (some a4)) hF 4 3 rfl (by decide) tyX4 tyX4_ok nmX4 (by decide +kernel) (Or.inr ⟨rfl, hnm, rfl⟩) (Or.inr ⟨_, rfl⟩) ⟨rfl, rfl, rfl⟩ dX4_init_27 (fun M5 H locs hF hP hS => ?_)
  refine lv_aload_n hx hb dX4_init_30 rfl (lv_at hl 0 rfl) ?_
  refine lv_iload hx hb dX4_init_31 (lv_at hl 5 rfl) ?_
  refine xr_putI hx hb hts iw_X4_init_4 hown hK hP hS hF 4 4 rfl (by decide) tyX4 tyX4_ok nmX4 (by decide +kernel) (Or.inr ⟨rfl, hnm, rfl⟩) rfl ⟨rfl, rfl, rfl⟩ dX4_init_33 (fun M6 H locs hF hP hS => ?_)
  cases hF
  exact W.vret hx hb hr (fun t ht hW => ⟨rfl, by rw [ht]; exact hP, hS.F ht⟩) hS.2.2 dX4_init_36 hlk
/-! X4_hasByte -/
theorem iw_X4_hasByte_4 : ∀ w ∈ u_ws RX4 TX4 9, w ∈ wsX4_hasByte := by decide +kernel
abbrev rm_X4_hasByte : Room := { frames := 0, cells := 0, slots := 0, locals := 0 }
theorem gk_X4_hasByte {M : Mm} {a0 : Nat} {a1 : Int32} {r : Int32} (h : f_X4_hasByte M a0 a1 = some r) : mK M a0 = 5 := by
  unfold f_X4_hasByte at h
  exact (if_some h).1
set_option maxHeartbeats 4000000 in
set_option maxRecDepth 100000 in
theorem ct_X4_hasByte (l : Launch) (b0 : Nat) (D : va_G) (cy : Nat → ClassId) (M : Mm) (a0 : Nat) (a1 : Int32) (r : Int32) (hF : f_X4_hasByte M a0 a1 = some r) : Met l yX4_hasByte wsX4_hasByte rm_X4_hasByte (va_Pc [.ref a0, .int a1] (Pm b0 D cy M)) (Qm b0 D cy M (some (.int r))) 0 0 (BA b0) := by
  refine ct_of [.ref a0, .int a1] (by decide) rfl ?_
  intro p e s m below meth c CX hP
  obtain ⟨hx, hb, hr, hml, hown0, hts, hlk, hK, hN, hb0, hnm⟩ := id CX
  have hown : s.vm.findClass RX4 = some m.cls := hown0
  have hS : va_S (BA b0) s.heap s.heap [] := va_S.rf
  have hl := lv_entry [.ref a0, .int a1] (n := 2) (Nat.le_of_ble_eq_true rfl)
  generalize (lg_sl [.ref a0, .int a1] ++ List.replicate (2 - (lg_sl [.ref a0, .int a1]).length) Slot.unset).toArray = ls at hl ⊢
  have hl : lv_has ls 2 [(0, .ref a0), (1, .int a1)] := hl
  unfold f_X4_hasByte at hF
  replace hF := (if_some hF).2
  refine lv_iload_n hx hb dX4_hasByte_0 rfl (lv_at hl 1 rfl) ?_
  refine lv_if_lt (tgt := 17) hx hb dX4_hasByte_1 (by decide) (fun c1 => ?_) (fun c1 => ?_)
  · replace hF := it_t hF c1
    refine lv_iconst (v := 0) hx hb dX4_hasByte_17 (by decide) ?_
    cases hF
    exact W.zret hx hb hr rfl (fun t ht hW => ⟨rfl, by rw [ht]; exact hP, hS.F ht⟩) hS.2.2 dX4_hasByte_18 hlk
  · replace hF := it_f hF c1
    refine lv_iload_n hx hb dX4_hasByte_4 rfl (lv_at hl 1 rfl) ?_
    refine lv_aload_n hx hb dX4_hasByte_5 rfl (lv_at hl 0 rfl) ?_
    refine xr_getR hx hb hts iw_X4_hasByte_4 hown hK hP hF 4 3 rfl (by decide) (by decide +kernel) ⟨rfl, rfl, rfl⟩ dX4_hasByte_6 (fun v2 hF => ?_)
    refine xr_aL hx hb hK hP hF dX4_hasByte_9 (fun v3 hF => ?_)
    refine lv_icmp_ge (tgt := 17) hx hb dX4_hasByte_10 (by decide) (fun c4 => ?_) (fun c4 => ?_)
    · replace hF := it_t hF c4
      refine lv_iconst (v := 0) hx hb dX4_hasByte_17 (by decide) ?_
      cases hF
      exact W.zret hx hb hr rfl (fun t ht hW => ⟨rfl, by rw [ht]; exact hP, hS.F ht⟩) hS.2.2 dX4_hasByte_18 hlk
    · replace hF := it_f hF c4
      refine lv_iconst (v := 1) hx hb dX4_hasByte_13 (by decide) ?_
      refine lv_goto (tgt := 18) hx hb dX4_hasByte_14 (by decide) ?_
      cases hF
      exact W.zret hx hb hr rfl (fun t ht hW => ⟨rfl, by rw [ht]; exact hP, hS.F ht⟩) hS.2.2 dX4_hasByte_18 hlk
/-! X5_init -/
theorem iw_X5_init_5 : ∀ w ∈ u_ws RX5 TX5 2, w ∈ wsX5_init := by decide +kernel
abbrev rm_X5_init : Room := { frames := 1, cells := 1, slots := 60, locals := 20 }
theorem gk_X5_init {M : Mm} {a0 : Nat} {r : Mm} (h : f_X5_init M a0 = some r) : mK M a0 = 6 := by
  unfold f_X5_init at h
  exact (if_some h).1
set_option maxHeartbeats 4000000 in
set_option maxRecDepth 100000 in
theorem ct_X5_init (l : Launch) (b0 : Nat) (D : va_G) (cy : Nat → ClassId) (M : Mm) (a0 : Nat) (M1 : Mm) (hF : f_X5_init M a0 = some M1) : Met l yX5_init wsX5_init rm_X5_init (va_Pc [.ref a0] (Pm b0 D cy M)) (Qm b0 D cy M1 none) 1 60 (BA b0) := by
  refine ct_of [.ref a0] (by decide) rfl ?_
  intro p e s m below meth c CX hP
  obtain ⟨hx, hb, hr, hml, hown0, hts, hlk, hK, hN, hb0, hnm⟩ := id CX
  have hown : s.vm.findClass RX5 = some m.cls := hown0
  have hS : va_S (BA b0) s.heap s.heap [] := va_S.rf
  have hl := lv_entry [.ref a0] (n := 1) (Nat.le_of_ble_eq_true rfl)
  generalize (lg_sl [.ref a0] ++ List.replicate (1 - (lg_sl [.ref a0]).length) Slot.unset).toArray = ls at hl ⊢
  have hl : lv_has ls 1 [(0, .ref a0)] := hl
  unfold f_X5_init at hF
  replace hF := (if_some hF).2
  refine lv_aload_n hx hb dX5_init_0 rfl (lv_at hl 0 rfl) ?_
  refine W.objInit hx hb hown (hts (.methodLink RX5 3 objectInit) (by decide +kernel)) (hts (.instanceMethod objectInit) (by decide +kernel)) (hts (.code objectInit ⟨#[0xb1]⟩ 1 none) (by decide +kernel)) rfl (by rw [hml]; exact hl.1) rfl dX5_init_1 (Nat.le_of_ble_eq_true rfl) (Nat.le_of_ble_eq_true rfl) ?_
  refine W.eq (g2 := F0 m 4 ls []) rfl ?_
  refine lv_aload_n hx hb dX5_init_4 rfl (lv_at hl 0 rfl) ?_
  refine lv_bipush (v := 60) hx hb dX5_init_5 (by decide) ?_
  refine xr_newA hx hb hts hK hP hS hb0 hF (by decide +kernel) (Or.inl ⟨rfl, rfl⟩) (by decide) (Nat.le_of_ble_eq_true rfl) (Nat.le_of_ble_eq_true rfl) dX5_init_7 (fun M1 H hF hP hS => ?_)
  refine W.cs (cells' := 1) (slots' := 60) rfl rfl ?_
  refine xr_putR hx hb hts iw_X5_init_5 hown hK hP hS (v := (some (mS M))) hF 5 0 rfl (by decide) tyX5 tyX5_ok nmX5 (by decide +kernel) (Or.inr ⟨rfl, hnm, rfl⟩) (Or.inr ⟨_, rfl⟩) ⟨rfl, rfl, rfl⟩ dX5_init_9 (fun M2 H locs hF hP hS => ?_)
  cases hF
  exact W.vret hx hb hr (fun t ht hW => ⟨rfl, by rw [ht]; exact hP, hS.F ht⟩) hS.2.2 dX5_init_12 hlk
/-! J7_fill_53178 -/
abbrev rm_J7_fill_53178 : Room := { frames := 0, cells := 0, slots := 0, locals := 0 }
set_option maxHeartbeats 4000000 in
set_option maxRecDepth 100000 in
theorem nd_J7_fill_53178_5 {p : Program} {l : Launch} {e : Env} {s : State} {m : MethodId} {args : Array Value} {below : List Frame} {meth : Method} {c : Code} {b0 : Nat} {D : va_G} {cy : Nat → ClassId} {M1 : Mm} (CX : Cx yJ7_fill_53178 cJ7_fill_53178 4 none wsJ7_fill_53178 b0 D cy p s m args meth c) : ∀ (fu : Nat), ∀ (M : Mm) (x0 : Nat) (x1 : Int32) (x2 : Int32) (x3 : Int32) (H : Heap) (locs : List Loc) (ls : Array Slot), f_J7_fill_53178_L5 fu M x0 x1 x2 x3 = some M1 → Hp b0 D cy M H → va_S (BA b0) s.heap H locs → lv_has ls 4 [(0, .ref x0), (1, .int x1), (2, .int x2), (3, .int x3)] → W p l e rm_J7_fill_53178 s m args below meth c H locs 0 0 (MQ below (Qm b0 D cy M1 none) args s 0 0 (BA b0)) (F0 m 5 ls []) := by
  obtain ⟨hx, hb, hr, hml, hown0, hts, hlk, hK, hN, hb0, hnm⟩ := id CX
  have hown : s.vm.findClass RJ7 = some m.cls := hown0
  intro fu
  induction fu with
  | zero =>
    intro M x0 x1 x2 x3 H locs ls hF hP hS hl
    rw [f_J7_fill_53178_L5] at hF
    cases hF
  | succ fu ih =>
    intro M x0 x1 x2 x3 H locs ls hF hP hS hl
    rw [f_J7_fill_53178_L5] at hF
    refine lv_iload_n hx hb dJ7_fill_53178_5 rfl (lv_at hl 2 rfl) ?_
    refine lv_iload_n hx hb dJ7_fill_53178_6 rfl (lv_at hl 3 rfl) ?_
    refine lv_icmp_ge (tgt := 20) hx hb dJ7_fill_53178_7 (by decide) (fun c1 => ?_) (fun c1 => ?_)
    · replace hF := it_t hF c1
      cases hF
      exact W.vret hx hb hr (fun t ht hW => ⟨rfl, by rw [ht]; exact hP, hS.F ht⟩) hS.2.2 dJ7_fill_53178_20 hlk
    · replace hF := it_f hF c1
      refine lv_aload_n hx hb dJ7_fill_53178_10 rfl (lv_at hl 0 rfl) ?_
      refine lv_iload_n hx hb dJ7_fill_53178_11 rfl (lv_at hl 2 rfl) ?_
      refine lv_iload_n hx hb dJ7_fill_53178_12 rfl (lv_at hl 1 rfl) ?_
      refine xr_wI hx hb hK hP hS hF dJ7_fill_53178_13 (fun M2 H locs hF hP hS => ?_)
      refine lv_iinc (v := x2 + 1) (lv' := [(2, .int (x2 + 1)), (0, .ref x0), (1, .int x1), (3, .int x3)]) hx hb dJ7_fill_53178_14 hl (k := 2) rfl (by rfl) (by decide) rfl (fun ls hl => ?_)
      refine lv_goto (tgt := 5) hx hb dJ7_fill_53178_17 (by decide) ?_
      exact ih _ _ _ _ _ _ _ _ hF hP hS (lv_sub hl [1, 2, 0, 3] rfl)
set_option maxHeartbeats 4000000 in
set_option maxRecDepth 100000 in
theorem ct_J7_fill_53178 (l : Launch) (b0 : Nat) (D : va_G) (cy : Nat → ClassId) (M : Mm) (a0 : Nat) (a1 : Int32) (M1 : Mm) (hF : f_J7_fill_53178 M a0 a1 = some M1) : Met l yJ7_fill_53178 wsJ7_fill_53178 rm_J7_fill_53178 (va_Pc [.ref a0, .int a1] (Pm b0 D cy M)) (Qm b0 D cy M1 none) 0 0 (BA b0) := by
  refine ct_of [.ref a0, .int a1] (by decide) rfl ?_
  intro p e s m below meth c CX hP
  obtain ⟨hx, hb, hr, hml, hown0, hts, hlk, hK, hN, hb0, hnm⟩ := id CX
  have hown : s.vm.findClass RJ7 = some m.cls := hown0
  have hS : va_S (BA b0) s.heap s.heap [] := va_S.rf
  have hl := lv_entry [.ref a0, .int a1] (n := 4) (Nat.le_of_ble_eq_true rfl)
  generalize (lg_sl [.ref a0, .int a1] ++ List.replicate (4 - (lg_sl [.ref a0, .int a1]).length) Slot.unset).toArray = ls at hl ⊢
  have hl : lv_has ls 4 [(0, .ref a0), (1, .int a1)] := hl
  unfold f_J7_fill_53178 at hF
  refine lv_iconst (v := 0) hx hb dJ7_fill_53178_0 (by decide) ?_
  refine lv_istore_n (lv' := [(2, .int 0), (0, .ref a0), (1, .int a1)]) hx hb dJ7_fill_53178_1 rfl hl (by decide) (by first | rfl | simp [cat_rf]) (fun ls hl => ?_)
  refine lv_aload_n hx hb dJ7_fill_53178_2 rfl (lv_at hl 1 rfl) ?_
  refine xr_aL hx hb hK hP hF dJ7_fill_53178_3 (fun v1 hF => ?_)
  refine lv_istore_n (lv' := [(3, .int v1), (2, .int 0), (0, .ref a0), (1, .int a1)]) hx hb dJ7_fill_53178_4 rfl hl (by decide) (by first | rfl | simp [cat_rf]) (fun ls hl => ?_)
  exact nd_J7_fill_53178_5 CX _ _ _ _ _ _ _ _ _ hF hP hS (lv_sub hl [2, 3, 1, 0] rfl)
/-! X5_write -/
theorem iw_X5_write_5 : ∀ w ∈ u_ws RX5 TX5 2, w ∈ wsX5_write := by decide +kernel
abbrev rm_X5_write : Room := { frames := 1, cells := 0, slots := 0, locals := 20 }
set_option maxHeartbeats 4000000 in
set_option maxRecDepth 100000 in
theorem nd_X5_write_5 {p : Program} {l : Launch} {e : Env} {s : State} {m : MethodId} {args : Array Value} {below : List Frame} {meth : Method} {c : Code} {b0 : Nat} {D : va_G} {cy : Nat → ClassId} {M1 : Mm} (CX : Cx yX5_write cX5_write 6 none wsX5_write b0 D cy p s m args meth c) : ∀ (fu : Nat), ∀ (M : Mm) (x0 : Nat) (x1 : Int64) (x4 : Int32) (H : Heap) (locs : List Loc) (ls : Array Slot), f_X5_write_L5 fu M x0 x1 x4 = some M1 → Hp b0 D cy M H → va_S (BA b0) s.heap H locs → lv_has ls 6 [(0, .ref x0), (1, .long x1), (4, .int x4)] → W p l e rm_X5_write s m args below meth c H locs 0 0 (MQ below (Qm b0 D cy M1 none) args s 0 0 (BA b0)) (F0 m 5 ls []) := by
  obtain ⟨hx, hb, hr, hml, hown0, hts, hlk, hK, hN, hb0, hnm⟩ := id CX
  have hown : s.vm.findClass RX5 = some m.cls := hown0
  intro fu
  induction fu with
  | zero =>
    intro M x0 x1 x4 H locs ls hF hP hS hl
    rw [f_X5_write_L5] at hF
    cases hF
  | succ fu ih =>
    intro M x0 x1 x4 H locs ls hF hP hS hl
    rw [f_X5_write_L5] at hF
    refine lv_iload hx hb dX5_write_5 (lv_at hl 2 rfl) ?_
    refine lv_if_lt (tgt := 79) hx hb dX5_write_7 (by decide) (fun c1 => ?_) (fun c1 => ?_)
    · replace hF := it_t hF c1
      cases hF
      exact W.vret hx hb hr (fun t ht hW => ⟨rfl, by rw [ht]; exact hP, hS.F ht⟩) hS.2.2 dX5_write_79 hlk
    · replace hF := it_f hF c1
      refine lv_aload_n hx hb dX5_write_10 rfl (lv_at hl 0 rfl) ?_
      refine xr_getI hx hb hts iw_X5_write_5 hown hK hP hF 5 1 rfl (by decide) (by decide +kernel) ⟨rfl, rfl, rfl⟩ dX5_write_11 (fun v2 hF => ?_)
      refine lv_iconst (v := 1) hx hb dX5_write_14 (by decide) ?_
      refine lv_iadd hx hb dX5_write_15 ?_
      obtain ⟨v4, h3, hF⟩ := ob_some hF
      refine xr_call1 (va_runSN (As := [.int (v2 + 1)]) (rest := []) ⟨hx, hb, hml, hown, hts⟩ (ct_X10_wholeBytes l b0 D cy M (v2 + 1) v4 h3) ⟨va_cnB 1 hts gX5_write_X10_wholeBytes_n29 rfl rfl rfl (hN.1 (RX5, 29, yX10_wholeBytes, "HeaderLine") (by decide +kernel)) (hts (.initialized RX10) (by decide +kernel)) (by decide +kernel) ⟨Nat.le_of_ble_eq_true rfl, Nat.le_of_ble_eq_true rfl⟩, hts (.static yX10_wholeBytes) (by decide +kernel), trivial⟩ (xp_S hP hK hN hS hb0) rfl rfl hl.1 rfl (lv_room (Nat.le_of_ble_eq_true rfl)) dX5_write_16 ⟨Nat.le_of_ble_eq_true rfl, Nat.le_of_ble_eq_true rfl⟩) hS (fun H locs hP hS => ?_)
      refine lv_aload_n hx hb dX5_write_19 rfl (lv_at hl 0 rfl) ?_
      refine xr_getR hx hb hts iw_X5_write_5 hown hK hP hF 5 0 rfl (by decide) (by decide +kernel) ⟨rfl, rfl, rfl⟩ dX5_write_20 (fun v5 hF => ?_)
      refine xr_aL hx hb hK hP hF dX5_write_23 (fun v6 hF => ?_)
      refine lv_icmp_gt (tgt := 79) hx hb dX5_write_24 (by decide) (fun c7 => ?_) (fun c7 => ?_)
      · replace hF := it_t hF c7
        cases hF
        exact W.vret hx hb hr (fun t ht hW => ⟨rfl, by rw [ht]; exact hP, hS.F ht⟩) hS.2.2 dX5_write_79 hlk
      · replace hF := it_f hF c7
        refine lv_lload_n hx hb dX5_write_27 rfl (lv_at hl 1 rfl) ?_
        refine lv_iload hx hb dX5_write_28 (lv_at hl 2 rfl) ?_
        refine lv_lshr hx hb dX5_write_30 rfl ?_
        refine lv_l2i hx hb dX5_write_31 rfl ?_
        refine lv_iconst (v := 1) hx hb dX5_write_32 (by decide) ?_
        refine lv_iand hx hb dX5_write_33 ?_
        refine lv_istore (lv' := [(5, .int (((x1 >>> (x4.toInt64 &&& 63)).toInt32) &&& 1)), (0, .ref x0), (1, .long x1), (4, .int x4)]) hx hb dX5_write_34 hl (by decide) (by first | rfl | simp [cat_rf]) (fun ls hl => ?_)
        refine lv_aload_n hx hb dX5_write_36 rfl (lv_at hl 1 rfl) ?_
        refine xr_getR hx hb hts iw_X5_write_5 hown hK hP hF 5 0 rfl (by decide) (by decide +kernel) ⟨rfl, rfl, rfl⟩ dX5_write_37 (fun v8 hF => ?_)
        refine lv_aload_n hx hb dX5_write_40 rfl (lv_at hl 1 rfl) ?_
        refine xr_getI hx hb hts iw_X5_write_5 hown hK hP hF 5 1 rfl (by decide) (by decide +kernel) ⟨rfl, rfl, rfl⟩ dX5_write_41 (fun v9 hF => ?_)
        refine lv_iconst (v := 3) hx hb dX5_write_44 (by decide) ?_
        refine lv_ishr hx hb dX5_write_45 ?_
        refine lv_dup2_11 hx hb dX5_write_46 rfl rfl ?_
        refine xr_aI hx hb hK hP hF dX5_write_47 (fun v10 hF => ?_)
        refine lv_iload hx hb dX5_write_48 (lv_at hl 0 rfl) ?_
        refine lv_bipush (v := 7) hx hb dX5_write_50 (by decide) ?_
        refine lv_aload_n hx hb dX5_write_52 rfl (lv_at hl 1 rfl) ?_
        refine xr_getI hx hb hts iw_X5_write_5 hown hK hP hF 5 1 rfl (by decide) (by decide +kernel) ⟨rfl, rfl, rfl⟩ dX5_write_53 (fun v11 hF => ?_)
        refine lv_bipush (v := 7) hx hb dX5_write_56 (by decide) ?_
        refine lv_iand hx hb dX5_write_58 ?_
        refine lv_isub hx hb dX5_write_59 ?_
        refine lv_ishl hx hb dX5_write_60 ?_
        refine lv_ior hx hb dX5_write_61 ?_
        refine xr_wI hx hb hK hP hS hF dX5_write_62 (fun M12 H locs hF hP hS => ?_)
        refine lv_aload_n hx hb dX5_write_63 rfl (lv_at hl 1 rfl) ?_
        refine lv_dup hx hb dX5_write_64 rfl ?_
        refine xr_getI hx hb hts iw_X5_write_5 hown hK hP hF 5 1 rfl (by decide) (by decide +kernel) ⟨rfl, rfl, rfl⟩ dX5_write_65 (fun v13 hF => ?_)
        refine lv_iconst (v := 1) hx hb dX5_write_68 (by decide) ?_
        refine lv_iadd hx hb dX5_write_69 ?_
        refine xr_putI hx hb hts iw_X5_write_5 hown hK hP hS hF 5 1 rfl (by decide) tyX5 tyX5_ok nmX5 (by decide +kernel) (Or.inl rfl) rfl ⟨rfl, rfl, rfl⟩ dX5_write_70 (fun M14 H locs hF hP hS => ?_)
        refine lv_iinc (v := x4 + (-1)) (lv' := [(4, .int (x4 + (-1))), (5, .int (((x1 >>> (x4.toInt64 &&& 63)).toInt32) &&& 1)), (0, .ref x0), (1, .long x1)]) hx hb dX5_write_73 hl (k := 3) rfl (by rfl) (by decide) rfl (fun ls hl => ?_)
        refine lv_goto (tgt := 5) hx hb dX5_write_76 (by decide) ?_
        exact ih _ _ _ _ _ _ _ hF hP hS (lv_sub hl [2, 3, 0] rfl)
theorem gk_X5_write {M : Mm} {a0 : Nat} {a1 : Int64} {a3 : Int32} {r : Mm} (h : f_X5_write M a0 a1 a3 = some r) : mK M a0 = 6 := by
  unfold f_X5_write at h
  exact (if_some h).1
set_option maxHeartbeats 4000000 in
set_option maxRecDepth 100000 in
theorem ct_X5_write (l : Launch) (b0 : Nat) (D : va_G) (cy : Nat → ClassId) (M : Mm) (a0 : Nat) (a1 : Int64) (a3 : Int32) (M1 : Mm) (hF : f_X5_write M a0 a1 a3 = some M1) : Met l yX5_write wsX5_write rm_X5_write (va_Pc [.ref a0, .long a1, .int a3] (Pm b0 D cy M)) (Qm b0 D cy M1 none) 0 0 (BA b0) := by
  refine ct_of [.ref a0, .long a1, .int a3] (by decide) rfl ?_
  intro p e s m below meth c CX hP
  obtain ⟨hx, hb, hr, hml, hown0, hts, hlk, hK, hN, hb0, hnm⟩ := id CX
  have hown : s.vm.findClass RX5 = some m.cls := hown0
  have hS : va_S (BA b0) s.heap s.heap [] := va_S.rf
  have hl := lv_entry [.ref a0, .long a1, .int a3] (n := 6) (Nat.le_of_ble_eq_true rfl)
  generalize (lg_sl [.ref a0, .long a1, .int a3] ++ List.replicate (6 - (lg_sl [.ref a0, .long a1, .int a3]).length) Slot.unset).toArray = ls at hl ⊢
  have hl : lv_has ls 6 [(0, .ref a0), (1, .long a1), (3, .int a3)] := hl
  unfold f_X5_write at hF
  replace hF := (if_some hF).2
  refine lv_iload_n hx hb dX5_write_0 rfl (lv_at hl 2 rfl) ?_
  refine lv_iconst (v := 1) hx hb dX5_write_1 (by decide) ?_
  refine lv_isub hx hb dX5_write_2 ?_
  refine lv_istore (lv' := [(4, .int (a3 - 1)), (0, .ref a0), (1, .long a1), (3, .int a3)]) hx hb dX5_write_3 hl (by decide) (by first | rfl | simp [cat_rf]) (fun ls hl => ?_)
  exact nd_X5_write_5 CX _ _ _ _ _ _ _ _ hF hP hS (lv_sub hl [1, 2, 0] rfl)
/-! X5_begin -/
theorem iw_X5_begin_5 : ∀ w ∈ u_ws RX5 TX5 2, w ∈ wsX5_begin := by decide +kernel
abbrev rm_X5_begin : Room := { frames := 2, cells := 0, slots := 0, locals := 45 }
theorem gk_X5_begin {M : Mm} {a0 : Nat} {a1 : Int32} {a2 : Int32} {a3 : Int32} {r : Mm} (h : f_X5_begin M a0 a1 a2 a3 = some r) : mK M a0 = 6 := by
  unfold f_X5_begin at h
  exact (if_some h).1
set_option maxHeartbeats 4000000 in
set_option maxRecDepth 100000 in
theorem ct_X5_begin (l : Launch) (b0 : Nat) (D : va_G) (cy : Nat → ClassId) (M : Mm) (a0 : Nat) (a1 : Int32) (a2 : Int32) (a3 : Int32) (M1 : Mm) (hF : f_X5_begin M a0 a1 a2 a3 = some M1) : Met l yX5_begin wsX5_begin rm_X5_begin (va_Pc [.ref a0, .int a1, .int a2, .int a3] (Pm b0 D cy M)) (Qm b0 D cy M1 none) 0 0 (BA b0) := by
  refine ct_of [.ref a0, .int a1, .int a2, .int a3] (by decide) rfl ?_
  intro p e s m below meth c CX hP
  obtain ⟨hx, hb, hr, hml, hown0, hts, hlk, hK, hN, hb0, hnm⟩ := id CX
  have hown : s.vm.findClass RX5 = some m.cls := hown0
  have hS : va_S (BA b0) s.heap s.heap [] := va_S.rf
  have hl := lv_entry [.ref a0, .int a1, .int a2, .int a3] (n := 4) (Nat.le_of_ble_eq_true rfl)
  generalize (lg_sl [.ref a0, .int a1, .int a2, .int a3] ++ List.replicate (4 - (lg_sl [.ref a0, .int a1, .int a2, .int a3]).length) Slot.unset).toArray = ls at hl ⊢
  have hl : lv_has ls 4 [(0, .ref a0), (1, .int a1), (2, .int a2), (3, .int a3)] := hl
  unfold f_X5_begin at hF
  replace hF := (if_some hF).2
  refine lv_aload_n hx hb dX5_begin_0 rfl (lv_at hl 0 rfl) ?_
  refine xr_getR hx hb hts iw_X5_begin_5 hown hK hP hF 5 0 rfl (by decide) (by decide +kernel) ⟨rfl, rfl, rfl⟩ dX5_begin_1 (fun v1 hF => ?_)
  refine lv_iconst (v := 0) hx hb dX5_begin_4 (by decide) ?_
  obtain ⟨M3, h2, hF⟩ := ob_some hF
  refine xr_call0 (va_runS (As := [.ref v1, .int 0]) (rest := []) ⟨hx, hb, hml, hown, hts⟩ (ct_J7_fill_53178 l b0 D cy M v1 0 M3 h2) (va_cwS 2 hts gX5_begin_J7_fill_53178 rfl rfl rfl (by decide +kernel) ⟨Nat.le_of_ble_eq_true rfl, Nat.le_of_ble_eq_true rfl⟩) (xp_S hP hK hN hS hb0) rfl rfl hl.1 rfl (lv_room (Nat.le_of_ble_eq_true rfl)) dX5_begin_5 ⟨Nat.le_of_ble_eq_true rfl, Nat.le_of_ble_eq_true rfl⟩) hS (fun H locs hP hS => ?_)
  refine lv_aload_n hx hb dX5_begin_8 rfl (lv_at hl 0 rfl) ?_
  refine lv_iconst (v := 0) hx hb dX5_begin_9 (by decide) ?_
  refine xr_putI hx hb hts iw_X5_begin_5 hown hK hP hS hF 5 1 rfl (by decide) tyX5 tyX5_ok nmX5 (by decide +kernel) (Or.inl rfl) rfl ⟨rfl, rfl, rfl⟩ dX5_begin_10 (fun M4 H locs hF hP hS => ?_)
  refine lv_aload_n hx hb dX5_begin_13 rfl (lv_at hl 0 rfl) ?_
  refine lv_iload_n hx hb dX5_begin_14 rfl (lv_at hl 1 rfl) ?_
  refine lv_i2l hx hb dX5_begin_15 rfl ?_
  refine lv_iconst (v := 3) hx hb dX5_begin_16 (by decide) ?_
  obtain ⟨M6, h5, hF⟩ := ob_some hF
  refine xr_call0 (va_runV (As := [.long a1.toInt64, .int 3]) (rest := []) ⟨hx, hb, hml, hown, hts⟩ (ct_X5_write l b0 D cy M4 a0 a1.toInt64 3 M6 h5) (cwV 2 hts gX5_begin_X5_write rfl rfl rfl (by decide +kernel) ⟨Nat.le_of_ble_eq_true rfl, Nat.le_of_ble_eq_true rfl⟩) (xp_V hP hK hN hS hb0 5 rfl (gk_X5_write h5)) rfl rfl hl.1 rfl (lv_room (Nat.le_of_ble_eq_true rfl)) dX5_begin_17 ⟨Nat.le_of_ble_eq_true rfl, Nat.le_of_ble_eq_true rfl⟩) hS (fun H locs hP hS => ?_)
  refine lv_aload_n hx hb dX5_begin_20 rfl (lv_at hl 0 rfl) ?_
  refine lv_iload_n hx hb dX5_begin_21 rfl (lv_at hl 2 rfl) ?_
  refine lv_i2l hx hb dX5_begin_22 rfl ?_
  refine lv_iconst (v := 3) hx hb dX5_begin_23 (by decide) ?_
  obtain ⟨M8, h7, hF⟩ := ob_some hF
  refine xr_call0 (va_runV (As := [.long a2.toInt64, .int 3]) (rest := []) ⟨hx, hb, hml, hown, hts⟩ (ct_X5_write l b0 D cy M6 a0 a2.toInt64 3 M8 h7) (cwV 2 hts gX5_begin_X5_write rfl rfl rfl (by decide +kernel) ⟨Nat.le_of_ble_eq_true rfl, Nat.le_of_ble_eq_true rfl⟩) (xp_V hP hK hN hS hb0 5 rfl (gk_X5_write h7)) rfl rfl hl.1 rfl (lv_room (Nat.le_of_ble_eq_true rfl)) dX5_begin_24 ⟨Nat.le_of_ble_eq_true rfl, Nat.le_of_ble_eq_true rfl⟩) hS (fun H locs hP hS => ?_)
  refine lv_aload_n hx hb dX5_begin_27 rfl (lv_at hl 0 rfl) ?_
  refine lv_iload_n hx hb dX5_begin_28 rfl (lv_at hl 3 rfl) ?_
  refine lv_i2l hx hb dX5_begin_29 rfl ?_
  refine lv_bipush (v := 16) hx hb dX5_begin_30 (by decide) ?_
  obtain ⟨M10, h9, hF⟩ := ob_some hF
  refine xr_call0 (va_runV (As := [.long a3.toInt64, .int 16]) (rest := []) ⟨hx, hb, hml, hown, hts⟩ (ct_X5_write l b0 D cy M8 a0 a3.toInt64 16 M10 h9) (cwV 2 hts gX5_begin_X5_write rfl rfl rfl (by decide +kernel) ⟨Nat.le_of_ble_eq_true rfl, Nat.le_of_ble_eq_true rfl⟩) (xp_V hP hK hN hS hb0 5 rfl (gk_X5_write h9)) rfl rfl hl.1 rfl (lv_room (Nat.le_of_ble_eq_true rfl)) dX5_begin_32 ⟨Nat.le_of_ble_eq_true rfl, Nat.le_of_ble_eq_true rfl⟩) hS (fun H locs hP hS => ?_)
  cases hF
  exact W.vret hx hb hr (fun t ht hW => ⟨rfl, by rw [ht]; exact hP, hS.F ht⟩) hS.2.2 dX5_begin_35 hlk
/-! J7_copyOf_59c91 -/
abbrev rm_J7_copyOf_59c91 : Room := { frames := 1, cells := 1, slots := 64, locals := 50 }
set_option maxHeartbeats 4000000 in
set_option maxRecDepth 100000 in
theorem ct_J7_copyOf_59c91 (l : Launch) (b0 : Nat) (D : va_G) (cy : Nat → ClassId) (M : Mm) (a0 : Nat) (a1 : Int32) (M1 : Mm) (r : Nat) (hF : f_J7_copyOf_59c91 M a0 a1 = some (M1, r)) : Met l yJ7_copyOf_59c91 wsJ7_copyOf_59c91 rm_J7_copyOf_59c91 (va_Pc [.ref a0, .int a1] (Pm b0 D cy M)) (Qm b0 D cy M1 (some (.ref r))) 1 64 (BA b0) := by
  refine ct_of [.ref a0, .int a1] (by decide) rfl ?_
  intro p e s m below meth c CX hP
  obtain ⟨hx, hb, hr, hml, hown0, hts, hlk, hK, hN, hb0, hnm⟩ := id CX
  have hown : s.vm.findClass RJ7 = some m.cls := hown0
  have hS : va_S (BA b0) s.heap s.heap [] := va_S.rf
  have hl := lv_entry [.ref a0, .int a1] (n := 3) (Nat.le_of_ble_eq_true rfl)
  generalize (lg_sl [.ref a0, .int a1] ++ List.replicate (3 - (lg_sl [.ref a0, .int a1]).length) Slot.unset).toArray = ls at hl ⊢
  have hl : lv_has ls 3 [(0, .ref a0), (1, .int a1)] := hl
  unfold f_J7_copyOf_59c91 at hF
  refine lv_iload_n hx hb dJ7_copyOf_59c91_0 rfl (lv_at hl 1 rfl) ?_
  refine lv_aload_n hx hb dJ7_copyOf_59c91_1 rfl (lv_at hl 0 rfl) ?_
  refine xr_aL hx hb hK hP hF dJ7_copyOf_59c91_2 (fun v1 hF => ?_)
  refine lv_icmp_ne (tgt := 14) hx hb dJ7_copyOf_59c91_3 (by decide) (fun c2 => ?_) (fun c2 => ?_)
  · replace hF := it_f hF c2
    refine lv_iload_n hx hb dJ7_copyOf_59c91_14 rfl (lv_at hl 1 rfl) ?_
    refine xr_newA hx hb hts hK hP hS hb0 hF (by decide +kernel) (Or.inl ⟨rfl, rfl⟩) (by decide) (Nat.le_of_ble_eq_true rfl) (Nat.le_of_ble_eq_true rfl) dJ7_copyOf_59c91_15 (fun M3 H hF hP hS => ?_)
    refine W.cs (cells' := 1) (slots' := 64) rfl rfl ?_
    refine lv_astore_n (lv' := [(2, .ref (mS M)), (0, .ref a0), (1, .int a1)]) hx hb dJ7_copyOf_59c91_17 rfl hl (by decide) (by first | rfl | simp [cat_rf]) (fun ls hl => ?_)
    refine lv_aload_n hx hb dJ7_copyOf_59c91_18 rfl (lv_at hl 1 rfl) ?_
    refine lv_iconst (v := 0) hx hb dJ7_copyOf_59c91_19 (by decide) ?_
    refine lv_aload_n hx hb dJ7_copyOf_59c91_20 rfl (lv_at hl 0 rfl) ?_
    refine lv_iconst (v := 0) hx hb dJ7_copyOf_59c91_21 (by decide) ?_
    refine lv_aload_n hx hb dJ7_copyOf_59c91_22 rfl (lv_at hl 1 rfl) ?_
    refine xr_aL hx hb hK hP hF dJ7_copyOf_59c91_23 (fun v4 hF => ?_)
    refine lv_iload_n hx hb dJ7_copyOf_59c91_24 rfl (lv_at hl 2 rfl) ?_
    refine va_mmin hx hb (hml.trans hl.1.symm) hown (hts (.methodLink RJ7 304 Lib.Math.min.name) (by decide +kernel)) (hts (.static Lib.Math.min.name) (by decide +kernel)) (hts (.initialized "java/lang/Math") (by decide +kernel)) (hts (.code Lib.Math.min.name Lib.Math.min.code 2 (some .int)) (by decide +kernel)) (Nat.le_of_ble_eq_true rfl) (Nat.le_of_ble_eq_true rfl) (Nat.le_of_ble_eq_true rfl) (Nat.le_of_ble_eq_true rfl) dJ7_copyOf_59c91_25 ?_
    refine xr_cpI hx hb (hml.trans hl.1.symm) hts hown hK hP hS hF (by decide +kernel) (by decide +kernel) (Nat.le_of_ble_eq_true rfl) (Nat.le_of_ble_eq_true rfl) dJ7_copyOf_59c91_28 (fun M5 H locs hF hP hS => ?_)
    refine lv_aload_n hx hb dJ7_copyOf_59c91_31 rfl (lv_at hl 0 rfl) ?_
    cases hF
    exact W.aret hx hb hr (Or.inr ⟨_, rfl⟩) (Or.inr ⟨_, rfl⟩) (fun t ht hW => ⟨rfl, by rw [ht]; exact hP, hS.F ht⟩) hS.2.2 dJ7_copyOf_59c91_32 hlk
  · replace hF := it_t hF c2
    refine lv_aload_n hx hb dJ7_copyOf_59c91_6 rfl (lv_at hl 0 rfl) ?_
    refine xr_clI hx hb (hml.trans hl.1.symm) hts hown hK hN hP hS hb0 hF (by decide +kernel) (by decide +kernel) (Nat.le_of_ble_eq_true rfl) (Nat.le_of_ble_eq_true rfl) (Nat.le_of_ble_eq_true rfl) (Nat.le_of_ble_eq_true rfl) dJ7_copyOf_59c91_7 (fun M6 H hF hkd hP hS => ?_)
    refine W.cs (cells' := 1) (slots' := 64) rfl rfl ?_
    refine xr_castI hx hb hts hown hK hP (by assumption) (by decide +kernel) dJ7_copyOf_59c91_10 ?_
    cases hF
    exact W.aret hx hb hr (Or.inr ⟨_, rfl⟩) (Or.inr ⟨_, rfl⟩) (fun t ht hW => ⟨rfl, by rw [ht]; exact hP, hS.F ht⟩) hS.2.2 dJ7_copyOf_59c91_13 hlk
/-! X5_finished -/
theorem iw_X5_finished_5 : ∀ w ∈ u_ws RX5 TX5 2, w ∈ wsX5_finished := by decide +kernel
abbrev rm_X5_finished : Room := { frames := 2, cells := 1, slots := 64, locals := 72 }
theorem gk_X5_finished {M : Mm} {a0 : Nat} {a1 : Int32} {r : (Mm × Nat)} (h : f_X5_finished M a0 a1 = some r) : mK M a0 = 6 := by
  unfold f_X5_finished at h
  exact (if_some h).1
set_option maxHeartbeats 4000000 in
set_option maxRecDepth 100000 in
theorem ct_X5_finished (l : Launch) (b0 : Nat) (D : va_G) (cy : Nat → ClassId) (M : Mm) (a0 : Nat) (a1 : Int32) (M1 : Mm) (r : Nat) (hF : f_X5_finished M a0 a1 = some (M1, r)) : Met l yX5_finished wsX5_finished rm_X5_finished (va_Pc [.ref a0, .int a1] (Pm b0 D cy M)) (Qm b0 D cy M1 (some (.ref r))) 1 64 (BA b0) := by
  refine ct_of [.ref a0, .int a1] (by decide) rfl ?_
  intro p e s m below meth c CX hP
  obtain ⟨hx, hb, hr, hml, hown0, hts, hlk, hK, hN, hb0, hnm⟩ := id CX
  have hown : s.vm.findClass RX5 = some m.cls := hown0
  have hS : va_S (BA b0) s.heap s.heap [] := va_S.rf
  have hl := lv_entry [.ref a0, .int a1] (n := 4) (Nat.le_of_ble_eq_true rfl)
  generalize (lg_sl [.ref a0, .int a1] ++ List.replicate (4 - (lg_sl [.ref a0, .int a1]).length) Slot.unset).toArray = ls at hl ⊢
  have hl : lv_has ls 4 [(0, .ref a0), (1, .int a1)] := hl
  unfold f_X5_finished at hF
  replace hF := (if_some hF).2
  refine lv_aload_n hx hb dX5_finished_0 rfl (lv_at hl 0 rfl) ?_
  refine xr_getI hx hb hts iw_X5_finished_5 hown hK hP hF 5 1 rfl (by decide) (by decide +kernel) ⟨rfl, rfl, rfl⟩ dX5_finished_1 (fun v1 hF => ?_)
  obtain ⟨v3, h2, hF⟩ := ob_some hF
  refine xr_call1 (va_runSN (As := [.int v1]) (rest := []) ⟨hx, hb, hml, hown, hts⟩ (ct_X10_wholeBytes l b0 D cy M v1 v3 h2) ⟨va_cnB 1 hts gX5_finished_X10_wholeBytes_n29 rfl rfl rfl (hN.1 (RX5, 29, yX10_wholeBytes, "HeaderLine") (by decide +kernel)) (hts (.initialized RX10) (by decide +kernel)) (by decide +kernel) ⟨Nat.le_of_ble_eq_true rfl, Nat.le_of_ble_eq_true rfl⟩, hts (.static yX10_wholeBytes) (by decide +kernel), trivial⟩ (xp_S hP hK hN hS hb0) rfl rfl hl.1 rfl (lv_room (Nat.le_of_ble_eq_true rfl)) dX5_finished_4 ⟨Nat.le_of_ble_eq_true rfl, Nat.le_of_ble_eq_true rfl⟩) hS (fun H locs hP hS => ?_)
  refine lv_istore_n (lv' := [(2, .int v3), (0, .ref a0), (1, .int a1)]) hx hb dX5_finished_7 rfl hl (by decide) (by first | rfl | simp [cat_rf]) (fun ls hl => ?_)
  refine lv_iload_n hx hb dX5_finished_8 rfl (lv_at hl 2 rfl) ?_
  refine lv_if_ne (tgt := 21) hx hb dX5_finished_9 (by decide) (fun c4 => ?_) (fun c4 => ?_)
  · replace hF := it_f hF c4
    refine lv_aload_n hx hb dX5_finished_21 rfl (lv_at hl 1 rfl) ?_
    refine xr_getR hx hb hts iw_X5_finished_5 hown hK hP hF 5 0 rfl (by decide) (by decide +kernel) ⟨rfl, rfl, rfl⟩ dX5_finished_22 (fun v5 hF => ?_)
    refine lv_iload_n hx hb dX5_finished_25 rfl (lv_at hl 0 rfl) ?_
    refine lv_iconst (v := 1) hx hb dX5_finished_26 (by decide) ?_
    refine lv_iadd hx hb dX5_finished_27 ?_
    obtain ⟨M7, v8, h6, hF⟩ := ob2_some hF
    refine xr_call1 (va_runS (As := [.ref v5, .int (v3 + 1)]) (rest := []) ⟨hx, hb, hml, hown, hts⟩ (ct_J7_copyOf_59c91 l b0 D cy M v5 (v3 + 1) M7 v8 h6) (va_cwS 2 hts gX5_finished_J7_copyOf_59c91 rfl rfl rfl (by decide +kernel) ⟨Nat.le_of_ble_eq_true rfl, Nat.le_of_ble_eq_true rfl⟩) (xp_S hP hK hN hS hb0) rfl rfl hl.1 rfl (lv_room (Nat.le_of_ble_eq_true rfl)) dX5_finished_28 ⟨Nat.le_of_ble_eq_true rfl, Nat.le_of_ble_eq_true rfl⟩) hS (fun H locs hP hS => ?_)
    refine W.cs (cells' := 1) (slots' := 64) rfl rfl ?_
    refine lv_astore_n (lv' := [(3, .ref v8), (2, .int v3), (0, .ref a0), (1, .int a1)]) hx hb dX5_finished_31 rfl hl (by decide) (by first | rfl | simp [cat_rf]) (fun ls hl => ?_)
    refine lv_aload_n hx hb dX5_finished_32 rfl (lv_at hl 0 rfl) ?_
    refine lv_iload_n hx hb dX5_finished_33 rfl (lv_at hl 1 rfl) ?_
    refine lv_aload_n hx hb dX5_finished_34 rfl (lv_at hl 0 rfl) ?_
    refine lv_iload_n hx hb dX5_finished_35 rfl (lv_at hl 1 rfl) ?_
    obtain ⟨v10, h9, hF⟩ := ob_some hF
    refine xr_call1 (va_runSN (As := [.ref v8, .int v3]) (rest := [.int v3, .ref v8]) ⟨hx, hb, hml, hown, hts⟩ (ct_X10_checkOf l b0 D cy M7 v8 v3 v10 h9) ⟨va_cnB 2 hts gX5_finished_X10_checkOf_n37 rfl rfl rfl (hN.1 (RX5, 37, yX10_checkOf, "HeaderLine") (by decide +kernel)) (hts (.initialized RX10) (by decide +kernel)) (by decide +kernel) ⟨Nat.le_of_ble_eq_true rfl, Nat.le_of_ble_eq_true rfl⟩, hts (.static yX10_checkOf) (by decide +kernel), trivial⟩ (xp_S hP hK hN hS hb0) rfl rfl hl.1 rfl (lv_room (Nat.le_of_ble_eq_true rfl)) dX5_finished_36 ⟨Nat.le_of_ble_eq_true rfl, Nat.le_of_ble_eq_true rfl⟩) hS (fun H locs hP hS => ?_)
    refine xr_wI hx hb hK hP hS hF dX5_finished_39 (fun M11 H locs hF hP hS => ?_)
    refine lv_aload_n hx hb dX5_finished_40 rfl (lv_at hl 0 rfl) ?_
    cases hF
    exact W.aret hx hb hr (Or.inr ⟨_, rfl⟩) (Or.inr ⟨_, rfl⟩) (fun t ht hW => ⟨rfl, by rw [ht]; exact hP, hS.F ht⟩) hS.2.2 dX5_finished_41 hlk
  · replace hF := it_t hF c4
    refine lv_aload_n hx hb dX5_finished_12 rfl (lv_at hl 1 rfl) ?_
    refine xr_getR hx hb hts iw_X5_finished_5 hown hK hP hF 5 0 rfl (by decide) (by decide +kernel) ⟨rfl, rfl, rfl⟩ dX5_finished_13 (fun v12 hF => ?_)
    refine lv_iload_n hx hb dX5_finished_16 rfl (lv_at hl 0 rfl) ?_
    obtain ⟨M14, v15, h13, hF⟩ := ob2_some hF
    refine xr_call1 (va_runS (As := [.ref v12, .int v3]) (rest := []) ⟨hx, hb, hml, hown, hts⟩ (ct_J7_copyOf_59c91 l b0 D cy M v12 v3 M14 v15 h13) (va_cwS 2 hts gX5_finished_J7_copyOf_59c91 rfl rfl rfl (by decide +kernel) ⟨Nat.le_of_ble_eq_true rfl, Nat.le_of_ble_eq_true rfl⟩) (xp_S hP hK hN hS hb0) rfl rfl hl.1 rfl (lv_room (Nat.le_of_ble_eq_true rfl)) dX5_finished_17 ⟨Nat.le_of_ble_eq_true rfl, Nat.le_of_ble_eq_true rfl⟩) hS (fun H locs hP hS => ?_)
    refine W.cs (cells' := 1) (slots' := 64) rfl rfl ?_
    cases hF
    exact W.aret hx hb hr (Or.inr ⟨_, rfl⟩) (Or.inr ⟨_, rfl⟩) (fun t ht hW => ⟨rfl, by rw [ht]; exact hP, hS.F ht⟩) hS.2.2 dX5_finished_20 hlk
/-! X6_init -/
theorem iw_X6_init_6 : ∀ w ∈ u_ws RX6 TX6 5, w ∈ wsX6_init := by decide +kernel
abbrev rm_X6_init : Room := { frames := 1, cells := 4, slots := 32, locals := 20 }
theorem gk_X6_init {M : Mm} {a0 : Nat} {r : Mm} (h : f_X6_init M a0 = some r) : mK M a0 = 7 := by
  unfold f_X6_init at h
  exact (if_some h).1
set_option maxHeartbeats 4000000 in
set_option maxRecDepth 100000 in
theorem ct_X6_init (l : Launch) (b0 : Nat) (D : va_G) (cy : Nat → ClassId) (M : Mm) (a0 : Nat) (M1 : Mm) (hF : f_X6_init M a0 = some M1) : Met l yX6_init wsX6_init rm_X6_init (va_Pc [.ref a0] (Pm b0 D cy M)) (Qm b0 D cy M1 none) 4 32 (BA b0) := by
  refine ct_of [.ref a0] (by decide) rfl ?_
  intro p e s m below meth c CX hP
  obtain ⟨hx, hb, hr, hml, hown0, hts, hlk, hK, hN, hb0, hnm⟩ := id CX
  have hown : s.vm.findClass RX6 = some m.cls := hown0
  have hS : va_S (BA b0) s.heap s.heap [] := va_S.rf
  have hl := lv_entry [.ref a0] (n := 1) (Nat.le_of_ble_eq_true rfl)
  generalize (lg_sl [.ref a0] ++ List.replicate (1 - (lg_sl [.ref a0]).length) Slot.unset).toArray = ls at hl ⊢
  have hl : lv_has ls 1 [(0, .ref a0)] := hl
  unfold f_X6_init at hF
  replace hF := (if_some hF).2
  refine lv_aload_n hx hb dX6_init_0 rfl (lv_at hl 0 rfl) ?_
  refine W.objInit hx hb hown (hts (.methodLink RX6 3 objectInit) (by decide +kernel)) (hts (.instanceMethod objectInit) (by decide +kernel)) (hts (.code objectInit ⟨#[0xb1]⟩ 1 none) (by decide +kernel)) rfl (by rw [hml]; exact hl.1) rfl dX6_init_1 (Nat.le_of_ble_eq_true rfl) (Nat.le_of_ble_eq_true rfl) ?_
  refine W.eq (g2 := F0 m 4 ls []) rfl ?_
  refine lv_aload_n hx hb dX6_init_4 rfl (lv_at hl 0 rfl) ?_
  refine lv_bipush (v := 8) hx hb dX6_init_5 (by decide) ?_
  refine xr_newA hx hb hts hK hP hS hb0 hF (by decide +kernel) (Or.inl ⟨rfl, rfl⟩) (by decide) (Nat.le_of_ble_eq_true rfl) (Nat.le_of_ble_eq_true rfl) dX6_init_7 (fun M1 H hF hP hS => ?_)
  refine W.cs (cells' := 1) (slots' := 8) rfl rfl ?_
  refine xr_putR hx hb hts iw_X6_init_6 hown hK hP hS (v := (some (mS M))) hF 6 0 rfl (by decide) tyX6 tyX6_ok nmX6 (by decide +kernel) (Or.inr ⟨rfl, hnm, rfl⟩) (Or.inr ⟨_, rfl⟩) ⟨rfl, rfl, rfl⟩ dX6_init_9 (fun M2 H locs hF hP hS => ?_)
  refine lv_aload_n hx hb dX6_init_12 rfl (lv_at hl 0 rfl) ?_
  refine lv_bipush (v := 8) hx hb dX6_init_13 (by decide) ?_
  refine xr_newA hx hb hts hK hP hS hb0 hF (by decide +kernel) (Or.inl ⟨rfl, rfl⟩) (by decide) (Nat.le_of_ble_eq_true rfl) (Nat.le_of_ble_eq_true rfl) dX6_init_15 (fun M3 H hF hP hS => ?_)
  refine W.cs (cells' := 2) (slots' := 16) rfl rfl ?_
  refine xr_putR hx hb hts iw_X6_init_6 hown hK hP hS (v := (some (mS M2))) hF 6 1 rfl (by decide) tyX6 tyX6_ok nmX6 (by decide +kernel) (Or.inr ⟨rfl, hnm, rfl⟩) (Or.inr ⟨_, rfl⟩) ⟨rfl, rfl, rfl⟩ dX6_init_17 (fun M4 H locs hF hP hS => ?_)
  refine lv_aload_n hx hb dX6_init_20 rfl (lv_at hl 0 rfl) ?_
  refine lv_bipush (v := 8) hx hb dX6_init_21 (by decide) ?_
  refine xr_newA hx hb hts hK hP hS hb0 hF (by decide +kernel) (Or.inl ⟨rfl, rfl⟩) (by decide) (Nat.le_of_ble_eq_true rfl) (Nat.le_of_ble_eq_true rfl) dX6_init_23 (fun M5 H hF hP hS => ?_)
  refine W.cs (cells' := 3) (slots' := 24) rfl rfl ?_
  refine xr_putR hx hb hts iw_X6_init_6 hown hK hP hS (v := (some (mS M4))) hF 6 2 rfl (by decide) tyX6 tyX6_ok nmX6 (by decide +kernel) (Or.inr ⟨rfl, hnm, rfl⟩) (Or.inr ⟨_, rfl⟩) ⟨rfl, rfl, rfl⟩ dX6_init_25 (fun M6 H locs hF hP hS => ?_)
  refine lv_aload_n hx hb dX6_init_28 rfl (lv_at hl 0 rfl) ?_
  refine lv_bipush (v := 8) hx hb dX6_init_29 (by decide) ?_
  refine xr_newA hx hb hts hK hP hS hb0 hF (by decide +kernel) (Or.inl ⟨rfl, rfl⟩) (by decide) (Nat.le_of_ble_eq_true rfl) (Nat.le_of_ble_eq_true rfl) dX6_init_31 (fun M7 H hF hP hS => ?_)
  refine W.cs (cells' := 4) (slots' := 32) rfl rfl ?_
  refine xr_putR hx hb hts iw_X6_init_6 hown hK hP hS (v := (some (mS M6))) hF 6 3 rfl (by decide) tyX6 tyX6_ok nmX6 (by decide +kernel) (Or.inr ⟨rfl, hnm, rfl⟩) (Or.inr ⟨_, rfl⟩) ⟨rfl, rfl, rfl⟩ dX6_init_33 (fun M8 H locs hF hP hS => ?_)
  cases hF
  exact W.vret hx hb hr (fun t ht hW => ⟨rfl, by rw [ht]; exact hP, hS.F ht⟩) hS.2.2 dX6_init_36 hlk
/-! X6_allows -/
abbrev rm_X6_allows : Room := { frames := 1, cells := 0, slots := 0, locals := 21 }
theorem gk_X6_allows {M : Mm} {a0 : Nat} {a1 : Int32} {a2 : Int32} {a3 : Int32} {a4 : Int32} {r : Int32} (h : f_X6_allows M a0 a1 a2 a3 a4 = some r) : mK M a0 = 7 := by
  unfold f_X6_allows at h
  exact (if_some h).1
set_option maxHeartbeats 4000000 in
set_option maxRecDepth 100000 in
theorem ct_X6_allows (l : Launch) (b0 : Nat) (D : va_G) (cy : Nat → ClassId) (M : Mm) (a0 : Nat) (a1 : Int32) (a2 : Int32) (a3 : Int32) (a4 : Int32) (r : Int32) (hF : f_X6_allows M a0 a1 a2 a3 a4 = some r) : Met l yX6_allows wsX6_allows rm_X6_allows (va_Pc [.ref a0, .int a1, .int a2, .int a3, .int a4] (Pm b0 D cy M)) (Qm b0 D cy M (some (.int r))) 0 0 (BA b0) := by
  refine ct_of [.ref a0, .int a1, .int a2, .int a3, .int a4] (by decide) rfl ?_
  intro p e s m below meth c CX hP
  obtain ⟨hx, hb, hr, hml, hown0, hts, hlk, hK, hN, hb0, hnm⟩ := id CX
  have hown : s.vm.findClass RX6 = some m.cls := hown0
  have hS : va_S (BA b0) s.heap s.heap [] := va_S.rf
  have hl := lv_entry [.ref a0, .int a1, .int a2, .int a3, .int a4] (n := 5) (Nat.le_of_ble_eq_true rfl)
  generalize (lg_sl [.ref a0, .int a1, .int a2, .int a3, .int a4] ++ List.replicate (5 - (lg_sl [.ref a0, .int a1, .int a2, .int a3, .int a4]).length) Slot.unset).toArray = ls at hl ⊢
  have hl : lv_has ls 5 [(0, .ref a0), (1, .int a1), (2, .int a2), (3, .int a3), (4, .int a4)] := hl
  unfold f_X6_allows at hF
  replace hF := (if_some hF).2
  refine lv_iload_n hx hb dX6_allows_0 rfl (lv_at hl 1 rfl) ?_
  refine lv_if_lt (tgt := 20) hx hb dX6_allows_1 (by decide) (fun c1 => ?_) (fun c1 => ?_)
  · replace hF := it_t hF c1
    refine lv_iconst (v := 0) hx hb dX6_allows_20 (by decide) ?_
    cases hF
    exact W.zret hx hb hr rfl (fun t ht hW => ⟨rfl, by rw [ht]; exact hP, hS.F ht⟩) hS.2.2 dX6_allows_21 hlk
  · replace hF := it_f hF c1
    refine lv_iload_n hx hb dX6_allows_4 rfl (lv_at hl 1 rfl) ?_
    refine lv_iconst (v := 4) hx hb dX6_allows_5 (by decide) ?_
    refine lv_icmp_gt (tgt := 20) hx hb dX6_allows_6 (by decide) (fun c2 => ?_) (fun c2 => ?_)
    · replace hF := it_t hF c2
      refine lv_iconst (v := 0) hx hb dX6_allows_20 (by decide) ?_
      cases hF
      exact W.zret hx hb hr rfl (fun t ht hW => ⟨rfl, by rw [ht]; exact hP, hS.F ht⟩) hS.2.2 dX6_allows_21 hlk
    · replace hF := it_f hF c2
      refine lv_iload_n hx hb dX6_allows_9 rfl (lv_at hl 2 rfl) ?_
      refine lv_iconst (v := 1) hx hb dX6_allows_10 (by decide) ?_
      refine lv_icmp_lt (tgt := 20) hx hb dX6_allows_11 (by decide) (fun c3 => ?_) (fun c3 => ?_)
      · replace hF := it_t hF c3
        refine lv_iconst (v := 0) hx hb dX6_allows_20 (by decide) ?_
        cases hF
        exact W.zret hx hb hr rfl (fun t ht hW => ⟨rfl, by rw [ht]; exact hP, hS.F ht⟩) hS.2.2 dX6_allows_21 hlk
      · replace hF := it_f hF c3
        refine lv_iload_n hx hb dX6_allows_14 rfl (lv_at hl 2 rfl) ?_
        refine lv_bipush (v := 32) hx hb dX6_allows_15 (by decide) ?_
        refine lv_icmp_le (tgt := 22) hx hb dX6_allows_17 (by decide) (fun c4 => ?_) (fun c4 => ?_)
        · replace hF := it_t hF c4
          refine lv_iload_n hx hb dX6_allows_22 rfl (lv_at hl 1 rfl) ?_
          refine lv_iconst (v := 1) hx hb dX6_allows_23 (by decide) ?_
          refine lv_icmp_ne (tgt := 33) hx hb dX6_allows_24 (by decide) (fun c5 => ?_) (fun c5 => ?_)
          · replace hF := it_f hF c5
            refine lv_iload_n hx hb dX6_allows_33 rfl (lv_at hl 1 rfl) ?_
            refine lv_iconst (v := 3) hx hb dX6_allows_34 (by decide) ?_
            refine lv_icmp_ne (tgt := 52) hx hb dX6_allows_35 (by decide) (fun c6 => ?_) (fun c6 => ?_)
            · replace hF := it_f hF c6
              refine lv_iconst (v := 1) hx hb dX6_allows_52 (by decide) ?_
              refine lv_goto (tgt := 57) hx hb dX6_allows_53 (by decide) ?_
              cases hF
              exact W.zret hx hb hr rfl (fun t ht hW => ⟨rfl, by rw [ht]; exact hP, hS.F ht⟩) hS.2.2 dX6_allows_57 hlk
            · replace hF := it_t hF c6
              refine lv_iload hx hb dX6_allows_38 (lv_at hl 4 rfl) ?_
              refine lv_iconst (v := 1) hx hb dX6_allows_40 (by decide) ?_
              refine lv_icmp_lt (tgt := 56) hx hb dX6_allows_41 (by decide) (fun c7 => ?_) (fun c7 => ?_)
              · replace hF := it_t hF c7
                refine lv_iconst (v := 0) hx hb dX6_allows_56 (by decide) ?_
                cases hF
                exact W.zret hx hb hr rfl (fun t ht hW => ⟨rfl, by rw [ht]; exact hP, hS.F ht⟩) hS.2.2 dX6_allows_57 hlk
              · replace hF := it_f hF c7
                refine lv_iload hx hb dX6_allows_44 (lv_at hl 4 rfl) ?_
                refine lv_sipush (v := 1000) hx hb dX6_allows_46 (by decide) ?_
                refine lv_icmp_gt (tgt := 56) hx hb dX6_allows_49 (by decide) (fun c8 => ?_) (fun c8 => ?_)
                · replace hF := it_t hF c8
                  refine lv_iconst (v := 0) hx hb dX6_allows_56 (by decide) ?_
                  cases hF
                  exact W.zret hx hb hr rfl (fun t ht hW => ⟨rfl, by rw [ht]; exact hP, hS.F ht⟩) hS.2.2 dX6_allows_57 hlk
                · replace hF := it_f hF c8
                  refine lv_iconst (v := 1) hx hb dX6_allows_52 (by decide) ?_
                  refine lv_goto (tgt := 57) hx hb dX6_allows_53 (by decide) ?_
                  cases hF
                  exact W.zret hx hb hr rfl (fun t ht hW => ⟨rfl, by rw [ht]; exact hP, hS.F ht⟩) hS.2.2 dX6_allows_57 hlk
          · replace hF := it_t hF c5
            refine lv_aload_n hx hb dX6_allows_27 rfl (lv_at hl 0 rfl) ?_
            refine lv_iload_n hx hb dX6_allows_28 rfl (lv_at hl 3 rfl) ?_
            obtain ⟨v10, h9, hF⟩ := ob_some hF
            refine xr_call1 (va_runV (As := [.int a3]) (rest := []) ⟨hx, hb, hml, hown, hts⟩ (ct_X6_has l b0 D cy M a0 a3 v10 h9) (cwV 1 hts gX6_allows_X6_has rfl rfl rfl (by decide +kernel) ⟨Nat.le_of_ble_eq_true rfl, Nat.le_of_ble_eq_true rfl⟩) (xp_V hP hK hN hS hb0 6 rfl (gk_X6_has h9)) rfl rfl hl.1 rfl (lv_room (Nat.le_of_ble_eq_true rfl)) dX6_allows_29 ⟨Nat.le_of_ble_eq_true rfl, Nat.le_of_ble_eq_true rfl⟩) hS (fun H locs hP hS => ?_)
            obtain ⟨hz11, hF⟩ := if_some hF
            cases hF
            exact W.zret hx hb hr (nz01 hz11) (fun t ht hW => ⟨rfl, by rw [ht]; exact hP, hS.F ht⟩) hS.2.2 dX6_allows_32 hlk
        · replace hF := it_f hF c4
          refine lv_iconst (v := 0) hx hb dX6_allows_20 (by decide) ?_
          cases hF
          exact W.zret hx hb hr rfl (fun t ht hW => ⟨rfl, by rw [ht]; exact hP, hS.F ht⟩) hS.2.2 dX6_allows_21 hlk
/-! X6_append -/
theorem iw_X6_append_6 : ∀ w ∈ u_ws RX6 TX6 5, w ∈ wsX6_append := by decide +kernel
abbrev rm_X6_append : Room := { frames := 0, cells := 0, slots := 0, locals := 0 }
set_option maxHeartbeats 4000000 in
set_option maxRecDepth 100000 in
theorem nd_X6_append_50 {p : Program} {l : Launch} {e : Env} {s : State} {m : MethodId} {args : Array Value} {below : List Frame} {meth : Method} {c : Code} {b0 : Nat} {D : va_G} {cy : Nat → ClassId} {M1 : Mm} {r : Int32} (CX : Cx yX6_append cX6_append 5 (some .int) wsX6_append b0 D cy p s m args meth c) : ∀ (M : Mm) (x0 : Nat) (x4 : Int32) (s0 : Nat) (s1 : Int32) (s2 : Int32) (H : Heap) (locs : List Loc) (ls : Array Slot), f_X6_append_J50 M x0 x4 s0 s1 s2 = some (M1, r) → Hp b0 D cy M H → va_S (BA b0) s.heap H locs → lv_has ls 5 [(0, .ref x0), (4, .int x4)] → W p l e rm_X6_append s m args below meth c H locs 0 0 (MQ below (Qm b0 D cy M1 (some (.int r))) args s 0 0 (BA b0)) (F0 m 50 ls [.int s2, .int s1, .ref s0]) := by
  obtain ⟨hx, hb, hr, hml, hown0, hts, hlk, hK, hN, hb0, hnm⟩ := id CX
  have hown : s.vm.findClass RX6 = some m.cls := hown0
  intro M x0 x4 s0 s1 s2 H locs ls hF hP hS hl
  unfold f_X6_append_J50 at hF
  refine xr_wI hx hb hK hP hS hF dX6_append_50 (fun M1 H locs hF hP hS => ?_)
  refine lv_aload_n hx hb dX6_append_51 rfl (lv_at hl 0 rfl) ?_
  refine xr_getR hx hb hts iw_X6_append_6 hown hK hP hF 6 3 rfl (by decide) (by decide +kernel) ⟨rfl, rfl, rfl⟩ dX6_append_52 (fun v2 hF => ?_)
  refine lv_aload_n hx hb dX6_append_55 rfl (lv_at hl 0 rfl) ?_
  refine xr_getI hx hb hts iw_X6_append_6 hown hK hP hF 6 4 rfl (by decide) (by decide +kernel) ⟨rfl, rfl, rfl⟩ dX6_append_56 (fun v3 hF => ?_)
  refine lv_iload hx hb dX6_append_59 (lv_at hl 1 rfl) ?_
  refine xr_wI hx hb hK hP hS hF dX6_append_61 (fun M4 H locs hF hP hS => ?_)
  refine lv_aload_n hx hb dX6_append_62 rfl (lv_at hl 0 rfl) ?_
  refine lv_dup hx hb dX6_append_63 rfl ?_
  refine xr_getI hx hb hts iw_X6_append_6 hown hK hP hF 6 4 rfl (by decide) (by decide +kernel) ⟨rfl, rfl, rfl⟩ dX6_append_64 (fun v5 hF => ?_)
  refine lv_iconst (v := 1) hx hb dX6_append_67 (by decide) ?_
  refine lv_iadd hx hb dX6_append_68 ?_
  refine xr_putI hx hb hts iw_X6_append_6 hown hK hP hS hF 6 4 rfl (by decide) tyX6 tyX6_ok nmX6 (by decide +kernel) (Or.inl rfl) rfl ⟨rfl, rfl, rfl⟩ dX6_append_69 (fun M6 H locs hF hP hS => ?_)
  refine lv_aload_n hx hb dX6_append_72 rfl (lv_at hl 0 rfl) ?_
  refine xr_getI hx hb hts iw_X6_append_6 hown hK hP hF 6 4 rfl (by decide) (by decide +kernel) ⟨rfl, rfl, rfl⟩ dX6_append_73 (fun v7 hF => ?_)
  refine lv_iconst (v := 1) hx hb dX6_append_76 (by decide) ?_
  refine lv_isub hx hb dX6_append_77 ?_
  cases hF
  exact W.iret hx hb hr (fun t ht hW => ⟨rfl, by rw [ht]; exact hP, hS.F ht⟩) hS.2.2 dX6_append_78 hlk
theorem gk_X6_append {M : Mm} {a0 : Nat} {a1 : Int32} {a2 : Int32} {a3 : Int32} {a4 : Int32} {r : (Mm × Int32)} (h : f_X6_append M a0 a1 a2 a3 a4 = some r) : mK M a0 = 7 := by
  unfold f_X6_append at h
  exact (if_some h).1
set_option maxHeartbeats 4000000 in
set_option maxRecDepth 100000 in
theorem ct_X6_append (l : Launch) (b0 : Nat) (D : va_G) (cy : Nat → ClassId) (M : Mm) (a0 : Nat) (a1 : Int32) (a2 : Int32) (a3 : Int32) (a4 : Int32) (M1 : Mm) (r : Int32) (hF : f_X6_append M a0 a1 a2 a3 a4 = some (M1, r)) : Met l yX6_append wsX6_append rm_X6_append (va_Pc [.ref a0, .int a1, .int a2, .int a3, .int a4] (Pm b0 D cy M)) (Qm b0 D cy M1 (some (.int r))) 0 0 (BA b0) := by
  refine ct_of [.ref a0, .int a1, .int a2, .int a3, .int a4] (by decide) rfl ?_
  intro p e s m below meth c CX hP
  obtain ⟨hx, hb, hr, hml, hown0, hts, hlk, hK, hN, hb0, hnm⟩ := id CX
  have hown : s.vm.findClass RX6 = some m.cls := hown0
  have hS : va_S (BA b0) s.heap s.heap [] := va_S.rf
  have hl := lv_entry [.ref a0, .int a1, .int a2, .int a3, .int a4] (n := 5) (Nat.le_of_ble_eq_true rfl)
  generalize (lg_sl [.ref a0, .int a1, .int a2, .int a3, .int a4] ++ List.replicate (5 - (lg_sl [.ref a0, .int a1, .int a2, .int a3, .int a4]).length) Slot.unset).toArray = ls at hl ⊢
  have hl : lv_has ls 5 [(0, .ref a0), (1, .int a1), (2, .int a2), (3, .int a3), (4, .int a4)] := hl
  unfold f_X6_append at hF
  replace hF := (if_some hF).2
  refine lv_aload_n hx hb dX6_append_0 rfl (lv_at hl 0 rfl) ?_
  refine xr_getI hx hb hts iw_X6_append_6 hown hK hP hF 6 4 rfl (by decide) (by decide +kernel) ⟨rfl, rfl, rfl⟩ dX6_append_1 (fun v1 hF => ?_)
  refine lv_bipush (v := 8) hx hb dX6_append_4 (by decide) ?_
  refine lv_icmp_lt (tgt := 12) hx hb dX6_append_6 (by decide) (fun c2 => ?_) (fun c2 => ?_)
  · replace hF := it_t hF c2
    refine lv_aload_n hx hb dX6_append_12 rfl (lv_at hl 0 rfl) ?_
    refine xr_getR hx hb hts iw_X6_append_6 hown hK hP hF 6 0 rfl (by decide) (by decide +kernel) ⟨rfl, rfl, rfl⟩ dX6_append_13 (fun v3 hF => ?_)
    refine lv_aload_n hx hb dX6_append_16 rfl (lv_at hl 0 rfl) ?_
    refine xr_getI hx hb hts iw_X6_append_6 hown hK hP hF 6 4 rfl (by decide) (by decide +kernel) ⟨rfl, rfl, rfl⟩ dX6_append_17 (fun v4 hF => ?_)
    refine lv_iload_n hx hb dX6_append_20 rfl (lv_at hl 1 rfl) ?_
    refine xr_wI hx hb hK hP hS hF dX6_append_21 (fun M5 H locs hF hP hS => ?_)
    refine lv_aload_n hx hb dX6_append_22 rfl (lv_at hl 0 rfl) ?_
    refine xr_getR hx hb hts iw_X6_append_6 hown hK hP hF 6 1 rfl (by decide) (by decide +kernel) ⟨rfl, rfl, rfl⟩ dX6_append_23 (fun v6 hF => ?_)
    refine lv_aload_n hx hb dX6_append_26 rfl (lv_at hl 0 rfl) ?_
    refine xr_getI hx hb hts iw_X6_append_6 hown hK hP hF 6 4 rfl (by decide) (by decide +kernel) ⟨rfl, rfl, rfl⟩ dX6_append_27 (fun v7 hF => ?_)
    refine lv_iload_n hx hb dX6_append_30 rfl (lv_at hl 2 rfl) ?_
    refine xr_wI hx hb hK hP hS hF dX6_append_31 (fun M8 H locs hF hP hS => ?_)
    refine lv_aload_n hx hb dX6_append_32 rfl (lv_at hl 0 rfl) ?_
    refine xr_getR hx hb hts iw_X6_append_6 hown hK hP hF 6 2 rfl (by decide) (by decide +kernel) ⟨rfl, rfl, rfl⟩ dX6_append_33 (fun v9 hF => ?_)
    refine lv_aload_n hx hb dX6_append_36 rfl (lv_at hl 0 rfl) ?_
    refine xr_getI hx hb hts iw_X6_append_6 hown hK hP hF 6 4 rfl (by decide) (by decide +kernel) ⟨rfl, rfl, rfl⟩ dX6_append_37 (fun v10 hF => ?_)
    refine lv_iload_n hx hb dX6_append_40 rfl (lv_at hl 1 rfl) ?_
    refine lv_iconst (v := 1) hx hb dX6_append_41 (by decide) ?_
    refine lv_icmp_ne (tgt := 49) hx hb dX6_append_42 (by decide) (fun c11 => ?_) (fun c11 => ?_)
    · replace hF := it_f hF c11
      refine lv_iconst (v := 0) hx hb dX6_append_49 (by decide) ?_
      exact nd_X6_append_50 CX _ _ _ _ _ _ _ _ _ hF hP hS (lv_sub hl [0, 4] rfl)
    · replace hF := it_t hF c11
      refine lv_iload_n hx hb dX6_append_45 rfl (lv_at hl 3 rfl) ?_
      refine lv_goto (tgt := 50) hx hb dX6_append_46 (by decide) ?_
      exact nd_X6_append_50 CX _ _ _ _ _ _ _ _ _ hF hP hS (lv_sub hl [0, 4] rfl)
  · replace hF := it_f hF c2
    refine lv_bipush (v := (-2)) hx hb dX6_append_9 (by decide) ?_
    cases hF
    exact W.iret hx hb hr (fun t ht hW => ⟨rfl, by rw [ht]; exact hP, hS.F ht⟩) hS.2.2 dX6_append_11 hlk
/-! X6_wholeBits -/
theorem iw_X6_wholeBits_6 : ∀ w ∈ u_ws RX6 TX6 5, w ∈ wsX6_wholeBits := by decide +kernel
abbrev rm_X6_wholeBits : Room := { frames := 2, cells := 0, slots := 0, locals := 42 }
set_option maxHeartbeats 4000000 in
set_option maxRecDepth 100000 in
theorem nd_X6_wholeBits_34 {p : Program} {l : Launch} {e : Env} {s : State} {m : MethodId} {args : Array Value} {below : List Frame} {meth : Method} {c : Code} {b0 : Nat} {D : va_G} {cy : Nat → ClassId} {r : Int32} {M : Mm} (CX : Cx yX6_wholeBits cX6_wholeBits 3 (some .int) wsX6_wholeBits b0 D cy p s m args meth c) (k5 : Nat → Int32 → Int32 → Option Int32) (hk5 : ∀ (x0 : Nat) (x1 : Int32) (x2 : Int32) (H : Heap) (locs : List Loc) (ls : Array Slot), k5 x0 x1 x2 = some r → Hp b0 D cy M H → va_S (BA b0) s.heap H locs → lv_has ls 3 [(0, .ref x0), (1, .int x1), (2, .int x2)] → W p l e rm_X6_wholeBits s m args below meth c H locs 0 0 (MQ below (Qm b0 D cy M (some (.int r))) args s 0 0 (BA b0)) (F0 m 5 ls [])) : ∀ (x0 : Nat) (x2 : Int32) (s0 : Int32) (s1 : Int32) (s2 : Int32) (H : Heap) (locs : List Loc) (ls : Array Slot), f_X6_wholeBits_J34 k5 M x0 x2 s0 s1 s2 = some r → Hp b0 D cy M H → va_S (BA b0) s.heap H locs → lv_has ls 3 [(0, .ref x0), (2, .int x2)] → W p l e rm_X6_wholeBits s m args below meth c H locs 0 0 (MQ below (Qm b0 D cy M (some (.int r))) args s 0 0 (BA b0)) (F0 m 34 ls [.int s2, .int s1, .int s0]) := by
  obtain ⟨hx, hb, hr, hml, hown0, hts, hlk, hK, hN, hb0, hnm⟩ := id CX
  have hown : s.vm.findClass RX6 = some m.cls := hown0
  intro x0 x2 s0 s1 s2 H locs ls hF hP hS hl
  unfold f_X6_wholeBits_J34 at hF
  refine lv_iadd hx hb dX6_wholeBits_34 ?_
  refine lv_iadd hx hb dX6_wholeBits_35 ?_
  refine lv_istore_n (lv' := [(1, .int (s0 + (s1 + s2))), (0, .ref x0), (2, .int x2)]) hx hb dX6_wholeBits_36 rfl hl (by decide) (by first | rfl | simp [cat_rf]) (fun ls hl => ?_)
  refine lv_iinc (v := x2 + 1) (lv' := [(2, .int (x2 + 1)), (1, .int (s0 + (s1 + s2))), (0, .ref x0)]) hx hb dX6_wholeBits_37 hl (k := 2) rfl (by rfl) (by decide) rfl (fun ls hl => ?_)
  refine lv_goto (tgt := 5) hx hb dX6_wholeBits_40 (by decide) ?_
  exact hk5 _ _ _ _ _ _ hF hP hS (lv_sub hl [2, 1, 0] rfl)
set_option maxHeartbeats 4000000 in
set_option maxRecDepth 100000 in
theorem nd_X6_wholeBits_5 {p : Program} {l : Launch} {e : Env} {s : State} {m : MethodId} {args : Array Value} {below : List Frame} {meth : Method} {c : Code} {b0 : Nat} {D : va_G} {cy : Nat → ClassId} {r : Int32} {M : Mm} (CX : Cx yX6_wholeBits cX6_wholeBits 3 (some .int) wsX6_wholeBits b0 D cy p s m args meth c) : ∀ (fu : Nat), ∀ (x0 : Nat) (x1 : Int32) (x2 : Int32) (H : Heap) (locs : List Loc) (ls : Array Slot), f_X6_wholeBits_L5 M fu x0 x1 x2 = some r → Hp b0 D cy M H → va_S (BA b0) s.heap H locs → lv_has ls 3 [(0, .ref x0), (1, .int x1), (2, .int x2)] → W p l e rm_X6_wholeBits s m args below meth c H locs 0 0 (MQ below (Qm b0 D cy M (some (.int r))) args s 0 0 (BA b0)) (F0 m 5 ls []) := by
  obtain ⟨hx, hb, hr, hml, hown0, hts, hlk, hK, hN, hb0, hnm⟩ := id CX
  have hown : s.vm.findClass RX6 = some m.cls := hown0
  intro fu
  induction fu with
  | zero =>
    intro x0 x1 x2 H locs ls hF hP hS hl
    rw [f_X6_wholeBits_L5] at hF
    cases hF
  | succ fu ih =>
    intro x0 x1 x2 H locs ls hF hP hS hl
    rw [f_X6_wholeBits_L5] at hF
    refine lv_iload_n hx hb dX6_wholeBits_5 rfl (lv_at hl 2 rfl) ?_
    refine lv_aload_n hx hb dX6_wholeBits_6 rfl (lv_at hl 0 rfl) ?_
    refine xr_getI hx hb hts iw_X6_wholeBits_6 hown hK hP hF 6 4 rfl (by decide) (by decide +kernel) ⟨rfl, rfl, rfl⟩ dX6_wholeBits_7 (fun v1 hF => ?_)
    refine lv_icmp_ge (tgt := 43) hx hb dX6_wholeBits_10 (by decide) (fun c2 => ?_) (fun c2 => ?_)
    · replace hF := it_t hF c2
      refine lv_iload_n hx hb dX6_wholeBits_43 rfl (lv_at hl 1 rfl) ?_
      cases hF
      exact W.iret hx hb hr (fun t ht hW => ⟨rfl, by rw [ht]; exact hP, hS.F ht⟩) hS.2.2 dX6_wholeBits_44 hlk
    · replace hF := it_f hF c2
      refine lv_iload_n hx hb dX6_wholeBits_13 rfl (lv_at hl 1 rfl) ?_
      refine lv_aload_n hx hb dX6_wholeBits_14 rfl (lv_at hl 0 rfl) ?_
      refine xr_getR hx hb hts iw_X6_wholeBits_6 hown hK hP hF 6 1 rfl (by decide) (by decide +kernel) ⟨rfl, rfl, rfl⟩ dX6_wholeBits_15 (fun v3 hF => ?_)
      refine lv_iload_n hx hb dX6_wholeBits_18 rfl (lv_at hl 2 rfl) ?_
      refine xr_aI hx hb hK hP hF dX6_wholeBits_19 (fun v4 hF => ?_)
      refine lv_aload_n hx hb dX6_wholeBits_20 rfl (lv_at hl 0 rfl) ?_
      refine lv_iload_n hx hb dX6_wholeBits_21 rfl (lv_at hl 2 rfl) ?_
      obtain ⟨v6, h5, hF⟩ := ob_some hF
      refine xr_call1 (va_runV (As := [.int x2]) (rest := [.int v4, .int x1]) ⟨hx, hb, hml, hown, hts⟩ (ct_X6_hasStride l b0 D cy M x0 x2 v6 h5) (cwV 1 hts gX6_wholeBits_X6_hasStride rfl rfl rfl (by decide +kernel) ⟨Nat.le_of_ble_eq_true rfl, Nat.le_of_ble_eq_true rfl⟩) (xp_V hP hK hN hS hb0 6 rfl (gk_X6_hasStride h5)) rfl rfl hl.1 rfl (lv_room (Nat.le_of_ble_eq_true rfl)) dX6_wholeBits_22 ⟨Nat.le_of_ble_eq_true rfl, Nat.le_of_ble_eq_true rfl⟩) hS (fun H locs hP hS => ?_)
      refine lv_if_eq (tgt := 33) hx hb dX6_wholeBits_25 (by decide) (fun c7 => ?_) (fun c7 => ?_)
      · replace hF := it_t hF c7
        refine lv_iconst (v := 0) hx hb dX6_wholeBits_33 (by decide) ?_
        exact nd_X6_wholeBits_34 CX (f_X6_wholeBits_L5 M fu) ih _ _ _ _ _ _ _ _ hF hP hS (lv_sub hl [0, 2] rfl)
      · replace hF := it_f hF c7
        refine lv_bipush (v := 8) hx hb dX6_wholeBits_28 (by decide) ?_
        refine lv_goto (tgt := 34) hx hb dX6_wholeBits_30 (by decide) ?_
        exact nd_X6_wholeBits_34 CX (f_X6_wholeBits_L5 M fu) ih _ _ _ _ _ _ _ _ hF hP hS (lv_sub hl [0, 2] rfl)
theorem gk_X6_wholeBits {M : Mm} {a0 : Nat} {r : Int32} (h : f_X6_wholeBits M a0 = some r) : mK M a0 = 7 := by
  unfold f_X6_wholeBits at h
  exact (if_some h).1
set_option maxHeartbeats 4000000 in
set_option maxRecDepth 100000 in
theorem ct_X6_wholeBits (l : Launch) (b0 : Nat) (D : va_G) (cy : Nat → ClassId) (M : Mm) (a0 : Nat) (r : Int32) (hF : f_X6_wholeBits M a0 = some r) : Met l yX6_wholeBits wsX6_wholeBits rm_X6_wholeBits (va_Pc [.ref a0] (Pm b0 D cy M)) (Qm b0 D cy M (some (.int r))) 0 0 (BA b0) := by
  refine ct_of [.ref a0] (by decide) rfl ?_
  intro p e s m below meth c CX hP
  obtain ⟨hx, hb, hr, hml, hown0, hts, hlk, hK, hN, hb0, hnm⟩ := id CX
  have hown : s.vm.findClass RX6 = some m.cls := hown0
  have hS : va_S (BA b0) s.heap s.heap [] := va_S.rf
  have hl := lv_entry [.ref a0] (n := 3) (Nat.le_of_ble_eq_true rfl)
  generalize (lg_sl [.ref a0] ++ List.replicate (3 - (lg_sl [.ref a0]).length) Slot.unset).toArray = ls at hl ⊢
  have hl : lv_has ls 3 [(0, .ref a0)] := hl
  unfold f_X6_wholeBits at hF
  replace hF := (if_some hF).2
  refine lv_bipush (v := 26) hx hb dX6_wholeBits_0 (by decide) ?_
  refine lv_istore_n (lv' := [(1, .int 26), (0, .ref a0)]) hx hb dX6_wholeBits_2 rfl hl (by decide) (by first | rfl | simp [cat_rf]) (fun ls hl => ?_)
  refine lv_iconst (v := 0) hx hb dX6_wholeBits_3 (by decide) ?_
  refine lv_istore_n (lv' := [(2, .int 0), (1, .int 26), (0, .ref a0)]) hx hb dX6_wholeBits_4 rfl hl (by decide) (by first | rfl | simp [cat_rf]) (fun ls hl => ?_)
  exact nd_X6_wholeBits_5 CX _ _ _ _ _ _ _ hF hP hS (lv_sub hl [2, 1, 0] rfl)
/-! X6_sumOf -/
theorem iw_X6_sumOf_3 : ∀ w ∈ u_ws RX3 TX3 2, w ∈ wsX6_sumOf := by decide +kernel
theorem iw_X6_sumOf_6 : ∀ w ∈ u_ws RX6 TX6 5, w ∈ wsX6_sumOf := by decide +kernel
abbrev rm_X6_sumOf : Room := { frames := 1, cells := 0, slots := 0, locals := 22 }
set_option maxHeartbeats 4000000 in
set_option maxRecDepth 100000 in
theorem nd_X6_sumOf_7 {p : Program} {l : Launch} {e : Env} {s : State} {m : MethodId} {args : Array Value} {below : List Frame} {meth : Method} {c : Code} {b0 : Nat} {D : va_G} {cy : Nat → ClassId} {r : Int32} {M : Mm} (CX : Cx yX6_sumOf cX6_sumOf 5 (some .int) wsX6_sumOf b0 D cy p s m args meth c) : ∀ (fu : Nat), ∀ (x0 : Nat) (x1 : Nat) (x2 : Int64) (x4 : Int32) (H : Heap) (locs : List Loc) (ls : Array Slot), f_X6_sumOf_L7 M fu x0 x1 x2 x4 = some r → Hp b0 D cy M H → va_S (BA b0) s.heap H locs → lv_has ls 5 [(0, .ref x0), (1, .ref x1), (2, .long x2), (4, .int x4)] → W p l e rm_X6_sumOf s m args below meth c H locs 0 0 (MQ below (Qm b0 D cy M (some (.int r))) args s 0 0 (BA b0)) (F0 m 7 ls []) := by
  obtain ⟨hx, hb, hr, hml, hown0, hts, hlk, hK, hN, hb0, hnm⟩ := id CX
  have hown : s.vm.findClass RX6 = some m.cls := hown0
  intro fu
  induction fu with
  | zero =>
    intro x0 x1 x2 x4 H locs ls hF hP hS hl
    rw [f_X6_sumOf_L7] at hF
    cases hF
  | succ fu ih =>
    intro x0 x1 x2 x4 H locs ls hF hP hS hl
    rw [f_X6_sumOf_L7] at hF
    refine lv_iload hx hb dX6_sumOf_7 (lv_at hl 3 rfl) ?_
    refine lv_aload_n hx hb dX6_sumOf_9 rfl (lv_at hl 0 rfl) ?_
    refine xr_getI hx hb hts iw_X6_sumOf_6 hown hK hP hF 6 4 rfl (by decide) (by decide +kernel) ⟨rfl, rfl, rfl⟩ dX6_sumOf_10 (fun v1 hF => ?_)
    refine lv_icmp_ge (tgt := 41) hx hb dX6_sumOf_13 (by decide) (fun c2 => ?_) (fun c2 => ?_)
    · replace hF := it_t hF c2
      refine lv_lload_n hx hb dX6_sumOf_41 rfl (lv_at hl 2 rfl) ?_
      refine lv_l2i hx hb dX6_sumOf_42 rfl ?_
      cases hF
      exact W.iret hx hb hr (fun t ht hW => ⟨rfl, by rw [ht]; exact hP, hS.F ht⟩) hS.2.2 dX6_sumOf_43 hlk
    · replace hF := it_f hF c2
      refine lv_lload_n hx hb dX6_sumOf_16 rfl (lv_at hl 2 rfl) ?_
      refine lv_ldc2 (v := 31) hx hb hown (hts (.constantLong RX6 41 31) (by decide +kernel)) dX6_sumOf_17 ?_
      refine lv_lmul hx hb dX6_sumOf_20 ?_
      refine lv_aload_n hx hb dX6_sumOf_21 rfl (lv_at hl 1 rfl) ?_
      refine xr_getR hx hb hts iw_X6_sumOf_3 hown hK hP hF 3 0 rfl (by decide) (by decide +kernel) ⟨rfl, rfl, rfl⟩ dX6_sumOf_22 (fun v3 hF => ?_)
      refine lv_iload hx hb dX6_sumOf_25 (lv_at hl 3 rfl) ?_
      refine xr_aJ hx hb hK hP hF dX6_sumOf_27 (fun v4 hF => ?_)
      refine lv_ladd hx hb dX6_sumOf_28 ?_
      refine lv_bipush (v := 8) hx hb dX6_sumOf_29 (by decide) ?_
      obtain ⟨v6, h5, hF⟩ := ob_some hF
      refine xr_call1 (va_runSN (As := [.long ((x2 * 31) + v4), .int 8]) (rest := []) ⟨hx, hb, hml, hown, hts⟩ (ct_X10_lowest l b0 D cy M ((x2 * 31) + v4) 8 v6 h5) ⟨va_cnB 2 hts gX6_sumOf_X10_lowest_n32 rfl rfl rfl (hN.1 (RX6, 32, yX10_lowest, "HeaderLine") (by decide +kernel)) (hts (.initialized RX10) (by decide +kernel)) (by decide +kernel) ⟨Nat.le_of_ble_eq_true rfl, Nat.le_of_ble_eq_true rfl⟩, hts (.static yX10_lowest) (by decide +kernel), trivial⟩ (xp_S hP hK hN hS hb0) rfl rfl hl.1 rfl (lv_room (Nat.le_of_ble_eq_true rfl)) dX6_sumOf_31 ⟨Nat.le_of_ble_eq_true rfl, Nat.le_of_ble_eq_true rfl⟩) hS (fun H locs hP hS => ?_)
      refine lv_lstore_n (lv' := [(2, .long v6), (0, .ref x0), (1, .ref x1), (4, .int x4)]) hx hb dX6_sumOf_34 rfl hl (by decide) (by first | rfl | simp [cat_rf]) (fun ls hl => ?_)
      refine lv_iinc (v := x4 + 1) (lv' := [(4, .int (x4 + 1)), (2, .long v6), (0, .ref x0), (1, .ref x1)]) hx hb dX6_sumOf_35 hl (k := 3) rfl (by rfl) (by decide) rfl (fun ls hl => ?_)
      refine lv_goto (tgt := 7) hx hb dX6_sumOf_38 (by decide) ?_
      exact ih _ _ _ _ _ _ _ hF hP hS (lv_sub hl [2, 3, 1, 0] rfl)
theorem gk_X6_sumOf {M : Mm} {a0 : Nat} {a1 : Nat} {r : Int32} (h : f_X6_sumOf M a0 a1 = some r) : mK M a0 = 7 := by
  unfold f_X6_sumOf at h
  exact (if_some h).1
set_option maxHeartbeats 4000000 in
set_option maxRecDepth 100000 in
theorem ct_X6_sumOf (l : Launch) (b0 : Nat) (D : va_G) (cy : Nat → ClassId) (M : Mm) (a0 : Nat) (a1 : Nat) (r : Int32) (hF : f_X6_sumOf M a0 a1 = some r) : Met l yX6_sumOf wsX6_sumOf rm_X6_sumOf (va_Pc [.ref a0, .ref a1] (Pm b0 D cy M)) (Qm b0 D cy M (some (.int r))) 0 0 (BA b0) := by
  refine ct_of [.ref a0, .ref a1] (by decide) rfl ?_
  intro p e s m below meth c CX hP
  obtain ⟨hx, hb, hr, hml, hown0, hts, hlk, hK, hN, hb0, hnm⟩ := id CX
  have hown : s.vm.findClass RX6 = some m.cls := hown0
  have hS : va_S (BA b0) s.heap s.heap [] := va_S.rf
  have hl := lv_entry [.ref a0, .ref a1] (n := 5) (Nat.le_of_ble_eq_true rfl)
  generalize (lg_sl [.ref a0, .ref a1] ++ List.replicate (5 - (lg_sl [.ref a0, .ref a1]).length) Slot.unset).toArray = ls at hl ⊢
  have hl : lv_has ls 5 [(0, .ref a0), (1, .ref a1)] := hl
  unfold f_X6_sumOf at hF
  replace hF := (if_some hF).2
  refine lv_ldc2 (v := 17) hx hb hown (hts (.constantLong RX6 39 17) (by decide +kernel)) dX6_sumOf_0 ?_
  refine lv_lstore_n (lv' := [(2, .long 17), (0, .ref a0), (1, .ref a1)]) hx hb dX6_sumOf_3 rfl hl (by decide) (by first | rfl | simp [cat_rf]) (fun ls hl => ?_)
  refine lv_iconst (v := 0) hx hb dX6_sumOf_4 (by decide) ?_
  refine lv_istore (lv' := [(4, .int 0), (2, .long 17), (0, .ref a0), (1, .ref a1)]) hx hb dX6_sumOf_5 hl (by decide) (by first | rfl | simp [cat_rf]) (fun ls hl => ?_)
  exact nd_X6_sumOf_7 CX _ _ _ _ _ _ _ _ hF hP hS (lv_sub hl [2, 3, 1, 0] rfl)
/-! X7_init -/
theorem iw_X7_init_7 : ∀ w ∈ u_ws RX7 TX7 4, w ∈ wsX7_init := by decide +kernel
abbrev rm_X7_init : Room := { frames := 1, cells := 2, slots := 16, locals := 20 }
theorem gk_X7_init {M : Mm} {a0 : Nat} {r : Mm} (h : f_X7_init M a0 = some r) : mK M a0 = 8 := by
  unfold f_X7_init at h
  exact (if_some h).1
set_option maxHeartbeats 4000000 in
set_option maxRecDepth 100000 in
theorem ct_X7_init (l : Launch) (b0 : Nat) (D : va_G) (cy : Nat → ClassId) (M : Mm) (a0 : Nat) (M1 : Mm) (hF : f_X7_init M a0 = some M1) : Met l yX7_init wsX7_init rm_X7_init (va_Pc [.ref a0] (Pm b0 D cy M)) (Qm b0 D cy M1 none) 2 16 (BA b0) := by
  refine ct_of [.ref a0] (by decide) rfl ?_
  intro p e s m below meth c CX hP
  obtain ⟨hx, hb, hr, hml, hown0, hts, hlk, hK, hN, hb0, hnm⟩ := id CX
  have hown : s.vm.findClass RX7 = some m.cls := hown0
  have hS : va_S (BA b0) s.heap s.heap [] := va_S.rf
  have hl := lv_entry [.ref a0] (n := 1) (Nat.le_of_ble_eq_true rfl)
  generalize (lg_sl [.ref a0] ++ List.replicate (1 - (lg_sl [.ref a0]).length) Slot.unset).toArray = ls at hl ⊢
  have hl : lv_has ls 1 [(0, .ref a0)] := hl
  unfold f_X7_init at hF
  replace hF := (if_some hF).2
  refine lv_aload_n hx hb dX7_init_0 rfl (lv_at hl 0 rfl) ?_
  refine W.objInit hx hb hown (hts (.methodLink RX7 3 objectInit) (by decide +kernel)) (hts (.instanceMethod objectInit) (by decide +kernel)) (hts (.code objectInit ⟨#[0xb1]⟩ 1 none) (by decide +kernel)) rfl (by rw [hml]; exact hl.1) rfl dX7_init_1 (Nat.le_of_ble_eq_true rfl) (Nat.le_of_ble_eq_true rfl) ?_
  refine W.eq (g2 := F0 m 4 ls []) rfl ?_
  refine lv_aload_n hx hb dX7_init_4 rfl (lv_at hl 0 rfl) ?_
  refine lv_bipush (v := 8) hx hb dX7_init_5 (by decide) ?_
  refine xr_newA hx hb hts hK hP hS hb0 hF (by decide +kernel) (Or.inl ⟨rfl, rfl⟩) (by decide) (Nat.le_of_ble_eq_true rfl) (Nat.le_of_ble_eq_true rfl) dX7_init_7 (fun M1 H hF hP hS => ?_)
  refine W.cs (cells' := 1) (slots' := 8) rfl rfl ?_
  refine xr_putR hx hb hts iw_X7_init_7 hown hK hP hS (v := (some (mS M))) hF 7 0 rfl (by decide) tyX7 tyX7_ok nmX7 (by decide +kernel) (Or.inr ⟨rfl, hnm, rfl⟩) (Or.inr ⟨_, rfl⟩) ⟨rfl, rfl, rfl⟩ dX7_init_9 (fun M2 H locs hF hP hS => ?_)
  refine lv_aload_n hx hb dX7_init_12 rfl (lv_at hl 0 rfl) ?_
  refine lv_bipush (v := 8) hx hb dX7_init_13 (by decide) ?_
  refine xr_newA hx hb hts hK hP hS hb0 hF (by decide +kernel) (Or.inl ⟨rfl, rfl⟩) (by decide) (Nat.le_of_ble_eq_true rfl) (Nat.le_of_ble_eq_true rfl) dX7_init_15 (fun M3 H hF hP hS => ?_)
  refine W.cs (cells' := 2) (slots' := 16) rfl rfl ?_
  refine xr_putR hx hb hts iw_X7_init_7 hown hK hP hS (v := (some (mS M2))) hF 7 1 rfl (by decide) tyX7 tyX7_ok nmX7 (by decide +kernel) (Or.inr ⟨rfl, hnm, rfl⟩) (Or.inr ⟨_, rfl⟩) ⟨rfl, rfl, rfl⟩ dX7_init_17 (fun M4 H locs hF hP hS => ?_)
  cases hF
  exact W.vret hx hb hr (fun t ht hW => ⟨rfl, by rw [ht]; exact hP, hS.F ht⟩) hS.2.2 dX7_init_20 hlk
/-! X8_init -/
theorem iw_X8_init_8 : ∀ w ∈ u_ws RX8 TX8 5, w ∈ wsX8_init := by decide +kernel
abbrev rm_X8_init : Room := { frames := 1, cells := 1, slots := 60, locals := 20 }
theorem gk_X8_init {M : Mm} {a0 : Nat} {r : Mm} (h : f_X8_init M a0 = some r) : mK M a0 = 9 := by
  unfold f_X8_init at h
  exact (if_some h).1
set_option maxHeartbeats 4000000 in
set_option maxRecDepth 100000 in
theorem ct_X8_init (l : Launch) (b0 : Nat) (D : va_G) (cy : Nat → ClassId) (M : Mm) (a0 : Nat) (M1 : Mm) (hF : f_X8_init M a0 = some M1) : Met l yX8_init wsX8_init rm_X8_init (va_Pc [.ref a0] (Pm b0 D cy M)) (Qm b0 D cy M1 none) 1 60 (BA b0) := by
  refine ct_of [.ref a0] (by decide) rfl ?_
  intro p e s m below meth c CX hP
  obtain ⟨hx, hb, hr, hml, hown0, hts, hlk, hK, hN, hb0, hnm⟩ := id CX
  have hown : s.vm.findClass RX8 = some m.cls := hown0
  have hS : va_S (BA b0) s.heap s.heap [] := va_S.rf
  have hl := lv_entry [.ref a0] (n := 1) (Nat.le_of_ble_eq_true rfl)
  generalize (lg_sl [.ref a0] ++ List.replicate (1 - (lg_sl [.ref a0]).length) Slot.unset).toArray = ls at hl ⊢
  have hl : lv_has ls 1 [(0, .ref a0)] := hl
  unfold f_X8_init at hF
  replace hF := (if_some hF).2
  refine lv_aload_n hx hb dX8_init_0 rfl (lv_at hl 0 rfl) ?_
  refine W.objInit hx hb hown (hts (.methodLink RX8 3 objectInit) (by decide +kernel)) (hts (.instanceMethod objectInit) (by decide +kernel)) (hts (.code objectInit ⟨#[0xb1]⟩ 1 none) (by decide +kernel)) rfl (by rw [hml]; exact hl.1) rfl dX8_init_1 (Nat.le_of_ble_eq_true rfl) (Nat.le_of_ble_eq_true rfl) ?_
  refine W.eq (g2 := F0 m 4 ls []) rfl ?_
  refine lv_aload_n hx hb dX8_init_4 rfl (lv_at hl 0 rfl) ?_
  refine lv_bipush (v := 60) hx hb dX8_init_5 (by decide) ?_
  refine xr_newA hx hb hts hK hP hS hb0 hF (by decide +kernel) (Or.inr (Or.inl ⟨rfl, rfl⟩)) (by decide) (Nat.le_of_ble_eq_true rfl) (Nat.le_of_ble_eq_true rfl) dX8_init_7 (fun M1 H hF hP hS => ?_)
  refine W.cs (cells' := 1) (slots' := 60) rfl rfl ?_
  refine xr_putR hx hb hts iw_X8_init_8 hown hK hP hS (v := (some (mS M))) hF 8 0 rfl (by decide) tyX8 tyX8_ok nmX8 (by decide +kernel) (Or.inr ⟨rfl, hnm, rfl⟩) (Or.inr ⟨_, rfl⟩) ⟨rfl, rfl, rfl⟩ dX8_init_9 (fun M2 H locs hF hP hS => ?_)
  cases hF
  exact W.vret hx hb hr (fun t ht hW => ⟨rfl, by rw [ht]; exact hP, hS.F ht⟩) hS.2.2 dX8_init_12 hlk
/-! X8_holdLetter -/
theorem iw_X8_holdLetter_4 : ∀ w ∈ u_ws RX4 TX4 9, w ∈ wsX8_holdLetter := by decide +kernel
theorem iw_X8_holdLetter_8 : ∀ w ∈ u_ws RX8 TX8 5, w ∈ wsX8_holdLetter := by decide +kernel
abbrev rm_X8_holdLetter : Room := { frames := 0, cells := 0, slots := 0, locals := 0 }
theorem gk_X8_holdLetter {M : Mm} {a0 : Nat} {a1 : Nat} {r : Mm} (h : f_X8_holdLetter M a0 a1 = some r) : mK M a0 = 9 := by
  unfold f_X8_holdLetter at h
  exact (if_some h).1
set_option maxHeartbeats 4000000 in
set_option maxRecDepth 100000 in
theorem ct_X8_holdLetter (l : Launch) (b0 : Nat) (D : va_G) (cy : Nat → ClassId) (M : Mm) (a0 : Nat) (a1 : Nat) (M1 : Mm) (hF : f_X8_holdLetter M a0 a1 = some M1) : Met l yX8_holdLetter wsX8_holdLetter rm_X8_holdLetter (va_Pc [.ref a0, .ref a1] (Pm b0 D cy M)) (Qm b0 D cy M1 none) 0 0 (BA b0) := by
  refine ct_of [.ref a0, .ref a1] (by decide) rfl ?_
  intro p e s m below meth c CX hP
  obtain ⟨hx, hb, hr, hml, hown0, hts, hlk, hK, hN, hb0, hnm⟩ := id CX
  have hown : s.vm.findClass RX8 = some m.cls := hown0
  have hS : va_S (BA b0) s.heap s.heap [] := va_S.rf
  have hl := lv_entry [.ref a0, .ref a1] (n := 2) (Nat.le_of_ble_eq_true rfl)
  generalize (lg_sl [.ref a0, .ref a1] ++ List.replicate (2 - (lg_sl [.ref a0, .ref a1]).length) Slot.unset).toArray = ls at hl ⊢
  have hl : lv_has ls 2 [(0, .ref a0), (1, .ref a1)] := hl
  unfold f_X8_holdLetter at hF
  replace hF := (if_some hF).2
  refine lv_aload_n hx hb dX8_holdLetter_0 rfl (lv_at hl 0 rfl) ?_
  refine lv_iconst (v := 1) hx hb dX8_holdLetter_1 (by decide) ?_
  refine xr_putI hx hb hts iw_X8_holdLetter_8 hown hK hP hS hF 8 1 rfl (by decide) tyX8 tyX8_ok nmX8 (by decide +kernel) (Or.inl rfl) rfl ⟨rfl, rfl, rfl⟩ dX8_holdLetter_2 (fun M1 H locs hF hP hS => ?_)
  refine lv_aload_n hx hb dX8_holdLetter_5 rfl (lv_at hl 0 rfl) ?_
  refine lv_aload_n hx hb dX8_holdLetter_6 rfl (lv_at hl 1 rfl) ?_
  refine xr_getI hx hb hts iw_X8_holdLetter_4 hown hK hP hF 4 0 rfl (by decide) (by decide +kernel) ⟨rfl, rfl, rfl⟩ dX8_holdLetter_7 (fun v2 hF => ?_)
  refine xr_putI hx hb hts iw_X8_holdLetter_8 hown hK hP hS hF 8 3 rfl (by decide) tyX8 tyX8_ok nmX8 (by decide +kernel) (Or.inl rfl) rfl ⟨rfl, rfl, rfl⟩ dX8_holdLetter_10 (fun M3 H locs hF hP hS => ?_)
  refine lv_aload_n hx hb dX8_holdLetter_13 rfl (lv_at hl 0 rfl) ?_
  refine lv_aload_n hx hb dX8_holdLetter_14 rfl (lv_at hl 1 rfl) ?_
  refine xr_getR hx hb hts iw_X8_holdLetter_4 hown hK hP hF 4 3 rfl (by decide) (by decide +kernel) ⟨rfl, rfl, rfl⟩ dX8_holdLetter_15 (fun v4 hF => ?_)
  refine xr_aL hx hb hK hP hF dX8_holdLetter_18 (fun v5 hF => ?_)
  refine xr_putI hx hb hts iw_X8_holdLetter_8 hown hK hP hS hF 8 4 rfl (by decide) tyX8 tyX8_ok nmX8 (by decide +kernel) (Or.inl rfl) rfl ⟨rfl, rfl, rfl⟩ dX8_holdLetter_19 (fun M6 H locs hF hP hS => ?_)
  cases hF
  exact W.vret hx hb hr (fun t ht hW => ⟨rfl, by rw [ht]; exact hP, hS.F ht⟩) hS.2.2 dX8_holdLetter_22 hlk
/-! J7_fill_d0a16 -/
abbrev rm_J7_fill_d0a16 : Room := { frames := 0, cells := 0, slots := 0, locals := 0 }
set_option maxHeartbeats 4000000 in
set_option maxRecDepth 100000 in
theorem nd_J7_fill_d0a16_6 {p : Program} {l : Launch} {e : Env} {s : State} {m : MethodId} {args : Array Value} {below : List Frame} {meth : Method} {c : Code} {b0 : Nat} {D : va_G} {cy : Nat → ClassId} {M1 : Mm} (CX : Cx yJ7_fill_d0a16 cJ7_fill_d0a16 5 none wsJ7_fill_d0a16 b0 D cy p s m args meth c) : ∀ (fu : Nat), ∀ (M : Mm) (x0 : Nat) (x1 : Int64) (x3 : Int32) (x4 : Int32) (H : Heap) (locs : List Loc) (ls : Array Slot), f_J7_fill_d0a16_L6 fu M x0 x1 x3 x4 = some M1 → Hp b0 D cy M H → va_S (BA b0) s.heap H locs → lv_has ls 5 [(0, .ref x0), (1, .long x1), (3, .int x3), (4, .int x4)] → W p l e rm_J7_fill_d0a16 s m args below meth c H locs 0 0 (MQ below (Qm b0 D cy M1 none) args s 0 0 (BA b0)) (F0 m 6 ls []) := by
  obtain ⟨hx, hb, hr, hml, hown0, hts, hlk, hK, hN, hb0, hnm⟩ := id CX
  have hown : s.vm.findClass RJ7 = some m.cls := hown0
  intro fu
  induction fu with
  | zero =>
    intro M x0 x1 x3 x4 H locs ls hF hP hS hl
    rw [f_J7_fill_d0a16_L6] at hF
    cases hF
  | succ fu ih =>
    intro M x0 x1 x3 x4 H locs ls hF hP hS hl
    rw [f_J7_fill_d0a16_L6] at hF
    refine lv_iload_n hx hb dJ7_fill_d0a16_6 rfl (lv_at hl 2 rfl) ?_
    refine lv_iload hx hb dJ7_fill_d0a16_7 (lv_at hl 3 rfl) ?_
    refine lv_icmp_ge (tgt := 22) hx hb dJ7_fill_d0a16_9 (by decide) (fun c1 => ?_) (fun c1 => ?_)
    · replace hF := it_t hF c1
      cases hF
      exact W.vret hx hb hr (fun t ht hW => ⟨rfl, by rw [ht]; exact hP, hS.F ht⟩) hS.2.2 dJ7_fill_d0a16_22 hlk
    · replace hF := it_f hF c1
      refine lv_aload_n hx hb dJ7_fill_d0a16_12 rfl (lv_at hl 0 rfl) ?_
      refine lv_iload_n hx hb dJ7_fill_d0a16_13 rfl (lv_at hl 2 rfl) ?_
      refine lv_lload_n hx hb dJ7_fill_d0a16_14 rfl (lv_at hl 1 rfl) ?_
      refine xr_wJ hx hb hK hP hS hF dJ7_fill_d0a16_15 (fun M2 H locs hF hP hS => ?_)
      refine lv_iinc (v := x3 + 1) (lv' := [(3, .int (x3 + 1)), (0, .ref x0), (1, .long x1), (4, .int x4)]) hx hb dJ7_fill_d0a16_16 hl (k := 2) rfl (by rfl) (by decide) rfl (fun ls hl => ?_)
      refine lv_goto (tgt := 6) hx hb dJ7_fill_d0a16_19 (by decide) ?_
      exact ih _ _ _ _ _ _ _ _ hF hP hS (lv_sub hl [1, 2, 0, 3] rfl)
set_option maxHeartbeats 4000000 in
set_option maxRecDepth 100000 in
theorem ct_J7_fill_d0a16 (l : Launch) (b0 : Nat) (D : va_G) (cy : Nat → ClassId) (M : Mm) (a0 : Nat) (a1 : Int64) (M1 : Mm) (hF : f_J7_fill_d0a16 M a0 a1 = some M1) : Met l yJ7_fill_d0a16 wsJ7_fill_d0a16 rm_J7_fill_d0a16 (va_Pc [.ref a0, .long a1] (Pm b0 D cy M)) (Qm b0 D cy M1 none) 0 0 (BA b0) := by
  refine ct_of [.ref a0, .long a1] (by decide) rfl ?_
  intro p e s m below meth c CX hP
  obtain ⟨hx, hb, hr, hml, hown0, hts, hlk, hK, hN, hb0, hnm⟩ := id CX
  have hown : s.vm.findClass RJ7 = some m.cls := hown0
  have hS : va_S (BA b0) s.heap s.heap [] := va_S.rf
  have hl := lv_entry [.ref a0, .long a1] (n := 5) (Nat.le_of_ble_eq_true rfl)
  generalize (lg_sl [.ref a0, .long a1] ++ List.replicate (5 - (lg_sl [.ref a0, .long a1]).length) Slot.unset).toArray = ls at hl ⊢
  have hl : lv_has ls 5 [(0, .ref a0), (1, .long a1)] := hl
  unfold f_J7_fill_d0a16 at hF
  refine lv_iconst (v := 0) hx hb dJ7_fill_d0a16_0 (by decide) ?_
  refine lv_istore_n (lv' := [(3, .int 0), (0, .ref a0), (1, .long a1)]) hx hb dJ7_fill_d0a16_1 rfl hl (by decide) (by first | rfl | simp [cat_rf]) (fun ls hl => ?_)
  refine lv_aload_n hx hb dJ7_fill_d0a16_2 rfl (lv_at hl 1 rfl) ?_
  refine xr_aL hx hb hK hP hF dJ7_fill_d0a16_3 (fun v1 hF => ?_)
  refine lv_istore (lv' := [(4, .int v1), (3, .int 0), (0, .ref a0), (1, .long a1)]) hx hb dJ7_fill_d0a16_4 hl (by decide) (by first | rfl | simp [cat_rf]) (fun ls hl => ?_)
  exact nd_J7_fill_d0a16_6 CX _ _ _ _ _ _ _ _ _ hF hP hS (lv_sub hl [2, 3, 1, 0] rfl)
