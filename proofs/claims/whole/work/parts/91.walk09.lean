/-! X11_head -/
theorem iw_X11_head_11 : ∀ w ∈ u_ws RX11 TX11 58, w ∈ wsX11_head := by decide +kernel
abbrev rm_X11_head : Room := { frames := 1, cells := 0, slots := 0, locals := 24 }
theorem gk_X11_head {M : Mm} {a0 : Nat} {a1 : Int32} {a2 : Int32} {a3 : Int32} {r : Mm} (h : f_X11_head M a0 a1 a2 a3 = some r) : mK M a0 = 12 := by
  unfold f_X11_head at h
  exact (if_some h).1
set_option maxHeartbeats 4000000 in
set_option maxRecDepth 100000 in
theorem ct_X11_head (l : Launch) (b0 : Nat) (D : va_G) (cy : Nat → ClassId) (M : Mm) (a0 : Nat) (a1 : Int32) (a2 : Int32) (a3 : Int32) (M1 : Mm) (hF : f_X11_head M a0 a1 a2 a3 = some M1) : Met l yX11_head wsX11_head rm_X11_head (va_Pc [.ref a0, .int a1, .int a2, .int a3] (Pm b0 D cy M)) (Qm b0 D cy M1 none) 0 0 (BA b0) := by
  refine ct_of [.ref a0, .int a1, .int a2, .int a3] (by decide) rfl ?_
  intro p e s m below meth c CX hP
  obtain ⟨hx, hb, hr, hml, hown0, hts, hlk, hK, hN, hb0, hnm⟩ := id CX
  have hown : s.vm.findClass RX11 = some m.cls := hown0
  have hS : va_S (BA b0) s.heap s.heap [] := va_S.rf
  have hl := lv_entry [.ref a0, .int a1, .int a2, .int a3] (n := 4) (Nat.le_of_ble_eq_true rfl)
  generalize (lg_sl [.ref a0, .int a1, .int a2, .int a3] ++ List.replicate (4 - (lg_sl [.ref a0, .int a1, .int a2, .int a3]).length) Slot.unset).toArray = ls at hl ⊢
  have hl : lv_has ls 4 [(0, .ref a0), (1, .int a1), (2, .int a2), (3, .int a3)] := hl
  unfold f_X11_head at hF
  replace hF := (if_some hF).2
  refine lv_aload_n hx hb dX11_head_0 rfl (lv_at hl 0 rfl) ?_
  refine lv_iconst (v := 0) hx hb dX11_head_1 (by decide) ?_
  refine xr_putI hx hb hts iw_X11_head_11 hown hK hP hS hF 11 42 rfl (by decide) tyX11 tyX11_ok nmX11 (by decide +kernel) (Or.inl rfl) rfl ⟨rfl, rfl, rfl⟩ dX11_head_2 (fun M1 H locs hF hP hS => ?_)
  refine lv_aload_n hx hb dX11_head_5 rfl (lv_at hl 0 rfl) ?_
  refine lv_iload_n hx hb dX11_head_6 rfl (lv_at hl 1 rfl) ?_
  refine lv_i2l hx hb dX11_head_7 rfl ?_
  refine lv_iconst (v := 3) hx hb dX11_head_8 (by decide) ?_
  obtain ⟨M3, h2, hF⟩ := ob_some hF
  refine xr_call0 (va_runV (As := [.long a1.toInt64, .int 3]) (rest := []) ⟨hx, hb, hml, hown, hts⟩ (ct_X11_say l b0 D cy M1 a0 a1.toInt64 3 M3 h2) (cwV 2 hts gX11_head_X11_say rfl rfl rfl (by decide +kernel) ⟨Nat.le_of_ble_eq_true rfl, Nat.le_of_ble_eq_true rfl⟩) (xp_V hP hK hN hS hb0 11 rfl (gk_X11_say h2)) rfl rfl hl.1 rfl (lv_room (Nat.le_of_ble_eq_true rfl)) dX11_head_9 ⟨Nat.le_of_ble_eq_true rfl, Nat.le_of_ble_eq_true rfl⟩) hS (fun H locs hP hS => ?_)
  refine lv_aload_n hx hb dX11_head_12 rfl (lv_at hl 0 rfl) ?_
  refine lv_iload_n hx hb dX11_head_13 rfl (lv_at hl 2 rfl) ?_
  refine lv_i2l hx hb dX11_head_14 rfl ?_
  refine lv_iconst (v := 3) hx hb dX11_head_15 (by decide) ?_
  obtain ⟨M5, h4, hF⟩ := ob_some hF
  refine xr_call0 (va_runV (As := [.long a2.toInt64, .int 3]) (rest := []) ⟨hx, hb, hml, hown, hts⟩ (ct_X11_say l b0 D cy M3 a0 a2.toInt64 3 M5 h4) (cwV 2 hts gX11_head_X11_say rfl rfl rfl (by decide +kernel) ⟨Nat.le_of_ble_eq_true rfl, Nat.le_of_ble_eq_true rfl⟩) (xp_V hP hK hN hS hb0 11 rfl (gk_X11_say h4)) rfl rfl hl.1 rfl (lv_room (Nat.le_of_ble_eq_true rfl)) dX11_head_16 ⟨Nat.le_of_ble_eq_true rfl, Nat.le_of_ble_eq_true rfl⟩) hS (fun H locs hP hS => ?_)
  refine lv_aload_n hx hb dX11_head_19 rfl (lv_at hl 0 rfl) ?_
  refine lv_iload_n hx hb dX11_head_20 rfl (lv_at hl 3 rfl) ?_
  refine lv_ldc (v := 65536) hx hb hown (hts (.constant RX11 207 65536) (by decide +kernel)) dX11_head_21 ?_
  refine lv_irem hx hb dX11_head_23 (by decide) ?_
  refine lv_i2l hx hb dX11_head_24 rfl ?_
  refine lv_bipush (v := 16) hx hb dX11_head_25 (by decide) ?_
  obtain ⟨M7, h6, hF⟩ := ob_some hF
  refine xr_call0 (va_runV (As := [.long ((a3 - a3 / 65536 * 65536).toInt64), .int 16]) (rest := []) ⟨hx, hb, hml, hown, hts⟩ (ct_X11_say l b0 D cy M5 a0 ((a3 - a3 / 65536 * 65536).toInt64) 16 M7 h6) (cwV 2 hts gX11_head_X11_say rfl rfl rfl (by decide +kernel) ⟨Nat.le_of_ble_eq_true rfl, Nat.le_of_ble_eq_true rfl⟩) (xp_V hP hK hN hS hb0 11 rfl (gk_X11_say h6)) rfl rfl hl.1 rfl (lv_room (Nat.le_of_ble_eq_true rfl)) dX11_head_27 ⟨Nat.le_of_ble_eq_true rfl, Nat.le_of_ble_eq_true rfl⟩) hS (fun H locs hP hS => ?_)
  cases hF
  exact W.vret hx hb hr (fun t ht hW => ⟨rfl, by rw [ht]; exact hP, hS.F ht⟩) hS.2.2 dX11_head_30 hlk
/-! X11_sendWhole -/
theorem iw_X11_sendWhole_11 : ∀ w ∈ u_ws RX11 TX11 58, w ∈ wsX11_sendWhole := by decide +kernel
abbrev rm_X11_sendWhole : Room := { frames := 2, cells := 0, slots := 0, locals := 53 }
set_option maxHeartbeats 4000000 in
set_option maxRecDepth 100000 in
theorem nd_X11_sendWhole_102 {p : Program} {l : Launch} {e : Env} {s : State} {m : MethodId} {args : Array Value} {below : List Frame} {meth : Method} {c : Code} {b0 : Nat} {D : va_G} {cy : Nat → ClassId} {M1 : Mm} {r : Int32} (CX : Cx yX11_sendWhole cX11_sendWhole 4 (some .int) wsX11_sendWhole b0 D cy p s m args meth c) (k52 : Mm → Nat → Int32 → Int32 → Int32 → Option (Mm × Int32)) (hk52 : ∀ (M : Mm) (x0 : Nat) (x1 : Int32) (x2 : Int32) (x3 : Int32) (H : Heap) (locs : List Loc) (ls : Array Slot), k52 M x0 x1 x2 x3 = some (M1, r) → Hp b0 D cy M H → va_S (BA b0) s.heap H locs → lv_has ls 4 [(0, .ref x0), (1, .int x1), (2, .int x2), (3, .int x3)] → W p l e rm_X11_sendWhole s m args below meth c H locs 0 0 (MQ below (Qm b0 D cy M1 (some (.int r))) args s 0 0 (BA b0)) (F0 m 52 ls [])) : ∀ (M : Mm) (x0 : Nat) (x1 : Int32) (x2 : Int32) (x3 : Int32) (H : Heap) (locs : List Loc) (ls : Array Slot), f_X11_sendWhole_J102 k52 M x0 x1 x2 x3 = some (M1, r) → Hp b0 D cy M H → va_S (BA b0) s.heap H locs → lv_has ls 4 [(0, .ref x0), (1, .int x1), (2, .int x2), (3, .int x3)] → W p l e rm_X11_sendWhole s m args below meth c H locs 0 0 (MQ below (Qm b0 D cy M1 (some (.int r))) args s 0 0 (BA b0)) (F0 m 102 ls []) := by
  obtain ⟨hx, hb, hr, hml, hown0, hts, hlk, hK, hN, hb0, hnm⟩ := id CX
  have hown : s.vm.findClass RX11 = some m.cls := hown0
  intro M x0 x1 x2 x3 H locs ls hF hP hS hl
  unfold f_X11_sendWhole_J102 at hF
  refine lv_iinc (v := x3 + 1) (lv' := [(3, .int (x3 + 1)), (0, .ref x0), (1, .int x1), (2, .int x2)]) hx hb dX11_sendWhole_102 hl (k := 3) rfl (by rfl) (by decide) rfl (fun ls hl => ?_)
  refine lv_goto (tgt := 52) hx hb dX11_sendWhole_105 (by decide) ?_
  exact hk52 _ _ _ _ _ _ _ _ hF hP hS (lv_sub hl [1, 2, 3, 0] rfl)
set_option maxHeartbeats 4000000 in
set_option maxRecDepth 100000 in
theorem nd_X11_sendWhole_52 {p : Program} {l : Launch} {e : Env} {s : State} {m : MethodId} {args : Array Value} {below : List Frame} {meth : Method} {c : Code} {b0 : Nat} {D : va_G} {cy : Nat → ClassId} {M1 : Mm} {r : Int32} (CX : Cx yX11_sendWhole cX11_sendWhole 4 (some .int) wsX11_sendWhole b0 D cy p s m args meth c) : ∀ (fu : Nat), ∀ (M : Mm) (x0 : Nat) (x1 : Int32) (x2 : Int32) (x3 : Int32) (H : Heap) (locs : List Loc) (ls : Array Slot), f_X11_sendWhole_L52 fu M x0 x1 x2 x3 = some (M1, r) → Hp b0 D cy M H → va_S (BA b0) s.heap H locs → lv_has ls 4 [(0, .ref x0), (1, .int x1), (2, .int x2), (3, .int x3)] → W p l e rm_X11_sendWhole s m args below meth c H locs 0 0 (MQ below (Qm b0 D cy M1 (some (.int r))) args s 0 0 (BA b0)) (F0 m 52 ls []) := by
  obtain ⟨hx, hb, hr, hml, hown0, hts, hlk, hK, hN, hb0, hnm⟩ := id CX
  have hown : s.vm.findClass RX11 = some m.cls := hown0
  intro fu
  induction fu with
  | zero =>
    intro M x0 x1 x2 x3 H locs ls hF hP hS hl
    rw [f_X11_sendWhole_L52] at hF
    cases hF
  | succ fu ih =>
    intro M x0 x1 x2 x3 H locs ls hF hP hS hl
    rw [f_X11_sendWhole_L52] at hF
    refine lv_iload_n hx hb dX11_sendWhole_52 rfl (lv_at hl 3 rfl) ?_
    refine lv_aload_n hx hb dX11_sendWhole_53 rfl (lv_at hl 0 rfl) ?_
    refine xr_getI hx hb hts iw_X11_sendWhole_11 hown hK hP hF 11 1 rfl (by decide) (by decide +kernel) ⟨rfl, rfl, rfl⟩ dX11_sendWhole_54 (fun v1 hF => ?_)
    refine lv_icmp_ge (tgt := 108) hx hb dX11_sendWhole_57 (by decide) (fun c2 => ?_) (fun c2 => ?_)
    · replace hF := it_t hF c2
      refine lv_aload_n hx hb dX11_sendWhole_108 rfl (lv_at hl 0 rfl) ?_
      refine lv_iconst (v := 0) hx hb dX11_sendWhole_109 (by decide) ?_
      refine lv_iload_n hx hb dX11_sendWhole_110 rfl (lv_at hl 1 rfl) ?_
      refine lv_iload_n hx hb dX11_sendWhole_111 rfl (lv_at hl 2 rfl) ?_
      refine lv_iconst (v := 1) hx hb dX11_sendWhole_112 (by decide) ?_
      obtain ⟨M4, v5, h3, hF⟩ := ob2_some hF
      refine xr_call1 (va_runV (As := [.int 0, .int x1, .int x2, .int 1]) (rest := []) ⟨hx, hb, hml, hown, hts⟩ (ct_X11_laid l b0 D cy M x0 0 x1 x2 1 M4 v5 h3) (cwV 4 hts gX11_sendWhole_X11_laid rfl rfl rfl (by decide +kernel) ⟨Nat.le_of_ble_eq_true rfl, Nat.le_of_ble_eq_true rfl⟩) (xp_V hP hK hN hS hb0 11 rfl (gk_X11_laid h3)) rfl rfl hl.1 rfl (lv_room (Nat.le_of_ble_eq_true rfl)) dX11_sendWhole_113 ⟨Nat.le_of_ble_eq_true rfl, Nat.le_of_ble_eq_true rfl⟩) hS (fun H locs hP hS => ?_)
      cases hF
      exact W.iret hx hb hr (fun t ht hW => ⟨rfl, by rw [ht]; exact hP, hS.F ht⟩) hS.2.2 dX11_sendWhole_116 hlk
    · replace hF := it_f hF c2
      refine lv_aload_n hx hb dX11_sendWhole_60 rfl (lv_at hl 0 rfl) ?_
      refine lv_aload_n hx hb dX11_sendWhole_61 rfl (lv_at hl 0 rfl) ?_
      refine xr_getR hx hb hts iw_X11_sendWhole_11 hown hK hP hF 11 8 rfl (by decide) (by decide +kernel) ⟨rfl, rfl, rfl⟩ dX11_sendWhole_62 (fun v6 hF => ?_)
      refine lv_iload_n hx hb dX11_sendWhole_65 rfl (lv_at hl 3 rfl) ?_
      refine xr_aJ hx hb hK hP hF dX11_sendWhole_66 (fun v7 hF => ?_)
      refine lv_aload_n hx hb dX11_sendWhole_67 rfl (lv_at hl 0 rfl) ?_
      refine xr_getR hx hb hts iw_X11_sendWhole_11 hown hK hP hF 11 3 rfl (by decide) (by decide +kernel) ⟨rfl, rfl, rfl⟩ dX11_sendWhole_68 (fun v8 hF => ?_)
      refine lv_iload_n hx hb dX11_sendWhole_71 rfl (lv_at hl 3 rfl) ?_
      refine xr_aI hx hb hK hP hF dX11_sendWhole_72 (fun v9 hF => ?_)
      obtain ⟨M11, h10, hF⟩ := ob_some hF
      refine xr_call0 (va_runV (As := [.long v7, .int v9]) (rest := []) ⟨hx, hb, hml, hown, hts⟩ (ct_X11_say l b0 D cy M x0 v7 v9 M11 h10) (cwV 2 hts gX11_sendWhole_X11_say rfl rfl rfl (by decide +kernel) ⟨Nat.le_of_ble_eq_true rfl, Nat.le_of_ble_eq_true rfl⟩) (xp_V hP hK hN hS hb0 11 rfl (gk_X11_say h10)) rfl rfl hl.1 rfl (lv_room (Nat.le_of_ble_eq_true rfl)) dX11_sendWhole_73 ⟨Nat.le_of_ble_eq_true rfl, Nat.le_of_ble_eq_true rfl⟩) hS (fun H locs hP hS => ?_)
      refine lv_aload_n hx hb dX11_sendWhole_76 rfl (lv_at hl 0 rfl) ?_
      refine lv_iload_n hx hb dX11_sendWhole_77 rfl (lv_at hl 3 rfl) ?_
      obtain ⟨v13, h12, hF⟩ := ob_some hF
      refine xr_call1 (va_runV (As := [.int x3]) (rest := []) ⟨hx, hb, hml, hown, hts⟩ (ct_X11_runs l b0 D cy M11 x0 x3 v13 h12) (cwV 1 hts gX11_sendWhole_X11_runs rfl rfl rfl (by decide +kernel) ⟨Nat.le_of_ble_eq_true rfl, Nat.le_of_ble_eq_true rfl⟩) (xp_V hP hK hN hS hb0 11 rfl (gk_X11_runs h12)) rfl rfl hl.1 rfl (lv_room (Nat.le_of_ble_eq_true rfl)) dX11_sendWhole_78 ⟨Nat.le_of_ble_eq_true rfl, Nat.le_of_ble_eq_true rfl⟩) hS (fun H locs hP hS => ?_)
      refine lv_if_eq (tgt := 102) hx hb dX11_sendWhole_81 (by decide) (fun c14 => ?_) (fun c14 => ?_)
      · replace hF := it_t hF c14
        exact nd_X11_sendWhole_102 CX (f_X11_sendWhole_L52 fu) ih _ _ _ _ _ _ _ _ hF hP hS (lv_sub hl [0, 1, 2, 3] rfl)
      · replace hF := it_f hF c14
        refine lv_aload_n hx hb dX11_sendWhole_84 rfl (lv_at hl 0 rfl) ?_
        refine lv_aload_n hx hb dX11_sendWhole_85 rfl (lv_at hl 0 rfl) ?_
        refine xr_getR hx hb hts iw_X11_sendWhole_11 hown hK hP hF 11 11 rfl (by decide) (by decide +kernel) ⟨rfl, rfl, rfl⟩ dX11_sendWhole_86 (fun v15 hF => ?_)
        refine lv_bipush (v := 8) hx hb dX11_sendWhole_89 (by decide) ?_
        refine lv_iload_n hx hb dX11_sendWhole_91 rfl (lv_at hl 1 rfl) ?_
        refine lv_imul hx hb dX11_sendWhole_92 ?_
        refine lv_iload_n hx hb dX11_sendWhole_93 rfl (lv_at hl 3 rfl) ?_
        refine lv_iadd hx hb dX11_sendWhole_94 ?_
        refine xr_aI hx hb hK hP hF dX11_sendWhole_95 (fun v16 hF => ?_)
        refine lv_i2l hx hb dX11_sendWhole_96 rfl ?_
        refine lv_bipush (v := 8) hx hb dX11_sendWhole_97 (by decide) ?_
        obtain ⟨M18, h17, hF⟩ := ob_some hF
        refine xr_call0 (va_runV (As := [.long v16.toInt64, .int 8]) (rest := []) ⟨hx, hb, hml, hown, hts⟩ (ct_X11_say l b0 D cy M11 x0 v16.toInt64 8 M18 h17) (cwV 2 hts gX11_sendWhole_X11_say rfl rfl rfl (by decide +kernel) ⟨Nat.le_of_ble_eq_true rfl, Nat.le_of_ble_eq_true rfl⟩) (xp_V hP hK hN hS hb0 11 rfl (gk_X11_say h17)) rfl rfl hl.1 rfl (lv_room (Nat.le_of_ble_eq_true rfl)) dX11_sendWhole_99 ⟨Nat.le_of_ble_eq_true rfl, Nat.le_of_ble_eq_true rfl⟩) hS (fun H locs hP hS => ?_)
        exact nd_X11_sendWhole_102 CX (f_X11_sendWhole_L52 fu) ih _ _ _ _ _ _ _ _ hF hP hS (lv_sub hl [0, 1, 2, 3] rfl)
theorem gk_X11_sendWhole {M : Mm} {a0 : Nat} {a1 : Int32} {a2 : Int32} {r : (Mm × Int32)} (h : f_X11_sendWhole M a0 a1 a2 = some r) : mK M a0 = 12 := by
  unfold f_X11_sendWhole at h
  exact (if_some h).1
set_option maxHeartbeats 4000000 in
set_option maxRecDepth 100000 in
theorem ct_X11_sendWhole (l : Launch) (b0 : Nat) (D : va_G) (cy : Nat → ClassId) (M : Mm) (a0 : Nat) (a1 : Int32) (a2 : Int32) (M1 : Mm) (r : Int32) (hF : f_X11_sendWhole M a0 a1 a2 = some (M1, r)) : Met l yX11_sendWhole wsX11_sendWhole rm_X11_sendWhole (va_Pc [.ref a0, .int a1, .int a2] (Pm b0 D cy M)) (Qm b0 D cy M1 (some (.int r))) 0 0 (BA b0) := by
  refine ct_of [.ref a0, .int a1, .int a2] (by decide) rfl ?_
  intro p e s m below meth c CX hP
  obtain ⟨hx, hb, hr, hml, hown0, hts, hlk, hK, hN, hb0, hnm⟩ := id CX
  have hown : s.vm.findClass RX11 = some m.cls := hown0
  have hS : va_S (BA b0) s.heap s.heap [] := va_S.rf
  have hl := lv_entry [.ref a0, .int a1, .int a2] (n := 4) (Nat.le_of_ble_eq_true rfl)
  generalize (lg_sl [.ref a0, .int a1, .int a2] ++ List.replicate (4 - (lg_sl [.ref a0, .int a1, .int a2]).length) Slot.unset).toArray = ls at hl ⊢
  have hl : lv_has ls 4 [(0, .ref a0), (1, .int a1), (2, .int a2)] := hl
  unfold f_X11_sendWhole at hF
  replace hF := (if_some hF).2
  refine lv_aload_n hx hb dX11_sendWhole_0 rfl (lv_at hl 0 rfl) ?_
  refine xr_getR hx hb hts iw_X11_sendWhole_11 hown hK hP hF 11 10 rfl (by decide) (by decide +kernel) ⟨rfl, rfl, rfl⟩ dX11_sendWhole_1 (fun v1 hF => ?_)
  refine lv_iload_n hx hb dX11_sendWhole_4 rfl (lv_at hl 1 rfl) ?_
  refine lv_aload_n hx hb dX11_sendWhole_5 rfl (lv_at hl 0 rfl) ?_
  refine xr_getR hx hb hts iw_X11_sendWhole_11 hown hK hP hF 11 10 rfl (by decide) (by decide +kernel) ⟨rfl, rfl, rfl⟩ dX11_sendWhole_6 (fun v2 hF => ?_)
  refine lv_iload_n hx hb dX11_sendWhole_9 rfl (lv_at hl 1 rfl) ?_
  refine xr_aI hx hb hK hP hF dX11_sendWhole_10 (fun v3 hF => ?_)
  refine lv_iconst (v := 1) hx hb dX11_sendWhole_11 (by decide) ?_
  refine lv_iadd hx hb dX11_sendWhole_12 ?_
  refine lv_bipush (v := 16) hx hb dX11_sendWhole_13 (by decide) ?_
  refine lv_irem hx hb dX11_sendWhole_15 (by decide) ?_
  refine xr_wI hx hb hK hP hS hF dX11_sendWhole_16 (fun M4 H locs hF hP hS => ?_)
  refine lv_aload_n hx hb dX11_sendWhole_17 rfl (lv_at hl 0 rfl) ?_
  refine xr_getR hx hb hts iw_X11_sendWhole_11 hown hK hP hF 11 13 rfl (by decide) (by decide +kernel) ⟨rfl, rfl, rfl⟩ dX11_sendWhole_18 (fun v5 hF => ?_)
  refine lv_iload_n hx hb dX11_sendWhole_21 rfl (lv_at hl 1 rfl) ?_
  refine lv_iconst (v := 0) hx hb dX11_sendWhole_22 (by decide) ?_
  refine xr_wI hx hb hK hP hS hF dX11_sendWhole_23 (fun M6 H locs hF hP hS => ?_)
  refine lv_aload_n hx hb dX11_sendWhole_24 rfl (lv_at hl 0 rfl) ?_
  refine xr_getR hx hb hts iw_X11_sendWhole_11 hown hK hP hF 11 12 rfl (by decide) (by decide +kernel) ⟨rfl, rfl, rfl⟩ dX11_sendWhole_25 (fun v7 hF => ?_)
  refine lv_iload_n hx hb dX11_sendWhole_28 rfl (lv_at hl 1 rfl) ?_
  refine lv_iconst (v := 0) hx hb dX11_sendWhole_29 (by decide) ?_
  refine xr_wZ hx hb hK hP hS hF dX11_sendWhole_30 (fun M8 H locs hF hP hS => ?_)
  refine lv_aload_n hx hb dX11_sendWhole_31 rfl (lv_at hl 0 rfl) ?_
  refine lv_iconst (v := 0) hx hb dX11_sendWhole_32 (by decide) ?_
  refine lv_iload_n hx hb dX11_sendWhole_33 rfl (lv_at hl 1 rfl) ?_
  refine lv_iload_n hx hb dX11_sendWhole_34 rfl (lv_at hl 2 rfl) ?_
  obtain ⟨M10, h9, hF⟩ := ob_some hF
  refine xr_call0 (va_runV (As := [.int 0, .int a1, .int a2]) (rest := []) ⟨hx, hb, hml, hown, hts⟩ (ct_X11_head l b0 D cy M8 a0 0 a1 a2 M10 h9) (cwV 3 hts gX11_sendWhole_X11_head rfl rfl rfl (by decide +kernel) ⟨Nat.le_of_ble_eq_true rfl, Nat.le_of_ble_eq_true rfl⟩) (xp_V hP hK hN hS hb0 11 rfl (gk_X11_head h9)) rfl rfl hl.1 rfl (lv_room (Nat.le_of_ble_eq_true rfl)) dX11_sendWhole_35 ⟨Nat.le_of_ble_eq_true rfl, Nat.le_of_ble_eq_true rfl⟩) hS (fun H locs hP hS => ?_)
  refine lv_aload_n hx hb dX11_sendWhole_38 rfl (lv_at hl 0 rfl) ?_
  refine lv_aload_n hx hb dX11_sendWhole_39 rfl (lv_at hl 0 rfl) ?_
  refine xr_getR hx hb hts iw_X11_sendWhole_11 hown hK hP hF 11 10 rfl (by decide) (by decide +kernel) ⟨rfl, rfl, rfl⟩ dX11_sendWhole_40 (fun v11 hF => ?_)
  refine lv_iload_n hx hb dX11_sendWhole_43 rfl (lv_at hl 1 rfl) ?_
  refine xr_aI hx hb hK hP hF dX11_sendWhole_44 (fun v12 hF => ?_)
  refine lv_i2l hx hb dX11_sendWhole_45 rfl ?_
  refine lv_iconst (v := 4) hx hb dX11_sendWhole_46 (by decide) ?_
  obtain ⟨M14, h13, hF⟩ := ob_some hF
  refine xr_call0 (va_runV (As := [.long v12.toInt64, .int 4]) (rest := []) ⟨hx, hb, hml, hown, hts⟩ (ct_X11_say l b0 D cy M10 a0 v12.toInt64 4 M14 h13) (cwV 2 hts gX11_sendWhole_X11_say rfl rfl rfl (by decide +kernel) ⟨Nat.le_of_ble_eq_true rfl, Nat.le_of_ble_eq_true rfl⟩) (xp_V hP hK hN hS hb0 11 rfl (gk_X11_say h13)) rfl rfl hl.1 rfl (lv_room (Nat.le_of_ble_eq_true rfl)) dX11_sendWhole_47 ⟨Nat.le_of_ble_eq_true rfl, Nat.le_of_ble_eq_true rfl⟩) hS (fun H locs hP hS => ?_)
  refine lv_iconst (v := 0) hx hb dX11_sendWhole_50 (by decide) ?_
  refine lv_istore_n (lv' := [(3, .int 0), (0, .ref a0), (1, .int a1), (2, .int a2)]) hx hb dX11_sendWhole_51 rfl hl (by decide) (by first | rfl | simp [cat_rf]) (fun ls hl => ?_)
  exact nd_X11_sendWhole_52 CX _ _ _ _ _ _ _ _ _ hF hP hS (lv_sub hl [1, 2, 3, 0] rfl)
/-! X11_sendPart -/
theorem iw_X11_sendPart_11 : ∀ w ∈ u_ws RX11 TX11 58, w ∈ wsX11_sendPart := by decide +kernel
abbrev rm_X11_sendPart : Room := { frames := 4, cells := 0, slots := 0, locals := 98 }
set_option maxHeartbeats 4000000 in
set_option maxRecDepth 100000 in
theorem nd_X11_sendPart_102 {p : Program} {l : Launch} {e : Env} {s : State} {m : MethodId} {args : Array Value} {below : List Frame} {meth : Method} {c : Code} {b0 : Nat} {D : va_G} {cy : Nat → ClassId} {M1 : Mm} {r : Int32} (CX : Cx yX11_sendPart cX11_sendPart 5 (some .int) wsX11_sendPart b0 D cy p s m args meth c) (k21 : Mm → Nat → Int32 → Int32 → Int32 → Option (Mm × Int32)) (hk21 : ∀ (M : Mm) (x0 : Nat) (x1 : Int32) (x2 : Int32) (x3 : Int32) (H : Heap) (locs : List Loc) (ls : Array Slot), k21 M x0 x1 x2 x3 = some (M1, r) → Hp b0 D cy M H → va_S (BA b0) s.heap H locs → lv_has ls 5 [(0, .ref x0), (1, .int x1), (2, .int x2), (3, .int x3)] → W p l e rm_X11_sendPart s m args below meth c H locs 0 0 (MQ below (Qm b0 D cy M1 (some (.int r))) args s 0 0 (BA b0)) (F0 m 21 ls [])) : ∀ (M : Mm) (x0 : Nat) (x1 : Int32) (x2 : Int32) (x3 : Int32) (H : Heap) (locs : List Loc) (ls : Array Slot), f_X11_sendPart_J102 k21 M x0 x1 x2 x3 = some (M1, r) → Hp b0 D cy M H → va_S (BA b0) s.heap H locs → lv_has ls 5 [(0, .ref x0), (1, .int x1), (2, .int x2), (3, .int x3)] → W p l e rm_X11_sendPart s m args below meth c H locs 0 0 (MQ below (Qm b0 D cy M1 (some (.int r))) args s 0 0 (BA b0)) (F0 m 102 ls []) := by
  obtain ⟨hx, hb, hr, hml, hown0, hts, hlk, hK, hN, hb0, hnm⟩ := id CX
  have hown : s.vm.findClass RX11 = some m.cls := hown0
  intro M x0 x1 x2 x3 H locs ls hF hP hS hl
  unfold f_X11_sendPart_J102 at hF
  refine lv_iinc (v := x3 + 1) (lv' := [(3, .int (x3 + 1)), (0, .ref x0), (1, .int x1), (2, .int x2)]) hx hb dX11_sendPart_102 hl (k := 3) rfl (by rfl) (by decide) rfl (fun ls hl => ?_)
  refine lv_goto (tgt := 21) hx hb dX11_sendPart_105 (by decide) ?_
  exact hk21 _ _ _ _ _ _ _ _ hF hP hS (lv_sub hl [1, 2, 3, 0] rfl)
set_option maxHeartbeats 4000000 in
set_option maxRecDepth 100000 in
theorem nd_X11_sendPart_81 {p : Program} {l : Launch} {e : Env} {s : State} {m : MethodId} {args : Array Value} {below : List Frame} {meth : Method} {c : Code} {b0 : Nat} {D : va_G} {cy : Nat → ClassId} {M1 : Mm} {r : Int32} (CX : Cx yX11_sendPart cX11_sendPart 5 (some .int) wsX11_sendPart b0 D cy p s m args meth c) (k21 : Mm → Nat → Int32 → Int32 → Int32 → Option (Mm × Int32)) (hk21 : ∀ (M : Mm) (x0 : Nat) (x1 : Int32) (x2 : Int32) (x3 : Int32) (H : Heap) (locs : List Loc) (ls : Array Slot), k21 M x0 x1 x2 x3 = some (M1, r) → Hp b0 D cy M H → va_S (BA b0) s.heap H locs → lv_has ls 5 [(0, .ref x0), (1, .int x1), (2, .int x2), (3, .int x3)] → W p l e rm_X11_sendPart s m args below meth c H locs 0 0 (MQ below (Qm b0 D cy M1 (some (.int r))) args s 0 0 (BA b0)) (F0 m 21 ls [])) : ∀ (M : Mm) (x0 : Nat) (x1 : Int32) (x2 : Int32) (x3 : Int32) (x4 : Int32) (H : Heap) (locs : List Loc) (ls : Array Slot), f_X11_sendPart_J81 k21 M x0 x1 x2 x3 x4 = some (M1, r) → Hp b0 D cy M H → va_S (BA b0) s.heap H locs → lv_has ls 5 [(0, .ref x0), (1, .int x1), (2, .int x2), (3, .int x3), (4, .int x4)] → W p l e rm_X11_sendPart s m args below meth c H locs 0 0 (MQ below (Qm b0 D cy M1 (some (.int r))) args s 0 0 (BA b0)) (F0 m 81 ls []) := by
  obtain ⟨hx, hb, hr, hml, hown0, hts, hlk, hK, hN, hb0, hnm⟩ := id CX
  have hown : s.vm.findClass RX11 = some m.cls := hown0
  intro M x0 x1 x2 x3 x4 H locs ls hF hP hS hl
  unfold f_X11_sendPart_J81 at hF
  refine lv_iload hx hb dX11_sendPart_81 (lv_at hl 4 rfl) ?_
  refine lv_if_ne (tgt := 102) hx hb dX11_sendPart_83 (by decide) (fun c1 => ?_) (fun c1 => ?_)
  · replace hF := it_f hF c1
    exact nd_X11_sendPart_102 CX k21 hk21 _ _ _ _ _ _ _ _ hF hP hS (lv_sub hl [0, 1, 2, 3] rfl)
  · replace hF := it_t hF c1
    refine lv_aload_n hx hb dX11_sendPart_86 rfl (lv_at hl 0 rfl) ?_
    refine lv_aload_n hx hb dX11_sendPart_87 rfl (lv_at hl 0 rfl) ?_
    refine xr_getR hx hb hts iw_X11_sendPart_11 hown hK hP hF 11 8 rfl (by decide) (by decide +kernel) ⟨rfl, rfl, rfl⟩ dX11_sendPart_88 (fun v2 hF => ?_)
    refine lv_iload_n hx hb dX11_sendPart_91 rfl (lv_at hl 3 rfl) ?_
    refine xr_aJ hx hb hK hP hF dX11_sendPart_92 (fun v3 hF => ?_)
    refine lv_aload_n hx hb dX11_sendPart_93 rfl (lv_at hl 0 rfl) ?_
    refine xr_getR hx hb hts iw_X11_sendPart_11 hown hK hP hF 11 3 rfl (by decide) (by decide +kernel) ⟨rfl, rfl, rfl⟩ dX11_sendPart_94 (fun v4 hF => ?_)
    refine lv_iload_n hx hb dX11_sendPart_97 rfl (lv_at hl 3 rfl) ?_
    refine xr_aI hx hb hK hP hF dX11_sendPart_98 (fun v5 hF => ?_)
    obtain ⟨M7, h6, hF⟩ := ob_some hF
    refine xr_call0 (va_runV (As := [.long v3, .int v5]) (rest := []) ⟨hx, hb, hml, hown, hts⟩ (ct_X11_say l b0 D cy M x0 v3 v5 M7 h6) (cwV 2 hts gX11_sendPart_X11_say rfl rfl rfl (by decide +kernel) ⟨Nat.le_of_ble_eq_true rfl, Nat.le_of_ble_eq_true rfl⟩) (xp_V hP hK hN hS hb0 11 rfl (gk_X11_say h6)) rfl rfl hl.1 rfl (lv_room (Nat.le_of_ble_eq_true rfl)) dX11_sendPart_99 ⟨Nat.le_of_ble_eq_true rfl, Nat.le_of_ble_eq_true rfl⟩) hS (fun H locs hP hS => ?_)
    exact nd_X11_sendPart_102 CX k21 hk21 _ _ _ _ _ _ _ _ hF hP hS (lv_sub hl [0, 1, 2, 3] rfl)
set_option maxHeartbeats 4000000 in
set_option maxRecDepth 100000 in
theorem nd_X11_sendPart_77 {p : Program} {l : Launch} {e : Env} {s : State} {m : MethodId} {args : Array Value} {below : List Frame} {meth : Method} {c : Code} {b0 : Nat} {D : va_G} {cy : Nat → ClassId} {M1 : Mm} {r : Int32} (CX : Cx yX11_sendPart cX11_sendPart 5 (some .int) wsX11_sendPart b0 D cy p s m args meth c) (k21 : Mm → Nat → Int32 → Int32 → Int32 → Option (Mm × Int32)) (hk21 : ∀ (M : Mm) (x0 : Nat) (x1 : Int32) (x2 : Int32) (x3 : Int32) (H : Heap) (locs : List Loc) (ls : Array Slot), k21 M x0 x1 x2 x3 = some (M1, r) → Hp b0 D cy M H → va_S (BA b0) s.heap H locs → lv_has ls 5 [(0, .ref x0), (1, .int x1), (2, .int x2), (3, .int x3)] → W p l e rm_X11_sendPart s m args below meth c H locs 0 0 (MQ below (Qm b0 D cy M1 (some (.int r))) args s 0 0 (BA b0)) (F0 m 21 ls [])) : ∀ (M : Mm) (x0 : Nat) (x1 : Int32) (x2 : Int32) (x3 : Int32) (x4 : Int32) (s0 : Nat) (s1 : Int64) (H : Heap) (locs : List Loc) (ls : Array Slot), f_X11_sendPart_J77 k21 M x0 x1 x2 x3 x4 s0 s1 = some (M1, r) → Hp b0 D cy M H → va_S (BA b0) s.heap H locs → lv_has ls 5 [(0, .ref x0), (1, .int x1), (2, .int x2), (3, .int x3), (4, .int x4)] → W p l e rm_X11_sendPart s m args below meth c H locs 0 0 (MQ below (Qm b0 D cy M1 (some (.int r))) args s 0 0 (BA b0)) (F0 m 77 ls [.long s1, .ref s0]) := by
  obtain ⟨hx, hb, hr, hml, hown0, hts, hlk, hK, hN, hb0, hnm⟩ := id CX
  have hown : s.vm.findClass RX11 = some m.cls := hown0
  intro M x0 x1 x2 x3 x4 s0 s1 H locs ls hF hP hS hl
  unfold f_X11_sendPart_J77 at hF
  refine lv_iconst (v := 1) hx hb dX11_sendPart_77 (by decide) ?_
  obtain ⟨M2, h1, hF⟩ := ob_some hF
  refine xr_call0 (va_runV (As := [.long s1, .int 1]) (rest := []) ⟨hx, hb, hml, hown, hts⟩ (ct_X11_say l b0 D cy M s0 s1 1 M2 h1) (cwV 2 hts gX11_sendPart_X11_say rfl rfl rfl (by decide +kernel) ⟨Nat.le_of_ble_eq_true rfl, Nat.le_of_ble_eq_true rfl⟩) (xp_V hP hK hN hS hb0 11 rfl (gk_X11_say h1)) rfl rfl hl.1 rfl (lv_room (Nat.le_of_ble_eq_true rfl)) dX11_sendPart_78 ⟨Nat.le_of_ble_eq_true rfl, Nat.le_of_ble_eq_true rfl⟩) hS (fun H locs hP hS => ?_)
  exact nd_X11_sendPart_81 CX k21 hk21 _ _ _ _ _ _ _ _ _ hF hP hS (lv_sub hl [0, 1, 2, 3, 4] rfl)
set_option maxHeartbeats 4000000 in
set_option maxRecDepth 100000 in
theorem nd_X11_sendPart_54 {p : Program} {l : Launch} {e : Env} {s : State} {m : MethodId} {args : Array Value} {below : List Frame} {meth : Method} {c : Code} {b0 : Nat} {D : va_G} {cy : Nat → ClassId} {M1 : Mm} {r : Int32} (CX : Cx yX11_sendPart cX11_sendPart 5 (some .int) wsX11_sendPart b0 D cy p s m args meth c) (k21 : Mm → Nat → Int32 → Int32 → Int32 → Option (Mm × Int32)) (hk21 : ∀ (M : Mm) (x0 : Nat) (x1 : Int32) (x2 : Int32) (x3 : Int32) (H : Heap) (locs : List Loc) (ls : Array Slot), k21 M x0 x1 x2 x3 = some (M1, r) → Hp b0 D cy M H → va_S (BA b0) s.heap H locs → lv_has ls 5 [(0, .ref x0), (1, .int x1), (2, .int x2), (3, .int x3)] → W p l e rm_X11_sendPart s m args below meth c H locs 0 0 (MQ below (Qm b0 D cy M1 (some (.int r))) args s 0 0 (BA b0)) (F0 m 21 ls [])) : ∀ (M : Mm) (x0 : Nat) (x1 : Int32) (x2 : Int32) (x3 : Int32) (s0 : Int32) (H : Heap) (locs : List Loc) (ls : Array Slot), f_X11_sendPart_J54 k21 M x0 x1 x2 x3 s0 = some (M1, r) → Hp b0 D cy M H → va_S (BA b0) s.heap H locs → lv_has ls 5 [(0, .ref x0), (1, .int x1), (2, .int x2), (3, .int x3)] → W p l e rm_X11_sendPart s m args below meth c H locs 0 0 (MQ below (Qm b0 D cy M1 (some (.int r))) args s 0 0 (BA b0)) (F0 m 54 ls [.int s0]) := by
  obtain ⟨hx, hb, hr, hml, hown0, hts, hlk, hK, hN, hb0, hnm⟩ := id CX
  have hown : s.vm.findClass RX11 = some m.cls := hown0
  intro M x0 x1 x2 x3 s0 H locs ls hF hP hS hl
  unfold f_X11_sendPart_J54 at hF
  refine lv_istore (lv' := [(4, .int s0), (0, .ref x0), (1, .int x1), (2, .int x2), (3, .int x3)]) hx hb dX11_sendPart_54 hl (by decide) (by first | rfl | simp [cat_rf]) (fun ls hl => ?_)
  refine lv_aload_n hx hb dX11_sendPart_56 rfl (lv_at hl 1 rfl) ?_
  refine xr_getR hx hb hts iw_X11_sendPart_11 hown hK hP hF 11 2 rfl (by decide) (by decide +kernel) ⟨rfl, rfl, rfl⟩ dX11_sendPart_57 (fun v1 hF => ?_)
  refine lv_iload_n hx hb dX11_sendPart_60 rfl (lv_at hl 4 rfl) ?_
  refine xr_aI hx hb hK hP hF dX11_sendPart_61 (fun v2 hF => ?_)
  refine lv_iconst (v := 4) hx hb dX11_sendPart_62 (by decide) ?_
  refine lv_icmp_eq (tgt := 81) hx hb dX11_sendPart_63 (by decide) (fun c3 => ?_) (fun c3 => ?_)
  · replace hF := it_t hF c3
    exact nd_X11_sendPart_81 CX k21 hk21 _ _ _ _ _ _ _ _ _ hF hP hS (lv_sub hl [1, 2, 3, 4, 0] rfl)
  · replace hF := it_f hF c3
    refine lv_aload_n hx hb dX11_sendPart_66 rfl (lv_at hl 1 rfl) ?_
    refine lv_iload hx hb dX11_sendPart_67 (lv_at hl 0 rfl) ?_
    refine lv_if_eq (tgt := 76) hx hb dX11_sendPart_69 (by decide) (fun c4 => ?_) (fun c4 => ?_)
    · replace hF := it_t hF c4
      refine lv_lconst (v := 1) hx hb dX11_sendPart_76 (by decide) ?_
      exact nd_X11_sendPart_77 CX k21 hk21 _ _ _ _ _ _ _ _ _ _ _ hF hP hS (lv_sub hl [1, 2, 3, 4, 0] rfl)
    · replace hF := it_f hF c4
      refine lv_lconst (v := 0) hx hb dX11_sendPart_72 (by decide) ?_
      refine lv_goto (tgt := 77) hx hb dX11_sendPart_73 (by decide) ?_
      exact nd_X11_sendPart_77 CX k21 hk21 _ _ _ _ _ _ _ _ _ _ _ hF hP hS (lv_sub hl [1, 2, 3, 4, 0] rfl)
set_option maxHeartbeats 4000000 in
set_option maxRecDepth 100000 in
theorem nd_X11_sendPart_53 {p : Program} {l : Launch} {e : Env} {s : State} {m : MethodId} {args : Array Value} {below : List Frame} {meth : Method} {c : Code} {b0 : Nat} {D : va_G} {cy : Nat → ClassId} {M1 : Mm} {r : Int32} (CX : Cx yX11_sendPart cX11_sendPart 5 (some .int) wsX11_sendPart b0 D cy p s m args meth c) (k21 : Mm → Nat → Int32 → Int32 → Int32 → Option (Mm × Int32)) (hk21 : ∀ (M : Mm) (x0 : Nat) (x1 : Int32) (x2 : Int32) (x3 : Int32) (H : Heap) (locs : List Loc) (ls : Array Slot), k21 M x0 x1 x2 x3 = some (M1, r) → Hp b0 D cy M H → va_S (BA b0) s.heap H locs → lv_has ls 5 [(0, .ref x0), (1, .int x1), (2, .int x2), (3, .int x3)] → W p l e rm_X11_sendPart s m args below meth c H locs 0 0 (MQ below (Qm b0 D cy M1 (some (.int r))) args s 0 0 (BA b0)) (F0 m 21 ls [])) : ∀ (M : Mm) (x0 : Nat) (x1 : Int32) (x2 : Int32) (x3 : Int32) (H : Heap) (locs : List Loc) (ls : Array Slot), f_X11_sendPart_J53 k21 M x0 x1 x2 x3 = some (M1, r) → Hp b0 D cy M H → va_S (BA b0) s.heap H locs → lv_has ls 5 [(0, .ref x0), (1, .int x1), (2, .int x2), (3, .int x3)] → W p l e rm_X11_sendPart s m args below meth c H locs 0 0 (MQ below (Qm b0 D cy M1 (some (.int r))) args s 0 0 (BA b0)) (F0 m 53 ls []) := by
  obtain ⟨hx, hb, hr, hml, hown0, hts, hlk, hK, hN, hb0, hnm⟩ := id CX
  have hown : s.vm.findClass RX11 = some m.cls := hown0
  intro M x0 x1 x2 x3 H locs ls hF hP hS hl
  unfold f_X11_sendPart_J53 at hF
  refine lv_iconst (v := 0) hx hb dX11_sendPart_53 (by decide) ?_
  exact nd_X11_sendPart_54 CX k21 hk21 _ _ _ _ _ _ _ _ _ hF hP hS (lv_sub hl [0, 1, 2, 3] rfl)
set_option maxHeartbeats 4000000 in
set_option maxRecDepth 100000 in
theorem nd_X11_sendPart_21 {p : Program} {l : Launch} {e : Env} {s : State} {m : MethodId} {args : Array Value} {below : List Frame} {meth : Method} {c : Code} {b0 : Nat} {D : va_G} {cy : Nat → ClassId} {M1 : Mm} {r : Int32} (CX : Cx yX11_sendPart cX11_sendPart 5 (some .int) wsX11_sendPart b0 D cy p s m args meth c) : ∀ (fu : Nat), ∀ (M : Mm) (x0 : Nat) (x1 : Int32) (x2 : Int32) (x3 : Int32) (H : Heap) (locs : List Loc) (ls : Array Slot), f_X11_sendPart_L21 fu M x0 x1 x2 x3 = some (M1, r) → Hp b0 D cy M H → va_S (BA b0) s.heap H locs → lv_has ls 5 [(0, .ref x0), (1, .int x1), (2, .int x2), (3, .int x3)] → W p l e rm_X11_sendPart s m args below meth c H locs 0 0 (MQ below (Qm b0 D cy M1 (some (.int r))) args s 0 0 (BA b0)) (F0 m 21 ls []) := by
  obtain ⟨hx, hb, hr, hml, hown0, hts, hlk, hK, hN, hb0, hnm⟩ := id CX
  have hown : s.vm.findClass RX11 = some m.cls := hown0
  intro fu
  induction fu with
  | zero =>
    intro M x0 x1 x2 x3 H locs ls hF hP hS hl
    rw [f_X11_sendPart_L21] at hF
    cases hF
  | succ fu ih =>
    intro M x0 x1 x2 x3 H locs ls hF hP hS hl
    rw [f_X11_sendPart_L21] at hF
    refine lv_iload_n hx hb dX11_sendPart_21 rfl (lv_at hl 3 rfl) ?_
    refine lv_aload_n hx hb dX11_sendPart_22 rfl (lv_at hl 0 rfl) ?_
    refine xr_getI hx hb hts iw_X11_sendPart_11 hown hK hP hF 11 1 rfl (by decide) (by decide +kernel) ⟨rfl, rfl, rfl⟩ dX11_sendPart_23 (fun v1 hF => ?_)
    refine lv_icmp_ge (tgt := 108) hx hb dX11_sendPart_26 (by decide) (fun c2 => ?_) (fun c2 => ?_)
    · replace hF := it_t hF c2
      refine lv_aload_n hx hb dX11_sendPart_108 rfl (lv_at hl 0 rfl) ?_
      refine lv_aload_n hx hb dX11_sendPart_109 rfl (lv_at hl 0 rfl) ?_
      obtain ⟨v4, h3, hF⟩ := ob_some hF
      refine xr_call1 (va_runV (As := []) (rest := [.ref x0]) ⟨hx, hb, hml, hown, hts⟩ (ct_X11_draftSum l b0 D cy M x0 v4 h3) (cwV 0 hts gX11_sendPart_X11_draftSum rfl rfl rfl (by decide +kernel) ⟨Nat.le_of_ble_eq_true rfl, Nat.le_of_ble_eq_true rfl⟩) (xp_V hP hK hN hS hb0 11 rfl (gk_X11_draftSum h3)) rfl rfl hl.1 rfl (lv_room (Nat.le_of_ble_eq_true rfl)) dX11_sendPart_110 ⟨Nat.le_of_ble_eq_true rfl, Nat.le_of_ble_eq_true rfl⟩) hS (fun H locs hP hS => ?_)
      refine lv_i2l hx hb dX11_sendPart_113 rfl ?_
      refine lv_bipush (v := 8) hx hb dX11_sendPart_114 (by decide) ?_
      obtain ⟨M6, h5, hF⟩ := ob_some hF
      refine xr_call0 (va_runV (As := [.long v4.toInt64, .int 8]) (rest := []) ⟨hx, hb, hml, hown, hts⟩ (ct_X11_say l b0 D cy M x0 v4.toInt64 8 M6 h5) (cwV 2 hts gX11_sendPart_X11_say rfl rfl rfl (by decide +kernel) ⟨Nat.le_of_ble_eq_true rfl, Nat.le_of_ble_eq_true rfl⟩) (xp_V hP hK hN hS hb0 11 rfl (gk_X11_say h5)) rfl rfl hl.1 rfl (lv_room (Nat.le_of_ble_eq_true rfl)) dX11_sendPart_116 ⟨Nat.le_of_ble_eq_true rfl, Nat.le_of_ble_eq_true rfl⟩) hS (fun H locs hP hS => ?_)
      refine lv_aload_n hx hb dX11_sendPart_119 rfl (lv_at hl 0 rfl) ?_
      refine lv_iconst (v := 1) hx hb dX11_sendPart_120 (by decide) ?_
      refine lv_iload_n hx hb dX11_sendPart_121 rfl (lv_at hl 1 rfl) ?_
      refine lv_iload_n hx hb dX11_sendPart_122 rfl (lv_at hl 2 rfl) ?_
      refine lv_iconst (v := 0) hx hb dX11_sendPart_123 (by decide) ?_
      obtain ⟨M8, v9, h7, hF⟩ := ob2_some hF
      refine xr_call1 (va_runV (As := [.int 1, .int x1, .int x2, .int 0]) (rest := []) ⟨hx, hb, hml, hown, hts⟩ (ct_X11_laid l b0 D cy M6 x0 1 x1 x2 0 M8 v9 h7) (cwV 4 hts gX11_sendPart_X11_laid rfl rfl rfl (by decide +kernel) ⟨Nat.le_of_ble_eq_true rfl, Nat.le_of_ble_eq_true rfl⟩) (xp_V hP hK hN hS hb0 11 rfl (gk_X11_laid h7)) rfl rfl hl.1 rfl (lv_room (Nat.le_of_ble_eq_true rfl)) dX11_sendPart_124 ⟨Nat.le_of_ble_eq_true rfl, Nat.le_of_ble_eq_true rfl⟩) hS (fun H locs hP hS => ?_)
      cases hF
      exact W.iret hx hb hr (fun t ht hW => ⟨rfl, by rw [ht]; exact hP, hS.F ht⟩) hS.2.2 dX11_sendPart_127 hlk
    · replace hF := it_f hF c2
      refine lv_aload_n hx hb dX11_sendPart_29 rfl (lv_at hl 0 rfl) ?_
      refine xr_getR hx hb hts iw_X11_sendPart_11 hown hK hP hF 11 2 rfl (by decide) (by decide +kernel) ⟨rfl, rfl, rfl⟩ dX11_sendPart_30 (fun v10 hF => ?_)
      refine lv_iload_n hx hb dX11_sendPart_33 rfl (lv_at hl 3 rfl) ?_
      refine xr_aI hx hb hK hP hF dX11_sendPart_34 (fun v11 hF => ?_)
      refine lv_iconst (v := 4) hx hb dX11_sendPart_35 (by decide) ?_
      refine lv_icmp_eq (tgt := 53) hx hb dX11_sendPart_36 (by decide) (fun c12 => ?_) (fun c12 => ?_)
      · replace hF := it_t hF c12
        exact nd_X11_sendPart_53 CX (f_X11_sendPart_L21 fu) ih _ _ _ _ _ _ _ _ hF hP hS (lv_sub hl [0, 1, 2, 3] rfl)
      · replace hF := it_f hF c12
        refine lv_aload_n hx hb dX11_sendPart_39 rfl (lv_at hl 0 rfl) ?_
        refine lv_iload_n hx hb dX11_sendPart_40 rfl (lv_at hl 1 rfl) ?_
        refine lv_iload_n hx hb dX11_sendPart_41 rfl (lv_at hl 3 rfl) ?_
        refine lv_iload_n hx hb dX11_sendPart_42 rfl (lv_at hl 2 rfl) ?_
        obtain ⟨v14, h13, hF⟩ := ob_some hF
        refine xr_call1 (va_runV (As := [.int x1, .int x3, .int x2]) (rest := []) ⟨hx, hb, hml, hown, hts⟩ (ct_X11_giveAll l b0 D cy M x0 x1 x3 x2 v14 h13) (cwV 3 hts gX11_sendPart_X11_giveAll rfl rfl rfl (by decide +kernel) ⟨Nat.le_of_ble_eq_true rfl, Nat.le_of_ble_eq_true rfl⟩) (xp_V hP hK hN hS hb0 11 rfl (gk_X11_giveAll h13)) rfl rfl hl.1 rfl (lv_room (Nat.le_of_ble_eq_true rfl)) dX11_sendPart_43 ⟨Nat.le_of_ble_eq_true rfl, Nat.le_of_ble_eq_true rfl⟩) hS (fun H locs hP hS => ?_)
        refine lv_if_eq (tgt := 53) hx hb dX11_sendPart_46 (by decide) (fun c15 => ?_) (fun c15 => ?_)
        · replace hF := it_t hF c15
          exact nd_X11_sendPart_53 CX (f_X11_sendPart_L21 fu) ih _ _ _ _ _ _ _ _ hF hP hS (lv_sub hl [0, 1, 2, 3] rfl)
        · replace hF := it_f hF c15
          refine lv_iconst (v := 1) hx hb dX11_sendPart_49 (by decide) ?_
          refine lv_goto (tgt := 54) hx hb dX11_sendPart_50 (by decide) ?_
          exact nd_X11_sendPart_54 CX (f_X11_sendPart_L21 fu) ih _ _ _ _ _ _ _ _ _ hF hP hS (lv_sub hl [0, 1, 2, 3] rfl)
theorem gk_X11_sendPart {M : Mm} {a0 : Nat} {a1 : Int32} {a2 : Int32} {r : (Mm × Int32)} (h : f_X11_sendPart M a0 a1 a2 = some r) : mK M a0 = 12 := by
  unfold f_X11_sendPart at h
  exact (if_some h).1
set_option maxHeartbeats 4000000 in
set_option maxRecDepth 100000 in
theorem ct_X11_sendPart (l : Launch) (b0 : Nat) (D : va_G) (cy : Nat → ClassId) (M : Mm) (a0 : Nat) (a1 : Int32) (a2 : Int32) (M1 : Mm) (r : Int32) (hF : f_X11_sendPart M a0 a1 a2 = some (M1, r)) : Met l yX11_sendPart wsX11_sendPart rm_X11_sendPart (va_Pc [.ref a0, .int a1, .int a2] (Pm b0 D cy M)) (Qm b0 D cy M1 (some (.int r))) 0 0 (BA b0) := by
  refine ct_of [.ref a0, .int a1, .int a2] (by decide) rfl ?_
  intro p e s m below meth c CX hP
  obtain ⟨hx, hb, hr, hml, hown0, hts, hlk, hK, hN, hb0, hnm⟩ := id CX
  have hown : s.vm.findClass RX11 = some m.cls := hown0
  have hS : va_S (BA b0) s.heap s.heap [] := va_S.rf
  have hl := lv_entry [.ref a0, .int a1, .int a2] (n := 5) (Nat.le_of_ble_eq_true rfl)
  generalize (lg_sl [.ref a0, .int a1, .int a2] ++ List.replicate (5 - (lg_sl [.ref a0, .int a1, .int a2]).length) Slot.unset).toArray = ls at hl ⊢
  have hl : lv_has ls 5 [(0, .ref a0), (1, .int a1), (2, .int a2)] := hl
  unfold f_X11_sendPart at hF
  replace hF := (if_some hF).2
  refine lv_aload_n hx hb dX11_sendPart_0 rfl (lv_at hl 0 rfl) ?_
  refine lv_iconst (v := 1) hx hb dX11_sendPart_1 (by decide) ?_
  refine lv_iload_n hx hb dX11_sendPart_2 rfl (lv_at hl 1 rfl) ?_
  refine lv_iload_n hx hb dX11_sendPart_3 rfl (lv_at hl 2 rfl) ?_
  obtain ⟨M2, h1, hF⟩ := ob_some hF
  refine xr_call0 (va_runV (As := [.int 1, .int a1, .int a2]) (rest := []) ⟨hx, hb, hml, hown, hts⟩ (ct_X11_head l b0 D cy M a0 1 a1 a2 M2 h1) (cwV 3 hts gX11_sendPart_X11_head rfl rfl rfl (by decide +kernel) ⟨Nat.le_of_ble_eq_true rfl, Nat.le_of_ble_eq_true rfl⟩) (xp_V hP hK hN hS hb0 11 rfl (gk_X11_head h1)) rfl rfl hl.1 rfl (lv_room (Nat.le_of_ble_eq_true rfl)) dX11_sendPart_4 ⟨Nat.le_of_ble_eq_true rfl, Nat.le_of_ble_eq_true rfl⟩) hS (fun H locs hP hS => ?_)
  refine lv_aload_n hx hb dX11_sendPart_7 rfl (lv_at hl 0 rfl) ?_
  refine lv_aload_n hx hb dX11_sendPart_8 rfl (lv_at hl 0 rfl) ?_
  refine xr_getR hx hb hts iw_X11_sendPart_11 hown hK hP hF 11 10 rfl (by decide) (by decide +kernel) ⟨rfl, rfl, rfl⟩ dX11_sendPart_9 (fun v3 hF => ?_)
  refine lv_iload_n hx hb dX11_sendPart_12 rfl (lv_at hl 1 rfl) ?_
  refine xr_aI hx hb hK hP hF dX11_sendPart_13 (fun v4 hF => ?_)
  refine lv_i2l hx hb dX11_sendPart_14 rfl ?_
  refine lv_iconst (v := 4) hx hb dX11_sendPart_15 (by decide) ?_
  obtain ⟨M6, h5, hF⟩ := ob_some hF
  refine xr_call0 (va_runV (As := [.long v4.toInt64, .int 4]) (rest := []) ⟨hx, hb, hml, hown, hts⟩ (ct_X11_say l b0 D cy M2 a0 v4.toInt64 4 M6 h5) (cwV 2 hts gX11_sendPart_X11_say rfl rfl rfl (by decide +kernel) ⟨Nat.le_of_ble_eq_true rfl, Nat.le_of_ble_eq_true rfl⟩) (xp_V hP hK hN hS hb0 11 rfl (gk_X11_say h5)) rfl rfl hl.1 rfl (lv_room (Nat.le_of_ble_eq_true rfl)) dX11_sendPart_16 ⟨Nat.le_of_ble_eq_true rfl, Nat.le_of_ble_eq_true rfl⟩) hS (fun H locs hP hS => ?_)
  refine lv_iconst (v := 0) hx hb dX11_sendPart_19 (by decide) ?_
  refine lv_istore_n (lv' := [(3, .int 0), (0, .ref a0), (1, .int a1), (2, .int a2)]) hx hb dX11_sendPart_20 rfl hl (by decide) (by first | rfl | simp [cat_rf]) (fun ls hl => ?_)
  exact nd_X11_sendPart_21 CX _ _ _ _ _ _ _ _ _ hF hP hS (lv_sub hl [1, 2, 3, 0] rfl)
/-! X11_fails -/
theorem iw_X11_fails_11 : ∀ w ∈ u_ws RX11 TX11 58, w ∈ wsX11_fails := by decide +kernel
abbrev rm_X11_fails : Room := { frames := 3, cells := 0, slots := 0, locals := 73 }
set_option maxHeartbeats 4000000 in
set_option maxRecDepth 100000 in
theorem nd_X11_fails_66 {p : Program} {l : Launch} {e : Env} {s : State} {m : MethodId} {args : Array Value} {below : List Frame} {meth : Method} {c : Code} {b0 : Nat} {D : va_G} {cy : Nat → ClassId} {r : Int32} {M : Mm} (CX : Cx yX11_fails cX11_fails 7 (some .int) wsX11_fails b0 D cy p s m args meth c) (k14 : Nat → Int32 → Int32 → Int32 → Int32 → Int32 → Int32 → Option Int32) (hk14 : ∀ (x0 : Nat) (x1 : Int32) (x2 : Int32) (x3 : Int32) (x4 : Int32) (x5 : Int32) (x6 : Int32) (H : Heap) (locs : List Loc) (ls : Array Slot), k14 x0 x1 x2 x3 x4 x5 x6 = some r → Hp b0 D cy M H → va_S (BA b0) s.heap H locs → lv_has ls 7 [(0, .ref x0), (1, .int x1), (2, .int x2), (3, .int x3), (4, .int x4), (5, .int x5), (6, .int x6)] → W p l e rm_X11_fails s m args below meth c H locs 0 0 (MQ below (Qm b0 D cy M (some (.int r))) args s 0 0 (BA b0)) (F0 m 14 ls [])) : ∀ (x0 : Nat) (x1 : Int32) (x2 : Int32) (x3 : Int32) (x4 : Int32) (x6 : Int32) (s0 : Int32) (H : Heap) (locs : List Loc) (ls : Array Slot), f_X11_fails_J66 k14 M x0 x1 x2 x3 x4 x6 s0 = some r → Hp b0 D cy M H → va_S (BA b0) s.heap H locs → lv_has ls 7 [(0, .ref x0), (1, .int x1), (2, .int x2), (3, .int x3), (4, .int x4), (6, .int x6)] → W p l e rm_X11_fails s m args below meth c H locs 0 0 (MQ below (Qm b0 D cy M (some (.int r))) args s 0 0 (BA b0)) (F0 m 66 ls [.int s0]) := by
  obtain ⟨hx, hb, hr, hml, hown0, hts, hlk, hK, hN, hb0, hnm⟩ := id CX
  have hown : s.vm.findClass RX11 = some m.cls := hown0
  intro x0 x1 x2 x3 x4 x6 s0 H locs ls hF hP hS hl
  unfold f_X11_fails_J66 at hF
  refine lv_istore (lv' := [(5, .int s0), (0, .ref x0), (1, .int x1), (2, .int x2), (3, .int x3), (4, .int x4), (6, .int x6)]) hx hb dX11_fails_66 hl (by decide) (by first | rfl | simp [cat_rf]) (fun ls hl => ?_)
  refine lv_iinc (v := x6 + (-1)) (lv' := [(6, .int (x6 + (-1))), (5, .int s0), (0, .ref x0), (1, .int x1), (2, .int x2), (3, .int x3), (4, .int x4)]) hx hb dX11_fails_68 hl (k := 6) rfl (by rfl) (by decide) rfl (fun ls hl => ?_)
  refine lv_goto (tgt := 14) hx hb dX11_fails_71 (by decide) ?_
  exact hk14 _ _ _ _ _ _ _ _ _ _ hF hP hS (lv_sub hl [2, 3, 4, 5, 6, 1, 0] rfl)
set_option maxHeartbeats 4000000 in
set_option maxRecDepth 100000 in
theorem nd_X11_fails_14 {p : Program} {l : Launch} {e : Env} {s : State} {m : MethodId} {args : Array Value} {below : List Frame} {meth : Method} {c : Code} {b0 : Nat} {D : va_G} {cy : Nat → ClassId} {r : Int32} {M : Mm} (CX : Cx yX11_fails cX11_fails 7 (some .int) wsX11_fails b0 D cy p s m args meth c) : ∀ (fu : Nat), ∀ (x0 : Nat) (x1 : Int32) (x2 : Int32) (x3 : Int32) (x4 : Int32) (x5 : Int32) (x6 : Int32) (H : Heap) (locs : List Loc) (ls : Array Slot), f_X11_fails_L14 M fu x0 x1 x2 x3 x4 x5 x6 = some r → Hp b0 D cy M H → va_S (BA b0) s.heap H locs → lv_has ls 7 [(0, .ref x0), (1, .int x1), (2, .int x2), (3, .int x3), (4, .int x4), (5, .int x5), (6, .int x6)] → W p l e rm_X11_fails s m args below meth c H locs 0 0 (MQ below (Qm b0 D cy M (some (.int r))) args s 0 0 (BA b0)) (F0 m 14 ls []) := by
  obtain ⟨hx, hb, hr, hml, hown0, hts, hlk, hK, hN, hb0, hnm⟩ := id CX
  have hown : s.vm.findClass RX11 = some m.cls := hown0
  intro fu
  induction fu with
  | zero =>
    intro x0 x1 x2 x3 x4 x5 x6 H locs ls hF hP hS hl
    rw [f_X11_fails_L14] at hF
    cases hF
  | succ fu ih =>
    intro x0 x1 x2 x3 x4 x5 x6 H locs ls hF hP hS hl
    rw [f_X11_fails_L14] at hF
    refine lv_iload hx hb dX11_fails_14 (lv_at hl 6 rfl) ?_
    refine lv_if_lt (tgt := 74) hx hb dX11_fails_16 (by decide) (fun c1 => ?_) (fun c1 => ?_)
    · replace hF := it_t hF c1
      refine lv_iload hx hb dX11_fails_74 (lv_at hl 5 rfl) ?_
      cases hF
      exact W.iret hx hb hr (fun t ht hW => ⟨rfl, by rw [ht]; exact hP, hS.F ht⟩) hS.2.2 dX11_fails_76 hlk
    · replace hF := it_f hF c1
      refine lv_iload hx hb dX11_fails_19 (lv_at hl 4 rfl) ?_
      refine lv_if_lt (tgt := 74) hx hb dX11_fails_21 (by decide) (fun c2 => ?_) (fun c2 => ?_)
      · replace hF := it_t hF c2
        refine lv_iload hx hb dX11_fails_74 (lv_at hl 5 rfl) ?_
        cases hF
        exact W.iret hx hb hr (fun t ht hW => ⟨rfl, by rw [ht]; exact hP, hS.F ht⟩) hS.2.2 dX11_fails_76 hlk
      · replace hF := it_f hF c2
        refine lv_aload_n hx hb dX11_fails_24 rfl (lv_at hl 0 rfl) ?_
        refine lv_iload_n hx hb dX11_fails_25 rfl (lv_at hl 2 rfl) ?_
        refine lv_aload_n hx hb dX11_fails_26 rfl (lv_at hl 0 rfl) ?_
        refine lv_iload_n hx hb dX11_fails_27 rfl (lv_at hl 1 rfl) ?_
        refine lv_iload hx hb dX11_fails_28 (lv_at hl 6 rfl) ?_
        refine lv_iload_n hx hb dX11_fails_30 rfl (lv_at hl 2 rfl) ?_
        refine lv_iload_n hx hb dX11_fails_31 rfl (lv_at hl 3 rfl) ?_
        obtain ⟨v4, h3, hF⟩ := ob_some hF
        refine xr_call1 (va_runV (As := [.int x1, .int x6, .int x2, .int x3]) (rest := [.int x2, .ref x0]) ⟨hx, hb, hml, hown, hts⟩ (ct_X11_given l b0 D cy M x0 x1 x6 x2 x3 v4 h3) (cwV 4 hts gX11_fails_X11_given rfl rfl rfl (by decide +kernel) ⟨Nat.le_of_ble_eq_true rfl, Nat.le_of_ble_eq_true rfl⟩) (xp_V hP hK hN hS hb0 11 rfl (gk_X11_given h3)) rfl rfl hl.1 rfl (lv_room (Nat.le_of_ble_eq_true rfl)) dX11_fails_32 ⟨Nat.le_of_ble_eq_true rfl, Nat.le_of_ble_eq_true rfl⟩) hS (fun H locs hP hS => ?_)
        refine lv_aload_n hx hb dX11_fails_35 rfl (lv_at hl 0 rfl) ?_
        refine xr_getR hx hb hts iw_X11_fails_11 hown hK hP hF 11 8 rfl (by decide) (by decide +kernel) ⟨rfl, rfl, rfl⟩ dX11_fails_36 (fun v5 hF => ?_)
        refine lv_iload_n hx hb dX11_fails_39 rfl (lv_at hl 2 rfl) ?_
        refine xr_aJ hx hb hK hP hF dX11_fails_40 (fun v6 hF => ?_)
        refine lv_iload hx hb dX11_fails_41 (lv_at hl 4 rfl) ?_
        obtain ⟨v8, h7, hF⟩ := ob_some hF
        refine xr_call1 (va_runV (As := [.int x2, .long v4, .long v6, .int x4]) (rest := []) ⟨hx, hb, hml, hown, hts⟩ (ct_X11_finds l b0 D cy M x0 x2 v4 v6 x4 v8 h7) (cwV 4 hts gX11_fails_X11_finds rfl rfl rfl (by decide +kernel) ⟨Nat.le_of_ble_eq_true rfl, Nat.le_of_ble_eq_true rfl⟩) (xp_V hP hK hN hS hb0 11 rfl (gk_X11_finds h7)) rfl rfl hl.1 rfl (lv_room (Nat.le_of_ble_eq_true rfl)) dX11_fails_43 ⟨Nat.le_of_ble_eq_true rfl, Nat.le_of_ble_eq_true rfl⟩) hS (fun H locs hP hS => ?_)
        refine lv_if_eq (tgt := 54) hx hb dX11_fails_46 (by decide) (fun c9 => ?_) (fun c9 => ?_)
        · replace hF := it_t hF c9
          refine lv_aload_n hx hb dX11_fails_54 rfl (lv_at hl 0 rfl) ?_
          refine xr_getR hx hb hts iw_X11_fails_11 hown hK hP hF 11 14 rfl (by decide) (by decide +kernel) ⟨rfl, rfl, rfl⟩ dX11_fails_55 (fun v10 hF => ?_)
          refine lv_bipush (v := 9) hx hb dX11_fails_58 (by decide) ?_
          refine lv_iload_n hx hb dX11_fails_60 rfl (lv_at hl 1 rfl) ?_
          refine lv_imul hx hb dX11_fails_61 ?_
          refine lv_iload hx hb dX11_fails_62 (lv_at hl 6 rfl) ?_
          refine lv_iadd hx hb dX11_fails_64 ?_
          refine xr_aI hx hb hK hP hF dX11_fails_65 (fun v11 hF => ?_)
          exact nd_X11_fails_66 CX (f_X11_fails_L14 M fu) ih _ _ _ _ _ _ _ _ _ _ hF hP hS (lv_sub hl [0, 1, 2, 3, 4, 6] rfl)
        · replace hF := it_f hF c9
          refine lv_iload hx hb dX11_fails_49 (lv_at hl 5 rfl) ?_
          refine lv_goto (tgt := 66) hx hb dX11_fails_51 (by decide) ?_
          exact nd_X11_fails_66 CX (f_X11_fails_L14 M fu) ih _ _ _ _ _ _ _ _ _ _ hF hP hS (lv_sub hl [0, 1, 2, 3, 4, 6] rfl)
theorem gk_X11_fails {M : Mm} {a0 : Nat} {a1 : Int32} {a2 : Int32} {a3 : Int32} {a4 : Int32} {r : Int32} (h : f_X11_fails M a0 a1 a2 a3 a4 = some r) : mK M a0 = 12 := by
  unfold f_X11_fails at h
  exact (if_some h).1
set_option maxHeartbeats 4000000 in
set_option maxRecDepth 100000 in
theorem ct_X11_fails (l : Launch) (b0 : Nat) (D : va_G) (cy : Nat → ClassId) (M : Mm) (a0 : Nat) (a1 : Int32) (a2 : Int32) (a3 : Int32) (a4 : Int32) (r : Int32) (hF : f_X11_fails M a0 a1 a2 a3 a4 = some r) : Met l yX11_fails wsX11_fails rm_X11_fails (va_Pc [.ref a0, .int a1, .int a2, .int a3, .int a4] (Pm b0 D cy M)) (Qm b0 D cy M (some (.int r))) 0 0 (BA b0) := by
  refine ct_of [.ref a0, .int a1, .int a2, .int a3, .int a4] (by decide) rfl ?_
  intro p e s m below meth c CX hP
  obtain ⟨hx, hb, hr, hml, hown0, hts, hlk, hK, hN, hb0, hnm⟩ := id CX
  have hown : s.vm.findClass RX11 = some m.cls := hown0
  have hS : va_S (BA b0) s.heap s.heap [] := va_S.rf
  have hl := lv_entry [.ref a0, .int a1, .int a2, .int a3, .int a4] (n := 7) (Nat.le_of_ble_eq_true rfl)
  generalize (lg_sl [.ref a0, .int a1, .int a2, .int a3, .int a4] ++ List.replicate (7 - (lg_sl [.ref a0, .int a1, .int a2, .int a3, .int a4]).length) Slot.unset).toArray = ls at hl ⊢
  have hl : lv_has ls 7 [(0, .ref a0), (1, .int a1), (2, .int a2), (3, .int a3), (4, .int a4)] := hl
  unfold f_X11_fails at hF
  replace hF := (if_some hF).2
  refine lv_bipush (v := (-2)) hx hb dX11_fails_0 (by decide) ?_
  refine lv_istore (lv' := [(5, .int (-2)), (0, .ref a0), (1, .int a1), (2, .int a2), (3, .int a3), (4, .int a4)]) hx hb dX11_fails_2 hl (by decide) (by first | rfl | simp [cat_rf]) (fun ls hl => ?_)
  refine lv_aload_n hx hb dX11_fails_4 rfl (lv_at hl 1 rfl) ?_
  refine xr_getR hx hb hts iw_X11_fails_11 hown hK hP hF 11 13 rfl (by decide) (by decide +kernel) ⟨rfl, rfl, rfl⟩ dX11_fails_5 (fun v1 hF => ?_)
  refine lv_iload_n hx hb dX11_fails_8 rfl (lv_at hl 2 rfl) ?_
  refine xr_aI hx hb hK hP hF dX11_fails_9 (fun v2 hF => ?_)
  refine lv_iconst (v := 1) hx hb dX11_fails_10 (by decide) ?_
  refine lv_isub hx hb dX11_fails_11 ?_
  refine lv_istore (lv' := [(6, .int (v2 - 1)), (5, .int (-2)), (0, .ref a0), (1, .int a1), (2, .int a2), (3, .int a3), (4, .int a4)]) hx hb dX11_fails_12 hl (by decide) (by first | rfl | simp [cat_rf]) (fun ls hl => ?_)
  exact nd_X11_fails_14 CX _ _ _ _ _ _ _ _ _ _ _ hF hP hS (lv_sub hl [2, 3, 4, 5, 6, 1, 0] rfl)
/-! X11_sendShort -/
theorem iw_X11_sendShort_11 : ∀ w ∈ u_ws RX11 TX11 58, w ∈ wsX11_sendShort := by decide +kernel
abbrev rm_X11_sendShort : Room := { frames := 4, cells := 0, slots := 0, locals := 99 }
set_option maxHeartbeats 4000000 in
set_option maxRecDepth 100000 in
theorem nd_X11_sendShort_149 {p : Program} {l : Launch} {e : Env} {s : State} {m : MethodId} {args : Array Value} {below : List Frame} {meth : Method} {c : Code} {b0 : Nat} {D : va_G} {cy : Nat → ClassId} {M1 : Mm} {r : Int32} (CX : Cx yX11_sendShort cX11_sendShort 5 (some .int) wsX11_sendShort b0 D cy p s m args meth c) (k21 : Mm → Nat → Int32 → Int32 → Int32 → Option (Mm × Int32)) (hk21 : ∀ (M : Mm) (x0 : Nat) (x1 : Int32) (x2 : Int32) (x3 : Int32) (H : Heap) (locs : List Loc) (ls : Array Slot), k21 M x0 x1 x2 x3 = some (M1, r) → Hp b0 D cy M H → va_S (BA b0) s.heap H locs → lv_has ls 5 [(0, .ref x0), (1, .int x1), (2, .int x2), (3, .int x3)] → W p l e rm_X11_sendShort s m args below meth c H locs 0 0 (MQ below (Qm b0 D cy M1 (some (.int r))) args s 0 0 (BA b0)) (F0 m 21 ls [])) : ∀ (M : Mm) (x0 : Nat) (x1 : Int32) (x2 : Int32) (x3 : Int32) (H : Heap) (locs : List Loc) (ls : Array Slot), f_X11_sendShort_J149 k21 M x0 x1 x2 x3 = some (M1, r) → Hp b0 D cy M H → va_S (BA b0) s.heap H locs → lv_has ls 5 [(0, .ref x0), (1, .int x1), (2, .int x2), (3, .int x3)] → W p l e rm_X11_sendShort s m args below meth c H locs 0 0 (MQ below (Qm b0 D cy M1 (some (.int r))) args s 0 0 (BA b0)) (F0 m 149 ls []) := by
  obtain ⟨hx, hb, hr, hml, hown0, hts, hlk, hK, hN, hb0, hnm⟩ := id CX
  have hown : s.vm.findClass RX11 = some m.cls := hown0
  intro M x0 x1 x2 x3 H locs ls hF hP hS hl
  unfold f_X11_sendShort_J149 at hF
  refine lv_iinc (v := x3 + 1) (lv' := [(3, .int (x3 + 1)), (0, .ref x0), (1, .int x1), (2, .int x2)]) hx hb dX11_sendShort_149 hl (k := 3) rfl (by rfl) (by decide) rfl (fun ls hl => ?_)
  refine lv_goto (tgt := 21) hx hb dX11_sendShort_152 (by decide) ?_
  exact hk21 _ _ _ _ _ _ _ _ hF hP hS (lv_sub hl [1, 2, 3, 0] rfl)
set_option maxHeartbeats 4000000 in
set_option maxRecDepth 100000 in
theorem nd_X11_sendShort_40 {p : Program} {l : Launch} {e : Env} {s : State} {m : MethodId} {args : Array Value} {below : List Frame} {meth : Method} {c : Code} {b0 : Nat} {D : va_G} {cy : Nat → ClassId} {M1 : Mm} {r : Int32} (CX : Cx yX11_sendShort cX11_sendShort 5 (some .int) wsX11_sendShort b0 D cy p s m args meth c) (k21 : Mm → Nat → Int32 → Int32 → Int32 → Option (Mm × Int32)) (hk21 : ∀ (M : Mm) (x0 : Nat) (x1 : Int32) (x2 : Int32) (x3 : Int32) (H : Heap) (locs : List Loc) (ls : Array Slot), k21 M x0 x1 x2 x3 = some (M1, r) → Hp b0 D cy M H → va_S (BA b0) s.heap H locs → lv_has ls 5 [(0, .ref x0), (1, .int x1), (2, .int x2), (3, .int x3)] → W p l e rm_X11_sendShort s m args below meth c H locs 0 0 (MQ below (Qm b0 D cy M1 (some (.int r))) args s 0 0 (BA b0)) (F0 m 21 ls [])) : ∀ (fu : Nat), ∀ (M : Mm) (x0 : Nat) (x1 : Int32) (x2 : Int32) (x3 : Int32) (x4 : Int32) (H : Heap) (locs : List Loc) (ls : Array Slot), f_X11_sendShort_L40 k21 fu M x0 x1 x2 x3 x4 = some (M1, r) → Hp b0 D cy M H → va_S (BA b0) s.heap H locs → lv_has ls 5 [(0, .ref x0), (1, .int x1), (2, .int x2), (3, .int x3), (4, .int x4)] → W p l e rm_X11_sendShort s m args below meth c H locs 0 0 (MQ below (Qm b0 D cy M1 (some (.int r))) args s 0 0 (BA b0)) (F0 m 40 ls []) := by
  obtain ⟨hx, hb, hr, hml, hown0, hts, hlk, hK, hN, hb0, hnm⟩ := id CX
  have hown : s.vm.findClass RX11 = some m.cls := hown0
  intro fu
  induction fu with
  | zero =>
    intro M x0 x1 x2 x3 x4 H locs ls hF hP hS hl
    rw [f_X11_sendShort_L40] at hF
    cases hF
  | succ fu ih =>
    intro M x0 x1 x2 x3 x4 H locs ls hF hP hS hl
    rw [f_X11_sendShort_L40] at hF
    refine lv_aload_n hx hb dX11_sendShort_40 rfl (lv_at hl 0 rfl) ?_
    refine lv_iload_n hx hb dX11_sendShort_41 rfl (lv_at hl 1 rfl) ?_
    refine lv_iload_n hx hb dX11_sendShort_42 rfl (lv_at hl 3 rfl) ?_
    refine lv_iload_n hx hb dX11_sendShort_43 rfl (lv_at hl 2 rfl) ?_
    refine lv_iload hx hb dX11_sendShort_44 (lv_at hl 4 rfl) ?_
    obtain ⟨v2, h1, hF⟩ := ob_some hF
    refine xr_call1 (va_runV (As := [.int x1, .int x3, .int x2, .int x4]) (rest := []) ⟨hx, hb, hml, hown, hts⟩ (ct_X11_serves l b0 D cy M x0 x1 x3 x2 x4 v2 h1) (cwV 4 hts gX11_sendShort_X11_serves rfl rfl rfl (by decide +kernel) ⟨Nat.le_of_ble_eq_true rfl, Nat.le_of_ble_eq_true rfl⟩) (xp_V hP hK hN hS hb0 11 rfl (gk_X11_serves h1)) rfl rfl hl.1 rfl (lv_room (Nat.le_of_ble_eq_true rfl)) dX11_sendShort_46 ⟨Nat.le_of_ble_eq_true rfl, Nat.le_of_ble_eq_true rfl⟩) hS (fun H locs hP hS => ?_)
    refine lv_if_ne (tgt := 58) hx hb dX11_sendShort_49 (by decide) (fun c3 => ?_) (fun c3 => ?_)
    · replace hF := it_f hF c3
      refine lv_aload_n hx hb dX11_sendShort_58 rfl (lv_at hl 0 rfl) ?_
      refine lv_iload hx hb dX11_sendShort_59 (lv_at hl 4 rfl) ?_
      refine lv_i2l hx hb dX11_sendShort_61 rfl ?_
      refine lv_bipush (v := 6) hx hb dX11_sendShort_62 (by decide) ?_
      obtain ⟨M5, h4, hF⟩ := ob_some hF
      refine xr_call0 (va_runV (As := [.long x4.toInt64, .int 6]) (rest := []) ⟨hx, hb, hml, hown, hts⟩ (ct_X11_say l b0 D cy M x0 x4.toInt64 6 M5 h4) (cwV 2 hts gX11_sendShort_X11_say rfl rfl rfl (by decide +kernel) ⟨Nat.le_of_ble_eq_true rfl, Nat.le_of_ble_eq_true rfl⟩) (xp_V hP hK hN hS hb0 11 rfl (gk_X11_say h4)) rfl rfl hl.1 rfl (lv_room (Nat.le_of_ble_eq_true rfl)) dX11_sendShort_64 ⟨Nat.le_of_ble_eq_true rfl, Nat.le_of_ble_eq_true rfl⟩) hS (fun H locs hP hS => ?_)
      refine lv_aload_n hx hb dX11_sendShort_67 rfl (lv_at hl 0 rfl) ?_
      refine lv_aload_n hx hb dX11_sendShort_68 rfl (lv_at hl 0 rfl) ?_
      refine xr_getR hx hb hts iw_X11_sendShort_11 hown hK hP hF 11 8 rfl (by decide) (by decide +kernel) ⟨rfl, rfl, rfl⟩ dX11_sendShort_69 (fun v6 hF => ?_)
      refine lv_iload_n hx hb dX11_sendShort_72 rfl (lv_at hl 3 rfl) ?_
      refine xr_aJ hx hb hK hP hF dX11_sendShort_73 (fun v7 hF => ?_)
      refine lv_iload hx hb dX11_sendShort_74 (lv_at hl 4 rfl) ?_
      obtain ⟨M9, h8, hF⟩ := ob_some hF
      refine xr_call0 (va_runV (As := [.long v7, .int x4]) (rest := []) ⟨hx, hb, hml, hown, hts⟩ (ct_X11_say l b0 D cy M5 x0 v7 x4 M9 h8) (cwV 2 hts gX11_sendShort_X11_say rfl rfl rfl (by decide +kernel) ⟨Nat.le_of_ble_eq_true rfl, Nat.le_of_ble_eq_true rfl⟩) (xp_V hP hK hN hS hb0 11 rfl (gk_X11_say h8)) rfl rfl hl.1 rfl (lv_room (Nat.le_of_ble_eq_true rfl)) dX11_sendShort_76 ⟨Nat.le_of_ble_eq_true rfl, Nat.le_of_ble_eq_true rfl⟩) hS (fun H locs hP hS => ?_)
      refine lv_aload_n hx hb dX11_sendShort_79 rfl (lv_at hl 0 rfl) ?_
      refine xr_getR hx hb hts iw_X11_sendShort_11 hown hK hP hF 11 26 rfl (by decide) (by decide +kernel) ⟨rfl, rfl, rfl⟩ dX11_sendShort_80 (fun v10 hF => ?_)
      refine lv_bipush (v := 8) hx hb dX11_sendShort_83 (by decide) ?_
      refine lv_aload_n hx hb dX11_sendShort_85 rfl (lv_at hl 0 rfl) ?_
      refine xr_getI hx hb hts iw_X11_sendShort_11 hown hK hP hF 11 16 rfl (by decide) (by decide +kernel) ⟨rfl, rfl, rfl⟩ dX11_sendShort_86 (fun v11 hF => ?_)
      refine lv_imul hx hb dX11_sendShort_89 ?_
      refine lv_iload_n hx hb dX11_sendShort_90 rfl (lv_at hl 3 rfl) ?_
      refine lv_iadd hx hb dX11_sendShort_91 ?_
      refine lv_iload hx hb dX11_sendShort_92 (lv_at hl 4 rfl) ?_
      refine xr_wI hx hb hK hP hS hF dX11_sendShort_94 (fun M12 H locs hF hP hS => ?_)
      refine lv_aload_n hx hb dX11_sendShort_95 rfl (lv_at hl 0 rfl) ?_
      refine xr_getR hx hb hts iw_X11_sendShort_11 hown hK hP hF 11 27 rfl (by decide) (by decide +kernel) ⟨rfl, rfl, rfl⟩ dX11_sendShort_96 (fun v13 hF => ?_)
      refine lv_bipush (v := 8) hx hb dX11_sendShort_99 (by decide) ?_
      refine lv_aload_n hx hb dX11_sendShort_101 rfl (lv_at hl 0 rfl) ?_
      refine xr_getI hx hb hts iw_X11_sendShort_11 hown hK hP hF 11 16 rfl (by decide) (by decide +kernel) ⟨rfl, rfl, rfl⟩ dX11_sendShort_102 (fun v14 hF => ?_)
      refine lv_imul hx hb dX11_sendShort_105 ?_
      refine lv_iload_n hx hb dX11_sendShort_106 rfl (lv_at hl 3 rfl) ?_
      refine lv_iadd hx hb dX11_sendShort_107 ?_
      refine lv_aload_n hx hb dX11_sendShort_108 rfl (lv_at hl 0 rfl) ?_
      refine lv_iload_n hx hb dX11_sendShort_109 rfl (lv_at hl 1 rfl) ?_
      refine lv_iload_n hx hb dX11_sendShort_110 rfl (lv_at hl 3 rfl) ?_
      refine lv_iload_n hx hb dX11_sendShort_111 rfl (lv_at hl 2 rfl) ?_
      refine lv_iload hx hb dX11_sendShort_112 (lv_at hl 4 rfl) ?_
      refine lv_iconst (v := 1) hx hb dX11_sendShort_114 (by decide) ?_
      refine lv_isub hx hb dX11_sendShort_115 ?_
      obtain ⟨v16, h15, hF⟩ := ob_some hF
      refine xr_call1 (va_runV (As := [.int x1, .int x3, .int x2, .int (x4 - 1)]) (rest := [.int ((8 * v14) + x3), .ref v13]) ⟨hx, hb, hml, hown, hts⟩ (ct_X11_fails l b0 D cy M12 x0 x1 x3 x2 (x4 - 1) v16 h15) (cwV 4 hts gX11_sendShort_X11_fails rfl rfl rfl (by decide +kernel) ⟨Nat.le_of_ble_eq_true rfl, Nat.le_of_ble_eq_true rfl⟩) (xp_V hP hK hN hS hb0 11 rfl (gk_X11_fails h15)) rfl rfl hl.1 rfl (lv_room (Nat.le_of_ble_eq_true rfl)) dX11_sendShort_116 ⟨Nat.le_of_ble_eq_true rfl, Nat.le_of_ble_eq_true rfl⟩) hS (fun H locs hP hS => ?_)
      refine xr_wI hx hb hK hP hS hF dX11_sendShort_119 (fun M17 H locs hF hP hS => ?_)
      refine lv_goto (tgt := 149) hx hb dX11_sendShort_120 (by decide) ?_
      exact nd_X11_sendShort_149 CX k21 hk21 _ _ _ _ _ _ _ _ hF hP hS (lv_sub hl [0, 1, 2, 3] rfl)
    · replace hF := it_t hF c3
      refine lv_iinc (v := x4 + 1) (lv' := [(4, .int (x4 + 1)), (0, .ref x0), (1, .int x1), (2, .int x2), (3, .int x3)]) hx hb dX11_sendShort_52 hl (k := 4) rfl (by rfl) (by decide) rfl (fun ls hl => ?_)
      refine lv_goto (tgt := 40) hx hb dX11_sendShort_55 (by decide) ?_
      exact ih _ _ _ _ _ _ _ _ _ hF hP hS (lv_sub hl [1, 2, 3, 4, 0] rfl)
set_option maxHeartbeats 4000000 in
set_option maxRecDepth 100000 in
theorem nd_X11_sendShort_21 {p : Program} {l : Launch} {e : Env} {s : State} {m : MethodId} {args : Array Value} {below : List Frame} {meth : Method} {c : Code} {b0 : Nat} {D : va_G} {cy : Nat → ClassId} {M1 : Mm} {r : Int32} (CX : Cx yX11_sendShort cX11_sendShort 5 (some .int) wsX11_sendShort b0 D cy p s m args meth c) : ∀ (fu : Nat), ∀ (M : Mm) (x0 : Nat) (x1 : Int32) (x2 : Int32) (x3 : Int32) (H : Heap) (locs : List Loc) (ls : Array Slot), f_X11_sendShort_L21 fu M x0 x1 x2 x3 = some (M1, r) → Hp b0 D cy M H → va_S (BA b0) s.heap H locs → lv_has ls 5 [(0, .ref x0), (1, .int x1), (2, .int x2), (3, .int x3)] → W p l e rm_X11_sendShort s m args below meth c H locs 0 0 (MQ below (Qm b0 D cy M1 (some (.int r))) args s 0 0 (BA b0)) (F0 m 21 ls []) := by
  obtain ⟨hx, hb, hr, hml, hown0, hts, hlk, hK, hN, hb0, hnm⟩ := id CX
  have hown : s.vm.findClass RX11 = some m.cls := hown0
  intro fu
  induction fu with
  | zero =>
    intro M x0 x1 x2 x3 H locs ls hF hP hS hl
    rw [f_X11_sendShort_L21] at hF
    cases hF
  | succ fu ih =>
    intro M x0 x1 x2 x3 H locs ls hF hP hS hl
    rw [f_X11_sendShort_L21] at hF
    refine lv_iload_n hx hb dX11_sendShort_21 rfl (lv_at hl 3 rfl) ?_
    refine lv_aload_n hx hb dX11_sendShort_22 rfl (lv_at hl 0 rfl) ?_
    refine xr_getI hx hb hts iw_X11_sendShort_11 hown hK hP hF 11 1 rfl (by decide) (by decide +kernel) ⟨rfl, rfl, rfl⟩ dX11_sendShort_23 (fun v1 hF => ?_)
    refine lv_icmp_ge (tgt := 155) hx hb dX11_sendShort_26 (by decide) (fun c2 => ?_) (fun c2 => ?_)
    · replace hF := it_t hF c2
      refine lv_aload_n hx hb dX11_sendShort_155 rfl (lv_at hl 0 rfl) ?_
      refine xr_getR hx hb hts iw_X11_sendShort_11 hown hK hP hF 11 28 rfl (by decide) (by decide +kernel) ⟨rfl, rfl, rfl⟩ dX11_sendShort_156 (fun v3 hF => ?_)
      refine lv_aload_n hx hb dX11_sendShort_159 rfl (lv_at hl 0 rfl) ?_
      refine xr_getI hx hb hts iw_X11_sendShort_11 hown hK hP hF 11 16 rfl (by decide) (by decide +kernel) ⟨rfl, rfl, rfl⟩ dX11_sendShort_160 (fun v4 hF => ?_)
      refine lv_aload_n hx hb dX11_sendShort_163 rfl (lv_at hl 0 rfl) ?_
      refine xr_getR hx hb hts iw_X11_sendShort_11 hown hK hP hF 11 13 rfl (by decide) (by decide +kernel) ⟨rfl, rfl, rfl⟩ dX11_sendShort_164 (fun v5 hF => ?_)
      refine lv_iload_n hx hb dX11_sendShort_167 rfl (lv_at hl 1 rfl) ?_
      refine xr_aI hx hb hK hP hF dX11_sendShort_168 (fun v6 hF => ?_)
      refine xr_wI hx hb hK hP hS hF dX11_sendShort_169 (fun M7 H locs hF hP hS => ?_)
      refine lv_aload_n hx hb dX11_sendShort_170 rfl (lv_at hl 0 rfl) ?_
      refine xr_getR hx hb hts iw_X11_sendShort_11 hown hK hP hF 11 29 rfl (by decide) (by decide +kernel) ⟨rfl, rfl, rfl⟩ dX11_sendShort_171 (fun v8 hF => ?_)
      refine lv_aload_n hx hb dX11_sendShort_174 rfl (lv_at hl 0 rfl) ?_
      refine xr_getI hx hb hts iw_X11_sendShort_11 hown hK hP hF 11 16 rfl (by decide) (by decide +kernel) ⟨rfl, rfl, rfl⟩ dX11_sendShort_175 (fun v9 hF => ?_)
      refine lv_aload_n hx hb dX11_sendShort_178 rfl (lv_at hl 0 rfl) ?_
      refine xr_getR hx hb hts iw_X11_sendShort_11 hown hK hP hF 11 14 rfl (by decide) (by decide +kernel) ⟨rfl, rfl, rfl⟩ dX11_sendShort_179 (fun v10 hF => ?_)
      refine lv_bipush (v := 9) hx hb dX11_sendShort_182 (by decide) ?_
      refine lv_iload_n hx hb dX11_sendShort_184 rfl (lv_at hl 1 rfl) ?_
      refine lv_imul hx hb dX11_sendShort_185 ?_
      refine xr_aI hx hb hK hP hF dX11_sendShort_186 (fun v11 hF => ?_)
      refine xr_wI hx hb hK hP hS hF dX11_sendShort_187 (fun M12 H locs hF hP hS => ?_)
      refine lv_aload_n hx hb dX11_sendShort_188 rfl (lv_at hl 0 rfl) ?_
      refine lv_aload_n hx hb dX11_sendShort_189 rfl (lv_at hl 0 rfl) ?_
      obtain ⟨v14, h13, hF⟩ := ob_some hF
      refine xr_call1 (va_runV (As := []) (rest := [.ref x0]) ⟨hx, hb, hml, hown, hts⟩ (ct_X11_draftSum l b0 D cy M12 x0 v14 h13) (cwV 0 hts gX11_sendShort_X11_draftSum rfl rfl rfl (by decide +kernel) ⟨Nat.le_of_ble_eq_true rfl, Nat.le_of_ble_eq_true rfl⟩) (xp_V hP hK hN hS hb0 11 rfl (gk_X11_draftSum h13)) rfl rfl hl.1 rfl (lv_room (Nat.le_of_ble_eq_true rfl)) dX11_sendShort_190 ⟨Nat.le_of_ble_eq_true rfl, Nat.le_of_ble_eq_true rfl⟩) hS (fun H locs hP hS => ?_)
      refine lv_i2l hx hb dX11_sendShort_193 rfl ?_
      refine lv_bipush (v := 8) hx hb dX11_sendShort_194 (by decide) ?_
      obtain ⟨M16, h15, hF⟩ := ob_some hF
      refine xr_call0 (va_runV (As := [.long v14.toInt64, .int 8]) (rest := []) ⟨hx, hb, hml, hown, hts⟩ (ct_X11_say l b0 D cy M12 x0 v14.toInt64 8 M16 h15) (cwV 2 hts gX11_sendShort_X11_say rfl rfl rfl (by decide +kernel) ⟨Nat.le_of_ble_eq_true rfl, Nat.le_of_ble_eq_true rfl⟩) (xp_V hP hK hN hS hb0 11 rfl (gk_X11_say h15)) rfl rfl hl.1 rfl (lv_room (Nat.le_of_ble_eq_true rfl)) dX11_sendShort_196 ⟨Nat.le_of_ble_eq_true rfl, Nat.le_of_ble_eq_true rfl⟩) hS (fun H locs hP hS => ?_)
      refine lv_aload_n hx hb dX11_sendShort_199 rfl (lv_at hl 0 rfl) ?_
      refine lv_iconst (v := 2) hx hb dX11_sendShort_200 (by decide) ?_
      refine lv_iload_n hx hb dX11_sendShort_201 rfl (lv_at hl 1 rfl) ?_
      refine lv_iload_n hx hb dX11_sendShort_202 rfl (lv_at hl 2 rfl) ?_
      refine lv_iconst (v := 0) hx hb dX11_sendShort_203 (by decide) ?_
      obtain ⟨M18, v19, h17, hF⟩ := ob2_some hF
      refine xr_call1 (va_runV (As := [.int 2, .int x1, .int x2, .int 0]) (rest := []) ⟨hx, hb, hml, hown, hts⟩ (ct_X11_laid l b0 D cy M16 x0 2 x1 x2 0 M18 v19 h17) (cwV 4 hts gX11_sendShort_X11_laid rfl rfl rfl (by decide +kernel) ⟨Nat.le_of_ble_eq_true rfl, Nat.le_of_ble_eq_true rfl⟩) (xp_V hP hK hN hS hb0 11 rfl (gk_X11_laid h17)) rfl rfl hl.1 rfl (lv_room (Nat.le_of_ble_eq_true rfl)) dX11_sendShort_204 ⟨Nat.le_of_ble_eq_true rfl, Nat.le_of_ble_eq_true rfl⟩) hS (fun H locs hP hS => ?_)
      cases hF
      exact W.iret hx hb hr (fun t ht hW => ⟨rfl, by rw [ht]; exact hP, hS.F ht⟩) hS.2.2 dX11_sendShort_207 hlk
    · replace hF := it_f hF c2
      refine lv_aload_n hx hb dX11_sendShort_29 rfl (lv_at hl 0 rfl) ?_
      refine lv_iload_n hx hb dX11_sendShort_30 rfl (lv_at hl 3 rfl) ?_
      obtain ⟨v21, h20, hF⟩ := ob_some hF
      refine xr_call1 (va_runV (As := [.int x3]) (rest := []) ⟨hx, hb, hml, hown, hts⟩ (ct_X11_runs l b0 D cy M x0 x3 v21 h20) (cwV 1 hts gX11_sendShort_X11_runs rfl rfl rfl (by decide +kernel) ⟨Nat.le_of_ble_eq_true rfl, Nat.le_of_ble_eq_true rfl⟩) (xp_V hP hK hN hS hb0 11 rfl (gk_X11_runs h20)) rfl rfl hl.1 rfl (lv_room (Nat.le_of_ble_eq_true rfl)) dX11_sendShort_31 ⟨Nat.le_of_ble_eq_true rfl, Nat.le_of_ble_eq_true rfl⟩) hS (fun H locs hP hS => ?_)
      refine lv_if_eq (tgt := 123) hx hb dX11_sendShort_34 (by decide) (fun c22 => ?_) (fun c22 => ?_)
      · replace hF := it_t hF c22
        refine lv_aload_n hx hb dX11_sendShort_123 rfl (lv_at hl 0 rfl) ?_
        refine xr_getR hx hb hts iw_X11_sendShort_11 hown hK hP hF 11 2 rfl (by decide) (by decide +kernel) ⟨rfl, rfl, rfl⟩ dX11_sendShort_124 (fun v23 hF => ?_)
        refine lv_iload_n hx hb dX11_sendShort_127 rfl (lv_at hl 3 rfl) ?_
        refine xr_aI hx hb hK hP hF dX11_sendShort_128 (fun v24 hF => ?_)
        refine lv_iconst (v := 4) hx hb dX11_sendShort_129 (by decide) ?_
        refine lv_icmp_ne (tgt := 149) hx hb dX11_sendShort_130 (by decide) (fun c25 => ?_) (fun c25 => ?_)
        · replace hF := it_f hF c25
          exact nd_X11_sendShort_149 CX (f_X11_sendShort_L21 fu) ih _ _ _ _ _ _ _ _ hF hP hS (lv_sub hl [0, 1, 2, 3] rfl)
        · replace hF := it_t hF c25
          refine lv_aload_n hx hb dX11_sendShort_133 rfl (lv_at hl 0 rfl) ?_
          refine lv_aload_n hx hb dX11_sendShort_134 rfl (lv_at hl 0 rfl) ?_
          refine xr_getR hx hb hts iw_X11_sendShort_11 hown hK hP hF 11 8 rfl (by decide) (by decide +kernel) ⟨rfl, rfl, rfl⟩ dX11_sendShort_135 (fun v26 hF => ?_)
          refine lv_iload_n hx hb dX11_sendShort_138 rfl (lv_at hl 3 rfl) ?_
          refine xr_aJ hx hb hK hP hF dX11_sendShort_139 (fun v27 hF => ?_)
          refine lv_aload_n hx hb dX11_sendShort_140 rfl (lv_at hl 0 rfl) ?_
          refine xr_getR hx hb hts iw_X11_sendShort_11 hown hK hP hF 11 3 rfl (by decide) (by decide +kernel) ⟨rfl, rfl, rfl⟩ dX11_sendShort_141 (fun v28 hF => ?_)
          refine lv_iload_n hx hb dX11_sendShort_144 rfl (lv_at hl 3 rfl) ?_
          refine xr_aI hx hb hK hP hF dX11_sendShort_145 (fun v29 hF => ?_)
          obtain ⟨M31, h30, hF⟩ := ob_some hF
          refine xr_call0 (va_runV (As := [.long v27, .int v29]) (rest := []) ⟨hx, hb, hml, hown, hts⟩ (ct_X11_say l b0 D cy M x0 v27 v29 M31 h30) (cwV 2 hts gX11_sendShort_X11_say rfl rfl rfl (by decide +kernel) ⟨Nat.le_of_ble_eq_true rfl, Nat.le_of_ble_eq_true rfl⟩) (xp_V hP hK hN hS hb0 11 rfl (gk_X11_say h30)) rfl rfl hl.1 rfl (lv_room (Nat.le_of_ble_eq_true rfl)) dX11_sendShort_146 ⟨Nat.le_of_ble_eq_true rfl, Nat.le_of_ble_eq_true rfl⟩) hS (fun H locs hP hS => ?_)
          exact nd_X11_sendShort_149 CX (f_X11_sendShort_L21 fu) ih _ _ _ _ _ _ _ _ hF hP hS (lv_sub hl [0, 1, 2, 3] rfl)
      · replace hF := it_f hF c22
        refine lv_iconst (v := 0) hx hb dX11_sendShort_37 (by decide) ?_
        refine lv_istore (lv' := [(4, .int 0), (0, .ref x0), (1, .int x1), (2, .int x2), (3, .int x3)]) hx hb dX11_sendShort_38 hl (by decide) (by first | rfl | simp [cat_rf]) (fun ls hl => ?_)
        exact nd_X11_sendShort_40 CX (f_X11_sendShort_L21 fu) ih _ _ _ _ _ _ _ _ _ _ hF hP hS (lv_sub hl [1, 2, 3, 4, 0] rfl)
theorem gk_X11_sendShort {M : Mm} {a0 : Nat} {a1 : Int32} {a2 : Int32} {r : (Mm × Int32)} (h : f_X11_sendShort M a0 a1 a2 = some r) : mK M a0 = 12 := by
  unfold f_X11_sendShort at h
  exact (if_some h).1
set_option maxHeartbeats 4000000 in
set_option maxRecDepth 100000 in
theorem ct_X11_sendShort (l : Launch) (b0 : Nat) (D : va_G) (cy : Nat → ClassId) (M : Mm) (a0 : Nat) (a1 : Int32) (a2 : Int32) (M1 : Mm) (r : Int32) (hF : f_X11_sendShort M a0 a1 a2 = some (M1, r)) : Met l yX11_sendShort wsX11_sendShort rm_X11_sendShort (va_Pc [.ref a0, .int a1, .int a2] (Pm b0 D cy M)) (Qm b0 D cy M1 (some (.int r))) 0 0 (BA b0) := by
  refine ct_of [.ref a0, .int a1, .int a2] (by decide) rfl ?_
  intro p e s m below meth c CX hP
  obtain ⟨hx, hb, hr, hml, hown0, hts, hlk, hK, hN, hb0, hnm⟩ := id CX
  have hown : s.vm.findClass RX11 = some m.cls := hown0
  have hS : va_S (BA b0) s.heap s.heap [] := va_S.rf
  have hl := lv_entry [.ref a0, .int a1, .int a2] (n := 5) (Nat.le_of_ble_eq_true rfl)
  generalize (lg_sl [.ref a0, .int a1, .int a2] ++ List.replicate (5 - (lg_sl [.ref a0, .int a1, .int a2]).length) Slot.unset).toArray = ls at hl ⊢
  have hl : lv_has ls 5 [(0, .ref a0), (1, .int a1), (2, .int a2)] := hl
  unfold f_X11_sendShort at hF
  replace hF := (if_some hF).2
  refine lv_aload_n hx hb dX11_sendShort_0 rfl (lv_at hl 0 rfl) ?_
  refine lv_iconst (v := 2) hx hb dX11_sendShort_1 (by decide) ?_
  refine lv_iload_n hx hb dX11_sendShort_2 rfl (lv_at hl 1 rfl) ?_
  refine lv_iload_n hx hb dX11_sendShort_3 rfl (lv_at hl 2 rfl) ?_
  obtain ⟨M2, h1, hF⟩ := ob_some hF
  refine xr_call0 (va_runV (As := [.int 2, .int a1, .int a2]) (rest := []) ⟨hx, hb, hml, hown, hts⟩ (ct_X11_head l b0 D cy M a0 2 a1 a2 M2 h1) (cwV 3 hts gX11_sendShort_X11_head rfl rfl rfl (by decide +kernel) ⟨Nat.le_of_ble_eq_true rfl, Nat.le_of_ble_eq_true rfl⟩) (xp_V hP hK hN hS hb0 11 rfl (gk_X11_head h1)) rfl rfl hl.1 rfl (lv_room (Nat.le_of_ble_eq_true rfl)) dX11_sendShort_4 ⟨Nat.le_of_ble_eq_true rfl, Nat.le_of_ble_eq_true rfl⟩) hS (fun H locs hP hS => ?_)
  refine lv_aload_n hx hb dX11_sendShort_7 rfl (lv_at hl 0 rfl) ?_
  refine lv_aload_n hx hb dX11_sendShort_8 rfl (lv_at hl 0 rfl) ?_
  refine xr_getR hx hb hts iw_X11_sendShort_11 hown hK hP hF 11 10 rfl (by decide) (by decide +kernel) ⟨rfl, rfl, rfl⟩ dX11_sendShort_9 (fun v3 hF => ?_)
  refine lv_iload_n hx hb dX11_sendShort_12 rfl (lv_at hl 1 rfl) ?_
  refine xr_aI hx hb hK hP hF dX11_sendShort_13 (fun v4 hF => ?_)
  refine lv_i2l hx hb dX11_sendShort_14 rfl ?_
  refine lv_iconst (v := 4) hx hb dX11_sendShort_15 (by decide) ?_
  obtain ⟨M6, h5, hF⟩ := ob_some hF
  refine xr_call0 (va_runV (As := [.long v4.toInt64, .int 4]) (rest := []) ⟨hx, hb, hml, hown, hts⟩ (ct_X11_say l b0 D cy M2 a0 v4.toInt64 4 M6 h5) (cwV 2 hts gX11_sendShort_X11_say rfl rfl rfl (by decide +kernel) ⟨Nat.le_of_ble_eq_true rfl, Nat.le_of_ble_eq_true rfl⟩) (xp_V hP hK hN hS hb0 11 rfl (gk_X11_say h5)) rfl rfl hl.1 rfl (lv_room (Nat.le_of_ble_eq_true rfl)) dX11_sendShort_16 ⟨Nat.le_of_ble_eq_true rfl, Nat.le_of_ble_eq_true rfl⟩) hS (fun H locs hP hS => ?_)
  refine lv_iconst (v := 0) hx hb dX11_sendShort_19 (by decide) ?_
  refine lv_istore_n (lv' := [(3, .int 0), (0, .ref a0), (1, .int a1), (2, .int a2)]) hx hb dX11_sendShort_20 rfl hl (by decide) (by first | rfl | simp [cat_rf]) (fun ls hl => ?_)
  exact nd_X11_sendShort_21 CX _ _ _ _ _ _ _ _ _ hF hP hS (lv_sub hl [1, 2, 3, 0] rfl)
/-! X11_drop -/
theorem iw_X11_drop_11 : ∀ w ∈ u_ws RX11 TX11 58, w ∈ wsX11_drop := by decide +kernel
abbrev rm_X11_drop : Room := { frames := 0, cells := 0, slots := 0, locals := 0 }
set_option maxHeartbeats 4000000 in
set_option maxRecDepth 100000 in
theorem nd_X11_drop_49 {p : Program} {l : Launch} {e : Env} {s : State} {m : MethodId} {args : Array Value} {below : List Frame} {meth : Method} {c : Code} {b0 : Nat} {D : va_G} {cy : Nat → ClassId} {M1 : Mm} (CX : Cx yX11_drop cX11_drop 6 none wsX11_drop b0 D cy p s m args meth c) (k12 : Mm → Nat → Int32 → Int32 → Int32 → Option Mm) (hk12 : ∀ (M : Mm) (x0 : Nat) (x1 : Int32) (x2 : Int32) (x3 : Int32) (H : Heap) (locs : List Loc) (ls : Array Slot), k12 M x0 x1 x2 x3 = some M1 → Hp b0 D cy M H → va_S (BA b0) s.heap H locs → lv_has ls 6 [(0, .ref x0), (1, .int x1), (2, .int x2), (3, .int x3)] → W p l e rm_X11_drop s m args below meth c H locs 0 0 (MQ below (Qm b0 D cy M1 none) args s 0 0 (BA b0)) (F0 m 12 ls [])) : ∀ (fu : Nat), ∀ (M : Mm) (x0 : Nat) (x1 : Int32) (x2 : Int32) (x3 : Int32) (x4 : Int32) (x5 : Int32) (H : Heap) (locs : List Loc) (ls : Array Slot), f_X11_drop_L49 k12 fu M x0 x1 x2 x3 x4 x5 = some M1 → Hp b0 D cy M H → va_S (BA b0) s.heap H locs → lv_has ls 6 [(0, .ref x0), (1, .int x1), (2, .int x2), (3, .int x3), (4, .int x4), (5, .int x5)] → W p l e rm_X11_drop s m args below meth c H locs 0 0 (MQ below (Qm b0 D cy M1 none) args s 0 0 (BA b0)) (F0 m 49 ls []) := by
  obtain ⟨hx, hb, hr, hml, hown0, hts, hlk, hK, hN, hb0, hnm⟩ := id CX
  have hown : s.vm.findClass RX11 = some m.cls := hown0
  intro fu
  induction fu with
  | zero =>
    intro M x0 x1 x2 x3 x4 x5 H locs ls hF hP hS hl
    rw [f_X11_drop_L49] at hF
    cases hF
  | succ fu ih =>
    intro M x0 x1 x2 x3 x4 x5 H locs ls hF hP hS hl
    rw [f_X11_drop_L49] at hF
    refine lv_iload hx hb dX11_drop_49 (lv_at hl 5 rfl) ?_
    refine lv_aload_n hx hb dX11_drop_51 rfl (lv_at hl 0 rfl) ?_
    refine xr_getI hx hb hts iw_X11_drop_11 hown hK hP hF 11 1 rfl (by decide) (by decide +kernel) ⟨rfl, rfl, rfl⟩ dX11_drop_52 (fun v1 hF => ?_)
    refine lv_icmp_ge (tgt := 95) hx hb dX11_drop_55 (by decide) (fun c2 => ?_) (fun c2 => ?_)
    · replace hF := it_t hF c2
      refine lv_iinc (v := x3 + 1) (lv' := [(3, .int (x3 + 1)), (0, .ref x0), (1, .int x1), (2, .int x2), (4, .int x4), (5, .int x5)]) hx hb dX11_drop_95 hl (k := 3) rfl (by rfl) (by decide) rfl (fun ls hl => ?_)
      refine lv_goto (tgt := 12) hx hb dX11_drop_98 (by decide) ?_
      exact hk12 _ _ _ _ _ _ _ _ hF hP hS (lv_sub hl [1, 2, 3, 0] rfl)
    · replace hF := it_f hF c2
      refine lv_aload_n hx hb dX11_drop_58 rfl (lv_at hl 0 rfl) ?_
      refine xr_getR hx hb hts iw_X11_drop_11 hown hK hP hF 11 15 rfl (by decide) (by decide +kernel) ⟨rfl, rfl, rfl⟩ dX11_drop_59 (fun v3 hF => ?_)
      refine lv_bipush (v := 8) hx hb dX11_drop_62 (by decide) ?_
      refine lv_iload hx hb dX11_drop_64 (lv_at hl 4 rfl) ?_
      refine lv_imul hx hb dX11_drop_66 ?_
      refine lv_iload hx hb dX11_drop_67 (lv_at hl 5 rfl) ?_
      refine lv_iadd hx hb dX11_drop_69 ?_
      refine lv_aload_n hx hb dX11_drop_70 rfl (lv_at hl 0 rfl) ?_
      refine xr_getR hx hb hts iw_X11_drop_11 hown hK hP hF 11 15 rfl (by decide) (by decide +kernel) ⟨rfl, rfl, rfl⟩ dX11_drop_71 (fun v4 hF => ?_)
      refine lv_bipush (v := 8) hx hb dX11_drop_74 (by decide) ?_
      refine lv_iload hx hb dX11_drop_76 (lv_at hl 4 rfl) ?_
      refine lv_imul hx hb dX11_drop_78 ?_
      refine lv_bipush (v := 8) hx hb dX11_drop_79 (by decide) ?_
      refine lv_iload_n hx hb dX11_drop_81 rfl (lv_at hl 2 rfl) ?_
      refine lv_imul hx hb dX11_drop_82 ?_
      refine lv_iadd hx hb dX11_drop_83 ?_
      refine lv_iload hx hb dX11_drop_84 (lv_at hl 5 rfl) ?_
      refine lv_iadd hx hb dX11_drop_86 ?_
      refine xr_aJ hx hb hK hP hF dX11_drop_87 (fun v5 hF => ?_)
      refine xr_wJ hx hb hK hP hS hF dX11_drop_88 (fun M6 H locs hF hP hS => ?_)
      refine lv_iinc (v := x5 + 1) (lv' := [(5, .int (x5 + 1)), (0, .ref x0), (1, .int x1), (2, .int x2), (3, .int x3), (4, .int x4)]) hx hb dX11_drop_89 hl (k := 5) rfl (by rfl) (by decide) rfl (fun ls hl => ?_)
      refine lv_goto (tgt := 49) hx hb dX11_drop_92 (by decide) ?_
      exact ih _ _ _ _ _ _ _ _ _ _ hF hP hS (lv_sub hl [1, 2, 3, 4, 5, 0] rfl)
set_option maxHeartbeats 4000000 in
set_option maxRecDepth 100000 in
theorem nd_X11_drop_12 {p : Program} {l : Launch} {e : Env} {s : State} {m : MethodId} {args : Array Value} {below : List Frame} {meth : Method} {c : Code} {b0 : Nat} {D : va_G} {cy : Nat → ClassId} {M1 : Mm} (CX : Cx yX11_drop cX11_drop 6 none wsX11_drop b0 D cy p s m args meth c) : ∀ (fu : Nat), ∀ (M : Mm) (x0 : Nat) (x1 : Int32) (x2 : Int32) (x3 : Int32) (H : Heap) (locs : List Loc) (ls : Array Slot), f_X11_drop_L12 fu M x0 x1 x2 x3 = some M1 → Hp b0 D cy M H → va_S (BA b0) s.heap H locs → lv_has ls 6 [(0, .ref x0), (1, .int x1), (2, .int x2), (3, .int x3)] → W p l e rm_X11_drop s m args below meth c H locs 0 0 (MQ below (Qm b0 D cy M1 none) args s 0 0 (BA b0)) (F0 m 12 ls []) := by
  obtain ⟨hx, hb, hr, hml, hown0, hts, hlk, hK, hN, hb0, hnm⟩ := id CX
  have hown : s.vm.findClass RX11 = some m.cls := hown0
  intro fu
  induction fu with
  | zero =>
    intro M x0 x1 x2 x3 H locs ls hF hP hS hl
    rw [f_X11_drop_L12] at hF
    cases hF
  | succ fu ih =>
    intro M x0 x1 x2 x3 H locs ls hF hP hS hl
    rw [f_X11_drop_L12] at hF
    refine lv_iload_n hx hb dX11_drop_12 rfl (lv_at hl 3 rfl) ?_
    refine lv_aload_n hx hb dX11_drop_13 rfl (lv_at hl 0 rfl) ?_
    refine xr_getR hx hb hts iw_X11_drop_11 hown hK hP hF 11 13 rfl (by decide) (by decide +kernel) ⟨rfl, rfl, rfl⟩ dX11_drop_14 (fun v1 hF => ?_)
    refine lv_iload_n hx hb dX11_drop_17 rfl (lv_at hl 1 rfl) ?_
    refine xr_aI hx hb hK hP hF dX11_drop_18 (fun v2 hF => ?_)
    refine lv_icmp_ge (tgt := 101) hx hb dX11_drop_19 (by decide) (fun c3 => ?_) (fun c3 => ?_)
    · replace hF := it_t hF c3
      cases hF
      exact W.vret hx hb hr (fun t ht hW => ⟨rfl, by rw [ht]; exact hP, hS.F ht⟩) hS.2.2 dX11_drop_101 hlk
    · replace hF := it_f hF c3
      refine lv_bipush (v := 9) hx hb dX11_drop_22 (by decide) ?_
      refine lv_iload_n hx hb dX11_drop_24 rfl (lv_at hl 1 rfl) ?_
      refine lv_imul hx hb dX11_drop_25 ?_
      refine lv_iload_n hx hb dX11_drop_26 rfl (lv_at hl 3 rfl) ?_
      refine lv_iadd hx hb dX11_drop_27 ?_
      refine lv_istore (lv' := [(4, .int ((9 * x1) + x3)), (0, .ref x0), (1, .int x1), (2, .int x2), (3, .int x3)]) hx hb dX11_drop_28 hl (by decide) (by first | rfl | simp [cat_rf]) (fun ls hl => ?_)
      refine lv_aload_n hx hb dX11_drop_30 rfl (lv_at hl 1 rfl) ?_
      refine xr_getR hx hb hts iw_X11_drop_11 hown hK hP hF 11 14 rfl (by decide) (by decide +kernel) ⟨rfl, rfl, rfl⟩ dX11_drop_31 (fun v4 hF => ?_)
      refine lv_iload hx hb dX11_drop_34 (lv_at hl 0 rfl) ?_
      refine lv_aload_n hx hb dX11_drop_36 rfl (lv_at hl 1 rfl) ?_
      refine xr_getR hx hb hts iw_X11_drop_11 hown hK hP hF 11 14 rfl (by decide) (by decide +kernel) ⟨rfl, rfl, rfl⟩ dX11_drop_37 (fun v5 hF => ?_)
      refine lv_iload hx hb dX11_drop_40 (lv_at hl 0 rfl) ?_
      refine lv_iload_n hx hb dX11_drop_42 rfl (lv_at hl 3 rfl) ?_
      refine lv_iadd hx hb dX11_drop_43 ?_
      refine xr_aI hx hb hK hP hF dX11_drop_44 (fun v6 hF => ?_)
      refine xr_wI hx hb hK hP hS hF dX11_drop_45 (fun M7 H locs hF hP hS => ?_)
      refine lv_iconst (v := 0) hx hb dX11_drop_46 (by decide) ?_
      refine lv_istore (lv' := [(5, .int 0), (4, .int ((9 * x1) + x3)), (0, .ref x0), (1, .int x1), (2, .int x2), (3, .int x3)]) hx hb dX11_drop_47 hl (by decide) (by first | rfl | simp [cat_rf]) (fun ls hl => ?_)
      exact nd_X11_drop_49 CX (f_X11_drop_L12 fu) ih _ _ _ _ _ _ _ _ _ _ _ hF hP hS (lv_sub hl [2, 3, 4, 5, 1, 0] rfl)
theorem gk_X11_drop {M : Mm} {a0 : Nat} {a1 : Int32} {a2 : Int32} {r : Mm} (h : f_X11_drop M a0 a1 a2 = some r) : mK M a0 = 12 := by
  unfold f_X11_drop at h
  exact (if_some h).1
set_option maxHeartbeats 4000000 in
set_option maxRecDepth 100000 in
theorem ct_X11_drop (l : Launch) (b0 : Nat) (D : va_G) (cy : Nat → ClassId) (M : Mm) (a0 : Nat) (a1 : Int32) (a2 : Int32) (M1 : Mm) (hF : f_X11_drop M a0 a1 a2 = some M1) : Met l yX11_drop wsX11_drop rm_X11_drop (va_Pc [.ref a0, .int a1, .int a2] (Pm b0 D cy M)) (Qm b0 D cy M1 none) 0 0 (BA b0) := by
  refine ct_of [.ref a0, .int a1, .int a2] (by decide) rfl ?_
  intro p e s m below meth c CX hP
  obtain ⟨hx, hb, hr, hml, hown0, hts, hlk, hK, hN, hb0, hnm⟩ := id CX
  have hown : s.vm.findClass RX11 = some m.cls := hown0
  have hS : va_S (BA b0) s.heap s.heap [] := va_S.rf
  have hl := lv_entry [.ref a0, .int a1, .int a2] (n := 6) (Nat.le_of_ble_eq_true rfl)
  generalize (lg_sl [.ref a0, .int a1, .int a2] ++ List.replicate (6 - (lg_sl [.ref a0, .int a1, .int a2]).length) Slot.unset).toArray = ls at hl ⊢
  have hl : lv_has ls 6 [(0, .ref a0), (1, .int a1), (2, .int a2)] := hl
  unfold f_X11_drop at hF
  replace hF := (if_some hF).2
  refine lv_aload_n hx hb dX11_drop_0 rfl (lv_at hl 0 rfl) ?_
  refine xr_getR hx hb hts iw_X11_drop_11 hown hK hP hF 11 13 rfl (by decide) (by decide +kernel) ⟨rfl, rfl, rfl⟩ dX11_drop_1 (fun v1 hF => ?_)
  refine lv_iload_n hx hb dX11_drop_4 rfl (lv_at hl 1 rfl) ?_
  refine lv_dup2_11 hx hb dX11_drop_5 rfl rfl ?_
  refine xr_aI hx hb hK hP hF dX11_drop_6 (fun v2 hF => ?_)
  refine lv_iload_n hx hb dX11_drop_7 rfl (lv_at hl 2 rfl) ?_
  refine lv_isub hx hb dX11_drop_8 ?_
  refine xr_wI hx hb hK hP hS hF dX11_drop_9 (fun M3 H locs hF hP hS => ?_)
  refine lv_iconst (v := 0) hx hb dX11_drop_10 (by decide) ?_
  refine lv_istore_n (lv' := [(3, .int 0), (0, .ref a0), (1, .int a1), (2, .int a2)]) hx hb dX11_drop_11 rfl hl (by decide) (by first | rfl | simp [cat_rf]) (fun ls hl => ?_)
  exact nd_X11_drop_12 CX _ _ _ _ _ _ _ _ _ hF hP hS (lv_sub hl [1, 2, 3, 0] rfl)
/-! X11_refer -/
theorem iw_X11_refer_11 : ∀ w ∈ u_ws RX11 TX11 58, w ∈ wsX11_refer := by decide +kernel
abbrev rm_X11_refer : Room := { frames := 1, cells := 0, slots := 0, locals := 25 }
set_option maxHeartbeats 4000000 in
set_option maxRecDepth 100000 in
theorem nd_X11_refer_22 {p : Program} {l : Launch} {e : Env} {s : State} {m : MethodId} {args : Array Value} {below : List Frame} {meth : Method} {c : Code} {b0 : Nat} {D : va_G} {cy : Nat → ClassId} {M1 : Mm} (CX : Cx yX11_refer cX11_refer 5 none wsX11_refer b0 D cy p s m args meth c) : ∀ (fu : Nat), ∀ (M : Mm) (x0 : Nat) (x1 : Int32) (x3 : Int32) (x4 : Int32) (H : Heap) (locs : List Loc) (ls : Array Slot), f_X11_refer_L22 fu M x0 x1 x3 x4 = some M1 → Hp b0 D cy M H → va_S (BA b0) s.heap H locs → lv_has ls 5 [(0, .ref x0), (1, .int x1), (3, .int x3), (4, .int x4)] → W p l e rm_X11_refer s m args below meth c H locs 0 0 (MQ below (Qm b0 D cy M1 none) args s 0 0 (BA b0)) (F0 m 22 ls []) := by
  obtain ⟨hx, hb, hr, hml, hown0, hts, hlk, hK, hN, hb0, hnm⟩ := id CX
  have hown : s.vm.findClass RX11 = some m.cls := hown0
  intro fu
  induction fu with
  | zero =>
    intro M x0 x1 x3 x4 H locs ls hF hP hS hl
    rw [f_X11_refer_L22] at hF
    cases hF
  | succ fu ih =>
    intro M x0 x1 x3 x4 H locs ls hF hP hS hl
    rw [f_X11_refer_L22] at hF
    refine lv_iload hx hb dX11_refer_22 (lv_at hl 3 rfl) ?_
    refine lv_aload_n hx hb dX11_refer_24 rfl (lv_at hl 0 rfl) ?_
    refine xr_getI hx hb hts iw_X11_refer_11 hown hK hP hF 11 1 rfl (by decide) (by decide +kernel) ⟨rfl, rfl, rfl⟩ dX11_refer_25 (fun v1 hF => ?_)
    refine lv_icmp_ge (tgt := 56) hx hb dX11_refer_28 (by decide) (fun c2 => ?_) (fun c2 => ?_)
    · replace hF := it_t hF c2
      refine lv_aload_n hx hb dX11_refer_56 rfl (lv_at hl 0 rfl) ?_
      refine xr_getR hx hb hts iw_X11_refer_11 hown hK hP hF 11 13 rfl (by decide) (by decide +kernel) ⟨rfl, rfl, rfl⟩ dX11_refer_57 (fun v3 hF => ?_)
      refine lv_iload_n hx hb dX11_refer_60 rfl (lv_at hl 1 rfl) ?_
      refine lv_dup2_11 hx hb dX11_refer_61 rfl rfl ?_
      refine xr_aI hx hb hK hP hF dX11_refer_62 (fun v4 hF => ?_)
      refine lv_iconst (v := 1) hx hb dX11_refer_63 (by decide) ?_
      refine lv_iadd hx hb dX11_refer_64 ?_
      refine xr_wI hx hb hK hP hS hF dX11_refer_65 (fun M5 H locs hF hP hS => ?_)
      refine lv_aload_n hx hb dX11_refer_66 rfl (lv_at hl 0 rfl) ?_
      refine xr_getR hx hb hts iw_X11_refer_11 hown hK hP hF 11 13 rfl (by decide) (by decide +kernel) ⟨rfl, rfl, rfl⟩ dX11_refer_67 (fun v6 hF => ?_)
      refine lv_iload_n hx hb dX11_refer_70 rfl (lv_at hl 1 rfl) ?_
      refine xr_aI hx hb hK hP hF dX11_refer_71 (fun v7 hF => ?_)
      refine lv_aload_n hx hb dX11_refer_72 rfl (lv_at hl 0 rfl) ?_
      refine xr_getI hx hb hts iw_X11_refer_11 hown hK hP hF 11 7 rfl (by decide) (by decide +kernel) ⟨rfl, rfl, rfl⟩ dX11_refer_73 (fun v8 hF => ?_)
      refine lv_icmp_le (tgt := 85) hx hb dX11_refer_76 (by decide) (fun c9 => ?_) (fun c9 => ?_)
      · replace hF := it_t hF c9
        cases hF
        exact W.vret hx hb hr (fun t ht hW => ⟨rfl, by rw [ht]; exact hP, hS.F ht⟩) hS.2.2 dX11_refer_85 hlk
      · replace hF := it_f hF c9
        refine lv_aload_n hx hb dX11_refer_79 rfl (lv_at hl 0 rfl) ?_
        refine lv_iload_n hx hb dX11_refer_80 rfl (lv_at hl 1 rfl) ?_
        refine lv_iconst (v := 1) hx hb dX11_refer_81 (by decide) ?_
        obtain ⟨M11, h10, hF⟩ := ob_some hF
        refine xr_call0 (va_runV (As := [.int x1, .int 1]) (rest := []) ⟨hx, hb, hml, hown, hts⟩ (ct_X11_drop l b0 D cy M5 x0 x1 1 M11 h10) (cwV 2 hts gX11_refer_X11_drop rfl rfl rfl (by decide +kernel) ⟨Nat.le_of_ble_eq_true rfl, Nat.le_of_ble_eq_true rfl⟩) (xp_V hP hK hN hS hb0 11 rfl (gk_X11_drop h10)) rfl rfl hl.1 rfl (lv_room (Nat.le_of_ble_eq_true rfl)) dX11_refer_82 ⟨Nat.le_of_ble_eq_true rfl, Nat.le_of_ble_eq_true rfl⟩) hS (fun H locs hP hS => ?_)
        cases hF
        exact W.vret hx hb hr (fun t ht hW => ⟨rfl, by rw [ht]; exact hP, hS.F ht⟩) hS.2.2 dX11_refer_85 hlk
    · replace hF := it_f hF c2
      refine lv_aload_n hx hb dX11_refer_31 rfl (lv_at hl 0 rfl) ?_
      refine xr_getR hx hb hts iw_X11_refer_11 hown hK hP hF 11 15 rfl (by decide) (by decide +kernel) ⟨rfl, rfl, rfl⟩ dX11_refer_32 (fun v12 hF => ?_)
      refine lv_bipush (v := 8) hx hb dX11_refer_35 (by decide) ?_
      refine lv_iload_n hx hb dX11_refer_37 rfl (lv_at hl 2 rfl) ?_
      refine lv_imul hx hb dX11_refer_38 ?_
      refine lv_iload hx hb dX11_refer_39 (lv_at hl 3 rfl) ?_
      refine lv_iadd hx hb dX11_refer_41 ?_
      refine lv_aload_n hx hb dX11_refer_42 rfl (lv_at hl 0 rfl) ?_
      refine xr_getR hx hb hts iw_X11_refer_11 hown hK hP hF 11 8 rfl (by decide) (by decide +kernel) ⟨rfl, rfl, rfl⟩ dX11_refer_43 (fun v13 hF => ?_)
      refine lv_iload hx hb dX11_refer_46 (lv_at hl 3 rfl) ?_
      refine xr_aJ hx hb hK hP hF dX11_refer_48 (fun v14 hF => ?_)
      refine xr_wJ hx hb hK hP hS hF dX11_refer_49 (fun M15 H locs hF hP hS => ?_)
      refine lv_iinc (v := x4 + 1) (lv' := [(4, .int (x4 + 1)), (0, .ref x0), (1, .int x1), (3, .int x3)]) hx hb dX11_refer_50 hl (k := 3) rfl (by rfl) (by decide) rfl (fun ls hl => ?_)
      refine lv_goto (tgt := 22) hx hb dX11_refer_53 (by decide) ?_
      exact ih _ _ _ _ _ _ _ _ hF hP hS (lv_sub hl [1, 2, 3, 0] rfl)
theorem gk_X11_refer {M : Mm} {a0 : Nat} {a1 : Int32} {a2 : Int32} {r : Mm} (h : f_X11_refer M a0 a1 a2 = some r) : mK M a0 = 12 := by
  unfold f_X11_refer at h
  exact (if_some h).1
set_option maxHeartbeats 4000000 in
set_option maxRecDepth 100000 in
theorem ct_X11_refer (l : Launch) (b0 : Nat) (D : va_G) (cy : Nat → ClassId) (M : Mm) (a0 : Nat) (a1 : Int32) (a2 : Int32) (M1 : Mm) (hF : f_X11_refer M a0 a1 a2 = some M1) : Met l yX11_refer wsX11_refer rm_X11_refer (va_Pc [.ref a0, .int a1, .int a2] (Pm b0 D cy M)) (Qm b0 D cy M1 none) 0 0 (BA b0) := by
  refine ct_of [.ref a0, .int a1, .int a2] (by decide) rfl ?_
  intro p e s m below meth c CX hP
  obtain ⟨hx, hb, hr, hml, hown0, hts, hlk, hK, hN, hb0, hnm⟩ := id CX
  have hown : s.vm.findClass RX11 = some m.cls := hown0
  have hS : va_S (BA b0) s.heap s.heap [] := va_S.rf
  have hl := lv_entry [.ref a0, .int a1, .int a2] (n := 5) (Nat.le_of_ble_eq_true rfl)
  generalize (lg_sl [.ref a0, .int a1, .int a2] ++ List.replicate (5 - (lg_sl [.ref a0, .int a1, .int a2]).length) Slot.unset).toArray = ls at hl ⊢
  have hl : lv_has ls 5 [(0, .ref a0), (1, .int a1), (2, .int a2)] := hl
  unfold f_X11_refer at hF
  replace hF := (if_some hF).2
  refine lv_bipush (v := 9) hx hb dX11_refer_0 (by decide) ?_
  refine lv_iload_n hx hb dX11_refer_2 rfl (lv_at hl 1 rfl) ?_
  refine lv_imul hx hb dX11_refer_3 ?_
  refine lv_aload_n hx hb dX11_refer_4 rfl (lv_at hl 0 rfl) ?_
  refine xr_getR hx hb hts iw_X11_refer_11 hown hK hP hF 11 13 rfl (by decide) (by decide +kernel) ⟨rfl, rfl, rfl⟩ dX11_refer_5 (fun v1 hF => ?_)
  refine lv_iload_n hx hb dX11_refer_8 rfl (lv_at hl 1 rfl) ?_
  refine xr_aI hx hb hK hP hF dX11_refer_9 (fun v2 hF => ?_)
  refine lv_iadd hx hb dX11_refer_10 ?_
  refine lv_istore_n (lv' := [(3, .int ((9 * a1) + v2)), (0, .ref a0), (1, .int a1), (2, .int a2)]) hx hb dX11_refer_11 rfl hl (by decide) (by first | rfl | simp [cat_rf]) (fun ls hl => ?_)
  refine lv_aload_n hx hb dX11_refer_12 rfl (lv_at hl 1 rfl) ?_
  refine xr_getR hx hb hts iw_X11_refer_11 hown hK hP hF 11 14 rfl (by decide) (by decide +kernel) ⟨rfl, rfl, rfl⟩ dX11_refer_13 (fun v3 hF => ?_)
  refine lv_iload_n hx hb dX11_refer_16 rfl (lv_at hl 0 rfl) ?_
  refine lv_iload_n hx hb dX11_refer_17 rfl (lv_at hl 3 rfl) ?_
  refine xr_wI hx hb hK hP hS hF dX11_refer_18 (fun M4 H locs hF hP hS => ?_)
  refine lv_iconst (v := 0) hx hb dX11_refer_19 (by decide) ?_
  refine lv_istore (lv' := [(4, .int 0), (3, .int ((9 * a1) + v2)), (0, .ref a0), (1, .int a1), (2, .int a2)]) hx hb dX11_refer_20 hl (by decide) (by first | rfl | simp [cat_rf]) (fun ls hl => ?_)
  exact nd_X11_refer_22 CX _ _ _ _ _ _ _ _ _ hF hP hS (lv_sub hl [2, 3, 1, 0] rfl)
