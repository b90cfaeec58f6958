/-! X9_writeShort -/
theorem iw_X9_writeShort_3 : ∀ w ∈ u_ws RX3 TX3 2, w ∈ wsX9_writeShort := by decide +kernel
theorem iw_X9_writeShort_6 : ∀ w ∈ u_ws RX6 TX6 5, w ∈ wsX9_writeShort := by decide +kernel
theorem iw_X9_writeShort_7 : ∀ w ∈ u_ws RX7 TX7 4, w ∈ wsX9_writeShort := by decide +kernel
theorem iw_X9_writeShort_9 : ∀ w ∈ u_ws RX9 TX9 7, w ∈ wsX9_writeShort := by decide +kernel
abbrev rm_X9_writeShort : Room := { frames := 5, cells := 0, slots := 0, locals := 128 }
set_option maxHeartbeats 4000000 in
set_option maxRecDepth 100000 in
theorem nd_X9_writeShort_125 {p : Program} {l : Launch} {e : Env} {s : State} {m : MethodId} {args : Array Value} {below : List Frame} {meth : Method} {c : Code} {b0 : Nat} {D : va_G} {cy : Nat → ClassId} {M1 : Mm} (CX : Cx yX9_writeShort cX9_writeShort 6 none wsX9_writeShort b0 D cy p s m args meth c) (k31 : Mm → Nat → Nat → Nat → Nat → Nat → Int32 → Option Mm) (hk31 : ∀ (M : Mm) (x0 : Nat) (x1 : Nat) (x2 : Nat) (x3 : Nat) (x4 : Nat) (x5 : Int32) (H : Heap) (locs : List Loc) (ls : Array Slot), k31 M x0 x1 x2 x3 x4 x5 = some M1 → Hp b0 D cy M H → va_S (BA b0) s.heap H locs → lv_has ls 6 [(0, .ref x0), (1, .ref x1), (2, .ref x2), (3, .ref x3), (4, .ref x4), (5, .int x5)] → W p l e rm_X9_writeShort s m args below meth c H locs 0 0 (MQ below (Qm b0 D cy M1 none) args s 0 0 (BA b0)) (F0 m 31 ls [])) : ∀ (M : Mm) (x0 : Nat) (x1 : Nat) (x2 : Nat) (x3 : Nat) (x4 : Nat) (x5 : Int32) (H : Heap) (locs : List Loc) (ls : Array Slot), f_X9_writeShort_J125 k31 M x0 x1 x2 x3 x4 x5 = some M1 → Hp b0 D cy M H → va_S (BA b0) s.heap H locs → lv_has ls 6 [(0, .ref x0), (1, .ref x1), (2, .ref x2), (3, .ref x3), (4, .ref x4), (5, .int x5)] → W p l e rm_X9_writeShort s m args below meth c H locs 0 0 (MQ below (Qm b0 D cy M1 none) args s 0 0 (BA b0)) (F0 m 125 ls []) := by
  obtain ⟨hx, hb, hr, hml, hown0, hts, hlk, hK, hN, hb0, hnm⟩ := id CX
  have hown : s.vm.findClass RX9 = some m.cls := hown0
  intro M x0 x1 x2 x3 x4 x5 H locs ls hF hP hS hl
  unfold f_X9_writeShort_J125 at hF
  refine lv_iinc (v := x5 + 1) (lv' := [(5, .int (x5 + 1)), (0, .ref x0), (1, .ref x1), (2, .ref x2), (3, .ref x3), (4, .ref x4)]) hx hb dX9_writeShort_125 hl (k := 5) rfl (by rfl) (by decide) rfl (fun ls hl => ?_)
  refine lv_goto (tgt := 31) hx hb dX9_writeShort_128 (by decide) ?_
  exact hk31 _ _ _ _ _ _ _ _ _ _ hF hP hS (lv_sub hl [1, 2, 3, 4, 5, 0] rfl)
set_option maxHeartbeats 4000000 in
set_option maxRecDepth 100000 in
theorem nd_X9_writeShort_31 {p : Program} {l : Launch} {e : Env} {s : State} {m : MethodId} {args : Array Value} {below : List Frame} {meth : Method} {c : Code} {b0 : Nat} {D : va_G} {cy : Nat → ClassId} {M1 : Mm} (CX : Cx yX9_writeShort cX9_writeShort 6 none wsX9_writeShort b0 D cy p s m args meth c) : ∀ (fu : Nat), ∀ (M : Mm) (x0 : Nat) (x1 : Nat) (x2 : Nat) (x3 : Nat) (x4 : Nat) (x5 : Int32) (H : Heap) (locs : List Loc) (ls : Array Slot), f_X9_writeShort_L31 fu M x0 x1 x2 x3 x4 x5 = some M1 → Hp b0 D cy M H → va_S (BA b0) s.heap H locs → lv_has ls 6 [(0, .ref x0), (1, .ref x1), (2, .ref x2), (3, .ref x3), (4, .ref x4), (5, .int x5)] → W p l e rm_X9_writeShort s m args below meth c H locs 0 0 (MQ below (Qm b0 D cy M1 none) args s 0 0 (BA b0)) (F0 m 31 ls []) := by
  obtain ⟨hx, hb, hr, hml, hown0, hts, hlk, hK, hN, hb0, hnm⟩ := id CX
  have hown : s.vm.findClass RX9 = some m.cls := hown0
  intro fu
  induction fu with
  | zero =>
    intro M x0 x1 x2 x3 x4 x5 H locs ls hF hP hS hl
    rw [f_X9_writeShort_L31] at hF
    cases hF
  | succ fu ih =>
    intro M x0 x1 x2 x3 x4 x5 H locs ls hF hP hS hl
    rw [f_X9_writeShort_L31] at hF
    refine lv_iload hx hb dX9_writeShort_31 (lv_at hl 5 rfl) ?_
    refine lv_aload_n hx hb dX9_writeShort_33 rfl (lv_at hl 1 rfl) ?_
    refine xr_getI hx hb hts iw_X9_writeShort_6 hown hK hP hF 6 4 rfl (by decide) (by decide +kernel) ⟨rfl, rfl, rfl⟩ dX9_writeShort_34 (fun v1 hF => ?_)
    refine lv_icmp_ge (tgt := 131) hx hb dX9_writeShort_37 (by decide) (fun c2 => ?_) (fun c2 => ?_)
    · replace hF := it_t hF c2
      refine lv_aload_n hx hb dX9_writeShort_131 rfl (lv_at hl 3 rfl) ?_
      refine lv_aload_n hx hb dX9_writeShort_132 rfl (lv_at hl 1 rfl) ?_
      refine lv_aload_n hx hb dX9_writeShort_133 rfl (lv_at hl 2 rfl) ?_
      obtain ⟨v4, h3, hF⟩ := ob_some hF
      refine xr_call1 (va_runV (As := [.ref x2]) (rest := [.ref x3]) ⟨hx, hb, hml, hown, hts⟩ (ct_X6_sumOf l b0 D cy M x1 x2 v4 h3) (cwV 1 hts gX9_writeShort_X6_sumOf rfl rfl rfl (by decide +kernel) ⟨Nat.le_of_ble_eq_true rfl, Nat.le_of_ble_eq_true rfl⟩) (xp_V hP hK hN hS hb0 6 rfl (gk_X6_sumOf h3)) rfl rfl hl.1 rfl (lv_room (Nat.le_of_ble_eq_true rfl)) dX9_writeShort_134 ⟨Nat.le_of_ble_eq_true rfl, Nat.le_of_ble_eq_true rfl⟩) hS (fun H locs hP hS => ?_)
      refine lv_i2l hx hb dX9_writeShort_137 rfl ?_
      refine lv_bipush (v := 8) hx hb dX9_writeShort_138 (by decide) ?_
      obtain ⟨M6, h5, hF⟩ := ob_some hF
      refine xr_call0 (va_runV (As := [.long v4.toInt64, .int 8]) (rest := []) ⟨hx, hb, hml, hown, hts⟩ (ct_X5_write l b0 D cy M x3 v4.toInt64 8 M6 h5) (cwV 2 hts gX9_writeShort_X5_write rfl rfl rfl (by decide +kernel) ⟨Nat.le_of_ble_eq_true rfl, Nat.le_of_ble_eq_true rfl⟩) (xp_V hP hK hN hS hb0 5 rfl (gk_X5_write h5)) rfl rfl hl.1 rfl (lv_room (Nat.le_of_ble_eq_true rfl)) dX9_writeShort_140 ⟨Nat.le_of_ble_eq_true rfl, Nat.le_of_ble_eq_true rfl⟩) hS (fun H locs hP hS => ?_)
      cases hF
      exact W.vret hx hb hr (fun t ht hW => ⟨rfl, by rw [ht]; exact hP, hS.F ht⟩) hS.2.2 dX9_writeShort_143 hlk
    · replace hF := it_f hF c2
      refine lv_aload_n hx hb dX9_writeShort_40 rfl (lv_at hl 1 rfl) ?_
      refine lv_iload hx hb dX9_writeShort_41 (lv_at hl 5 rfl) ?_
      obtain ⟨v8, h7, hF⟩ := ob_some hF
      refine xr_call1 (va_runV (As := [.int x5]) (rest := []) ⟨hx, hb, hml, hown, hts⟩ (ct_X6_hasStride l b0 D cy M x1 x5 v8 h7) (cwV 1 hts gX9_writeShort_X6_hasStride rfl rfl rfl (by decide +kernel) ⟨Nat.le_of_ble_eq_true rfl, Nat.le_of_ble_eq_true rfl⟩) (xp_V hP hK hN hS hb0 6 rfl (gk_X6_hasStride h7)) rfl rfl hl.1 rfl (lv_room (Nat.le_of_ble_eq_true rfl)) dX9_writeShort_43 ⟨Nat.le_of_ble_eq_true rfl, Nat.le_of_ble_eq_true rfl⟩) hS (fun H locs hP hS => ?_)
      refine lv_if_eq (tgt := 96) hx hb dX9_writeShort_46 (by decide) (fun c9 => ?_) (fun c9 => ?_)
      · replace hF := it_t hF c9
        refine lv_aload_n hx hb dX9_writeShort_96 rfl (lv_at hl 1 rfl) ?_
        refine xr_getR hx hb hts iw_X9_writeShort_6 hown hK hP hF 6 0 rfl (by decide) (by decide +kernel) ⟨rfl, rfl, rfl⟩ dX9_writeShort_97 (fun v10 hF => ?_)
        refine lv_iload hx hb dX9_writeShort_100 (lv_at hl 5 rfl) ?_
        refine xr_aI hx hb hK hP hF dX9_writeShort_102 (fun v11 hF => ?_)
        refine lv_iconst (v := 4) hx hb dX9_writeShort_103 (by decide) ?_
        refine lv_icmp_ne (tgt := 125) hx hb dX9_writeShort_104 (by decide) (fun c12 => ?_) (fun c12 => ?_)
        · replace hF := it_f hF c12
          exact nd_X9_writeShort_125 CX (f_X9_writeShort_L31 fu) ih _ _ _ _ _ _ _ _ _ _ hF hP hS (lv_sub hl [0, 1, 2, 3, 4, 5] rfl)
        · replace hF := it_t hF c12
          refine lv_aload_n hx hb dX9_writeShort_107 rfl (lv_at hl 3 rfl) ?_
          refine lv_aload_n hx hb dX9_writeShort_108 rfl (lv_at hl 2 rfl) ?_
          refine xr_getR hx hb hts iw_X9_writeShort_3 hown hK hP hF 3 0 rfl (by decide) (by decide +kernel) ⟨rfl, rfl, rfl⟩ dX9_writeShort_109 (fun v13 hF => ?_)
          refine lv_iload hx hb dX9_writeShort_112 (lv_at hl 5 rfl) ?_
          refine xr_aJ hx hb hK hP hF dX9_writeShort_114 (fun v14 hF => ?_)
          refine lv_aload_n hx hb dX9_writeShort_115 rfl (lv_at hl 1 rfl) ?_
          refine xr_getR hx hb hts iw_X9_writeShort_6 hown hK hP hF 6 1 rfl (by decide) (by decide +kernel) ⟨rfl, rfl, rfl⟩ dX9_writeShort_116 (fun v15 hF => ?_)
          refine lv_iload hx hb dX9_writeShort_119 (lv_at hl 5 rfl) ?_
          refine xr_aI hx hb hK hP hF dX9_writeShort_121 (fun v16 hF => ?_)
          obtain ⟨M18, h17, hF⟩ := ob_some hF
          refine xr_call0 (va_runV (As := [.long v14, .int v16]) (rest := []) ⟨hx, hb, hml, hown, hts⟩ (ct_X5_write l b0 D cy M x3 v14 v16 M18 h17) (cwV 2 hts gX9_writeShort_X5_write rfl rfl rfl (by decide +kernel) ⟨Nat.le_of_ble_eq_true rfl, Nat.le_of_ble_eq_true rfl⟩) (xp_V hP hK hN hS hb0 5 rfl (gk_X5_write h17)) rfl rfl hl.1 rfl (lv_room (Nat.le_of_ble_eq_true rfl)) dX9_writeShort_122 ⟨Nat.le_of_ble_eq_true rfl, Nat.le_of_ble_eq_true rfl⟩) hS (fun H locs hP hS => ?_)
          exact nd_X9_writeShort_125 CX (f_X9_writeShort_L31 fu) ih _ _ _ _ _ _ _ _ _ _ hF hP hS (lv_sub hl [0, 1, 2, 3, 4, 5] rfl)
      · replace hF := it_f hF c9
        refine lv_aload_n hx hb dX9_writeShort_49 rfl (lv_at hl 0 rfl) ?_
        refine lv_aload_n hx hb dX9_writeShort_50 rfl (lv_at hl 1 rfl) ?_
        refine lv_aload_n hx hb dX9_writeShort_51 rfl (lv_at hl 2 rfl) ?_
        refine lv_iload hx hb dX9_writeShort_52 (lv_at hl 5 rfl) ?_
        refine lv_aload hx hb dX9_writeShort_54 (lv_at hl 4 rfl) ?_
        obtain ⟨M20, h19, hF⟩ := ob_some hF
        refine xr_call0 (va_runV (As := [.ref x1, .ref x2, .int x5, .ref x4]) (rest := []) ⟨hx, hb, hml, hown, hts⟩ (ct_X9_findLeast l b0 D cy M x0 x1 x2 x5 x4 M20 h19) (cwV 4 hts gX9_writeShort_X9_findLeast rfl rfl rfl (by decide +kernel) ⟨Nat.le_of_ble_eq_true rfl, Nat.le_of_ble_eq_true rfl⟩) (xp_V hP hK hN hS hb0 9 rfl (gk_X9_findLeast h19)) rfl rfl hl.1 rfl (lv_room (Nat.le_of_ble_eq_true rfl)) dX9_writeShort_56 ⟨Nat.le_of_ble_eq_true rfl, Nat.le_of_ble_eq_true rfl⟩) hS (fun H locs hP hS => ?_)
        refine lv_aload_n hx hb dX9_writeShort_59 rfl (lv_at hl 3 rfl) ?_
        refine lv_aload hx hb dX9_writeShort_60 (lv_at hl 4 rfl) ?_
        refine xr_getR hx hb hts iw_X9_writeShort_7 hown hK hP hF 7 0 rfl (by decide) (by decide +kernel) ⟨rfl, rfl, rfl⟩ dX9_writeShort_62 (fun v21 hF => ?_)
        refine lv_iload hx hb dX9_writeShort_65 (lv_at hl 5 rfl) ?_
        refine xr_aI hx hb hK hP hF dX9_writeShort_67 (fun v22 hF => ?_)
        refine lv_i2l hx hb dX9_writeShort_68 rfl ?_
        refine lv_bipush (v := 6) hx hb dX9_writeShort_69 (by decide) ?_
        obtain ⟨M24, h23, hF⟩ := ob_some hF
        refine xr_call0 (va_runV (As := [.long v22.toInt64, .int 6]) (rest := []) ⟨hx, hb, hml, hown, hts⟩ (ct_X5_write l b0 D cy M20 x3 v22.toInt64 6 M24 h23) (cwV 2 hts gX9_writeShort_X5_write rfl rfl rfl (by decide +kernel) ⟨Nat.le_of_ble_eq_true rfl, Nat.le_of_ble_eq_true rfl⟩) (xp_V hP hK hN hS hb0 5 rfl (gk_X5_write h23)) rfl rfl hl.1 rfl (lv_room (Nat.le_of_ble_eq_true rfl)) dX9_writeShort_71 ⟨Nat.le_of_ble_eq_true rfl, Nat.le_of_ble_eq_true rfl⟩) hS (fun H locs hP hS => ?_)
        refine lv_aload_n hx hb dX9_writeShort_74 rfl (lv_at hl 3 rfl) ?_
        refine lv_aload_n hx hb dX9_writeShort_75 rfl (lv_at hl 2 rfl) ?_
        refine xr_getR hx hb hts iw_X9_writeShort_3 hown hK hP hF 3 0 rfl (by decide) (by decide +kernel) ⟨rfl, rfl, rfl⟩ dX9_writeShort_76 (fun v25 hF => ?_)
        refine lv_iload hx hb dX9_writeShort_79 (lv_at hl 5 rfl) ?_
        refine xr_aJ hx hb hK hP hF dX9_writeShort_81 (fun v26 hF => ?_)
        refine lv_aload hx hb dX9_writeShort_82 (lv_at hl 4 rfl) ?_
        refine xr_getR hx hb hts iw_X9_writeShort_7 hown hK hP hF 7 0 rfl (by decide) (by decide +kernel) ⟨rfl, rfl, rfl⟩ dX9_writeShort_84 (fun v27 hF => ?_)
        refine lv_iload hx hb dX9_writeShort_87 (lv_at hl 5 rfl) ?_
        refine xr_aI hx hb hK hP hF dX9_writeShort_89 (fun v28 hF => ?_)
        obtain ⟨M30, h29, hF⟩ := ob_some hF
        refine xr_call0 (va_runV (As := [.long v26, .int v28]) (rest := []) ⟨hx, hb, hml, hown, hts⟩ (ct_X5_write l b0 D cy M24 x3 v26 v28 M30 h29) (cwV 2 hts gX9_writeShort_X5_write rfl rfl rfl (by decide +kernel) ⟨Nat.le_of_ble_eq_true rfl, Nat.le_of_ble_eq_true rfl⟩) (xp_V hP hK hN hS hb0 5 rfl (gk_X5_write h29)) rfl rfl hl.1 rfl (lv_room (Nat.le_of_ble_eq_true rfl)) dX9_writeShort_90 ⟨Nat.le_of_ble_eq_true rfl, Nat.le_of_ble_eq_true rfl⟩) hS (fun H locs hP hS => ?_)
        refine lv_goto (tgt := 125) hx hb dX9_writeShort_93 (by decide) ?_
        exact nd_X9_writeShort_125 CX (f_X9_writeShort_L31 fu) ih _ _ _ _ _ _ _ _ _ _ hF hP hS (lv_sub hl [0, 1, 2, 3, 4, 5] rfl)
theorem gk_X9_writeShort {M : Mm} {a0 : Nat} {a1 : Nat} {a2 : Nat} {a3 : Nat} {a4 : Nat} {r : Mm} (h : f_X9_writeShort M a0 a1 a2 a3 a4 = some r) : mK M a0 = 10 := by
  unfold f_X9_writeShort at h
  exact (if_some h).1
set_option maxHeartbeats 4000000 in
set_option maxRecDepth 100000 in
theorem ct_X9_writeShort (l : Launch) (b0 : Nat) (D : va_G) (cy : Nat → ClassId) (M : Mm) (a0 : Nat) (a1 : Nat) (a2 : Nat) (a3 : Nat) (a4 : Nat) (M1 : Mm) (hF : f_X9_writeShort M a0 a1 a2 a3 a4 = some M1) : Met l yX9_writeShort wsX9_writeShort rm_X9_writeShort (va_Pc [.ref a0, .ref a1, .ref a2, .ref a3, .ref a4] (Pm b0 D cy M)) (Qm b0 D cy M1 none) 0 0 (BA b0) := by
  refine ct_of [.ref a0, .ref a1, .ref a2, .ref a3, .ref a4] (by decide) rfl ?_
  intro p e s m below meth c CX hP
  obtain ⟨hx, hb, hr, hml, hown0, hts, hlk, hK, hN, hb0, hnm⟩ := id CX
  have hown : s.vm.findClass RX9 = some m.cls := hown0
  have hS : va_S (BA b0) s.heap s.heap [] := va_S.rf
  have hl := lv_entry [.ref a0, .ref a1, .ref a2, .ref a3, .ref a4] (n := 6) (Nat.le_of_ble_eq_true rfl)
  generalize (lg_sl [.ref a0, .ref a1, .ref a2, .ref a3, .ref a4] ++ List.replicate (6 - (lg_sl [.ref a0, .ref a1, .ref a2, .ref a3, .ref a4]).length) Slot.unset).toArray = ls at hl ⊢
  have hl : lv_has ls 6 [(0, .ref a0), (1, .ref a1), (2, .ref a2), (3, .ref a3), (4, .ref a4)] := hl
  unfold f_X9_writeShort at hF
  replace hF := (if_some hF).2
  refine lv_aload hx hb dX9_writeShort_0 (lv_at hl 4 rfl) ?_
  refine lv_aload_n hx hb dX9_writeShort_2 rfl (lv_at hl 0 rfl) ?_
  refine xr_getI hx hb hts iw_X9_writeShort_9 hown hK hP hF 9 4 rfl (by decide) (by decide +kernel) ⟨rfl, rfl, rfl⟩ dX9_writeShort_3 (fun v1 hF => ?_)
  refine xr_putI hx hb hts iw_X9_writeShort_7 hown hK hP hS hF 7 2 rfl (by decide) tyX7 tyX7_ok nmX7 (by decide +kernel) (Or.inl rfl) rfl ⟨rfl, rfl, rfl⟩ dX9_writeShort_6 (fun M2 H locs hF hP hS => ?_)
  refine lv_aload hx hb dX9_writeShort_9 (lv_at hl 4 rfl) ?_
  refine lv_aload_n hx hb dX9_writeShort_11 rfl (lv_at hl 0 rfl) ?_
  obtain ⟨v4, h3, hF⟩ := ob_some hF
  refine xr_call1 (va_runV (As := []) (rest := [.ref a4]) ⟨hx, hb, hml, hown, hts⟩ (ct_X9_oldestNumber l b0 D cy M2 a0 v4 h3) (cwV 0 hts gX9_writeShort_X9_oldestNumber rfl rfl rfl (by decide +kernel) ⟨Nat.le_of_ble_eq_true rfl, Nat.le_of_ble_eq_true rfl⟩) (xp_V hP hK hN hS hb0 9 rfl (gk_X9_oldestNumber h3)) rfl rfl hl.1 rfl (lv_room (Nat.le_of_ble_eq_true rfl)) dX9_writeShort_12 ⟨Nat.le_of_ble_eq_true rfl, Nat.le_of_ble_eq_true rfl⟩) hS (fun H locs hP hS => ?_)
  refine xr_putI hx hb hts iw_X9_writeShort_7 hown hK hP hS hF 7 3 rfl (by decide) tyX7 tyX7_ok nmX7 (by decide +kernel) (Or.inl rfl) rfl ⟨rfl, rfl, rfl⟩ dX9_writeShort_15 (fun M5 H locs hF hP hS => ?_)
  refine lv_aload_n hx hb dX9_writeShort_18 rfl (lv_at hl 3 rfl) ?_
  refine lv_aload_n hx hb dX9_writeShort_19 rfl (lv_at hl 0 rfl) ?_
  refine xr_getI hx hb hts iw_X9_writeShort_9 hown hK hP hF 9 2 rfl (by decide) (by decide +kernel) ⟨rfl, rfl, rfl⟩ dX9_writeShort_20 (fun v6 hF => ?_)
  refine lv_i2l hx hb dX9_writeShort_23 rfl ?_
  refine lv_iconst (v := 4) hx hb dX9_writeShort_24 (by decide) ?_
  obtain ⟨M8, h7, hF⟩ := ob_some hF
  refine xr_call0 (va_runV (As := [.long v6.toInt64, .int 4]) (rest := []) ⟨hx, hb, hml, hown, hts⟩ (ct_X5_write l b0 D cy M5 a3 v6.toInt64 4 M8 h7) (cwV 2 hts gX9_writeShort_X5_write rfl rfl rfl (by decide +kernel) ⟨Nat.le_of_ble_eq_true rfl, Nat.le_of_ble_eq_true rfl⟩) (xp_V hP hK hN hS hb0 5 rfl (gk_X5_write h7)) rfl rfl hl.1 rfl (lv_room (Nat.le_of_ble_eq_true rfl)) dX9_writeShort_25 ⟨Nat.le_of_ble_eq_true rfl, Nat.le_of_ble_eq_true rfl⟩) hS (fun H locs hP hS => ?_)
  refine lv_iconst (v := 0) hx hb dX9_writeShort_28 (by decide) ?_
  refine lv_istore (lv' := [(5, .int 0), (0, .ref a0), (1, .ref a1), (2, .ref a2), (3, .ref a3), (4, .ref a4)]) hx hb dX9_writeShort_29 hl (by decide) (by first | rfl | simp [cat_rf]) (fun ls hl => ?_)
  exact nd_X9_writeShort_31 CX _ _ _ _ _ _ _ _ _ _ _ hF hP hS (lv_sub hl [1, 2, 3, 4, 5, 0] rfl)
/-! X9_dropOldest -/
theorem iw_X9_dropOldest_9 : ∀ w ∈ u_ws RX9 TX9 7, w ∈ wsX9_dropOldest := by decide +kernel
abbrev rm_X9_dropOldest : Room := { frames := 1, cells := 0, slots := 0, locals := 22 }
theorem gk_X9_dropOldest {M : Mm} {a0 : Nat} {a1 : Int32} {r : Mm} (h : f_X9_dropOldest M a0 a1 = some r) : mK M a0 = 10 := by
  unfold f_X9_dropOldest at h
  exact (if_some h).1
set_option maxHeartbeats 4000000 in
set_option maxRecDepth 100000 in
theorem ct_X9_dropOldest (l : Launch) (b0 : Nat) (D : va_G) (cy : Nat → ClassId) (M : Mm) (a0 : Nat) (a1 : Int32) (M1 : Mm) (hF : f_X9_dropOldest M a0 a1 = some M1) : Met l yX9_dropOldest wsX9_dropOldest rm_X9_dropOldest (va_Pc [.ref a0, .int a1] (Pm b0 D cy M)) (Qm b0 D cy M1 none) 0 0 (BA b0) := by
  refine ct_of [.ref a0, .int a1] (by decide) rfl ?_
  intro p e s m below meth c CX hP
  obtain ⟨hx, hb, hr, hml, hown0, hts, hlk, hK, hN, hb0, hnm⟩ := id CX
  have hown : s.vm.findClass RX9 = some m.cls := hown0
  have hS : va_S (BA b0) s.heap s.heap [] := va_S.rf
  have hl := lv_entry [.ref a0, .int a1] (n := 2) (Nat.le_of_ble_eq_true rfl)
  generalize (lg_sl [.ref a0, .int a1] ++ List.replicate (2 - (lg_sl [.ref a0, .int a1]).length) Slot.unset).toArray = ls at hl ⊢
  have hl : lv_has ls 2 [(0, .ref a0), (1, .int a1)] := hl
  unfold f_X9_dropOldest at hF
  replace hF := (if_some hF).2
  refine lv_aload_n hx hb dX9_dropOldest_0 rfl (lv_at hl 0 rfl) ?_
  refine lv_aload_n hx hb dX9_dropOldest_1 rfl (lv_at hl 0 rfl) ?_
  refine xr_getI hx hb hts iw_X9_dropOldest_9 hown hK hP hF 9 6 rfl (by decide) (by decide +kernel) ⟨rfl, rfl, rfl⟩ dX9_dropOldest_2 (fun v1 hF => ?_)
  refine lv_iload_n hx hb dX9_dropOldest_5 rfl (lv_at hl 1 rfl) ?_
  refine lv_iadd hx hb dX9_dropOldest_6 ?_
  refine lv_bipush (v := 8) hx hb dX9_dropOldest_7 (by decide) ?_
  obtain ⟨v3, h2, hF⟩ := ob_some hF
  refine xr_call1 (va_runS (As := [.int (v1 + a1), .int 8]) (rest := [.ref a0]) ⟨hx, hb, hml, hown, hts⟩ (ct_J9_floorMod_7cf53 l b0 D cy M (v1 + a1) 8 v3 h2) (va_cwS 2 hts gX9_dropOldest_J9_floorMod_7cf53 rfl rfl rfl (by decide +kernel) ⟨Nat.le_of_ble_eq_true rfl, Nat.le_of_ble_eq_true rfl⟩) (xp_S hP hK hN hS hb0) rfl rfl hl.1 rfl (lv_room (Nat.le_of_ble_eq_true rfl)) dX9_dropOldest_9 ⟨Nat.le_of_ble_eq_true rfl, Nat.le_of_ble_eq_true rfl⟩) hS (fun H locs hP hS => ?_)
  refine xr_putI hx hb hts iw_X9_dropOldest_9 hown hK hP hS hF 9 6 rfl (by decide) tyX9 tyX9_ok nmX9 (by decide +kernel) (Or.inl rfl) rfl ⟨rfl, rfl, rfl⟩ dX9_dropOldest_12 (fun M4 H locs hF hP hS => ?_)
  refine lv_aload_n hx hb dX9_dropOldest_15 rfl (lv_at hl 0 rfl) ?_
  refine lv_dup hx hb dX9_dropOldest_16 rfl ?_
  refine xr_getI hx hb hts iw_X9_dropOldest_9 hown hK hP hF 9 4 rfl (by decide) (by decide +kernel) ⟨rfl, rfl, rfl⟩ dX9_dropOldest_17 (fun v5 hF => ?_)
  refine lv_iload_n hx hb dX9_dropOldest_20 rfl (lv_at hl 1 rfl) ?_
  refine lv_isub hx hb dX9_dropOldest_21 ?_
  refine xr_putI hx hb hts iw_X9_dropOldest_9 hown hK hP hS hF 9 4 rfl (by decide) tyX9 tyX9_ok nmX9 (by decide +kernel) (Or.inl rfl) rfl ⟨rfl, rfl, rfl⟩ dX9_dropOldest_22 (fun M6 H locs hF hP hS => ?_)
  cases hF
  exact W.vret hx hb hr (fun t ht hW => ⟨rfl, by rw [ht]; exact hP, hS.F ht⟩) hS.2.2 dX9_dropOldest_25 hlk
/-! X9_remember -/
theorem iw_X9_remember_9 : ∀ w ∈ u_ws RX9 TX9 7, w ∈ wsX9_remember := by decide +kernel
abbrev rm_X9_remember : Room := { frames := 2, cells := 0, slots := 0, locals := 71 }
set_option maxHeartbeats 4000000 in
set_option maxRecDepth 100000 in
theorem nd_X9_remember_20 {p : Program} {l : Launch} {e : Env} {s : State} {m : MethodId} {args : Array Value} {below : List Frame} {meth : Method} {c : Code} {b0 : Nat} {D : va_G} {cy : Nat → ClassId} {M1 : Mm} (CX : Cx yX9_remember cX9_remember 3 none wsX9_remember b0 D cy p s m args meth c) : ∀ (M : Mm) (x0 : Nat) (x1 : Nat) (H : Heap) (locs : List Loc) (ls : Array Slot), f_X9_remember_J20 M x0 x1 = some M1 → Hp b0 D cy M H → va_S (BA b0) s.heap H locs → lv_has ls 3 [(0, .ref x0), (1, .ref x1)] → W p l e rm_X9_remember s m args below meth c H locs 0 0 (MQ below (Qm b0 D cy M1 none) args s 0 0 (BA b0)) (F0 m 20 ls []) := by
  obtain ⟨hx, hb, hr, hml, hown0, hts, hlk, hK, hN, hb0, hnm⟩ := id CX
  have hown : s.vm.findClass RX9 = some m.cls := hown0
  intro M x0 x1 H locs ls hF hP hS hl
  unfold f_X9_remember_J20 at hF
  refine lv_aload_n hx hb dX9_remember_20 rfl (lv_at hl 0 rfl) ?_
  refine lv_aload_n hx hb dX9_remember_21 rfl (lv_at hl 0 rfl) ?_
  refine xr_getI hx hb hts iw_X9_remember_9 hown hK hP hF 9 4 rfl (by decide) (by decide +kernel) ⟨rfl, rfl, rfl⟩ dX9_remember_22 (fun v1 hF => ?_)
  obtain ⟨v3, h2, hF⟩ := ob_some hF
  refine xr_call1 (va_runV (As := [.int v1]) (rest := []) ⟨hx, hb, hml, hown, hts⟩ (ct_X9_reference l b0 D cy M x0 v1 v3 h2) (cwV 1 hts gX9_remember_X9_reference rfl rfl rfl (by decide +kernel) ⟨Nat.le_of_ble_eq_true rfl, Nat.le_of_ble_eq_true rfl⟩) (xp_V hP hK hN hS hb0 9 rfl (gk_X9_reference h2)) rfl rfl hl.1 rfl (lv_room (Nat.le_of_ble_eq_true rfl)) dX9_remember_25 ⟨Nat.le_of_ble_eq_true rfl, Nat.le_of_ble_eq_true rfl⟩) hS (fun H locs hP hS => ?_)
  refine lv_aload_n hx hb dX9_remember_28 rfl (lv_at hl 1 rfl) ?_
  obtain ⟨M5, h4, hF⟩ := ob_some hF
  refine xr_call0 (va_runV (As := [.ref x1]) (rest := []) ⟨hx, hb, hml, hown, hts⟩ (ct_X3_become l b0 D cy M v3 x1 M5 h4) (cwV 1 hts gX9_remember_X3_become rfl rfl rfl (by decide +kernel) ⟨Nat.le_of_ble_eq_true rfl, Nat.le_of_ble_eq_true rfl⟩) (xp_V hP hK hN hS hb0 3 rfl (gk_X3_become h4)) rfl rfl hl.1 rfl (lv_room (Nat.le_of_ble_eq_true rfl)) dX9_remember_29 ⟨Nat.le_of_ble_eq_true rfl, Nat.le_of_ble_eq_true rfl⟩) hS (fun H locs hP hS => ?_)
  refine lv_aload_n hx hb dX9_remember_32 rfl (lv_at hl 0 rfl) ?_
  refine lv_dup hx hb dX9_remember_33 rfl ?_
  refine xr_getI hx hb hts iw_X9_remember_9 hown hK hP hF 9 4 rfl (by decide) (by decide +kernel) ⟨rfl, rfl, rfl⟩ dX9_remember_34 (fun v6 hF => ?_)
  refine lv_iconst (v := 1) hx hb dX9_remember_37 (by decide) ?_
  refine lv_iadd hx hb dX9_remember_38 ?_
  refine xr_putI hx hb hts iw_X9_remember_9 hown hK hP hS hF 9 4 rfl (by decide) tyX9 tyX9_ok nmX9 (by decide +kernel) (Or.inl rfl) rfl ⟨rfl, rfl, rfl⟩ dX9_remember_39 (fun M7 H locs hF hP hS => ?_)
  refine lv_aload_n hx hb dX9_remember_42 rfl (lv_at hl 0 rfl) ?_
  refine lv_dup hx hb dX9_remember_43 rfl ?_
  refine xr_getI hx hb hts iw_X9_remember_9 hown hK hP hF 9 1 rfl (by decide) (by decide +kernel) ⟨rfl, rfl, rfl⟩ dX9_remember_44 (fun v8 hF => ?_)
  refine lv_iconst (v := 1) hx hb dX9_remember_47 (by decide) ?_
  refine lv_iadd hx hb dX9_remember_48 ?_
  refine xr_putI hx hb hts iw_X9_remember_9 hown hK hP hS hF 9 1 rfl (by decide) tyX9 tyX9_ok nmX9 (by decide +kernel) (Or.inl rfl) rfl ⟨rfl, rfl, rfl⟩ dX9_remember_49 (fun M9 H locs hF hP hS => ?_)
  cases hF
  exact W.vret hx hb hr (fun t ht hW => ⟨rfl, by rw [ht]; exact hP, hS.F ht⟩) hS.2.2 dX9_remember_52 hlk
theorem gk_X9_remember {M : Mm} {a0 : Nat} {a1 : Nat} {a2 : Int32} {r : Mm} (h : f_X9_remember M a0 a1 a2 = some r) : mK M a0 = 10 := by
  unfold f_X9_remember at h
  exact (if_some h).1
set_option maxHeartbeats 4000000 in
set_option maxRecDepth 100000 in
theorem ct_X9_remember (l : Launch) (b0 : Nat) (D : va_G) (cy : Nat → ClassId) (M : Mm) (a0 : Nat) (a1 : Nat) (a2 : Int32) (M1 : Mm) (hF : f_X9_remember M a0 a1 a2 = some M1) : Met l yX9_remember wsX9_remember rm_X9_remember (va_Pc [.ref a0, .ref a1, .int a2] (Pm b0 D cy M)) (Qm b0 D cy M1 none) 0 0 (BA b0) := by
  refine ct_of [.ref a0, .ref a1, .int a2] (by decide) rfl ?_
  intro p e s m below meth c CX hP
  obtain ⟨hx, hb, hr, hml, hown0, hts, hlk, hK, hN, hb0, hnm⟩ := id CX
  have hown : s.vm.findClass RX9 = some m.cls := hown0
  have hS : va_S (BA b0) s.heap s.heap [] := va_S.rf
  have hl := lv_entry [.ref a0, .ref a1, .int a2] (n := 3) (Nat.le_of_ble_eq_true rfl)
  generalize (lg_sl [.ref a0, .ref a1, .int a2] ++ List.replicate (3 - (lg_sl [.ref a0, .ref a1, .int a2]).length) Slot.unset).toArray = ls at hl ⊢
  have hl : lv_has ls 3 [(0, .ref a0), (1, .ref a1), (2, .int a2)] := hl
  unfold f_X9_remember at hF
  replace hF := (if_some hF).2
  refine lv_aload_n hx hb dX9_remember_0 rfl (lv_at hl 0 rfl) ?_
  refine xr_getI hx hb hts iw_X9_remember_9 hown hK hP hF 9 4 rfl (by decide) (by decide +kernel) ⟨rfl, rfl, rfl⟩ dX9_remember_1 (fun v1 hF => ?_)
  refine lv_iload_n hx hb dX9_remember_4 rfl (lv_at hl 2 rfl) ?_
  refine lv_icmp_lt (tgt := 20) hx hb dX9_remember_5 (by decide) (fun c2 => ?_) (fun c2 => ?_)
  · replace hF := it_t hF c2
    exact nd_X9_remember_20 CX _ _ _ _ _ _ hF hP hS (lv_sub hl [0, 1] rfl)
  · replace hF := it_f hF c2
    refine lv_aload_n hx hb dX9_remember_8 rfl (lv_at hl 0 rfl) ?_
    refine lv_aload_n hx hb dX9_remember_9 rfl (lv_at hl 0 rfl) ?_
    refine xr_getI hx hb hts iw_X9_remember_9 hown hK hP hF 9 4 rfl (by decide) (by decide +kernel) ⟨rfl, rfl, rfl⟩ dX9_remember_10 (fun v3 hF => ?_)
    refine lv_iload_n hx hb dX9_remember_13 rfl (lv_at hl 2 rfl) ?_
    refine lv_isub hx hb dX9_remember_14 ?_
    refine lv_iconst (v := 1) hx hb dX9_remember_15 (by decide) ?_
    refine lv_iadd hx hb dX9_remember_16 ?_
    obtain ⟨M5, h4, hF⟩ := ob_some hF
    refine xr_call0 (va_runV (As := [.int ((v3 - a2) + 1)]) (rest := []) ⟨hx, hb, hml, hown, hts⟩ (ct_X9_dropOldest l b0 D cy M a0 ((v3 - a2) + 1) M5 h4) (cwV 1 hts gX9_remember_X9_dropOldest rfl rfl rfl (by decide +kernel) ⟨Nat.le_of_ble_eq_true rfl, Nat.le_of_ble_eq_true rfl⟩) (xp_V hP hK hN hS hb0 9 rfl (gk_X9_dropOldest h4)) rfl rfl hl.1 rfl (lv_room (Nat.le_of_ble_eq_true rfl)) dX9_remember_17 ⟨Nat.le_of_ble_eq_true rfl, Nat.le_of_ble_eq_true rfl⟩) hS (fun H locs hP hS => ?_)
    exact nd_X9_remember_20 CX _ _ _ _ _ _ hF hP hS (lv_sub hl [0, 1] rfl)
/-! X9_heed -/
theorem iw_X9_heed_3 : ∀ w ∈ u_ws RX3 TX3 2, w ∈ wsX9_heed := by decide +kernel
theorem iw_X9_heed_9 : ∀ w ∈ u_ws RX9 TX9 7, w ∈ wsX9_heed := by decide +kernel
abbrev rm_X9_heed : Room := { frames := 2, cells := 0, slots := 0, locals := 43 }
set_option maxHeartbeats 4000000 in
set_option maxRecDepth 100000 in
theorem nd_X9_heed_29 {p : Program} {l : Launch} {e : Env} {s : State} {m : MethodId} {args : Array Value} {below : List Frame} {meth : Method} {c : Code} {b0 : Nat} {D : va_G} {cy : Nat → ClassId} {M1 : Mm} {r : Int32} (CX : Cx yX9_heed cX9_heed 4 (some .int) wsX9_heed b0 D cy p s m args meth c) : ∀ (fu : Nat), ∀ (M : Mm) (x0 : Nat) (x2 : Int32) (x3 : Int32) (H : Heap) (locs : List Loc) (ls : Array Slot), f_X9_heed_L29 fu M x0 x2 x3 = some (M1, r) → Hp b0 D cy M H → va_S (BA b0) s.heap H locs → lv_has ls 4 [(0, .ref x0), (2, .int x2), (3, .int x3)] → W p l e rm_X9_heed s m args below meth c H locs 0 0 (MQ below (Qm b0 D cy M1 (some (.int r))) args s 0 0 (BA b0)) (F0 m 29 ls []) := by
  obtain ⟨hx, hb, hr, hml, hown0, hts, hlk, hK, hN, hb0, hnm⟩ := id CX
  have hown : s.vm.findClass RX9 = some m.cls := hown0
  intro fu
  induction fu with
  | zero =>
    intro M x0 x2 x3 H locs ls hF hP hS hl
    rw [f_X9_heed_L29] at hF
    cases hF
  | succ fu ih =>
    intro M x0 x2 x3 H locs ls hF hP hS hl
    rw [f_X9_heed_L29] at hF
    refine lv_iload_n hx hb dX9_heed_29 rfl (lv_at hl 2 rfl) ?_
    refine lv_aload_n hx hb dX9_heed_30 rfl (lv_at hl 0 rfl) ?_
    refine xr_getI hx hb hts iw_X9_heed_9 hown hK hP hF 9 4 rfl (by decide) (by decide +kernel) ⟨rfl, rfl, rfl⟩ dX9_heed_31 (fun v1 hF => ?_)
    refine lv_icmp_ge (tgt := 66) hx hb dX9_heed_34 (by decide) (fun c2 => ?_) (fun c2 => ?_)
    · replace hF := it_t hF c2
      refine lv_bipush (v := 7) hx hb dX9_heed_66 (by decide) ?_
      cases hF
      exact W.iret hx hb hr (fun t ht hW => ⟨rfl, by rw [ht]; exact hP, hS.F ht⟩) hS.2.2 dX9_heed_68 hlk
    · replace hF := it_f hF c2
      refine lv_aload_n hx hb dX9_heed_37 rfl (lv_at hl 0 rfl) ?_
      refine lv_iload_n hx hb dX9_heed_38 rfl (lv_at hl 2 rfl) ?_
      obtain ⟨v4, h3, hF⟩ := ob_some hF
      refine xr_call1 (va_runV (As := [.int x3]) (rest := []) ⟨hx, hb, hml, hown, hts⟩ (ct_X9_reference l b0 D cy M x0 x3 v4 h3) (cwV 1 hts gX9_heed_X9_reference rfl rfl rfl (by decide +kernel) ⟨Nat.le_of_ble_eq_true rfl, Nat.le_of_ble_eq_true rfl⟩) (xp_V hP hK hN hS hb0 9 rfl (gk_X9_reference h3)) rfl rfl hl.1 rfl (lv_room (Nat.le_of_ble_eq_true rfl)) dX9_heed_39 ⟨Nat.le_of_ble_eq_true rfl, Nat.le_of_ble_eq_true rfl⟩) hS (fun H locs hP hS => ?_)
      refine xr_getI hx hb hts iw_X9_heed_3 hown hK hP hF 3 1 rfl (by decide) (by decide +kernel) ⟨rfl, rfl, rfl⟩ dX9_heed_42 (fun v5 hF => ?_)
      refine lv_ldc (v := 65536) hx hb hown (hts (.constant RX9 116 65536) (by decide +kernel)) dX9_heed_45 ?_
      refine lv_irem hx hb dX9_heed_47 (by decide) ?_
      refine lv_iload_n hx hb dX9_heed_48 rfl (lv_at hl 1 rfl) ?_
      refine lv_icmp_ne (tgt := 60) hx hb dX9_heed_49 (by decide) (fun c6 => ?_) (fun c6 => ?_)
      · replace hF := it_f hF c6
        refine lv_iinc (v := x3 + 1) (lv' := [(3, .int (x3 + 1)), (0, .ref x0), (2, .int x2)]) hx hb dX9_heed_60 hl (k := 2) rfl (by rfl) (by decide) rfl (fun ls hl => ?_)
        refine lv_goto (tgt := 29) hx hb dX9_heed_63 (by decide) ?_
        exact ih _ _ _ _ _ _ _ hF hP hS (lv_sub hl [1, 2, 0] rfl)
      · replace hF := it_t hF c6
        refine lv_aload_n hx hb dX9_heed_52 rfl (lv_at hl 0 rfl) ?_
        refine lv_iload_n hx hb dX9_heed_53 rfl (lv_at hl 2 rfl) ?_
        obtain ⟨M8, h7, hF⟩ := ob_some hF
        refine xr_call0 (va_runV (As := [.int x3]) (rest := []) ⟨hx, hb, hml, hown, hts⟩ (ct_X9_dropOldest l b0 D cy M x0 x3 M8 h7) (cwV 1 hts gX9_heed_X9_dropOldest rfl rfl rfl (by decide +kernel) ⟨Nat.le_of_ble_eq_true rfl, Nat.le_of_ble_eq_true rfl⟩) (xp_V hP hK hN hS hb0 9 rfl (gk_X9_dropOldest h7)) rfl rfl hl.1 rfl (lv_room (Nat.le_of_ble_eq_true rfl)) dX9_heed_54 ⟨Nat.le_of_ble_eq_true rfl, Nat.le_of_ble_eq_true rfl⟩) hS (fun H locs hP hS => ?_)
        refine lv_bipush (v := 6) hx hb dX9_heed_57 (by decide) ?_
        cases hF
        exact W.iret hx hb hr (fun t ht hW => ⟨rfl, by rw [ht]; exact hP, hS.F ht⟩) hS.2.2 dX9_heed_59 hlk
theorem gk_X9_heed {M : Mm} {a0 : Nat} {a1 : Int32} {a2 : Int32} {r : (Mm × Int32)} (h : f_X9_heed M a0 a1 a2 = some r) : mK M a0 = 10 := by
  unfold f_X9_heed at h
  exact (if_some h).1
set_option maxHeartbeats 4000000 in
set_option maxRecDepth 100000 in
theorem ct_X9_heed (l : Launch) (b0 : Nat) (D : va_G) (cy : Nat → ClassId) (M : Mm) (a0 : Nat) (a1 : Int32) (a2 : Int32) (M1 : Mm) (r : Int32) (hF : f_X9_heed M a0 a1 a2 = some (M1, r)) : Met l yX9_heed wsX9_heed rm_X9_heed (va_Pc [.ref a0, .int a1, .int a2] (Pm b0 D cy M)) (Qm b0 D cy M1 (some (.int r))) 0 0 (BA b0) := by
  refine ct_of [.ref a0, .int a1, .int a2] (by decide) rfl ?_
  intro p e s m below meth c CX hP
  obtain ⟨hx, hb, hr, hml, hown0, hts, hlk, hK, hN, hb0, hnm⟩ := id CX
  have hown : s.vm.findClass RX9 = some m.cls := hown0
  have hS : va_S (BA b0) s.heap s.heap [] := va_S.rf
  have hl := lv_entry [.ref a0, .int a1, .int a2] (n := 4) (Nat.le_of_ble_eq_true rfl)
  generalize (lg_sl [.ref a0, .int a1, .int a2] ++ List.replicate (4 - (lg_sl [.ref a0, .int a1, .int a2]).length) Slot.unset).toArray = ls at hl ⊢
  have hl : lv_has ls 4 [(0, .ref a0), (1, .int a1), (2, .int a2)] := hl
  unfold f_X9_heed at hF
  replace hF := (if_some hF).2
  refine lv_iload_n hx hb dX9_heed_0 rfl (lv_at hl 1 rfl) ?_
  refine lv_iconst (v := 3) hx hb dX9_heed_1 (by decide) ?_
  refine lv_icmp_eq (tgt := 27) hx hb dX9_heed_2 (by decide) (fun c1 => ?_) (fun c1 => ?_)
  · replace hF := it_t hF c1
    refine lv_iconst (v := 0) hx hb dX9_heed_27 (by decide) ?_
    refine lv_istore_n (lv' := [(3, .int 0), (0, .ref a0), (1, .int a1), (2, .int a2)]) hx hb dX9_heed_28 rfl hl (by decide) (by first | rfl | simp [cat_rf]) (fun ls hl => ?_)
    exact nd_X9_heed_29 CX _ _ _ _ _ _ _ _ hF hP hS (lv_sub hl [1, 3, 0] rfl)
  · replace hF := it_f hF c1
    refine lv_aload_n hx hb dX9_heed_5 rfl (lv_at hl 0 rfl) ?_
    refine xr_getI hx hb hts iw_X9_heed_9 hown hK hP hF 9 3 rfl (by decide) (by decide +kernel) ⟨rfl, rfl, rfl⟩ dX9_heed_6 (fun v2 hF => ?_)
    refine lv_istore_n (lv' := [(3, .int v2), (0, .ref a0), (1, .int a1), (2, .int a2)]) hx hb dX9_heed_9 rfl hl (by decide) (by first | rfl | simp [cat_rf]) (fun ls hl => ?_)
    refine lv_aload_n hx hb dX9_heed_10 rfl (lv_at hl 1 rfl) ?_
    refine lv_iconst (v := 1) hx hb dX9_heed_11 (by decide) ?_
    refine xr_putZ hx hb hts iw_X9_heed_9 hown hK hP hS hF 9 3 rfl (by decide) tyX9 tyX9_ok nmX9 (by decide +kernel) (Or.inl rfl) rfl ⟨rfl, rfl, rfl⟩ dX9_heed_12 (fun M3 H locs hF hP hS => ?_)
    refine lv_iload_n hx hb dX9_heed_15 rfl (lv_at hl 0 rfl) ?_
    refine lv_if_eq (tgt := 24) hx hb dX9_heed_16 (by decide) (fun c4 => ?_) (fun c4 => ?_)
    · replace hF := it_t hF c4
      refine lv_bipush (v := 6) hx hb dX9_heed_24 (by decide) ?_
      cases hF
      exact W.iret hx hb hr (fun t ht hW => ⟨rfl, by rw [ht]; exact hP, hS.F ht⟩) hS.2.2 dX9_heed_26 hlk
    · replace hF := it_f hF c4
      refine lv_bipush (v := 7) hx hb dX9_heed_19 (by decide) ?_
      refine lv_goto (tgt := 26) hx hb dX9_heed_21 (by decide) ?_
      cases hF
      exact W.iret hx hb hr (fun t ht hW => ⟨rfl, by rw [ht]; exact hP, hS.F ht⟩) hS.2.2 dX9_heed_26 hlk
/-! X10_init -/
theorem iw_X10_init_0 : ∀ w ∈ u_ws RX0 TX0 12, w ∈ wsX10_init := by decide +kernel
theorem iw_X10_init_1 : ∀ w ∈ u_ws RX1 TX1 4, w ∈ wsX10_init := by decide +kernel
theorem iw_X10_init_2 : ∀ w ∈ u_ws RX2 TX2 5, w ∈ wsX10_init := by decide +kernel
theorem iw_X10_init_3 : ∀ w ∈ u_ws RX3 TX3 2, w ∈ wsX10_init := by decide +kernel
theorem iw_X10_init_5 : ∀ w ∈ u_ws RX5 TX5 2, w ∈ wsX10_init := by decide +kernel
theorem iw_X10_init_6 : ∀ w ∈ u_ws RX6 TX6 5, w ∈ wsX10_init := by decide +kernel
theorem iw_X10_init_8 : ∀ w ∈ u_ws RX8 TX8 5, w ∈ wsX10_init := by decide +kernel
theorem iw_X10_init_9 : ∀ w ∈ u_ws RX9 TX9 7, w ∈ wsX10_init := by decide +kernel
theorem iw_X10_init_10 : ∀ w ∈ u_ws RX10 TX10 12, w ∈ wsX10_init := by decide +kernel
abbrev rm_X10_init : Room := { frames := 3, cells := 225, slots := 1930, locals := 61 }
theorem gk_X10_init {M : Mm} {a0 : Nat} {a1 : Int32} {r : Mm} (h : f_X10_init M a0 a1 = some r) : mK M a0 = 11 := by
  unfold f_X10_init at h
  exact (if_some h).1
set_option maxHeartbeats 4000000 in
set_option maxRecDepth 100000 in
theorem ct_X10_init (l : Launch) (b0 : Nat) (D : va_G) (cy : Nat → ClassId) (M : Mm) (a0 : Nat) (a1 : Int32) (M1 : Mm) (hF : f_X10_init M a0 a1 = some M1) : Met l yX10_init wsX10_init rm_X10_init (va_Pc [.ref a0, .int a1] (Pm b0 D cy M)) (Qm b0 D cy M1 none) 225 1930 (BA b0) := by
  refine ct_of [.ref a0, .int a1] (by decide) rfl ?_
  intro p e s m below meth c CX hP
  obtain ⟨hx, hb, hr, hml, hown0, hts, hlk, hK, hN, hb0, hnm⟩ := id CX
  have hown : s.vm.findClass RX10 = some m.cls := hown0
  have hS : va_S (BA b0) s.heap s.heap [] := va_S.rf
  have hl := lv_entry [.ref a0, .int a1] (n := 3) (Nat.le_of_ble_eq_true rfl)
  generalize (lg_sl [.ref a0, .int a1] ++ List.replicate (3 - (lg_sl [.ref a0, .int a1]).length) Slot.unset).toArray = ls at hl ⊢
  have hl : lv_has ls 3 [(0, .ref a0), (1, .int a1)] := hl
  unfold f_X10_init at hF
  replace hF := (if_some hF).2
  refine lv_aload_n hx hb dX10_init_0 rfl (lv_at hl 0 rfl) ?_
  refine W.objInit hx hb hown (hts (.methodLink RX10 1 objectInit) (by decide +kernel)) (hts (.instanceMethod objectInit) (by decide +kernel)) (hts (.code objectInit ⟨#[0xb1]⟩ 1 none) (by decide +kernel)) rfl (by rw [hml]; exact hl.1) rfl dX10_init_1 (Nat.le_of_ble_eq_true rfl) (Nat.le_of_ble_eq_true rfl) ?_
  refine W.eq (g2 := F0 m 4 ls []) rfl ?_
  refine lv_aload_n hx hb dX10_init_4 rfl (lv_at hl 0 rfl) ?_
  refine lv_iconst (v := 1) hx hb dX10_init_5 (by decide) ?_
  refine lv_iload_n hx hb dX10_init_6 rfl (lv_at hl 1 rfl) ?_
  refine lv_bipush (v := 8) hx hb dX10_init_7 (by decide) ?_
  obtain ⟨v2, h1, hF⟩ := ob_some hF
  refine xr_call1 (va_runS (As := [.int a1, .int 8]) (rest := [.int 1, .ref a0]) ⟨hx, hb, hml, hown, hts⟩ (ct_J9_floorMod_7cf53 l b0 D cy M a1 8 v2 h1) (va_cwS 2 hts gX10_init_J9_floorMod_7cf53 rfl rfl rfl (by decide +kernel) ⟨Nat.le_of_ble_eq_true rfl, Nat.le_of_ble_eq_true rfl⟩) (xp_S hP hK hN hS hb0) rfl rfl hl.1 rfl (lv_room (Nat.le_of_ble_eq_true rfl)) dX10_init_9 ⟨Nat.le_of_ble_eq_true rfl, Nat.le_of_ble_eq_true rfl⟩) hS (fun H locs hP hS => ?_)
  refine lv_iadd hx hb dX10_init_12 ?_
  refine xr_putI hx hb hts iw_X10_init_10 hown hK hP hS hF 10 0 rfl (by decide) tyX10 tyX10_ok nmX10 (by decide +kernel) (Or.inr ⟨rfl, hnm, rfl⟩) rfl ⟨rfl, rfl, rfl⟩ dX10_init_13 (fun M3 H locs hF hP hS => ?_)
  refine lv_aload_n hx hb dX10_init_16 rfl (lv_at hl 0 rfl) ?_
  refine xr_new hx hb hts iw_X10_init_6 hown hK hP hS hb0 6 rfl tyX6 tyX6_ok df_6 (by decide +kernel) (by decide +kernel) (by decide +kernel) (Nat.le_of_ble_eq_true rfl) (Nat.le_of_ble_eq_true rfl) dX10_init_17 (kd := 7) rfl (fun H hP hS => ?_)
  refine W.cs (cells' := 1) (slots' := 5) rfl rfl ?_
  refine lv_dup hx hb dX10_init_20 rfl ?_
  obtain ⟨M5, h4, hF⟩ := ob_some hF
  refine xr_call0 (va_runIN (As := []) (rest := [.ref (mS M3), .ref a0]) ⟨hx, hb, hml, hown, hts⟩ (ct_X6_init l b0 D cy (nO M3 7) (mS M3) M5 h4) ⟨va_cnB 0 hts gX10_init_X6_init_n21 rfl rfl rfl (hN.1 (RX10, 21, yX6_init, "HeaderLine") (by decide +kernel)) (hts (.initialized RX6) (by decide +kernel)) (by decide +kernel) ⟨Nat.le_of_ble_eq_true rfl, Nat.le_of_ble_eq_true rfl⟩, rfl, hts (.instanceMethod yX6_init) (by decide +kernel)⟩ (xp_S hP hK hN hS hb0) rfl rfl hl.1 rfl (lv_room (Nat.le_of_ble_eq_true rfl)) dX10_init_21 ⟨Nat.le_of_ble_eq_true rfl, Nat.le_of_ble_eq_true rfl⟩) hS (fun H locs hP hS => ?_)
  refine W.cs (cells' := 5) (slots' := 37) rfl rfl ?_
  refine xr_putR hx hb hts iw_X10_init_10 hown hK hP hS (v := (some (mS M3))) hF 10 1 rfl (by decide) tyX10 tyX10_ok nmX10 (by decide +kernel) (Or.inr ⟨rfl, hnm, rfl⟩) (Or.inl ⟨_, rfl⟩) ⟨rfl, rfl, rfl⟩ dX10_init_24 (fun M6 H locs hF hP hS => ?_)
  refine lv_aload_n hx hb dX10_init_27 rfl (lv_at hl 0 rfl) ?_
  refine xr_new hx hb hts iw_X10_init_3 hown hK hP hS hb0 3 rfl tyX3 tyX3_ok df_3 (by decide +kernel) (by decide +kernel) (by decide +kernel) (Nat.le_of_ble_eq_true rfl) (Nat.le_of_ble_eq_true rfl) dX10_init_28 (kd := 4) rfl (fun H hP hS => ?_)
  refine W.cs (cells' := 6) (slots' := 39) rfl rfl ?_
  refine lv_dup hx hb dX10_init_31 rfl ?_
  obtain ⟨M8, h7, hF⟩ := ob_some hF
  refine xr_call0 (va_runIN (As := []) (rest := [.ref (mS M6), .ref a0]) ⟨hx, hb, hml, hown, hts⟩ (ct_X3_init l b0 D cy (nO M6 4) (mS M6) M8 h7) ⟨va_cnB 0 hts gX10_init_X3_init_n28 rfl rfl rfl (hN.1 (RX10, 28, yX3_init, "HeaderLine") (by decide +kernel)) (hts (.initialized RX3) (by decide +kernel)) (by decide +kernel) ⟨Nat.le_of_ble_eq_true rfl, Nat.le_of_ble_eq_true rfl⟩, rfl, hts (.instanceMethod yX3_init) (by decide +kernel)⟩ (xp_S hP hK hN hS hb0) rfl rfl hl.1 rfl (lv_room (Nat.le_of_ble_eq_true rfl)) dX10_init_32 ⟨Nat.le_of_ble_eq_true rfl, Nat.le_of_ble_eq_true rfl⟩) hS (fun H locs hP hS => ?_)
  refine W.cs (cells' := 7) (slots' := 47) rfl rfl ?_
  refine xr_putR hx hb hts iw_X10_init_10 hown hK hP hS (v := (some (mS M6))) hF 10 2 rfl (by decide) tyX10 tyX10_ok nmX10 (by decide +kernel) (Or.inr ⟨rfl, hnm, rfl⟩) (Or.inl ⟨_, rfl⟩) ⟨rfl, rfl, rfl⟩ dX10_init_35 (fun M9 H locs hF hP hS => ?_)
  refine lv_aload_n hx hb dX10_init_38 rfl (lv_at hl 0 rfl) ?_
  refine lv_bipush (v := 8) hx hb dX10_init_39 (by decide) ?_
  refine xr_newQ hx hb hts hown hK hP hS hb0 hF 7 rfl (by decide) (by decide +kernel) hN.2.2.2.2.2.2 (by decide) (Nat.le_of_ble_eq_true rfl) (Nat.le_of_ble_eq_true rfl) dX10_init_41 (fun M10 H hF hP hS => ?_)
  refine W.cs (cells' := 8) (slots' := 55) rfl rfl ?_
  refine xr_putR hx hb hts iw_X10_init_10 hown hK hP hS (v := (some (mS M9))) hF 10 3 rfl (by decide) tyX10 tyX10_ok nmX10 (by decide +kernel) (Or.inr ⟨rfl, hnm, rfl⟩) (Or.inr ⟨_, rfl⟩) ⟨rfl, rfl, rfl⟩ dX10_init_44 (fun M11 H locs hF hP hS => ?_)
  refine lv_aload_n hx hb dX10_init_47 rfl (lv_at hl 0 rfl) ?_
  refine lv_bipush (v := 8) hx hb dX10_init_48 (by decide) ?_
  refine xr_newQ hx hb hts hown hK hP hS hb0 hF 3 rfl (by decide) (by decide +kernel) hN.2.2.1 (by decide) (Nat.le_of_ble_eq_true rfl) (Nat.le_of_ble_eq_true rfl) dX10_init_50 (fun M12 H hF hP hS => ?_)
  refine W.cs (cells' := 9) (slots' := 63) rfl rfl ?_
  refine xr_putR hx hb hts iw_X10_init_10 hown hK hP hS (v := (some (mS M11))) hF 10 4 rfl (by decide) tyX10 tyX10_ok nmX10 (by decide +kernel) (Or.inr ⟨rfl, hnm, rfl⟩) (Or.inr ⟨_, rfl⟩) ⟨rfl, rfl, rfl⟩ dX10_init_53 (fun M13 H locs hF hP hS => ?_)
  refine lv_iconst (v := 0) hx hb dX10_init_56 (by decide) ?_
  refine lv_istore_n (lv' := [(2, .int 0), (0, .ref a0), (1, .int a1)]) hx hb dX10_init_57 rfl hl (by decide) (by first | rfl | simp [cat_rf]) (fun ls hl => ?_)
  refine lv_iload_n hx hb dX10_init_58 rfl (lv_at hl 0 rfl) ?_
  refine lv_bipush (v := 8) hx hb dX10_init_59 (by decide) ?_
  refine lv_icmp_ge (tgt := 96) hx hb dX10_init_61 (by decide) (fun hc => ?_) (fun hc => ?_)
  · exact absurd hc (by decide)
  refine lv_aload_n hx hb dX10_init_64 rfl (lv_at hl 1 rfl) ?_
  refine xr_getR hx hb hts iw_X10_init_10 hown hK hP hF 10 3 rfl (by decide) (by decide +kernel) ⟨rfl, rfl, rfl⟩ dX10_init_65 (fun v14 hF => ?_)
  refine lv_iload_n hx hb dX10_init_68 rfl (lv_at hl 0 rfl) ?_
  refine xr_new hx hb hts iw_X10_init_9 hown hK hP hS hb0 9 rfl tyX9 tyX9_ok df_9 (by decide +kernel) (by decide +kernel) (by decide +kernel) (Nat.le_of_ble_eq_true rfl) (Nat.le_of_ble_eq_true rfl) dX10_init_69 (kd := 10) rfl (fun H hP hS => ?_)
  refine W.cs (cells' := 10) (slots' := 70) rfl rfl ?_
  refine lv_dup hx hb dX10_init_72 rfl ?_
  obtain ⟨M16, h15, hF⟩ := ob_some hF
  refine xr_call0 (va_runI (As := []) (rest := [.ref (mS M13), .int 0, .ref v14]) ⟨hx, hb, hml, hown, hts⟩ (ct_X9_init l b0 D cy (nO M13 10) (mS M13) M16 h15) (cwI 0 hts gX10_init_X9_init rfl rfl rfl (hts (.initialized RX9) (by decide +kernel)) (hts (.methodLink RX10 45 yX9_init) (by decide +kernel)) (hts (.instanceMethod yX9_init) (by decide +kernel)) rfl (by decide +kernel) ⟨Nat.le_of_ble_eq_true rfl, Nat.le_of_ble_eq_true rfl⟩) (xp_S hP hK hN hS hb0) rfl rfl hl.1 rfl (lv_room (Nat.le_of_ble_eq_true rfl)) dX10_init_73 ⟨Nat.le_of_ble_eq_true rfl, Nat.le_of_ble_eq_true rfl⟩) hS (fun H locs hP hS => ?_)
  refine W.cs (cells' := 28) (slots' := 166) rfl rfl ?_
  refine xr_wR hx hb hK hP hS hF 7 9 rfl (by decide) rfl rfl dX10_init_76 (fun M17 H locs hF hP hS => ?_)
  refine lv_aload_n hx hb dX10_init_77 rfl (lv_at hl 1 rfl) ?_
  refine xr_getR hx hb hts iw_X10_init_10 hown hK hP hF 10 4 rfl (by decide) (by decide +kernel) ⟨rfl, rfl, rfl⟩ dX10_init_78 (fun v18 hF => ?_)
  refine lv_iload_n hx hb dX10_init_81 rfl (lv_at hl 0 rfl) ?_
  refine xr_new hx hb hts iw_X10_init_1 hown hK hP hS hb0 1 rfl tyX1 tyX1_ok df_1 (by decide +kernel) (by decide +kernel) (by decide +kernel) (Nat.le_of_ble_eq_true rfl) (Nat.le_of_ble_eq_true rfl) dX10_init_82 (kd := 2) rfl (fun H hP hS => ?_)
  refine W.cs (cells' := 29) (slots' := 170) rfl rfl ?_
  refine lv_dup hx hb dX10_init_85 rfl ?_
  obtain ⟨M20, h19, hF⟩ := ob_some hF
  refine xr_call0 (va_runIN (As := []) (rest := [.ref (mS M17), .int 0, .ref v18]) ⟨hx, hb, hml, hown, hts⟩ (ct_X1_init l b0 D cy (nO M17 2) (mS M17) M20 h19) ⟨va_cnB 0 hts gX10_init_X1_init_n46 rfl rfl rfl (hN.1 (RX10, 46, yX1_init, "HeaderLine") (by decide +kernel)) (hts (.initialized RX1) (by decide +kernel)) (by decide +kernel) ⟨Nat.le_of_ble_eq_true rfl, Nat.le_of_ble_eq_true rfl⟩, rfl, hts (.instanceMethod yX1_init) (by decide +kernel)⟩ (xp_S hP hK hN hS hb0) rfl rfl hl.1 rfl (lv_room (Nat.le_of_ble_eq_true rfl)) dX10_init_86 ⟨Nat.le_of_ble_eq_true rfl, Nat.le_of_ble_eq_true rfl⟩) hS (fun H locs hP hS => ?_)
  refine W.cs (cells' := 32) (slots' := 188) rfl rfl ?_
  refine xr_wR hx hb hK hP hS hF 3 1 rfl (by decide) rfl rfl dX10_init_89 (fun M21 H locs hF hP hS => ?_)
  refine lv_iinc (v := 1) (lv' := [(2, .int 1), (0, .ref a0), (1, .int a1)]) hx hb dX10_init_90 hl (k := 0) rfl (by decide) (by decide) rfl (fun ls hl => ?_)
  refine lv_goto (tgt := 58) hx hb dX10_init_93 (by decide) ?_
  refine lv_iload_n hx hb dX10_init_58 rfl (lv_at hl 0 rfl) ?_
  refine lv_bipush (v := 8) hx hb dX10_init_59 (by decide) ?_
  refine lv_icmp_ge (tgt := 96) hx hb dX10_init_61 (by decide) (fun hc => ?_) (fun hc => ?_)
  · exact absurd hc (by decide)
  refine lv_aload_n hx hb dX10_init_64 rfl (lv_at hl 1 rfl) ?_
  refine xr_getR hx hb hts iw_X10_init_10 hown hK hP hF 10 3 rfl (by decide) (by decide +kernel) ⟨rfl, rfl, rfl⟩ dX10_init_65 (fun v22 hF => ?_)
  refine lv_iload_n hx hb dX10_init_68 rfl (lv_at hl 0 rfl) ?_
  refine xr_new hx hb hts iw_X10_init_9 hown hK hP hS hb0 9 rfl tyX9 tyX9_ok df_9 (by decide +kernel) (by decide +kernel) (by decide +kernel) (Nat.le_of_ble_eq_true rfl) (Nat.le_of_ble_eq_true rfl) dX10_init_69 (kd := 10) rfl (fun H hP hS => ?_)
  refine W.cs (cells' := 33) (slots' := 195) rfl rfl ?_
  refine lv_dup hx hb dX10_init_72 rfl ?_
  obtain ⟨M24, h23, hF⟩ := ob_some hF
  refine xr_call0 (va_runI (As := []) (rest := [.ref (mS M21), .int 1, .ref v22]) ⟨hx, hb, hml, hown, hts⟩ (ct_X9_init l b0 D cy (nO M21 10) (mS M21) M24 h23) (cwI 0 hts gX10_init_X9_init rfl rfl rfl (hts (.initialized RX9) (by decide +kernel)) (hts (.methodLink RX10 45 yX9_init) (by decide +kernel)) (hts (.instanceMethod yX9_init) (by decide +kernel)) rfl (by decide +kernel) ⟨Nat.le_of_ble_eq_true rfl, Nat.le_of_ble_eq_true rfl⟩) (xp_S hP hK hN hS hb0) rfl rfl hl.1 rfl (lv_room (Nat.le_of_ble_eq_true rfl)) dX10_init_73 ⟨Nat.le_of_ble_eq_true rfl, Nat.le_of_ble_eq_true rfl⟩) hS (fun H locs hP hS => ?_)
  refine W.cs (cells' := 51) (slots' := 291) rfl rfl ?_
  refine xr_wR hx hb hK hP hS hF 7 9 rfl (by decide) rfl rfl dX10_init_76 (fun M25 H locs hF hP hS => ?_)
  refine lv_aload_n hx hb dX10_init_77 rfl (lv_at hl 1 rfl) ?_
  refine xr_getR hx hb hts iw_X10_init_10 hown hK hP hF 10 4 rfl (by decide) (by decide +kernel) ⟨rfl, rfl, rfl⟩ dX10_init_78 (fun v26 hF => ?_)
  refine lv_iload_n hx hb dX10_init_81 rfl (lv_at hl 0 rfl) ?_
  refine xr_new hx hb hts iw_X10_init_1 hown hK hP hS hb0 1 rfl tyX1 tyX1_ok df_1 (by decide +kernel) (by decide +kernel) (by decide +kernel) (Nat.le_of_ble_eq_true rfl) (Nat.le_of_ble_eq_true rfl) dX10_init_82 (kd := 2) rfl (fun H hP hS => ?_)
  refine W.cs (cells' := 52) (slots' := 295) rfl rfl ?_
  refine lv_dup hx hb dX10_init_85 rfl ?_
  obtain ⟨M28, h27, hF⟩ := ob_some hF
  refine xr_call0 (va_runIN (As := []) (rest := [.ref (mS M25), .int 1, .ref v26]) ⟨hx, hb, hml, hown, hts⟩ (ct_X1_init l b0 D cy (nO M25 2) (mS M25) M28 h27) ⟨va_cnB 0 hts gX10_init_X1_init_n46 rfl rfl rfl (hN.1 (RX10, 46, yX1_init, "HeaderLine") (by decide +kernel)) (hts (.initialized RX1) (by decide +kernel)) (by decide +kernel) ⟨Nat.le_of_ble_eq_true rfl, Nat.le_of_ble_eq_true rfl⟩, rfl, hts (.instanceMethod yX1_init) (by decide +kernel)⟩ (xp_S hP hK hN hS hb0) rfl rfl hl.1 rfl (lv_room (Nat.le_of_ble_eq_true rfl)) dX10_init_86 ⟨Nat.le_of_ble_eq_true rfl, Nat.le_of_ble_eq_true rfl⟩) hS (fun H locs hP hS => ?_)
  refine W.cs (cells' := 55) (slots' := 313) rfl rfl ?_
  refine xr_wR hx hb hK hP hS hF 3 1 rfl (by decide) rfl rfl dX10_init_89 (fun M29 H locs hF hP hS => ?_)
  refine lv_iinc (v := 2) (lv' := [(2, .int 2), (0, .ref a0), (1, .int a1)]) hx hb dX10_init_90 hl (k := 0) rfl (by decide) (by decide) rfl (fun ls hl => ?_)
  refine lv_goto (tgt := 58) hx hb dX10_init_93 (by decide) ?_
  refine lv_iload_n hx hb dX10_init_58 rfl (lv_at hl 0 rfl) ?_
  refine lv_bipush (v := 8) hx hb dX10_init_59 (by decide) ?_
  refine lv_icmp_ge (tgt := 96) hx hb dX10_init_61 (by decide) (fun hc => ?_) (fun hc => ?_)
  · exact absurd hc (by decide)
  refine lv_aload_n hx hb dX10_init_64 rfl (lv_at hl 1 rfl) ?_
  refine xr_getR hx hb hts iw_X10_init_10 hown hK hP hF 10 3 rfl (by decide) (by decide +kernel) ⟨rfl, rfl, rfl⟩ dX10_init_65 (fun v30 hF => ?_)
  refine lv_iload_n hx hb dX10_init_68 rfl (lv_at hl 0 rfl) ?_
  refine xr_new hx hb hts iw_X10_init_9 hown hK hP hS hb0 9 rfl tyX9 tyX9_ok df_9 (by decide +kernel) (by decide +kernel) (by decide +kernel) (Nat.le_of_ble_eq_true rfl) (Nat.le_of_ble_eq_true rfl) dX10_init_69 (kd := 10) rfl (fun H hP hS => ?_)
  refine W.cs (cells' := 56) (slots' := 320) rfl rfl ?_
  refine lv_dup hx hb dX10_init_72 rfl ?_
  obtain ⟨M32, h31, hF⟩ := ob_some hF
  refine xr_call0 (va_runI (As := []) (rest := [.ref (mS M29), .int 2, .ref v30]) ⟨hx, hb, hml, hown, hts⟩ (ct_X9_init l b0 D cy (nO M29 10) (mS M29) M32 h31) (cwI 0 hts gX10_init_X9_init rfl rfl rfl (hts (.initialized RX9) (by decide +kernel)) (hts (.methodLink RX10 45 yX9_init) (by decide +kernel)) (hts (.instanceMethod yX9_init) (by decide +kernel)) rfl (by decide +kernel) ⟨Nat.le_of_ble_eq_true rfl, Nat.le_of_ble_eq_true rfl⟩) (xp_S hP hK hN hS hb0) rfl rfl hl.1 rfl (lv_room (Nat.le_of_ble_eq_true rfl)) dX10_init_73 ⟨Nat.le_of_ble_eq_true rfl, Nat.le_of_ble_eq_true rfl⟩) hS (fun H locs hP hS => ?_)
  refine W.cs (cells' := 74) (slots' := 416) rfl rfl ?_
  refine xr_wR hx hb hK hP hS hF 7 9 rfl (by decide) rfl rfl dX10_init_76 (fun M33 H locs hF hP hS => ?_)
  refine lv_aload_n hx hb dX10_init_77 rfl (lv_at hl 1 rfl) ?_
  refine xr_getR hx hb hts iw_X10_init_10 hown hK hP hF 10 4 rfl (by decide) (by decide +kernel) ⟨rfl, rfl, rfl⟩ dX10_init_78 (fun v34 hF => ?_)
  refine lv_iload_n hx hb dX10_init_81 rfl (lv_at hl 0 rfl) ?_
  refine xr_new hx hb hts iw_X10_init_1 hown hK hP hS hb0 1 rfl tyX1 tyX1_ok df_1 (by decide +kernel) (by decide +kernel) (by decide +kernel) (Nat.le_of_ble_eq_true rfl) (Nat.le_of_ble_eq_true rfl) dX10_init_82 (kd := 2) rfl (fun H hP hS => ?_)
  refine W.cs (cells' := 75) (slots' := 420) rfl rfl ?_
  refine lv_dup hx hb dX10_init_85 rfl ?_
  obtain ⟨M36, h35, hF⟩ := ob_some hF
  refine xr_call0 (va_runIN (As := []) (rest := [.ref (mS M33), .int 2, .ref v34]) ⟨hx, hb, hml, hown, hts⟩ (ct_X1_init l b0 D cy (nO M33 2) (mS M33) M36 h35) ⟨va_cnB 0 hts gX10_init_X1_init_n46 rfl rfl rfl (hN.1 (RX10, 46, yX1_init, "HeaderLine") (by decide +kernel)) (hts (.initialized RX1) (by decide +kernel)) (by decide +kernel) ⟨Nat.le_of_ble_eq_true rfl, Nat.le_of_ble_eq_true rfl⟩, rfl, hts (.instanceMethod yX1_init) (by decide +kernel)⟩ (xp_S hP hK hN hS hb0) rfl rfl hl.1 rfl (lv_room (Nat.le_of_ble_eq_true rfl)) dX10_init_86 ⟨Nat.le_of_ble_eq_true rfl, Nat.le_of_ble_eq_true rfl⟩) hS (fun H locs hP hS => ?_)
  refine W.cs (cells' := 78) (slots' := 438) rfl rfl ?_
  refine xr_wR hx hb hK hP hS hF 3 1 rfl (by decide) rfl rfl dX10_init_89 (fun M37 H locs hF hP hS => ?_)
  refine lv_iinc (v := 3) (lv' := [(2, .int 3), (0, .ref a0), (1, .int a1)]) hx hb dX10_init_90 hl (k := 0) rfl (by decide) (by decide) rfl (fun ls hl => ?_)
  refine lv_goto (tgt := 58) hx hb dX10_init_93 (by decide) ?_
  refine lv_iload_n hx hb dX10_init_58 rfl (lv_at hl 0 rfl) ?_
  refine lv_bipush (v := 8) hx hb dX10_init_59 (by decide) ?_
  refine lv_icmp_ge (tgt := 96) hx hb dX10_init_61 (by decide) (fun hc => ?_) (fun hc => ?_)
  · exact absurd hc (by decide)
  refine lv_aload_n hx hb dX10_init_64 rfl (lv_at hl 1 rfl) ?_
  refine xr_getR hx hb hts iw_X10_init_10 hown hK hP hF 10 3 rfl (by decide) (by decide +kernel) ⟨rfl, rfl, rfl⟩ dX10_init_65 (fun v38 hF => ?_)
  refine lv_iload_n hx hb dX10_init_68 rfl (lv_at hl 0 rfl) ?_
  refine xr_new hx hb hts iw_X10_init_9 hown hK hP hS hb0 9 rfl tyX9 tyX9_ok df_9 (by decide +kernel) (by decide +kernel) (by decide +kernel) (Nat.le_of_ble_eq_true rfl) (Nat.le_of_ble_eq_true rfl) dX10_init_69 (kd := 10) rfl (fun H hP hS => ?_)
  refine W.cs (cells' := 79) (slots' := 445) rfl rfl ?_
  refine lv_dup hx hb dX10_init_72 rfl ?_
  obtain ⟨M40, h39, hF⟩ := ob_some hF
  refine xr_call0 (va_runI (As := []) (rest := [.ref (mS M37), .int 3, .ref v38]) ⟨hx, hb, hml, hown, hts⟩ (ct_X9_init l b0 D cy (nO M37 10) (mS M37) M40 h39) (cwI 0 hts gX10_init_X9_init rfl rfl rfl (hts (.initialized RX9) (by decide +kernel)) (hts (.methodLink RX10 45 yX9_init) (by decide +kernel)) (hts (.instanceMethod yX9_init) (by decide +kernel)) rfl (by decide +kernel) ⟨Nat.le_of_ble_eq_true rfl, Nat.le_of_ble_eq_true rfl⟩) (xp_S hP hK hN hS hb0) rfl rfl hl.1 rfl (lv_room (Nat.le_of_ble_eq_true rfl)) dX10_init_73 ⟨Nat.le_of_ble_eq_true rfl, Nat.le_of_ble_eq_true rfl⟩) hS (fun H locs hP hS => ?_)
  refine W.cs (cells' := 97) (slots' := 541) rfl rfl ?_
  refine xr_wR hx hb hK hP hS hF 7 9 rfl (by decide) rfl rfl dX10_init_76 (fun M41 H locs hF hP hS => ?_)
  refine lv_aload_n hx hb dX10_init_77 rfl (lv_at hl 1 rfl) ?_
  refine xr_getR hx hb hts iw_X10_init_10 hown hK hP hF 10 4 rfl (by decide) (by decide +kernel) ⟨rfl, rfl, rfl⟩ dX10_init_78 (fun v42 hF => ?_)
  refine lv_iload_n hx hb dX10_init_81 rfl (lv_at hl 0 rfl) ?_
  refine xr_new hx hb hts iw_X10_init_1 hown hK hP hS hb0 1 rfl tyX1 tyX1_ok df_1 (by decide +kernel) (by decide +kernel) (by decide +kernel) (Nat.le_of_ble_eq_true rfl) (Nat.le_of_ble_eq_true rfl) dX10_init_82 (kd := 2) rfl (fun H hP hS => ?_)
  refine W.cs (cells' := 98) (slots' := 545) rfl rfl ?_
  refine lv_dup hx hb dX10_init_85 rfl ?_
  obtain ⟨M44, h43, hF⟩ := ob_some hF
  refine xr_call0 (va_runIN (As := []) (rest := [.ref (mS M41), .int 3, .ref v42]) ⟨hx, hb, hml, hown, hts⟩ (ct_X1_init l b0 D cy (nO M41 2) (mS M41) M44 h43) ⟨va_cnB 0 hts gX10_init_X1_init_n46 rfl rfl rfl (hN.1 (RX10, 46, yX1_init, "HeaderLine") (by decide +kernel)) (hts (.initialized RX1) (by decide +kernel)) (by decide +kernel) ⟨Nat.le_of_ble_eq_true rfl, Nat.le_of_ble_eq_true rfl⟩, rfl, hts (.instanceMethod yX1_init) (by decide +kernel)⟩ (xp_S hP hK hN hS hb0) rfl rfl hl.1 rfl (lv_room (Nat.le_of_ble_eq_true rfl)) dX10_init_86 ⟨Nat.le_of_ble_eq_true rfl, Nat.le_of_ble_eq_true rfl⟩) hS (fun H locs hP hS => ?_)
  refine W.cs (cells' := 101) (slots' := 563) rfl rfl ?_
  refine xr_wR hx hb hK hP hS hF 3 1 rfl (by decide) rfl rfl dX10_init_89 (fun M45 H locs hF hP hS => ?_)
  refine lv_iinc (v := 4) (lv' := [(2, .int 4), (0, .ref a0), (1, .int a1)]) hx hb dX10_init_90 hl (k := 0) rfl (by decide) (by decide) rfl (fun ls hl => ?_)
  refine lv_goto (tgt := 58) hx hb dX10_init_93 (by decide) ?_
  refine lv_iload_n hx hb dX10_init_58 rfl (lv_at hl 0 rfl) ?_
  refine lv_bipush (v := 8) hx hb dX10_init_59 (by decide) ?_
  refine lv_icmp_ge (tgt := 96) hx hb dX10_init_61 (by decide) (fun hc => ?_) (fun hc => ?_)
  · exact absurd hc (by decide)
  refine lv_aload_n hx hb dX10_init_64 rfl (lv_at hl 1 rfl) ?_
  refine xr_getR hx hb hts iw_X10_init_10 hown hK hP hF 10 3 rfl (by decide) (by decide +kernel) ⟨rfl, rfl, rfl⟩ dX10_init_65 (fun v46 hF => ?_)
  refine lv_iload_n hx hb dX10_init_68 rfl (lv_at hl 0 rfl) ?_
  refine xr_new hx hb hts iw_X10_init_9 hown hK hP hS hb0 9 rfl tyX9 tyX9_ok df_9 (by decide +kernel) (by decide +kernel) (by decide +kernel) (Nat.le_of_ble_eq_true rfl) (Nat.le_of_ble_eq_true rfl) dX10_init_69 (kd := 10) rfl (fun H hP hS => ?_)
  refine W.cs (cells' := 102) (slots' := 570) rfl rfl ?_
  refine lv_dup hx hb dX10_init_72 rfl ?_
  obtain ⟨M48, h47, hF⟩ := ob_some hF
  refine xr_call0 (va_runI (As := []) (rest := [.ref (mS M45), .int 4, .ref v46]) ⟨hx, hb, hml, hown, hts⟩ (ct_X9_init l b0 D cy (nO M45 10) (mS M45) M48 h47) (cwI 0 hts gX10_init_X9_init rfl rfl rfl (hts (.initialized RX9) (by decide +kernel)) (hts (.methodLink RX10 45 yX9_init) (by decide +kernel)) (hts (.instanceMethod yX9_init) (by decide +kernel)) rfl (by decide +kernel) ⟨Nat.le_of_ble_eq_true rfl, Nat.le_of_ble_eq_true rfl⟩) (xp_S hP hK hN hS hb0) rfl rfl hl.1 rfl (lv_room (Nat.le_of_ble_eq_true rfl)) dX10_init_73 ⟨Nat.le_of_ble_eq_true rfl, Nat.le_of_ble_eq_true rfl⟩) hS (fun H locs hP hS => ?_)
  refine W.cs (cells' := 120) (slots' := 666) rfl rfl ?_
  refine xr_wR hx hb hK hP hS hF 7 9 rfl (by decide) rfl rfl dX10_init_76 (fun M49 H locs hF hP hS => ?_)
  refine lv_aload_n hx hb dX10_init_77 rfl (lv_at hl 1 rfl) ?_
  refine xr_getR hx hb hts iw_X10_init_10 hown hK hP hF 10 4 rfl (by decide) (by decide +kernel) ⟨rfl, rfl, rfl⟩ dX10_init_78 (fun v50 hF => ?_)
  refine lv_iload_n hx hb dX10_init_81 rfl (lv_at hl 0 rfl) ?_
  refine xr_new hx hb hts iw_X10_init_1 hown hK hP hS hb0 1 rfl tyX1 tyX1_ok df_1 (by decide +kernel) (by decide +kernel) (by decide +kernel) (Nat.le_of_ble_eq_true rfl) (Nat.le_of_ble_eq_true rfl) dX10_init_82 (kd := 2) rfl (fun H hP hS => ?_)
  refine W.cs (cells' := 121) (slots' := 670) rfl rfl ?_
  refine lv_dup hx hb dX10_init_85 rfl ?_
  obtain ⟨M52, h51, hF⟩ := ob_some hF
  refine xr_call0 (va_runIN (As := []) (rest := [.ref (mS M49), .int 4, .ref v50]) ⟨hx, hb, hml, hown, hts⟩ (ct_X1_init l b0 D cy (nO M49 2) (mS M49) M52 h51) ⟨va_cnB 0 hts gX10_init_X1_init_n46 rfl rfl rfl (hN.1 (RX10, 46, yX1_init, "HeaderLine") (by decide +kernel)) (hts (.initialized RX1) (by decide +kernel)) (by decide +kernel) ⟨Nat.le_of_ble_eq_true rfl, Nat.le_of_ble_eq_true rfl⟩, rfl, hts (.instanceMethod yX1_init) (by decide +kernel)⟩ (xp_S hP hK hN hS hb0) rfl rfl hl.1 rfl (lv_room (Nat.le_of_ble_eq_true rfl)) dX10_init_86 ⟨Nat.le_of_ble_eq_true rfl, Nat.le_of_ble_eq_true rfl⟩) hS (fun H locs hP hS => ?_)
  refine W.cs (cells' := 124) (slots' := 688) rfl rfl ?_
  refine xr_wR hx hb hK hP hS hF 3 1 rfl (by decide) rfl rfl dX10_init_89 (fun M53 H locs hF hP hS => ?_)
  refine lv_iinc (v := 5) (lv' := [(2, .int 5), (0, .ref a0), (1, .int a1)]) hx hb dX10_init_90 hl (k := 0) rfl (by decide) (by decide) rfl (fun ls hl => ?_)
  refine lv_goto (tgt := 58) hx hb dX10_init_93 (by decide) ?_
  refine lv_iload_n hx hb dX10_init_58 rfl (lv_at hl 0 rfl) ?_
  refine lv_bipush (v := 8) hx hb dX10_init_59 (by decide) ?_
  refine lv_icmp_ge (tgt := 96) hx hb dX10_init_61 (by decide) (fun hc => ?_) (fun hc => ?_)
  · exact absurd hc (by decide)
  refine lv_aload_n hx hb dX10_init_64 rfl (lv_at hl 1 rfl) ?_
  refine xr_getR hx hb hts iw_X10_init_10 hown hK hP hF 10 3 rfl (by decide) (by decide +kernel) ⟨rfl, rfl, rfl⟩ dX10_init_65 (fun v54 hF => ?_)
  refine lv_iload_n hx hb dX10_init_68 rfl (lv_at hl 0 rfl) ?_
  refine xr_new hx hb hts iw_X10_init_9 hown hK hP hS hb0 9 rfl tyX9 tyX9_ok df_9 (by decide +kernel) (by decide +kernel) (by decide +kernel) (Nat.le_of_ble_eq_true rfl) (Nat.le_of_ble_eq_true rfl) dX10_init_69 (kd := 10) rfl (fun H hP hS => ?_)
  refine W.cs (cells' := 125) (slots' := 695) rfl rfl ?_
  refine lv_dup hx hb dX10_init_72 rfl ?_
  obtain ⟨M56, h55, hF⟩ := ob_some hF
  refine xr_call0 (va_runI (As := []) (rest := [.ref (mS M53), .int 5, .ref v54]) ⟨hx, hb, hml, hown, hts⟩ (ct_X9_init l b0 D cy (nO M53 10) (mS M53) M56 h55) (cwI 0 hts gX10_init_X9_init rfl rfl rfl (hts (.initialized RX9) (by decide +kernel)) (hts (.methodLink RX10 45 yX9_init) (by decide +kernel)) (hts (.instanceMethod yX9_init) (by decide +kernel)) rfl (by decide +kernel) ⟨Nat.le_of_ble_eq_true rfl, Nat.le_of_ble_eq_true rfl⟩) (xp_S hP hK hN hS hb0) rfl rfl hl.1 rfl (lv_room (Nat.le_of_ble_eq_true rfl)) dX10_init_73 ⟨Nat.le_of_ble_eq_true rfl, Nat.le_of_ble_eq_true rfl⟩) hS (fun H locs hP hS => ?_)
  refine W.cs (cells' := 143) (slots' := 791) rfl rfl ?_
  refine xr_wR hx hb hK hP hS hF 7 9 rfl (by decide) rfl rfl dX10_init_76 (fun M57 H locs hF hP hS => ?_)
  refine lv_aload_n hx hb dX10_init_77 rfl (lv_at hl 1 rfl) ?_
  refine xr_getR hx hb hts iw_X10_init_10 hown hK hP hF 10 4 rfl (by decide) (by decide +kernel) ⟨rfl, rfl, rfl⟩ dX10_init_78 (fun v58 hF => ?_)
  refine lv_iload_n hx hb dX10_init_81 rfl (lv_at hl 0 rfl) ?_
  refine xr_new hx hb hts iw_X10_init_1 hown hK hP hS hb0 1 rfl tyX1 tyX1_ok df_1 (by decide +kernel) (by decide +kernel) (by decide +kernel) (Nat.le_of_ble_eq_true rfl) (Nat.le_of_ble_eq_true rfl) dX10_init_82 (kd := 2) rfl (fun H hP hS => ?_)
  refine W.cs (cells' := 144) (slots' := 795) rfl rfl ?_
  refine lv_dup hx hb dX10_init_85 rfl ?_
  obtain ⟨M60, h59, hF⟩ := ob_some hF
  refine xr_call0 (va_runIN (As := []) (rest := [.ref (mS M57), .int 5, .ref v58]) ⟨hx, hb, hml, hown, hts⟩ (ct_X1_init l b0 D cy (nO M57 2) (mS M57) M60 h59) ⟨va_cnB 0 hts gX10_init_X1_init_n46 rfl rfl rfl (hN.1 (RX10, 46, yX1_init, "HeaderLine") (by decide +kernel)) (hts (.initialized RX1) (by decide +kernel)) (by decide +kernel) ⟨Nat.le_of_ble_eq_true rfl, Nat.le_of_ble_eq_true rfl⟩, rfl, hts (.instanceMethod yX1_init) (by decide +kernel)⟩ (xp_S hP hK hN hS hb0) rfl rfl hl.1 rfl (lv_room (Nat.le_of_ble_eq_true rfl)) dX10_init_86 ⟨Nat.le_of_ble_eq_true rfl, Nat.le_of_ble_eq_true rfl⟩) hS (fun H locs hP hS => ?_)
  refine W.cs (cells' := 147) (slots' := 813) rfl rfl ?_
  refine xr_wR hx hb hK hP hS hF 3 1 rfl (by decide) rfl rfl dX10_init_89 (fun M61 H locs hF hP hS => ?_)
  refine lv_iinc (v := 6) (lv' := [(2, .int 6), (0, .ref a0), (1, .int a1)]) hx hb dX10_init_90 hl (k := 0) rfl (by decide) (by decide) rfl (fun ls hl => ?_)
  refine lv_goto (tgt := 58) hx hb dX10_init_93 (by decide) ?_
  refine lv_iload_n hx hb dX10_init_58 rfl (lv_at hl 0 rfl) ?_
  refine lv_bipush (v := 8) hx hb dX10_init_59 (by decide) ?_
  refine lv_icmp_ge (tgt := 96) hx hb dX10_init_61 (by decide) (fun hc => ?_) (fun hc => ?_)
  · exact absurd hc (by decide)
  refine lv_aload_n hx hb dX10_init_64 rfl (lv_at hl 1 rfl) ?_
  refine xr_getR hx hb hts iw_X10_init_10 hown hK hP hF 10 3 rfl (by decide) (by decide +kernel) ⟨rfl, rfl, rfl⟩ dX10_init_65 (fun v62 hF => ?_)
  refine lv_iload_n hx hb dX10_init_68 rfl (lv_at hl 0 rfl) ?_
  refine xr_new hx hb hts iw_X10_init_9 hown hK hP hS hb0 9 rfl tyX9 tyX9_ok df_9 (by decide +kernel) (by decide +kernel) (by decide +kernel) (Nat.le_of_ble_eq_true rfl) (Nat.le_of_ble_eq_true rfl) dX10_init_69 (kd := 10) rfl (fun H hP hS => ?_)
  refine W.cs (cells' := 148) (slots' := 820) rfl rfl ?_
  refine lv_dup hx hb dX10_init_72 rfl ?_
  obtain ⟨M64, h63, hF⟩ := ob_some hF
  refine xr_call0 (va_runI (As := []) (rest := [.ref (mS M61), .int 6, .ref v62]) ⟨hx, hb, hml, hown, hts⟩ (ct_X9_init l b0 D cy (nO M61 10) (mS M61) M64 h63) (cwI 0 hts gX10_init_X9_init rfl rfl rfl (hts (.initialized RX9) (by decide +kernel)) (hts (.methodLink RX10 45 yX9_init) (by decide +kernel)) (hts (.instanceMethod yX9_init) (by decide +kernel)) rfl (by decide +kernel) ⟨Nat.le_of_ble_eq_true rfl, Nat.le_of_ble_eq_true rfl⟩) (xp_S hP hK hN hS hb0) rfl rfl hl.1 rfl (lv_room (Nat.le_of_ble_eq_true rfl)) dX10_init_73 ⟨Nat.le_of_ble_eq_true rfl, Nat.le_of_ble_eq_true rfl⟩) hS (fun H locs hP hS => ?_)
  refine W.cs (cells' := 166) (slots' := 916) rfl rfl ?_
  refine xr_wR hx hb hK hP hS hF 7 9 rfl (by decide) rfl rfl dX10_init_76 (fun M65 H locs hF hP hS => ?_)
  refine lv_aload_n hx hb dX10_init_77 rfl (lv_at hl 1 rfl) ?_
  refine xr_getR hx hb hts iw_X10_init_10 hown hK hP hF 10 4 rfl (by decide) (by decide +kernel) ⟨rfl, rfl, rfl⟩ dX10_init_78 (fun v66 hF => ?_)
  refine lv_iload_n hx hb dX10_init_81 rfl (lv_at hl 0 rfl) ?_
  refine xr_new hx hb hts iw_X10_init_1 hown hK hP hS hb0 1 rfl tyX1 tyX1_ok df_1 (by decide +kernel) (by decide +kernel) (by decide +kernel) (Nat.le_of_ble_eq_true rfl) (Nat.le_of_ble_eq_true rfl) dX10_init_82 (kd := 2) rfl (fun H hP hS => ?_)
  refine W.cs (cells' := 167) (slots' := 920) rfl rfl ?_
  refine lv_dup hx hb dX10_init_85 rfl ?_
  obtain ⟨M68, h67, hF⟩ := ob_some hF
  refine xr_call0 (va_runIN (As := []) (rest := [.ref (mS M65), .int 6, .ref v66]) ⟨hx, hb, hml, hown, hts⟩ (ct_X1_init l b0 D cy (nO M65 2) (mS M65) M68 h67) ⟨va_cnB 0 hts gX10_init_X1_init_n46 rfl rfl rfl (hN.1 (RX10, 46, yX1_init, "HeaderLine") (by decide +kernel)) (hts (.initialized RX1) (by decide +kernel)) (by decide +kernel) ⟨Nat.le_of_ble_eq_true rfl, Nat.le_of_ble_eq_true rfl⟩, rfl, hts (.instanceMethod yX1_init) (by decide +kernel)⟩ (xp_S hP hK hN hS hb0) rfl rfl hl.1 rfl (lv_room (Nat.le_of_ble_eq_true rfl)) dX10_init_86 ⟨Nat.le_of_ble_eq_true rfl, Nat.le_of_ble_eq_true rfl⟩) hS (fun H locs hP hS => ?_)
  refine W.cs (cells' := 170) (slots' := 938) rfl rfl ?_
  refine xr_wR hx hb hK hP hS hF 3 1 rfl (by decide) rfl rfl dX10_init_89 (fun M69 H locs hF hP hS => ?_)
  refine lv_iinc (v := 7) (lv' := [(2, .int 7), (0, .ref a0), (1, .int a1)]) hx hb dX10_init_90 hl (k := 0) rfl (by decide) (by decide) rfl (fun ls hl => ?_)
  refine lv_goto (tgt := 58) hx hb dX10_init_93 (by decide) ?_
  refine lv_iload_n hx hb dX10_init_58 rfl (lv_at hl 0 rfl) ?_
  refine lv_bipush (v := 8) hx hb dX10_init_59 (by decide) ?_
  refine lv_icmp_ge (tgt := 96) hx hb dX10_init_61 (by decide) (fun hc => ?_) (fun hc => ?_)
  · exact absurd hc (by decide)
  refine lv_aload_n hx hb dX10_init_64 rfl (lv_at hl 1 rfl) ?_
  refine xr_getR hx hb hts iw_X10_init_10 hown hK hP hF 10 3 rfl (by decide) (by decide +kernel) ⟨rfl, rfl, rfl⟩ dX10_init_65 (fun v70 hF => ?_)
  refine lv_iload_n hx hb dX10_init_68 rfl (lv_at hl 0 rfl) ?_
  refine xr_new hx hb hts iw_X10_init_9 hown hK hP hS hb0 9 rfl tyX9 tyX9_ok df_9 (by decide +kernel) (by decide +kernel) (by decide +kernel) (Nat.le_of_ble_eq_true rfl) (Nat.le_of_ble_eq_true rfl) dX10_init_69 (kd := 10) rfl (fun H hP hS => ?_)
  refine W.cs (cells' := 171) (slots' := 945) rfl rfl ?_
  refine lv_dup hx hb dX10_init_72 rfl ?_
  obtain ⟨M72, h71, hF⟩ := ob_some hF
  refine xr_call0 (va_runI (As := []) (rest := [.ref (mS M69), .int 7, .ref v70]) ⟨hx, hb, hml, hown, hts⟩ (ct_X9_init l b0 D cy (nO M69 10) (mS M69) M72 h71) (cwI 0 hts gX10_init_X9_init rfl rfl rfl (hts (.initialized RX9) (by decide +kernel)) (hts (.methodLink RX10 45 yX9_init) (by decide +kernel)) (hts (.instanceMethod yX9_init) (by decide +kernel)) rfl (by decide +kernel) ⟨Nat.le_of_ble_eq_true rfl, Nat.le_of_ble_eq_true rfl⟩) (xp_S hP hK hN hS hb0) rfl rfl hl.1 rfl (lv_room (Nat.le_of_ble_eq_true rfl)) dX10_init_73 ⟨Nat.le_of_ble_eq_true rfl, Nat.le_of_ble_eq_true rfl⟩) hS (fun H locs hP hS => ?_)
  refine W.cs (cells' := 189) (slots' := 1041) rfl rfl ?_
  refine xr_wR hx hb hK hP hS hF 7 9 rfl (by decide) rfl rfl dX10_init_76 (fun M73 H locs hF hP hS => ?_)
  refine lv_aload_n hx hb dX10_init_77 rfl (lv_at hl 1 rfl) ?_
  refine xr_getR hx hb hts iw_X10_init_10 hown hK hP hF 10 4 rfl (by decide) (by decide +kernel) ⟨rfl, rfl, rfl⟩ dX10_init_78 (fun v74 hF => ?_)
  refine lv_iload_n hx hb dX10_init_81 rfl (lv_at hl 0 rfl) ?_
  refine xr_new hx hb hts iw_X10_init_1 hown hK hP hS hb0 1 rfl tyX1 tyX1_ok df_1 (by decide +kernel) (by decide +kernel) (by decide +kernel) (Nat.le_of_ble_eq_true rfl) (Nat.le_of_ble_eq_true rfl) dX10_init_82 (kd := 2) rfl (fun H hP hS => ?_)
  refine W.cs (cells' := 190) (slots' := 1045) rfl rfl ?_
  refine lv_dup hx hb dX10_init_85 rfl ?_
  obtain ⟨M76, h75, hF⟩ := ob_some hF
  refine xr_call0 (va_runIN (As := []) (rest := [.ref (mS M73), .int 7, .ref v74]) ⟨hx, hb, hml, hown, hts⟩ (ct_X1_init l b0 D cy (nO M73 2) (mS M73) M76 h75) ⟨va_cnB 0 hts gX10_init_X1_init_n46 rfl rfl rfl (hN.1 (RX10, 46, yX1_init, "HeaderLine") (by decide +kernel)) (hts (.initialized RX1) (by decide +kernel)) (by decide +kernel) ⟨Nat.le_of_ble_eq_true rfl, Nat.le_of_ble_eq_true rfl⟩, rfl, hts (.instanceMethod yX1_init) (by decide +kernel)⟩ (xp_S hP hK hN hS hb0) rfl rfl hl.1 rfl (lv_room (Nat.le_of_ble_eq_true rfl)) dX10_init_86 ⟨Nat.le_of_ble_eq_true rfl, Nat.le_of_ble_eq_true rfl⟩) hS (fun H locs hP hS => ?_)
  refine W.cs (cells' := 193) (slots' := 1063) rfl rfl ?_
  refine xr_wR hx hb hK hP hS hF 3 1 rfl (by decide) rfl rfl dX10_init_89 (fun M77 H locs hF hP hS => ?_)
  refine lv_iinc (v := 8) (lv' := [(2, .int 8), (0, .ref a0), (1, .int a1)]) hx hb dX10_init_90 hl (k := 0) rfl (by decide) (by decide) rfl (fun ls hl => ?_)
  refine lv_goto (tgt := 58) hx hb dX10_init_93 (by decide) ?_
  refine lv_iload_n hx hb dX10_init_58 rfl (lv_at hl 0 rfl) ?_
  refine lv_bipush (v := 8) hx hb dX10_init_59 (by decide) ?_
  refine lv_icmp_ge (tgt := 96) hx hb dX10_init_61 (by decide) (fun hc => ?_) (fun hc => ?_)
  rotate_left
  · exact absurd hc (by decide)
  refine lv_aload_n hx hb dX10_init_96 rfl (lv_at hl 1 rfl) ?_
  refine lv_sipush (v := 200) hx hb dX10_init_97 (by decide) ?_
  refine xr_newQ hx hb hts hown hK hP hS hb0 hF 5 rfl (by decide) (by decide +kernel) hN.2.2.2.2.1 (by decide) (Nat.le_of_ble_eq_true rfl) (Nat.le_of_ble_eq_true rfl) dX10_init_100 (fun M78 H hF hP hS => ?_)
  refine W.cs (cells' := 194) (slots' := 1263) rfl rfl ?_
  refine xr_putR hx hb hts iw_X10_init_10 hown hK hP hS (v := (some (mS M77))) hF 10 5 rfl (by decide) tyX10 tyX10_ok nmX10 (by decide +kernel) (Or.inr ⟨rfl, hnm, rfl⟩) (Or.inr ⟨_, rfl⟩) ⟨rfl, rfl, rfl⟩ dX10_init_103 (fun M79 H locs hF hP hS => ?_)
  refine lv_aload_n hx hb dX10_init_106 rfl (lv_at hl 1 rfl) ?_
  refine lv_bipush (v := 8) hx hb dX10_init_107 (by decide) ?_
  refine xr_newQ hx hb hts hown hK hP hS hb0 hF 6 rfl (by decide) (by decide +kernel) hN.2.2.2.2.2.1 (by decide) (Nat.le_of_ble_eq_true rfl) (Nat.le_of_ble_eq_true rfl) dX10_init_109 (fun M80 H hF hP hS => ?_)
  refine W.cs (cells' := 195) (slots' := 1271) rfl rfl ?_
  refine xr_putR hx hb hts iw_X10_init_10 hown hK hP hS (v := (some (mS M79))) hF 10 6 rfl (by decide) tyX10 tyX10_ok nmX10 (by decide +kernel) (Or.inr ⟨rfl, hnm, rfl⟩) (Or.inr ⟨_, rfl⟩) ⟨rfl, rfl, rfl⟩ dX10_init_112 (fun M81 H locs hF hP hS => ?_)
  refine lv_iconst (v := 0) hx hb dX10_init_115 (by decide) ?_
  refine lv_istore_n (lv' := [(2, .int 0), (0, .ref a0), (1, .int a1)]) hx hb dX10_init_116 rfl hl (by decide) (by first | rfl | simp [cat_rf]) (fun ls hl => ?_)
  refine lv_iload_n hx hb dX10_init_117 rfl (lv_at hl 0 rfl) ?_
  refine lv_bipush (v := 8) hx hb dX10_init_118 (by decide) ?_
  refine lv_icmp_ge (tgt := 142) hx hb dX10_init_120 (by decide) (fun hc => ?_) (fun hc => ?_)
  · exact absurd hc (by decide)
  refine lv_aload_n hx hb dX10_init_123 rfl (lv_at hl 1 rfl) ?_
  refine xr_getR hx hb hts iw_X10_init_10 hown hK hP hF 10 6 rfl (by decide) (by decide +kernel) ⟨rfl, rfl, rfl⟩ dX10_init_124 (fun v82 hF => ?_)
  refine lv_iload_n hx hb dX10_init_127 rfl (lv_at hl 0 rfl) ?_
  refine xr_new hx hb hts iw_X10_init_8 hown hK hP hS hb0 8 rfl tyX8 tyX8_ok df_8 (by decide +kernel) (by decide +kernel) (by decide +kernel) (Nat.le_of_ble_eq_true rfl) (Nat.le_of_ble_eq_true rfl) dX10_init_128 (kd := 9) rfl (fun H hP hS => ?_)
  refine W.cs (cells' := 196) (slots' := 1276) rfl rfl ?_
  refine lv_dup hx hb dX10_init_131 rfl ?_
  obtain ⟨M84, h83, hF⟩ := ob_some hF
  refine xr_call0 (va_runIN (As := []) (rest := [.ref (mS M81), .int 0, .ref v82]) ⟨hx, hb, hml, hown, hts⟩ (ct_X8_init l b0 D cy (nO M81 9) (mS M81) M84 h83) ⟨va_cnB 0 hts gX10_init_X8_init_n59 rfl rfl rfl (hN.1 (RX10, 59, yX8_init, "HeaderLine") (by decide +kernel)) (hts (.initialized RX8) (by decide +kernel)) (by decide +kernel) ⟨Nat.le_of_ble_eq_true rfl, Nat.le_of_ble_eq_true rfl⟩, rfl, hts (.instanceMethod yX8_init) (by decide +kernel)⟩ (xp_S hP hK hN hS hb0) rfl rfl hl.1 rfl (lv_room (Nat.le_of_ble_eq_true rfl)) dX10_init_132 ⟨Nat.le_of_ble_eq_true rfl, Nat.le_of_ble_eq_true rfl⟩) hS (fun H locs hP hS => ?_)
  refine W.cs (cells' := 197) (slots' := 1336) rfl rfl ?_
  refine xr_wR hx hb hK hP hS hF 6 8 rfl (by decide) rfl rfl dX10_init_135 (fun M85 H locs hF hP hS => ?_)
  refine lv_iinc (v := 1) (lv' := [(2, .int 1), (0, .ref a0), (1, .int a1)]) hx hb dX10_init_136 hl (k := 0) rfl (by decide) (by decide) rfl (fun ls hl => ?_)
  refine lv_goto (tgt := 117) hx hb dX10_init_139 (by decide) ?_
  refine lv_iload_n hx hb dX10_init_117 rfl (lv_at hl 0 rfl) ?_
  refine lv_bipush (v := 8) hx hb dX10_init_118 (by decide) ?_
  refine lv_icmp_ge (tgt := 142) hx hb dX10_init_120 (by decide) (fun hc => ?_) (fun hc => ?_)
  · exact absurd hc (by decide)
  refine lv_aload_n hx hb dX10_init_123 rfl (lv_at hl 1 rfl) ?_
  refine xr_getR hx hb hts iw_X10_init_10 hown hK hP hF 10 6 rfl (by decide) (by decide +kernel) ⟨rfl, rfl, rfl⟩ dX10_init_124 (fun v86 hF => ?_)
  refine lv_iload_n hx hb dX10_init_127 rfl (lv_at hl 0 rfl) ?_
  refine xr_new hx hb hts iw_X10_init_8 hown hK hP hS hb0 8 rfl tyX8 tyX8_ok df_8 (by decide +kernel) (by decide +kernel) (by decide +kernel) (Nat.le_of_ble_eq_true rfl) (Nat.le_of_ble_eq_true rfl) dX10_init_128 (kd := 9) rfl (fun H hP hS => ?_)
  refine W.cs (cells' := 198) (slots' := 1341) rfl rfl ?_
  refine lv_dup hx hb dX10_init_131 rfl ?_
  obtain ⟨M88, h87, hF⟩ := ob_some hF
  refine xr_call0 (va_runIN (As := []) (rest := [.ref (mS M85), .int 1, .ref v86]) ⟨hx, hb, hml, hown, hts⟩ (ct_X8_init l b0 D cy (nO M85 9) (mS M85) M88 h87) ⟨va_cnB 0 hts gX10_init_X8_init_n59 rfl rfl rfl (hN.1 (RX10, 59, yX8_init, "HeaderLine") (by decide +kernel)) (hts (.initialized RX8) (by decide +kernel)) (by decide +kernel) ⟨Nat.le_of_ble_eq_true rfl, Nat.le_of_ble_eq_true rfl⟩, rfl, hts (.instanceMethod yX8_init) (by decide +kernel)⟩ (xp_S hP hK hN hS hb0) rfl rfl hl.1 rfl (lv_room (Nat.le_of_ble_eq_true rfl)) dX10_init_132 ⟨Nat.le_of_ble_eq_true rfl, Nat.le_of_ble_eq_true rfl⟩) hS (fun H locs hP hS => ?_)
  refine W.cs (cells' := 199) (slots' := 1401) rfl rfl ?_
  refine xr_wR hx hb hK hP hS hF 6 8 rfl (by decide) rfl rfl dX10_init_135 (fun M89 H locs hF hP hS => ?_)
  refine lv_iinc (v := 2) (lv' := [(2, .int 2), (0, .ref a0), (1, .int a1)]) hx hb dX10_init_136 hl (k := 0) rfl (by decide) (by decide) rfl (fun ls hl => ?_)
  refine lv_goto (tgt := 117) hx hb dX10_init_139 (by decide) ?_
  refine lv_iload_n hx hb dX10_init_117 rfl (lv_at hl 0 rfl) ?_
  refine lv_bipush (v := 8) hx hb dX10_init_118 (by decide) ?_
  refine lv_icmp_ge (tgt := 142) hx hb dX10_init_120 (by decide) (fun hc => ?_) (fun hc => ?_)
  · exact absurd hc (by decide)
  refine lv_aload_n hx hb dX10_init_123 rfl (lv_at hl 1 rfl) ?_
  refine xr_getR hx hb hts iw_X10_init_10 hown hK hP hF 10 6 rfl (by decide) (by decide +kernel) ⟨rfl, rfl, rfl⟩ dX10_init_124 (fun v90 hF => ?_)
  refine lv_iload_n hx hb dX10_init_127 rfl (lv_at hl 0 rfl) ?_
  refine xr_new hx hb hts iw_X10_init_8 hown hK hP hS hb0 8 rfl tyX8 tyX8_ok df_8 (by decide +kernel) (by decide +kernel) (by decide +kernel) (Nat.le_of_ble_eq_true rfl) (Nat.le_of_ble_eq_true rfl) dX10_init_128 (kd := 9) rfl (fun H hP hS => ?_)
  refine W.cs (cells' := 200) (slots' := 1406) rfl rfl ?_
  refine lv_dup hx hb dX10_init_131 rfl ?_
  obtain ⟨M92, h91, hF⟩ := ob_some hF
  refine xr_call0 (va_runIN (As := []) (rest := [.ref (mS M89), .int 2, .ref v90]) ⟨hx, hb, hml, hown, hts⟩ (ct_X8_init l b0 D cy (nO M89 9) (mS M89) M92 h91) ⟨va_cnB 0 hts gX10_init_X8_init_n59 rfl rfl rfl (hN.1 (RX10, 59, yX8_init, "HeaderLine") (by decide +kernel)) (hts (.initialized RX8) (by decide +kernel)) (by decide +kernel) ⟨Nat.le_of_ble_eq_true rfl, Nat.le_of_ble_eq_true rfl⟩, rfl, hts (.instanceMethod yX8_init) (by decide +kernel)⟩ (xp_S hP hK hN hS hb0) rfl rfl hl.1 rfl (lv_room (Nat.le_of_ble_eq_true rfl)) dX10_init_132 ⟨Nat.le_of_ble_eq_true rfl, Nat.le_of_ble_eq_true rfl⟩) hS (fun H locs hP hS => ?_)
  refine W.cs (cells' := 201) (slots' := 1466) rfl rfl ?_
  refine xr_wR hx hb hK hP hS hF 6 8 rfl (by decide) rfl rfl dX10_init_135 (fun M93 H locs hF hP hS => ?_)
  refine lv_iinc (v := 3) (lv' := [(2, .int 3), (0, .ref a0), (1, .int a1)]) hx hb dX10_init_136 hl (k := 0) rfl (by decide) (by decide) rfl (fun ls hl => ?_)
  refine lv_goto (tgt := 117) hx hb dX10_init_139 (by decide) ?_
  refine lv_iload_n hx hb dX10_init_117 rfl (lv_at hl 0 rfl) ?_
  refine lv_bipush (v := 8) hx hb dX10_init_118 (by decide) ?_
  refine lv_icmp_ge (tgt := 142) hx hb dX10_init_120 (by decide) (fun hc => ?_) (fun hc => ?_)
  · exact absurd hc (by decide)
  refine lv_aload_n hx hb dX10_init_123 rfl (lv_at hl 1 rfl) ?_
  refine xr_getR hx hb hts iw_X10_init_10 hown hK hP hF 10 6 rfl (by decide) (by decide +kernel) ⟨rfl, rfl, rfl⟩ dX10_init_124 (fun v94 hF => ?_)
  refine lv_iload_n hx hb dX10_init_127 rfl (lv_at hl 0 rfl) ?_
  refine xr_new hx hb hts iw_X10_init_8 hown hK hP hS hb0 8 rfl tyX8 tyX8_ok df_8 (by decide +kernel) (by decide +kernel) (by decide +kernel) (Nat.le_of_ble_eq_true rfl) (Nat.le_of_ble_eq_true rfl) dX10_init_128 (kd := 9) rfl (fun H hP hS => ?_)
  refine W.cs (cells' := 202) (slots' := 1471) rfl rfl ?_
  refine lv_dup hx hb dX10_init_131 rfl ?_
  obtain ⟨M96, h95, hF⟩ := ob_some hF
  refine xr_call0 (va_runIN (As := []) (rest := [.ref (mS M93), .int 3, .ref v94]) ⟨hx, hb, hml, hown, hts⟩ (ct_X8_init l b0 D cy (nO M93 9) (mS M93) M96 h95) ⟨va_cnB 0 hts gX10_init_X8_init_n59 rfl rfl rfl (hN.1 (RX10, 59, yX8_init, "HeaderLine") (by decide +kernel)) (hts (.initialized RX8) (by decide +kernel)) (by decide +kernel) ⟨Nat.le_of_ble_eq_true rfl, Nat.le_of_ble_eq_true rfl⟩, rfl, hts (.instanceMethod yX8_init) (by decide +kernel)⟩ (xp_S hP hK hN hS hb0) rfl rfl hl.1 rfl (lv_room (Nat.le_of_ble_eq_true rfl)) dX10_init_132 ⟨Nat.le_of_ble_eq_true rfl, Nat.le_of_ble_eq_true rfl⟩) hS (fun H locs hP hS => ?_)
  refine W.cs (cells' := 203) (slots' := 1531) rfl rfl ?_
  refine xr_wR hx hb hK hP hS hF 6 8 rfl (by decide) rfl rfl dX10_init_135 (fun M97 H locs hF hP hS => ?_)
  refine lv_iinc (v := 4) (lv' := [(2, .int 4), (0, .ref a0), (1, .int a1)]) hx hb dX10_init_136 hl (k := 0) rfl (by decide) (by decide) rfl (fun ls hl => ?_)
  refine lv_goto (tgt := 117) hx hb dX10_init_139 (by decide) ?_
  refine lv_iload_n hx hb dX10_init_117 rfl (lv_at hl 0 rfl) ?_
  refine lv_bipush (v := 8) hx hb dX10_init_118 (by decide) ?_
  refine lv_icmp_ge (tgt := 142) hx hb dX10_init_120 (by decide) (fun hc => ?_) (fun hc => ?_)
  · exact absurd hc (by decide)
  refine lv_aload_n hx hb dX10_init_123 rfl (lv_at hl 1 rfl) ?_
  refine xr_getR hx hb hts iw_X10_init_10 hown hK hP hF 10 6 rfl (by decide) (by decide +kernel) ⟨rfl, rfl, rfl⟩ dX10_init_124 (fun v98 hF => ?_)
  refine lv_iload_n hx hb dX10_init_127 rfl (lv_at hl 0 rfl) ?_
  refine xr_new hx hb hts iw_X10_init_8 hown hK hP hS hb0 8 rfl tyX8 tyX8_ok df_8 (by decide +kernel) (by decide +kernel) (by decide +kernel) (Nat.le_of_ble_eq_true rfl) (Nat.le_of_ble_eq_true rfl) dX10_init_128 (kd := 9) rfl (fun H hP hS => ?_)
  refine W.cs (cells' := 204) (slots' := 1536) rfl rfl ?_
  refine lv_dup hx hb dX10_init_131 rfl ?_
  obtain ⟨M100, h99, hF⟩ := ob_some hF
  refine xr_call0 (va_runIN (As := []) (rest := [.ref (mS M97), .int 4, .ref v98]) ⟨hx, hb, hml, hown, hts⟩ (ct_X8_init l b0 D cy (nO M97 9) (mS M97) M100 h99) ⟨va_cnB 0 hts gX10_init_X8_init_n59 rfl rfl rfl (hN.1 (RX10, 59, yX8_init, "HeaderLine") (by decide +kernel)) (hts (.initialized RX8) (by decide +kernel)) (by decide +kernel) ⟨Nat.le_of_ble_eq_true rfl, Nat.le_of_ble_eq_true rfl⟩, rfl, hts (.instanceMethod yX8_init) (by decide +kernel)⟩ (xp_S hP hK hN hS hb0) rfl rfl hl.1 rfl (lv_room (Nat.le_of_ble_eq_true rfl)) dX10_init_132 ⟨Nat.le_of_ble_eq_true rfl, Nat.le_of_ble_eq_true rfl⟩) hS (fun H locs hP hS => ?_)
  refine W.cs (cells' := 205) (slots' := 1596) rfl rfl ?_
  refine xr_wR hx hb hK hP hS hF 6 8 rfl (by decide) rfl rfl dX10_init_135 (fun M101 H locs hF hP hS => ?_)
  refine lv_iinc (v := 5) (lv' := [(2, .int 5), (0, .ref a0), (1, .int a1)]) hx hb dX10_init_136 hl (k := 0) rfl (by decide) (by decide) rfl (fun ls hl => ?_)
  refine lv_goto (tgt := 117) hx hb dX10_init_139 (by decide) ?_
  refine lv_iload_n hx hb dX10_init_117 rfl (lv_at hl 0 rfl) ?_
  refine lv_bipush (v := 8) hx hb dX10_init_118 (by decide) ?_
  refine lv_icmp_ge (tgt := 142) hx hb dX10_init_120 (by decide) (fun hc => ?_) (fun hc => ?_)
  · exact absurd hc (by decide)
  refine lv_aload_n hx hb dX10_init_123 rfl (lv_at hl 1 rfl) ?_
  refine xr_getR hx hb hts iw_X10_init_10 hown hK hP hF 10 6 rfl (by decide) (by decide +kernel) ⟨rfl, rfl, rfl⟩ dX10_init_124 (fun v102 hF => ?_)
  refine lv_iload_n hx hb dX10_init_127 rfl (lv_at hl 0 rfl) ?_
  refine xr_new hx hb hts iw_X10_init_8 hown hK hP hS hb0 8 rfl tyX8 tyX8_ok df_8 (by decide +kernel) (by decide +kernel) (by decide +kernel) (Nat.le_of_ble_eq_true rfl) (Nat.le_of_ble_eq_true rfl) dX10_init_128 (kd := 9) rfl (fun H hP hS => ?_)
  refine W.cs (cells' := 206) (slots' := 1601) rfl rfl ?_
  refine lv_dup hx hb dX10_init_131 rfl ?_
  obtain ⟨M104, h103, hF⟩ := ob_some hF
  refine xr_call0 (va_runIN (As := []) (rest := [.ref (mS M101), .int 5, .ref v102]) ⟨hx, hb, hml, hown, hts⟩ (ct_X8_init l b0 D cy (nO M101 9) (mS M101) M104 h103) ⟨va_cnB 0 hts gX10_init_X8_init_n59 rfl rfl rfl (hN.1 (RX10, 59, yX8_init, "HeaderLine") (by decide +kernel)) (hts (.initialized RX8) (by decide +kernel)) (by decide +kernel) ⟨Nat.le_of_ble_eq_true rfl, Nat.le_of_ble_eq_true rfl⟩, rfl, hts (.instanceMethod yX8_init) (by decide +kernel)⟩ (xp_S hP hK hN hS hb0) rfl rfl hl.1 rfl (lv_room (Nat.le_of_ble_eq_true rfl)) dX10_init_132 ⟨Nat.le_of_ble_eq_true rfl, Nat.le_of_ble_eq_true rfl⟩) hS (fun H locs hP hS => ?_)
  refine W.cs (cells' := 207) (slots' := 1661) rfl rfl ?_
  refine xr_wR hx hb hK hP hS hF 6 8 rfl (by decide) rfl rfl dX10_init_135 (fun M105 H locs hF hP hS => ?_)
  refine lv_iinc (v := 6) (lv' := [(2, .int 6), (0, .ref a0), (1, .int a1)]) hx hb dX10_init_136 hl (k := 0) rfl (by decide) (by decide) rfl (fun ls hl => ?_)
  refine lv_goto (tgt := 117) hx hb dX10_init_139 (by decide) ?_
  refine lv_iload_n hx hb dX10_init_117 rfl (lv_at hl 0 rfl) ?_
  refine lv_bipush (v := 8) hx hb dX10_init_118 (by decide) ?_
  refine lv_icmp_ge (tgt := 142) hx hb dX10_init_120 (by decide) (fun hc => ?_) (fun hc => ?_)
  · exact absurd hc (by decide)
  refine lv_aload_n hx hb dX10_init_123 rfl (lv_at hl 1 rfl) ?_
  refine xr_getR hx hb hts iw_X10_init_10 hown hK hP hF 10 6 rfl (by decide) (by decide +kernel) ⟨rfl, rfl, rfl⟩ dX10_init_124 (fun v106 hF => ?_)
  refine lv_iload_n hx hb dX10_init_127 rfl (lv_at hl 0 rfl) ?_
  refine xr_new hx hb hts iw_X10_init_8 hown hK hP hS hb0 8 rfl tyX8 tyX8_ok df_8 (by decide +kernel) (by decide +kernel) (by decide +kernel) (Nat.le_of_ble_eq_true rfl) (Nat.le_of_ble_eq_true rfl) dX10_init_128 (kd := 9) rfl (fun H hP hS => ?_)
  refine W.cs (cells' := 208) (slots' := 1666) rfl rfl ?_
  refine lv_dup hx hb dX10_init_131 rfl ?_
  obtain ⟨M108, h107, hF⟩ := ob_some hF
  refine xr_call0 (va_runIN (As := []) (rest := [.ref (mS M105), .int 6, .ref v106]) ⟨hx, hb, hml, hown, hts⟩ (ct_X8_init l b0 D cy (nO M105 9) (mS M105) M108 h107) ⟨va_cnB 0 hts gX10_init_X8_init_n59 rfl rfl rfl (hN.1 (RX10, 59, yX8_init, "HeaderLine") (by decide +kernel)) (hts (.initialized RX8) (by decide +kernel)) (by decide +kernel) ⟨Nat.le_of_ble_eq_true rfl, Nat.le_of_ble_eq_true rfl⟩, rfl, hts (.instanceMethod yX8_init) (by decide +kernel)⟩ (xp_S hP hK hN hS hb0) rfl rfl hl.1 rfl (lv_room (Nat.le_of_ble_eq_true rfl)) dX10_init_132 ⟨Nat.le_of_ble_eq_true rfl, Nat.le_of_ble_eq_true rfl⟩) hS (fun H locs hP hS => ?_)
  refine W.cs (cells' := 209) (slots' := 1726) rfl rfl ?_
  refine xr_wR hx hb hK hP hS hF 6 8 rfl (by decide) rfl rfl dX10_init_135 (fun M109 H locs hF hP hS => ?_)
  refine lv_iinc (v := 7) (lv' := [(2, .int 7), (0, .ref a0), (1, .int a1)]) hx hb dX10_init_136 hl (k := 0) rfl (by decide) (by decide) rfl (fun ls hl => ?_)
  refine lv_goto (tgt := 117) hx hb dX10_init_139 (by decide) ?_
  refine lv_iload_n hx hb dX10_init_117 rfl (lv_at hl 0 rfl) ?_
  refine lv_bipush (v := 8) hx hb dX10_init_118 (by decide) ?_
  refine lv_icmp_ge (tgt := 142) hx hb dX10_init_120 (by decide) (fun hc => ?_) (fun hc => ?_)
  · exact absurd hc (by decide)
  refine lv_aload_n hx hb dX10_init_123 rfl (lv_at hl 1 rfl) ?_
  refine xr_getR hx hb hts iw_X10_init_10 hown hK hP hF 10 6 rfl (by decide) (by decide +kernel) ⟨rfl, rfl, rfl⟩ dX10_init_124 (fun v110 hF => ?_)
  refine lv_iload_n hx hb dX10_init_127 rfl (lv_at hl 0 rfl) ?_
  refine xr_new hx hb hts iw_X10_init_8 hown hK hP hS hb0 8 rfl tyX8 tyX8_ok df_8 (by decide +kernel) (by decide +kernel) (by decide +kernel) (Nat.le_of_ble_eq_true rfl) (Nat.le_of_ble_eq_true rfl) dX10_init_128 (kd := 9) rfl (fun H hP hS => ?_)
  refine W.cs (cells' := 210) (slots' := 1731) rfl rfl ?_
  refine lv_dup hx hb dX10_init_131 rfl ?_
  obtain ⟨M112, h111, hF⟩ := ob_some hF
  refine xr_call0 (va_runIN (As := []) (rest := [.ref (mS M109), .int 7, .ref v110]) ⟨hx, hb, hml, hown, hts⟩ (ct_X8_init l b0 D cy (nO M109 9) (mS M109) M112 h111) ⟨va_cnB 0 hts gX10_init_X8_init_n59 rfl rfl rfl (hN.1 (RX10, 59, yX8_init, "HeaderLine") (by decide +kernel)) (hts (.initialized RX8) (by decide +kernel)) (by decide +kernel) ⟨Nat.le_of_ble_eq_true rfl, Nat.le_of_ble_eq_true rfl⟩, rfl, hts (.instanceMethod yX8_init) (by decide +kernel)⟩ (xp_S hP hK hN hS hb0) rfl rfl hl.1 rfl (lv_room (Nat.le_of_ble_eq_true rfl)) dX10_init_132 ⟨Nat.le_of_ble_eq_true rfl, Nat.le_of_ble_eq_true rfl⟩) hS (fun H locs hP hS => ?_)
  refine W.cs (cells' := 211) (slots' := 1791) rfl rfl ?_
  refine xr_wR hx hb hK hP hS hF 6 8 rfl (by decide) rfl rfl dX10_init_135 (fun M113 H locs hF hP hS => ?_)
  refine lv_iinc (v := 8) (lv' := [(2, .int 8), (0, .ref a0), (1, .int a1)]) hx hb dX10_init_136 hl (k := 0) rfl (by decide) (by decide) rfl (fun ls hl => ?_)
  refine lv_goto (tgt := 117) hx hb dX10_init_139 (by decide) ?_
  refine lv_iload_n hx hb dX10_init_117 rfl (lv_at hl 0 rfl) ?_
  refine lv_bipush (v := 8) hx hb dX10_init_118 (by decide) ?_
  refine lv_icmp_ge (tgt := 142) hx hb dX10_init_120 (by decide) (fun hc => ?_) (fun hc => ?_)
  rotate_left
  · exact absurd hc (by decide)
  refine lv_aload_n hx hb dX10_init_142 rfl (lv_at hl 1 rfl) ?_
  refine xr_new hx hb hts iw_X10_init_5 hown hK hP hS hb0 5 rfl tyX5 tyX5_ok df_5 (by decide +kernel) (by decide +kernel) (by decide +kernel) (Nat.le_of_ble_eq_true rfl) (Nat.le_of_ble_eq_true rfl) dX10_init_143 (kd := 6) rfl (fun H hP hS => ?_)
  refine W.cs (cells' := 212) (slots' := 1793) rfl rfl ?_
  refine lv_dup hx hb dX10_init_146 rfl ?_
  obtain ⟨M115, h114, hF⟩ := ob_some hF
  refine xr_call0 (va_runIN (As := []) (rest := [.ref (mS M113), .ref a0]) ⟨hx, hb, hml, hown, hts⟩ (ct_X5_init l b0 D cy (nO M113 6) (mS M113) M115 h114) ⟨va_cnB 0 hts gX10_init_X5_init_n62 rfl rfl rfl (hN.1 (RX10, 62, yX5_init, "HeaderLine") (by decide +kernel)) (hts (.initialized RX5) (by decide +kernel)) (by decide +kernel) ⟨Nat.le_of_ble_eq_true rfl, Nat.le_of_ble_eq_true rfl⟩, rfl, hts (.instanceMethod yX5_init) (by decide +kernel)⟩ (xp_S hP hK hN hS hb0) rfl rfl hl.1 rfl (lv_room (Nat.le_of_ble_eq_true rfl)) dX10_init_147 ⟨Nat.le_of_ble_eq_true rfl, Nat.le_of_ble_eq_true rfl⟩) hS (fun H locs hP hS => ?_)
  refine W.cs (cells' := 213) (slots' := 1853) rfl rfl ?_
  refine xr_putR hx hb hts iw_X10_init_10 hown hK hP hS (v := (some (mS M113))) hF 10 7 rfl (by decide) tyX10 tyX10_ok nmX10 (by decide +kernel) (Or.inr ⟨rfl, hnm, rfl⟩) (Or.inl ⟨_, rfl⟩) ⟨rfl, rfl, rfl⟩ dX10_init_150 (fun M116 H locs hF hP hS => ?_)
  refine lv_aload_n hx hb dX10_init_153 rfl (lv_at hl 1 rfl) ?_
  refine xr_new hx hb hts iw_X10_init_0 hown hK hP hS hb0 0 rfl tyX0 tyX0_ok df_0 (by decide +kernel) (by decide +kernel) (by decide +kernel) (Nat.le_of_ble_eq_true rfl) (Nat.le_of_ble_eq_true rfl) dX10_init_154 (kd := 1) rfl (fun H hP hS => ?_)
  refine W.cs (cells' := 214) (slots' := 1865) rfl rfl ?_
  refine lv_dup hx hb dX10_init_157 rfl ?_
  obtain ⟨M118, h117, hF⟩ := ob_some hF
  refine xr_call0 (va_runIN (As := []) (rest := [.ref (mS M116), .ref a0]) ⟨hx, hb, hml, hown, hts⟩ (ct_X0_init l b0 D cy (nO M116 1) (mS M116) M118 h117) ⟨va_cnB 0 hts gX10_init_X0_init_n69 rfl rfl rfl (hN.1 (RX10, 69, yX0_init, "HeaderLine") (by decide +kernel)) (hts (.initialized RX0) (by decide +kernel)) (by decide +kernel) ⟨Nat.le_of_ble_eq_true rfl, Nat.le_of_ble_eq_true rfl⟩, rfl, hts (.instanceMethod yX0_init) (by decide +kernel)⟩ (xp_S hP hK hN hS hb0) rfl rfl hl.1 rfl (lv_room (Nat.le_of_ble_eq_true rfl)) dX10_init_158 ⟨Nat.le_of_ble_eq_true rfl, Nat.le_of_ble_eq_true rfl⟩) hS (fun H locs hP hS => ?_)
  refine W.cs (cells' := 221) (slots' := 1907) rfl rfl ?_
  refine xr_putR hx hb hts iw_X10_init_10 hown hK hP hS (v := (some (mS M116))) hF 10 8 rfl (by decide) tyX10 tyX10_ok nmX10 (by decide +kernel) (Or.inr ⟨rfl, hnm, rfl⟩) (Or.inl ⟨_, rfl⟩) ⟨rfl, rfl, rfl⟩ dX10_init_161 (fun M119 H locs hF hP hS => ?_)
  refine lv_aload_n hx hb dX10_init_164 rfl (lv_at hl 1 rfl) ?_
  refine xr_new hx hb hts iw_X10_init_2 hown hK hP hS hb0 2 rfl tyX2 tyX2_ok df_2 (by decide +kernel) (by decide +kernel) (by decide +kernel) (Nat.le_of_ble_eq_true rfl) (Nat.le_of_ble_eq_true rfl) dX10_init_165 (kd := 3) rfl (fun H hP hS => ?_)
  refine W.cs (cells' := 222) (slots' := 1912) rfl rfl ?_
  refine lv_dup hx hb dX10_init_168 rfl ?_
  obtain ⟨M121, h120, hF⟩ := ob_some hF
  refine xr_call0 (va_runIN (As := []) (rest := [.ref (mS M119), .ref a0]) ⟨hx, hb, hml, hown, hts⟩ (ct_X2_init l b0 D cy (nO M119 3) (mS M119) M121 h120) ⟨va_cnB 0 hts gX10_init_X2_init_n76 rfl rfl rfl (hN.1 (RX10, 76, yX2_init, "HeaderLine") (by decide +kernel)) (hts (.initialized RX2) (by decide +kernel)) (by decide +kernel) ⟨Nat.le_of_ble_eq_true rfl, Nat.le_of_ble_eq_true rfl⟩, rfl, hts (.instanceMethod yX2_init) (by decide +kernel)⟩ (xp_S hP hK hN hS hb0) rfl rfl hl.1 rfl (lv_room (Nat.le_of_ble_eq_true rfl)) dX10_init_169 ⟨Nat.le_of_ble_eq_true rfl, Nat.le_of_ble_eq_true rfl⟩) hS (fun H locs hP hS => ?_)
  refine W.cs (cells' := 225) (slots' := 1930) rfl rfl ?_
  refine xr_putR hx hb hts iw_X10_init_10 hown hK hP hS (v := (some (mS M119))) hF 10 9 rfl (by decide) tyX10 tyX10_ok nmX10 (by decide +kernel) (Or.inr ⟨rfl, hnm, rfl⟩) (Or.inl ⟨_, rfl⟩) ⟨rfl, rfl, rfl⟩ dX10_init_172 (fun M122 H locs hF hP hS => ?_)
  cases hF
  exact W.vret hx hb hr (fun t ht hW => ⟨rfl, by rw [ht]; exact hP, hS.F ht⟩) hS.2.2 dX10_init_175 hlk
/-! X10_field -/
theorem iw_X10_field_6 : ∀ w ∈ u_ws RX6 TX6 5, w ∈ wsX10_field := by decide +kernel
theorem iw_X10_field_10 : ∀ w ∈ u_ws RX10 TX10 12, w ∈ wsX10_field := by decide +kernel
abbrev rm_X10_field : Room := { frames := 2, cells := 0, slots := 0, locals := 45 }
theorem gk_X10_field {M : Mm} {a0 : Nat} {a1 : Int32} {a2 : Int32} {a3 : Int32} {a4 : Int32} {r : (Mm × Int32)} (h : f_X10_field M a0 a1 a2 a3 a4 = some r) : mK M a0 = 11 := by
  unfold f_X10_field at h
  exact (if_some h).1
set_option maxHeartbeats 4000000 in
set_option maxRecDepth 100000 in
theorem ct_X10_field (l : Launch) (b0 : Nat) (D : va_G) (cy : Nat → ClassId) (M : Mm) (a0 : Nat) (a1 : Int32) (a2 : Int32) (a3 : Int32) (a4 : Int32) (M1 : Mm) (r : Int32) (hF : f_X10_field M a0 a1 a2 a3 a4 = some (M1, r)) : Met l yX10_field wsX10_field rm_X10_field (va_Pc [.ref a0, .int a1, .int a2, .int a3, .int a4] (Pm b0 D cy M)) (Qm b0 D cy M1 (some (.int r))) 0 0 (BA b0) := by
  refine ct_of [.ref a0, .int a1, .int a2, .int a3, .int a4] (by decide) rfl ?_
  intro p e s m below meth c CX hP
  obtain ⟨hx, hb, hr, hml, hown0, hts, hlk, hK, hN, hb0, hnm⟩ := id CX
  have hown : s.vm.findClass RX10 = some m.cls := hown0
  have hS : va_S (BA b0) s.heap s.heap [] := va_S.rf
  have hl := lv_entry [.ref a0, .int a1, .int a2, .int a3, .int a4] (n := 5) (Nat.le_of_ble_eq_true rfl)
  generalize (lg_sl [.ref a0, .int a1, .int a2, .int a3, .int a4] ++ List.replicate (5 - (lg_sl [.ref a0, .int a1, .int a2, .int a3, .int a4]).length) Slot.unset).toArray = ls at hl ⊢
  have hl : lv_has ls 5 [(0, .ref a0), (1, .int a1), (2, .int a2), (3, .int a3), (4, .int a4)] := hl
  unfold f_X10_field at hF
  replace hF := (if_some hF).2
  refine lv_aload_n hx hb dX10_field_0 rfl (lv_at hl 0 rfl) ?_
  refine xr_getR hx hb hts iw_X10_field_10 hown hK hP hF 10 1 rfl (by decide) (by decide +kernel) ⟨rfl, rfl, rfl⟩ dX10_field_1 (fun v1 hF => ?_)
  refine lv_iload_n hx hb dX10_field_4 rfl (lv_at hl 1 rfl) ?_
  refine lv_iload_n hx hb dX10_field_5 rfl (lv_at hl 2 rfl) ?_
  refine lv_iload_n hx hb dX10_field_6 rfl (lv_at hl 3 rfl) ?_
  refine lv_iload hx hb dX10_field_7 (lv_at hl 4 rfl) ?_
  obtain ⟨v3, h2, hF⟩ := ob_some hF
  refine xr_call1 (va_runV (As := [.int a1, .int a2, .int a3, .int a4]) (rest := []) ⟨hx, hb, hml, hown, hts⟩ (ct_X6_allows l b0 D cy M v1 a1 a2 a3 a4 v3 h2) (cwV 4 hts gX10_field_X6_allows rfl rfl rfl (by decide +kernel) ⟨Nat.le_of_ble_eq_true rfl, Nat.le_of_ble_eq_true rfl⟩) (xp_V hP hK hN hS hb0 6 rfl (gk_X6_allows h2)) rfl rfl hl.1 rfl (lv_room (Nat.le_of_ble_eq_true rfl)) dX10_field_9 ⟨Nat.le_of_ble_eq_true rfl, Nat.le_of_ble_eq_true rfl⟩) hS (fun H locs hP hS => ?_)
  refine lv_if_ne (tgt := 17) hx hb dX10_field_12 (by decide) (fun c4 => ?_) (fun c4 => ?_)
  · replace hF := it_f hF c4
    refine lv_aload_n hx hb dX10_field_17 rfl (lv_at hl 0 rfl) ?_
    refine xr_getR hx hb hts iw_X10_field_10 hown hK hP hF 10 1 rfl (by decide) (by decide +kernel) ⟨rfl, rfl, rfl⟩ dX10_field_18 (fun v5 hF => ?_)
    refine xr_getI hx hb hts iw_X10_field_6 hown hK hP hF 6 4 rfl (by decide) (by decide +kernel) ⟨rfl, rfl, rfl⟩ dX10_field_21 (fun v6 hF => ?_)
    refine lv_bipush (v := 8) hx hb dX10_field_24 (by decide) ?_
    refine lv_icmp_lt (tgt := 32) hx hb dX10_field_26 (by decide) (fun c7 => ?_) (fun c7 => ?_)
    · replace hF := it_t hF c7
      refine lv_aload_n hx hb dX10_field_32 rfl (lv_at hl 0 rfl) ?_
      refine xr_getI hx hb hts iw_X10_field_10 hown hK hP hF 10 10 rfl (by decide) (by decide +kernel) ⟨rfl, rfl, rfl⟩ dX10_field_33 (fun v8 hF => ?_)
      refine lv_if_le (tgt := 42) hx hb dX10_field_36 (by decide) (fun c9 => ?_) (fun c9 => ?_)
      · replace hF := it_t hF c9
        refine lv_aload_n hx hb dX10_field_42 rfl (lv_at hl 0 rfl) ?_
        refine xr_getR hx hb hts iw_X10_field_10 hown hK hP hF 10 1 rfl (by decide) (by decide +kernel) ⟨rfl, rfl, rfl⟩ dX10_field_43 (fun v10 hF => ?_)
        refine lv_iload_n hx hb dX10_field_46 rfl (lv_at hl 1 rfl) ?_
        refine lv_iload_n hx hb dX10_field_47 rfl (lv_at hl 2 rfl) ?_
        refine lv_iload_n hx hb dX10_field_48 rfl (lv_at hl 3 rfl) ?_
        refine lv_iload hx hb dX10_field_49 (lv_at hl 4 rfl) ?_
        obtain ⟨M12, v13, h11, hF⟩ := ob2_some hF
        refine xr_call1 (va_runV (As := [.int a1, .int a2, .int a3, .int a4]) (rest := []) ⟨hx, hb, hml, hown, hts⟩ (ct_X6_append l b0 D cy M v10 a1 a2 a3 a4 M12 v13 h11) (cwV 4 hts gX10_field_X6_append rfl rfl rfl (by decide +kernel) ⟨Nat.le_of_ble_eq_true rfl, Nat.le_of_ble_eq_true rfl⟩) (xp_V hP hK hN hS hb0 6 rfl (gk_X6_append h11)) rfl rfl hl.1 rfl (lv_room (Nat.le_of_ble_eq_true rfl)) dX10_field_51 ⟨Nat.le_of_ble_eq_true rfl, Nat.le_of_ble_eq_true rfl⟩) hS (fun H locs hP hS => ?_)
        cases hF
        exact W.iret hx hb hr (fun t ht hW => ⟨rfl, by rw [ht]; exact hP, hS.F ht⟩) hS.2.2 dX10_field_54 hlk
      · replace hF := it_f hF c9
        refine lv_bipush (v := (-3)) hx hb dX10_field_39 (by decide) ?_
        cases hF
        exact W.iret hx hb hr (fun t ht hW => ⟨rfl, by rw [ht]; exact hP, hS.F ht⟩) hS.2.2 dX10_field_41 hlk
    · replace hF := it_f hF c7
      refine lv_bipush (v := (-2)) hx hb dX10_field_29 (by decide) ?_
      cases hF
      exact W.iret hx hb hr (fun t ht hW => ⟨rfl, by rw [ht]; exact hP, hS.F ht⟩) hS.2.2 dX10_field_31 hlk
  · replace hF := it_t hF c4
    refine lv_iconst (v := (-1)) hx hb dX10_field_15 (by decide) ?_
    cases hF
    exact W.iret hx hb hr (fun t ht hW => ⟨rfl, by rw [ht]; exact hP, hS.F ht⟩) hS.2.2 dX10_field_16 hlk
/-! X10_set -/
theorem iw_X10_set_3 : ∀ w ∈ u_ws RX3 TX3 2, w ∈ wsX10_set := by decide +kernel
theorem iw_X10_set_10 : ∀ w ∈ u_ws RX10 TX10 12, w ∈ wsX10_set := by decide +kernel
abbrev rm_X10_set : Room := { frames := 2, cells := 0, slots := 0, locals := 45 }
theorem gk_X10_set {M : Mm} {a0 : Nat} {a1 : Int32} {a2 : Int64} {r : (Mm × Int64)} (h : f_X10_set M a0 a1 a2 = some r) : mK M a0 = 11 := by
  unfold f_X10_set at h
  exact (if_some h).1
set_option maxHeartbeats 4000000 in
set_option maxRecDepth 100000 in
theorem ct_X10_set (l : Launch) (b0 : Nat) (D : va_G) (cy : Nat → ClassId) (M : Mm) (a0 : Nat) (a1 : Int32) (a2 : Int64) (M1 : Mm) (r : Int64) (hF : f_X10_set M a0 a1 a2 = some (M1, r)) : Met l yX10_set wsX10_set rm_X10_set (va_Pc [.ref a0, .int a1, .long a2] (Pm b0 D cy M)) (Qm b0 D cy M1 (some (.long r))) 0 0 (BA b0) := by
  refine ct_of [.ref a0, .int a1, .long a2] (by decide) rfl ?_
  intro p e s m below meth c CX hP
  obtain ⟨hx, hb, hr, hml, hown0, hts, hlk, hK, hN, hb0, hnm⟩ := id CX
  have hown : s.vm.findClass RX10 = some m.cls := hown0
  have hS : va_S (BA b0) s.heap s.heap [] := va_S.rf
  have hl := lv_entry [.ref a0, .int a1, .long a2] (n := 6) (Nat.le_of_ble_eq_true rfl)
  generalize (lg_sl [.ref a0, .int a1, .long a2] ++ List.replicate (6 - (lg_sl [.ref a0, .int a1, .long a2]).length) Slot.unset).toArray = ls at hl ⊢
  have hl : lv_has ls 6 [(0, .ref a0), (1, .int a1), (2, .long a2)] := hl
  unfold f_X10_set at hF
  replace hF := (if_some hF).2
  refine lv_aload_n hx hb dX10_set_0 rfl (lv_at hl 0 rfl) ?_
  refine xr_getR hx hb hts iw_X10_set_10 hown hK hP hF 10 1 rfl (by decide) (by decide +kernel) ⟨rfl, rfl, rfl⟩ dX10_set_1 (fun v1 hF => ?_)
  refine lv_iload_n hx hb dX10_set_4 rfl (lv_at hl 1 rfl) ?_
  obtain ⟨v3, h2, hF⟩ := ob_some hF
  refine xr_call1 (va_runV (As := [.int a1]) (rest := []) ⟨hx, hb, hml, hown, hts⟩ (ct_X6_has l b0 D cy M v1 a1 v3 h2) (cwV 1 hts gX10_set_X6_has rfl rfl rfl (by decide +kernel) ⟨Nat.le_of_ble_eq_true rfl, Nat.le_of_ble_eq_true rfl⟩) (xp_V hP hK hN hS hb0 6 rfl (gk_X6_has h2)) rfl rfl hl.1 rfl (lv_room (Nat.le_of_ble_eq_true rfl)) dX10_set_5 ⟨Nat.le_of_ble_eq_true rfl, Nat.le_of_ble_eq_true rfl⟩) hS (fun H locs hP hS => ?_)
  refine lv_if_ne (tgt := 15) hx hb dX10_set_8 (by decide) (fun c4 => ?_) (fun c4 => ?_)
  · replace hF := it_f hF c4
    refine lv_aload_n hx hb dX10_set_15 rfl (lv_at hl 0 rfl) ?_
    refine xr_getR hx hb hts iw_X10_set_10 hown hK hP hF 10 2 rfl (by decide) (by decide +kernel) ⟨rfl, rfl, rfl⟩ dX10_set_16 (fun v5 hF => ?_)
    refine xr_getR hx hb hts iw_X10_set_3 hown hK hP hF 3 0 rfl (by decide) (by decide +kernel) ⟨rfl, rfl, rfl⟩ dX10_set_19 (fun v6 hF => ?_)
    refine lv_iload_n hx hb dX10_set_22 rfl (lv_at hl 1 rfl) ?_
    refine xr_aJ hx hb hK hP hF dX10_set_23 (fun v7 hF => ?_)
    refine lv_lstore (lv' := [(4, .long v7), (0, .ref a0), (1, .int a1), (2, .long a2)]) hx hb dX10_set_24 hl (by decide) (by first | rfl | simp [cat_rf]) (fun ls hl => ?_)
    refine lv_aload_n hx hb dX10_set_26 rfl (lv_at hl 1 rfl) ?_
    refine xr_getR hx hb hts iw_X10_set_10 hown hK hP hF 10 2 rfl (by decide) (by decide +kernel) ⟨rfl, rfl, rfl⟩ dX10_set_27 (fun v8 hF => ?_)
    refine xr_getR hx hb hts iw_X10_set_3 hown hK hP hF 3 0 rfl (by decide) (by decide +kernel) ⟨rfl, rfl, rfl⟩ dX10_set_30 (fun v9 hF => ?_)
    refine lv_iload_n hx hb dX10_set_33 rfl (lv_at hl 2 rfl) ?_
    refine lv_aload_n hx hb dX10_set_34 rfl (lv_at hl 1 rfl) ?_
    refine xr_getR hx hb hts iw_X10_set_10 hown hK hP hF 10 1 rfl (by decide) (by decide +kernel) ⟨rfl, rfl, rfl⟩ dX10_set_35 (fun v10 hF => ?_)
    refine lv_iload_n hx hb dX10_set_38 rfl (lv_at hl 2 rfl) ?_
    refine lv_lload_n hx hb dX10_set_39 rfl (lv_at hl 3 rfl) ?_
    obtain ⟨v12, h11, hF⟩ := ob_some hF
    refine xr_call1 (va_runV (As := [.int a1, .long a2]) (rest := [.int a1, .ref v9]) ⟨hx, hb, hml, hown, hts⟩ (ct_X6_lowBits l b0 D cy M v10 a1 a2 v12 h11) (cwV 2 hts gX10_set_X6_lowBits rfl rfl rfl (by decide +kernel) ⟨Nat.le_of_ble_eq_true rfl, Nat.le_of_ble_eq_true rfl⟩) (xp_V hP hK hN hS hb0 6 rfl (gk_X6_lowBits h11)) rfl rfl hl.1 rfl (lv_room (Nat.le_of_ble_eq_true rfl)) dX10_set_40 ⟨Nat.le_of_ble_eq_true rfl, Nat.le_of_ble_eq_true rfl⟩) hS (fun H locs hP hS => ?_)
    refine xr_wJ hx hb hK hP hS hF dX10_set_43 (fun M13 H locs hF hP hS => ?_)
    refine lv_lload hx hb dX10_set_44 (lv_at hl 0 rfl) ?_
    cases hF
    exact W.lret hx hb hr (fun t ht hW => ⟨rfl, by rw [ht]; exact hP, hS.F ht⟩) hS.2.2 dX10_set_46 hlk
  · replace hF := it_t hF c4
    refine lv_ldc2 (v := (-1)) hx hb hown (hts (.constantLong RX10 99 (-1)) (by decide +kernel)) dX10_set_11 ?_
    cases hF
    exact W.lret hx hb hr (fun t ht hW => ⟨rfl, by rw [ht]; exact hP, hS.F ht⟩) hS.2.2 dX10_set_14 hlk
/-! X10_isFlow -/
abbrev rm_X10_isFlow : Room := { frames := 0, cells := 0, slots := 0, locals := 0 }
set_option maxHeartbeats 4000000 in
set_option maxRecDepth 100000 in
theorem ct_X10_isFlow (l : Launch) (b0 : Nat) (D : va_G) (cy : Nat → ClassId) (M : Mm) (a0 : Int32) (r : Int32) (hF : f_X10_isFlow a0 = some r) : Met l yX10_isFlow wsX10_isFlow rm_X10_isFlow (va_Pc [.int a0] (Pm b0 D cy M)) (Qm b0 D cy M (some (.int r))) 0 0 (BA b0) := by
  refine ct_of [.int a0] (by decide) rfl ?_
  intro p e s m below meth c CX hP
  obtain ⟨hx, hb, hr, hml, hown0, hts, hlk, hK, hN, hb0, hnm⟩ := id CX
  have hown : s.vm.findClass RX10 = some m.cls := hown0
  have hS : va_S (BA b0) s.heap s.heap [] := va_S.rf
  have hl := lv_entry [.int a0] (n := 1) (Nat.le_of_ble_eq_true rfl)
  generalize (lg_sl [.int a0] ++ List.replicate (1 - (lg_sl [.int a0]).length) Slot.unset).toArray = ls at hl ⊢
  have hl : lv_has ls 1 [(0, .int a0)] := hl
  unfold f_X10_isFlow at hF
  refine lv_iload_n hx hb dX10_isFlow_0 rfl (lv_at hl 0 rfl) ?_
  refine lv_if_lt (tgt := 14) hx hb dX10_isFlow_1 (by decide) (fun c1 => ?_) (fun c1 => ?_)
  · replace hF := it_t hF c1
    refine lv_iconst (v := 0) hx hb dX10_isFlow_14 (by decide) ?_
    cases hF
    exact W.zret hx hb hr rfl (fun t ht hW => ⟨rfl, by rw [ht]; exact hP, hS.F ht⟩) hS.2.2 dX10_isFlow_15 hlk
  · replace hF := it_f hF c1
    refine lv_iload_n hx hb dX10_isFlow_4 rfl (lv_at hl 0 rfl) ?_
    refine lv_bipush (v := 8) hx hb dX10_isFlow_5 (by decide) ?_
    refine lv_icmp_ge (tgt := 14) hx hb dX10_isFlow_7 (by decide) (fun c2 => ?_) (fun c2 => ?_)
    · replace hF := it_t hF c2
      refine lv_iconst (v := 0) hx hb dX10_isFlow_14 (by decide) ?_
      cases hF
      exact W.zret hx hb hr rfl (fun t ht hW => ⟨rfl, by rw [ht]; exact hP, hS.F ht⟩) hS.2.2 dX10_isFlow_15 hlk
    · replace hF := it_f hF c2
      refine lv_iconst (v := 1) hx hb dX10_isFlow_10 (by decide) ?_
      refine lv_goto (tgt := 15) hx hb dX10_isFlow_11 (by decide) ?_
      cases hF
      exact W.zret hx hb hr rfl (fun t ht hW => ⟨rfl, by rw [ht]; exact hP, hS.F ht⟩) hS.2.2 dX10_isFlow_15 hlk
/-! X10_stride -/
theorem iw_X10_stride_9 : ∀ w ∈ u_ws RX9 TX9 7, w ∈ wsX10_stride := by decide +kernel
theorem iw_X10_stride_10 : ∀ w ∈ u_ws RX10 TX10 12, w ∈ wsX10_stride := by decide +kernel
abbrev rm_X10_stride : Room := { frames := 2, cells := 0, slots := 0, locals := 42 }
theorem gk_X10_stride {M : Mm} {a0 : Nat} {a1 : Int32} {a2 : Int32} {a3 : Int32} {r : (Mm × Int32)} (h : f_X10_stride M a0 a1 a2 a3 = some r) : mK M a0 = 11 := by
  unfold f_X10_stride at h
  exact (if_some h).1
set_option maxHeartbeats 4000000 in
set_option maxRecDepth 100000 in
theorem ct_X10_stride (l : Launch) (b0 : Nat) (D : va_G) (cy : Nat → ClassId) (M : Mm) (a0 : Nat) (a1 : Int32) (a2 : Int32) (a3 : Int32) (M1 : Mm) (r : Int32) (hF : f_X10_stride M a0 a1 a2 a3 = some (M1, r)) : Met l yX10_stride wsX10_stride rm_X10_stride (va_Pc [.ref a0, .int a1, .int a2, .int a3] (Pm b0 D cy M)) (Qm b0 D cy M1 (some (.int r))) 0 0 (BA b0) := by
  refine ct_of [.ref a0, .int a1, .int a2, .int a3] (by decide) rfl ?_
  intro p e s m below meth c CX hP
  obtain ⟨hx, hb, hr, hml, hown0, hts, hlk, hK, hN, hb0, hnm⟩ := id CX
  have hown : s.vm.findClass RX10 = some m.cls := hown0
  have hS : va_S (BA b0) s.heap s.heap [] := va_S.rf
  have hl := lv_entry [.ref a0, .int a1, .int a2, .int a3] (n := 6) (Nat.le_of_ble_eq_true rfl)
  generalize (lg_sl [.ref a0, .int a1, .int a2, .int a3] ++ List.replicate (6 - (lg_sl [.ref a0, .int a1, .int a2, .int a3]).length) Slot.unset).toArray = ls at hl ⊢
  have hl : lv_has ls 6 [(0, .ref a0), (1, .int a1), (2, .int a2), (3, .int a3)] := hl
  unfold f_X10_stride at hF
  replace hF := (if_some hF).2
  refine lv_iload_n hx hb dX10_stride_0 rfl (lv_at hl 1 rfl) ?_
  obtain ⟨v2, h1, hF⟩ := ob_some hF
  refine xr_call1 (va_runS (As := [.int a1]) (rest := []) ⟨hx, hb, hml, hown, hts⟩ (ct_X10_isFlow l b0 D cy M a1 v2 h1) (va_cwS 1 hts gX10_stride_X10_isFlow rfl rfl rfl (by decide +kernel) ⟨Nat.le_of_ble_eq_true rfl, Nat.le_of_ble_eq_true rfl⟩) (xp_S hP hK hN hS hb0) rfl rfl hl.1 rfl (lv_room (Nat.le_of_ble_eq_true rfl)) dX10_stride_1 ⟨Nat.le_of_ble_eq_true rfl, Nat.le_of_ble_eq_true rfl⟩) hS (fun H locs hP hS => ?_)
  refine lv_if_eq (tgt := 29) hx hb dX10_stride_4 (by decide) (fun c3 => ?_) (fun c3 => ?_)
  · replace hF := it_t hF c3
    refine lv_iconst (v := (-1)) hx hb dX10_stride_29 (by decide) ?_
    cases hF
    exact W.iret hx hb hr (fun t ht hW => ⟨rfl, by rw [ht]; exact hP, hS.F ht⟩) hS.2.2 dX10_stride_30 hlk
  · replace hF := it_f hF c3
    refine lv_aload_n hx hb dX10_stride_7 rfl (lv_at hl 0 rfl) ?_
    refine xr_getR hx hb hts iw_X10_stride_10 hown hK hP hF 10 1 rfl (by decide) (by decide +kernel) ⟨rfl, rfl, rfl⟩ dX10_stride_8 (fun v4 hF => ?_)
    refine lv_iload_n hx hb dX10_stride_11 rfl (lv_at hl 2 rfl) ?_
    obtain ⟨v6, h5, hF⟩ := ob_some hF
    refine xr_call1 (va_runV (As := [.int a2]) (rest := []) ⟨hx, hb, hml, hown, hts⟩ (ct_X6_hasStride l b0 D cy M v4 a2 v6 h5) (cwV 1 hts gX10_stride_X6_hasStride rfl rfl rfl (by decide +kernel) ⟨Nat.le_of_ble_eq_true rfl, Nat.le_of_ble_eq_true rfl⟩) (xp_V hP hK hN hS hb0 6 rfl (gk_X6_hasStride h5)) rfl rfl hl.1 rfl (lv_room (Nat.le_of_ble_eq_true rfl)) dX10_stride_12 ⟨Nat.le_of_ble_eq_true rfl, Nat.le_of_ble_eq_true rfl⟩) hS (fun H locs hP hS => ?_)
    refine lv_if_eq (tgt := 29) hx hb dX10_stride_15 (by decide) (fun c7 => ?_) (fun c7 => ?_)
    · replace hF := it_t hF c7
      refine lv_iconst (v := (-1)) hx hb dX10_stride_29 (by decide) ?_
      cases hF
      exact W.iret hx hb hr (fun t ht hW => ⟨rfl, by rw [ht]; exact hP, hS.F ht⟩) hS.2.2 dX10_stride_30 hlk
    · replace hF := it_f hF c7
      refine lv_iload_n hx hb dX10_stride_18 rfl (lv_at hl 3 rfl) ?_
      refine lv_if_lt (tgt := 29) hx hb dX10_stride_19 (by decide) (fun c8 => ?_) (fun c8 => ?_)
      · replace hF := it_t hF c8
        refine lv_iconst (v := (-1)) hx hb dX10_stride_29 (by decide) ?_
        cases hF
        exact W.iret hx hb hr (fun t ht hW => ⟨rfl, by rw [ht]; exact hP, hS.F ht⟩) hS.2.2 dX10_stride_30 hlk
      · replace hF := it_f hF c8
        refine lv_iload_n hx hb dX10_stride_22 rfl (lv_at hl 3 rfl) ?_
        refine lv_sipush (v := 255) hx hb dX10_stride_23 (by decide) ?_
        refine lv_icmp_le (tgt := 31) hx hb dX10_stride_26 (by decide) (fun c9 => ?_) (fun c9 => ?_)
        · replace hF := it_t hF c9
          refine lv_aload_n hx hb dX10_stride_31 rfl (lv_at hl 0 rfl) ?_
          refine xr_getR hx hb hts iw_X10_stride_10 hown hK hP hF 10 3 rfl (by decide) (by decide +kernel) ⟨rfl, rfl, rfl⟩ dX10_stride_32 (fun v10 hF => ?_)
          refine lv_iload_n hx hb dX10_stride_35 rfl (lv_at hl 1 rfl) ?_
          refine xr_aR hx hb hK hP hF 7 rfl (by decide) dX10_stride_36 (fun v11 hF => ?_)
          refine lv_astore (lv' := [(4, .ref v11), (0, .ref a0), (1, .int a1), (2, .int a2), (3, .int a3)]) hx hb dX10_stride_37 hl (by decide) (by first | rfl | simp [cat_rf]) (fun ls hl => ?_)
          refine lv_aload hx hb dX10_stride_39 (lv_at hl 0 rfl) ?_
          refine xr_getR hx hb hts iw_X10_stride_9 hown hK hP hF 9 0 rfl (by decide) (by decide +kernel) ⟨rfl, rfl, rfl⟩ dX10_stride_41 (fun v12 hF => ?_)
          refine lv_iload_n hx hb dX10_stride_44 rfl (lv_at hl 3 rfl) ?_
          refine xr_aI hx hb hK hP hF dX10_stride_45 (fun v13 hF => ?_)
          refine lv_istore (lv' := [(5, .int v13), (4, .ref v11), (0, .ref a0), (1, .int a1), (2, .int a2), (3, .int a3)]) hx hb dX10_stride_46 hl (by decide) (by first | rfl | simp [cat_rf]) (fun ls hl => ?_)
          refine lv_aload hx hb dX10_stride_48 (lv_at hl 1 rfl) ?_
          refine xr_getR hx hb hts iw_X10_stride_9 hown hK hP hF 9 0 rfl (by decide) (by decide +kernel) ⟨rfl, rfl, rfl⟩ dX10_stride_50 (fun v14 hF => ?_)
          refine lv_iload_n hx hb dX10_stride_53 rfl (lv_at hl 4 rfl) ?_
          refine lv_iload_n hx hb dX10_stride_54 rfl (lv_at hl 5 rfl) ?_
          refine xr_wI hx hb hK hP hS hF dX10_stride_55 (fun M15 H locs hF hP hS => ?_)
          refine lv_aload hx hb dX10_stride_56 (lv_at hl 1 rfl) ?_
          refine lv_iconst (v := 1) hx hb dX10_stride_58 (by decide) ?_
          refine xr_putZ hx hb hts iw_X10_stride_9 hown hK hP hS hF 9 3 rfl (by decide) tyX9 tyX9_ok nmX9 (by decide +kernel) (Or.inl rfl) rfl ⟨rfl, rfl, rfl⟩ dX10_stride_59 (fun M16 H locs hF hP hS => ?_)
          refine lv_iload hx hb dX10_stride_62 (lv_at hl 0 rfl) ?_
          cases hF
          exact W.iret hx hb hr (fun t ht hW => ⟨rfl, by rw [ht]; exact hP, hS.F ht⟩) hS.2.2 dX10_stride_64 hlk
        · replace hF := it_f hF c9
          refine lv_iconst (v := (-1)) hx hb dX10_stride_29 (by decide) ?_
          cases hF
          exact W.iret hx hb hr (fun t ht hW => ⟨rfl, by rw [ht]; exact hP, hS.F ht⟩) hS.2.2 dX10_stride_30 hlk
