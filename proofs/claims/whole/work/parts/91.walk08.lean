/-! X11_field -/
theorem iw_X11_field_11 : ∀ w ∈ u_ws RX11 TX11 58, w ∈ wsX11_field := by decide +kernel
abbrev rm_X11_field : Room := { frames := 1, cells := 0, slots := 0, locals := 25 }
set_option maxHeartbeats 4000000 in
set_option maxRecDepth 100000 in
theorem nd_X11_field_65 {p : Program} {l : Launch} {e : Env} {s : State} {m : MethodId} {args : Array Value} {below : List Frame} {meth : Method} {c : Code} {b0 : Nat} {D : va_G} {cy : Nat → ClassId} {M1 : Mm} {r : Int32} (CX : Cx yX11_field cX11_field 6 (some .int) wsX11_field b0 D cy p s m args meth c) : ∀ (M : Mm) (x0 : Nat) (x1 : Int32) (x2 : Int32) (x3 : Int32) (x4 : Int32) (s0 : Int32) (H : Heap) (locs : List Loc) (ls : Array Slot), f_X11_field_J65 M x0 x1 x2 x3 x4 s0 = some (M1, r) → Hp b0 D cy M H → va_S (BA b0) s.heap H locs → lv_has ls 6 [(0, .ref x0), (1, .int x1), (2, .int x2), (3, .int x3), (4, .int x4)] → W p l e rm_X11_field s m args below meth c H locs 0 0 (MQ below (Qm b0 D cy M1 (some (.int r))) args s 0 0 (BA b0)) (F0 m 65 ls [.int s0]) := by
  obtain ⟨hx, hb, hr, hml, hown0, hts, hlk, hK, hN, hb0, hnm⟩ := id CX
  have hown : s.vm.findClass RX11 = some m.cls := hown0
  intro M x0 x1 x2 x3 x4 s0 H locs ls hF hP hS hl
  unfold f_X11_field_J65 at hF
  refine lv_istore (lv' := [(5, .int s0), (0, .ref x0), (1, .int x1), (2, .int x2), (3, .int x3), (4, .int x4)]) hx hb dX11_field_65 hl (by decide) (by first | rfl | simp [cat_rf]) (fun ls hl => ?_)
  refine lv_iload hx hb dX11_field_67 (lv_at hl 0 rfl) ?_
  refine lv_if_ne (tgt := 74) hx hb dX11_field_69 (by decide) (fun c1 => ?_) (fun c1 => ?_)
  · replace hF := it_f hF c1
    refine lv_aload_n hx hb dX11_field_74 rfl (lv_at hl 1 rfl) ?_
    refine xr_getI hx hb hts iw_X11_field_11 hown hK hP hF 11 1 rfl (by decide) (by decide +kernel) ⟨rfl, rfl, rfl⟩ dX11_field_75 (fun v2 hF => ?_)
    refine lv_bipush (v := 8) hx hb dX11_field_78 (by decide) ?_
    refine lv_icmp_ne (tgt := 86) hx hb dX11_field_80 (by decide) (fun c3 => ?_) (fun c3 => ?_)
    · replace hF := it_f hF c3
      refine lv_aload_n hx hb dX11_field_86 rfl (lv_at hl 1 rfl) ?_
      refine xr_getI hx hb hts iw_X11_field_11 hown hK hP hF 11 6 rfl (by decide) (by decide +kernel) ⟨rfl, rfl, rfl⟩ dX11_field_87 (fun v4 hF => ?_)
      refine lv_if_eq (tgt := 96) hx hb dX11_field_90 (by decide) (fun c5 => ?_) (fun c5 => ?_)
      · replace hF := it_t hF c5
        refine lv_aload_n hx hb dX11_field_96 rfl (lv_at hl 1 rfl) ?_
        refine xr_getR hx hb hts iw_X11_field_11 hown hK hP hF 11 2 rfl (by decide) (by decide +kernel) ⟨rfl, rfl, rfl⟩ dX11_field_97 (fun v6 hF => ?_)
        refine lv_aload_n hx hb dX11_field_100 rfl (lv_at hl 1 rfl) ?_
        refine xr_getI hx hb hts iw_X11_field_11 hown hK hP hF 11 1 rfl (by decide) (by decide +kernel) ⟨rfl, rfl, rfl⟩ dX11_field_101 (fun v7 hF => ?_)
        refine lv_iload_n hx hb dX11_field_104 rfl (lv_at hl 2 rfl) ?_
        refine xr_wI hx hb hK hP hS hF dX11_field_105 (fun M8 H locs hF hP hS => ?_)
        refine lv_aload_n hx hb dX11_field_106 rfl (lv_at hl 1 rfl) ?_
        refine xr_getR hx hb hts iw_X11_field_11 hown hK hP hF 11 3 rfl (by decide) (by decide +kernel) ⟨rfl, rfl, rfl⟩ dX11_field_107 (fun v9 hF => ?_)
        refine lv_aload_n hx hb dX11_field_110 rfl (lv_at hl 1 rfl) ?_
        refine xr_getI hx hb hts iw_X11_field_11 hown hK hP hF 11 1 rfl (by decide) (by decide +kernel) ⟨rfl, rfl, rfl⟩ dX11_field_111 (fun v10 hF => ?_)
        refine lv_iload_n hx hb dX11_field_114 rfl (lv_at hl 3 rfl) ?_
        refine xr_wI hx hb hK hP hS hF dX11_field_115 (fun M11 H locs hF hP hS => ?_)
        refine lv_aload_n hx hb dX11_field_116 rfl (lv_at hl 1 rfl) ?_
        refine xr_getR hx hb hts iw_X11_field_11 hown hK hP hF 11 4 rfl (by decide) (by decide +kernel) ⟨rfl, rfl, rfl⟩ dX11_field_117 (fun v12 hF => ?_)
        refine lv_aload_n hx hb dX11_field_120 rfl (lv_at hl 1 rfl) ?_
        refine xr_getI hx hb hts iw_X11_field_11 hown hK hP hF 11 1 rfl (by decide) (by decide +kernel) ⟨rfl, rfl, rfl⟩ dX11_field_121 (fun v13 hF => ?_)
        refine lv_iload_n hx hb dX11_field_124 rfl (lv_at hl 4 rfl) ?_
        refine xr_wI hx hb hK hP hS hF dX11_field_125 (fun M14 H locs hF hP hS => ?_)
        refine lv_aload_n hx hb dX11_field_126 rfl (lv_at hl 1 rfl) ?_
        refine xr_getR hx hb hts iw_X11_field_11 hown hK hP hF 11 5 rfl (by decide) (by decide +kernel) ⟨rfl, rfl, rfl⟩ dX11_field_127 (fun v15 hF => ?_)
        refine lv_aload_n hx hb dX11_field_130 rfl (lv_at hl 1 rfl) ?_
        refine xr_getI hx hb hts iw_X11_field_11 hown hK hP hF 11 1 rfl (by decide) (by decide +kernel) ⟨rfl, rfl, rfl⟩ dX11_field_131 (fun v16 hF => ?_)
        refine lv_iload hx hb dX11_field_134 (lv_at hl 5 rfl) ?_
        refine lv_i2l hx hb dX11_field_136 rfl ?_
        refine xr_wJ hx hb hK hP hS hF dX11_field_137 (fun M17 H locs hF hP hS => ?_)
        refine lv_aload_n hx hb dX11_field_138 rfl (lv_at hl 1 rfl) ?_
        refine xr_getR hx hb hts iw_X11_field_11 hown hK hP hF 11 8 rfl (by decide) (by decide +kernel) ⟨rfl, rfl, rfl⟩ dX11_field_139 (fun v18 hF => ?_)
        refine lv_aload_n hx hb dX11_field_142 rfl (lv_at hl 1 rfl) ?_
        refine xr_getI hx hb hts iw_X11_field_11 hown hK hP hF 11 1 rfl (by decide) (by decide +kernel) ⟨rfl, rfl, rfl⟩ dX11_field_143 (fun v19 hF => ?_)
        refine lv_lconst (v := 0) hx hb dX11_field_146 (by decide) ?_
        refine xr_wJ hx hb hK hP hS hF dX11_field_147 (fun M20 H locs hF hP hS => ?_)
        refine lv_aload_n hx hb dX11_field_148 rfl (lv_at hl 1 rfl) ?_
        refine lv_dup hx hb dX11_field_149 rfl ?_
        refine xr_getI hx hb hts iw_X11_field_11 hown hK hP hF 11 1 rfl (by decide) (by decide +kernel) ⟨rfl, rfl, rfl⟩ dX11_field_150 (fun v21 hF => ?_)
        refine lv_iconst (v := 1) hx hb dX11_field_153 (by decide) ?_
        refine lv_iadd hx hb dX11_field_154 ?_
        refine xr_putI hx hb hts iw_X11_field_11 hown hK hP hS hF 11 1 rfl (by decide) tyX11 tyX11_ok nmX11 (by decide +kernel) (Or.inl rfl) rfl ⟨rfl, rfl, rfl⟩ dX11_field_155 (fun M22 H locs hF hP hS => ?_)
        refine lv_aload_n hx hb dX11_field_158 rfl (lv_at hl 1 rfl) ?_
        refine xr_getI hx hb hts iw_X11_field_11 hown hK hP hF 11 1 rfl (by decide) (by decide +kernel) ⟨rfl, rfl, rfl⟩ dX11_field_159 (fun v23 hF => ?_)
        refine lv_iconst (v := 1) hx hb dX11_field_162 (by decide) ?_
        refine lv_isub hx hb dX11_field_163 ?_
        cases hF
        exact W.iret hx hb hr (fun t ht hW => ⟨rfl, by rw [ht]; exact hP, hS.F ht⟩) hS.2.2 dX11_field_164 hlk
      · replace hF := it_f hF c5
        refine lv_bipush (v := (-3)) hx hb dX11_field_93 (by decide) ?_
        cases hF
        exact W.iret hx hb hr (fun t ht hW => ⟨rfl, by rw [ht]; exact hP, hS.F ht⟩) hS.2.2 dX11_field_95 hlk
    · replace hF := it_t hF c3
      refine lv_bipush (v := (-2)) hx hb dX11_field_83 (by decide) ?_
      cases hF
      exact W.iret hx hb hr (fun t ht hW => ⟨rfl, by rw [ht]; exact hP, hS.F ht⟩) hS.2.2 dX11_field_85 hlk
  · replace hF := it_t hF c1
    refine lv_iconst (v := (-1)) hx hb dX11_field_72 (by decide) ?_
    cases hF
    exact W.iret hx hb hr (fun t ht hW => ⟨rfl, by rw [ht]; exact hP, hS.F ht⟩) hS.2.2 dX11_field_73 hlk
set_option maxHeartbeats 4000000 in
set_option maxRecDepth 100000 in
theorem nd_X11_field_64 {p : Program} {l : Launch} {e : Env} {s : State} {m : MethodId} {args : Array Value} {below : List Frame} {meth : Method} {c : Code} {b0 : Nat} {D : va_G} {cy : Nat → ClassId} {M1 : Mm} {r : Int32} (CX : Cx yX11_field cX11_field 6 (some .int) wsX11_field b0 D cy p s m args meth c) : ∀ (M : Mm) (x0 : Nat) (x1 : Int32) (x2 : Int32) (x3 : Int32) (x4 : Int32) (H : Heap) (locs : List Loc) (ls : Array Slot), f_X11_field_J64 M x0 x1 x2 x3 x4 = some (M1, r) → Hp b0 D cy M H → va_S (BA b0) s.heap H locs → lv_has ls 6 [(0, .ref x0), (1, .int x1), (2, .int x2), (3, .int x3), (4, .int x4)] → W p l e rm_X11_field s m args below meth c H locs 0 0 (MQ below (Qm b0 D cy M1 (some (.int r))) args s 0 0 (BA b0)) (F0 m 64 ls []) := by
  obtain ⟨hx, hb, hr, hml, hown0, hts, hlk, hK, hN, hb0, hnm⟩ := id CX
  have hown : s.vm.findClass RX11 = some m.cls := hown0
  intro M x0 x1 x2 x3 x4 H locs ls hF hP hS hl
  unfold f_X11_field_J64 at hF
  refine lv_iconst (v := 0) hx hb dX11_field_64 (by decide) ?_
  exact nd_X11_field_65 CX _ _ _ _ _ _ _ _ _ _ hF hP hS (lv_sub hl [0, 1, 2, 3, 4] rfl)
set_option maxHeartbeats 4000000 in
set_option maxRecDepth 100000 in
theorem nd_X11_field_60 {p : Program} {l : Launch} {e : Env} {s : State} {m : MethodId} {args : Array Value} {below : List Frame} {meth : Method} {c : Code} {b0 : Nat} {D : va_G} {cy : Nat → ClassId} {M1 : Mm} {r : Int32} (CX : Cx yX11_field cX11_field 6 (some .int) wsX11_field b0 D cy p s m args meth c) : ∀ (M : Mm) (x0 : Nat) (x1 : Int32) (x2 : Int32) (x3 : Int32) (x4 : Int32) (H : Heap) (locs : List Loc) (ls : Array Slot), f_X11_field_J60 M x0 x1 x2 x3 x4 = some (M1, r) → Hp b0 D cy M H → va_S (BA b0) s.heap H locs → lv_has ls 6 [(0, .ref x0), (1, .int x1), (2, .int x2), (3, .int x3), (4, .int x4)] → W p l e rm_X11_field s m args below meth c H locs 0 0 (MQ below (Qm b0 D cy M1 (some (.int r))) args s 0 0 (BA b0)) (F0 m 60 ls []) := by
  obtain ⟨hx, hb, hr, hml, hown0, hts, hlk, hK, hN, hb0, hnm⟩ := id CX
  have hown : s.vm.findClass RX11 = some m.cls := hown0
  intro M x0 x1 x2 x3 x4 H locs ls hF hP hS hl
  unfold f_X11_field_J60 at hF
  refine lv_iconst (v := 1) hx hb dX11_field_60 (by decide) ?_
  refine lv_goto (tgt := 65) hx hb dX11_field_61 (by decide) ?_
  exact nd_X11_field_65 CX _ _ _ _ _ _ _ _ _ _ hF hP hS (lv_sub hl [0, 1, 2, 3, 4] rfl)
set_option maxHeartbeats 4000000 in
set_option maxRecDepth 100000 in
theorem nd_X11_field_42 {p : Program} {l : Launch} {e : Env} {s : State} {m : MethodId} {args : Array Value} {below : List Frame} {meth : Method} {c : Code} {b0 : Nat} {D : va_G} {cy : Nat → ClassId} {M1 : Mm} {r : Int32} (CX : Cx yX11_field cX11_field 6 (some .int) wsX11_field b0 D cy p s m args meth c) : ∀ (M : Mm) (x0 : Nat) (x1 : Int32) (x2 : Int32) (x3 : Int32) (x4 : Int32) (H : Heap) (locs : List Loc) (ls : Array Slot), f_X11_field_J42 M x0 x1 x2 x3 x4 = some (M1, r) → Hp b0 D cy M H → va_S (BA b0) s.heap H locs → lv_has ls 6 [(0, .ref x0), (1, .int x1), (2, .int x2), (3, .int x3), (4, .int x4)] → W p l e rm_X11_field s m args below meth c H locs 0 0 (MQ below (Qm b0 D cy M1 (some (.int r))) args s 0 0 (BA b0)) (F0 m 42 ls []) := by
  obtain ⟨hx, hb, hr, hml, hown0, hts, hlk, hK, hN, hb0, hnm⟩ := id CX
  have hown : s.vm.findClass RX11 = some m.cls := hown0
  intro M x0 x1 x2 x3 x4 H locs ls hF hP hS hl
  unfold f_X11_field_J42 at hF
  refine lv_iload_n hx hb dX11_field_42 rfl (lv_at hl 1 rfl) ?_
  refine lv_iconst (v := 3) hx hb dX11_field_43 (by decide) ?_
  refine lv_icmp_ne (tgt := 60) hx hb dX11_field_44 (by decide) (fun c1 => ?_) (fun c1 => ?_)
  · replace hF := it_f hF c1
    exact nd_X11_field_60 CX _ _ _ _ _ _ _ _ _ hF hP hS (lv_sub hl [0, 1, 2, 3, 4] rfl)
  · replace hF := it_t hF c1
    refine lv_iload hx hb dX11_field_47 (lv_at hl 4 rfl) ?_
    refine lv_i2l hx hb dX11_field_49 rfl ?_
    refine lv_lconst (v := 1) hx hb dX11_field_50 (by decide) ?_
    refine lv_ldc2 (v := 1000) hx hb hown (hts (.constantLong RX11 163 1000) (by decide +kernel)) dX11_field_51 ?_
    obtain ⟨v3, h2, hF⟩ := ob_some hF
    refine xr_call1 (va_runS (As := [.long x4.toInt64, .long 1, .long 1000]) (rest := []) ⟨hx, hb, hml, hown, hts⟩ (ct_X11_isIn l b0 D cy M x4.toInt64 1 1000 v3 h2) (va_cwS 3 hts gX11_field_X11_isIn rfl rfl rfl (by decide +kernel) ⟨Nat.le_of_ble_eq_true rfl, Nat.le_of_ble_eq_true rfl⟩) (xp_S hP hK hN hS hb0) rfl rfl hl.1 rfl (lv_room (Nat.le_of_ble_eq_true rfl)) dX11_field_54 ⟨Nat.le_of_ble_eq_true rfl, Nat.le_of_ble_eq_true rfl⟩) hS (fun H locs hP hS => ?_)
    refine lv_if_eq (tgt := 64) hx hb dX11_field_57 (by decide) (fun c4 => ?_) (fun c4 => ?_)
    · replace hF := it_t hF c4
      exact nd_X11_field_64 CX _ _ _ _ _ _ _ _ _ hF hP hS (lv_sub hl [0, 1, 2, 3, 4] rfl)
    · replace hF := it_f hF c4
      exact nd_X11_field_60 CX _ _ _ _ _ _ _ _ _ hF hP hS (lv_sub hl [0, 1, 2, 3, 4] rfl)
theorem gk_X11_field {M : Mm} {a0 : Nat} {a1 : Int32} {a2 : Int32} {a3 : Int32} {a4 : Int32} {r : (Mm × Int32)} (h : f_X11_field M a0 a1 a2 a3 a4 = some r) : mK M a0 = 12 := by
  unfold f_X11_field at h
  exact (if_some h).1
set_option maxHeartbeats 4000000 in
set_option maxRecDepth 100000 in
theorem ct_X11_field (l : Launch) (b0 : Nat) (D : va_G) (cy : Nat → ClassId) (M : Mm) (a0 : Nat) (a1 : Int32) (a2 : Int32) (a3 : Int32) (a4 : Int32) (M1 : Mm) (r : Int32) (hF : f_X11_field M a0 a1 a2 a3 a4 = some (M1, r)) : Met l yX11_field wsX11_field rm_X11_field (va_Pc [.ref a0, .int a1, .int a2, .int a3, .int a4] (Pm b0 D cy M)) (Qm b0 D cy M1 (some (.int r))) 0 0 (BA b0) := by
  refine ct_of [.ref a0, .int a1, .int a2, .int a3, .int a4] (by decide) rfl ?_
  intro p e s m below meth c CX hP
  obtain ⟨hx, hb, hr, hml, hown0, hts, hlk, hK, hN, hb0, hnm⟩ := id CX
  have hown : s.vm.findClass RX11 = some m.cls := hown0
  have hS : va_S (BA b0) s.heap s.heap [] := va_S.rf
  have hl := lv_entry [.ref a0, .int a1, .int a2, .int a3, .int a4] (n := 6) (Nat.le_of_ble_eq_true rfl)
  generalize (lg_sl [.ref a0, .int a1, .int a2, .int a3, .int a4] ++ List.replicate (6 - (lg_sl [.ref a0, .int a1, .int a2, .int a3, .int a4]).length) Slot.unset).toArray = ls at hl ⊢
  have hl : lv_has ls 6 [(0, .ref a0), (1, .int a1), (2, .int a2), (3, .int a3), (4, .int a4)] := hl
  unfold f_X11_field at hF
  replace hF := (if_some hF).2
  refine lv_aload_n hx hb dX11_field_0 rfl (lv_at hl 0 rfl) ?_
  refine lv_iconst (v := 0) hx hb dX11_field_1 (by decide) ?_
  refine xr_putI hx hb hts iw_X11_field_11 hown hK hP hS hF 11 0 rfl (by decide) tyX11 tyX11_ok nmX11 (by decide +kernel) (Or.inl rfl) rfl ⟨rfl, rfl, rfl⟩ dX11_field_2 (fun M1 H locs hF hP hS => ?_)
  refine lv_iload_n hx hb dX11_field_5 rfl (lv_at hl 1 rfl) ?_
  refine lv_i2l hx hb dX11_field_6 rfl ?_
  refine lv_lconst (v := 0) hx hb dX11_field_7 (by decide) ?_
  refine lv_ldc2 (v := 4) hx hb hown (hts (.constantLong RX11 151 4) (by decide +kernel)) dX11_field_8 ?_
  obtain ⟨v3, h2, hF⟩ := ob_some hF
  refine xr_call1 (va_runS (As := [.long a1.toInt64, .long 0, .long 4]) (rest := []) ⟨hx, hb, hml, hown, hts⟩ (ct_X11_isIn l b0 D cy M1 a1.toInt64 0 4 v3 h2) (va_cwS 3 hts gX11_field_X11_isIn rfl rfl rfl (by decide +kernel) ⟨Nat.le_of_ble_eq_true rfl, Nat.le_of_ble_eq_true rfl⟩) (xp_S hP hK hN hS hb0) rfl rfl hl.1 rfl (lv_room (Nat.le_of_ble_eq_true rfl)) dX11_field_11 ⟨Nat.le_of_ble_eq_true rfl, Nat.le_of_ble_eq_true rfl⟩) hS (fun H locs hP hS => ?_)
  refine lv_if_eq (tgt := 64) hx hb dX11_field_14 (by decide) (fun c4 => ?_) (fun c4 => ?_)
  · replace hF := it_t hF c4
    exact nd_X11_field_64 CX _ _ _ _ _ _ _ _ _ hF hP hS (lv_sub hl [0, 1, 2, 3, 4] rfl)
  · replace hF := it_f hF c4
    refine lv_iload_n hx hb dX11_field_17 rfl (lv_at hl 2 rfl) ?_
    refine lv_i2l hx hb dX11_field_18 rfl ?_
    refine lv_lconst (v := 1) hx hb dX11_field_19 (by decide) ?_
    refine lv_ldc2 (v := 32) hx hb hown (hts (.constantLong RX11 157 32) (by decide +kernel)) dX11_field_20 ?_
    obtain ⟨v6, h5, hF⟩ := ob_some hF
    refine xr_call1 (va_runS (As := [.long a2.toInt64, .long 1, .long 32]) (rest := []) ⟨hx, hb, hml, hown, hts⟩ (ct_X11_isIn l b0 D cy M1 a2.toInt64 1 32 v6 h5) (va_cwS 3 hts gX11_field_X11_isIn rfl rfl rfl (by decide +kernel) ⟨Nat.le_of_ble_eq_true rfl, Nat.le_of_ble_eq_true rfl⟩) (xp_S hP hK hN hS hb0) rfl rfl hl.1 rfl (lv_room (Nat.le_of_ble_eq_true rfl)) dX11_field_23 ⟨Nat.le_of_ble_eq_true rfl, Nat.le_of_ble_eq_true rfl⟩) hS (fun H locs hP hS => ?_)
    refine lv_if_eq (tgt := 64) hx hb dX11_field_26 (by decide) (fun c7 => ?_) (fun c7 => ?_)
    · replace hF := it_t hF c7
      exact nd_X11_field_64 CX _ _ _ _ _ _ _ _ _ hF hP hS (lv_sub hl [0, 1, 2, 3, 4] rfl)
    · replace hF := it_f hF c7
      refine lv_iload_n hx hb dX11_field_29 rfl (lv_at hl 1 rfl) ?_
      refine lv_iconst (v := 1) hx hb dX11_field_30 (by decide) ?_
      refine lv_icmp_ne (tgt := 42) hx hb dX11_field_31 (by decide) (fun c8 => ?_) (fun c8 => ?_)
      · replace hF := it_f hF c8
        exact nd_X11_field_42 CX _ _ _ _ _ _ _ _ _ hF hP hS (lv_sub hl [0, 1, 2, 3, 4] rfl)
      · replace hF := it_t hF c8
        refine lv_aload_n hx hb dX11_field_34 rfl (lv_at hl 0 rfl) ?_
        refine lv_iload_n hx hb dX11_field_35 rfl (lv_at hl 3 rfl) ?_
        obtain ⟨v10, h9, hF⟩ := ob_some hF
        refine xr_call1 (va_runV (As := [.int a3]) (rest := []) ⟨hx, hb, hml, hown, hts⟩ (ct_X11_isField l b0 D cy M1 a0 a3 v10 h9) (cwV 1 hts gX11_field_X11_isField rfl rfl rfl (by decide +kernel) ⟨Nat.le_of_ble_eq_true rfl, Nat.le_of_ble_eq_true rfl⟩) (xp_V hP hK hN hS hb0 11 rfl (gk_X11_isField h9)) rfl rfl hl.1 rfl (lv_room (Nat.le_of_ble_eq_true rfl)) dX11_field_36 ⟨Nat.le_of_ble_eq_true rfl, Nat.le_of_ble_eq_true rfl⟩) hS (fun H locs hP hS => ?_)
        refine lv_if_eq (tgt := 64) hx hb dX11_field_39 (by decide) (fun c11 => ?_) (fun c11 => ?_)
        · replace hF := it_t hF c11
          exact nd_X11_field_64 CX _ _ _ _ _ _ _ _ _ hF hP hS (lv_sub hl [0, 1, 2, 3, 4] rfl)
        · replace hF := it_f hF c11
          exact nd_X11_field_42 CX _ _ _ _ _ _ _ _ _ hF hP hS (lv_sub hl [0, 1, 2, 3, 4] rfl)
/-! X11_set -/
theorem iw_X11_set_11 : ∀ w ∈ u_ws RX11 TX11 58, w ∈ wsX11_set := by decide +kernel
abbrev rm_X11_set : Room := { frames := 1, cells := 0, slots := 0, locals := 23 }
theorem gk_X11_set {M : Mm} {a0 : Nat} {a1 : Int32} {a2 : Int64} {r : (Mm × Int64)} (h : f_X11_set M a0 a1 a2 = some r) : mK M a0 = 12 := by
  unfold f_X11_set at h
  exact (if_some h).1
set_option maxHeartbeats 4000000 in
set_option maxRecDepth 100000 in
theorem ct_X11_set (l : Launch) (b0 : Nat) (D : va_G) (cy : Nat → ClassId) (M : Mm) (a0 : Nat) (a1 : Int32) (a2 : Int64) (M1 : Mm) (r : Int64) (hF : f_X11_set M a0 a1 a2 = some (M1, r)) : Met l yX11_set wsX11_set rm_X11_set (va_Pc [.ref a0, .int a1, .long a2] (Pm b0 D cy M)) (Qm b0 D cy M1 (some (.long r))) 0 0 (BA b0) := by
  refine ct_of [.ref a0, .int a1, .long a2] (by decide) rfl ?_
  intro p e s m below meth c CX hP
  obtain ⟨hx, hb, hr, hml, hown0, hts, hlk, hK, hN, hb0, hnm⟩ := id CX
  have hown : s.vm.findClass RX11 = some m.cls := hown0
  have hS : va_S (BA b0) s.heap s.heap [] := va_S.rf
  have hl := lv_entry [.ref a0, .int a1, .long a2] (n := 6) (Nat.le_of_ble_eq_true rfl)
  generalize (lg_sl [.ref a0, .int a1, .long a2] ++ List.replicate (6 - (lg_sl [.ref a0, .int a1, .long a2]).length) Slot.unset).toArray = ls at hl ⊢
  have hl : lv_has ls 6 [(0, .ref a0), (1, .int a1), (2, .long a2)] := hl
  unfold f_X11_set at hF
  replace hF := (if_some hF).2
  refine lv_aload_n hx hb dX11_set_0 rfl (lv_at hl 0 rfl) ?_
  refine lv_iconst (v := 0) hx hb dX11_set_1 (by decide) ?_
  refine xr_putI hx hb hts iw_X11_set_11 hown hK hP hS hF 11 0 rfl (by decide) tyX11 tyX11_ok nmX11 (by decide +kernel) (Or.inl rfl) rfl ⟨rfl, rfl, rfl⟩ dX11_set_2 (fun M1 H locs hF hP hS => ?_)
  refine lv_aload_n hx hb dX11_set_5 rfl (lv_at hl 0 rfl) ?_
  refine lv_iload_n hx hb dX11_set_6 rfl (lv_at hl 1 rfl) ?_
  obtain ⟨v3, h2, hF⟩ := ob_some hF
  refine xr_call1 (va_runV (As := [.int a1]) (rest := []) ⟨hx, hb, hml, hown, hts⟩ (ct_X11_isField l b0 D cy M1 a0 a1 v3 h2) (cwV 1 hts gX11_set_X11_isField rfl rfl rfl (by decide +kernel) ⟨Nat.le_of_ble_eq_true rfl, Nat.le_of_ble_eq_true rfl⟩) (xp_V hP hK hN hS hb0 11 rfl (gk_X11_isField h2)) rfl rfl hl.1 rfl (lv_room (Nat.le_of_ble_eq_true rfl)) dX11_set_7 ⟨Nat.le_of_ble_eq_true rfl, Nat.le_of_ble_eq_true rfl⟩) hS (fun H locs hP hS => ?_)
  refine lv_if_ne (tgt := 17) hx hb dX11_set_10 (by decide) (fun c4 => ?_) (fun c4 => ?_)
  · replace hF := it_f hF c4
    refine lv_aload_n hx hb dX11_set_17 rfl (lv_at hl 0 rfl) ?_
    refine xr_getR hx hb hts iw_X11_set_11 hown hK hP hF 11 8 rfl (by decide) (by decide +kernel) ⟨rfl, rfl, rfl⟩ dX11_set_18 (fun v5 hF => ?_)
    refine lv_iload_n hx hb dX11_set_21 rfl (lv_at hl 1 rfl) ?_
    refine xr_aJ hx hb hK hP hF dX11_set_22 (fun v6 hF => ?_)
    refine lv_lstore (lv' := [(4, .long v6), (0, .ref a0), (1, .int a1), (2, .long a2)]) hx hb dX11_set_23 hl (by decide) (by first | rfl | simp [cat_rf]) (fun ls hl => ?_)
    refine lv_aload_n hx hb dX11_set_25 rfl (lv_at hl 1 rfl) ?_
    refine xr_getR hx hb hts iw_X11_set_11 hown hK hP hF 11 8 rfl (by decide) (by decide +kernel) ⟨rfl, rfl, rfl⟩ dX11_set_26 (fun v7 hF => ?_)
    refine lv_iload_n hx hb dX11_set_29 rfl (lv_at hl 2 rfl) ?_
    refine lv_aload_n hx hb dX11_set_30 rfl (lv_at hl 1 rfl) ?_
    refine lv_iload_n hx hb dX11_set_31 rfl (lv_at hl 2 rfl) ?_
    refine lv_lload_n hx hb dX11_set_32 rfl (lv_at hl 3 rfl) ?_
    obtain ⟨v9, h8, hF⟩ := ob_some hF
    refine xr_call1 (va_runV (As := [.int a1, .long a2]) (rest := [.int a1, .ref v7]) ⟨hx, hb, hml, hown, hts⟩ (ct_X11_cut l b0 D cy M1 a0 a1 a2 v9 h8) (cwV 2 hts gX11_set_X11_cut rfl rfl rfl (by decide +kernel) ⟨Nat.le_of_ble_eq_true rfl, Nat.le_of_ble_eq_true rfl⟩) (xp_V hP hK hN hS hb0 11 rfl (gk_X11_cut h8)) rfl rfl hl.1 rfl (lv_room (Nat.le_of_ble_eq_true rfl)) dX11_set_33 ⟨Nat.le_of_ble_eq_true rfl, Nat.le_of_ble_eq_true rfl⟩) hS (fun H locs hP hS => ?_)
    refine xr_wJ hx hb hK hP hS hF dX11_set_36 (fun M10 H locs hF hP hS => ?_)
    refine lv_lload hx hb dX11_set_37 (lv_at hl 0 rfl) ?_
    cases hF
    exact W.lret hx hb hr (fun t ht hW => ⟨rfl, by rw [ht]; exact hP, hS.F ht⟩) hS.2.2 dX11_set_39 hlk
  · replace hF := it_t hF c4
    refine lv_ldc2 (v := (-1)) hx hb hown (hts (.constantLong RX11 169 (-1)) (by decide +kernel)) dX11_set_13 ?_
    cases hF
    exact W.lret hx hb hr (fun t ht hW => ⟨rfl, by rw [ht]; exact hP, hS.F ht⟩) hS.2.2 dX11_set_16 hlk
/-! X11_stride -/
theorem iw_X11_stride_11 : ∀ w ∈ u_ws RX11 TX11 58, w ∈ wsX11_stride := by decide +kernel
abbrev rm_X11_stride : Room := { frames := 1, cells := 0, slots := 0, locals := 25 }
theorem gk_X11_stride {M : Mm} {a0 : Nat} {a1 : Int32} {a2 : Int32} {a3 : Int32} {r : (Mm × Int32)} (h : f_X11_stride M a0 a1 a2 a3 = some r) : mK M a0 = 12 := by
  unfold f_X11_stride at h
  exact (if_some h).1
set_option maxHeartbeats 4000000 in
set_option maxRecDepth 100000 in
theorem ct_X11_stride (l : Launch) (b0 : Nat) (D : va_G) (cy : Nat → ClassId) (M : Mm) (a0 : Nat) (a1 : Int32) (a2 : Int32) (a3 : Int32) (M1 : Mm) (r : Int32) (hF : f_X11_stride M a0 a1 a2 a3 = some (M1, r)) : Met l yX11_stride wsX11_stride rm_X11_stride (va_Pc [.ref a0, .int a1, .int a2, .int a3] (Pm b0 D cy M)) (Qm b0 D cy M1 (some (.int r))) 0 0 (BA b0) := by
  refine ct_of [.ref a0, .int a1, .int a2, .int a3] (by decide) rfl ?_
  intro p e s m below meth c CX hP
  obtain ⟨hx, hb, hr, hml, hown0, hts, hlk, hK, hN, hb0, hnm⟩ := id CX
  have hown : s.vm.findClass RX11 = some m.cls := hown0
  have hS : va_S (BA b0) s.heap s.heap [] := va_S.rf
  have hl := lv_entry [.ref a0, .int a1, .int a2, .int a3] (n := 5) (Nat.le_of_ble_eq_true rfl)
  generalize (lg_sl [.ref a0, .int a1, .int a2, .int a3] ++ List.replicate (5 - (lg_sl [.ref a0, .int a1, .int a2, .int a3]).length) Slot.unset).toArray = ls at hl ⊢
  have hl : lv_has ls 5 [(0, .ref a0), (1, .int a1), (2, .int a2), (3, .int a3)] := hl
  unfold f_X11_stride at hF
  replace hF := (if_some hF).2
  refine lv_aload_n hx hb dX11_stride_0 rfl (lv_at hl 0 rfl) ?_
  refine lv_iconst (v := 0) hx hb dX11_stride_1 (by decide) ?_
  refine xr_putI hx hb hts iw_X11_stride_11 hown hK hP hS hF 11 0 rfl (by decide) tyX11 tyX11_ok nmX11 (by decide +kernel) (Or.inl rfl) rfl ⟨rfl, rfl, rfl⟩ dX11_stride_2 (fun M1 H locs hF hP hS => ?_)
  refine lv_iload_n hx hb dX11_stride_5 rfl (lv_at hl 1 rfl) ?_
  obtain ⟨v3, h2, hF⟩ := ob_some hF
  refine xr_call1 (va_runS (As := [.int a1]) (rest := []) ⟨hx, hb, hml, hown, hts⟩ (ct_X11_isFlow l b0 D cy M1 a1 v3 h2) (va_cwS 1 hts gX11_stride_X11_isFlow rfl rfl rfl (by decide +kernel) ⟨Nat.le_of_ble_eq_true rfl, Nat.le_of_ble_eq_true rfl⟩) (xp_S hP hK hN hS hb0) rfl rfl hl.1 rfl (lv_room (Nat.le_of_ble_eq_true rfl)) dX11_stride_6 ⟨Nat.le_of_ble_eq_true rfl, Nat.le_of_ble_eq_true rfl⟩) hS (fun H locs hP hS => ?_)
  refine lv_if_eq (tgt := 40) hx hb dX11_stride_9 (by decide) (fun c4 => ?_) (fun c4 => ?_)
  · replace hF := it_t hF c4
    refine lv_iconst (v := (-1)) hx hb dX11_stride_40 (by decide) ?_
    cases hF
    exact W.iret hx hb hr (fun t ht hW => ⟨rfl, by rw [ht]; exact hP, hS.F ht⟩) hS.2.2 dX11_stride_41 hlk
  · replace hF := it_f hF c4
    refine lv_aload_n hx hb dX11_stride_12 rfl (lv_at hl 0 rfl) ?_
    refine lv_iload_n hx hb dX11_stride_13 rfl (lv_at hl 2 rfl) ?_
    obtain ⟨v6, h5, hF⟩ := ob_some hF
    refine xr_call1 (va_runV (As := [.int a2]) (rest := []) ⟨hx, hb, hml, hown, hts⟩ (ct_X11_isField l b0 D cy M1 a0 a2 v6 h5) (cwV 1 hts gX11_stride_X11_isField rfl rfl rfl (by decide +kernel) ⟨Nat.le_of_ble_eq_true rfl, Nat.le_of_ble_eq_true rfl⟩) (xp_V hP hK hN hS hb0 11 rfl (gk_X11_isField h5)) rfl rfl hl.1 rfl (lv_room (Nat.le_of_ble_eq_true rfl)) dX11_stride_14 ⟨Nat.le_of_ble_eq_true rfl, Nat.le_of_ble_eq_true rfl⟩) hS (fun H locs hP hS => ?_)
    refine lv_if_eq (tgt := 40) hx hb dX11_stride_17 (by decide) (fun c7 => ?_) (fun c7 => ?_)
    · replace hF := it_t hF c7
      refine lv_iconst (v := (-1)) hx hb dX11_stride_40 (by decide) ?_
      cases hF
      exact W.iret hx hb hr (fun t ht hW => ⟨rfl, by rw [ht]; exact hP, hS.F ht⟩) hS.2.2 dX11_stride_41 hlk
    · replace hF := it_f hF c7
      refine lv_aload_n hx hb dX11_stride_20 rfl (lv_at hl 0 rfl) ?_
      refine lv_iload_n hx hb dX11_stride_21 rfl (lv_at hl 2 rfl) ?_
      obtain ⟨v9, h8, hF⟩ := ob_some hF
      refine xr_call1 (va_runV (As := [.int a2]) (rest := []) ⟨hx, hb, hml, hown, hts⟩ (ct_X11_runs l b0 D cy M1 a0 a2 v9 h8) (cwV 1 hts gX11_stride_X11_runs rfl rfl rfl (by decide +kernel) ⟨Nat.le_of_ble_eq_true rfl, Nat.le_of_ble_eq_true rfl⟩) (xp_V hP hK hN hS hb0 11 rfl (gk_X11_runs h8)) rfl rfl hl.1 rfl (lv_room (Nat.le_of_ble_eq_true rfl)) dX11_stride_22 ⟨Nat.le_of_ble_eq_true rfl, Nat.le_of_ble_eq_true rfl⟩) hS (fun H locs hP hS => ?_)
      refine lv_if_eq (tgt := 40) hx hb dX11_stride_25 (by decide) (fun c10 => ?_) (fun c10 => ?_)
      · replace hF := it_t hF c10
        refine lv_iconst (v := (-1)) hx hb dX11_stride_40 (by decide) ?_
        cases hF
        exact W.iret hx hb hr (fun t ht hW => ⟨rfl, by rw [ht]; exact hP, hS.F ht⟩) hS.2.2 dX11_stride_41 hlk
      · replace hF := it_f hF c10
        refine lv_iload_n hx hb dX11_stride_28 rfl (lv_at hl 3 rfl) ?_
        refine lv_i2l hx hb dX11_stride_29 rfl ?_
        refine lv_lconst (v := 0) hx hb dX11_stride_30 (by decide) ?_
        refine lv_ldc2 (v := 255) hx hb hown (hts (.constantLong RX11 181 255) (by decide +kernel)) dX11_stride_31 ?_
        obtain ⟨v12, h11, hF⟩ := ob_some hF
        refine xr_call1 (va_runS (As := [.long a3.toInt64, .long 0, .long 255]) (rest := []) ⟨hx, hb, hml, hown, hts⟩ (ct_X11_isIn l b0 D cy M1 a3.toInt64 0 255 v12 h11) (va_cwS 3 hts gX11_stride_X11_isIn rfl rfl rfl (by decide +kernel) ⟨Nat.le_of_ble_eq_true rfl, Nat.le_of_ble_eq_true rfl⟩) (xp_S hP hK hN hS hb0) rfl rfl hl.1 rfl (lv_room (Nat.le_of_ble_eq_true rfl)) dX11_stride_34 ⟨Nat.le_of_ble_eq_true rfl, Nat.le_of_ble_eq_true rfl⟩) hS (fun H locs hP hS => ?_)
        refine lv_if_ne (tgt := 42) hx hb dX11_stride_37 (by decide) (fun c13 => ?_) (fun c13 => ?_)
        · replace hF := it_f hF c13
          refine lv_aload_n hx hb dX11_stride_42 rfl (lv_at hl 0 rfl) ?_
          refine xr_getR hx hb hts iw_X11_stride_11 hown hK hP hF 11 11 rfl (by decide) (by decide +kernel) ⟨rfl, rfl, rfl⟩ dX11_stride_43 (fun v14 hF => ?_)
          refine lv_bipush (v := 8) hx hb dX11_stride_46 (by decide) ?_
          refine lv_iload_n hx hb dX11_stride_48 rfl (lv_at hl 1 rfl) ?_
          refine lv_imul hx hb dX11_stride_49 ?_
          refine lv_iload_n hx hb dX11_stride_50 rfl (lv_at hl 2 rfl) ?_
          refine lv_iadd hx hb dX11_stride_51 ?_
          refine xr_aI hx hb hK hP hF dX11_stride_52 (fun v15 hF => ?_)
          refine lv_istore (lv' := [(4, .int v15), (0, .ref a0), (1, .int a1), (2, .int a2), (3, .int a3)]) hx hb dX11_stride_53 hl (by decide) (by first | rfl | simp [cat_rf]) (fun ls hl => ?_)
          refine lv_aload_n hx hb dX11_stride_55 rfl (lv_at hl 1 rfl) ?_
          refine xr_getR hx hb hts iw_X11_stride_11 hown hK hP hF 11 11 rfl (by decide) (by decide +kernel) ⟨rfl, rfl, rfl⟩ dX11_stride_56 (fun v16 hF => ?_)
          refine lv_bipush (v := 8) hx hb dX11_stride_59 (by decide) ?_
          refine lv_iload_n hx hb dX11_stride_61 rfl (lv_at hl 2 rfl) ?_
          refine lv_imul hx hb dX11_stride_62 ?_
          refine lv_iload_n hx hb dX11_stride_63 rfl (lv_at hl 3 rfl) ?_
          refine lv_iadd hx hb dX11_stride_64 ?_
          refine lv_iload_n hx hb dX11_stride_65 rfl (lv_at hl 4 rfl) ?_
          refine xr_wI hx hb hK hP hS hF dX11_stride_66 (fun M17 H locs hF hP hS => ?_)
          refine lv_aload_n hx hb dX11_stride_67 rfl (lv_at hl 1 rfl) ?_
          refine xr_getR hx hb hts iw_X11_stride_11 hown hK hP hF 11 12 rfl (by decide) (by decide +kernel) ⟨rfl, rfl, rfl⟩ dX11_stride_68 (fun v18 hF => ?_)
          refine lv_iload_n hx hb dX11_stride_71 rfl (lv_at hl 2 rfl) ?_
          refine lv_iconst (v := 1) hx hb dX11_stride_72 (by decide) ?_
          refine xr_wZ hx hb hK hP hS hF dX11_stride_73 (fun M19 H locs hF hP hS => ?_)
          refine lv_iload hx hb dX11_stride_74 (lv_at hl 0 rfl) ?_
          cases hF
          exact W.iret hx hb hr (fun t ht hW => ⟨rfl, by rw [ht]; exact hP, hS.F ht⟩) hS.2.2 dX11_stride_76 hlk
        · replace hF := it_t hF c13
          refine lv_iconst (v := (-1)) hx hb dX11_stride_40 (by decide) ?_
          cases hF
          exact W.iret hx hb hr (fun t ht hW => ⟨rfl, by rw [ht]; exact hP, hS.F ht⟩) hS.2.2 dX11_stride_41 hlk
/-! X11_onwards -/
theorem iw_X11_onwards_11 : ∀ w ∈ u_ws RX11 TX11 58, w ∈ wsX11_onwards := by decide +kernel
abbrev rm_X11_onwards : Room := { frames := 1, cells := 0, slots := 0, locals := 23 }
set_option maxHeartbeats 4000000 in
set_option maxRecDepth 100000 in
theorem nd_X11_onwards_54 {p : Program} {l : Launch} {e : Env} {s : State} {m : MethodId} {args : Array Value} {below : List Frame} {meth : Method} {c : Code} {b0 : Nat} {D : va_G} {cy : Nat → ClassId} {r : Int64} {M : Mm} (CX : Cx yX11_onwards cX11_onwards 6 (some .long) wsX11_onwards b0 D cy p s m args meth c) : ∀ (s0 : Nat) (s1 : Int32) (s2 : Int64) (s3 : Int64) (s4 : Int64) (H : Heap) (locs : List Loc) (ls : Array Slot), f_X11_onwards_J54 M s0 s1 s2 s3 s4 = some r → Hp b0 D cy M H → va_S (BA b0) s.heap H locs → lv_has ls 6 [] → W p l e rm_X11_onwards s m args below meth c H locs 0 0 (MQ below (Qm b0 D cy M (some (.long r))) args s 0 0 (BA b0)) (F0 m 54 ls [.long s4, .long s3, .long s2, .int s1, .ref s0]) := by
  obtain ⟨hx, hb, hr, hml, hown0, hts, hlk, hK, hN, hb0, hnm⟩ := id CX
  have hown : s.vm.findClass RX11 = some m.cls := hown0
  intro s0 s1 s2 s3 s4 H locs ls hF hP hS hl
  unfold f_X11_onwards_J54 at hF
  refine lv_lmul hx hb dX11_onwards_54 ?_
  refine lv_ladd hx hb dX11_onwards_55 ?_
  obtain ⟨v2, h1, hF⟩ := ob_some hF
  refine xr_call1 (va_runV (As := [.int s1, .long (s2 + (s3 * s4))]) (rest := []) ⟨hx, hb, hml, hown, hts⟩ (ct_X11_cut l b0 D cy M s0 s1 (s2 + (s3 * s4)) v2 h1) (cwV 2 hts gX11_onwards_X11_cut rfl rfl rfl (by decide +kernel) ⟨Nat.le_of_ble_eq_true rfl, Nat.le_of_ble_eq_true rfl⟩) (xp_V hP hK hN hS hb0 11 rfl (gk_X11_cut h1)) rfl rfl hl.1 rfl (lv_room (Nat.le_of_ble_eq_true rfl)) dX11_onwards_56 ⟨Nat.le_of_ble_eq_true rfl, Nat.le_of_ble_eq_true rfl⟩) hS (fun H locs hP hS => ?_)
  cases hF
  exact W.lret hx hb hr (fun t ht hW => ⟨rfl, by rw [ht]; exact hP, hS.F ht⟩) hS.2.2 dX11_onwards_59 hlk
theorem gk_X11_onwards {M : Mm} {a0 : Nat} {a1 : Int32} {a2 : Int64} {a4 : Int32} {a5 : Int32} {r : Int64} (h : f_X11_onwards M a0 a1 a2 a4 a5 = some r) : mK M a0 = 12 := by
  unfold f_X11_onwards at h
  exact (if_some h).1
set_option maxHeartbeats 4000000 in
set_option maxRecDepth 100000 in
theorem ct_X11_onwards (l : Launch) (b0 : Nat) (D : va_G) (cy : Nat → ClassId) (M : Mm) (a0 : Nat) (a1 : Int32) (a2 : Int64) (a4 : Int32) (a5 : Int32) (r : Int64) (hF : f_X11_onwards M a0 a1 a2 a4 a5 = some r) : Met l yX11_onwards wsX11_onwards rm_X11_onwards (va_Pc [.ref a0, .int a1, .long a2, .int a4, .int a5] (Pm b0 D cy M)) (Qm b0 D cy M (some (.long r))) 0 0 (BA b0) := by
  refine ct_of [.ref a0, .int a1, .long a2, .int a4, .int a5] (by decide) rfl ?_
  intro p e s m below meth c CX hP
  obtain ⟨hx, hb, hr, hml, hown0, hts, hlk, hK, hN, hb0, hnm⟩ := id CX
  have hown : s.vm.findClass RX11 = some m.cls := hown0
  have hS : va_S (BA b0) s.heap s.heap [] := va_S.rf
  have hl := lv_entry [.ref a0, .int a1, .long a2, .int a4, .int a5] (n := 6) (Nat.le_of_ble_eq_true rfl)
  generalize (lg_sl [.ref a0, .int a1, .long a2, .int a4, .int a5] ++ List.replicate (6 - (lg_sl [.ref a0, .int a1, .long a2, .int a4, .int a5]).length) Slot.unset).toArray = ls at hl ⊢
  have hl : lv_has ls 6 [(0, .ref a0), (1, .int a1), (2, .long a2), (4, .int a4), (5, .int a5)] := hl
  unfold f_X11_onwards at hF
  replace hF := (if_some hF).2
  refine lv_aload_n hx hb dX11_onwards_0 rfl (lv_at hl 0 rfl) ?_
  refine xr_getR hx hb hts iw_X11_onwards_11 hown hK hP hF 11 2 rfl (by decide) (by decide +kernel) ⟨rfl, rfl, rfl⟩ dX11_onwards_1 (fun v1 hF => ?_)
  refine lv_iload_n hx hb dX11_onwards_4 rfl (lv_at hl 1 rfl) ?_
  refine xr_aI hx hb hK hP hF dX11_onwards_5 (fun v2 hF => ?_)
  refine lv_iconst (v := 4) hx hb dX11_onwards_6 (by decide) ?_
  refine lv_icmp_ne (tgt := 12) hx hb dX11_onwards_7 (by decide) (fun c3 => ?_) (fun c3 => ?_)
  · replace hF := it_f hF c3
    refine lv_aload_n hx hb dX11_onwards_12 rfl (lv_at hl 0 rfl) ?_
    refine xr_getR hx hb hts iw_X11_onwards_11 hown hK hP hF 11 2 rfl (by decide) (by decide +kernel) ⟨rfl, rfl, rfl⟩ dX11_onwards_13 (fun v4 hF => ?_)
    refine lv_iload_n hx hb dX11_onwards_16 rfl (lv_at hl 1 rfl) ?_
    refine xr_aI hx hb hK hP hF dX11_onwards_17 (fun v5 hF => ?_)
    refine lv_iconst (v := 2) hx hb dX11_onwards_18 (by decide) ?_
    refine lv_icmp_ge (tgt := 24) hx hb dX11_onwards_19 (by decide) (fun c6 => ?_) (fun c6 => ?_)
    · replace hF := it_t hF c6
      refine lv_aload_n hx hb dX11_onwards_24 rfl (lv_at hl 0 rfl) ?_
      refine lv_iload_n hx hb dX11_onwards_25 rfl (lv_at hl 1 rfl) ?_
      refine lv_lload_n hx hb dX11_onwards_26 rfl (lv_at hl 2 rfl) ?_
      refine lv_iload hx hb dX11_onwards_27 (lv_at hl 3 rfl) ?_
      refine lv_i2l hx hb dX11_onwards_29 rfl ?_
      refine lv_iload hx hb dX11_onwards_30 (lv_at hl 4 rfl) ?_
      refine lv_i2l hx hb dX11_onwards_32 rfl ?_
      refine lv_lmul hx hb dX11_onwards_33 ?_
      refine lv_aload_n hx hb dX11_onwards_34 rfl (lv_at hl 0 rfl) ?_
      refine xr_getR hx hb hts iw_X11_onwards_11 hown hK hP hF 11 2 rfl (by decide) (by decide +kernel) ⟨rfl, rfl, rfl⟩ dX11_onwards_35 (fun v7 hF => ?_)
      refine lv_iload_n hx hb dX11_onwards_38 rfl (lv_at hl 1 rfl) ?_
      refine xr_aI hx hb hK hP hF dX11_onwards_39 (fun v8 hF => ?_)
      refine lv_iconst (v := 3) hx hb dX11_onwards_40 (by decide) ?_
      refine lv_icmp_ne (tgt := 53) hx hb dX11_onwards_41 (by decide) (fun c9 => ?_) (fun c9 => ?_)
      · replace hF := it_f hF c9
        refine lv_lconst (v := 1) hx hb dX11_onwards_53 (by decide) ?_
        exact nd_X11_onwards_54 CX _ _ _ _ _ _ _ _ hF hP hS (lv_sub hl [] rfl)
      · replace hF := it_t hF c9
        refine lv_aload_n hx hb dX11_onwards_44 rfl (lv_at hl 0 rfl) ?_
        refine xr_getR hx hb hts iw_X11_onwards_11 hown hK hP hF 11 5 rfl (by decide) (by decide +kernel) ⟨rfl, rfl, rfl⟩ dX11_onwards_45 (fun v10 hF => ?_)
        refine lv_iload_n hx hb dX11_onwards_48 rfl (lv_at hl 1 rfl) ?_
        refine xr_aJ hx hb hK hP hF dX11_onwards_49 (fun v11 hF => ?_)
        refine lv_goto (tgt := 54) hx hb dX11_onwards_50 (by decide) ?_
        exact nd_X11_onwards_54 CX _ _ _ _ _ _ _ _ hF hP hS (lv_sub hl [] rfl)
    · replace hF := it_f hF c6
      refine lv_lload_n hx hb dX11_onwards_22 rfl (lv_at hl 2 rfl) ?_
      cases hF
      exact W.lret hx hb hr (fun t ht hW => ⟨rfl, by rw [ht]; exact hP, hS.F ht⟩) hS.2.2 dX11_onwards_23 hlk
  · replace hF := it_t hF c3
    refine lv_lconst (v := 0) hx hb dX11_onwards_10 (by decide) ?_
    cases hF
    exact W.lret hx hb hr (fun t ht hW => ⟨rfl, by rw [ht]; exact hP, hS.F ht⟩) hS.2.2 dX11_onwards_11 hlk
/-! X11_given -/
theorem iw_X11_given_11 : ∀ w ∈ u_ws RX11 TX11 58, w ∈ wsX11_given := by decide +kernel
abbrev rm_X11_given : Room := { frames := 2, cells := 0, slots := 0, locals := 48 }
theorem gk_X11_given {M : Mm} {a0 : Nat} {a1 : Int32} {a2 : Int32} {a3 : Int32} {a4 : Int32} {r : Int64} (h : f_X11_given M a0 a1 a2 a3 a4 = some r) : mK M a0 = 12 := by
  unfold f_X11_given at h
  exact (if_some h).1
set_option maxHeartbeats 4000000 in
set_option maxRecDepth 100000 in
theorem ct_X11_given (l : Launch) (b0 : Nat) (D : va_G) (cy : Nat → ClassId) (M : Mm) (a0 : Nat) (a1 : Int32) (a2 : Int32) (a3 : Int32) (a4 : Int32) (r : Int64) (hF : f_X11_given M a0 a1 a2 a3 a4 = some r) : Met l yX11_given wsX11_given rm_X11_given (va_Pc [.ref a0, .int a1, .int a2, .int a3, .int a4] (Pm b0 D cy M)) (Qm b0 D cy M (some (.long r))) 0 0 (BA b0) := by
  refine ct_of [.ref a0, .int a1, .int a2, .int a3, .int a4] (by decide) rfl ?_
  intro p e s m below meth c CX hP
  obtain ⟨hx, hb, hr, hml, hown0, hts, hlk, hK, hN, hb0, hnm⟩ := id CX
  have hown : s.vm.findClass RX11 = some m.cls := hown0
  have hS : va_S (BA b0) s.heap s.heap [] := va_S.rf
  have hl := lv_entry [.ref a0, .int a1, .int a2, .int a3, .int a4] (n := 6) (Nat.le_of_ble_eq_true rfl)
  generalize (lg_sl [.ref a0, .int a1, .int a2, .int a3, .int a4] ++ List.replicate (6 - (lg_sl [.ref a0, .int a1, .int a2, .int a3, .int a4]).length) Slot.unset).toArray = ls at hl ⊢
  have hl : lv_has ls 6 [(0, .ref a0), (1, .int a1), (2, .int a2), (3, .int a3), (4, .int a4)] := hl
  unfold f_X11_given at hF
  replace hF := (if_some hF).2
  refine lv_aload_n hx hb dX11_given_0 rfl (lv_at hl 0 rfl) ?_
  refine xr_getR hx hb hts iw_X11_given_11 hown hK hP hF 11 2 rfl (by decide) (by decide +kernel) ⟨rfl, rfl, rfl⟩ dX11_given_1 (fun v1 hF => ?_)
  refine lv_iload_n hx hb dX11_given_4 rfl (lv_at hl 3 rfl) ?_
  refine xr_aI hx hb hK hP hF dX11_given_5 (fun v2 hF => ?_)
  refine lv_iconst (v := 1) hx hb dX11_given_6 (by decide) ?_
  refine lv_icmp_ne (tgt := 34) hx hb dX11_given_7 (by decide) (fun c3 => ?_) (fun c3 => ?_)
  · replace hF := it_f hF c3
    refine lv_bipush (v := 9) hx hb dX11_given_34 (by decide) ?_
    refine lv_iload_n hx hb dX11_given_36 rfl (lv_at hl 1 rfl) ?_
    refine lv_imul hx hb dX11_given_37 ?_
    refine lv_iload_n hx hb dX11_given_38 rfl (lv_at hl 2 rfl) ?_
    refine lv_iadd hx hb dX11_given_39 ?_
    refine lv_istore (lv' := [(5, .int ((9 * a1) + a2)), (0, .ref a0), (1, .int a1), (2, .int a2), (3, .int a3), (4, .int a4)]) hx hb dX11_given_40 hl (by decide) (by first | rfl | simp [cat_rf]) (fun ls hl => ?_)
    refine lv_aload_n hx hb dX11_given_42 rfl (lv_at hl 1 rfl) ?_
    refine lv_iload_n hx hb dX11_given_43 rfl (lv_at hl 4 rfl) ?_
    refine lv_aload_n hx hb dX11_given_44 rfl (lv_at hl 1 rfl) ?_
    refine xr_getR hx hb hts iw_X11_given_11 hown hK hP hF 11 15 rfl (by decide) (by decide +kernel) ⟨rfl, rfl, rfl⟩ dX11_given_45 (fun v4 hF => ?_)
    refine lv_bipush (v := 8) hx hb dX11_given_48 (by decide) ?_
    refine lv_iload hx hb dX11_given_50 (lv_at hl 0 rfl) ?_
    refine lv_imul hx hb dX11_given_52 ?_
    refine lv_iload_n hx hb dX11_given_53 rfl (lv_at hl 4 rfl) ?_
    refine lv_iadd hx hb dX11_given_54 ?_
    refine xr_aJ hx hb hK hP hF dX11_given_55 (fun v5 hF => ?_)
    refine lv_iload hx hb dX11_given_56 (lv_at hl 5 rfl) ?_
    refine lv_aload_n hx hb dX11_given_58 rfl (lv_at hl 1 rfl) ?_
    refine xr_getR hx hb hts iw_X11_given_11 hown hK hP hF 11 14 rfl (by decide) (by decide +kernel) ⟨rfl, rfl, rfl⟩ dX11_given_59 (fun v6 hF => ?_)
    refine lv_iload hx hb dX11_given_62 (lv_at hl 0 rfl) ?_
    refine xr_aI hx hb hK hP hF dX11_given_64 (fun v7 hF => ?_)
    refine lv_isub hx hb dX11_given_65 ?_
    refine lv_aload_n hx hb dX11_given_66 rfl (lv_at hl 1 rfl) ?_
    refine xr_getR hx hb hts iw_X11_given_11 hown hK hP hF 11 11 rfl (by decide) (by decide +kernel) ⟨rfl, rfl, rfl⟩ dX11_given_67 (fun v8 hF => ?_)
    refine lv_bipush (v := 8) hx hb dX11_given_70 (by decide) ?_
    refine lv_iload_n hx hb dX11_given_72 rfl (lv_at hl 2 rfl) ?_
    refine lv_imul hx hb dX11_given_73 ?_
    refine lv_iload_n hx hb dX11_given_74 rfl (lv_at hl 4 rfl) ?_
    refine lv_iadd hx hb dX11_given_75 ?_
    refine xr_aI hx hb hK hP hF dX11_given_76 (fun v9 hF => ?_)
    obtain ⟨v11, h10, hF⟩ := ob_some hF
    refine xr_call1 (va_runV (As := [.int a3, .long v5, .int (a4 - v7), .int v9]) (rest := []) ⟨hx, hb, hml, hown, hts⟩ (ct_X11_onwards l b0 D cy M a0 a3 v5 (a4 - v7) v9 v11 h10) (cwV 4 hts gX11_given_X11_onwards rfl rfl rfl (by decide +kernel) ⟨Nat.le_of_ble_eq_true rfl, Nat.le_of_ble_eq_true rfl⟩) (xp_V hP hK hN hS hb0 11 rfl (gk_X11_onwards h10)) rfl rfl hl.1 rfl (lv_room (Nat.le_of_ble_eq_true rfl)) dX11_given_77 ⟨Nat.le_of_ble_eq_true rfl, Nat.le_of_ble_eq_true rfl⟩) hS (fun H locs hP hS => ?_)
    cases hF
    exact W.lret hx hb hr (fun t ht hW => ⟨rfl, by rw [ht]; exact hP, hS.F ht⟩) hS.2.2 dX11_given_80 hlk
  · replace hF := it_t hF c3
    refine lv_aload_n hx hb dX11_given_10 rfl (lv_at hl 0 rfl) ?_
    refine lv_iload_n hx hb dX11_given_11 rfl (lv_at hl 3 rfl) ?_
    refine lv_aload_n hx hb dX11_given_12 rfl (lv_at hl 0 rfl) ?_
    refine xr_getR hx hb hts iw_X11_given_11 hown hK hP hF 11 8 rfl (by decide) (by decide +kernel) ⟨rfl, rfl, rfl⟩ dX11_given_13 (fun v12 hF => ?_)
    refine lv_aload_n hx hb dX11_given_16 rfl (lv_at hl 0 rfl) ?_
    refine xr_getR hx hb hts iw_X11_given_11 hown hK hP hF 11 4 rfl (by decide) (by decide +kernel) ⟨rfl, rfl, rfl⟩ dX11_given_17 (fun v13 hF => ?_)
    refine lv_iload_n hx hb dX11_given_20 rfl (lv_at hl 3 rfl) ?_
    refine xr_aI hx hb hK hP hF dX11_given_21 (fun v14 hF => ?_)
    refine xr_aJ hx hb hK hP hF dX11_given_22 (fun v15 hF => ?_)
    refine lv_aload_n hx hb dX11_given_23 rfl (lv_at hl 0 rfl) ?_
    refine xr_getR hx hb hts iw_X11_given_11 hown hK hP hF 11 5 rfl (by decide) (by decide +kernel) ⟨rfl, rfl, rfl⟩ dX11_given_24 (fun v16 hF => ?_)
    refine lv_iload_n hx hb dX11_given_27 rfl (lv_at hl 3 rfl) ?_
    refine xr_aJ hx hb hK hP hF dX11_given_28 (fun v17 hF => ?_)
    refine lv_ladd hx hb dX11_given_29 ?_
    obtain ⟨v19, h18, hF⟩ := ob_some hF
    refine xr_call1 (va_runV (As := [.int a3, .long (v15 + v17)]) (rest := []) ⟨hx, hb, hml, hown, hts⟩ (ct_X11_cut l b0 D cy M a0 a3 (v15 + v17) v19 h18) (cwV 2 hts gX11_given_X11_cut rfl rfl rfl (by decide +kernel) ⟨Nat.le_of_ble_eq_true rfl, Nat.le_of_ble_eq_true rfl⟩) (xp_V hP hK hN hS hb0 11 rfl (gk_X11_cut h18)) rfl rfl hl.1 rfl (lv_room (Nat.le_of_ble_eq_true rfl)) dX11_given_30 ⟨Nat.le_of_ble_eq_true rfl, Nat.le_of_ble_eq_true rfl⟩) hS (fun H locs hP hS => ?_)
    cases hF
    exact W.lret hx hb hr (fun t ht hW => ⟨rfl, by rw [ht]; exact hP, hS.F ht⟩) hS.2.2 dX11_given_33 hlk
/-! X11_finds -/
abbrev rm_X11_finds : Room := { frames := 1, cells := 0, slots := 0, locals := 23 }
theorem gk_X11_finds {M : Mm} {a0 : Nat} {a1 : Int32} {a2 : Int64} {a4 : Int64} {a6 : Int32} {r : Int32} (h : f_X11_finds M a0 a1 a2 a4 a6 = some r) : mK M a0 = 12 := by
  unfold f_X11_finds at h
  exact (if_some h).1
set_option maxHeartbeats 4000000 in
set_option maxRecDepth 100000 in
theorem ct_X11_finds (l : Launch) (b0 : Nat) (D : va_G) (cy : Nat → ClassId) (M : Mm) (a0 : Nat) (a1 : Int32) (a2 : Int64) (a4 : Int64) (a6 : Int32) (r : Int32) (hF : f_X11_finds M a0 a1 a2 a4 a6 = some r) : Met l yX11_finds wsX11_finds rm_X11_finds (va_Pc [.ref a0, .int a1, .long a2, .long a4, .int a6] (Pm b0 D cy M)) (Qm b0 D cy M (some (.int r))) 0 0 (BA b0) := by
  refine ct_of [.ref a0, .int a1, .long a2, .long a4, .int a6] (by decide) rfl ?_
  intro p e s m below meth c CX hP
  obtain ⟨hx, hb, hr, hml, hown0, hts, hlk, hK, hN, hb0, hnm⟩ := id CX
  have hown : s.vm.findClass RX11 = some m.cls := hown0
  have hS : va_S (BA b0) s.heap s.heap [] := va_S.rf
  have hl := lv_entry [.ref a0, .int a1, .long a2, .long a4, .int a6] (n := 7) (Nat.le_of_ble_eq_true rfl)
  generalize (lg_sl [.ref a0, .int a1, .long a2, .long a4, .int a6] ++ List.replicate (7 - (lg_sl [.ref a0, .int a1, .long a2, .long a4, .int a6]).length) Slot.unset).toArray = ls at hl ⊢
  have hl : lv_has ls 7 [(0, .ref a0), (1, .int a1), (2, .long a2), (4, .long a4), (6, .int a6)] := hl
  unfold f_X11_finds at hF
  replace hF := (if_some hF).2
  refine lv_iload hx hb dX11_finds_0 (lv_at hl 4 rfl) ?_
  refine lv_if_ne (tgt := 20) hx hb dX11_finds_2 (by decide) (fun c1 => ?_) (fun c1 => ?_)
  · replace hF := it_f hF c1
    refine lv_aload_n hx hb dX11_finds_20 rfl (lv_at hl 0 rfl) ?_
    refine lv_iload_n hx hb dX11_finds_21 rfl (lv_at hl 1 rfl) ?_
    refine lv_lload hx hb dX11_finds_22 (lv_at hl 3 rfl) ?_
    refine lv_lload_n hx hb dX11_finds_24 rfl (lv_at hl 2 rfl) ?_
    refine lv_lsub hx hb dX11_finds_25 ?_
    refine lv_lconst (v := 1) hx hb dX11_finds_26 (by decide) ?_
    refine lv_iload hx hb dX11_finds_27 (lv_at hl 4 rfl) ?_
    refine lv_iconst (v := 1) hx hb dX11_finds_29 (by decide) ?_
    refine lv_isub hx hb dX11_finds_30 ?_
    refine lv_lshl hx hb dX11_finds_31 rfl ?_
    refine lv_ladd hx hb dX11_finds_32 ?_
    obtain ⟨v3, h2, hF⟩ := ob_some hF
    refine xr_call1 (va_runV (As := [.int a1, .long ((a4 - a2) + ((1 : Int64) <<< ((a6 - 1).toInt64 &&& 63)))]) (rest := []) ⟨hx, hb, hml, hown, hts⟩ (ct_X11_cut l b0 D cy M a0 a1 ((a4 - a2) + ((1 : Int64) <<< ((a6 - 1).toInt64 &&& 63))) v3 h2) (cwV 2 hts gX11_finds_X11_cut rfl rfl rfl (by decide +kernel) ⟨Nat.le_of_ble_eq_true rfl, Nat.le_of_ble_eq_true rfl⟩) (xp_V hP hK hN hS hb0 11 rfl (gk_X11_cut h2)) rfl rfl hl.1 rfl (lv_room (Nat.le_of_ble_eq_true rfl)) dX11_finds_33 ⟨Nat.le_of_ble_eq_true rfl, Nat.le_of_ble_eq_true rfl⟩) hS (fun H locs hP hS => ?_)
    refine lv_lconst (v := 1) hx hb dX11_finds_36 (by decide) ?_
    refine lv_iload hx hb dX11_finds_37 (lv_at hl 4 rfl) ?_
    refine lv_lshl hx hb dX11_finds_39 rfl ?_
    refine W.lcmp hx hb dX11_finds_40 ?_
    refine lv_if_ge (tgt := 48) hx hb dX11_finds_41 (by decide) (fun c4 => ?_) (fun c4 => ?_)
    · replace hF := it_t hF c4
      refine lv_iconst (v := 0) hx hb dX11_finds_48 (by decide) ?_
      cases hF
      exact W.zret hx hb hr rfl (fun t ht hW => ⟨rfl, by rw [ht]; exact hP, hS.F ht⟩) hS.2.2 dX11_finds_49 hlk
    · replace hF := it_f hF c4
      refine lv_iconst (v := 1) hx hb dX11_finds_44 (by decide) ?_
      refine lv_goto (tgt := 49) hx hb dX11_finds_45 (by decide) ?_
      cases hF
      exact W.zret hx hb hr rfl (fun t ht hW => ⟨rfl, by rw [ht]; exact hP, hS.F ht⟩) hS.2.2 dX11_finds_49 hlk
  · replace hF := it_t hF c1
    refine lv_lload_n hx hb dX11_finds_5 rfl (lv_at hl 2 rfl) ?_
    refine lv_lload hx hb dX11_finds_6 (lv_at hl 3 rfl) ?_
    refine W.lcmp hx hb dX11_finds_8 ?_
    refine lv_if_ne (tgt := 16) hx hb dX11_finds_9 (by decide) (fun c5 => ?_) (fun c5 => ?_)
    · replace hF := it_f hF c5
      refine lv_iconst (v := 0) hx hb dX11_finds_16 (by decide) ?_
      refine lv_goto (tgt := 49) hx hb dX11_finds_17 (by decide) ?_
      cases hF
      exact W.zret hx hb hr rfl (fun t ht hW => ⟨rfl, by rw [ht]; exact hP, hS.F ht⟩) hS.2.2 dX11_finds_49 hlk
    · replace hF := it_t hF c5
      refine lv_iconst (v := 1) hx hb dX11_finds_12 (by decide) ?_
      refine lv_goto (tgt := 49) hx hb dX11_finds_13 (by decide) ?_
      cases hF
      exact W.zret hx hb hr rfl (fun t ht hW => ⟨rfl, by rw [ht]; exact hP, hS.F ht⟩) hS.2.2 dX11_finds_49 hlk
/-! X11_giveAll -/
theorem iw_X11_giveAll_11 : ∀ w ∈ u_ws RX11 TX11 58, w ∈ wsX11_giveAll := by decide +kernel
abbrev rm_X11_giveAll : Room := { frames := 3, cells := 0, slots := 0, locals := 73 }
set_option maxHeartbeats 4000000 in
set_option maxRecDepth 100000 in
theorem nd_X11_giveAll_46 {p : Program} {l : Launch} {e : Env} {s : State} {m : MethodId} {args : Array Value} {below : List Frame} {meth : Method} {c : Code} {b0 : Nat} {D : va_G} {cy : Nat → ClassId} {r : Int32} {M : Mm} (CX : Cx yX11_giveAll cX11_giveAll 6 (some .boolean) wsX11_giveAll b0 D cy p s m args meth c) (k6 : Nat → Int32 → Int32 → Int32 → Int32 → Int32 → Option Int32) (hk6 : ∀ (x0 : Nat) (x1 : Int32) (x2 : Int32) (x3 : Int32) (x4 : Int32) (x5 : Int32) (H : Heap) (locs : List Loc) (ls : Array Slot), k6 x0 x1 x2 x3 x4 x5 = some r → Hp b0 D cy M H → va_S (BA b0) s.heap H locs → lv_has ls 6 [(0, .ref x0), (1, .int x1), (2, .int x2), (3, .int x3), (4, .int x4), (5, .int x5)] → W p l e rm_X11_giveAll s m args below meth c H locs 0 0 (MQ below (Qm b0 D cy M (some (.int r))) args s 0 0 (BA b0)) (F0 m 6 ls [])) : ∀ (x0 : Nat) (x1 : Int32) (x2 : Int32) (x3 : Int32) (x5 : Int32) (s0 : Int32) (H : Heap) (locs : List Loc) (ls : Array Slot), f_X11_giveAll_J46 k6 M x0 x1 x2 x3 x5 s0 = some r → Hp b0 D cy M H → va_S (BA b0) s.heap H locs → lv_has ls 6 [(0, .ref x0), (1, .int x1), (2, .int x2), (3, .int x3), (5, .int x5)] → W p l e rm_X11_giveAll s m args below meth c H locs 0 0 (MQ below (Qm b0 D cy M (some (.int r))) args s 0 0 (BA b0)) (F0 m 46 ls [.int s0]) := by
  obtain ⟨hx, hb, hr, hml, hown0, hts, hlk, hK, hN, hb0, hnm⟩ := id CX
  have hown : s.vm.findClass RX11 = some m.cls := hown0
  intro x0 x1 x2 x3 x5 s0 H locs ls hF hP hS hl
  unfold f_X11_giveAll_J46 at hF
  refine lv_istore (lv' := [(4, .int s0), (0, .ref x0), (1, .int x1), (2, .int x2), (3, .int x3), (5, .int x5)]) hx hb dX11_giveAll_46 hl (by decide) (by first | rfl | simp [cat_rf]) (fun ls hl => ?_)
  refine lv_iinc (v := x5 + 1) (lv' := [(5, .int (x5 + 1)), (4, .int s0), (0, .ref x0), (1, .int x1), (2, .int x2), (3, .int x3)]) hx hb dX11_giveAll_48 hl (k := 5) rfl (by rfl) (by decide) rfl (fun ls hl => ?_)
  refine lv_goto (tgt := 6) hx hb dX11_giveAll_51 (by decide) ?_
  exact hk6 _ _ _ _ _ _ _ _ _ hF hP hS (lv_sub hl [2, 3, 4, 5, 1, 0] rfl)
set_option maxHeartbeats 4000000 in
set_option maxRecDepth 100000 in
theorem nd_X11_giveAll_45 {p : Program} {l : Launch} {e : Env} {s : State} {m : MethodId} {args : Array Value} {below : List Frame} {meth : Method} {c : Code} {b0 : Nat} {D : va_G} {cy : Nat → ClassId} {r : Int32} {M : Mm} (CX : Cx yX11_giveAll cX11_giveAll 6 (some .boolean) wsX11_giveAll b0 D cy p s m args meth c) (k6 : Nat → Int32 → Int32 → Int32 → Int32 → Int32 → Option Int32) (hk6 : ∀ (x0 : Nat) (x1 : Int32) (x2 : Int32) (x3 : Int32) (x4 : Int32) (x5 : Int32) (H : Heap) (locs : List Loc) (ls : Array Slot), k6 x0 x1 x2 x3 x4 x5 = some r → Hp b0 D cy M H → va_S (BA b0) s.heap H locs → lv_has ls 6 [(0, .ref x0), (1, .int x1), (2, .int x2), (3, .int x3), (4, .int x4), (5, .int x5)] → W p l e rm_X11_giveAll s m args below meth c H locs 0 0 (MQ below (Qm b0 D cy M (some (.int r))) args s 0 0 (BA b0)) (F0 m 6 ls [])) : ∀ (x0 : Nat) (x1 : Int32) (x2 : Int32) (x3 : Int32) (x5 : Int32) (H : Heap) (locs : List Loc) (ls : Array Slot), f_X11_giveAll_J45 k6 M x0 x1 x2 x3 x5 = some r → Hp b0 D cy M H → va_S (BA b0) s.heap H locs → lv_has ls 6 [(0, .ref x0), (1, .int x1), (2, .int x2), (3, .int x3), (5, .int x5)] → W p l e rm_X11_giveAll s m args below meth c H locs 0 0 (MQ below (Qm b0 D cy M (some (.int r))) args s 0 0 (BA b0)) (F0 m 45 ls []) := by
  obtain ⟨hx, hb, hr, hml, hown0, hts, hlk, hK, hN, hb0, hnm⟩ := id CX
  have hown : s.vm.findClass RX11 = some m.cls := hown0
  intro x0 x1 x2 x3 x5 H locs ls hF hP hS hl
  unfold f_X11_giveAll_J45 at hF
  refine lv_iconst (v := 0) hx hb dX11_giveAll_45 (by decide) ?_
  exact nd_X11_giveAll_46 CX k6 hk6 _ _ _ _ _ _ _ _ _ hF hP hS (lv_sub hl [0, 1, 2, 3, 4] rfl)
set_option maxHeartbeats 4000000 in
set_option maxRecDepth 100000 in
theorem nd_X11_giveAll_6 {p : Program} {l : Launch} {e : Env} {s : State} {m : MethodId} {args : Array Value} {below : List Frame} {meth : Method} {c : Code} {b0 : Nat} {D : va_G} {cy : Nat → ClassId} {r : Int32} {M : Mm} (CX : Cx yX11_giveAll cX11_giveAll 6 (some .boolean) wsX11_giveAll b0 D cy p s m args meth c) : ∀ (fu : Nat), ∀ (x0 : Nat) (x1 : Int32) (x2 : Int32) (x3 : Int32) (x4 : Int32) (x5 : Int32) (H : Heap) (locs : List Loc) (ls : Array Slot), f_X11_giveAll_L6 M fu x0 x1 x2 x3 x4 x5 = some r → Hp b0 D cy M H → va_S (BA b0) s.heap H locs → lv_has ls 6 [(0, .ref x0), (1, .int x1), (2, .int x2), (3, .int x3), (4, .int x4), (5, .int x5)] → W p l e rm_X11_giveAll s m args below meth c H locs 0 0 (MQ below (Qm b0 D cy M (some (.int r))) args s 0 0 (BA b0)) (F0 m 6 ls []) := by
  obtain ⟨hx, hb, hr, hml, hown0, hts, hlk, hK, hN, hb0, hnm⟩ := id CX
  have hown : s.vm.findClass RX11 = some m.cls := hown0
  intro fu
  induction fu with
  | zero =>
    intro x0 x1 x2 x3 x4 x5 H locs ls hF hP hS hl
    rw [f_X11_giveAll_L6] at hF
    cases hF
  | succ fu ih =>
    intro x0 x1 x2 x3 x4 x5 H locs ls hF hP hS hl
    rw [f_X11_giveAll_L6] at hF
    refine lv_iload hx hb dX11_giveAll_6 (lv_at hl 5 rfl) ?_
    refine lv_aload_n hx hb dX11_giveAll_8 rfl (lv_at hl 0 rfl) ?_
    refine xr_getR hx hb hts iw_X11_giveAll_11 hown hK hP hF 11 13 rfl (by decide) (by decide +kernel) ⟨rfl, rfl, rfl⟩ dX11_giveAll_9 (fun v1 hF => ?_)
    refine lv_iload_n hx hb dX11_giveAll_12 rfl (lv_at hl 1 rfl) ?_
    refine xr_aI hx hb hK hP hF dX11_giveAll_13 (fun v2 hF => ?_)
    refine lv_icmp_ge (tgt := 54) hx hb dX11_giveAll_14 (by decide) (fun c3 => ?_) (fun c3 => ?_)
    · replace hF := it_t hF c3
      refine lv_iload hx hb dX11_giveAll_54 (lv_at hl 4 rfl) ?_
      obtain ⟨hz4, hF⟩ := if_some hF
      cases hF
      exact W.zret hx hb hr (nz01 hz4) (fun t ht hW => ⟨rfl, by rw [ht]; exact hP, hS.F ht⟩) hS.2.2 dX11_giveAll_56 hlk
    · replace hF := it_f hF c3
      refine lv_iload hx hb dX11_giveAll_17 (lv_at hl 4 rfl) ?_
      refine lv_if_eq (tgt := 45) hx hb dX11_giveAll_19 (by decide) (fun c5 => ?_) (fun c5 => ?_)
      · replace hF := it_t hF c5
        exact nd_X11_giveAll_45 CX (f_X11_giveAll_L6 M fu) ih _ _ _ _ _ _ _ _ hF hP hS (lv_sub hl [0, 1, 2, 3, 5] rfl)
      · replace hF := it_f hF c5
        refine lv_aload_n hx hb dX11_giveAll_22 rfl (lv_at hl 0 rfl) ?_
        refine lv_iload_n hx hb dX11_giveAll_23 rfl (lv_at hl 1 rfl) ?_
        refine lv_iload hx hb dX11_giveAll_24 (lv_at hl 5 rfl) ?_
        refine lv_iload_n hx hb dX11_giveAll_26 rfl (lv_at hl 2 rfl) ?_
        refine lv_iload_n hx hb dX11_giveAll_27 rfl (lv_at hl 3 rfl) ?_
        obtain ⟨v7, h6, hF⟩ := ob_some hF
        refine xr_call1 (va_runV (As := [.int x1, .int x5, .int x2, .int x3]) (rest := []) ⟨hx, hb, hml, hown, hts⟩ (ct_X11_given l b0 D cy M x0 x1 x5 x2 x3 v7 h6) (cwV 4 hts gX11_giveAll_X11_given rfl rfl rfl (by decide +kernel) ⟨Nat.le_of_ble_eq_true rfl, Nat.le_of_ble_eq_true rfl⟩) (xp_V hP hK hN hS hb0 11 rfl (gk_X11_given h6)) rfl rfl hl.1 rfl (lv_room (Nat.le_of_ble_eq_true rfl)) dX11_giveAll_28 ⟨Nat.le_of_ble_eq_true rfl, Nat.le_of_ble_eq_true rfl⟩) hS (fun H locs hP hS => ?_)
        refine lv_aload_n hx hb dX11_giveAll_31 rfl (lv_at hl 0 rfl) ?_
        refine xr_getR hx hb hts iw_X11_giveAll_11 hown hK hP hF 11 8 rfl (by decide) (by decide +kernel) ⟨rfl, rfl, rfl⟩ dX11_giveAll_32 (fun v8 hF => ?_)
        refine lv_iload_n hx hb dX11_giveAll_35 rfl (lv_at hl 2 rfl) ?_
        refine xr_aJ hx hb hK hP hF dX11_giveAll_36 (fun v9 hF => ?_)
        refine W.lcmp hx hb dX11_giveAll_37 ?_
        refine lv_if_ne (tgt := 45) hx hb dX11_giveAll_38 (by decide) (fun c10 => ?_) (fun c10 => ?_)
        · replace hF := it_f hF c10
          exact nd_X11_giveAll_45 CX (f_X11_giveAll_L6 M fu) ih _ _ _ _ _ _ _ _ hF hP hS (lv_sub hl [0, 1, 2, 3, 5] rfl)
        · replace hF := it_t hF c10
          refine lv_iconst (v := 1) hx hb dX11_giveAll_41 (by decide) ?_
          refine lv_goto (tgt := 46) hx hb dX11_giveAll_42 (by decide) ?_
          exact nd_X11_giveAll_46 CX (f_X11_giveAll_L6 M fu) ih _ _ _ _ _ _ _ _ _ hF hP hS (lv_sub hl [0, 1, 2, 3, 5] rfl)
theorem gk_X11_giveAll {M : Mm} {a0 : Nat} {a1 : Int32} {a2 : Int32} {a3 : Int32} {r : Int32} (h : f_X11_giveAll M a0 a1 a2 a3 = some r) : mK M a0 = 12 := by
  unfold f_X11_giveAll at h
  exact (if_some h).1
set_option maxHeartbeats 4000000 in
set_option maxRecDepth 100000 in
theorem ct_X11_giveAll (l : Launch) (b0 : Nat) (D : va_G) (cy : Nat → ClassId) (M : Mm) (a0 : Nat) (a1 : Int32) (a2 : Int32) (a3 : Int32) (r : Int32) (hF : f_X11_giveAll M a0 a1 a2 a3 = some r) : Met l yX11_giveAll wsX11_giveAll rm_X11_giveAll (va_Pc [.ref a0, .int a1, .int a2, .int a3] (Pm b0 D cy M)) (Qm b0 D cy M (some (.int r))) 0 0 (BA b0) := by
  refine ct_of [.ref a0, .int a1, .int a2, .int a3] (by decide) rfl ?_
  intro p e s m below meth c CX hP
  obtain ⟨hx, hb, hr, hml, hown0, hts, hlk, hK, hN, hb0, hnm⟩ := id CX
  have hown : s.vm.findClass RX11 = some m.cls := hown0
  have hS : va_S (BA b0) s.heap s.heap [] := va_S.rf
  have hl := lv_entry [.ref a0, .int a1, .int a2, .int a3] (n := 6) (Nat.le_of_ble_eq_true rfl)
  generalize (lg_sl [.ref a0, .int a1, .int a2, .int a3] ++ List.replicate (6 - (lg_sl [.ref a0, .int a1, .int a2, .int a3]).length) Slot.unset).toArray = ls at hl ⊢
  have hl : lv_has ls 6 [(0, .ref a0), (1, .int a1), (2, .int a2), (3, .int a3)] := hl
  unfold f_X11_giveAll at hF
  replace hF := (if_some hF).2
  refine lv_iconst (v := 1) hx hb dX11_giveAll_0 (by decide) ?_
  refine lv_istore (lv' := [(4, .int 1), (0, .ref a0), (1, .int a1), (2, .int a2), (3, .int a3)]) hx hb dX11_giveAll_1 hl (by decide) (by first | rfl | simp [cat_rf]) (fun ls hl => ?_)
  refine lv_iconst (v := 0) hx hb dX11_giveAll_3 (by decide) ?_
  refine lv_istore (lv' := [(5, .int 0), (4, .int 1), (0, .ref a0), (1, .int a1), (2, .int a2), (3, .int a3)]) hx hb dX11_giveAll_4 hl (by decide) (by first | rfl | simp [cat_rf]) (fun ls hl => ?_)
  exact nd_X11_giveAll_6 CX _ _ _ _ _ _ _ _ _ _ hF hP hS (lv_sub hl [2, 3, 4, 5, 1, 0] rfl)
/-! X11_serves -/
theorem iw_X11_serves_11 : ∀ w ∈ u_ws RX11 TX11 58, w ∈ wsX11_serves := by decide +kernel
abbrev rm_X11_serves : Room := { frames := 3, cells := 0, slots := 0, locals := 73 }
set_option maxHeartbeats 4000000 in
set_option maxRecDepth 100000 in
theorem nd_X11_serves_52 {p : Program} {l : Launch} {e : Env} {s : State} {m : MethodId} {args : Array Value} {below : List Frame} {meth : Method} {c : Code} {b0 : Nat} {D : va_G} {cy : Nat → ClassId} {r : Int32} {M : Mm} (CX : Cx yX11_serves cX11_serves 7 (some .boolean) wsX11_serves b0 D cy p s m args meth c) (k6 : Nat → Int32 → Int32 → Int32 → Int32 → Int32 → Int32 → Option Int32) (hk6 : ∀ (x0 : Nat) (x1 : Int32) (x2 : Int32) (x3 : Int32) (x4 : Int32) (x5 : Int32) (x6 : Int32) (H : Heap) (locs : List Loc) (ls : Array Slot), k6 x0 x1 x2 x3 x4 x5 x6 = some r → Hp b0 D cy M H → va_S (BA b0) s.heap H locs → lv_has ls 7 [(0, .ref x0), (1, .int x1), (2, .int x2), (3, .int x3), (4, .int x4), (5, .int x5), (6, .int x6)] → W p l e rm_X11_serves s m args below meth c H locs 0 0 (MQ below (Qm b0 D cy M (some (.int r))) args s 0 0 (BA b0)) (F0 m 6 ls [])) : ∀ (x0 : Nat) (x1 : Int32) (x2 : Int32) (x3 : Int32) (x4 : Int32) (x6 : Int32) (s0 : Int32) (H : Heap) (locs : List Loc) (ls : Array Slot), f_X11_serves_J52 k6 M x0 x1 x2 x3 x4 x6 s0 = some r → Hp b0 D cy M H → va_S (BA b0) s.heap H locs → lv_has ls 7 [(0, .ref x0), (1, .int x1), (2, .int x2), (3, .int x3), (4, .int x4), (6, .int x6)] → W p l e rm_X11_serves s m args below meth c H locs 0 0 (MQ below (Qm b0 D cy M (some (.int r))) args s 0 0 (BA b0)) (F0 m 52 ls [.int s0]) := by
  obtain ⟨hx, hb, hr, hml, hown0, hts, hlk, hK, hN, hb0, hnm⟩ := id CX
  have hown : s.vm.findClass RX11 = some m.cls := hown0
  intro x0 x1 x2 x3 x4 x6 s0 H locs ls hF hP hS hl
  unfold f_X11_serves_J52 at hF
  refine lv_istore (lv' := [(5, .int s0), (0, .ref x0), (1, .int x1), (2, .int x2), (3, .int x3), (4, .int x4), (6, .int x6)]) hx hb dX11_serves_52 hl (by decide) (by first | rfl | simp [cat_rf]) (fun ls hl => ?_)
  refine lv_iinc (v := x6 + 1) (lv' := [(6, .int (x6 + 1)), (5, .int s0), (0, .ref x0), (1, .int x1), (2, .int x2), (3, .int x3), (4, .int x4)]) hx hb dX11_serves_54 hl (k := 6) rfl (by rfl) (by decide) rfl (fun ls hl => ?_)
  refine lv_goto (tgt := 6) hx hb dX11_serves_57 (by decide) ?_
  exact hk6 _ _ _ _ _ _ _ _ _ _ hF hP hS (lv_sub hl [2, 3, 4, 5, 6, 1, 0] rfl)
set_option maxHeartbeats 4000000 in
set_option maxRecDepth 100000 in
theorem nd_X11_serves_51 {p : Program} {l : Launch} {e : Env} {s : State} {m : MethodId} {args : Array Value} {below : List Frame} {meth : Method} {c : Code} {b0 : Nat} {D : va_G} {cy : Nat → ClassId} {r : Int32} {M : Mm} (CX : Cx yX11_serves cX11_serves 7 (some .boolean) wsX11_serves b0 D cy p s m args meth c) (k6 : Nat → Int32 → Int32 → Int32 → Int32 → Int32 → Int32 → Option Int32) (hk6 : ∀ (x0 : Nat) (x1 : Int32) (x2 : Int32) (x3 : Int32) (x4 : Int32) (x5 : Int32) (x6 : Int32) (H : Heap) (locs : List Loc) (ls : Array Slot), k6 x0 x1 x2 x3 x4 x5 x6 = some r → Hp b0 D cy M H → va_S (BA b0) s.heap H locs → lv_has ls 7 [(0, .ref x0), (1, .int x1), (2, .int x2), (3, .int x3), (4, .int x4), (5, .int x5), (6, .int x6)] → W p l e rm_X11_serves s m args below meth c H locs 0 0 (MQ below (Qm b0 D cy M (some (.int r))) args s 0 0 (BA b0)) (F0 m 6 ls [])) : ∀ (x0 : Nat) (x1 : Int32) (x2 : Int32) (x3 : Int32) (x4 : Int32) (x6 : Int32) (H : Heap) (locs : List Loc) (ls : Array Slot), f_X11_serves_J51 k6 M x0 x1 x2 x3 x4 x6 = some r → Hp b0 D cy M H → va_S (BA b0) s.heap H locs → lv_has ls 7 [(0, .ref x0), (1, .int x1), (2, .int x2), (3, .int x3), (4, .int x4), (6, .int x6)] → W p l e rm_X11_serves s m args below meth c H locs 0 0 (MQ below (Qm b0 D cy M (some (.int r))) args s 0 0 (BA b0)) (F0 m 51 ls []) := by
  obtain ⟨hx, hb, hr, hml, hown0, hts, hlk, hK, hN, hb0, hnm⟩ := id CX
  have hown : s.vm.findClass RX11 = some m.cls := hown0
  intro x0 x1 x2 x3 x4 x6 H locs ls hF hP hS hl
  unfold f_X11_serves_J51 at hF
  refine lv_iconst (v := 0) hx hb dX11_serves_51 (by decide) ?_
  exact nd_X11_serves_52 CX k6 hk6 _ _ _ _ _ _ _ _ _ _ hF hP hS (lv_sub hl [0, 1, 2, 3, 4, 5] rfl)
set_option maxHeartbeats 4000000 in
set_option maxRecDepth 100000 in
theorem nd_X11_serves_6 {p : Program} {l : Launch} {e : Env} {s : State} {m : MethodId} {args : Array Value} {below : List Frame} {meth : Method} {c : Code} {b0 : Nat} {D : va_G} {cy : Nat → ClassId} {r : Int32} {M : Mm} (CX : Cx yX11_serves cX11_serves 7 (some .boolean) wsX11_serves b0 D cy p s m args meth c) : ∀ (fu : Nat), ∀ (x0 : Nat) (x1 : Int32) (x2 : Int32) (x3 : Int32) (x4 : Int32) (x5 : Int32) (x6 : Int32) (H : Heap) (locs : List Loc) (ls : Array Slot), f_X11_serves_L6 M fu x0 x1 x2 x3 x4 x5 x6 = some r → Hp b0 D cy M H → va_S (BA b0) s.heap H locs → lv_has ls 7 [(0, .ref x0), (1, .int x1), (2, .int x2), (3, .int x3), (4, .int x4), (5, .int x5), (6, .int x6)] → W p l e rm_X11_serves s m args below meth c H locs 0 0 (MQ below (Qm b0 D cy M (some (.int r))) args s 0 0 (BA b0)) (F0 m 6 ls []) := by
  obtain ⟨hx, hb, hr, hml, hown0, hts, hlk, hK, hN, hb0, hnm⟩ := id CX
  have hown : s.vm.findClass RX11 = some m.cls := hown0
  intro fu
  induction fu with
  | zero =>
    intro x0 x1 x2 x3 x4 x5 x6 H locs ls hF hP hS hl
    rw [f_X11_serves_L6] at hF
    cases hF
  | succ fu ih =>
    intro x0 x1 x2 x3 x4 x5 x6 H locs ls hF hP hS hl
    rw [f_X11_serves_L6] at hF
    refine lv_iload hx hb dX11_serves_6 (lv_at hl 6 rfl) ?_
    refine lv_aload_n hx hb dX11_serves_8 rfl (lv_at hl 0 rfl) ?_
    refine xr_getR hx hb hts iw_X11_serves_11 hown hK hP hF 11 13 rfl (by decide) (by decide +kernel) ⟨rfl, rfl, rfl⟩ dX11_serves_9 (fun v1 hF => ?_)
    refine lv_iload_n hx hb dX11_serves_12 rfl (lv_at hl 1 rfl) ?_
    refine xr_aI hx hb hK hP hF dX11_serves_13 (fun v2 hF => ?_)
    refine lv_icmp_ge (tgt := 60) hx hb dX11_serves_14 (by decide) (fun c3 => ?_) (fun c3 => ?_)
    · replace hF := it_t hF c3
      refine lv_iload hx hb dX11_serves_60 (lv_at hl 5 rfl) ?_
      obtain ⟨hz4, hF⟩ := if_some hF
      cases hF
      exact W.zret hx hb hr (nz01 hz4) (fun t ht hW => ⟨rfl, by rw [ht]; exact hP, hS.F ht⟩) hS.2.2 dX11_serves_62 hlk
    · replace hF := it_f hF c3
      refine lv_iload hx hb dX11_serves_17 (lv_at hl 5 rfl) ?_
      refine lv_if_eq (tgt := 51) hx hb dX11_serves_19 (by decide) (fun c5 => ?_) (fun c5 => ?_)
      · replace hF := it_t hF c5
        exact nd_X11_serves_51 CX (f_X11_serves_L6 M fu) ih _ _ _ _ _ _ _ _ _ hF hP hS (lv_sub hl [0, 1, 2, 3, 4, 6] rfl)
      · replace hF := it_f hF c5
        refine lv_aload_n hx hb dX11_serves_22 rfl (lv_at hl 0 rfl) ?_
        refine lv_iload_n hx hb dX11_serves_23 rfl (lv_at hl 2 rfl) ?_
        refine lv_aload_n hx hb dX11_serves_24 rfl (lv_at hl 0 rfl) ?_
        refine lv_iload_n hx hb dX11_serves_25 rfl (lv_at hl 1 rfl) ?_
        refine lv_iload hx hb dX11_serves_26 (lv_at hl 6 rfl) ?_
        refine lv_iload_n hx hb dX11_serves_28 rfl (lv_at hl 2 rfl) ?_
        refine lv_iload_n hx hb dX11_serves_29 rfl (lv_at hl 3 rfl) ?_
        obtain ⟨v7, h6, hF⟩ := ob_some hF
        refine xr_call1 (va_runV (As := [.int x1, .int x6, .int x2, .int x3]) (rest := [.int x2, .ref x0]) ⟨hx, hb, hml, hown, hts⟩ (ct_X11_given l b0 D cy M x0 x1 x6 x2 x3 v7 h6) (cwV 4 hts gX11_serves_X11_given rfl rfl rfl (by decide +kernel) ⟨Nat.le_of_ble_eq_true rfl, Nat.le_of_ble_eq_true rfl⟩) (xp_V hP hK hN hS hb0 11 rfl (gk_X11_given h6)) rfl rfl hl.1 rfl (lv_room (Nat.le_of_ble_eq_true rfl)) dX11_serves_30 ⟨Nat.le_of_ble_eq_true rfl, Nat.le_of_ble_eq_true rfl⟩) hS (fun H locs hP hS => ?_)
        refine lv_aload_n hx hb dX11_serves_33 rfl (lv_at hl 0 rfl) ?_
        refine xr_getR hx hb hts iw_X11_serves_11 hown hK hP hF 11 8 rfl (by decide) (by decide +kernel) ⟨rfl, rfl, rfl⟩ dX11_serves_34 (fun v8 hF => ?_)
        refine lv_iload_n hx hb dX11_serves_37 rfl (lv_at hl 2 rfl) ?_
        refine xr_aJ hx hb hK hP hF dX11_serves_38 (fun v9 hF => ?_)
        refine lv_iload hx hb dX11_serves_39 (lv_at hl 4 rfl) ?_
        obtain ⟨v11, h10, hF⟩ := ob_some hF
        refine xr_call1 (va_runV (As := [.int x2, .long v7, .long v9, .int x4]) (rest := []) ⟨hx, hb, hml, hown, hts⟩ (ct_X11_finds l b0 D cy M x0 x2 v7 v9 x4 v11 h10) (cwV 4 hts gX11_serves_X11_finds rfl rfl rfl (by decide +kernel) ⟨Nat.le_of_ble_eq_true rfl, Nat.le_of_ble_eq_true rfl⟩) (xp_V hP hK hN hS hb0 11 rfl (gk_X11_finds h10)) rfl rfl hl.1 rfl (lv_room (Nat.le_of_ble_eq_true rfl)) dX11_serves_41 ⟨Nat.le_of_ble_eq_true rfl, Nat.le_of_ble_eq_true rfl⟩) hS (fun H locs hP hS => ?_)
        refine lv_if_eq (tgt := 51) hx hb dX11_serves_44 (by decide) (fun c12 => ?_) (fun c12 => ?_)
        · replace hF := it_t hF c12
          exact nd_X11_serves_51 CX (f_X11_serves_L6 M fu) ih _ _ _ _ _ _ _ _ _ hF hP hS (lv_sub hl [0, 1, 2, 3, 4, 6] rfl)
        · replace hF := it_f hF c12
          refine lv_iconst (v := 1) hx hb dX11_serves_47 (by decide) ?_
          refine lv_goto (tgt := 52) hx hb dX11_serves_48 (by decide) ?_
          exact nd_X11_serves_52 CX (f_X11_serves_L6 M fu) ih _ _ _ _ _ _ _ _ _ _ hF hP hS (lv_sub hl [0, 1, 2, 3, 4, 6] rfl)
theorem gk_X11_serves {M : Mm} {a0 : Nat} {a1 : Int32} {a2 : Int32} {a3 : Int32} {a4 : Int32} {r : Int32} (h : f_X11_serves M a0 a1 a2 a3 a4 = some r) : mK M a0 = 12 := by
  unfold f_X11_serves at h
  exact (if_some h).1
set_option maxHeartbeats 4000000 in
set_option maxRecDepth 100000 in
theorem ct_X11_serves (l : Launch) (b0 : Nat) (D : va_G) (cy : Nat → ClassId) (M : Mm) (a0 : Nat) (a1 : Int32) (a2 : Int32) (a3 : Int32) (a4 : Int32) (r : Int32) (hF : f_X11_serves M a0 a1 a2 a3 a4 = some r) : Met l yX11_serves wsX11_serves rm_X11_serves (va_Pc [.ref a0, .int a1, .int a2, .int a3, .int a4] (Pm b0 D cy M)) (Qm b0 D cy M (some (.int r))) 0 0 (BA b0) := by
  refine ct_of [.ref a0, .int a1, .int a2, .int a3, .int a4] (by decide) rfl ?_
  intro p e s m below meth c CX hP
  obtain ⟨hx, hb, hr, hml, hown0, hts, hlk, hK, hN, hb0, hnm⟩ := id CX
  have hown : s.vm.findClass RX11 = some m.cls := hown0
  have hS : va_S (BA b0) s.heap s.heap [] := va_S.rf
  have hl := lv_entry [.ref a0, .int a1, .int a2, .int a3, .int a4] (n := 7) (Nat.le_of_ble_eq_true rfl)
  generalize (lg_sl [.ref a0, .int a1, .int a2, .int a3, .int a4] ++ List.replicate (7 - (lg_sl [.ref a0, .int a1, .int a2, .int a3, .int a4]).length) Slot.unset).toArray = ls at hl ⊢
  have hl : lv_has ls 7 [(0, .ref a0), (1, .int a1), (2, .int a2), (3, .int a3), (4, .int a4)] := hl
  unfold f_X11_serves at hF
  replace hF := (if_some hF).2
  refine lv_iconst (v := 1) hx hb dX11_serves_0 (by decide) ?_
  refine lv_istore (lv' := [(5, .int 1), (0, .ref a0), (1, .int a1), (2, .int a2), (3, .int a3), (4, .int a4)]) hx hb dX11_serves_1 hl (by decide) (by first | rfl | simp [cat_rf]) (fun ls hl => ?_)
  refine lv_iconst (v := 0) hx hb dX11_serves_3 (by decide) ?_
  refine lv_istore (lv' := [(6, .int 0), (5, .int 1), (0, .ref a0), (1, .int a1), (2, .int a2), (3, .int a3), (4, .int a4)]) hx hb dX11_serves_4 hl (by decide) (by first | rfl | simp [cat_rf]) (fun ls hl => ?_)
  exact nd_X11_serves_6 CX _ _ _ _ _ _ _ _ _ _ _ hF hP hS (lv_sub hl [2, 3, 4, 5, 6, 1, 0] rfl)
/-! X11_say -/
theorem iw_X11_say_11 : ∀ w ∈ u_ws RX11 TX11 58, w ∈ wsX11_say := by decide +kernel
abbrev rm_X11_say : Room := { frames := 0, cells := 0, slots := 0, locals := 0 }
set_option maxHeartbeats 4000000 in
set_option maxRecDepth 100000 in
theorem nd_X11_say_5 {p : Program} {l : Launch} {e : Env} {s : State} {m : MethodId} {args : Array Value} {below : List Frame} {meth : Method} {c : Code} {b0 : Nat} {D : va_G} {cy : Nat → ClassId} {M1 : Mm} (CX : Cx yX11_say cX11_say 5 none wsX11_say b0 D cy p s m args meth c) : ∀ (fu : Nat), ∀ (M : Mm) (x0 : Nat) (x1 : Int64) (x4 : Int32) (H : Heap) (locs : List Loc) (ls : Array Slot), f_X11_say_L5 fu M x0 x1 x4 = some M1 → Hp b0 D cy M H → va_S (BA b0) s.heap H locs → lv_has ls 5 [(0, .ref x0), (1, .long x1), (4, .int x4)] → W p l e rm_X11_say s m args below meth c H locs 0 0 (MQ below (Qm b0 D cy M1 none) args s 0 0 (BA b0)) (F0 m 5 ls []) := by
  obtain ⟨hx, hb, hr, hml, hown0, hts, hlk, hK, hN, hb0, hnm⟩ := id CX
  have hown : s.vm.findClass RX11 = some m.cls := hown0
  intro fu
  induction fu with
  | zero =>
    intro M x0 x1 x4 H locs ls hF hP hS hl
    rw [f_X11_say_L5] at hF
    cases hF
  | succ fu ih =>
    intro M x0 x1 x4 H locs ls hF hP hS hl
    rw [f_X11_say_L5] at hF
    refine lv_iload hx hb dX11_say_5 (lv_at hl 2 rfl) ?_
    refine lv_if_lt (tgt := 42) hx hb dX11_say_7 (by decide) (fun c1 => ?_) (fun c1 => ?_)
    · replace hF := it_t hF c1
      cases hF
      exact W.vret hx hb hr (fun t ht hW => ⟨rfl, by rw [ht]; exact hP, hS.F ht⟩) hS.2.2 dX11_say_42 hlk
    · replace hF := it_f hF c1
      refine lv_aload_n hx hb dX11_say_10 rfl (lv_at hl 0 rfl) ?_
      refine xr_getR hx hb hts iw_X11_say_11 hown hK hP hF 11 41 rfl (by decide) (by decide +kernel) ⟨rfl, rfl, rfl⟩ dX11_say_11 (fun v2 hF => ?_)
      refine lv_aload_n hx hb dX11_say_14 rfl (lv_at hl 0 rfl) ?_
      refine xr_getI hx hb hts iw_X11_say_11 hown hK hP hF 11 42 rfl (by decide) (by decide +kernel) ⟨rfl, rfl, rfl⟩ dX11_say_15 (fun v3 hF => ?_)
      refine lv_lload_n hx hb dX11_say_18 rfl (lv_at hl 1 rfl) ?_
      refine lv_iload hx hb dX11_say_19 (lv_at hl 2 rfl) ?_
      refine lv_lshr hx hb dX11_say_21 rfl ?_
      refine lv_lconst (v := 1) hx hb dX11_say_22 (by decide) ?_
      refine lv_land hx hb dX11_say_23 ?_
      refine lv_l2i hx hb dX11_say_24 rfl ?_
      refine xr_wI hx hb hK hP hS hF dX11_say_25 (fun M4 H locs hF hP hS => ?_)
      refine lv_aload_n hx hb dX11_say_26 rfl (lv_at hl 0 rfl) ?_
      refine lv_dup hx hb dX11_say_27 rfl ?_
      refine xr_getI hx hb hts iw_X11_say_11 hown hK hP hF 11 42 rfl (by decide) (by decide +kernel) ⟨rfl, rfl, rfl⟩ dX11_say_28 (fun v5 hF => ?_)
      refine lv_iconst (v := 1) hx hb dX11_say_31 (by decide) ?_
      refine lv_iadd hx hb dX11_say_32 ?_
      refine xr_putI hx hb hts iw_X11_say_11 hown hK hP hS hF 11 42 rfl (by decide) tyX11 tyX11_ok nmX11 (by decide +kernel) (Or.inl rfl) rfl ⟨rfl, rfl, rfl⟩ dX11_say_33 (fun M6 H locs hF hP hS => ?_)
      refine lv_iinc (v := x4 + (-1)) (lv' := [(4, .int (x4 + (-1))), (0, .ref x0), (1, .long x1)]) hx hb dX11_say_36 hl (k := 2) rfl (by rfl) (by decide) rfl (fun ls hl => ?_)
      refine lv_goto (tgt := 5) hx hb dX11_say_39 (by decide) ?_
      exact ih _ _ _ _ _ _ _ hF hP hS (lv_sub hl [1, 2, 0] rfl)
theorem gk_X11_say {M : Mm} {a0 : Nat} {a1 : Int64} {a3 : Int32} {r : Mm} (h : f_X11_say M a0 a1 a3 = some r) : mK M a0 = 12 := by
  unfold f_X11_say at h
  exact (if_some h).1
set_option maxHeartbeats 4000000 in
set_option maxRecDepth 100000 in
theorem ct_X11_say (l : Launch) (b0 : Nat) (D : va_G) (cy : Nat → ClassId) (M : Mm) (a0 : Nat) (a1 : Int64) (a3 : Int32) (M1 : Mm) (hF : f_X11_say M a0 a1 a3 = some M1) : Met l yX11_say wsX11_say rm_X11_say (va_Pc [.ref a0, .long a1, .int a3] (Pm b0 D cy M)) (Qm b0 D cy M1 none) 0 0 (BA b0) := by
  refine ct_of [.ref a0, .long a1, .int a3] (by decide) rfl ?_
  intro p e s m below meth c CX hP
  obtain ⟨hx, hb, hr, hml, hown0, hts, hlk, hK, hN, hb0, hnm⟩ := id CX
  have hown : s.vm.findClass RX11 = some m.cls := hown0
  have hS : va_S (BA b0) s.heap s.heap [] := va_S.rf
  have hl := lv_entry [.ref a0, .long a1, .int a3] (n := 5) (Nat.le_of_ble_eq_true rfl)
  generalize (lg_sl [.ref a0, .long a1, .int a3] ++ List.replicate (5 - (lg_sl [.ref a0, .long a1, .int a3]).length) Slot.unset).toArray = ls at hl ⊢
  have hl : lv_has ls 5 [(0, .ref a0), (1, .long a1), (3, .int a3)] := hl
  unfold f_X11_say at hF
  replace hF := (if_some hF).2
  refine lv_iload_n hx hb dX11_say_0 rfl (lv_at hl 2 rfl) ?_
  refine lv_iconst (v := 1) hx hb dX11_say_1 (by decide) ?_
  refine lv_isub hx hb dX11_say_2 ?_
  refine lv_istore (lv' := [(4, .int (a3 - 1)), (0, .ref a0), (1, .long a1), (3, .int a3)]) hx hb dX11_say_3 hl (by decide) (by first | rfl | simp [cat_rf]) (fun ls hl => ?_)
  exact nd_X11_say_5 CX _ _ _ _ _ _ _ _ hF hP hS (lv_sub hl [1, 2, 0] rfl)
/-! X11_sumOf -/
abbrev rm_X11_sumOf : Room := { frames := 0, cells := 0, slots := 0, locals := 0 }
theorem gk_X11_sumOf {M : Mm} {a0 : Nat} {a1 : Int64} {a3 : Int64} {r : Int32} (h : f_X11_sumOf M a0 a1 a3 = some r) : mK M a0 = 12 := by
  unfold f_X11_sumOf at h
  exact (if_some h).1
set_option maxHeartbeats 4000000 in
set_option maxRecDepth 100000 in
theorem ct_X11_sumOf (l : Launch) (b0 : Nat) (D : va_G) (cy : Nat → ClassId) (M : Mm) (a0 : Nat) (a1 : Int64) (a3 : Int64) (r : Int32) (hF : f_X11_sumOf M a0 a1 a3 = some r) : Met l yX11_sumOf wsX11_sumOf rm_X11_sumOf (va_Pc [.ref a0, .long a1, .long a3] (Pm b0 D cy M)) (Qm b0 D cy M (some (.int r))) 0 0 (BA b0) := by
  refine ct_of [.ref a0, .long a1, .long a3] (by decide) rfl ?_
  intro p e s m below meth c CX hP
  obtain ⟨hx, hb, hr, hml, hown0, hts, hlk, hK, hN, hb0, hnm⟩ := id CX
  have hown : s.vm.findClass RX11 = some m.cls := hown0
  have hS : va_S (BA b0) s.heap s.heap [] := va_S.rf
  have hl := lv_entry [.ref a0, .long a1, .long a3] (n := 5) (Nat.le_of_ble_eq_true rfl)
  generalize (lg_sl [.ref a0, .long a1, .long a3] ++ List.replicate (5 - (lg_sl [.ref a0, .long a1, .long a3]).length) Slot.unset).toArray = ls at hl ⊢
  have hl : lv_has ls 5 [(0, .ref a0), (1, .long a1), (3, .long a3)] := hl
  unfold f_X11_sumOf at hF
  replace hF := (if_some hF).2
  refine lv_ldc2 (v := 31) hx hb hown (hts (.constantLong RX11 198 31) (by decide +kernel)) dX11_sumOf_0 ?_
  refine lv_lload_n hx hb dX11_sumOf_3 rfl (lv_at hl 1 rfl) ?_
  refine lv_lmul hx hb dX11_sumOf_4 ?_
  refine lv_lload_n hx hb dX11_sumOf_5 rfl (lv_at hl 2 rfl) ?_
  refine lv_ladd hx hb dX11_sumOf_6 ?_
  refine lv_ldc2 (v := 255) hx hb hown (hts (.constantLong RX11 181 255) (by decide +kernel)) dX11_sumOf_7 ?_
  refine lv_land hx hb dX11_sumOf_10 ?_
  refine lv_l2i hx hb dX11_sumOf_11 rfl ?_
  cases hF
  exact W.iret hx hb hr (fun t ht hW => ⟨rfl, by rw [ht]; exact hP, hS.F ht⟩) hS.2.2 dX11_sumOf_12 hlk
/-! X11_draftSum -/
theorem iw_X11_draftSum_11 : ∀ w ∈ u_ws RX11 TX11 58, w ∈ wsX11_draftSum := by decide +kernel
abbrev rm_X11_draftSum : Room := { frames := 1, cells := 0, slots := 0, locals := 24 }
set_option maxHeartbeats 4000000 in
set_option maxRecDepth 100000 in
theorem nd_X11_draftSum_5 {p : Program} {l : Launch} {e : Env} {s : State} {m : MethodId} {args : Array Value} {below : List Frame} {meth : Method} {c : Code} {b0 : Nat} {D : va_G} {cy : Nat → ClassId} {r : Int32} {M : Mm} (CX : Cx yX11_draftSum cX11_draftSum 3 (some .int) wsX11_draftSum b0 D cy p s m args meth c) : ∀ (fu : Nat), ∀ (x0 : Nat) (x1 : Int32) (x2 : Int32) (H : Heap) (locs : List Loc) (ls : Array Slot), f_X11_draftSum_L5 M fu x0 x1 x2 = some r → Hp b0 D cy M H → va_S (BA b0) s.heap H locs → lv_has ls 3 [(0, .ref x0), (1, .int x1), (2, .int x2)] → W p l e rm_X11_draftSum s m args below meth c H locs 0 0 (MQ below (Qm b0 D cy M (some (.int r))) args s 0 0 (BA b0)) (F0 m 5 ls []) := by
  obtain ⟨hx, hb, hr, hml, hown0, hts, hlk, hK, hN, hb0, hnm⟩ := id CX
  have hown : s.vm.findClass RX11 = some m.cls := hown0
  intro fu
  induction fu with
  | zero =>
    intro x0 x1 x2 H locs ls hF hP hS hl
    rw [f_X11_draftSum_L5] at hF
    cases hF
  | succ fu ih =>
    intro x0 x1 x2 H locs ls hF hP hS hl
    rw [f_X11_draftSum_L5] at hF
    refine lv_iload_n hx hb dX11_draftSum_5 rfl (lv_at hl 2 rfl) ?_
    refine lv_aload_n hx hb dX11_draftSum_6 rfl (lv_at hl 0 rfl) ?_
    refine xr_getI hx hb hts iw_X11_draftSum_11 hown hK hP hF 11 1 rfl (by decide) (by decide +kernel) ⟨rfl, rfl, rfl⟩ dX11_draftSum_7 (fun v1 hF => ?_)
    refine lv_icmp_ge (tgt := 32) hx hb dX11_draftSum_10 (by decide) (fun c2 => ?_) (fun c2 => ?_)
    · replace hF := it_t hF c2
      refine lv_iload_n hx hb dX11_draftSum_32 rfl (lv_at hl 1 rfl) ?_
      cases hF
      exact W.iret hx hb hr (fun t ht hW => ⟨rfl, by rw [ht]; exact hP, hS.F ht⟩) hS.2.2 dX11_draftSum_33 hlk
    · replace hF := it_f hF c2
      refine lv_aload_n hx hb dX11_draftSum_13 rfl (lv_at hl 0 rfl) ?_
      refine lv_iload_n hx hb dX11_draftSum_14 rfl (lv_at hl 1 rfl) ?_
      refine lv_i2l hx hb dX11_draftSum_15 rfl ?_
      refine lv_aload_n hx hb dX11_draftSum_16 rfl (lv_at hl 0 rfl) ?_
      refine xr_getR hx hb hts iw_X11_draftSum_11 hown hK hP hF 11 8 rfl (by decide) (by decide +kernel) ⟨rfl, rfl, rfl⟩ dX11_draftSum_17 (fun v3 hF => ?_)
      refine lv_iload_n hx hb dX11_draftSum_20 rfl (lv_at hl 2 rfl) ?_
      refine xr_aJ hx hb hK hP hF dX11_draftSum_21 (fun v4 hF => ?_)
      obtain ⟨v6, h5, hF⟩ := ob_some hF
      refine xr_call1 (va_runV (As := [.long x1.toInt64, .long v4]) (rest := []) ⟨hx, hb, hml, hown, hts⟩ (ct_X11_sumOf l b0 D cy M x0 x1.toInt64 v4 v6 h5) (cwV 2 hts gX11_draftSum_X11_sumOf rfl rfl rfl (by decide +kernel) ⟨Nat.le_of_ble_eq_true rfl, Nat.le_of_ble_eq_true rfl⟩) (xp_V hP hK hN hS hb0 11 rfl (gk_X11_sumOf h5)) rfl rfl hl.1 rfl (lv_room (Nat.le_of_ble_eq_true rfl)) dX11_draftSum_22 ⟨Nat.le_of_ble_eq_true rfl, Nat.le_of_ble_eq_true rfl⟩) hS (fun H locs hP hS => ?_)
      refine lv_istore_n (lv' := [(1, .int v6), (0, .ref x0), (2, .int x2)]) hx hb dX11_draftSum_25 rfl hl (by decide) (by first | rfl | simp [cat_rf]) (fun ls hl => ?_)
      refine lv_iinc (v := x2 + 1) (lv' := [(2, .int (x2 + 1)), (1, .int v6), (0, .ref x0)]) hx hb dX11_draftSum_26 hl (k := 2) rfl (by rfl) (by decide) rfl (fun ls hl => ?_)
      refine lv_goto (tgt := 5) hx hb dX11_draftSum_29 (by decide) ?_
      exact ih _ _ _ _ _ _ hF hP hS (lv_sub hl [2, 1, 0] rfl)
theorem gk_X11_draftSum {M : Mm} {a0 : Nat} {r : Int32} (h : f_X11_draftSum M a0 = some r) : mK M a0 = 12 := by
  unfold f_X11_draftSum at h
  exact (if_some h).1
set_option maxHeartbeats 4000000 in
set_option maxRecDepth 100000 in
theorem ct_X11_draftSum (l : Launch) (b0 : Nat) (D : va_G) (cy : Nat → ClassId) (M : Mm) (a0 : Nat) (r : Int32) (hF : f_X11_draftSum M a0 = some r) : Met l yX11_draftSum wsX11_draftSum rm_X11_draftSum (va_Pc [.ref a0] (Pm b0 D cy M)) (Qm b0 D cy M (some (.int r))) 0 0 (BA b0) := by
  refine ct_of [.ref a0] (by decide) rfl ?_
  intro p e s m below meth c CX hP
  obtain ⟨hx, hb, hr, hml, hown0, hts, hlk, hK, hN, hb0, hnm⟩ := id CX
  have hown : s.vm.findClass RX11 = some m.cls := hown0
  have hS : va_S (BA b0) s.heap s.heap [] := va_S.rf
  have hl := lv_entry [.ref a0] (n := 3) (Nat.le_of_ble_eq_true rfl)
  generalize (lg_sl [.ref a0] ++ List.replicate (3 - (lg_sl [.ref a0]).length) Slot.unset).toArray = ls at hl ⊢
  have hl : lv_has ls 3 [(0, .ref a0)] := hl
  unfold f_X11_draftSum at hF
  replace hF := (if_some hF).2
  refine lv_bipush (v := 17) hx hb dX11_draftSum_0 (by decide) ?_
  refine lv_istore_n (lv' := [(1, .int 17), (0, .ref a0)]) hx hb dX11_draftSum_2 rfl hl (by decide) (by first | rfl | simp [cat_rf]) (fun ls hl => ?_)
  refine lv_iconst (v := 0) hx hb dX11_draftSum_3 (by decide) ?_
  refine lv_istore_n (lv' := [(2, .int 0), (1, .int 17), (0, .ref a0)]) hx hb dX11_draftSum_4 rfl hl (by decide) (by first | rfl | simp [cat_rf]) (fun ls hl => ?_)
  exact nd_X11_draftSum_5 CX _ _ _ _ _ _ _ hF hP hS (lv_sub hl [2, 1, 0] rfl)
/-! X11_checkOf -/
theorem iw_X11_checkOf_11 : ∀ w ∈ u_ws RX11 TX11 58, w ∈ wsX11_checkOf := by decide +kernel
abbrev rm_X11_checkOf : Room := { frames := 0, cells := 0, slots := 0, locals := 0 }
set_option maxHeartbeats 4000000 in
set_option maxRecDepth 100000 in
theorem nd_X11_checkOf_5 {p : Program} {l : Launch} {e : Env} {s : State} {m : MethodId} {args : Array Value} {below : List Frame} {meth : Method} {c : Code} {b0 : Nat} {D : va_G} {cy : Nat → ClassId} {r : Int32} {M : Mm} (CX : Cx yX11_checkOf cX11_checkOf 5 (some .int) wsX11_checkOf b0 D cy p s m args meth c) : ∀ (fu : Nat), ∀ (x0 : Nat) (x1 : Int32) (x2 : Int32) (x3 : Int32) (x4 : Int32) (H : Heap) (locs : List Loc) (ls : Array Slot), f_X11_checkOf_L5 M fu x0 x1 x2 x3 x4 = some r → Hp b0 D cy M H → va_S (BA b0) s.heap H locs → lv_has ls 5 [(0, .ref x0), (1, .int x1), (2, .int x2), (3, .int x3), (4, .int x4)] → W p l e rm_X11_checkOf s m args below meth c H locs 0 0 (MQ below (Qm b0 D cy M (some (.int r))) args s 0 0 (BA b0)) (F0 m 5 ls []) := by
  obtain ⟨hx, hb, hr, hml, hown0, hts, hlk, hK, hN, hb0, hnm⟩ := id CX
  have hown : s.vm.findClass RX11 = some m.cls := hown0
  intro fu
  induction fu with
  | zero =>
    intro x0 x1 x2 x3 x4 H locs ls hF hP hS hl
    rw [f_X11_checkOf_L5] at hF
    cases hF
  | succ fu ih =>
    intro x0 x1 x2 x3 x4 H locs ls hF hP hS hl
    rw [f_X11_checkOf_L5] at hF
    refine lv_iload hx hb dX11_checkOf_5 (lv_at hl 4 rfl) ?_
    refine lv_iload_n hx hb dX11_checkOf_7 rfl (lv_at hl 2 rfl) ?_
    refine lv_icmp_ge (tgt := 32) hx hb dX11_checkOf_8 (by decide) (fun c1 => ?_) (fun c1 => ?_)
    · replace hF := it_t hF c1
      refine lv_sipush (v := 255) hx hb dX11_checkOf_32 (by decide) ?_
      refine lv_iload_n hx hb dX11_checkOf_35 rfl (lv_at hl 3 rfl) ?_
      refine lv_sipush (v := 256) hx hb dX11_checkOf_36 (by decide) ?_
      refine lv_irem hx hb dX11_checkOf_39 (by decide) ?_
      refine lv_isub hx hb dX11_checkOf_40 ?_
      cases hF
      exact W.iret hx hb hr (fun t ht hW => ⟨rfl, by rw [ht]; exact hP, hS.F ht⟩) hS.2.2 dX11_checkOf_41 hlk
    · replace hF := it_f hF c1
      refine lv_iload_n hx hb dX11_checkOf_11 rfl (lv_at hl 3 rfl) ?_
      refine lv_aload_n hx hb dX11_checkOf_12 rfl (lv_at hl 0 rfl) ?_
      refine xr_getR hx hb hts iw_X11_checkOf_11 hown hK hP hF 11 18 rfl (by decide) (by decide +kernel) ⟨rfl, rfl, rfl⟩ dX11_checkOf_13 (fun v2 hF => ?_)
      refine lv_bipush (v := 64) hx hb dX11_checkOf_16 (by decide) ?_
      refine lv_iload_n hx hb dX11_checkOf_18 rfl (lv_at hl 1 rfl) ?_
      refine lv_imul hx hb dX11_checkOf_19 ?_
      refine lv_iload hx hb dX11_checkOf_20 (lv_at hl 4 rfl) ?_
      refine lv_iadd hx hb dX11_checkOf_22 ?_
      refine xr_aI hx hb hK hP hF dX11_checkOf_23 (fun v3 hF => ?_)
      refine lv_iadd hx hb dX11_checkOf_24 ?_
      refine lv_istore_n (lv' := [(3, .int (x3 + v3)), (0, .ref x0), (1, .int x1), (2, .int x2), (4, .int x4)]) hx hb dX11_checkOf_25 rfl hl (by decide) (by first | rfl | simp [cat_rf]) (fun ls hl => ?_)
      refine lv_iinc (v := x4 + 1) (lv' := [(4, .int (x4 + 1)), (3, .int (x3 + v3)), (0, .ref x0), (1, .int x1), (2, .int x2)]) hx hb dX11_checkOf_26 hl (k := 4) rfl (by rfl) (by decide) rfl (fun ls hl => ?_)
      refine lv_goto (tgt := 5) hx hb dX11_checkOf_29 (by decide) ?_
      exact ih _ _ _ _ _ _ _ _ hF hP hS (lv_sub hl [2, 3, 4, 1, 0] rfl)
theorem gk_X11_checkOf {M : Mm} {a0 : Nat} {a1 : Int32} {a2 : Int32} {r : Int32} (h : f_X11_checkOf M a0 a1 a2 = some r) : mK M a0 = 12 := by
  unfold f_X11_checkOf at h
  exact (if_some h).1
set_option maxHeartbeats 4000000 in
set_option maxRecDepth 100000 in
theorem ct_X11_checkOf (l : Launch) (b0 : Nat) (D : va_G) (cy : Nat → ClassId) (M : Mm) (a0 : Nat) (a1 : Int32) (a2 : Int32) (r : Int32) (hF : f_X11_checkOf M a0 a1 a2 = some r) : Met l yX11_checkOf wsX11_checkOf rm_X11_checkOf (va_Pc [.ref a0, .int a1, .int a2] (Pm b0 D cy M)) (Qm b0 D cy M (some (.int r))) 0 0 (BA b0) := by
  refine ct_of [.ref a0, .int a1, .int a2] (by decide) rfl ?_
  intro p e s m below meth c CX hP
  obtain ⟨hx, hb, hr, hml, hown0, hts, hlk, hK, hN, hb0, hnm⟩ := id CX
  have hown : s.vm.findClass RX11 = some m.cls := hown0
  have hS : va_S (BA b0) s.heap s.heap [] := va_S.rf
  have hl := lv_entry [.ref a0, .int a1, .int a2] (n := 5) (Nat.le_of_ble_eq_true rfl)
  generalize (lg_sl [.ref a0, .int a1, .int a2] ++ List.replicate (5 - (lg_sl [.ref a0, .int a1, .int a2]).length) Slot.unset).toArray = ls at hl ⊢
  have hl : lv_has ls 5 [(0, .ref a0), (1, .int a1), (2, .int a2)] := hl
  unfold f_X11_checkOf at hF
  replace hF := (if_some hF).2
  refine lv_iconst (v := 0) hx hb dX11_checkOf_0 (by decide) ?_
  refine lv_istore_n (lv' := [(3, .int 0), (0, .ref a0), (1, .int a1), (2, .int a2)]) hx hb dX11_checkOf_1 rfl hl (by decide) (by first | rfl | simp [cat_rf]) (fun ls hl => ?_)
  refine lv_iconst (v := 0) hx hb dX11_checkOf_2 (by decide) ?_
  refine lv_istore (lv' := [(4, .int 0), (3, .int 0), (0, .ref a0), (1, .int a1), (2, .int a2)]) hx hb dX11_checkOf_3 hl (by decide) (by first | rfl | simp [cat_rf]) (fun ls hl => ?_)
  exact nd_X11_checkOf_5 CX _ _ _ _ _ _ _ _ _ hF hP hS (lv_sub hl [2, 3, 4, 1, 0] rfl)
/-! X11_laid -/
theorem iw_X11_laid_11 : ∀ w ∈ u_ws RX11 TX11 58, w ∈ wsX11_laid := by decide +kernel
abbrev rm_X11_laid : Room := { frames := 1, cells := 0, slots := 0, locals := 24 }
set_option maxHeartbeats 4000000 in
set_option maxRecDepth 100000 in
theorem nd_X11_laid_186 {p : Program} {l : Launch} {e : Env} {s : State} {m : MethodId} {args : Array Value} {below : List Frame} {meth : Method} {c : Code} {b0 : Nat} {D : va_G} {cy : Nat → ClassId} {M1 : Mm} {r : Int32} (CX : Cx yX11_laid cX11_laid 10 (some .int) wsX11_laid b0 D cy p s m args meth c) : ∀ (M : Mm) (x0 : Nat) (x5 : Int32) (x6 : Int32) (H : Heap) (locs : List Loc) (ls : Array Slot), f_X11_laid_J186 M x0 x5 x6 = some (M1, r) → Hp b0 D cy M H → va_S (BA b0) s.heap H locs → lv_has ls 10 [(0, .ref x0), (5, .int x5), (6, .int x6)] → W p l e rm_X11_laid s m args below meth c H locs 0 0 (MQ below (Qm b0 D cy M1 (some (.int r))) args s 0 0 (BA b0)) (F0 m 186 ls []) := by
  obtain ⟨hx, hb, hr, hml, hown0, hts, hlk, hK, hN, hb0, hnm⟩ := id CX
  have hown : s.vm.findClass RX11 = some m.cls := hown0
  intro M x0 x5 x6 H locs ls hF hP hS hl
  unfold f_X11_laid_J186 at hF
  refine lv_aload_n hx hb dX11_laid_186 rfl (lv_at hl 0 rfl) ?_
  refine xr_getR hx hb hts iw_X11_laid_11 hown hK hP hF 11 17 rfl (by decide) (by decide +kernel) ⟨rfl, rfl, rfl⟩ dX11_laid_187 (fun v1 hF => ?_)
  refine lv_iload hx hb dX11_laid_190 (lv_at hl 1 rfl) ?_
  refine lv_iload hx hb dX11_laid_192 (lv_at hl 2 rfl) ?_
  refine xr_wI hx hb hK hP hS hF dX11_laid_194 (fun M2 H locs hF hP hS => ?_)
  refine lv_aload_n hx hb dX11_laid_195 rfl (lv_at hl 0 rfl) ?_
  refine lv_dup hx hb dX11_laid_196 rfl ?_
  refine xr_getI hx hb hts iw_X11_laid_11 hown hK hP hF 11 16 rfl (by decide) (by decide +kernel) ⟨rfl, rfl, rfl⟩ dX11_laid_197 (fun v3 hF => ?_)
  refine lv_iconst (v := 1) hx hb dX11_laid_200 (by decide) ?_
  refine lv_iadd hx hb dX11_laid_201 ?_
  refine xr_putI hx hb hts iw_X11_laid_11 hown hK hP hS hF 11 16 rfl (by decide) tyX11 tyX11_ok nmX11 (by decide +kernel) (Or.inl rfl) rfl ⟨rfl, rfl, rfl⟩ dX11_laid_202 (fun M4 H locs hF hP hS => ?_)
  refine lv_aload_n hx hb dX11_laid_205 rfl (lv_at hl 0 rfl) ?_
  refine lv_iconst (v := 1) hx hb dX11_laid_206 (by decide) ?_
  refine xr_putZ hx hb hts iw_X11_laid_11 hown hK hP hS hF 11 6 rfl (by decide) tyX11 tyX11_ok nmX11 (by decide +kernel) (Or.inl rfl) rfl ⟨rfl, rfl, rfl⟩ dX11_laid_207 (fun M5 H locs hF hP hS => ?_)
  refine lv_iload hx hb dX11_laid_210 (lv_at hl 1 rfl) ?_
  cases hF
  exact W.iret hx hb hr (fun t ht hW => ⟨rfl, by rw [ht]; exact hP, hS.F ht⟩) hS.2.2 dX11_laid_212 hlk
set_option maxHeartbeats 4000000 in
set_option maxRecDepth 100000 in
theorem nd_X11_laid_124 {p : Program} {l : Launch} {e : Env} {s : State} {m : MethodId} {args : Array Value} {below : List Frame} {meth : Method} {c : Code} {b0 : Nat} {D : va_G} {cy : Nat → ClassId} {M1 : Mm} {r : Int32} (CX : Cx yX11_laid cX11_laid 10 (some .int) wsX11_laid b0 D cy p s m args meth c) (k74 : Mm → Nat → Int32 → Int32 → Int32 → Int32 → Option (Mm × Int32)) (hk74 : ∀ (M : Mm) (x0 : Nat) (x4 : Int32) (x5 : Int32) (x6 : Int32) (x7 : Int32) (H : Heap) (locs : List Loc) (ls : Array Slot), k74 M x0 x4 x5 x6 x7 = some (M1, r) → Hp b0 D cy M H → va_S (BA b0) s.heap H locs → lv_has ls 10 [(0, .ref x0), (4, .int x4), (5, .int x5), (6, .int x6), (7, .int x7)] → W p l e rm_X11_laid s m args below meth c H locs 0 0 (MQ below (Qm b0 D cy M1 (some (.int r))) args s 0 0 (BA b0)) (F0 m 74 ls [])) (k90 : Mm → Nat → Int32 → Int32 → Int32 → Int32 → Int32 → Int32 → Option (Mm × Int32)) (hk90 : ∀ (M : Mm) (x0 : Nat) (x4 : Int32) (x5 : Int32) (x6 : Int32) (x7 : Int32) (x8 : Int32) (x9 : Int32) (H : Heap) (locs : List Loc) (ls : Array Slot), k90 M x0 x4 x5 x6 x7 x8 x9 = some (M1, r) → Hp b0 D cy M H → va_S (BA b0) s.heap H locs → lv_has ls 10 [(0, .ref x0), (4, .int x4), (5, .int x5), (6, .int x6), (7, .int x7), (8, .int x8), (9, .int x9)] → W p l e rm_X11_laid s m args below meth c H locs 0 0 (MQ below (Qm b0 D cy M1 (some (.int r))) args s 0 0 (BA b0)) (F0 m 90 ls [])) : ∀ (M : Mm) (x0 : Nat) (x4 : Int32) (x5 : Int32) (x6 : Int32) (x7 : Int32) (x9 : Int32) (s0 : Int32) (s1 : Int32) (H : Heap) (locs : List Loc) (ls : Array Slot), f_X11_laid_J124 k74 k90 M x0 x4 x5 x6 x7 x9 s0 s1 = some (M1, r) → Hp b0 D cy M H → va_S (BA b0) s.heap H locs → lv_has ls 10 [(0, .ref x0), (4, .int x4), (5, .int x5), (6, .int x6), (7, .int x7), (9, .int x9)] → W p l e rm_X11_laid s m args below meth c H locs 0 0 (MQ below (Qm b0 D cy M1 (some (.int r))) args s 0 0 (BA b0)) (F0 m 124 ls [.int s1, .int s0]) := by
  obtain ⟨hx, hb, hr, hml, hown0, hts, hlk, hK, hN, hb0, hnm⟩ := id CX
  have hown : s.vm.findClass RX11 = some m.cls := hown0
  intro M x0 x4 x5 x6 x7 x9 s0 s1 H locs ls hF hP hS hl
  unfold f_X11_laid_J124 at hF
  refine lv_iadd hx hb dX11_laid_124 ?_
  refine lv_istore (lv' := [(8, .int (s0 + s1)), (0, .ref x0), (4, .int x4), (5, .int x5), (6, .int x6), (7, .int x7), (9, .int x9)]) hx hb dX11_laid_125 hl (by decide) (by first | rfl | simp [cat_rf]) (fun ls hl => ?_)
  refine lv_iinc (v := x9 + 1) (lv' := [(9, .int (x9 + 1)), (8, .int (s0 + s1)), (0, .ref x0), (4, .int x4), (5, .int x5), (6, .int x6), (7, .int x7)]) hx hb dX11_laid_127 hl (k := 6) rfl (by rfl) (by decide) rfl (fun ls hl => ?_)
  refine lv_goto (tgt := 90) hx hb dX11_laid_130 (by decide) ?_
  exact hk90 _ _ _ _ _ _ _ _ _ _ _ hF hP hS (lv_sub hl [2, 3, 4, 5, 6, 1, 0] rfl)
set_option maxHeartbeats 4000000 in
set_option maxRecDepth 100000 in
theorem nd_X11_laid_90 {p : Program} {l : Launch} {e : Env} {s : State} {m : MethodId} {args : Array Value} {below : List Frame} {meth : Method} {c : Code} {b0 : Nat} {D : va_G} {cy : Nat → ClassId} {M1 : Mm} {r : Int32} (CX : Cx yX11_laid cX11_laid 10 (some .int) wsX11_laid b0 D cy p s m args meth c) (k74 : Mm → Nat → Int32 → Int32 → Int32 → Int32 → Option (Mm × Int32)) (hk74 : ∀ (M : Mm) (x0 : Nat) (x4 : Int32) (x5 : Int32) (x6 : Int32) (x7 : Int32) (H : Heap) (locs : List Loc) (ls : Array Slot), k74 M x0 x4 x5 x6 x7 = some (M1, r) → Hp b0 D cy M H → va_S (BA b0) s.heap H locs → lv_has ls 10 [(0, .ref x0), (4, .int x4), (5, .int x5), (6, .int x6), (7, .int x7)] → W p l e rm_X11_laid s m args below meth c H locs 0 0 (MQ below (Qm b0 D cy M1 (some (.int r))) args s 0 0 (BA b0)) (F0 m 74 ls [])) : ∀ (fu : Nat), ∀ (M : Mm) (x0 : Nat) (x4 : Int32) (x5 : Int32) (x6 : Int32) (x7 : Int32) (x8 : Int32) (x9 : Int32) (H : Heap) (locs : List Loc) (ls : Array Slot), f_X11_laid_L90 k74 fu M x0 x4 x5 x6 x7 x8 x9 = some (M1, r) → Hp b0 D cy M H → va_S (BA b0) s.heap H locs → lv_has ls 10 [(0, .ref x0), (4, .int x4), (5, .int x5), (6, .int x6), (7, .int x7), (8, .int x8), (9, .int x9)] → W p l e rm_X11_laid s m args below meth c H locs 0 0 (MQ below (Qm b0 D cy M1 (some (.int r))) args s 0 0 (BA b0)) (F0 m 90 ls []) := by
  obtain ⟨hx, hb, hr, hml, hown0, hts, hlk, hK, hN, hb0, hnm⟩ := id CX
  have hown : s.vm.findClass RX11 = some m.cls := hown0
  intro fu
  induction fu with
  | zero =>
    intro M x0 x4 x5 x6 x7 x8 x9 H locs ls hF hP hS hl
    rw [f_X11_laid_L90] at hF
    cases hF
  | succ fu ih =>
    intro M x0 x4 x5 x6 x7 x8 x9 H locs ls hF hP hS hl
    rw [f_X11_laid_L90] at hF
    refine lv_iload hx hb dX11_laid_90 (lv_at hl 6 rfl) ?_
    refine lv_iload hx hb dX11_laid_92 (lv_at hl 4 rfl) ?_
    refine lv_bipush (v := 8) hx hb dX11_laid_94 (by decide) ?_
    refine lv_iadd hx hb dX11_laid_96 ?_
    refine lv_icmp_ge (tgt := 133) hx hb dX11_laid_97 (by decide) (fun c1 => ?_) (fun c1 => ?_)
    · replace hF := it_t hF c1
      refine lv_aload_n hx hb dX11_laid_133 rfl (lv_at hl 0 rfl) ?_
      refine xr_getR hx hb hts iw_X11_laid_11 hown hK hP hF 11 18 rfl (by decide) (by decide +kernel) ⟨rfl, rfl, rfl⟩ dX11_laid_134 (fun v2 hF => ?_)
      refine lv_bipush (v := 64) hx hb dX11_laid_137 (by decide) ?_
      refine lv_iload hx hb dX11_laid_139 (lv_at hl 2 rfl) ?_
      refine lv_imul hx hb dX11_laid_141 ?_
      refine lv_iload hx hb dX11_laid_142 (lv_at hl 3 rfl) ?_
      refine lv_iadd hx hb dX11_laid_144 ?_
      refine lv_iload hx hb dX11_laid_145 (lv_at hl 5 rfl) ?_
      refine xr_wI hx hb hK hP hS hF dX11_laid_147 (fun M3 H locs hF hP hS => ?_)
      refine lv_iinc (v := x6 + 1) (lv' := [(6, .int (x6 + 1)), (0, .ref x0), (4, .int x4), (5, .int x5), (7, .int x7), (8, .int x8), (9, .int x9)]) hx hb dX11_laid_148 hl (k := 3) rfl (by rfl) (by decide) rfl (fun ls hl => ?_)
      refine lv_iinc (v := x7 + 8) (lv' := [(7, .int (x7 + 8)), (6, .int (x6 + 1)), (0, .ref x0), (4, .int x4), (5, .int x5), (8, .int x8), (9, .int x9)]) hx hb dX11_laid_151 hl (k := 4) rfl (by rfl) (by decide) rfl (fun ls hl => ?_)
      refine lv_goto (tgt := 74) hx hb dX11_laid_154 (by decide) ?_
      exact hk74 _ _ _ _ _ _ _ _ _ hF hP hS (lv_sub hl [2, 3, 4, 1, 0] rfl)
    · replace hF := it_f hF c1
      refine lv_iconst (v := 2) hx hb dX11_laid_100 (by decide) ?_
      refine lv_iload hx hb dX11_laid_101 (lv_at hl 5 rfl) ?_
      refine lv_imul hx hb dX11_laid_103 ?_
      refine lv_iload hx hb dX11_laid_104 (lv_at hl 6 rfl) ?_
      refine lv_aload_n hx hb dX11_laid_106 rfl (lv_at hl 0 rfl) ?_
      refine xr_getI hx hb hts iw_X11_laid_11 hown hK hP hF 11 42 rfl (by decide) (by decide +kernel) ⟨rfl, rfl, rfl⟩ dX11_laid_107 (fun v4 hF => ?_)
      refine lv_icmp_ge (tgt := 123) hx hb dX11_laid_110 (by decide) (fun c5 => ?_) (fun c5 => ?_)
      · replace hF := it_t hF c5
        refine lv_iconst (v := 0) hx hb dX11_laid_123 (by decide) ?_
        exact nd_X11_laid_124 CX k74 hk74 (f_X11_laid_L90 k74 fu) ih _ _ _ _ _ _ _ _ _ _ _ _ hF hP hS (lv_sub hl [0, 1, 2, 3, 4, 6] rfl)
      · replace hF := it_f hF c5
        refine lv_aload_n hx hb dX11_laid_113 rfl (lv_at hl 0 rfl) ?_
        refine xr_getR hx hb hts iw_X11_laid_11 hown hK hP hF 11 41 rfl (by decide) (by decide +kernel) ⟨rfl, rfl, rfl⟩ dX11_laid_114 (fun v6 hF => ?_)
        refine lv_iload hx hb dX11_laid_117 (lv_at hl 6 rfl) ?_
        refine xr_aI hx hb hK hP hF dX11_laid_119 (fun v7 hF => ?_)
        refine lv_goto (tgt := 124) hx hb dX11_laid_120 (by decide) ?_
        exact nd_X11_laid_124 CX k74 hk74 (f_X11_laid_L90 k74 fu) ih _ _ _ _ _ _ _ _ _ _ _ _ hF hP hS (lv_sub hl [0, 1, 2, 3, 4, 6] rfl)
set_option maxHeartbeats 4000000 in
set_option maxRecDepth 100000 in
theorem nd_X11_laid_74 {p : Program} {l : Launch} {e : Env} {s : State} {m : MethodId} {args : Array Value} {below : List Frame} {meth : Method} {c : Code} {b0 : Nat} {D : va_G} {cy : Nat → ClassId} {M1 : Mm} {r : Int32} (CX : Cx yX11_laid cX11_laid 10 (some .int) wsX11_laid b0 D cy p s m args meth c) : ∀ (fu : Nat), ∀ (M : Mm) (x0 : Nat) (x4 : Int32) (x5 : Int32) (x6 : Int32) (x7 : Int32) (H : Heap) (locs : List Loc) (ls : Array Slot), f_X11_laid_L74 fu M x0 x4 x5 x6 x7 = some (M1, r) → Hp b0 D cy M H → va_S (BA b0) s.heap H locs → lv_has ls 10 [(0, .ref x0), (4, .int x4), (5, .int x5), (6, .int x6), (7, .int x7)] → W p l e rm_X11_laid s m args below meth c H locs 0 0 (MQ below (Qm b0 D cy M1 (some (.int r))) args s 0 0 (BA b0)) (F0 m 74 ls []) := by
  obtain ⟨hx, hb, hr, hml, hown0, hts, hlk, hK, hN, hb0, hnm⟩ := id CX
  have hown : s.vm.findClass RX11 = some m.cls := hown0
  intro fu
  induction fu with
  | zero =>
    intro M x0 x4 x5 x6 x7 H locs ls hF hP hS hl
    rw [f_X11_laid_L74] at hF
    cases hF
  | succ fu ih =>
    intro M x0 x4 x5 x6 x7 H locs ls hF hP hS hl
    rw [f_X11_laid_L74] at hF
    refine lv_iload hx hb dX11_laid_74 (lv_at hl 4 rfl) ?_
    refine lv_aload_n hx hb dX11_laid_76 rfl (lv_at hl 0 rfl) ?_
    refine xr_getI hx hb hts iw_X11_laid_11 hown hK hP hF 11 42 rfl (by decide) (by decide +kernel) ⟨rfl, rfl, rfl⟩ dX11_laid_77 (fun v1 hF => ?_)
    refine lv_icmp_ge (tgt := 157) hx hb dX11_laid_80 (by decide) (fun c2 => ?_) (fun c2 => ?_)
    · replace hF := it_t hF c2
      refine lv_iload hx hb dX11_laid_157 (lv_at hl 1 rfl) ?_
      refine lv_if_eq (tgt := 186) hx hb dX11_laid_159 (by decide) (fun c3 => ?_) (fun c3 => ?_)
      · replace hF := it_t hF c3
        exact nd_X11_laid_186 CX _ _ _ _ _ _ _ hF hP hS (lv_sub hl [0, 2, 3] rfl)
      · replace hF := it_f hF c3
        refine lv_aload_n hx hb dX11_laid_162 rfl (lv_at hl 0 rfl) ?_
        refine xr_getR hx hb hts iw_X11_laid_11 hown hK hP hF 11 18 rfl (by decide) (by decide +kernel) ⟨rfl, rfl, rfl⟩ dX11_laid_163 (fun v4 hF => ?_)
        refine lv_bipush (v := 64) hx hb dX11_laid_166 (by decide) ?_
        refine lv_iload hx hb dX11_laid_168 (lv_at hl 2 rfl) ?_
        refine lv_imul hx hb dX11_laid_170 ?_
        refine lv_iload hx hb dX11_laid_171 (lv_at hl 3 rfl) ?_
        refine lv_iadd hx hb dX11_laid_173 ?_
        refine lv_aload_n hx hb dX11_laid_174 rfl (lv_at hl 0 rfl) ?_
        refine lv_iload hx hb dX11_laid_175 (lv_at hl 2 rfl) ?_
        refine lv_iload hx hb dX11_laid_177 (lv_at hl 3 rfl) ?_
        obtain ⟨v6, h5, hF⟩ := ob_some hF
        refine xr_call1 (va_runV (As := [.int x5, .int x6]) (rest := [.int ((64 * x5) + x6), .ref v4]) ⟨hx, hb, hml, hown, hts⟩ (ct_X11_checkOf l b0 D cy M x0 x5 x6 v6 h5) (cwV 2 hts gX11_laid_X11_checkOf rfl rfl rfl (by decide +kernel) ⟨Nat.le_of_ble_eq_true rfl, Nat.le_of_ble_eq_true rfl⟩) (xp_V hP hK hN hS hb0 11 rfl (gk_X11_checkOf h5)) rfl rfl hl.1 rfl (lv_room (Nat.le_of_ble_eq_true rfl)) dX11_laid_179 ⟨Nat.le_of_ble_eq_true rfl, Nat.le_of_ble_eq_true rfl⟩) hS (fun H locs hP hS => ?_)
        refine xr_wI hx hb hK hP hS hF dX11_laid_182 (fun M7 H locs hF hP hS => ?_)
        refine lv_iinc (v := x6 + 1) (lv' := [(6, .int (x6 + 1)), (0, .ref x0), (4, .int x4), (5, .int x5), (7, .int x7)]) hx hb dX11_laid_183 hl (k := 3) rfl (by rfl) (by decide) rfl (fun ls hl => ?_)
        exact nd_X11_laid_186 CX _ _ _ _ _ _ _ hF hP hS (lv_sub hl [1, 3, 0] rfl)
    · replace hF := it_f hF c2
      refine lv_iconst (v := 0) hx hb dX11_laid_83 (by decide) ?_
      refine lv_istore (lv' := [(8, .int 0), (0, .ref x0), (4, .int x4), (5, .int x5), (6, .int x6), (7, .int x7)]) hx hb dX11_laid_84 hl (by decide) (by first | rfl | simp [cat_rf]) (fun ls hl => ?_)
      refine lv_iload hx hb dX11_laid_86 (lv_at hl 5 rfl) ?_
      refine lv_istore (lv' := [(9, .int x7), (8, .int 0), (0, .ref x0), (4, .int x4), (5, .int x5), (6, .int x6), (7, .int x7)]) hx hb dX11_laid_88 hl (by decide) (by first | rfl | simp [cat_rf]) (fun ls hl => ?_)
      exact nd_X11_laid_90 CX (f_X11_laid_L74 fu) ih _ _ _ _ _ _ _ _ _ _ _ _ hF hP hS (lv_sub hl [2, 3, 4, 5, 6, 1, 0] rfl)
theorem gk_X11_laid {M : Mm} {a0 : Nat} {a1 : Int32} {a2 : Int32} {a3 : Int32} {a4 : Int32} {r : (Mm × Int32)} (h : f_X11_laid M a0 a1 a2 a3 a4 = some r) : mK M a0 = 12 := by
  unfold f_X11_laid at h
  exact (if_some h).1
set_option maxHeartbeats 4000000 in
set_option maxRecDepth 100000 in
theorem ct_X11_laid (l : Launch) (b0 : Nat) (D : va_G) (cy : Nat → ClassId) (M : Mm) (a0 : Nat) (a1 : Int32) (a2 : Int32) (a3 : Int32) (a4 : Int32) (M1 : Mm) (r : Int32) (hF : f_X11_laid M a0 a1 a2 a3 a4 = some (M1, r)) : Met l yX11_laid wsX11_laid rm_X11_laid (va_Pc [.ref a0, .int a1, .int a2, .int a3, .int a4] (Pm b0 D cy M)) (Qm b0 D cy M1 (some (.int r))) 0 0 (BA b0) := by
  refine ct_of [.ref a0, .int a1, .int a2, .int a3, .int a4] (by decide) rfl ?_
  intro p e s m below meth c CX hP
  obtain ⟨hx, hb, hr, hml, hown0, hts, hlk, hK, hN, hb0, hnm⟩ := id CX
  have hown : s.vm.findClass RX11 = some m.cls := hown0
  have hS : va_S (BA b0) s.heap s.heap [] := va_S.rf
  have hl := lv_entry [.ref a0, .int a1, .int a2, .int a3, .int a4] (n := 10) (Nat.le_of_ble_eq_true rfl)
  generalize (lg_sl [.ref a0, .int a1, .int a2, .int a3, .int a4] ++ List.replicate (10 - (lg_sl [.ref a0, .int a1, .int a2, .int a3, .int a4]).length) Slot.unset).toArray = ls at hl ⊢
  have hl : lv_has ls 10 [(0, .ref a0), (1, .int a1), (2, .int a2), (3, .int a3), (4, .int a4)] := hl
  unfold f_X11_laid at hF
  replace hF := (if_some hF).2
  refine lv_aload_n hx hb dX11_laid_0 rfl (lv_at hl 0 rfl) ?_
  refine xr_getI hx hb hts iw_X11_laid_11 hown hK hP hF 11 16 rfl (by decide) (by decide +kernel) ⟨rfl, rfl, rfl⟩ dX11_laid_1 (fun v1 hF => ?_)
  refine lv_istore (lv' := [(5, .int v1), (0, .ref a0), (1, .int a1), (2, .int a2), (3, .int a3), (4, .int a4)]) hx hb dX11_laid_4 hl (by decide) (by first | rfl | simp [cat_rf]) (fun ls hl => ?_)
  refine lv_aload_n hx hb dX11_laid_6 rfl (lv_at hl 1 rfl) ?_
  refine xr_getR hx hb hts iw_X11_laid_11 hown hK hP hF 11 19 rfl (by decide) (by decide +kernel) ⟨rfl, rfl, rfl⟩ dX11_laid_7 (fun v2 hF => ?_)
  refine lv_iload hx hb dX11_laid_10 (lv_at hl 0 rfl) ?_
  refine lv_iload_n hx hb dX11_laid_12 rfl (lv_at hl 2 rfl) ?_
  refine xr_wI hx hb hK hP hS hF dX11_laid_13 (fun M3 H locs hF hP hS => ?_)
  refine lv_aload_n hx hb dX11_laid_14 rfl (lv_at hl 1 rfl) ?_
  refine xr_getR hx hb hts iw_X11_laid_11 hown hK hP hF 11 20 rfl (by decide) (by decide +kernel) ⟨rfl, rfl, rfl⟩ dX11_laid_15 (fun v4 hF => ?_)
  refine lv_iload hx hb dX11_laid_18 (lv_at hl 0 rfl) ?_
  refine lv_iload_n hx hb dX11_laid_20 rfl (lv_at hl 3 rfl) ?_
  refine xr_wI hx hb hK hP hS hF dX11_laid_21 (fun M5 H locs hF hP hS => ?_)
  refine lv_aload_n hx hb dX11_laid_22 rfl (lv_at hl 1 rfl) ?_
  refine xr_getR hx hb hts iw_X11_laid_11 hown hK hP hF 11 21 rfl (by decide) (by decide +kernel) ⟨rfl, rfl, rfl⟩ dX11_laid_23 (fun v6 hF => ?_)
  refine lv_iload hx hb dX11_laid_26 (lv_at hl 0 rfl) ?_
  refine lv_iload_n hx hb dX11_laid_28 rfl (lv_at hl 4 rfl) ?_
  refine lv_ldc (v := 65536) hx hb hown (hts (.constant RX11 207 65536) (by decide +kernel)) dX11_laid_29 ?_
  refine lv_irem hx hb dX11_laid_31 (by decide) ?_
  refine xr_wI hx hb hK hP hS hF dX11_laid_32 (fun M7 H locs hF hP hS => ?_)
  refine lv_aload_n hx hb dX11_laid_33 rfl (lv_at hl 1 rfl) ?_
  refine xr_getR hx hb hts iw_X11_laid_11 hown hK hP hF 11 22 rfl (by decide) (by decide +kernel) ⟨rfl, rfl, rfl⟩ dX11_laid_34 (fun v8 hF => ?_)
  refine lv_iload hx hb dX11_laid_37 (lv_at hl 0 rfl) ?_
  refine lv_aload_n hx hb dX11_laid_39 rfl (lv_at hl 1 rfl) ?_
  refine xr_getI hx hb hts iw_X11_laid_11 hown hK hP hF 11 42 rfl (by decide) (by decide +kernel) ⟨rfl, rfl, rfl⟩ dX11_laid_40 (fun v9 hF => ?_)
  refine xr_wI hx hb hK hP hS hF dX11_laid_43 (fun M10 H locs hF hP hS => ?_)
  refine lv_aload_n hx hb dX11_laid_44 rfl (lv_at hl 1 rfl) ?_
  refine xr_getR hx hb hts iw_X11_laid_11 hown hK hP hF 11 23 rfl (by decide) (by decide +kernel) ⟨rfl, rfl, rfl⟩ dX11_laid_45 (fun v11 hF => ?_)
  refine lv_iload hx hb dX11_laid_48 (lv_at hl 0 rfl) ?_
  refine lv_iconst (v := (-1)) hx hb dX11_laid_50 (by decide) ?_
  refine xr_wI hx hb hK hP hS hF dX11_laid_51 (fun M12 H locs hF hP hS => ?_)
  refine lv_aload_n hx hb dX11_laid_52 rfl (lv_at hl 1 rfl) ?_
  refine xr_getR hx hb hts iw_X11_laid_11 hown hK hP hF 11 24 rfl (by decide) (by decide +kernel) ⟨rfl, rfl, rfl⟩ dX11_laid_53 (fun v13 hF => ?_)
  refine lv_iload hx hb dX11_laid_56 (lv_at hl 0 rfl) ?_
  refine lv_iconst (v := 0) hx hb dX11_laid_58 (by decide) ?_
  refine xr_wZ hx hb hK hP hS hF dX11_laid_59 (fun M14 H locs hF hP hS => ?_)
  refine lv_aload_n hx hb dX11_laid_60 rfl (lv_at hl 1 rfl) ?_
  refine xr_getR hx hb hts iw_X11_laid_11 hown hK hP hF 11 25 rfl (by decide) (by decide +kernel) ⟨rfl, rfl, rfl⟩ dX11_laid_61 (fun v15 hF => ?_)
  refine lv_iload hx hb dX11_laid_64 (lv_at hl 0 rfl) ?_
  refine lv_iconst (v := 0) hx hb dX11_laid_66 (by decide) ?_
  refine xr_wZ hx hb hK hP hS hF dX11_laid_67 (fun M16 H locs hF hP hS => ?_)
  refine lv_iconst (v := 0) hx hb dX11_laid_68 (by decide) ?_
  refine lv_istore (lv' := [(6, .int 0), (5, .int v1), (0, .ref a0), (1, .int a1), (2, .int a2), (3, .int a3), (4, .int a4)]) hx hb dX11_laid_69 hl (by decide) (by first | rfl | simp [cat_rf]) (fun ls hl => ?_)
  refine lv_iconst (v := 0) hx hb dX11_laid_71 (by decide) ?_
  refine lv_istore (lv' := [(7, .int 0), (6, .int 0), (5, .int v1), (0, .ref a0), (1, .int a1), (2, .int a2), (3, .int a3), (4, .int a4)]) hx hb dX11_laid_72 hl (by decide) (by first | rfl | simp [cat_rf]) (fun ls hl => ?_)
  exact nd_X11_laid_74 CX _ _ _ _ _ _ _ _ _ _ hF hP hS (lv_sub hl [3, 7, 2, 1, 0] rfl)
