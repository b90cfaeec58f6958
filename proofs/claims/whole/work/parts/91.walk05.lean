/-! X10_isLineFull -/
theorem iw_X10_isLineFull_10 : ∀ w ∈ u_ws RX10 TX10 12, w ∈ wsX10_isLineFull := by decide +kernel
abbrev rm_X10_isLineFull : Room := { frames := 0, cells := 0, slots := 0, locals := 0 }
theorem gk_X10_isLineFull {M : Mm} {a0 : Nat} {r : Int32} (h : f_X10_isLineFull M a0 = some r) : mK M a0 = 11 := by
  unfold f_X10_isLineFull at h
  exact (if_some h).1
set_option maxHeartbeats 4000000 in
set_option maxRecDepth 100000 in
theorem ct_X10_isLineFull (l : Launch) (b0 : Nat) (D : va_G) (cy : Nat → ClassId) (M : Mm) (a0 : Nat) (r : Int32) (hF : f_X10_isLineFull M a0 = some r) : Met l yX10_isLineFull wsX10_isLineFull rm_X10_isLineFull (va_Pc [.ref a0] (Pm b0 D cy M)) (Qm b0 D cy M (some (.int r))) 0 0 (BA b0) := by
  refine ct_of [.ref a0] (by decide) rfl ?_
  intro p e s m below meth c CX hP
  obtain ⟨hx, hb, hr, hml, hown0, hts, hlk, hK, hN, hb0, hnm⟩ := id CX
  have hown : s.vm.findClass RX10 = some m.cls := hown0
  have hS : va_S (BA b0) s.heap s.heap [] := va_S.rf
  have hl := lv_entry [.ref a0] (n := 1) (Nat.le_of_ble_eq_true rfl)
  generalize (lg_sl [.ref a0] ++ List.replicate (1 - (lg_sl [.ref a0]).length) Slot.unset).toArray = ls at hl ⊢
  have hl : lv_has ls 1 [(0, .ref a0)] := hl
  unfold f_X10_isLineFull at hF
  replace hF := (if_some hF).2
  refine lv_aload_n hx hb dX10_isLineFull_0 rfl (lv_at hl 0 rfl) ?_
  refine xr_getI hx hb hts iw_X10_isLineFull_10 hown hK hP hF 10 10 rfl (by decide) (by decide +kernel) ⟨rfl, rfl, rfl⟩ dX10_isLineFull_1 (fun v1 hF => ?_)
  refine lv_sipush (v := 200) hx hb dX10_isLineFull_4 (by decide) ?_
  refine lv_icmp_lt (tgt := 14) hx hb dX10_isLineFull_7 (by decide) (fun c2 => ?_) (fun c2 => ?_)
  · replace hF := it_t hF c2
    refine lv_iconst (v := 0) hx hb dX10_isLineFull_14 (by decide) ?_
    cases hF
    exact W.zret hx hb hr rfl (fun t ht hW => ⟨rfl, by rw [ht]; exact hP, hS.F ht⟩) hS.2.2 dX10_isLineFull_15 hlk
  · replace hF := it_f hF c2
    refine lv_iconst (v := 1) hx hb dX10_isLineFull_10 (by decide) ?_
    refine lv_goto (tgt := 15) hx hb dX10_isLineFull_11 (by decide) ?_
    cases hF
    exact W.zret hx hb hr rfl (fun t ht hW => ⟨rfl, by rw [ht]; exact hP, hS.F ht⟩) hS.2.2 dX10_isLineFull_15 hlk
/-! X10_add -/
theorem iw_X10_add_10 : ∀ w ∈ u_ws RX10 TX10 12, w ∈ wsX10_add := by decide +kernel
abbrev rm_X10_add : Room := { frames := 1, cells := 0, slots := 0, locals := 20 }
theorem gk_X10_add {M : Mm} {a0 : Nat} {a1 : Nat} {r : (Mm × Int32)} (h : f_X10_add M a0 a1 = some r) : mK M a0 = 11 := by
  unfold f_X10_add at h
  exact (if_some h).1
set_option maxHeartbeats 4000000 in
set_option maxRecDepth 100000 in
theorem ct_X10_add (l : Launch) (b0 : Nat) (D : va_G) (cy : Nat → ClassId) (M : Mm) (a0 : Nat) (a1 : Nat) (M1 : Mm) (r : Int32) (hF : f_X10_add M a0 a1 = some (M1, r)) : Met l yX10_add wsX10_add rm_X10_add (va_Pc [.ref a0, .ref a1] (Pm b0 D cy M)) (Qm b0 D cy M1 (some (.int r))) 0 0 (BA b0) := by
  refine ct_of [.ref a0, .ref a1] (by decide) rfl ?_
  intro p e s m below meth c CX hP
  obtain ⟨hx, hb, hr, hml, hown0, hts, hlk, hK, hN, hb0, hnm⟩ := id CX
  have hown : s.vm.findClass RX10 = some m.cls := hown0
  have hS : va_S (BA b0) s.heap s.heap [] := va_S.rf
  have hl := lv_entry [.ref a0, .ref a1] (n := 2) (Nat.le_of_ble_eq_true rfl)
  generalize (lg_sl [.ref a0, .ref a1] ++ List.replicate (2 - (lg_sl [.ref a0, .ref a1]).length) Slot.unset).toArray = ls at hl ⊢
  have hl : lv_has ls 2 [(0, .ref a0), (1, .ref a1)] := hl
  unfold f_X10_add at hF
  replace hF := (if_some hF).2
  refine lv_aload_n hx hb dX10_add_0 rfl (lv_at hl 0 rfl) ?_
  obtain ⟨v2, h1, hF⟩ := ob_some hF
  refine xr_call1 (va_runV (As := []) (rest := []) ⟨hx, hb, hml, hown, hts⟩ (ct_X10_isLineFull l b0 D cy M a0 v2 h1) (cwV 0 hts gX10_add_X10_isLineFull rfl rfl rfl (by decide +kernel) ⟨Nat.le_of_ble_eq_true rfl, Nat.le_of_ble_eq_true rfl⟩) (xp_V hP hK hN hS hb0 10 rfl (gk_X10_isLineFull h1)) rfl rfl hl.1 rfl (lv_room (Nat.le_of_ble_eq_true rfl)) dX10_add_1 ⟨Nat.le_of_ble_eq_true rfl, Nat.le_of_ble_eq_true rfl⟩) hS (fun H locs hP hS => ?_)
  refine lv_if_eq (tgt := 10) hx hb dX10_add_4 (by decide) (fun c3 => ?_) (fun c3 => ?_)
  · replace hF := it_t hF c3
    refine lv_aload_n hx hb dX10_add_10 rfl (lv_at hl 0 rfl) ?_
    refine xr_getR hx hb hts iw_X10_add_10 hown hK hP hF 10 5 rfl (by decide) (by decide +kernel) ⟨rfl, rfl, rfl⟩ dX10_add_11 (fun v4 hF => ?_)
    refine lv_aload_n hx hb dX10_add_14 rfl (lv_at hl 0 rfl) ?_
    refine xr_getI hx hb hts iw_X10_add_10 hown hK hP hF 10 10 rfl (by decide) (by decide +kernel) ⟨rfl, rfl, rfl⟩ dX10_add_15 (fun v5 hF => ?_)
    refine lv_aload_n hx hb dX10_add_18 rfl (lv_at hl 1 rfl) ?_
    refine xr_wR hx hb hK hP hS hF 5 4 rfl (by decide) rfl rfl dX10_add_19 (fun M6 H locs hF hP hS => ?_)
    refine lv_aload_n hx hb dX10_add_20 rfl (lv_at hl 0 rfl) ?_
    refine lv_dup hx hb dX10_add_21 rfl ?_
    refine xr_getI hx hb hts iw_X10_add_10 hown hK hP hF 10 10 rfl (by decide) (by decide +kernel) ⟨rfl, rfl, rfl⟩ dX10_add_22 (fun v7 hF => ?_)
    refine lv_iconst (v := 1) hx hb dX10_add_25 (by decide) ?_
    refine lv_iadd hx hb dX10_add_26 ?_
    refine xr_putI hx hb hts iw_X10_add_10 hown hK hP hS hF 10 10 rfl (by decide) tyX10 tyX10_ok nmX10 (by decide +kernel) (Or.inl rfl) rfl ⟨rfl, rfl, rfl⟩ dX10_add_27 (fun M8 H locs hF hP hS => ?_)
    refine lv_aload_n hx hb dX10_add_30 rfl (lv_at hl 0 rfl) ?_
    refine xr_getI hx hb hts iw_X10_add_10 hown hK hP hF 10 10 rfl (by decide) (by decide +kernel) ⟨rfl, rfl, rfl⟩ dX10_add_31 (fun v9 hF => ?_)
    refine lv_iconst (v := 1) hx hb dX10_add_34 (by decide) ?_
    refine lv_isub hx hb dX10_add_35 ?_
    cases hF
    exact W.iret hx hb hr (fun t ht hW => ⟨rfl, by rw [ht]; exact hP, hS.F ht⟩) hS.2.2 dX10_add_36 hlk
  · replace hF := it_f hF c3
    refine lv_bipush (v := (-2)) hx hb dX10_add_7 (by decide) ?_
    cases hF
    exact W.iret hx hb hr (fun t ht hW => ⟨rfl, by rw [ht]; exact hP, hS.F ht⟩) hS.2.2 dX10_add_9 hlk
/-! X10_addWritten -/
theorem iw_X10_addWritten_4 : ∀ w ∈ u_ws RX4 TX4 9, w ∈ wsX10_addWritten := by decide +kernel
theorem iw_X10_addWritten_5 : ∀ w ∈ u_ws RX5 TX5 2, w ∈ wsX10_addWritten := by decide +kernel
theorem iw_X10_addWritten_10 : ∀ w ∈ u_ws RX10 TX10 12, w ∈ wsX10_addWritten := by decide +kernel
abbrev rm_X10_addWritten : Room := { frames := 3, cells := 2, slots := 73, locals := 95 }
theorem gk_X10_addWritten {M : Mm} {a0 : Nat} {a1 : Int32} {a2 : Int32} {a3 : Int32} {a4 : Option Nat} {r : (Mm × Int32)} (h : f_X10_addWritten M a0 a1 a2 a3 a4 = some r) : mK M a0 = 11 := by
  unfold f_X10_addWritten at h
  exact (if_some h).1
set_option maxHeartbeats 4000000 in
set_option maxRecDepth 100000 in
theorem ct_X10_addWritten (l : Launch) (b0 : Nat) (D : va_G) (cy : Nat → ClassId) (M : Mm) (a0 : Nat) (a1 : Int32) (a2 : Int32) (a3 : Int32) (a4 : Option Nat) (M1 : Mm) (r : Int32) (hF : f_X10_addWritten M a0 a1 a2 a3 a4 = some (M1, r)) : Met l yX10_addWritten wsX10_addWritten rm_X10_addWritten (va_Pc [.ref a0, .int a1, .int a2, .int a3, va_rf a4] (Pm b0 D cy M)) (Qm b0 D cy M1 (some (.int r))) 2 73 (BA b0) := by
  refine ct_of [.ref a0, .int a1, .int a2, .int a3, va_rf a4] (by decide) rfl ?_
  intro p e s m below meth c CX hP
  obtain ⟨hx, hb, hr, hml, hown0, hts, hlk, hK, hN, hb0, hnm⟩ := id CX
  have hown : s.vm.findClass RX10 = some m.cls := hown0
  have hS : va_S (BA b0) s.heap s.heap [] := va_S.rf
  have hl := lv_entry [.ref a0, .int a1, .int a2, .int a3, va_rf a4] (n := 7) (by rcases a4 with _ | _ <;> exact Nat.le_of_ble_eq_true rfl)
  generalize (lg_sl [.ref a0, .int a1, .int a2, .int a3, va_rf a4] ++ List.replicate (7 - (lg_sl [.ref a0, .int a1, .int a2, .int a3, va_rf a4]).length) Slot.unset).toArray = ls at hl ⊢
  have hl : lv_has ls 7 [(0, .ref a0), (1, .int a1), (2, .int a2), (3, .int a3), (4, va_rf a4)] := by rcases a4 with _ | _ <;> exact hl
  unfold f_X10_addWritten at hF
  replace hF := (if_some hF).2
  refine lv_aload_n hx hb dX10_addWritten_0 rfl (lv_at hl 0 rfl) ?_
  refine xr_getR hx hb hts iw_X10_addWritten_10 hown hK hP hF 10 7 rfl (by decide) (by decide +kernel) ⟨rfl, rfl, rfl⟩ dX10_addWritten_1 (fun v1 hF => ?_)
  refine lv_iload_n hx hb dX10_addWritten_4 rfl (lv_at hl 1 rfl) ?_
  obtain ⟨v3, h2, hF⟩ := ob_some hF
  refine xr_call1 (va_runS (As := [.int a1]) (rest := [.ref v1]) ⟨hx, hb, hml, hown, hts⟩ (ct_X10_endsInCheck l b0 D cy M a1 v3 h2) (va_cwS 1 hts gX10_addWritten_X10_endsInCheck rfl rfl rfl (by decide +kernel) ⟨Nat.le_of_ble_eq_true rfl, Nat.le_of_ble_eq_true rfl⟩) (xp_S hP hK hN hS hb0) rfl rfl hl.1 rfl (lv_room (Nat.le_of_ble_eq_true rfl)) dX10_addWritten_5 ⟨Nat.le_of_ble_eq_true rfl, Nat.le_of_ble_eq_true rfl⟩) hS (fun H locs hP hS => ?_)
  obtain ⟨M5, v6, h4, hF⟩ := ob2_some hF
  refine xr_call1 (va_runV (As := [.int v3]) (rest := []) ⟨hx, hb, hml, hown, hts⟩ (ct_X5_finished l b0 D cy M v1 v3 M5 v6 h4) (cwV 1 hts gX10_addWritten_X5_finished rfl rfl rfl (by decide +kernel) ⟨Nat.le_of_ble_eq_true rfl, Nat.le_of_ble_eq_true rfl⟩) (xp_V hP hK hN hS hb0 5 rfl (gk_X5_finished h4)) rfl rfl hl.1 rfl (lv_room (Nat.le_of_ble_eq_true rfl)) dX10_addWritten_8 ⟨Nat.le_of_ble_eq_true rfl, Nat.le_of_ble_eq_true rfl⟩) hS (fun H locs hP hS => ?_)
  refine W.cs (cells' := 1) (slots' := 64) rfl rfl ?_
  refine lv_astore (lv' := [(5, .ref v6), (0, .ref a0), (1, .int a1), (2, .int a2), (3, .int a3), (4, va_rf a4)]) hx hb dX10_addWritten_11 hl (by decide) (by first | rfl | simp [cat_rf]) (fun ls hl => ?_)
  refine xr_new hx hb hts iw_X10_addWritten_4 hown hK hP hS hb0 4 rfl tyX4 tyX4_ok df_4 (by decide +kernel) (by decide +kernel) (by decide +kernel) (Nat.le_of_ble_eq_true rfl) (Nat.le_of_ble_eq_true rfl) dX10_addWritten_13 (kd := 5) rfl (fun H hP hS => ?_)
  refine W.cs (cells' := 2) (slots' := 73) rfl rfl ?_
  refine lv_dup hx hb dX10_addWritten_16 rfl ?_
  refine lv_iload_n hx hb dX10_addWritten_17 rfl (lv_at hl 2 rfl) ?_
  refine lv_iload_n hx hb dX10_addWritten_18 rfl (lv_at hl 3 rfl) ?_
  refine lv_iload_n hx hb dX10_addWritten_19 rfl (lv_at hl 4 rfl) ?_
  refine lv_ldcw (v := 65536) hx hb hown (hts (.constant RX10 327 65536) (by decide +kernel)) dX10_addWritten_20 ?_
  refine lv_irem hx hb dX10_addWritten_23 (by decide) ?_
  refine lv_aload hx hb dX10_addWritten_24 (lv_at hl 0 rfl) ?_
  refine lv_aload_n hx hb dX10_addWritten_26 rfl (lv_at hl 1 rfl) ?_
  refine xr_getR hx hb hts iw_X10_addWritten_10 hown hK hP hF 10 7 rfl (by decide) (by decide +kernel) ⟨rfl, rfl, rfl⟩ dX10_addWritten_27 (fun v7 hF => ?_)
  refine xr_getI hx hb hts iw_X10_addWritten_5 hown hK hP hF 5 1 rfl (by decide) (by decide +kernel) ⟨rfl, rfl, rfl⟩ dX10_addWritten_30 (fun v8 hF => ?_)
  obtain ⟨M10, h9, hF⟩ := ob_some hF
  refine xr_call0 (va_runI (As := [.int a1, .int a2, .int (a3 - a3 / 65536 * 65536), .ref v6, .int v8]) (rest := [.ref (mS M5)]) ⟨hx, hb, hml, hown, hts⟩ (ct_X4_init l b0 D cy (nO M5 5) (mS M5) a1 a2 (a3 - a3 / 65536 * 65536) v6 v8 M10 h9) (cwI 5 hts gX10_addWritten_X4_init rfl rfl rfl (hts (.initialized RX4) (by decide +kernel)) (hts (.methodLink RX10 210 yX4_init) (by decide +kernel)) (hts (.instanceMethod yX4_init) (by decide +kernel)) rfl (by decide +kernel) ⟨Nat.le_of_ble_eq_true rfl, Nat.le_of_ble_eq_true rfl⟩) (xp_S hP hK hN hS hb0) rfl rfl hl.1 rfl (lv_room (Nat.le_of_ble_eq_true rfl)) dX10_addWritten_33 ⟨Nat.le_of_ble_eq_true rfl, Nat.le_of_ble_eq_true rfl⟩) hS (fun H locs hP hS => ?_)
  refine lv_astore (lv' := [(6, .ref (mS M5)), (5, .ref v6), (0, .ref a0), (1, .int a1), (2, .int a2), (3, .int a3), (4, va_rf a4)]) hx hb dX10_addWritten_36 hl (by decide) (by first | rfl | simp [cat_rf]) (fun ls hl => ?_)
  refine lv_aload hx hb dX10_addWritten_38 (lv_at hl 0 rfl) ?_
  refine xr_aload hx hb dX10_addWritten_40 (lv_at hl 6 rfl) ?_
  refine xr_putR hx hb hts iw_X10_addWritten_4 hown hK hP hS (v := a4) hF 4 8 rfl (by decide) tyX4 tyX4_ok nmX4 (by decide +kernel) (Or.inl rfl) (Or.inl ⟨_, rfl⟩) ⟨rfl, rfl, rfl⟩ dX10_addWritten_42 (fun M11 H locs hF hP hS => ?_)
  refine lv_aload_n hx hb dX10_addWritten_45 rfl (lv_at hl 2 rfl) ?_
  refine lv_aload hx hb dX10_addWritten_46 (lv_at hl 0 rfl) ?_
  obtain ⟨M13, v14, h12, hF⟩ := ob2_some hF
  refine xr_call1 (va_runV (As := [.ref (mS M5)]) (rest := []) ⟨hx, hb, hml, hown, hts⟩ (ct_X10_add l b0 D cy M11 a0 (mS M5) M13 v14 h12) (cwV 1 hts gX10_addWritten_X10_add rfl rfl rfl (by decide +kernel) ⟨Nat.le_of_ble_eq_true rfl, Nat.le_of_ble_eq_true rfl⟩) (xp_V hP hK hN hS hb0 10 rfl (gk_X10_add h12)) rfl rfl hl.1 rfl (lv_room (Nat.le_of_ble_eq_true rfl)) dX10_addWritten_48 ⟨Nat.le_of_ble_eq_true rfl, Nat.le_of_ble_eq_true rfl⟩) hS (fun H locs hP hS => ?_)
  cases hF
  exact W.iret hx hb hr (fun t ht hW => ⟨rfl, by rw [ht]; exact hP, hS.F ht⟩) hS.2.2 dX10_addWritten_51 hlk
/-! X10_send -/
theorem iw_X10_send_3 : ∀ w ∈ u_ws RX3 TX3 2, w ∈ wsX10_send := by decide +kernel
theorem iw_X10_send_6 : ∀ w ∈ u_ws RX6 TX6 5, w ∈ wsX10_send := by decide +kernel
theorem iw_X10_send_7 : ∀ w ∈ u_ws RX7 TX7 4, w ∈ wsX10_send := by decide +kernel
theorem iw_X10_send_9 : ∀ w ∈ u_ws RX9 TX9 7, w ∈ wsX10_send := by decide +kernel
theorem iw_X10_send_10 : ∀ w ∈ u_ws RX10 TX10 12, w ∈ wsX10_send := by decide +kernel
abbrev rm_X10_send : Room := { frames := 6, cells := 5, slots := 93, locals := 153 }
set_option maxHeartbeats 4000000 in
set_option maxRecDepth 100000 in
theorem nd_X10_send_165 {p : Program} {l : Launch} {e : Env} {s : State} {m : MethodId} {args : Array Value} {below : List Frame} {meth : Method} {c : Code} {b0 : Nat} {D : va_G} {cy : Nat → ClassId} {M1 : Mm} {r : Int32} (CX : Cx yX10_send cX10_send 6 (some .int) wsX10_send b0 D cy p s m args meth c) : ∀ (M : Mm) (x0 : Nat) (x1 : Int32) (x3 : Nat) (x4 : Int32) (x5 : Option Nat) (H : Heap) (locs : List Loc) (ls : Array Slot), f_X10_send_J165 M x0 x1 x3 x4 x5 = some (M1, r) → Hp b0 D cy M H → va_S (BA b0) s.heap H locs → lv_has ls 6 [(0, .ref x0), (1, .int x1), (3, .ref x3), (4, .int x4), (5, va_rf x5)] → W p l e rm_X10_send s m args below meth c H locs 3 20 (MQ below (Qm b0 D cy M1 (some (.int r))) args s 5 93 (BA b0)) (F0 m 165 ls []) := by
  obtain ⟨hx, hb, hr, hml, hown0, hts, hlk, hK, hN, hb0, hnm⟩ := id CX
  have hown : s.vm.findClass RX10 = some m.cls := hown0
  intro M x0 x1 x3 x4 x5 H locs ls hF hP hS hl
  unfold f_X10_send_J165 at hF
  refine lv_aload_n hx hb dX10_send_165 rfl (lv_at hl 2 rfl) ?_
  refine lv_aload_n hx hb dX10_send_166 rfl (lv_at hl 0 rfl) ?_
  refine xr_getR hx hb hts iw_X10_send_10 hown hK hP hF 10 2 rfl (by decide) (by decide +kernel) ⟨rfl, rfl, rfl⟩ dX10_send_167 (fun v1 hF => ?_)
  refine lv_aload_n hx hb dX10_send_170 rfl (lv_at hl 0 rfl) ?_
  refine xr_getI hx hb hts iw_X10_send_10 hown hK hP hF 10 0 rfl (by decide) (by decide +kernel) ⟨rfl, rfl, rfl⟩ dX10_send_171 (fun v2 hF => ?_)
  obtain ⟨M4, h3, hF⟩ := ob_some hF
  refine xr_call0 (va_runV (As := [.ref v1, .int v2]) (rest := []) ⟨hx, hb, hml, hown, hts⟩ (ct_X9_remember l b0 D cy M x3 v1 v2 M4 h3) (cwV 2 hts gX10_send_X9_remember rfl rfl rfl (by decide +kernel) ⟨Nat.le_of_ble_eq_true rfl, Nat.le_of_ble_eq_true rfl⟩) (xp_V hP hK hN hS hb0 9 rfl (gk_X9_remember h3)) rfl rfl hl.1 rfl (lv_room (Nat.le_of_ble_eq_true rfl)) dX10_send_174 ⟨Nat.le_of_ble_eq_true rfl, Nat.le_of_ble_eq_true rfl⟩) hS (fun H locs hP hS => ?_)
  refine lv_aload_n hx hb dX10_send_177 rfl (lv_at hl 0 rfl) ?_
  refine lv_iload hx hb dX10_send_178 (lv_at hl 3 rfl) ?_
  refine lv_iload_n hx hb dX10_send_180 rfl (lv_at hl 1 rfl) ?_
  refine lv_aload_n hx hb dX10_send_181 rfl (lv_at hl 0 rfl) ?_
  refine xr_getR hx hb hts iw_X10_send_10 hown hK hP hF 10 2 rfl (by decide) (by decide +kernel) ⟨rfl, rfl, rfl⟩ dX10_send_182 (fun v5 hF => ?_)
  refine xr_getI hx hb hts iw_X10_send_3 hown hK hP hF 3 1 rfl (by decide) (by decide +kernel) ⟨rfl, rfl, rfl⟩ dX10_send_185 (fun v6 hF => ?_)
  refine xr_aload hx hb dX10_send_188 (lv_at hl 4 rfl) ?_
  obtain ⟨M8, v9, h7, hF⟩ := ob2_some hF
  refine xr_call1 (va_runV (As := [.int x4, .int x1, .int v6, va_rf x5]) (rest := []) ⟨hx, hb, hml, hown, hts⟩ (ct_X10_addWritten l b0 D cy M4 x0 x4 x1 v6 x5 M8 v9 h7) (cwV 4 hts gX10_send_X10_addWritten rfl rfl rfl (by decide +kernel) ⟨Nat.le_of_ble_eq_true rfl, Nat.le_of_ble_eq_true rfl⟩) (xp_V hP hK hN hS hb0 10 rfl (gk_X10_addWritten h7)) rfl rfl hl.1 rfl (lv_room (Nat.le_of_ble_eq_true rfl)) dX10_send_190 ⟨Nat.le_of_ble_eq_true rfl, Nat.le_of_ble_eq_true rfl⟩) hS (fun H locs hP hS => ?_)
  refine W.cs (cells' := 5) (slots' := 93) rfl rfl ?_
  cases hF
  exact W.iret hx hb hr (fun t ht hW => ⟨rfl, by rw [ht]; exact hP, hS.F ht⟩) hS.2.2 dX10_send_193 hlk
theorem gk_X10_send {M : Mm} {a0 : Nat} {a1 : Int32} {a2 : Int32} {r : (Mm × Int32)} (h : f_X10_send M a0 a1 a2 = some r) : mK M a0 = 11 := by
  unfold f_X10_send at h
  exact (if_some h).1
set_option maxHeartbeats 4000000 in
set_option maxRecDepth 100000 in
theorem ct_X10_send (l : Launch) (b0 : Nat) (D : va_G) (cy : Nat → ClassId) (M : Mm) (a0 : Nat) (a1 : Int32) (a2 : Int32) (M1 : Mm) (r : Int32) (hF : f_X10_send M a0 a1 a2 = some (M1, r)) : Met l yX10_send wsX10_send rm_X10_send (va_Pc [.ref a0, .int a1, .int a2] (Pm b0 D cy M)) (Qm b0 D cy M1 (some (.int r))) 5 93 (BA b0) := by
  refine ct_of [.ref a0, .int a1, .int a2] (by decide) rfl ?_
  intro p e s m below meth c CX hP
  obtain ⟨hx, hb, hr, hml, hown0, hts, hlk, hK, hN, hb0, hnm⟩ := id CX
  have hown : s.vm.findClass RX10 = some m.cls := hown0
  have hS : va_S (BA b0) s.heap s.heap [] := va_S.rf
  have hl := lv_entry [.ref a0, .int a1, .int a2] (n := 6) (Nat.le_of_ble_eq_true rfl)
  generalize (lg_sl [.ref a0, .int a1, .int a2] ++ List.replicate (6 - (lg_sl [.ref a0, .int a1, .int a2]).length) Slot.unset).toArray = ls at hl ⊢
  have hl : lv_has ls 6 [(0, .ref a0), (1, .int a1), (2, .int a2)] := hl
  unfold f_X10_send at hF
  replace hF := (if_some hF).2
  refine lv_iload_n hx hb dX10_send_0 rfl (lv_at hl 1 rfl) ?_
  obtain ⟨v2, h1, hF⟩ := ob_some hF
  refine xr_call1 (va_runS (As := [.int a1]) (rest := []) ⟨hx, hb, hml, hown, hts⟩ (ct_X10_isFlow l b0 D cy M a1 v2 h1) (va_cwS 1 hts gX10_send_X10_isFlow rfl rfl rfl (by decide +kernel) ⟨Nat.le_of_ble_eq_true rfl, Nat.le_of_ble_eq_true rfl⟩) (xp_S hP hK hN hS hb0) rfl rfl hl.1 rfl (lv_room (Nat.le_of_ble_eq_true rfl)) dX10_send_1 ⟨Nat.le_of_ble_eq_true rfl, Nat.le_of_ble_eq_true rfl⟩) hS (fun H locs hP hS => ?_)
  refine lv_if_ne (tgt := 9) hx hb dX10_send_4 (by decide) (fun c3 => ?_) (fun c3 => ?_)
  · replace hF := it_f hF c3
    refine lv_aload_n hx hb dX10_send_9 rfl (lv_at hl 0 rfl) ?_
    obtain ⟨v5, h4, hF⟩ := ob_some hF
    refine xr_call1 (va_runV (As := []) (rest := []) ⟨hx, hb, hml, hown, hts⟩ (ct_X10_isLineFull l b0 D cy M a0 v5 h4) (cwV 0 hts gX10_send_X10_isLineFull rfl rfl rfl (by decide +kernel) ⟨Nat.le_of_ble_eq_true rfl, Nat.le_of_ble_eq_true rfl⟩) (xp_V hP hK hN hS hb0 10 rfl (gk_X10_isLineFull h4)) rfl rfl hl.1 rfl (lv_room (Nat.le_of_ble_eq_true rfl)) dX10_send_10 ⟨Nat.le_of_ble_eq_true rfl, Nat.le_of_ble_eq_true rfl⟩) hS (fun H locs hP hS => ?_)
    refine lv_if_eq (tgt := 19) hx hb dX10_send_13 (by decide) (fun c6 => ?_) (fun c6 => ?_)
    · replace hF := it_t hF c6
      refine lv_aload_n hx hb dX10_send_19 rfl (lv_at hl 0 rfl) ?_
      refine xr_getR hx hb hts iw_X10_send_10 hown hK hP hF 10 1 rfl (by decide) (by decide +kernel) ⟨rfl, rfl, rfl⟩ dX10_send_20 (fun v7 hF => ?_)
      refine xr_getI hx hb hts iw_X10_send_6 hown hK hP hF 6 4 rfl (by decide) (by decide +kernel) ⟨rfl, rfl, rfl⟩ dX10_send_23 (fun v8 hF => ?_)
      refine lv_if_ne (tgt := 32) hx hb dX10_send_26 (by decide) (fun c9 => ?_) (fun c9 => ?_)
      · replace hF := it_f hF c9
        refine lv_aload_n hx hb dX10_send_32 rfl (lv_at hl 0 rfl) ?_
        refine xr_getR hx hb hts iw_X10_send_10 hown hK hP hF 10 3 rfl (by decide) (by decide +kernel) ⟨rfl, rfl, rfl⟩ dX10_send_33 (fun v10 hF => ?_)
        refine lv_iload_n hx hb dX10_send_36 rfl (lv_at hl 1 rfl) ?_
        refine xr_aR hx hb hK hP hF 7 rfl (by decide) dX10_send_37 (fun v11 hF => ?_)
        refine lv_astore_n (lv' := [(3, .ref v11), (0, .ref a0), (1, .int a1), (2, .int a2)]) hx hb dX10_send_38 rfl hl (by decide) (by first | rfl | simp [cat_rf]) (fun ls hl => ?_)
        refine lv_aload_n hx hb dX10_send_39 rfl (lv_at hl 1 rfl) ?_
        refine xr_getR hx hb hts iw_X10_send_10 hown hK hP hF 10 2 rfl (by decide) (by decide +kernel) ⟨rfl, rfl, rfl⟩ dX10_send_40 (fun v12 hF => ?_)
        refine lv_aload_n hx hb dX10_send_43 rfl (lv_at hl 0 rfl) ?_
        refine xr_getI hx hb hts iw_X10_send_9 hown hK hP hF 9 1 rfl (by decide) (by decide +kernel) ⟨rfl, rfl, rfl⟩ dX10_send_44 (fun v13 hF => ?_)
        refine xr_putI hx hb hts iw_X10_send_3 hown hK hP hS hF 3 1 rfl (by decide) tyX3 tyX3_ok nmX3 (by decide +kernel) (Or.inl rfl) rfl ⟨rfl, rfl, rfl⟩ dX10_send_47 (fun M14 H locs hF hP hS => ?_)
        refine lv_aload_n hx hb dX10_send_50 rfl (lv_at hl 0 rfl) ?_
        refine lv_aload_n hx hb dX10_send_51 rfl (lv_at hl 1 rfl) ?_
        refine xr_getR hx hb hts iw_X10_send_10 hown hK hP hF 10 1 rfl (by decide) (by decide +kernel) ⟨rfl, rfl, rfl⟩ dX10_send_52 (fun v15 hF => ?_)
        refine lv_aload_n hx hb dX10_send_55 rfl (lv_at hl 1 rfl) ?_
        refine xr_getR hx hb hts iw_X10_send_10 hown hK hP hF 10 2 rfl (by decide) (by decide +kernel) ⟨rfl, rfl, rfl⟩ dX10_send_56 (fun v16 hF => ?_)
        refine lv_iload_n hx hb dX10_send_59 rfl (lv_at hl 3 rfl) ?_
        obtain ⟨v18, h17, hF⟩ := ob_some hF
        refine xr_call1 (va_runV (As := [.ref v15, .ref v16, .int a2]) (rest := []) ⟨hx, hb, hml, hown, hts⟩ (ct_X9_kindFor l b0 D cy M14 v11 v15 v16 a2 v18 h17) (cwV 3 hts gX10_send_X9_kindFor rfl rfl rfl (by decide +kernel) ⟨Nat.le_of_ble_eq_true rfl, Nat.le_of_ble_eq_true rfl⟩) (xp_V hP hK hN hS hb0 9 rfl (gk_X9_kindFor h17)) rfl rfl hl.1 rfl (lv_room (Nat.le_of_ble_eq_true rfl)) dX10_send_60 ⟨Nat.le_of_ble_eq_true rfl, Nat.le_of_ble_eq_true rfl⟩) hS (fun H locs hP hS => ?_)
        refine lv_istore (lv' := [(4, .int v18), (3, .ref v11), (0, .ref a0), (1, .int a1), (2, .int a2)]) hx hb dX10_send_63 hl (by decide) (by first | rfl | simp [cat_rf]) (fun ls hl => ?_)
        refine lv_aload_n hx hb dX10_send_65 rfl (lv_at hl 2 rfl) ?_
        refine xr_getR hx hb hts iw_X10_send_10 hown hK hP hF 10 7 rfl (by decide) (by decide +kernel) ⟨rfl, rfl, rfl⟩ dX10_send_66 (fun v19 hF => ?_)
        refine lv_iload hx hb dX10_send_69 (lv_at hl 0 rfl) ?_
        refine lv_iload_n hx hb dX10_send_71 rfl (lv_at hl 3 rfl) ?_
        refine lv_aload_n hx hb dX10_send_72 rfl (lv_at hl 2 rfl) ?_
        refine xr_getR hx hb hts iw_X10_send_10 hown hK hP hF 10 2 rfl (by decide) (by decide +kernel) ⟨rfl, rfl, rfl⟩ dX10_send_73 (fun v20 hF => ?_)
        refine xr_getI hx hb hts iw_X10_send_3 hown hK hP hF 3 1 rfl (by decide) (by decide +kernel) ⟨rfl, rfl, rfl⟩ dX10_send_76 (fun v21 hF => ?_)
        obtain ⟨M23, h22, hF⟩ := ob_some hF
        refine xr_call0 (va_runV (As := [.int v18, .int a1, .int v21]) (rest := []) ⟨hx, hb, hml, hown, hts⟩ (ct_X5_begin l b0 D cy M14 v19 v18 a1 v21 M23 h22) (cwV 3 hts gX10_send_X5_begin rfl rfl rfl (by decide +kernel) ⟨Nat.le_of_ble_eq_true rfl, Nat.le_of_ble_eq_true rfl⟩) (xp_V hP hK hN hS hb0 5 rfl (gk_X5_begin h22)) rfl rfl hl.1 rfl (lv_room (Nat.le_of_ble_eq_true rfl)) dX10_send_79 ⟨Nat.le_of_ble_eq_true rfl, Nat.le_of_ble_eq_true rfl⟩) hS (fun H locs hP hS => ?_)
        refine lv_null hx hb dX10_send_82 ?_
        refine xr_astore (lv' := [(5, va_rf none), (4, .int v18), (3, .ref v11), (0, .ref a0), (1, .int a1), (2, .int a2)]) hx hb dX10_send_83 hl (by decide) (by first | rfl | simp [cat_rf]) (fun ls hl => ?_)
        refine lv_iload hx hb dX10_send_85 (lv_at hl 1 rfl) ?_
        refine lv_if_ne (tgt := 113) hx hb dX10_send_87 (by decide) (fun c24 => ?_) (fun c24 => ?_)
        · replace hF := it_f hF c24
          refine lv_iload hx hb dX10_send_113 (lv_at hl 1 rfl) ?_
          refine lv_iconst (v := 1) hx hb dX10_send_115 (by decide) ?_
          refine lv_icmp_ne (tgt := 138) hx hb dX10_send_116 (by decide) (fun c25 => ?_) (fun c25 => ?_)
          · replace hF := it_f hF c25
            refine xr_new hx hb hts iw_X10_send_7 hown hK hP hS hb0 7 rfl tyX7 tyX7_ok df_7 (by decide +kernel) (by decide +kernel) (by decide +kernel) (Nat.le_of_ble_eq_true rfl) (Nat.le_of_ble_eq_true rfl) dX10_send_138 (kd := 8) rfl (fun H hP hS => ?_)
            refine W.cs (cells' := 1) (slots' := 4) rfl rfl ?_
            refine lv_dup hx hb dX10_send_141 rfl ?_
            obtain ⟨M27, h26, hF⟩ := ob_some hF
            refine xr_call0 (va_runIN (As := []) (rest := [.ref (mS M23)]) ⟨hx, hb, hml, hown, hts⟩ (ct_X7_init l b0 D cy (nO M23 8) (mS M23) M27 h26) ⟨va_cnB 0 hts gX10_send_X7_init_n151 rfl rfl rfl (hN.1 (RX10, 151, yX7_init, "HeaderLine") (by decide +kernel)) (hts (.initialized RX7) (by decide +kernel)) (by decide +kernel) ⟨Nat.le_of_ble_eq_true rfl, Nat.le_of_ble_eq_true rfl⟩, rfl, hts (.instanceMethod yX7_init) (by decide +kernel)⟩ (xp_S hP hK hN hS hb0) rfl rfl hl.1 rfl (lv_room (Nat.le_of_ble_eq_true rfl)) dX10_send_142 ⟨Nat.le_of_ble_eq_true rfl, Nat.le_of_ble_eq_true rfl⟩) hS (fun H locs hP hS => ?_)
            refine W.cs (cells' := 3) (slots' := 20) rfl rfl ?_
            refine lv_astore (lv' := [(5, .ref (mS M23)), (4, .int v18), (3, .ref v11), (0, .ref a0), (1, .int a1), (2, .int a2)]) hx hb dX10_send_145 hl (by decide) (by first | rfl | simp [cat_rf]) (fun ls hl => ?_)
            refine lv_aload_n hx hb dX10_send_147 rfl (lv_at hl 2 rfl) ?_
            refine lv_aload_n hx hb dX10_send_148 rfl (lv_at hl 3 rfl) ?_
            refine xr_getR hx hb hts iw_X10_send_10 hown hK hP hF 10 1 rfl (by decide) (by decide +kernel) ⟨rfl, rfl, rfl⟩ dX10_send_149 (fun v28 hF => ?_)
            refine lv_aload_n hx hb dX10_send_152 rfl (lv_at hl 3 rfl) ?_
            refine xr_getR hx hb hts iw_X10_send_10 hown hK hP hF 10 2 rfl (by decide) (by decide +kernel) ⟨rfl, rfl, rfl⟩ dX10_send_153 (fun v29 hF => ?_)
            refine lv_aload_n hx hb dX10_send_156 rfl (lv_at hl 3 rfl) ?_
            refine xr_getR hx hb hts iw_X10_send_10 hown hK hP hF 10 7 rfl (by decide) (by decide +kernel) ⟨rfl, rfl, rfl⟩ dX10_send_157 (fun v30 hF => ?_)
            refine lv_aload hx hb dX10_send_160 (lv_at hl 0 rfl) ?_
            obtain ⟨M32, h31, hF⟩ := ob_some hF
            refine xr_call0 (va_runV (As := [.ref v28, .ref v29, .ref v30, .ref (mS M23)]) (rest := []) ⟨hx, hb, hml, hown, hts⟩ (ct_X9_writeShort l b0 D cy M27 v11 v28 v29 v30 (mS M23) M32 h31) (cwV 4 hts gX10_send_X9_writeShort rfl rfl rfl (by decide +kernel) ⟨Nat.le_of_ble_eq_true rfl, Nat.le_of_ble_eq_true rfl⟩) (xp_V hP hK hN hS hb0 9 rfl (gk_X9_writeShort h31)) rfl rfl hl.1 rfl (lv_room (Nat.le_of_ble_eq_true rfl)) dX10_send_162 ⟨Nat.le_of_ble_eq_true rfl, Nat.le_of_ble_eq_true rfl⟩) hS (fun H locs hP hS => ?_)
            exact nd_X10_send_165 CX _ _ _ _ _ _ _ _ _ hF hP hS (lv_sub hl [3, 4, 2, 1, 0] rfl)
          · replace hF := it_t hF c25
            refine lv_aload_n hx hb dX10_send_119 rfl (lv_at hl 2 rfl) ?_
            refine lv_aload_n hx hb dX10_send_120 rfl (lv_at hl 3 rfl) ?_
            refine xr_getR hx hb hts iw_X10_send_10 hown hK hP hF 10 1 rfl (by decide) (by decide +kernel) ⟨rfl, rfl, rfl⟩ dX10_send_121 (fun v33 hF => ?_)
            refine lv_aload_n hx hb dX10_send_124 rfl (lv_at hl 3 rfl) ?_
            refine xr_getR hx hb hts iw_X10_send_10 hown hK hP hF 10 2 rfl (by decide) (by decide +kernel) ⟨rfl, rfl, rfl⟩ dX10_send_125 (fun v34 hF => ?_)
            refine lv_aload_n hx hb dX10_send_128 rfl (lv_at hl 3 rfl) ?_
            refine xr_getR hx hb hts iw_X10_send_10 hown hK hP hF 10 7 rfl (by decide) (by decide +kernel) ⟨rfl, rfl, rfl⟩ dX10_send_129 (fun v35 hF => ?_)
            obtain ⟨M37, h36, hF⟩ := ob_some hF
            refine xr_call0 (va_runV (As := [.ref v33, .ref v34, .ref v35]) (rest := []) ⟨hx, hb, hml, hown, hts⟩ (ct_X9_writePart l b0 D cy M23 v11 v33 v34 v35 M37 h36) (cwV 3 hts gX10_send_X9_writePart rfl rfl rfl (by decide +kernel) ⟨Nat.le_of_ble_eq_true rfl, Nat.le_of_ble_eq_true rfl⟩) (xp_V hP hK hN hS hb0 9 rfl (gk_X9_writePart h36)) rfl rfl hl.1 rfl (lv_room (Nat.le_of_ble_eq_true rfl)) dX10_send_132 ⟨Nat.le_of_ble_eq_true rfl, Nat.le_of_ble_eq_true rfl⟩) hS (fun H locs hP hS => ?_)
            refine lv_goto (tgt := 165) hx hb dX10_send_135 (by decide) ?_
            refine W.widen (k := 3) (n := 20) (by decide) (by decide) ?_
            exact nd_X10_send_165 CX _ _ _ _ _ _ _ _ _ hF hP hS (lv_sub hl [3, 4, 2, 1, 0] rfl)
        · replace hF := it_t hF c24
          refine lv_aload_n hx hb dX10_send_90 rfl (lv_at hl 2 rfl) ?_
          obtain ⟨M39, h38, hF⟩ := ob_some hF
          refine xr_call0 (va_runV (As := []) (rest := []) ⟨hx, hb, hml, hown, hts⟩ (ct_X9_beginRound l b0 D cy M23 v11 M39 h38) (cwV 0 hts gX10_send_X9_beginRound rfl rfl rfl (by decide +kernel) ⟨Nat.le_of_ble_eq_true rfl, Nat.le_of_ble_eq_true rfl⟩) (xp_V hP hK hN hS hb0 9 rfl (gk_X9_beginRound h38)) rfl rfl hl.1 rfl (lv_room (Nat.le_of_ble_eq_true rfl)) dX10_send_91 ⟨Nat.le_of_ble_eq_true rfl, Nat.le_of_ble_eq_true rfl⟩) hS (fun H locs hP hS => ?_)
          refine lv_aload_n hx hb dX10_send_94 rfl (lv_at hl 2 rfl) ?_
          refine lv_aload_n hx hb dX10_send_95 rfl (lv_at hl 3 rfl) ?_
          refine xr_getR hx hb hts iw_X10_send_10 hown hK hP hF 10 1 rfl (by decide) (by decide +kernel) ⟨rfl, rfl, rfl⟩ dX10_send_96 (fun v40 hF => ?_)
          refine lv_aload_n hx hb dX10_send_99 rfl (lv_at hl 3 rfl) ?_
          refine xr_getR hx hb hts iw_X10_send_10 hown hK hP hF 10 2 rfl (by decide) (by decide +kernel) ⟨rfl, rfl, rfl⟩ dX10_send_100 (fun v41 hF => ?_)
          refine lv_aload_n hx hb dX10_send_103 rfl (lv_at hl 3 rfl) ?_
          refine xr_getR hx hb hts iw_X10_send_10 hown hK hP hF 10 7 rfl (by decide) (by decide +kernel) ⟨rfl, rfl, rfl⟩ dX10_send_104 (fun v42 hF => ?_)
          obtain ⟨M44, h43, hF⟩ := ob_some hF
          refine xr_call0 (va_runV (As := [.ref v40, .ref v41, .ref v42]) (rest := []) ⟨hx, hb, hml, hown, hts⟩ (ct_X9_writeWhole l b0 D cy M39 v11 v40 v41 v42 M44 h43) (cwV 3 hts gX10_send_X9_writeWhole rfl rfl rfl (by decide +kernel) ⟨Nat.le_of_ble_eq_true rfl, Nat.le_of_ble_eq_true rfl⟩) (xp_V hP hK hN hS hb0 9 rfl (gk_X9_writeWhole h43)) rfl rfl hl.1 rfl (lv_room (Nat.le_of_ble_eq_true rfl)) dX10_send_107 ⟨Nat.le_of_ble_eq_true rfl, Nat.le_of_ble_eq_true rfl⟩) hS (fun H locs hP hS => ?_)
          refine lv_goto (tgt := 165) hx hb dX10_send_110 (by decide) ?_
          refine W.widen (k := 3) (n := 20) (by decide) (by decide) ?_
          exact nd_X10_send_165 CX _ _ _ _ _ _ _ _ _ hF hP hS (lv_sub hl [3, 4, 2, 1, 0] rfl)
      · replace hF := it_t hF c9
        refine lv_bipush (v := (-3)) hx hb dX10_send_29 (by decide) ?_
        refine W.widen (k := 5) (n := 93) (by decide) (by decide) ?_
        cases hF
        exact W.iret hx hb hr (fun t ht hW => ⟨rfl, by rw [ht]; exact hP, hS.F ht⟩) hS.2.2 dX10_send_31 hlk
    · replace hF := it_f hF c6
      refine lv_bipush (v := (-2)) hx hb dX10_send_16 (by decide) ?_
      refine W.widen (k := 5) (n := 93) (by decide) (by decide) ?_
      cases hF
      exact W.iret hx hb hr (fun t ht hW => ⟨rfl, by rw [ht]; exact hP, hS.F ht⟩) hS.2.2 dX10_send_18 hlk
  · replace hF := it_t hF c3
    refine lv_iconst (v := (-1)) hx hb dX10_send_7 (by decide) ?_
    refine W.widen (k := 5) (n := 93) (by decide) (by decide) ?_
    cases hF
    exact W.iret hx hb hr (fun t ht hW => ⟨rfl, by rw [ht]; exact hP, hS.F ht⟩) hS.2.2 dX10_send_8 hlk
/-! X10_addAnswer -/
theorem iw_X10_addAnswer_10 : ∀ w ∈ u_ws RX10 TX10 12, w ∈ wsX10_addAnswer := by decide +kernel
abbrev rm_X10_addAnswer : Room := { frames := 4, cells := 2, slots := 73, locals := 121 }
theorem gk_X10_addAnswer {M : Mm} {a0 : Nat} {a1 : Int32} {a2 : Int32} {a3 : Int32} {r : (Mm × Int32)} (h : f_X10_addAnswer M a0 a1 a2 a3 = some r) : mK M a0 = 11 := by
  unfold f_X10_addAnswer at h
  exact (if_some h).1
set_option maxHeartbeats 4000000 in
set_option maxRecDepth 100000 in
theorem ct_X10_addAnswer (l : Launch) (b0 : Nat) (D : va_G) (cy : Nat → ClassId) (M : Mm) (a0 : Nat) (a1 : Int32) (a2 : Int32) (a3 : Int32) (M1 : Mm) (r : Int32) (hF : f_X10_addAnswer M a0 a1 a2 a3 = some (M1, r)) : Met l yX10_addAnswer wsX10_addAnswer rm_X10_addAnswer (va_Pc [.ref a0, .int a1, .int a2, .int a3] (Pm b0 D cy M)) (Qm b0 D cy M1 (some (.int r))) 2 73 (BA b0) := by
  refine ct_of [.ref a0, .int a1, .int a2, .int a3] (by decide) rfl ?_
  intro p e s m below meth c CX hP
  obtain ⟨hx, hb, hr, hml, hown0, hts, hlk, hK, hN, hb0, hnm⟩ := id CX
  have hown : s.vm.findClass RX10 = some m.cls := hown0
  have hS : va_S (BA b0) s.heap s.heap [] := va_S.rf
  have hl := lv_entry [.ref a0, .int a1, .int a2, .int a3] (n := 4) (Nat.le_of_ble_eq_true rfl)
  generalize (lg_sl [.ref a0, .int a1, .int a2, .int a3] ++ List.replicate (4 - (lg_sl [.ref a0, .int a1, .int a2, .int a3]).length) Slot.unset).toArray = ls at hl ⊢
  have hl : lv_has ls 4 [(0, .ref a0), (1, .int a1), (2, .int a2), (3, .int a3)] := hl
  unfold f_X10_addAnswer at hF
  replace hF := (if_some hF).2
  refine lv_aload_n hx hb dX10_addAnswer_0 rfl (lv_at hl 0 rfl) ?_
  refine xr_getR hx hb hts iw_X10_addAnswer_10 hown hK hP hF 10 7 rfl (by decide) (by decide +kernel) ⟨rfl, rfl, rfl⟩ dX10_addAnswer_1 (fun v1 hF => ?_)
  refine lv_iload_n hx hb dX10_addAnswer_4 rfl (lv_at hl 1 rfl) ?_
  refine lv_iload_n hx hb dX10_addAnswer_5 rfl (lv_at hl 2 rfl) ?_
  refine lv_iload_n hx hb dX10_addAnswer_6 rfl (lv_at hl 3 rfl) ?_
  obtain ⟨M3, h2, hF⟩ := ob_some hF
  refine xr_call0 (va_runV (As := [.int a1, .int a2, .int a3]) (rest := []) ⟨hx, hb, hml, hown, hts⟩ (ct_X5_begin l b0 D cy M v1 a1 a2 a3 M3 h2) (cwV 3 hts gX10_addAnswer_X5_begin rfl rfl rfl (by decide +kernel) ⟨Nat.le_of_ble_eq_true rfl, Nat.le_of_ble_eq_true rfl⟩) (xp_V hP hK hN hS hb0 5 rfl (gk_X5_begin h2)) rfl rfl hl.1 rfl (lv_room (Nat.le_of_ble_eq_true rfl)) dX10_addAnswer_7 ⟨Nat.le_of_ble_eq_true rfl, Nat.le_of_ble_eq_true rfl⟩) hS (fun H locs hP hS => ?_)
  refine lv_aload_n hx hb dX10_addAnswer_10 rfl (lv_at hl 0 rfl) ?_
  refine lv_iload_n hx hb dX10_addAnswer_11 rfl (lv_at hl 1 rfl) ?_
  refine lv_iload_n hx hb dX10_addAnswer_12 rfl (lv_at hl 2 rfl) ?_
  refine lv_iload_n hx hb dX10_addAnswer_13 rfl (lv_at hl 3 rfl) ?_
  refine lv_null hx hb dX10_addAnswer_14 ?_
  obtain ⟨M5, v6, h4, hF⟩ := ob2_some hF
  refine xr_call1 (va_runV (As := [.int a1, .int a2, .int a3, va_rf none]) (rest := []) ⟨hx, hb, hml, hown, hts⟩ (ct_X10_addWritten l b0 D cy M3 a0 a1 a2 a3 none M5 v6 h4) (cwV 4 hts gX10_addAnswer_X10_addWritten rfl rfl rfl (by decide +kernel) ⟨Nat.le_of_ble_eq_true rfl, Nat.le_of_ble_eq_true rfl⟩) (xp_V hP hK hN hS hb0 10 rfl (gk_X10_addWritten h4)) rfl rfl hl.1 rfl (lv_room (Nat.le_of_ble_eq_true rfl)) dX10_addAnswer_15 ⟨Nat.le_of_ble_eq_true rfl, Nat.le_of_ble_eq_true rfl⟩) hS (fun H locs hP hS => ?_)
  refine W.cs (cells' := 2) (slots' := 73) rfl rfl ?_
  cases hF
  exact W.iret hx hb hr (fun t ht hW => ⟨rfl, by rw [ht]; exact hP, hS.F ht⟩) hS.2.2 dX10_addAnswer_18 hlk
/-! X10_ack -/
theorem iw_X10_ack_1 : ∀ w ∈ u_ws RX1 TX1 4, w ∈ wsX10_ack := by decide +kernel
theorem iw_X10_ack_3 : ∀ w ∈ u_ws RX3 TX3 2, w ∈ wsX10_ack := by decide +kernel
theorem iw_X10_ack_10 : ∀ w ∈ u_ws RX10 TX10 12, w ∈ wsX10_ack := by decide +kernel
abbrev rm_X10_ack : Room := { frames := 5, cells := 2, slots := 73, locals := 144 }
theorem gk_X10_ack {M : Mm} {a0 : Nat} {a1 : Int32} {r : (Mm × Int32)} (h : f_X10_ack M a0 a1 = some r) : mK M a0 = 11 := by
  unfold f_X10_ack at h
  exact (if_some h).1
set_option maxHeartbeats 4000000 in
set_option maxRecDepth 100000 in
theorem ct_X10_ack (l : Launch) (b0 : Nat) (D : va_G) (cy : Nat → ClassId) (M : Mm) (a0 : Nat) (a1 : Int32) (M1 : Mm) (r : Int32) (hF : f_X10_ack M a0 a1 = some (M1, r)) : Met l yX10_ack wsX10_ack rm_X10_ack (va_Pc [.ref a0, .int a1] (Pm b0 D cy M)) (Qm b0 D cy M1 (some (.int r))) 2 73 (BA b0) := by
  refine ct_of [.ref a0, .int a1] (by decide) rfl ?_
  intro p e s m below meth c CX hP
  obtain ⟨hx, hb, hr, hml, hown0, hts, hlk, hK, hN, hb0, hnm⟩ := id CX
  have hown : s.vm.findClass RX10 = some m.cls := hown0
  have hS : va_S (BA b0) s.heap s.heap [] := va_S.rf
  have hl := lv_entry [.ref a0, .int a1] (n := 2) (Nat.le_of_ble_eq_true rfl)
  generalize (lg_sl [.ref a0, .int a1] ++ List.replicate (2 - (lg_sl [.ref a0, .int a1]).length) Slot.unset).toArray = ls at hl ⊢
  have hl : lv_has ls 2 [(0, .ref a0), (1, .int a1)] := hl
  unfold f_X10_ack at hF
  replace hF := (if_some hF).2
  refine lv_iload_n hx hb dX10_ack_0 rfl (lv_at hl 1 rfl) ?_
  obtain ⟨v2, h1, hF⟩ := ob_some hF
  refine xr_call1 (va_runS (As := [.int a1]) (rest := []) ⟨hx, hb, hml, hown, hts⟩ (ct_X10_isFlow l b0 D cy M a1 v2 h1) (va_cwS 1 hts gX10_ack_X10_isFlow rfl rfl rfl (by decide +kernel) ⟨Nat.le_of_ble_eq_true rfl, Nat.le_of_ble_eq_true rfl⟩) (xp_S hP hK hN hS hb0) rfl rfl hl.1 rfl (lv_room (Nat.le_of_ble_eq_true rfl)) dX10_ack_1 ⟨Nat.le_of_ble_eq_true rfl, Nat.le_of_ble_eq_true rfl⟩) hS (fun H locs hP hS => ?_)
  refine lv_if_ne (tgt := 9) hx hb dX10_ack_4 (by decide) (fun c3 => ?_) (fun c3 => ?_)
  · replace hF := it_f hF c3
    refine lv_aload_n hx hb dX10_ack_9 rfl (lv_at hl 0 rfl) ?_
    obtain ⟨v5, h4, hF⟩ := ob_some hF
    refine xr_call1 (va_runV (As := []) (rest := []) ⟨hx, hb, hml, hown, hts⟩ (ct_X10_isLineFull l b0 D cy M a0 v5 h4) (cwV 0 hts gX10_ack_X10_isLineFull rfl rfl rfl (by decide +kernel) ⟨Nat.le_of_ble_eq_true rfl, Nat.le_of_ble_eq_true rfl⟩) (xp_V hP hK hN hS hb0 10 rfl (gk_X10_isLineFull h4)) rfl rfl hl.1 rfl (lv_room (Nat.le_of_ble_eq_true rfl)) dX10_ack_10 ⟨Nat.le_of_ble_eq_true rfl, Nat.le_of_ble_eq_true rfl⟩) hS (fun H locs hP hS => ?_)
    refine lv_if_eq (tgt := 19) hx hb dX10_ack_13 (by decide) (fun c6 => ?_) (fun c6 => ?_)
    · replace hF := it_t hF c6
      refine lv_aload_n hx hb dX10_ack_19 rfl (lv_at hl 0 rfl) ?_
      refine xr_getR hx hb hts iw_X10_ack_10 hown hK hP hF 10 4 rfl (by decide) (by decide +kernel) ⟨rfl, rfl, rfl⟩ dX10_ack_20 (fun v7 hF => ?_)
      refine lv_iload_n hx hb dX10_ack_23 rfl (lv_at hl 1 rfl) ?_
      refine xr_aR hx hb hK hP hF 3 rfl (by decide) dX10_ack_24 (fun v8 hF => ?_)
      refine xr_getI hx hb hts iw_X10_ack_1 hown hK hP hF 1 3 rfl (by decide) (by decide +kernel) ⟨rfl, rfl, rfl⟩ dX10_ack_25 (fun v9 hF => ?_)
      refine lv_if_ne (tgt := 34) hx hb dX10_ack_28 (by decide) (fun c10 => ?_) (fun c10 => ?_)
      · replace hF := it_f hF c10
        refine lv_aload_n hx hb dX10_ack_34 rfl (lv_at hl 0 rfl) ?_
        refine lv_iconst (v := 3) hx hb dX10_ack_35 (by decide) ?_
        refine lv_iload_n hx hb dX10_ack_36 rfl (lv_at hl 1 rfl) ?_
        refine lv_aload_n hx hb dX10_ack_37 rfl (lv_at hl 0 rfl) ?_
        refine xr_getR hx hb hts iw_X10_ack_10 hown hK hP hF 10 4 rfl (by decide) (by decide +kernel) ⟨rfl, rfl, rfl⟩ dX10_ack_38 (fun v11 hF => ?_)
        refine lv_iload_n hx hb dX10_ack_41 rfl (lv_at hl 1 rfl) ?_
        refine xr_aR hx hb hK hP hF 3 rfl (by decide) dX10_ack_42 (fun v12 hF => ?_)
        refine xr_getR hx hb hts iw_X10_ack_1 hown hK hP hF 1 0 rfl (by decide) (by decide +kernel) ⟨rfl, rfl, rfl⟩ dX10_ack_43 (fun v13 hF => ?_)
        refine xr_getI hx hb hts iw_X10_ack_3 hown hK hP hF 3 1 rfl (by decide) (by decide +kernel) ⟨rfl, rfl, rfl⟩ dX10_ack_46 (fun v14 hF => ?_)
        obtain ⟨M16, v17, h15, hF⟩ := ob2_some hF
        refine xr_call1 (va_runV (As := [.int 3, .int a1, .int v14]) (rest := []) ⟨hx, hb, hml, hown, hts⟩ (ct_X10_addAnswer l b0 D cy M a0 3 a1 v14 M16 v17 h15) (cwV 3 hts gX10_ack_X10_addAnswer rfl rfl rfl (by decide +kernel) ⟨Nat.le_of_ble_eq_true rfl, Nat.le_of_ble_eq_true rfl⟩) (xp_V hP hK hN hS hb0 10 rfl (gk_X10_addAnswer h15)) rfl rfl hl.1 rfl (lv_room (Nat.le_of_ble_eq_true rfl)) dX10_ack_49 ⟨Nat.le_of_ble_eq_true rfl, Nat.le_of_ble_eq_true rfl⟩) hS (fun H locs hP hS => ?_)
        refine W.cs (cells' := 2) (slots' := 73) rfl rfl ?_
        cases hF
        exact W.iret hx hb hr (fun t ht hW => ⟨rfl, by rw [ht]; exact hP, hS.F ht⟩) hS.2.2 dX10_ack_52 hlk
      · replace hF := it_t hF c10
        refine lv_bipush (v := (-3)) hx hb dX10_ack_31 (by decide) ?_
        refine W.widen (k := 2) (n := 73) (by decide) (by decide) ?_
        cases hF
        exact W.iret hx hb hr (fun t ht hW => ⟨rfl, by rw [ht]; exact hP, hS.F ht⟩) hS.2.2 dX10_ack_33 hlk
    · replace hF := it_f hF c6
      refine lv_bipush (v := (-2)) hx hb dX10_ack_16 (by decide) ?_
      refine W.widen (k := 2) (n := 73) (by decide) (by decide) ?_
      cases hF
      exact W.iret hx hb hr (fun t ht hW => ⟨rfl, by rw [ht]; exact hP, hS.F ht⟩) hS.2.2 dX10_ack_18 hlk
  · replace hF := it_t hF c3
    refine lv_iconst (v := (-1)) hx hb dX10_ack_7 (by decide) ?_
    refine W.widen (k := 2) (n := 73) (by decide) (by decide) ?_
    cases hF
    exact W.iret hx hb hr (fun t ht hW => ⟨rfl, by rw [ht]; exact hP, hS.F ht⟩) hS.2.2 dX10_ack_8 hlk
/-! X10_nack -/
theorem iw_X10_nack_1 : ∀ w ∈ u_ws RX1 TX1 4, w ∈ wsX10_nack := by decide +kernel
theorem iw_X10_nack_3 : ∀ w ∈ u_ws RX3 TX3 2, w ∈ wsX10_nack := by decide +kernel
theorem iw_X10_nack_10 : ∀ w ∈ u_ws RX10 TX10 12, w ∈ wsX10_nack := by decide +kernel
abbrev rm_X10_nack : Room := { frames := 5, cells := 2, slots := 73, locals := 144 }
theorem gk_X10_nack {M : Mm} {a0 : Nat} {a1 : Int32} {r : (Mm × Int32)} (h : f_X10_nack M a0 a1 = some r) : mK M a0 = 11 := by
  unfold f_X10_nack at h
  exact (if_some h).1
set_option maxHeartbeats 4000000 in
set_option maxRecDepth 100000 in
theorem ct_X10_nack (l : Launch) (b0 : Nat) (D : va_G) (cy : Nat → ClassId) (M : Mm) (a0 : Nat) (a1 : Int32) (M1 : Mm) (r : Int32) (hF : f_X10_nack M a0 a1 = some (M1, r)) : Met l yX10_nack wsX10_nack rm_X10_nack (va_Pc [.ref a0, .int a1] (Pm b0 D cy M)) (Qm b0 D cy M1 (some (.int r))) 2 73 (BA b0) := by
  refine ct_of [.ref a0, .int a1] (by decide) rfl ?_
  intro p e s m below meth c CX hP
  obtain ⟨hx, hb, hr, hml, hown0, hts, hlk, hK, hN, hb0, hnm⟩ := id CX
  have hown : s.vm.findClass RX10 = some m.cls := hown0
  have hS : va_S (BA b0) s.heap s.heap [] := va_S.rf
  have hl := lv_entry [.ref a0, .int a1] (n := 2) (Nat.le_of_ble_eq_true rfl)
  generalize (lg_sl [.ref a0, .int a1] ++ List.replicate (2 - (lg_sl [.ref a0, .int a1]).length) Slot.unset).toArray = ls at hl ⊢
  have hl : lv_has ls 2 [(0, .ref a0), (1, .int a1)] := hl
  unfold f_X10_nack at hF
  replace hF := (if_some hF).2
  refine lv_iload_n hx hb dX10_nack_0 rfl (lv_at hl 1 rfl) ?_
  obtain ⟨v2, h1, hF⟩ := ob_some hF
  refine xr_call1 (va_runS (As := [.int a1]) (rest := []) ⟨hx, hb, hml, hown, hts⟩ (ct_X10_isFlow l b0 D cy M a1 v2 h1) (va_cwS 1 hts gX10_nack_X10_isFlow rfl rfl rfl (by decide +kernel) ⟨Nat.le_of_ble_eq_true rfl, Nat.le_of_ble_eq_true rfl⟩) (xp_S hP hK hN hS hb0) rfl rfl hl.1 rfl (lv_room (Nat.le_of_ble_eq_true rfl)) dX10_nack_1 ⟨Nat.le_of_ble_eq_true rfl, Nat.le_of_ble_eq_true rfl⟩) hS (fun H locs hP hS => ?_)
  refine lv_if_ne (tgt := 9) hx hb dX10_nack_4 (by decide) (fun c3 => ?_) (fun c3 => ?_)
  · replace hF := it_f hF c3
    refine lv_aload_n hx hb dX10_nack_9 rfl (lv_at hl 0 rfl) ?_
    obtain ⟨v5, h4, hF⟩ := ob_some hF
    refine xr_call1 (va_runV (As := []) (rest := []) ⟨hx, hb, hml, hown, hts⟩ (ct_X10_isLineFull l b0 D cy M a0 v5 h4) (cwV 0 hts gX10_nack_X10_isLineFull rfl rfl rfl (by decide +kernel) ⟨Nat.le_of_ble_eq_true rfl, Nat.le_of_ble_eq_true rfl⟩) (xp_V hP hK hN hS hb0 10 rfl (gk_X10_isLineFull h4)) rfl rfl hl.1 rfl (lv_room (Nat.le_of_ble_eq_true rfl)) dX10_nack_10 ⟨Nat.le_of_ble_eq_true rfl, Nat.le_of_ble_eq_true rfl⟩) hS (fun H locs hP hS => ?_)
    refine lv_if_eq (tgt := 19) hx hb dX10_nack_13 (by decide) (fun c6 => ?_) (fun c6 => ?_)
    · replace hF := it_t hF c6
      refine lv_aload_n hx hb dX10_nack_19 rfl (lv_at hl 0 rfl) ?_
      refine xr_getR hx hb hts iw_X10_nack_10 hown hK hP hF 10 4 rfl (by decide) (by decide +kernel) ⟨rfl, rfl, rfl⟩ dX10_nack_20 (fun v7 hF => ?_)
      refine lv_iload_n hx hb dX10_nack_23 rfl (lv_at hl 1 rfl) ?_
      refine xr_aR hx hb hK hP hF 3 rfl (by decide) dX10_nack_24 (fun v8 hF => ?_)
      refine xr_getI hx hb hts iw_X10_nack_1 hown hK hP hF 1 3 rfl (by decide) (by decide +kernel) ⟨rfl, rfl, rfl⟩ dX10_nack_25 (fun v9 hF => ?_)
      refine lv_if_ne (tgt := 39) hx hb dX10_nack_28 (by decide) (fun c10 => ?_) (fun c10 => ?_)
      · replace hF := it_f hF c10
        refine lv_aload_n hx hb dX10_nack_39 rfl (lv_at hl 0 rfl) ?_
        refine lv_iconst (v := 4) hx hb dX10_nack_40 (by decide) ?_
        refine lv_iload_n hx hb dX10_nack_41 rfl (lv_at hl 1 rfl) ?_
        refine lv_aload_n hx hb dX10_nack_42 rfl (lv_at hl 0 rfl) ?_
        refine xr_getR hx hb hts iw_X10_nack_10 hown hK hP hF 10 4 rfl (by decide) (by decide +kernel) ⟨rfl, rfl, rfl⟩ dX10_nack_43 (fun v11 hF => ?_)
        refine lv_iload_n hx hb dX10_nack_46 rfl (lv_at hl 1 rfl) ?_
        refine xr_aR hx hb hK hP hF 3 rfl (by decide) dX10_nack_47 (fun v12 hF => ?_)
        refine xr_getR hx hb hts iw_X10_nack_1 hown hK hP hF 1 0 rfl (by decide) (by decide +kernel) ⟨rfl, rfl, rfl⟩ dX10_nack_48 (fun v13 hF => ?_)
        refine xr_getI hx hb hts iw_X10_nack_3 hown hK hP hF 3 1 rfl (by decide) (by decide +kernel) ⟨rfl, rfl, rfl⟩ dX10_nack_51 (fun v14 hF => ?_)
        refine lv_iconst (v := 1) hx hb dX10_nack_54 (by decide) ?_
        refine lv_iadd hx hb dX10_nack_55 ?_
        obtain ⟨M16, v17, h15, hF⟩ := ob2_some hF
        refine xr_call1 (va_runV (As := [.int 4, .int a1, .int (v14 + 1)]) (rest := []) ⟨hx, hb, hml, hown, hts⟩ (ct_X10_addAnswer l b0 D cy M a0 4 a1 (v14 + 1) M16 v17 h15) (cwV 3 hts gX10_nack_X10_addAnswer rfl rfl rfl (by decide +kernel) ⟨Nat.le_of_ble_eq_true rfl, Nat.le_of_ble_eq_true rfl⟩) (xp_V hP hK hN hS hb0 10 rfl (gk_X10_addAnswer h15)) rfl rfl hl.1 rfl (lv_room (Nat.le_of_ble_eq_true rfl)) dX10_nack_56 ⟨Nat.le_of_ble_eq_true rfl, Nat.le_of_ble_eq_true rfl⟩) hS (fun H locs hP hS => ?_)
        refine W.cs (cells' := 2) (slots' := 73) rfl rfl ?_
        cases hF
        exact W.iret hx hb hr (fun t ht hW => ⟨rfl, by rw [ht]; exact hP, hS.F ht⟩) hS.2.2 dX10_nack_59 hlk
      · replace hF := it_t hF c10
        refine lv_aload_n hx hb dX10_nack_31 rfl (lv_at hl 0 rfl) ?_
        refine lv_iconst (v := 5) hx hb dX10_nack_32 (by decide) ?_
        refine lv_iload_n hx hb dX10_nack_33 rfl (lv_at hl 1 rfl) ?_
        refine lv_iconst (v := 0) hx hb dX10_nack_34 (by decide) ?_
        obtain ⟨M19, v20, h18, hF⟩ := ob2_some hF
        refine xr_call1 (va_runV (As := [.int 5, .int a1, .int 0]) (rest := []) ⟨hx, hb, hml, hown, hts⟩ (ct_X10_addAnswer l b0 D cy M a0 5 a1 0 M19 v20 h18) (cwV 3 hts gX10_nack_X10_addAnswer rfl rfl rfl (by decide +kernel) ⟨Nat.le_of_ble_eq_true rfl, Nat.le_of_ble_eq_true rfl⟩) (xp_V hP hK hN hS hb0 10 rfl (gk_X10_addAnswer h18)) rfl rfl hl.1 rfl (lv_room (Nat.le_of_ble_eq_true rfl)) dX10_nack_35 ⟨Nat.le_of_ble_eq_true rfl, Nat.le_of_ble_eq_true rfl⟩) hS (fun H locs hP hS => ?_)
        refine W.cs (cells' := 2) (slots' := 73) rfl rfl ?_
        cases hF
        exact W.iret hx hb hr (fun t ht hW => ⟨rfl, by rw [ht]; exact hP, hS.F ht⟩) hS.2.2 dX10_nack_38 hlk
    · replace hF := it_f hF c6
      refine lv_bipush (v := (-2)) hx hb dX10_nack_16 (by decide) ?_
      refine W.widen (k := 2) (n := 73) (by decide) (by decide) ?_
      cases hF
      exact W.iret hx hb hr (fun t ht hW => ⟨rfl, by rw [ht]; exact hP, hS.F ht⟩) hS.2.2 dX10_nack_18 hlk
  · replace hF := it_t hF c3
    refine lv_iconst (v := (-1)) hx hb dX10_nack_7 (by decide) ?_
    refine W.widen (k := 2) (n := 73) (by decide) (by decide) ?_
    cases hF
    exact W.iret hx hb hr (fun t ht hW => ⟨rfl, by rw [ht]; exact hP, hS.F ht⟩) hS.2.2 dX10_nack_8 hlk
/-! X10_letterAt -/
theorem iw_X10_letterAt_10 : ∀ w ∈ u_ws RX10 TX10 12, w ∈ wsX10_letterAt := by decide +kernel
abbrev rm_X10_letterAt : Room := { frames := 0, cells := 0, slots := 0, locals := 0 }
theorem gk_X10_letterAt {M : Mm} {a0 : Nat} {a1 : Int32} {r : Option Nat} (h : f_X10_letterAt M a0 a1 = some r) : mK M a0 = 11 := by
  unfold f_X10_letterAt at h
  exact (if_some h).1
set_option maxHeartbeats 4000000 in
set_option maxRecDepth 100000 in
theorem ct_X10_letterAt (l : Launch) (b0 : Nat) (D : va_G) (cy : Nat → ClassId) (M : Mm) (a0 : Nat) (a1 : Int32) (r : Option Nat) (hF : f_X10_letterAt M a0 a1 = some r) : Met l yX10_letterAt wsX10_letterAt rm_X10_letterAt (va_Pc [.ref a0, .int a1] (Pm b0 D cy M)) (Qm b0 D cy M (some (va_rf r))) 0 0 (BA b0) := by
  refine ct_of [.ref a0, .int a1] (by decide) rfl ?_
  intro p e s m below meth c CX hP
  obtain ⟨hx, hb, hr, hml, hown0, hts, hlk, hK, hN, hb0, hnm⟩ := id CX
  have hown : s.vm.findClass RX10 = some m.cls := hown0
  have hS : va_S (BA b0) s.heap s.heap [] := va_S.rf
  have hl := lv_entry [.ref a0, .int a1] (n := 2) (Nat.le_of_ble_eq_true rfl)
  generalize (lg_sl [.ref a0, .int a1] ++ List.replicate (2 - (lg_sl [.ref a0, .int a1]).length) Slot.unset).toArray = ls at hl ⊢
  have hl : lv_has ls 2 [(0, .ref a0), (1, .int a1)] := hl
  unfold f_X10_letterAt at hF
  replace hF := (if_some hF).2
  refine lv_iload_n hx hb dX10_letterAt_0 rfl (lv_at hl 1 rfl) ?_
  refine lv_if_lt (tgt := 21) hx hb dX10_letterAt_1 (by decide) (fun c1 => ?_) (fun c1 => ?_)
  · replace hF := it_t hF c1
    refine lv_null hx hb dX10_letterAt_21 ?_
    cases hF
    exact W.aret hx hb hr (Or.inl ⟨_, rfl⟩) (Or.inl rfl) (fun t ht hW => ⟨rfl, by rw [ht]; exact hP, hS.F ht⟩) hS.2.2 dX10_letterAt_22 hlk
  · replace hF := it_f hF c1
    refine lv_iload_n hx hb dX10_letterAt_4 rfl (lv_at hl 1 rfl) ?_
    refine lv_aload_n hx hb dX10_letterAt_5 rfl (lv_at hl 0 rfl) ?_
    refine xr_getI hx hb hts iw_X10_letterAt_10 hown hK hP hF 10 10 rfl (by decide) (by decide +kernel) ⟨rfl, rfl, rfl⟩ dX10_letterAt_6 (fun v2 hF => ?_)
    refine lv_icmp_ge (tgt := 21) hx hb dX10_letterAt_9 (by decide) (fun c3 => ?_) (fun c3 => ?_)
    · replace hF := it_t hF c3
      refine lv_null hx hb dX10_letterAt_21 ?_
      cases hF
      exact W.aret hx hb hr (Or.inl ⟨_, rfl⟩) (Or.inl rfl) (fun t ht hW => ⟨rfl, by rw [ht]; exact hP, hS.F ht⟩) hS.2.2 dX10_letterAt_22 hlk
    · replace hF := it_f hF c3
      refine lv_aload_n hx hb dX10_letterAt_12 rfl (lv_at hl 0 rfl) ?_
      refine xr_getR hx hb hts iw_X10_letterAt_10 hown hK hP hF 10 5 rfl (by decide) (by decide +kernel) ⟨rfl, rfl, rfl⟩ dX10_letterAt_13 (fun v4 hF => ?_)
      refine lv_iload_n hx hb dX10_letterAt_16 rfl (lv_at hl 1 rfl) ?_
      refine xr_aN hx hb hK hP hF 5 rfl (by decide) dX10_letterAt_17 (fun v5 hF => ?_)
      refine lv_goto (tgt := 22) hx hb dX10_letterAt_18 (by decide) ?_
      cases hF
      exact W.aret hx hb hr (Or.inl ⟨_, rfl⟩) (ov_rf _) (fun t ht hW => ⟨rfl, by rw [ht]; exact hP, hS.F ht⟩) hS.2.2 dX10_letterAt_22 hlk
/-! X10_letterUnderWay -/
theorem iw_X10_letterUnderWay_4 : ∀ w ∈ u_ws RX4 TX4 9, w ∈ wsX10_letterUnderWay := by decide +kernel
abbrev rm_X10_letterUnderWay : Room := { frames := 1, cells := 0, slots := 0, locals := 21 }
theorem gk_X10_letterUnderWay {M : Mm} {a0 : Nat} {a1 : Int32} {r : Option Nat} (h : f_X10_letterUnderWay M a0 a1 = some r) : mK M a0 = 11 := by
  unfold f_X10_letterUnderWay at h
  exact (if_some h).1
set_option maxHeartbeats 4000000 in
set_option maxRecDepth 100000 in
theorem ct_X10_letterUnderWay (l : Launch) (b0 : Nat) (D : va_G) (cy : Nat → ClassId) (M : Mm) (a0 : Nat) (a1 : Int32) (r : Option Nat) (hF : f_X10_letterUnderWay M a0 a1 = some r) : Met l yX10_letterUnderWay wsX10_letterUnderWay rm_X10_letterUnderWay (va_Pc [.ref a0, .int a1] (Pm b0 D cy M)) (Qm b0 D cy M (some (va_rf r))) 0 0 (BA b0) := by
  refine ct_of [.ref a0, .int a1] (by decide) rfl ?_
  intro p e s m below meth c CX hP
  obtain ⟨hx, hb, hr, hml, hown0, hts, hlk, hK, hN, hb0, hnm⟩ := id CX
  have hown : s.vm.findClass RX10 = some m.cls := hown0
  have hS : va_S (BA b0) s.heap s.heap [] := va_S.rf
  have hl := lv_entry [.ref a0, .int a1] (n := 3) (Nat.le_of_ble_eq_true rfl)
  generalize (lg_sl [.ref a0, .int a1] ++ List.replicate (3 - (lg_sl [.ref a0, .int a1]).length) Slot.unset).toArray = ls at hl ⊢
  have hl : lv_has ls 3 [(0, .ref a0), (1, .int a1)] := hl
  unfold f_X10_letterUnderWay at hF
  replace hF := (if_some hF).2
  refine lv_aload_n hx hb dX10_letterUnderWay_0 rfl (lv_at hl 0 rfl) ?_
  refine lv_iload_n hx hb dX10_letterUnderWay_1 rfl (lv_at hl 1 rfl) ?_
  obtain ⟨v2, h1, hF⟩ := ob_some hF
  refine xr_call1 (va_runV (As := [.int a1]) (rest := []) ⟨hx, hb, hml, hown, hts⟩ (ct_X10_letterAt l b0 D cy M a0 a1 v2 h1) (cwV 1 hts gX10_letterUnderWay_X10_letterAt rfl rfl rfl (by decide +kernel) ⟨Nat.le_of_ble_eq_true rfl, Nat.le_of_ble_eq_true rfl⟩) (xp_V hP hK hN hS hb0 10 rfl (gk_X10_letterAt h1)) rfl rfl hl.1 rfl (lv_room (Nat.le_of_ble_eq_true rfl)) dX10_letterUnderWay_2 ⟨Nat.le_of_ble_eq_true rfl, Nat.le_of_ble_eq_true rfl⟩) hS (fun H locs hP hS => ?_)
  refine xr_astore_n (lv' := [(2, va_rf v2), (0, .ref a0), (1, .int a1)]) hx hb dX10_letterUnderWay_5 rfl hl (by decide) (by first | rfl | simp [cat_rf]) (fun ls hl => ?_)
  refine xr_aload_n hx hb dX10_letterUnderWay_6 rfl (lv_at hl 0 rfl) ?_
  rcases v2 with _ | w3
  · replace hF := nm_n hF
    refine lv_ifnullN (tgt := 17) hx hb dX10_letterUnderWay_7 (by decide) ?_
    refine lv_null hx hb dX10_letterUnderWay_17 ?_
    refine lv_goto (tgt := 22) hx hb dX10_letterUnderWay_18 (by decide) ?_
    cases hF
    exact W.aret hx hb hr (Or.inl ⟨_, rfl⟩) (Or.inl rfl) (fun t ht hW => ⟨rfl, by rw [ht]; exact hP, hS.F ht⟩) hS.2.2 dX10_letterUnderWay_22 hlk
  · replace hF := nm_s hF
    refine lv_ifnull hx hb dX10_letterUnderWay_7 ?_
    refine lv_aload_n hx hb dX10_letterUnderWay_10 rfl (lv_at hl 0 rfl) ?_
    refine xr_getI hx hb hts iw_X10_letterUnderWay_4 hown hK hP hF 4 6 rfl (by decide) (by decide +kernel) ⟨rfl, rfl, rfl⟩ dX10_letterUnderWay_11 (fun v4 hF => ?_)
    refine lv_if_eq (tgt := 21) hx hb dX10_letterUnderWay_14 (by decide) (fun c5 => ?_) (fun c5 => ?_)
    · replace hF := it_t hF c5
      refine lv_aload_n hx hb dX10_letterUnderWay_21 rfl (lv_at hl 0 rfl) ?_
      cases hF
      exact W.aret hx hb hr (Or.inl ⟨_, rfl⟩) (Or.inr ⟨_, rfl⟩) (fun t ht hW => ⟨rfl, by rw [ht]; exact hP, hS.F ht⟩) hS.2.2 dX10_letterUnderWay_22 hlk
    · replace hF := it_f hF c5
      refine lv_null hx hb dX10_letterUnderWay_17 ?_
      refine lv_goto (tgt := 22) hx hb dX10_letterUnderWay_18 (by decide) ?_
      cases hF
      exact W.aret hx hb hr (Or.inl ⟨_, rfl⟩) (Or.inl rfl) (fun t ht hW => ⟨rfl, by rw [ht]; exact hP, hS.F ht⟩) hS.2.2 dX10_letterUnderWay_22 hlk
/-! X10_open -/
theorem iw_X10_open_0 : ∀ w ∈ u_ws RX0 TX0 12, w ∈ wsX10_open := by decide +kernel
theorem iw_X10_open_1 : ∀ w ∈ u_ws RX1 TX1 4, w ∈ wsX10_open := by decide +kernel
theorem iw_X10_open_3 : ∀ w ∈ u_ws RX3 TX3 2, w ∈ wsX10_open := by decide +kernel
theorem iw_X10_open_10 : ∀ w ∈ u_ws RX10 TX10 12, w ∈ wsX10_open := by decide +kernel
abbrev rm_X10_open : Room := { frames := 4, cells := 0, slots := 0, locals := 100 }
set_option maxHeartbeats 4000000 in
set_option maxRecDepth 100000 in
theorem nd_X10_open_154 {p : Program} {l : Launch} {e : Env} {s : State} {m : MethodId} {args : Array Value} {below : List Frame} {meth : Method} {c : Code} {b0 : Nat} {D : va_G} {cy : Nat → ClassId} {M1 : Mm} {r : Int32} (CX : Cx yX10_open cX10_open 4 (some .int) wsX10_open b0 D cy p s m args meth c) : ∀ (M : Mm) (x0 : Nat) (x1 : Nat) (s0 : Nat) (s1 : Nat) (s2 : Int32) (H : Heap) (locs : List Loc) (ls : Array Slot), f_X10_open_J154 M x0 x1 s0 s1 s2 = some (M1, r) → Hp b0 D cy M H → va_S (BA b0) s.heap H locs → lv_has ls 4 [(0, .ref x0), (1, .ref x1)] → W p l e rm_X10_open s m args below meth c H locs 0 0 (MQ below (Qm b0 D cy M1 (some (.int r))) args s 0 0 (BA b0)) (F0 m 154 ls [.int s2, .ref s1, .ref s0]) := by
  obtain ⟨hx, hb, hr, hml, hown0, hts, hlk, hK, hN, hb0, hnm⟩ := id CX
  have hown : s.vm.findClass RX10 = some m.cls := hown0
  intro M x0 x1 s0 s1 s2 H locs ls hF hP hS hl
  unfold f_X10_open_J154 at hF
  obtain ⟨M2, h1, hF⟩ := ob_some hF
  refine xr_call0 (va_runV (As := [.ref s1, .int s2]) (rest := []) ⟨hx, hb, hml, hown, hts⟩ (ct_X2_accept l b0 D cy M s0 s1 s2 M2 h1) (cwV 2 hts gX10_open_X2_accept rfl rfl rfl (by decide +kernel) ⟨Nat.le_of_ble_eq_true rfl, Nat.le_of_ble_eq_true rfl⟩) (xp_V hP hK hN hS hb0 2 rfl (gk_X2_accept h1)) rfl rfl hl.1 rfl (lv_room (Nat.le_of_ble_eq_true rfl)) dX10_open_154 ⟨Nat.le_of_ble_eq_true rfl, Nat.le_of_ble_eq_true rfl⟩) hS (fun H locs hP hS => ?_)
  refine lv_aload_n hx hb dX10_open_157 rfl (lv_at hl 1 rfl) ?_
  refine lv_aload_n hx hb dX10_open_158 rfl (lv_at hl 0 rfl) ?_
  refine xr_getR hx hb hts iw_X10_open_10 hown hK hP hF 10 8 rfl (by decide) (by decide +kernel) ⟨rfl, rfl, rfl⟩ dX10_open_159 (fun v3 hF => ?_)
  obtain ⟨M5, h4, hF⟩ := ob_some hF
  refine xr_call0 (va_runV (As := [.ref v3]) (rest := []) ⟨hx, hb, hml, hown, hts⟩ (ct_X1_accept l b0 D cy M2 x1 v3 M5 h4) (cwV 1 hts gX10_open_X1_accept rfl rfl rfl (by decide +kernel) ⟨Nat.le_of_ble_eq_true rfl, Nat.le_of_ble_eq_true rfl⟩) (xp_V hP hK hN hS hb0 1 rfl (gk_X1_accept h4)) rfl rfl hl.1 rfl (lv_room (Nat.le_of_ble_eq_true rfl)) dX10_open_162 ⟨Nat.le_of_ble_eq_true rfl, Nat.le_of_ble_eq_true rfl⟩) hS (fun H locs hP hS => ?_)
  refine lv_iconst (v := 0) hx hb dX10_open_165 (by decide) ?_
  cases hF
  exact W.iret hx hb hr (fun t ht hW => ⟨rfl, by rw [ht]; exact hP, hS.F ht⟩) hS.2.2 dX10_open_166 hlk
set_option maxHeartbeats 4000000 in
set_option maxRecDepth 100000 in
theorem nd_X10_open_131 {p : Program} {l : Launch} {e : Env} {s : State} {m : MethodId} {args : Array Value} {below : List Frame} {meth : Method} {c : Code} {b0 : Nat} {D : va_G} {cy : Nat → ClassId} {M1 : Mm} {r : Int32} (CX : Cx yX10_open cX10_open 4 (some .int) wsX10_open b0 D cy p s m args meth c) : ∀ (M : Mm) (x0 : Nat) (x1 : Nat) (x2 : Int32) (H : Heap) (locs : List Loc) (ls : Array Slot), f_X10_open_J131 M x0 x1 x2 = some (M1, r) → Hp b0 D cy M H → va_S (BA b0) s.heap H locs → lv_has ls 4 [(0, .ref x0), (1, .ref x1), (2, .int x2)] → W p l e rm_X10_open s m args below meth c H locs 0 0 (MQ below (Qm b0 D cy M1 (some (.int r))) args s 0 0 (BA b0)) (F0 m 131 ls []) := by
  obtain ⟨hx, hb, hr, hml, hown0, hts, hlk, hK, hN, hb0, hnm⟩ := id CX
  have hown : s.vm.findClass RX10 = some m.cls := hown0
  intro M x0 x1 x2 H locs ls hF hP hS hl
  unfold f_X10_open_J131 at hF
  refine lv_aload_n hx hb dX10_open_131 rfl (lv_at hl 0 rfl) ?_
  refine xr_getR hx hb hts iw_X10_open_10 hown hK hP hF 10 9 rfl (by decide) (by decide +kernel) ⟨rfl, rfl, rfl⟩ dX10_open_132 (fun v1 hF => ?_)
  refine lv_aload_n hx hb dX10_open_135 rfl (lv_at hl 0 rfl) ?_
  refine xr_getR hx hb hts iw_X10_open_10 hown hK hP hF 10 8 rfl (by decide) (by decide +kernel) ⟨rfl, rfl, rfl⟩ dX10_open_136 (fun v2 hF => ?_)
  refine lv_iload_n hx hb dX10_open_139 rfl (lv_at hl 2 rfl) ?_
  refine lv_if_eq (tgt := 147) hx hb dX10_open_140 (by decide) (fun c3 => ?_) (fun c3 => ?_)
  · replace hF := it_t hF c3
    refine lv_aload_n hx hb dX10_open_147 rfl (lv_at hl 1 rfl) ?_
    refine xr_getR hx hb hts iw_X10_open_1 hown hK hP hF 1 0 rfl (by decide) (by decide +kernel) ⟨rfl, rfl, rfl⟩ dX10_open_148 (fun v4 hF => ?_)
    refine xr_getI hx hb hts iw_X10_open_3 hown hK hP hF 3 1 rfl (by decide) (by decide +kernel) ⟨rfl, rfl, rfl⟩ dX10_open_151 (fun v5 hF => ?_)
    exact nd_X10_open_154 CX _ _ _ _ _ _ _ _ _ hF hP hS (lv_sub hl [0, 1] rfl)
  · replace hF := it_f hF c3
    refine lv_iconst (v := (-1)) hx hb dX10_open_143 (by decide) ?_
    refine lv_goto (tgt := 154) hx hb dX10_open_144 (by decide) ?_
    exact nd_X10_open_154 CX _ _ _ _ _ _ _ _ _ hF hP hS (lv_sub hl [0, 1] rfl)
set_option maxHeartbeats 4000000 in
set_option maxRecDepth 100000 in
theorem nd_X10_open_89 {p : Program} {l : Launch} {e : Env} {s : State} {m : MethodId} {args : Array Value} {below : List Frame} {meth : Method} {c : Code} {b0 : Nat} {D : va_G} {cy : Nat → ClassId} {M1 : Mm} {r : Int32} (CX : Cx yX10_open cX10_open 4 (some .int) wsX10_open b0 D cy p s m args meth c) : ∀ (M : Mm) (x0 : Nat) (x1 : Nat) (x2 : Int32) (H : Heap) (locs : List Loc) (ls : Array Slot), f_X10_open_J89 M x0 x1 x2 = some (M1, r) → Hp b0 D cy M H → va_S (BA b0) s.heap H locs → lv_has ls 4 [(0, .ref x0), (1, .ref x1), (2, .int x2)] → W p l e rm_X10_open s m args below meth c H locs 0 0 (MQ below (Qm b0 D cy M1 (some (.int r))) args s 0 0 (BA b0)) (F0 m 89 ls []) := by
  obtain ⟨hx, hb, hr, hml, hown0, hts, hlk, hK, hN, hb0, hnm⟩ := id CX
  have hown : s.vm.findClass RX10 = some m.cls := hown0
  intro M x0 x1 x2 H locs ls hF hP hS hl
  unfold f_X10_open_J89 at hF
  refine lv_aload_n hx hb dX10_open_89 rfl (lv_at hl 0 rfl) ?_
  refine xr_getR hx hb hts iw_X10_open_10 hown hK hP hF 10 8 rfl (by decide) (by decide +kernel) ⟨rfl, rfl, rfl⟩ dX10_open_90 (fun v1 hF => ?_)
  refine lv_aload_n hx hb dX10_open_93 rfl (lv_at hl 0 rfl) ?_
  refine xr_getR hx hb hts iw_X10_open_10 hown hK hP hF 10 1 rfl (by decide) (by decide +kernel) ⟨rfl, rfl, rfl⟩ dX10_open_94 (fun v2 hF => ?_)
  refine lv_aload_n hx hb dX10_open_97 rfl (lv_at hl 1 rfl) ?_
  obtain ⟨M4, h3, hF⟩ := ob_some hF
  refine xr_call0 (va_runV (As := [.ref v2, .ref x1]) (rest := []) ⟨hx, hb, hml, hown, hts⟩ (ct_X0_rebuild l b0 D cy M v1 v2 x1 M4 h3) (cwV 2 hts gX10_open_X0_rebuild rfl rfl rfl (by decide +kernel) ⟨Nat.le_of_ble_eq_true rfl, Nat.le_of_ble_eq_true rfl⟩) (xp_V hP hK hN hS hb0 0 rfl (gk_X0_rebuild h3)) rfl rfl hl.1 rfl (lv_room (Nat.le_of_ble_eq_true rfl)) dX10_open_98 ⟨Nat.le_of_ble_eq_true rfl, Nat.le_of_ble_eq_true rfl⟩) hS (fun H locs hP hS => ?_)
  refine lv_iload_n hx hb dX10_open_101 rfl (lv_at hl 2 rfl) ?_
  refine lv_if_ne (tgt := 131) hx hb dX10_open_102 (by decide) (fun c5 => ?_) (fun c5 => ?_)
  · replace hF := it_f hF c5
    exact nd_X10_open_131 CX _ _ _ _ _ _ _ hF hP hS (lv_sub hl [0, 1, 2] rfl)
  · replace hF := it_t hF c5
    refine lv_aload_n hx hb dX10_open_105 rfl (lv_at hl 0 rfl) ?_
    refine xr_getR hx hb hts iw_X10_open_10 hown hK hP hF 10 1 rfl (by decide) (by decide +kernel) ⟨rfl, rfl, rfl⟩ dX10_open_106 (fun v6 hF => ?_)
    refine lv_aload_n hx hb dX10_open_109 rfl (lv_at hl 0 rfl) ?_
    refine xr_getR hx hb hts iw_X10_open_10 hown hK hP hF 10 8 rfl (by decide) (by decide +kernel) ⟨rfl, rfl, rfl⟩ dX10_open_110 (fun v7 hF => ?_)
    refine xr_getR hx hb hts iw_X10_open_0 hown hK hP hF 0 0 rfl (by decide) (by decide +kernel) ⟨rfl, rfl, rfl⟩ dX10_open_113 (fun v8 hF => ?_)
    obtain ⟨v10, h9, hF⟩ := ob_some hF
    refine xr_call1 (va_runV (As := [.ref v8]) (rest := []) ⟨hx, hb, hml, hown, hts⟩ (ct_X6_sumOf l b0 D cy M4 v6 v8 v10 h9) (cwV 1 hts gX10_open_X6_sumOf rfl rfl rfl (by decide +kernel) ⟨Nat.le_of_ble_eq_true rfl, Nat.le_of_ble_eq_true rfl⟩) (xp_V hP hK hN hS hb0 6 rfl (gk_X6_sumOf h9)) rfl rfl hl.1 rfl (lv_room (Nat.le_of_ble_eq_true rfl)) dX10_open_116 ⟨Nat.le_of_ble_eq_true rfl, Nat.le_of_ble_eq_true rfl⟩) hS (fun H locs hP hS => ?_)
    refine lv_aload_n hx hb dX10_open_119 rfl (lv_at hl 0 rfl) ?_
    refine xr_getR hx hb hts iw_X10_open_10 hown hK hP hF 10 8 rfl (by decide) (by decide +kernel) ⟨rfl, rfl, rfl⟩ dX10_open_120 (fun v11 hF => ?_)
    refine xr_getI hx hb hts iw_X10_open_0 hown hK hP hF 0 8 rfl (by decide) (by decide +kernel) ⟨rfl, rfl, rfl⟩ dX10_open_123 (fun v12 hF => ?_)
    refine lv_icmp_eq (tgt := 131) hx hb dX10_open_126 (by decide) (fun c13 => ?_) (fun c13 => ?_)
    · replace hF := it_t hF c13
      exact nd_X10_open_131 CX _ _ _ _ _ _ _ hF hP hS (lv_sub hl [0, 1, 2] rfl)
    · replace hF := it_f hF c13
      refine lv_iconst (v := 4) hx hb dX10_open_129 (by decide) ?_
      cases hF
      exact W.iret hx hb hr (fun t ht hW => ⟨rfl, by rw [ht]; exact hP, hS.F ht⟩) hS.2.2 dX10_open_130 hlk
set_option maxHeartbeats 4000000 in
set_option maxRecDepth 100000 in
theorem nd_X10_open_75 {p : Program} {l : Launch} {e : Env} {s : State} {m : MethodId} {args : Array Value} {below : List Frame} {meth : Method} {c : Code} {b0 : Nat} {D : va_G} {cy : Nat → ClassId} {M1 : Mm} {r : Int32} (CX : Cx yX10_open cX10_open 4 (some .int) wsX10_open b0 D cy p s m args meth c) : ∀ (M : Mm) (x0 : Nat) (x1 : Nat) (x2 : Int32) (x3 : Int32) (H : Heap) (locs : List Loc) (ls : Array Slot), f_X10_open_J75 M x0 x1 x2 x3 = some (M1, r) → Hp b0 D cy M H → va_S (BA b0) s.heap H locs → lv_has ls 4 [(0, .ref x0), (1, .ref x1), (2, .int x2), (3, .int x3)] → W p l e rm_X10_open s m args below meth c H locs 0 0 (MQ below (Qm b0 D cy M1 (some (.int r))) args s 0 0 (BA b0)) (F0 m 75 ls []) := by
  obtain ⟨hx, hb, hr, hml, hown0, hts, hlk, hK, hN, hb0, hnm⟩ := id CX
  have hown : s.vm.findClass RX10 = some m.cls := hown0
  intro M x0 x1 x2 x3 H locs ls hF hP hS hl
  unfold f_X10_open_J75 at hF
  refine lv_iload_n hx hb dX10_open_75 rfl (lv_at hl 2 rfl) ?_
  refine lv_if_ne (tgt := 89) hx hb dX10_open_76 (by decide) (fun c1 => ?_) (fun c1 => ?_)
  · replace hF := it_f hF c1
    exact nd_X10_open_89 CX _ _ _ _ _ _ _ hF hP hS (lv_sub hl [0, 1, 2] rfl)
  · replace hF := it_t hF c1
    refine lv_iload_n hx hb dX10_open_79 rfl (lv_at hl 3 rfl) ?_
    refine lv_aload_n hx hb dX10_open_80 rfl (lv_at hl 0 rfl) ?_
    refine xr_getI hx hb hts iw_X10_open_10 hown hK hP hF 10 0 rfl (by decide) (by decide +kernel) ⟨rfl, rfl, rfl⟩ dX10_open_81 (fun v2 hF => ?_)
    refine lv_icmp_le (tgt := 89) hx hb dX10_open_84 (by decide) (fun c3 => ?_) (fun c3 => ?_)
    · replace hF := it_t hF c3
      exact nd_X10_open_89 CX _ _ _ _ _ _ _ hF hP hS (lv_sub hl [0, 1, 2] rfl)
    · replace hF := it_f hF c3
      refine lv_iconst (v := 2) hx hb dX10_open_87 (by decide) ?_
      cases hF
      exact W.iret hx hb hr (fun t ht hW => ⟨rfl, by rw [ht]; exact hP, hS.F ht⟩) hS.2.2 dX10_open_88 hlk
set_option maxHeartbeats 4000000 in
set_option maxRecDepth 100000 in
theorem nd_X10_open_43 {p : Program} {l : Launch} {e : Env} {s : State} {m : MethodId} {args : Array Value} {below : List Frame} {meth : Method} {c : Code} {b0 : Nat} {D : va_G} {cy : Nat → ClassId} {M1 : Mm} {r : Int32} (CX : Cx yX10_open cX10_open 4 (some .int) wsX10_open b0 D cy p s m args meth c) : ∀ (M : Mm) (x0 : Nat) (x1 : Nat) (x2 : Int32) (H : Heap) (locs : List Loc) (ls : Array Slot), f_X10_open_J43 M x0 x1 x2 = some (M1, r) → Hp b0 D cy M H → va_S (BA b0) s.heap H locs → lv_has ls 4 [(0, .ref x0), (1, .ref x1), (2, .int x2)] → W p l e rm_X10_open s m args below meth c H locs 0 0 (MQ below (Qm b0 D cy M1 (some (.int r))) args s 0 0 (BA b0)) (F0 m 43 ls []) := by
  obtain ⟨hx, hb, hr, hml, hown0, hts, hlk, hK, hN, hb0, hnm⟩ := id CX
  have hown : s.vm.findClass RX10 = some m.cls := hown0
  intro M x0 x1 x2 H locs ls hF hP hS hl
  unfold f_X10_open_J43 at hF
  refine lv_aload_n hx hb dX10_open_43 rfl (lv_at hl 0 rfl) ?_
  refine xr_getR hx hb hts iw_X10_open_10 hown hK hP hF 10 8 rfl (by decide) (by decide +kernel) ⟨rfl, rfl, rfl⟩ dX10_open_44 (fun v1 hF => ?_)
  refine xr_getR hx hb hts iw_X10_open_0 hown hK hP hF 0 0 rfl (by decide) (by decide +kernel) ⟨rfl, rfl, rfl⟩ dX10_open_47 (fun v2 hF => ?_)
  refine xr_getI hx hb hts iw_X10_open_3 hown hK hP hF 3 1 rfl (by decide) (by decide +kernel) ⟨rfl, rfl, rfl⟩ dX10_open_50 (fun v3 hF => ?_)
  refine lv_aload_n hx hb dX10_open_53 rfl (lv_at hl 1 rfl) ?_
  refine xr_getR hx hb hts iw_X10_open_1 hown hK hP hF 1 0 rfl (by decide) (by decide +kernel) ⟨rfl, rfl, rfl⟩ dX10_open_54 (fun v4 hF => ?_)
  refine xr_getI hx hb hts iw_X10_open_3 hown hK hP hF 3 1 rfl (by decide) (by decide +kernel) ⟨rfl, rfl, rfl⟩ dX10_open_57 (fun v5 hF => ?_)
  refine lv_isub hx hb dX10_open_60 ?_
  refine lv_istore_n (lv' := [(3, .int (v3 - v5)), (0, .ref x0), (1, .ref x1), (2, .int x2)]) hx hb dX10_open_61 rfl hl (by decide) (by first | rfl | simp [cat_rf]) (fun ls hl => ?_)
  refine lv_aload_n hx hb dX10_open_62 rfl (lv_at hl 2 rfl) ?_
  refine xr_getI hx hb hts iw_X10_open_1 hown hK hP hF 1 3 rfl (by decide) (by decide +kernel) ⟨rfl, rfl, rfl⟩ dX10_open_63 (fun v6 hF => ?_)
  refine lv_if_eq (tgt := 75) hx hb dX10_open_66 (by decide) (fun c7 => ?_) (fun c7 => ?_)
  · replace hF := it_t hF c7
    exact nd_X10_open_75 CX _ _ _ _ _ _ _ _ hF hP hS (lv_sub hl [1, 2, 3, 0] rfl)
  · replace hF := it_f hF c7
    refine lv_iload_n hx hb dX10_open_69 rfl (lv_at hl 0 rfl) ?_
    refine lv_if_gt (tgt := 75) hx hb dX10_open_70 (by decide) (fun c8 => ?_) (fun c8 => ?_)
    · replace hF := it_t hF c8
      exact nd_X10_open_75 CX _ _ _ _ _ _ _ _ hF hP hS (lv_sub hl [1, 2, 3, 0] rfl)
    · replace hF := it_f hF c8
      refine lv_iconst (v := 1) hx hb dX10_open_73 (by decide) ?_
      cases hF
      exact W.iret hx hb hr (fun t ht hW => ⟨rfl, by rw [ht]; exact hP, hS.F ht⟩) hS.2.2 dX10_open_74 hlk
set_option maxHeartbeats 4000000 in
set_option maxRecDepth 100000 in
theorem nd_X10_open_15 {p : Program} {l : Launch} {e : Env} {s : State} {m : MethodId} {args : Array Value} {below : List Frame} {meth : Method} {c : Code} {b0 : Nat} {D : va_G} {cy : Nat → ClassId} {M1 : Mm} {r : Int32} (CX : Cx yX10_open cX10_open 4 (some .int) wsX10_open b0 D cy p s m args meth c) : ∀ (M : Mm) (x0 : Nat) (x1 : Nat) (s0 : Int32) (H : Heap) (locs : List Loc) (ls : Array Slot), f_X10_open_J15 M x0 x1 s0 = some (M1, r) → Hp b0 D cy M H → va_S (BA b0) s.heap H locs → lv_has ls 4 [(0, .ref x0), (1, .ref x1)] → W p l e rm_X10_open s m args below meth c H locs 0 0 (MQ below (Qm b0 D cy M1 (some (.int r))) args s 0 0 (BA b0)) (F0 m 15 ls [.int s0]) := by
  obtain ⟨hx, hb, hr, hml, hown0, hts, hlk, hK, hN, hb0, hnm⟩ := id CX
  have hown : s.vm.findClass RX10 = some m.cls := hown0
  intro M x0 x1 s0 H locs ls hF hP hS hl
  unfold f_X10_open_J15 at hF
  refine lv_istore_n (lv' := [(2, .int s0), (0, .ref x0), (1, .ref x1)]) hx hb dX10_open_15 rfl hl (by decide) (by first | rfl | simp [cat_rf]) (fun ls hl => ?_)
  refine lv_iload_n hx hb dX10_open_16 rfl (lv_at hl 0 rfl) ?_
  refine lv_if_ne (tgt := 43) hx hb dX10_open_17 (by decide) (fun c1 => ?_) (fun c1 => ?_)
  · replace hF := it_f hF c1
    exact nd_X10_open_43 CX _ _ _ _ _ _ _ hF hP hS (lv_sub hl [1, 2, 0] rfl)
  · replace hF := it_t hF c1
    refine lv_aload_n hx hb dX10_open_20 rfl (lv_at hl 2 rfl) ?_
    refine xr_getI hx hb hts iw_X10_open_1 hown hK hP hF 1 3 rfl (by decide) (by decide +kernel) ⟨rfl, rfl, rfl⟩ dX10_open_21 (fun v2 hF => ?_)
    refine lv_if_eq (tgt := 41) hx hb dX10_open_24 (by decide) (fun c3 => ?_) (fun c3 => ?_)
    · replace hF := it_t hF c3
      refine lv_iconst (v := 3) hx hb dX10_open_41 (by decide) ?_
      cases hF
      exact W.iret hx hb hr (fun t ht hW => ⟨rfl, by rw [ht]; exact hP, hS.F ht⟩) hS.2.2 dX10_open_42 hlk
    · replace hF := it_f hF c3
      refine lv_aload_n hx hb dX10_open_27 rfl (lv_at hl 2 rfl) ?_
      refine xr_getI hx hb hts iw_X10_open_1 hown hK hP hF 1 2 rfl (by decide) (by decide +kernel) ⟨rfl, rfl, rfl⟩ dX10_open_28 (fun v4 hF => ?_)
      refine lv_aload_n hx hb dX10_open_31 rfl (lv_at hl 1 rfl) ?_
      refine xr_getR hx hb hts iw_X10_open_10 hown hK hP hF 10 8 rfl (by decide) (by decide +kernel) ⟨rfl, rfl, rfl⟩ dX10_open_32 (fun v5 hF => ?_)
      refine xr_getI hx hb hts iw_X10_open_0 hown hK hP hF 0 7 rfl (by decide) (by decide +kernel) ⟨rfl, rfl, rfl⟩ dX10_open_35 (fun v6 hF => ?_)
      refine lv_icmp_eq (tgt := 43) hx hb dX10_open_38 (by decide) (fun c7 => ?_) (fun c7 => ?_)
      · replace hF := it_t hF c7
        exact nd_X10_open_43 CX _ _ _ _ _ _ _ hF hP hS (lv_sub hl [1, 2, 0] rfl)
      · replace hF := it_f hF c7
        refine lv_iconst (v := 3) hx hb dX10_open_41 (by decide) ?_
        cases hF
        exact W.iret hx hb hr (fun t ht hW => ⟨rfl, by rw [ht]; exact hP, hS.F ht⟩) hS.2.2 dX10_open_42 hlk
theorem gk_X10_open {M : Mm} {a0 : Nat} {a1 : Nat} {r : (Mm × Int32)} (h : f_X10_open M a0 a1 = some r) : mK M a0 = 11 := by
  unfold f_X10_open at h
  exact (if_some h).1
set_option maxHeartbeats 4000000 in
set_option maxRecDepth 100000 in
theorem ct_X10_open (l : Launch) (b0 : Nat) (D : va_G) (cy : Nat → ClassId) (M : Mm) (a0 : Nat) (a1 : Nat) (M1 : Mm) (r : Int32) (hF : f_X10_open M a0 a1 = some (M1, r)) : Met l yX10_open wsX10_open rm_X10_open (va_Pc [.ref a0, .ref a1] (Pm b0 D cy M)) (Qm b0 D cy M1 (some (.int r))) 0 0 (BA b0) := by
  refine ct_of [.ref a0, .ref a1] (by decide) rfl ?_
  intro p e s m below meth c CX hP
  obtain ⟨hx, hb, hr, hml, hown0, hts, hlk, hK, hN, hb0, hnm⟩ := id CX
  have hown : s.vm.findClass RX10 = some m.cls := hown0
  have hS : va_S (BA b0) s.heap s.heap [] := va_S.rf
  have hl := lv_entry [.ref a0, .ref a1] (n := 4) (Nat.le_of_ble_eq_true rfl)
  generalize (lg_sl [.ref a0, .ref a1] ++ List.replicate (4 - (lg_sl [.ref a0, .ref a1]).length) Slot.unset).toArray = ls at hl ⊢
  have hl : lv_has ls 4 [(0, .ref a0), (1, .ref a1)] := hl
  unfold f_X10_open at hF
  replace hF := (if_some hF).2
  refine lv_aload_n hx hb dX10_open_0 rfl (lv_at hl 0 rfl) ?_
  refine xr_getR hx hb hts iw_X10_open_10 hown hK hP hF 10 8 rfl (by decide) (by decide +kernel) ⟨rfl, rfl, rfl⟩ dX10_open_1 (fun v1 hF => ?_)
  refine xr_getI hx hb hts iw_X10_open_0 hown hK hP hF 0 5 rfl (by decide) (by decide +kernel) ⟨rfl, rfl, rfl⟩ dX10_open_4 (fun v2 hF => ?_)
  refine lv_if_ne (tgt := 14) hx hb dX10_open_7 (by decide) (fun c3 => ?_) (fun c3 => ?_)
  · replace hF := it_f hF c3
    refine lv_iconst (v := 0) hx hb dX10_open_14 (by decide) ?_
    exact nd_X10_open_15 CX _ _ _ _ _ _ _ hF hP hS (lv_sub hl [0, 1] rfl)
  · replace hF := it_t hF c3
    refine lv_iconst (v := 1) hx hb dX10_open_10 (by decide) ?_
    refine lv_goto (tgt := 15) hx hb dX10_open_11 (by decide) ?_
    exact nd_X10_open_15 CX _ _ _ _ _ _ _ hF hP hS (lv_sub hl [0, 1] rfl)
/-! X10_outcomeOf -/
theorem iw_X10_outcomeOf_0 : ∀ w ∈ u_ws RX0 TX0 12, w ∈ wsX10_outcomeOf := by decide +kernel
theorem iw_X10_outcomeOf_3 : ∀ w ∈ u_ws RX3 TX3 2, w ∈ wsX10_outcomeOf := by decide +kernel
theorem iw_X10_outcomeOf_10 : ∀ w ∈ u_ws RX10 TX10 12, w ∈ wsX10_outcomeOf := by decide +kernel
abbrev rm_X10_outcomeOf : Room := { frames := 5, cells := 0, slots := 0, locals := 123 }
theorem gk_X10_outcomeOf {M : Mm} {a0 : Nat} {a1 : Nat} {r : (Mm × Int32)} (h : f_X10_outcomeOf M a0 a1 = some r) : mK M a0 = 11 := by
  unfold f_X10_outcomeOf at h
  exact (if_some h).1
set_option maxHeartbeats 4000000 in
set_option maxRecDepth 100000 in
theorem ct_X10_outcomeOf (l : Launch) (b0 : Nat) (D : va_G) (cy : Nat → ClassId) (M : Mm) (a0 : Nat) (a1 : Nat) (M1 : Mm) (r : Int32) (hF : f_X10_outcomeOf M a0 a1 = some (M1, r)) : Met l yX10_outcomeOf wsX10_outcomeOf rm_X10_outcomeOf (va_Pc [.ref a0, .ref a1] (Pm b0 D cy M)) (Qm b0 D cy M1 (some (.int r))) 0 0 (BA b0) := by
  refine ct_of [.ref a0, .ref a1] (by decide) rfl ?_
  intro p e s m below meth c CX hP
  obtain ⟨hx, hb, hr, hml, hown0, hts, hlk, hK, hN, hb0, hnm⟩ := id CX
  have hown : s.vm.findClass RX10 = some m.cls := hown0
  have hS : va_S (BA b0) s.heap s.heap [] := va_S.rf
  have hl := lv_entry [.ref a0, .ref a1] (n := 2) (Nat.le_of_ble_eq_true rfl)
  generalize (lg_sl [.ref a0, .ref a1] ++ List.replicate (2 - (lg_sl [.ref a0, .ref a1]).length) Slot.unset).toArray = ls at hl ⊢
  have hl : lv_has ls 2 [(0, .ref a0), (1, .ref a1)] := hl
  unfold f_X10_outcomeOf at hF
  replace hF := (if_some hF).2
  refine lv_aload_n hx hb dX10_outcomeOf_0 rfl (lv_at hl 0 rfl) ?_
  refine xr_getR hx hb hts iw_X10_outcomeOf_10 hown hK hP hF 10 8 rfl (by decide) (by decide +kernel) ⟨rfl, rfl, rfl⟩ dX10_outcomeOf_1 (fun v1 hF => ?_)
  refine lv_aload_n hx hb dX10_outcomeOf_4 rfl (lv_at hl 0 rfl) ?_
  refine xr_getR hx hb hts iw_X10_outcomeOf_10 hown hK hP hF 10 1 rfl (by decide) (by decide +kernel) ⟨rfl, rfl, rfl⟩ dX10_outcomeOf_5 (fun v2 hF => ?_)
  refine lv_aload_n hx hb dX10_outcomeOf_8 rfl (lv_at hl 1 rfl) ?_
  obtain ⟨M4, v5, h3, hF⟩ := ob2_some hF
  refine xr_call1 (va_runV (As := [.ref v2, .ref a1]) (rest := []) ⟨hx, hb, hml, hown, hts⟩ (ct_X0_parse l b0 D cy M v1 v2 a1 M4 v5 h3) (cwV 2 hts gX10_outcomeOf_X0_parse rfl rfl rfl (by decide +kernel) ⟨Nat.le_of_ble_eq_true rfl, Nat.le_of_ble_eq_true rfl⟩) (xp_V hP hK hN hS hb0 0 rfl (gk_X0_parse h3)) rfl rfl hl.1 rfl (lv_room (Nat.le_of_ble_eq_true rfl)) dX10_outcomeOf_9 ⟨Nat.le_of_ble_eq_true rfl, Nat.le_of_ble_eq_true rfl⟩) hS (fun H locs hP hS => ?_)
  refine lv_if_eq (tgt := 28) hx hb dX10_outcomeOf_12 (by decide) (fun c6 => ?_) (fun c6 => ?_)
  · replace hF := it_t hF c6
    refine lv_iconst (v := 5) hx hb dX10_outcomeOf_28 (by decide) ?_
    cases hF
    exact W.iret hx hb hr (fun t ht hW => ⟨rfl, by rw [ht]; exact hP, hS.F ht⟩) hS.2.2 dX10_outcomeOf_29 hlk
  · replace hF := it_f hF c6
    refine lv_aload_n hx hb dX10_outcomeOf_15 rfl (lv_at hl 0 rfl) ?_
    refine xr_getR hx hb hts iw_X10_outcomeOf_10 hown hK hP hF 10 8 rfl (by decide) (by decide +kernel) ⟨rfl, rfl, rfl⟩ dX10_outcomeOf_16 (fun v7 hF => ?_)
    refine xr_getI hx hb hts iw_X10_outcomeOf_0 hown hK hP hF 0 6 rfl (by decide) (by decide +kernel) ⟨rfl, rfl, rfl⟩ dX10_outcomeOf_19 (fun v8 hF => ?_)
    obtain ⟨v10, h9, hF⟩ := ob_some hF
    refine xr_call1 (va_runS (As := [.int v8]) (rest := []) ⟨hx, hb, hml, hown, hts⟩ (ct_X10_isFlow l b0 D cy M4 v8 v10 h9) (va_cwS 1 hts gX10_outcomeOf_X10_isFlow rfl rfl rfl (by decide +kernel) ⟨Nat.le_of_ble_eq_true rfl, Nat.le_of_ble_eq_true rfl⟩) (xp_S hP hK hN hS hb0) rfl rfl hl.1 rfl (lv_room (Nat.le_of_ble_eq_true rfl)) dX10_outcomeOf_22 ⟨Nat.le_of_ble_eq_true rfl, Nat.le_of_ble_eq_true rfl⟩) hS (fun H locs hP hS => ?_)
    refine lv_if_ne (tgt := 30) hx hb dX10_outcomeOf_25 (by decide) (fun c11 => ?_) (fun c11 => ?_)
    · replace hF := it_f hF c11
      refine lv_aload_n hx hb dX10_outcomeOf_30 rfl (lv_at hl 0 rfl) ?_
      refine xr_getR hx hb hts iw_X10_outcomeOf_10 hown hK hP hF 10 8 rfl (by decide) (by decide +kernel) ⟨rfl, rfl, rfl⟩ dX10_outcomeOf_31 (fun v12 hF => ?_)
      refine xr_getI hx hb hts iw_X10_outcomeOf_0 hown hK hP hF 0 5 rfl (by decide) (by decide +kernel) ⟨rfl, rfl, rfl⟩ dX10_outcomeOf_34 (fun v13 hF => ?_)
      refine lv_iconst (v := 2) hx hb dX10_outcomeOf_37 (by decide) ?_
      refine lv_icmp_le (tgt := 74) hx hb dX10_outcomeOf_38 (by decide) (fun c14 => ?_) (fun c14 => ?_)
      · replace hF := it_t hF c14
        refine lv_aload_n hx hb dX10_outcomeOf_74 rfl (lv_at hl 0 rfl) ?_
        refine lv_aload_n hx hb dX10_outcomeOf_75 rfl (lv_at hl 0 rfl) ?_
        refine xr_getR hx hb hts iw_X10_outcomeOf_10 hown hK hP hF 10 4 rfl (by decide) (by decide +kernel) ⟨rfl, rfl, rfl⟩ dX10_outcomeOf_76 (fun v15 hF => ?_)
        refine lv_aload_n hx hb dX10_outcomeOf_79 rfl (lv_at hl 0 rfl) ?_
        refine xr_getR hx hb hts iw_X10_outcomeOf_10 hown hK hP hF 10 8 rfl (by decide) (by decide +kernel) ⟨rfl, rfl, rfl⟩ dX10_outcomeOf_80 (fun v16 hF => ?_)
        refine xr_getI hx hb hts iw_X10_outcomeOf_0 hown hK hP hF 0 6 rfl (by decide) (by decide +kernel) ⟨rfl, rfl, rfl⟩ dX10_outcomeOf_83 (fun v17 hF => ?_)
        refine xr_aR hx hb hK hP hF 3 rfl (by decide) dX10_outcomeOf_86 (fun v18 hF => ?_)
        obtain ⟨M20, v21, h19, hF⟩ := ob2_some hF
        refine xr_call1 (va_runV (As := [.ref v18]) (rest := []) ⟨hx, hb, hml, hown, hts⟩ (ct_X10_open l b0 D cy M4 a0 v18 M20 v21 h19) (cwV 1 hts gX10_outcomeOf_X10_open rfl rfl rfl (by decide +kernel) ⟨Nat.le_of_ble_eq_true rfl, Nat.le_of_ble_eq_true rfl⟩) (xp_V hP hK hN hS hb0 10 rfl (gk_X10_open h19)) rfl rfl hl.1 rfl (lv_room (Nat.le_of_ble_eq_true rfl)) dX10_outcomeOf_87 ⟨Nat.le_of_ble_eq_true rfl, Nat.le_of_ble_eq_true rfl⟩) hS (fun H locs hP hS => ?_)
        cases hF
        exact W.iret hx hb hr (fun t ht hW => ⟨rfl, by rw [ht]; exact hP, hS.F ht⟩) hS.2.2 dX10_outcomeOf_90 hlk
      · replace hF := it_f hF c14
        refine lv_aload_n hx hb dX10_outcomeOf_41 rfl (lv_at hl 0 rfl) ?_
        refine xr_getR hx hb hts iw_X10_outcomeOf_10 hown hK hP hF 10 3 rfl (by decide) (by decide +kernel) ⟨rfl, rfl, rfl⟩ dX10_outcomeOf_42 (fun v22 hF => ?_)
        refine lv_aload_n hx hb dX10_outcomeOf_45 rfl (lv_at hl 0 rfl) ?_
        refine xr_getR hx hb hts iw_X10_outcomeOf_10 hown hK hP hF 10 8 rfl (by decide) (by decide +kernel) ⟨rfl, rfl, rfl⟩ dX10_outcomeOf_46 (fun v23 hF => ?_)
        refine xr_getI hx hb hts iw_X10_outcomeOf_0 hown hK hP hF 0 6 rfl (by decide) (by decide +kernel) ⟨rfl, rfl, rfl⟩ dX10_outcomeOf_49 (fun v24 hF => ?_)
        refine xr_aR hx hb hK hP hF 7 rfl (by decide) dX10_outcomeOf_52 (fun v25 hF => ?_)
        refine lv_aload_n hx hb dX10_outcomeOf_53 rfl (lv_at hl 0 rfl) ?_
        refine xr_getR hx hb hts iw_X10_outcomeOf_10 hown hK hP hF 10 8 rfl (by decide) (by decide +kernel) ⟨rfl, rfl, rfl⟩ dX10_outcomeOf_54 (fun v26 hF => ?_)
        refine xr_getI hx hb hts iw_X10_outcomeOf_0 hown hK hP hF 0 5 rfl (by decide) (by decide +kernel) ⟨rfl, rfl, rfl⟩ dX10_outcomeOf_57 (fun v27 hF => ?_)
        refine lv_aload_n hx hb dX10_outcomeOf_60 rfl (lv_at hl 0 rfl) ?_
        refine xr_getR hx hb hts iw_X10_outcomeOf_10 hown hK hP hF 10 8 rfl (by decide) (by decide +kernel) ⟨rfl, rfl, rfl⟩ dX10_outcomeOf_61 (fun v28 hF => ?_)
        refine xr_getR hx hb hts iw_X10_outcomeOf_0 hown hK hP hF 0 0 rfl (by decide) (by decide +kernel) ⟨rfl, rfl, rfl⟩ dX10_outcomeOf_64 (fun v29 hF => ?_)
        refine xr_getI hx hb hts iw_X10_outcomeOf_3 hown hK hP hF 3 1 rfl (by decide) (by decide +kernel) ⟨rfl, rfl, rfl⟩ dX10_outcomeOf_67 (fun v30 hF => ?_)
        obtain ⟨M32, v33, h31, hF⟩ := ob2_some hF
        refine xr_call1 (va_runV (As := [.int v27, .int v30]) (rest := []) ⟨hx, hb, hml, hown, hts⟩ (ct_X9_heed l b0 D cy M4 v25 v27 v30 M32 v33 h31) (cwV 2 hts gX10_outcomeOf_X9_heed rfl rfl rfl (by decide +kernel) ⟨Nat.le_of_ble_eq_true rfl, Nat.le_of_ble_eq_true rfl⟩) (xp_V hP hK hN hS hb0 9 rfl (gk_X9_heed h31)) rfl rfl hl.1 rfl (lv_room (Nat.le_of_ble_eq_true rfl)) dX10_outcomeOf_70 ⟨Nat.le_of_ble_eq_true rfl, Nat.le_of_ble_eq_true rfl⟩) hS (fun H locs hP hS => ?_)
        cases hF
        exact W.iret hx hb hr (fun t ht hW => ⟨rfl, by rw [ht]; exact hP, hS.F ht⟩) hS.2.2 dX10_outcomeOf_73 hlk
    · replace hF := it_t hF c11
      refine lv_iconst (v := 5) hx hb dX10_outcomeOf_28 (by decide) ?_
      cases hF
      exact W.iret hx hb hr (fun t ht hW => ⟨rfl, by rw [ht]; exact hP, hS.F ht⟩) hS.2.2 dX10_outcomeOf_29 hlk
/-! X10_deliver -/
theorem iw_X10_deliver_4 : ∀ w ∈ u_ws RX4 TX4 9, w ∈ wsX10_deliver := by decide +kernel
abbrev rm_X10_deliver : Room := { frames := 6, cells := 0, slots := 0, locals := 144 }
theorem gk_X10_deliver {M : Mm} {a0 : Nat} {a1 : Int32} {r : (Mm × Int32)} (h : f_X10_deliver M a0 a1 = some r) : mK M a0 = 11 := by
  unfold f_X10_deliver at h
  exact (if_some h).1
set_option maxHeartbeats 4000000 in
set_option maxRecDepth 100000 in
theorem ct_X10_deliver (l : Launch) (b0 : Nat) (D : va_G) (cy : Nat → ClassId) (M : Mm) (a0 : Nat) (a1 : Int32) (M1 : Mm) (r : Int32) (hF : f_X10_deliver M a0 a1 = some (M1, r)) : Met l yX10_deliver wsX10_deliver rm_X10_deliver (va_Pc [.ref a0, .int a1] (Pm b0 D cy M)) (Qm b0 D cy M1 (some (.int r))) 0 0 (BA b0) := by
  refine ct_of [.ref a0, .int a1] (by decide) rfl ?_
  intro p e s m below meth c CX hP
  obtain ⟨hx, hb, hr, hml, hown0, hts, hlk, hK, hN, hb0, hnm⟩ := id CX
  have hown : s.vm.findClass RX10 = some m.cls := hown0
  have hS : va_S (BA b0) s.heap s.heap [] := va_S.rf
  have hl := lv_entry [.ref a0, .int a1] (n := 3) (Nat.le_of_ble_eq_true rfl)
  generalize (lg_sl [.ref a0, .int a1] ++ List.replicate (3 - (lg_sl [.ref a0, .int a1]).length) Slot.unset).toArray = ls at hl ⊢
  have hl : lv_has ls 3 [(0, .ref a0), (1, .int a1)] := hl
  unfold f_X10_deliver at hF
  replace hF := (if_some hF).2
  refine lv_aload_n hx hb dX10_deliver_0 rfl (lv_at hl 0 rfl) ?_
  refine lv_iload_n hx hb dX10_deliver_1 rfl (lv_at hl 1 rfl) ?_
  obtain ⟨v2, h1, hF⟩ := ob_some hF
  refine xr_call1 (va_runV (As := [.int a1]) (rest := []) ⟨hx, hb, hml, hown, hts⟩ (ct_X10_letterUnderWay l b0 D cy M a0 a1 v2 h1) (cwV 1 hts gX10_deliver_X10_letterUnderWay rfl rfl rfl (by decide +kernel) ⟨Nat.le_of_ble_eq_true rfl, Nat.le_of_ble_eq_true rfl⟩) (xp_V hP hK hN hS hb0 10 rfl (gk_X10_letterUnderWay h1)) rfl rfl hl.1 rfl (lv_room (Nat.le_of_ble_eq_true rfl)) dX10_deliver_2 ⟨Nat.le_of_ble_eq_true rfl, Nat.le_of_ble_eq_true rfl⟩) hS (fun H locs hP hS => ?_)
  refine xr_astore_n (lv' := [(2, va_rf v2), (0, .ref a0), (1, .int a1)]) hx hb dX10_deliver_5 rfl hl (by decide) (by first | rfl | simp [cat_rf]) (fun ls hl => ?_)
  refine xr_aload_n hx hb dX10_deliver_6 rfl (lv_at hl 0 rfl) ?_
  rcases v2 with _ | w3
  · replace hF := nm_n hF
    refine lv_ifnonnullN hx hb dX10_deliver_7 ?_
    refine lv_iconst (v := (-1)) hx hb dX10_deliver_10 (by decide) ?_
    cases hF
    exact W.iret hx hb hr (fun t ht hW => ⟨rfl, by rw [ht]; exact hP, hS.F ht⟩) hS.2.2 dX10_deliver_11 hlk
  · replace hF := nm_s hF
    refine lv_ifnonnull (tgt := 12) hx hb dX10_deliver_7 (by decide) ?_
    refine lv_aload_n hx hb dX10_deliver_12 rfl (lv_at hl 0 rfl) ?_
    refine lv_aload_n hx hb dX10_deliver_13 rfl (lv_at hl 1 rfl) ?_
    refine lv_aload_n hx hb dX10_deliver_14 rfl (lv_at hl 0 rfl) ?_
    refine xr_getR hx hb hts iw_X10_deliver_4 hown hK hP hF 4 3 rfl (by decide) (by decide +kernel) ⟨rfl, rfl, rfl⟩ dX10_deliver_15 (fun v4 hF => ?_)
    obtain ⟨M6, v7, h5, hF⟩ := ob2_some hF
    refine xr_call1 (va_runV (As := [.ref v4]) (rest := [.ref w3]) ⟨hx, hb, hml, hown, hts⟩ (ct_X10_outcomeOf l b0 D cy M a0 v4 M6 v7 h5) (cwV 1 hts gX10_deliver_X10_outcomeOf rfl rfl rfl (by decide +kernel) ⟨Nat.le_of_ble_eq_true rfl, Nat.le_of_ble_eq_true rfl⟩) (xp_V hP hK hN hS hb0 10 rfl (gk_X10_outcomeOf h5)) rfl rfl hl.1 rfl (lv_room (Nat.le_of_ble_eq_true rfl)) dX10_deliver_18 ⟨Nat.le_of_ble_eq_true rfl, Nat.le_of_ble_eq_true rfl⟩) hS (fun H locs hP hS => ?_)
    refine xr_putI hx hb hts iw_X10_deliver_4 hown hK hP hS hF 4 5 rfl (by decide) tyX4 tyX4_ok nmX4 (by decide +kernel) (Or.inl rfl) rfl ⟨rfl, rfl, rfl⟩ dX10_deliver_21 (fun M8 H locs hF hP hS => ?_)
    refine lv_aload_n hx hb dX10_deliver_24 rfl (lv_at hl 0 rfl) ?_
    refine xr_getI hx hb hts iw_X10_deliver_4 hown hK hP hF 4 5 rfl (by decide) (by decide +kernel) ⟨rfl, rfl, rfl⟩ dX10_deliver_25 (fun v9 hF => ?_)
    cases hF
    exact W.iret hx hb hr (fun t ht hW => ⟨rfl, by rw [ht]; exact hP, hS.F ht⟩) hS.2.2 dX10_deliver_28 hlk
/-! X10_lose -/
theorem iw_X10_lose_4 : ∀ w ∈ u_ws RX4 TX4 9, w ∈ wsX10_lose := by decide +kernel
theorem iw_X10_lose_10 : ∀ w ∈ u_ws RX10 TX10 12, w ∈ wsX10_lose := by decide +kernel
abbrev rm_X10_lose : Room := { frames := 2, cells := 0, slots := 0, locals := 43 }
theorem gk_X10_lose {M : Mm} {a0 : Nat} {a1 : Int32} {r : (Mm × Int32)} (h : f_X10_lose M a0 a1 = some r) : mK M a0 = 11 := by
  unfold f_X10_lose at h
  exact (if_some h).1
set_option maxHeartbeats 4000000 in
set_option maxRecDepth 100000 in
theorem ct_X10_lose (l : Launch) (b0 : Nat) (D : va_G) (cy : Nat → ClassId) (M : Mm) (a0 : Nat) (a1 : Int32) (M1 : Mm) (r : Int32) (hF : f_X10_lose M a0 a1 = some (M1, r)) : Met l yX10_lose wsX10_lose rm_X10_lose (va_Pc [.ref a0, .int a1] (Pm b0 D cy M)) (Qm b0 D cy M1 (some (.int r))) 0 0 (BA b0) := by
  refine ct_of [.ref a0, .int a1] (by decide) rfl ?_
  intro p e s m below meth c CX hP
  obtain ⟨hx, hb, hr, hml, hown0, hts, hlk, hK, hN, hb0, hnm⟩ := id CX
  have hown : s.vm.findClass RX10 = some m.cls := hown0
  have hS : va_S (BA b0) s.heap s.heap [] := va_S.rf
  have hl := lv_entry [.ref a0, .int a1] (n := 3) (Nat.le_of_ble_eq_true rfl)
  generalize (lg_sl [.ref a0, .int a1] ++ List.replicate (3 - (lg_sl [.ref a0, .int a1]).length) Slot.unset).toArray = ls at hl ⊢
  have hl : lv_has ls 3 [(0, .ref a0), (1, .int a1)] := hl
  unfold f_X10_lose at hF
  replace hF := (if_some hF).2
  refine lv_aload_n hx hb dX10_lose_0 rfl (lv_at hl 0 rfl) ?_
  refine lv_iload_n hx hb dX10_lose_1 rfl (lv_at hl 1 rfl) ?_
  obtain ⟨v2, h1, hF⟩ := ob_some hF
  refine xr_call1 (va_runV (As := [.int a1]) (rest := []) ⟨hx, hb, hml, hown, hts⟩ (ct_X10_letterUnderWay l b0 D cy M a0 a1 v2 h1) (cwV 1 hts gX10_lose_X10_letterUnderWay rfl rfl rfl (by decide +kernel) ⟨Nat.le_of_ble_eq_true rfl, Nat.le_of_ble_eq_true rfl⟩) (xp_V hP hK hN hS hb0 10 rfl (gk_X10_letterUnderWay h1)) rfl rfl hl.1 rfl (lv_room (Nat.le_of_ble_eq_true rfl)) dX10_lose_2 ⟨Nat.le_of_ble_eq_true rfl, Nat.le_of_ble_eq_true rfl⟩) hS (fun H locs hP hS => ?_)
  refine xr_astore_n (lv' := [(2, va_rf v2), (0, .ref a0), (1, .int a1)]) hx hb dX10_lose_5 rfl hl (by decide) (by first | rfl | simp [cat_rf]) (fun ls hl => ?_)
  refine xr_aload_n hx hb dX10_lose_6 rfl (lv_at hl 0 rfl) ?_
  rcases v2 with _ | w3
  · replace hF := nm_n hF
    refine lv_ifnonnullN hx hb dX10_lose_7 ?_
    refine lv_iconst (v := (-1)) hx hb dX10_lose_10 (by decide) ?_
    cases hF
    exact W.iret hx hb hr (fun t ht hW => ⟨rfl, by rw [ht]; exact hP, hS.F ht⟩) hS.2.2 dX10_lose_11 hlk
  · replace hF := nm_s hF
    refine lv_ifnonnull (tgt := 12) hx hb dX10_lose_7 (by decide) ?_
    refine lv_aload_n hx hb dX10_lose_12 rfl (lv_at hl 0 rfl) ?_
    refine lv_iconst (v := 1) hx hb dX10_lose_13 (by decide) ?_
    refine xr_putZ hx hb hts iw_X10_lose_4 hown hK hP hS hF 4 6 rfl (by decide) tyX4 tyX4_ok nmX4 (by decide +kernel) (Or.inl rfl) rfl ⟨rfl, rfl, rfl⟩ dX10_lose_14 (fun M4 H locs hF hP hS => ?_)
    refine lv_aload_n hx hb dX10_lose_17 rfl (lv_at hl 1 rfl) ?_
    refine lv_dup hx hb dX10_lose_18 rfl ?_
    refine xr_getI hx hb hts iw_X10_lose_10 hown hK hP hF 10 11 rfl (by decide) (by decide +kernel) ⟨rfl, rfl, rfl⟩ dX10_lose_19 (fun v5 hF => ?_)
    refine lv_iconst (v := 1) hx hb dX10_lose_22 (by decide) ?_
    refine lv_iadd hx hb dX10_lose_23 ?_
    refine xr_putI hx hb hts iw_X10_lose_10 hown hK hP hS hF 10 11 rfl (by decide) tyX10 tyX10_ok nmX10 (by decide +kernel) (Or.inl rfl) rfl ⟨rfl, rfl, rfl⟩ dX10_lose_24 (fun M6 H locs hF hP hS => ?_)
    refine lv_iconst (v := 0) hx hb dX10_lose_27 (by decide) ?_
    cases hF
    exact W.iret hx hb hr (fun t ht hW => ⟨rfl, by rw [ht]; exact hP, hS.F ht⟩) hS.2.2 dX10_lose_28 hlk
/-! X10_twice -/
theorem iw_X10_twice_4 : ∀ w ∈ u_ws RX4 TX4 9, w ∈ wsX10_twice := by decide +kernel
abbrev rm_X10_twice : Room := { frames := 2, cells := 2, slots := 73, locals := 72 }
theorem gk_X10_twice {M : Mm} {a0 : Nat} {a1 : Int32} {r : (Mm × Int32)} (h : f_X10_twice M a0 a1 = some r) : mK M a0 = 11 := by
  unfold f_X10_twice at h
  exact (if_some h).1
set_option maxHeartbeats 4000000 in
set_option maxRecDepth 100000 in
theorem ct_X10_twice (l : Launch) (b0 : Nat) (D : va_G) (cy : Nat → ClassId) (M : Mm) (a0 : Nat) (a1 : Int32) (M1 : Mm) (r : Int32) (hF : f_X10_twice M a0 a1 = some (M1, r)) : Met l yX10_twice wsX10_twice rm_X10_twice (va_Pc [.ref a0, .int a1] (Pm b0 D cy M)) (Qm b0 D cy M1 (some (.int r))) 2 73 (BA b0) := by
  refine ct_of [.ref a0, .int a1] (by decide) rfl ?_
  intro p e s m below meth c CX hP
  obtain ⟨hx, hb, hr, hml, hown0, hts, hlk, hK, hN, hb0, hnm⟩ := id CX
  have hown : s.vm.findClass RX10 = some m.cls := hown0
  have hS : va_S (BA b0) s.heap s.heap [] := va_S.rf
  have hl := lv_entry [.ref a0, .int a1] (n := 5) (Nat.le_of_ble_eq_true rfl)
  generalize (lg_sl [.ref a0, .int a1] ++ List.replicate (5 - (lg_sl [.ref a0, .int a1]).length) Slot.unset).toArray = ls at hl ⊢
  have hl : lv_has ls 5 [(0, .ref a0), (1, .int a1)] := hl
  unfold f_X10_twice at hF
  replace hF := (if_some hF).2
  refine lv_aload_n hx hb dX10_twice_0 rfl (lv_at hl 0 rfl) ?_
  refine lv_iload_n hx hb dX10_twice_1 rfl (lv_at hl 1 rfl) ?_
  obtain ⟨v2, h1, hF⟩ := ob_some hF
  refine xr_call1 (va_runV (As := [.int a1]) (rest := []) ⟨hx, hb, hml, hown, hts⟩ (ct_X10_letterUnderWay l b0 D cy M a0 a1 v2 h1) (cwV 1 hts gX10_twice_X10_letterUnderWay rfl rfl rfl (by decide +kernel) ⟨Nat.le_of_ble_eq_true rfl, Nat.le_of_ble_eq_true rfl⟩) (xp_V hP hK hN hS hb0 10 rfl (gk_X10_letterUnderWay h1)) rfl rfl hl.1 rfl (lv_room (Nat.le_of_ble_eq_true rfl)) dX10_twice_2 ⟨Nat.le_of_ble_eq_true rfl, Nat.le_of_ble_eq_true rfl⟩) hS (fun H locs hP hS => ?_)
  refine xr_astore_n (lv' := [(2, va_rf v2), (0, .ref a0), (1, .int a1)]) hx hb dX10_twice_5 rfl hl (by decide) (by first | rfl | simp [cat_rf]) (fun ls hl => ?_)
  refine xr_aload_n hx hb dX10_twice_6 rfl (lv_at hl 0 rfl) ?_
  rcases v2 with _ | w3
  · replace hF := nm_n hF
    refine lv_ifnonnullN hx hb dX10_twice_7 ?_
    refine lv_iconst (v := (-1)) hx hb dX10_twice_10 (by decide) ?_
    refine W.widen (k := 2) (n := 73) (by decide) (by decide) ?_
    cases hF
    exact W.iret hx hb hr (fun t ht hW => ⟨rfl, by rw [ht]; exact hP, hS.F ht⟩) hS.2.2 dX10_twice_11 hlk
  · replace hF := nm_s hF
    refine lv_ifnonnull (tgt := 12) hx hb dX10_twice_7 (by decide) ?_
    refine lv_aload_n hx hb dX10_twice_12 rfl (lv_at hl 1 rfl) ?_
    obtain ⟨v5, h4, hF⟩ := ob_some hF
    refine xr_call1 (va_runV (As := []) (rest := []) ⟨hx, hb, hml, hown, hts⟩ (ct_X10_isLineFull l b0 D cy M a0 v5 h4) (cwV 0 hts gX10_twice_X10_isLineFull rfl rfl rfl (by decide +kernel) ⟨Nat.le_of_ble_eq_true rfl, Nat.le_of_ble_eq_true rfl⟩) (xp_V hP hK hN hS hb0 10 rfl (gk_X10_isLineFull h4)) rfl rfl hl.1 rfl (lv_room (Nat.le_of_ble_eq_true rfl)) dX10_twice_13 ⟨Nat.le_of_ble_eq_true rfl, Nat.le_of_ble_eq_true rfl⟩) hS (fun H locs hP hS => ?_)
    refine lv_if_eq (tgt := 22) hx hb dX10_twice_16 (by decide) (fun c6 => ?_) (fun c6 => ?_)
    · replace hF := it_t hF c6
      refine lv_aload_n hx hb dX10_twice_22 rfl (lv_at hl 0 rfl) ?_
      refine xr_getR hx hb hts iw_X10_twice_4 hown hK hP hF 4 3 rfl (by decide) (by decide +kernel) ⟨rfl, rfl, rfl⟩ dX10_twice_23 (fun v7 hF => ?_)
      refine lv_aload_n hx hb dX10_twice_26 rfl (lv_at hl 0 rfl) ?_
      refine xr_getR hx hb hts iw_X10_twice_4 hown hK hP hF 4 3 rfl (by decide) (by decide +kernel) ⟨rfl, rfl, rfl⟩ dX10_twice_27 (fun v8 hF => ?_)
      refine xr_aL hx hb hK hP hF dX10_twice_30 (fun v9 hF => ?_)
      obtain ⟨M11, v12, h10, hF⟩ := ob2_some hF
      refine xr_call1 (va_runS (As := [.ref v7, .int v9]) (rest := []) ⟨hx, hb, hml, hown, hts⟩ (ct_J7_copyOf_59c91 l b0 D cy M v7 v9 M11 v12 h10) (va_cwS 2 hts gX10_twice_J7_copyOf_59c91 rfl rfl rfl (by decide +kernel) ⟨Nat.le_of_ble_eq_true rfl, Nat.le_of_ble_eq_true rfl⟩) (xp_S hP hK hN hS hb0) rfl rfl hl.1 rfl (lv_room (Nat.le_of_ble_eq_true rfl)) dX10_twice_31 ⟨Nat.le_of_ble_eq_true rfl, Nat.le_of_ble_eq_true rfl⟩) hS (fun H locs hP hS => ?_)
      refine W.cs (cells' := 1) (slots' := 64) rfl rfl ?_
      refine lv_astore_n (lv' := [(3, .ref v12), (2, .ref w3), (0, .ref a0), (1, .int a1)]) hx hb dX10_twice_34 rfl hl (by decide) (by first | rfl | simp [cat_rf]) (fun ls hl => ?_)
      refine xr_new hx hb hts iw_X10_twice_4 hown hK hP hS hb0 4 rfl tyX4 tyX4_ok df_4 (by decide +kernel) (by decide +kernel) (by decide +kernel) (Nat.le_of_ble_eq_true rfl) (Nat.le_of_ble_eq_true rfl) dX10_twice_35 (kd := 5) rfl (fun H hP hS => ?_)
      refine W.cs (cells' := 2) (slots' := 73) rfl rfl ?_
      refine lv_dup hx hb dX10_twice_38 rfl ?_
      refine lv_aload_n hx hb dX10_twice_39 rfl (lv_at hl 1 rfl) ?_
      refine xr_getI hx hb hts iw_X10_twice_4 hown hK hP hF 4 0 rfl (by decide) (by decide +kernel) ⟨rfl, rfl, rfl⟩ dX10_twice_40 (fun v13 hF => ?_)
      refine lv_aload_n hx hb dX10_twice_43 rfl (lv_at hl 1 rfl) ?_
      refine xr_getI hx hb hts iw_X10_twice_4 hown hK hP hF 4 1 rfl (by decide) (by decide +kernel) ⟨rfl, rfl, rfl⟩ dX10_twice_44 (fun v14 hF => ?_)
      refine lv_aload_n hx hb dX10_twice_47 rfl (lv_at hl 1 rfl) ?_
      refine xr_getI hx hb hts iw_X10_twice_4 hown hK hP hF 4 2 rfl (by decide) (by decide +kernel) ⟨rfl, rfl, rfl⟩ dX10_twice_48 (fun v15 hF => ?_)
      refine lv_aload_n hx hb dX10_twice_51 rfl (lv_at hl 0 rfl) ?_
      refine lv_aload_n hx hb dX10_twice_52 rfl (lv_at hl 1 rfl) ?_
      refine xr_getI hx hb hts iw_X10_twice_4 hown hK hP hF 4 4 rfl (by decide) (by decide +kernel) ⟨rfl, rfl, rfl⟩ dX10_twice_53 (fun v16 hF => ?_)
      obtain ⟨M18, h17, hF⟩ := ob_some hF
      refine xr_call0 (va_runI (As := [.int v13, .int v14, .int v15, .ref v12, .int v16]) (rest := [.ref (mS M11)]) ⟨hx, hb, hml, hown, hts⟩ (ct_X4_init l b0 D cy (nO M11 5) (mS M11) v13 v14 v15 v12 v16 M18 h17) (cwI 5 hts gX10_twice_X4_init rfl rfl rfl (hts (.initialized RX4) (by decide +kernel)) (hts (.methodLink RX10 210 yX4_init) (by decide +kernel)) (hts (.instanceMethod yX4_init) (by decide +kernel)) rfl (by decide +kernel) ⟨Nat.le_of_ble_eq_true rfl, Nat.le_of_ble_eq_true rfl⟩) (xp_S hP hK hN hS hb0) rfl rfl hl.1 rfl (lv_room (Nat.le_of_ble_eq_true rfl)) dX10_twice_56 ⟨Nat.le_of_ble_eq_true rfl, Nat.le_of_ble_eq_true rfl⟩) hS (fun H locs hP hS => ?_)
      refine lv_astore (lv' := [(4, .ref (mS M11)), (3, .ref v12), (2, .ref w3), (0, .ref a0), (1, .int a1)]) hx hb dX10_twice_59 hl (by decide) (by first | rfl | simp [cat_rf]) (fun ls hl => ?_)
      refine lv_aload hx hb dX10_twice_61 (lv_at hl 0 rfl) ?_
      refine lv_iconst (v := 1) hx hb dX10_twice_63 (by decide) ?_
      refine xr_putZ hx hb hts iw_X10_twice_4 hown hK hP hS hF 4 7 rfl (by decide) tyX4 tyX4_ok nmX4 (by decide +kernel) (Or.inl rfl) rfl ⟨rfl, rfl, rfl⟩ dX10_twice_64 (fun M19 H locs hF hP hS => ?_)
      refine lv_aload_n hx hb dX10_twice_67 rfl (lv_at hl 3 rfl) ?_
      refine lv_aload hx hb dX10_twice_68 (lv_at hl 0 rfl) ?_
      obtain ⟨M21, v22, h20, hF⟩ := ob2_some hF
      refine xr_call1 (va_runV (As := [.ref (mS M11)]) (rest := []) ⟨hx, hb, hml, hown, hts⟩ (ct_X10_add l b0 D cy M19 a0 (mS M11) M21 v22 h20) (cwV 1 hts gX10_twice_X10_add rfl rfl rfl (by decide +kernel) ⟨Nat.le_of_ble_eq_true rfl, Nat.le_of_ble_eq_true rfl⟩) (xp_V hP hK hN hS hb0 10 rfl (gk_X10_add h20)) rfl rfl hl.1 rfl (lv_room (Nat.le_of_ble_eq_true rfl)) dX10_twice_70 ⟨Nat.le_of_ble_eq_true rfl, Nat.le_of_ble_eq_true rfl⟩) hS (fun H locs hP hS => ?_)
      cases hF
      exact W.iret hx hb hr (fun t ht hW => ⟨rfl, by rw [ht]; exact hP, hS.F ht⟩) hS.2.2 dX10_twice_73 hlk
    · replace hF := it_f hF c6
      refine lv_bipush (v := (-2)) hx hb dX10_twice_19 (by decide) ?_
      refine W.widen (k := 2) (n := 73) (by decide) (by decide) ?_
      cases hF
      exact W.iret hx hb hr (fun t ht hW => ⟨rfl, by rw [ht]; exact hP, hS.F ht⟩) hS.2.2 dX10_twice_21 hlk
/-! X10_bend -/
theorem iw_X10_bend_4 : ∀ w ∈ u_ws RX4 TX4 9, w ∈ wsX10_bend := by decide +kernel
abbrev rm_X10_bend : Room := { frames := 2, cells := 0, slots := 0, locals := 43 }
theorem gk_X10_bend {M : Mm} {a0 : Nat} {a1 : Int32} {a2 : Int32} {a3 : Int32} {r : (Mm × Int32)} (h : f_X10_bend M a0 a1 a2 a3 = some r) : mK M a0 = 11 := by
  unfold f_X10_bend at h
  exact (if_some h).1
set_option maxHeartbeats 4000000 in
set_option maxRecDepth 100000 in
theorem ct_X10_bend (l : Launch) (b0 : Nat) (D : va_G) (cy : Nat → ClassId) (M : Mm) (a0 : Nat) (a1 : Int32) (a2 : Int32) (a3 : Int32) (M1 : Mm) (r : Int32) (hF : f_X10_bend M a0 a1 a2 a3 = some (M1, r)) : Met l yX10_bend wsX10_bend rm_X10_bend (va_Pc [.ref a0, .int a1, .int a2, .int a3] (Pm b0 D cy M)) (Qm b0 D cy M1 (some (.int r))) 0 0 (BA b0) := by
  refine ct_of [.ref a0, .int a1, .int a2, .int a3] (by decide) rfl ?_
  intro p e s m below meth c CX hP
  obtain ⟨hx, hb, hr, hml, hown0, hts, hlk, hK, hN, hb0, hnm⟩ := id CX
  have hown : s.vm.findClass RX10 = some m.cls := hown0
  have hS : va_S (BA b0) s.heap s.heap [] := va_S.rf
  have hl := lv_entry [.ref a0, .int a1, .int a2, .int a3] (n := 5) (Nat.le_of_ble_eq_true rfl)
  generalize (lg_sl [.ref a0, .int a1, .int a2, .int a3] ++ List.replicate (5 - (lg_sl [.ref a0, .int a1, .int a2, .int a3]).length) Slot.unset).toArray = ls at hl ⊢
  have hl : lv_has ls 5 [(0, .ref a0), (1, .int a1), (2, .int a2), (3, .int a3)] := hl
  unfold f_X10_bend at hF
  replace hF := (if_some hF).2
  refine lv_aload_n hx hb dX10_bend_0 rfl (lv_at hl 0 rfl) ?_
  refine lv_iload_n hx hb dX10_bend_1 rfl (lv_at hl 1 rfl) ?_
  obtain ⟨v2, h1, hF⟩ := ob_some hF
  refine xr_call1 (va_runV (As := [.int a1]) (rest := []) ⟨hx, hb, hml, hown, hts⟩ (ct_X10_letterUnderWay l b0 D cy M a0 a1 v2 h1) (cwV 1 hts gX10_bend_X10_letterUnderWay rfl rfl rfl (by decide +kernel) ⟨Nat.le_of_ble_eq_true rfl, Nat.le_of_ble_eq_true rfl⟩) (xp_V hP hK hN hS hb0 10 rfl (gk_X10_letterUnderWay h1)) rfl rfl hl.1 rfl (lv_room (Nat.le_of_ble_eq_true rfl)) dX10_bend_2 ⟨Nat.le_of_ble_eq_true rfl, Nat.le_of_ble_eq_true rfl⟩) hS (fun H locs hP hS => ?_)
  refine xr_astore (lv' := [(4, va_rf v2), (0, .ref a0), (1, .int a1), (2, .int a2), (3, .int a3)]) hx hb dX10_bend_5 hl (by decide) (by first | rfl | simp [cat_rf]) (fun ls hl => ?_)
  refine xr_aload hx hb dX10_bend_7 (lv_at hl 0 rfl) ?_
  rcases v2 with _ | w3
  · replace hF := nm_n hF
    refine lv_ifnullN (tgt := 33) hx hb dX10_bend_9 (by decide) ?_
    refine lv_iconst (v := (-1)) hx hb dX10_bend_33 (by decide) ?_
    cases hF
    exact W.iret hx hb hr (fun t ht hW => ⟨rfl, by rw [ht]; exact hP, hS.F ht⟩) hS.2.2 dX10_bend_34 hlk
  · replace hF := nm_s hF
    refine lv_ifnull hx hb dX10_bend_9 ?_
    refine lv_aload hx hb dX10_bend_12 (lv_at hl 0 rfl) ?_
    refine lv_iload_n hx hb dX10_bend_14 rfl (lv_at hl 3 rfl) ?_
    obtain ⟨v5, h4, hF⟩ := ob_some hF
    refine xr_call1 (va_runV (As := [.int a2]) (rest := []) ⟨hx, hb, hml, hown, hts⟩ (ct_X4_hasByte l b0 D cy M w3 a2 v5 h4) (cwV 1 hts gX10_bend_X4_hasByte rfl rfl rfl (by decide +kernel) ⟨Nat.le_of_ble_eq_true rfl, Nat.le_of_ble_eq_true rfl⟩) (xp_V hP hK hN hS hb0 4 rfl (gk_X4_hasByte h4)) rfl rfl hl.1 rfl (lv_room (Nat.le_of_ble_eq_true rfl)) dX10_bend_15 ⟨Nat.le_of_ble_eq_true rfl, Nat.le_of_ble_eq_true rfl⟩) hS (fun H locs hP hS => ?_)
    refine lv_if_eq (tgt := 33) hx hb dX10_bend_18 (by decide) (fun c6 => ?_) (fun c6 => ?_)
    · replace hF := it_t hF c6
      refine lv_iconst (v := (-1)) hx hb dX10_bend_33 (by decide) ?_
      cases hF
      exact W.iret hx hb hr (fun t ht hW => ⟨rfl, by rw [ht]; exact hP, hS.F ht⟩) hS.2.2 dX10_bend_34 hlk
    · replace hF := it_f hF c6
      refine lv_iload_n hx hb dX10_bend_21 rfl (lv_at hl 4 rfl) ?_
      refine lv_iconst (v := 1) hx hb dX10_bend_22 (by decide) ?_
      refine lv_icmp_lt (tgt := 33) hx hb dX10_bend_23 (by decide) (fun c7 => ?_) (fun c7 => ?_)
      · replace hF := it_t hF c7
        refine lv_iconst (v := (-1)) hx hb dX10_bend_33 (by decide) ?_
        cases hF
        exact W.iret hx hb hr (fun t ht hW => ⟨rfl, by rw [ht]; exact hP, hS.F ht⟩) hS.2.2 dX10_bend_34 hlk
      · replace hF := it_f hF c7
        refine lv_iload_n hx hb dX10_bend_26 rfl (lv_at hl 4 rfl) ?_
        refine lv_sipush (v := 255) hx hb dX10_bend_27 (by decide) ?_
        refine lv_icmp_le (tgt := 35) hx hb dX10_bend_30 (by decide) (fun c8 => ?_) (fun c8 => ?_)
        · replace hF := it_t hF c8
          refine lv_aload hx hb dX10_bend_35 (lv_at hl 0 rfl) ?_
          refine xr_getR hx hb hts iw_X10_bend_4 hown hK hP hF 4 3 rfl (by decide) (by decide +kernel) ⟨rfl, rfl, rfl⟩ dX10_bend_37 (fun v9 hF => ?_)
          refine lv_iload_n hx hb dX10_bend_40 rfl (lv_at hl 3 rfl) ?_
          refine lv_dup2_11 hx hb dX10_bend_41 rfl rfl ?_
          refine xr_aI hx hb hK hP hF dX10_bend_42 (fun v10 hF => ?_)
          refine lv_iload_n hx hb dX10_bend_43 rfl (lv_at hl 4 rfl) ?_
          refine lv_ixor hx hb dX10_bend_44 ?_
          refine xr_wI hx hb hK hP hS hF dX10_bend_45 (fun M11 H locs hF hP hS => ?_)
          refine lv_aload hx hb dX10_bend_46 (lv_at hl 0 rfl) ?_
          refine xr_getR hx hb hts iw_X10_bend_4 hown hK hP hF 4 3 rfl (by decide) (by decide +kernel) ⟨rfl, rfl, rfl⟩ dX10_bend_48 (fun v12 hF => ?_)
          refine lv_iload_n hx hb dX10_bend_51 rfl (lv_at hl 3 rfl) ?_
          refine xr_aI hx hb hK hP hF dX10_bend_52 (fun v13 hF => ?_)
          cases hF
          exact W.iret hx hb hr (fun t ht hW => ⟨rfl, by rw [ht]; exact hP, hS.F ht⟩) hS.2.2 dX10_bend_53 hlk
        · replace hF := it_f hF c8
          refine lv_iconst (v := (-1)) hx hb dX10_bend_33 (by decide) ?_
          cases hF
          exact W.iret hx hb hr (fun t ht hW => ⟨rfl, by rw [ht]; exact hP, hS.F ht⟩) hS.2.2 dX10_bend_34 hlk
/-! X10_octet -/
theorem iw_X10_octet_4 : ∀ w ∈ u_ws RX4 TX4 9, w ∈ wsX10_octet := by decide +kernel
abbrev rm_X10_octet : Room := { frames := 1, cells := 0, slots := 0, locals := 21 }
theorem gk_X10_octet {M : Mm} {a0 : Nat} {a1 : Int32} {a2 : Int32} {r : Int32} (h : f_X10_octet M a0 a1 a2 = some r) : mK M a0 = 11 := by
  unfold f_X10_octet at h
  exact (if_some h).1
set_option maxHeartbeats 4000000 in
set_option maxRecDepth 100000 in
theorem ct_X10_octet (l : Launch) (b0 : Nat) (D : va_G) (cy : Nat → ClassId) (M : Mm) (a0 : Nat) (a1 : Int32) (a2 : Int32) (r : Int32) (hF : f_X10_octet M a0 a1 a2 = some r) : Met l yX10_octet wsX10_octet rm_X10_octet (va_Pc [.ref a0, .int a1, .int a2] (Pm b0 D cy M)) (Qm b0 D cy M (some (.int r))) 0 0 (BA b0) := by
  refine ct_of [.ref a0, .int a1, .int a2] (by decide) rfl ?_
  intro p e s m below meth c CX hP
  obtain ⟨hx, hb, hr, hml, hown0, hts, hlk, hK, hN, hb0, hnm⟩ := id CX
  have hown : s.vm.findClass RX10 = some m.cls := hown0
  have hS : va_S (BA b0) s.heap s.heap [] := va_S.rf
  have hl := lv_entry [.ref a0, .int a1, .int a2] (n := 4) (Nat.le_of_ble_eq_true rfl)
  generalize (lg_sl [.ref a0, .int a1, .int a2] ++ List.replicate (4 - (lg_sl [.ref a0, .int a1, .int a2]).length) Slot.unset).toArray = ls at hl ⊢
  have hl : lv_has ls 4 [(0, .ref a0), (1, .int a1), (2, .int a2)] := hl
  unfold f_X10_octet at hF
  replace hF := (if_some hF).2
  refine lv_aload_n hx hb dX10_octet_0 rfl (lv_at hl 0 rfl) ?_
  refine lv_iload_n hx hb dX10_octet_1 rfl (lv_at hl 1 rfl) ?_
  obtain ⟨v2, h1, hF⟩ := ob_some hF
  refine xr_call1 (va_runV (As := [.int a1]) (rest := []) ⟨hx, hb, hml, hown, hts⟩ (ct_X10_letterAt l b0 D cy M a0 a1 v2 h1) (cwV 1 hts gX10_octet_X10_letterAt rfl rfl rfl (by decide +kernel) ⟨Nat.le_of_ble_eq_true rfl, Nat.le_of_ble_eq_true rfl⟩) (xp_V hP hK hN hS hb0 10 rfl (gk_X10_letterAt h1)) rfl rfl hl.1 rfl (lv_room (Nat.le_of_ble_eq_true rfl)) dX10_octet_2 ⟨Nat.le_of_ble_eq_true rfl, Nat.le_of_ble_eq_true rfl⟩) hS (fun H locs hP hS => ?_)
  refine xr_astore_n (lv' := [(3, va_rf v2), (0, .ref a0), (1, .int a1), (2, .int a2)]) hx hb dX10_octet_5 rfl hl (by decide) (by first | rfl | simp [cat_rf]) (fun ls hl => ?_)
  refine xr_aload_n hx hb dX10_octet_6 rfl (lv_at hl 0 rfl) ?_
  rcases v2 with _ | w3
  · replace hF := nm_n hF
    refine lv_ifnullN (tgt := 18) hx hb dX10_octet_7 (by decide) ?_
    refine lv_iconst (v := (-1)) hx hb dX10_octet_18 (by decide) ?_
    cases hF
    exact W.iret hx hb hr (fun t ht hW => ⟨rfl, by rw [ht]; exact hP, hS.F ht⟩) hS.2.2 dX10_octet_19 hlk
  · replace hF := nm_s hF
    refine lv_ifnull hx hb dX10_octet_7 ?_
    refine lv_aload_n hx hb dX10_octet_10 rfl (lv_at hl 0 rfl) ?_
    refine lv_iload_n hx hb dX10_octet_11 rfl (lv_at hl 3 rfl) ?_
    obtain ⟨v5, h4, hF⟩ := ob_some hF
    refine xr_call1 (va_runV (As := [.int a2]) (rest := []) ⟨hx, hb, hml, hown, hts⟩ (ct_X4_hasByte l b0 D cy M w3 a2 v5 h4) (cwV 1 hts gX10_octet_X4_hasByte rfl rfl rfl (by decide +kernel) ⟨Nat.le_of_ble_eq_true rfl, Nat.le_of_ble_eq_true rfl⟩) (xp_V hP hK hN hS hb0 4 rfl (gk_X4_hasByte h4)) rfl rfl hl.1 rfl (lv_room (Nat.le_of_ble_eq_true rfl)) dX10_octet_12 ⟨Nat.le_of_ble_eq_true rfl, Nat.le_of_ble_eq_true rfl⟩) hS (fun H locs hP hS => ?_)
    refine lv_if_ne (tgt := 20) hx hb dX10_octet_15 (by decide) (fun c6 => ?_) (fun c6 => ?_)
    · replace hF := it_f hF c6
      refine lv_aload_n hx hb dX10_octet_20 rfl (lv_at hl 0 rfl) ?_
      refine xr_getR hx hb hts iw_X10_octet_4 hown hK hP hF 4 3 rfl (by decide) (by decide +kernel) ⟨rfl, rfl, rfl⟩ dX10_octet_21 (fun v7 hF => ?_)
      refine lv_iload_n hx hb dX10_octet_24 rfl (lv_at hl 3 rfl) ?_
      refine xr_aI hx hb hK hP hF dX10_octet_25 (fun v8 hF => ?_)
      cases hF
      exact W.iret hx hb hr (fun t ht hW => ⟨rfl, by rw [ht]; exact hP, hS.F ht⟩) hS.2.2 dX10_octet_26 hlk
    · replace hF := it_t hF c6
      refine lv_iconst (v := (-1)) hx hb dX10_octet_18 (by decide) ?_
      cases hF
      exact W.iret hx hb hr (fun t ht hW => ⟨rfl, by rw [ht]; exact hP, hS.F ht⟩) hS.2.2 dX10_octet_19 hlk
