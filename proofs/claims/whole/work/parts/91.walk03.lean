/-! X8_holdRow -/
theorem iw_X8_holdRow_8 : ∀ w ∈ u_ws RX8 TX8 5, w ∈ wsX8_holdRow := by decide +kernel
abbrev rm_X8_holdRow : Room := { frames := 1, cells := 0, slots := 0, locals := 24 }
theorem gk_X8_holdRow {M : Mm} {a0 : Nat} {a1 : Int32} {a2 : Int32} {r : Mm} (h : f_X8_holdRow M a0 a1 a2 = some r) : mK M a0 = 9 := by
  unfold f_X8_holdRow at h
  exact (if_some h).1
set_option maxHeartbeats 4000000 in
set_option maxRecDepth 100000 in
theorem ct_X8_holdRow (l : Launch) (b0 : Nat) (D : va_G) (cy : Nat → ClassId) (M : Mm) (a0 : Nat) (a1 : Int32) (a2 : Int32) (M1 : Mm) (hF : f_X8_holdRow M a0 a1 a2 = some M1) : Met l yX8_holdRow wsX8_holdRow rm_X8_holdRow (va_Pc [.ref a0, .int a1, .int a2] (Pm b0 D cy M)) (Qm b0 D cy M1 none) 0 0 (BA b0) := by
  refine ct_of [.ref a0, .int a1, .int a2] (by decide) rfl ?_
  intro p e s m below meth c CX hP
  obtain ⟨hx, hb, hr, hml, hown0, hts, hlk, hK, hN, hb0, hnm⟩ := id CX
  have hown : s.vm.findClass RX8 = some m.cls := hown0
  have hS : va_S (BA b0) s.heap s.heap [] := va_S.rf
  have hl := lv_entry [.ref a0, .int a1, .int a2] (n := 3) (Nat.le_of_ble_eq_true rfl)
  generalize (lg_sl [.ref a0, .int a1, .int a2] ++ List.replicate (3 - (lg_sl [.ref a0, .int a1, .int a2]).length) Slot.unset).toArray = ls at hl ⊢
  have hl : lv_has ls 3 [(0, .ref a0), (1, .int a1), (2, .int a2)] := hl
  unfold f_X8_holdRow at hF
  replace hF := (if_some hF).2
  refine lv_aload_n hx hb dX8_holdRow_0 rfl (lv_at hl 0 rfl) ?_
  refine lv_iload_n hx hb dX8_holdRow_1 rfl (lv_at hl 1 rfl) ?_
  refine xr_putI hx hb hts iw_X8_holdRow_8 hown hK hP hS hF 8 1 rfl (by decide) tyX8 tyX8_ok nmX8 (by decide +kernel) (Or.inl rfl) rfl ⟨rfl, rfl, rfl⟩ dX8_holdRow_2 (fun M1 H locs hF hP hS => ?_)
  refine lv_aload_n hx hb dX8_holdRow_5 rfl (lv_at hl 0 rfl) ?_
  refine lv_iconst (v := 0) hx hb dX8_holdRow_6 (by decide) ?_
  refine lv_iload_n hx hb dX8_holdRow_7 rfl (lv_at hl 2 rfl) ?_
  refine lv_bipush (v := 60) hx hb dX8_holdRow_8 (by decide) ?_
  refine va_mmin hx hb (hml.trans hl.1.symm) hown (hts (.methodLink RX8 34 Lib.Math.min.name) (by decide +kernel)) (hts (.static Lib.Math.min.name) (by decide +kernel)) (hts (.initialized "java/lang/Math") (by decide +kernel)) (hts (.code Lib.Math.min.name Lib.Math.min.code 2 (some .int)) (by decide +kernel)) (Nat.le_of_ble_eq_true rfl) (Nat.le_of_ble_eq_true rfl) (Nat.le_of_ble_eq_true rfl) (Nat.le_of_ble_eq_true rfl) dX8_holdRow_10 ?_
  refine va_mmax hx hb (hml.trans hl.1.symm) hown (hts (.methodLink RX8 40 Lib.Math.max.name) (by decide +kernel)) (hts (.static Lib.Math.max.name) (by decide +kernel)) (hts (.initialized "java/lang/Math") (by decide +kernel)) (hts (.code Lib.Math.max.name Lib.Math.max.code 2 (some .int)) (by decide +kernel)) (Nat.le_of_ble_eq_true rfl) (Nat.le_of_ble_eq_true rfl) (Nat.le_of_ble_eq_true rfl) (Nat.le_of_ble_eq_true rfl) dX8_holdRow_13 ?_
  refine xr_putI hx hb hts iw_X8_holdRow_8 hown hK hP hS hF 8 2 rfl (by decide) tyX8 tyX8_ok nmX8 (by decide +kernel) (Or.inl rfl) rfl ⟨rfl, rfl, rfl⟩ dX8_holdRow_16 (fun M2 H locs hF hP hS => ?_)
  refine lv_aload_n hx hb dX8_holdRow_19 rfl (lv_at hl 0 rfl) ?_
  refine xr_getR hx hb hts iw_X8_holdRow_8 hown hK hP hF 8 0 rfl (by decide) (by decide +kernel) ⟨rfl, rfl, rfl⟩ dX8_holdRow_20 (fun v3 hF => ?_)
  refine lv_lconst (v := 0) hx hb dX8_holdRow_23 (by decide) ?_
  obtain ⟨M5, h4, hF⟩ := ob_some hF
  refine xr_call0 (va_runS (As := [.ref v3, .long 0]) (rest := []) ⟨hx, hb, hml, hown, hts⟩ (ct_J7_fill_d0a16 l b0 D cy M2 v3 0 M5 h4) (va_cwS 2 hts gX8_holdRow_J7_fill_d0a16 rfl rfl rfl (by decide +kernel) ⟨Nat.le_of_ble_eq_true rfl, Nat.le_of_ble_eq_true rfl⟩) (xp_S hP hK hN hS hb0) rfl rfl hl.1 rfl (lv_room (Nat.le_of_ble_eq_true rfl)) dX8_holdRow_24 ⟨Nat.le_of_ble_eq_true rfl, Nat.le_of_ble_eq_true rfl⟩) hS (fun H locs hP hS => ?_)
  cases hF
  exact W.vret hx hb hr (fun t ht hW => ⟨rfl, by rw [ht]; exact hP, hS.F ht⟩) hS.2.2 dX8_holdRow_27 hlk
/-! X8_hasPlaces -/
theorem iw_X8_hasPlaces_8 : ∀ w ∈ u_ws RX8 TX8 5, w ∈ wsX8_hasPlaces := by decide +kernel
abbrev rm_X8_hasPlaces : Room := { frames := 0, cells := 0, slots := 0, locals := 0 }
theorem gk_X8_hasPlaces {M : Mm} {a0 : Nat} {a1 : Int32} {a2 : Int32} {r : Int32} (h : f_X8_hasPlaces M a0 a1 a2 = some r) : mK M a0 = 9 := by
  unfold f_X8_hasPlaces at h
  exact (if_some h).1
set_option maxHeartbeats 4000000 in
set_option maxRecDepth 100000 in
theorem ct_X8_hasPlaces (l : Launch) (b0 : Nat) (D : va_G) (cy : Nat → ClassId) (M : Mm) (a0 : Nat) (a1 : Int32) (a2 : Int32) (r : Int32) (hF : f_X8_hasPlaces M a0 a1 a2 = some r) : Met l yX8_hasPlaces wsX8_hasPlaces rm_X8_hasPlaces (va_Pc [.ref a0, .int a1, .int a2] (Pm b0 D cy M)) (Qm b0 D cy M (some (.int r))) 0 0 (BA b0) := by
  refine ct_of [.ref a0, .int a1, .int a2] (by decide) rfl ?_
  intro p e s m below meth c CX hP
  obtain ⟨hx, hb, hr, hml, hown0, hts, hlk, hK, hN, hb0, hnm⟩ := id CX
  have hown : s.vm.findClass RX8 = some m.cls := hown0
  have hS : va_S (BA b0) s.heap s.heap [] := va_S.rf
  have hl := lv_entry [.ref a0, .int a1, .int a2] (n := 3) (Nat.le_of_ble_eq_true rfl)
  generalize (lg_sl [.ref a0, .int a1, .int a2] ++ List.replicate (3 - (lg_sl [.ref a0, .int a1, .int a2]).length) Slot.unset).toArray = ls at hl ⊢
  have hl : lv_has ls 3 [(0, .ref a0), (1, .int a1), (2, .int a2)] := hl
  unfold f_X8_hasPlaces at hF
  replace hF := (if_some hF).2
  refine lv_iload_n hx hb dX8_hasPlaces_0 rfl (lv_at hl 1 rfl) ?_
  refine lv_if_lt (tgt := 22) hx hb dX8_hasPlaces_1 (by decide) (fun c1 => ?_) (fun c1 => ?_)
  · replace hF := it_t hF c1
    refine lv_iconst (v := 0) hx hb dX8_hasPlaces_22 (by decide) ?_
    cases hF
    exact W.zret hx hb hr rfl (fun t ht hW => ⟨rfl, by rw [ht]; exact hP, hS.F ht⟩) hS.2.2 dX8_hasPlaces_23 hlk
  · replace hF := it_f hF c1
    refine lv_iload_n hx hb dX8_hasPlaces_4 rfl (lv_at hl 2 rfl) ?_
    refine lv_if_lt (tgt := 22) hx hb dX8_hasPlaces_5 (by decide) (fun c2 => ?_) (fun c2 => ?_)
    · replace hF := it_t hF c2
      refine lv_iconst (v := 0) hx hb dX8_hasPlaces_22 (by decide) ?_
      cases hF
      exact W.zret hx hb hr rfl (fun t ht hW => ⟨rfl, by rw [ht]; exact hP, hS.F ht⟩) hS.2.2 dX8_hasPlaces_23 hlk
    · replace hF := it_f hF c2
      refine lv_iload_n hx hb dX8_hasPlaces_8 rfl (lv_at hl 1 rfl) ?_
      refine lv_aload_n hx hb dX8_hasPlaces_9 rfl (lv_at hl 0 rfl) ?_
      refine xr_getI hx hb hts iw_X8_hasPlaces_8 hown hK hP hF 8 2 rfl (by decide) (by decide +kernel) ⟨rfl, rfl, rfl⟩ dX8_hasPlaces_10 (fun v3 hF => ?_)
      refine lv_iload_n hx hb dX8_hasPlaces_13 rfl (lv_at hl 2 rfl) ?_
      refine lv_isub hx hb dX8_hasPlaces_14 ?_
      refine lv_icmp_gt (tgt := 22) hx hb dX8_hasPlaces_15 (by decide) (fun c4 => ?_) (fun c4 => ?_)
      · replace hF := it_t hF c4
        refine lv_iconst (v := 0) hx hb dX8_hasPlaces_22 (by decide) ?_
        cases hF
        exact W.zret hx hb hr rfl (fun t ht hW => ⟨rfl, by rw [ht]; exact hP, hS.F ht⟩) hS.2.2 dX8_hasPlaces_23 hlk
      · replace hF := it_f hF c4
        refine lv_iconst (v := 1) hx hb dX8_hasPlaces_18 (by decide) ?_
        refine lv_goto (tgt := 23) hx hb dX8_hasPlaces_19 (by decide) ?_
        cases hF
        exact W.zret hx hb hr rfl (fun t ht hW => ⟨rfl, by rw [ht]; exact hP, hS.F ht⟩) hS.2.2 dX8_hasPlaces_23 hlk
/-! X9_init -/
theorem iw_X9_init_3 : ∀ w ∈ u_ws RX3 TX3 2, w ∈ wsX9_init := by decide +kernel
theorem iw_X9_init_9 : ∀ w ∈ u_ws RX9 TX9 7, w ∈ wsX9_init := by decide +kernel
abbrev rm_X9_init : Room := { frames := 2, cells := 18, slots := 96, locals := 40 }
theorem gk_X9_init {M : Mm} {a0 : Nat} {r : Mm} (h : f_X9_init M a0 = some r) : mK M a0 = 10 := by
  unfold f_X9_init at h
  exact (if_some h).1
set_option maxHeartbeats 4000000 in
set_option maxRecDepth 100000 in
theorem ct_X9_init (l : Launch) (b0 : Nat) (D : va_G) (cy : Nat → ClassId) (M : Mm) (a0 : Nat) (M1 : Mm) (hF : f_X9_init M a0 = some M1) : Met l yX9_init wsX9_init rm_X9_init (va_Pc [.ref a0] (Pm b0 D cy M)) (Qm b0 D cy M1 none) 18 96 (BA b0) := by
  refine ct_of [.ref a0] (by decide) rfl ?_
  intro p e s m below meth c CX hP
  obtain ⟨hx, hb, hr, hml, hown0, hts, hlk, hK, hN, hb0, hnm⟩ := id CX
  have hown : s.vm.findClass RX9 = some m.cls := hown0
  have hS : va_S (BA b0) s.heap s.heap [] := va_S.rf
  have hl := lv_entry [.ref a0] (n := 2) (Nat.le_of_ble_eq_true rfl)
  generalize (lg_sl [.ref a0] ++ List.replicate (2 - (lg_sl [.ref a0]).length) Slot.unset).toArray = ls at hl ⊢
  have hl : lv_has ls 2 [(0, .ref a0)] := hl
  unfold f_X9_init at hF
  replace hF := (if_some hF).2
  refine lv_aload_n hx hb dX9_init_0 rfl (lv_at hl 0 rfl) ?_
  refine W.objInit hx hb hown (hts (.methodLink RX9 3 objectInit) (by decide +kernel)) (hts (.instanceMethod objectInit) (by decide +kernel)) (hts (.code objectInit ⟨#[0xb1]⟩ 1 none) (by decide +kernel)) rfl (by rw [hml]; exact hl.1) rfl dX9_init_1 (Nat.le_of_ble_eq_true rfl) (Nat.le_of_ble_eq_true rfl) ?_
  refine W.eq (g2 := F0 m 4 ls []) rfl ?_
  refine lv_aload_n hx hb dX9_init_4 rfl (lv_at hl 0 rfl) ?_
  refine lv_bipush (v := 8) hx hb dX9_init_5 (by decide) ?_
  refine xr_newA hx hb hts hK hP hS hb0 hF (by decide +kernel) (Or.inl ⟨rfl, rfl⟩) (by decide) (Nat.le_of_ble_eq_true rfl) (Nat.le_of_ble_eq_true rfl) dX9_init_7 (fun M1 H hF hP hS => ?_)
  refine W.cs (cells' := 1) (slots' := 8) rfl rfl ?_
  refine xr_putR hx hb hts iw_X9_init_9 hown hK hP hS (v := (some (mS M))) hF 9 0 rfl (by decide) tyX9 tyX9_ok nmX9 (by decide +kernel) (Or.inr ⟨rfl, hnm, rfl⟩) (Or.inr ⟨_, rfl⟩) ⟨rfl, rfl, rfl⟩ dX9_init_9 (fun M2 H locs hF hP hS => ?_)
  refine lv_aload_n hx hb dX9_init_12 rfl (lv_at hl 0 rfl) ?_
  refine lv_iconst (v := 1) hx hb dX9_init_13 (by decide) ?_
  refine xr_putZ hx hb hts iw_X9_init_9 hown hK hP hS hF 9 3 rfl (by decide) tyX9 tyX9_ok nmX9 (by decide +kernel) (Or.inl rfl) rfl ⟨rfl, rfl, rfl⟩ dX9_init_14 (fun M3 H locs hF hP hS => ?_)
  refine lv_aload_n hx hb dX9_init_17 rfl (lv_at hl 0 rfl) ?_
  refine lv_bipush (v := 8) hx hb dX9_init_18 (by decide) ?_
  refine xr_newQ hx hb hts hown hK hP hS hb0 hF 4 rfl (by decide) (by decide +kernel) hN.2.2.2.1 (by decide) (Nat.le_of_ble_eq_true rfl) (Nat.le_of_ble_eq_true rfl) dX9_init_20 (fun M4 H hF hP hS => ?_)
  refine W.cs (cells' := 2) (slots' := 16) rfl rfl ?_
  refine xr_putR hx hb hts iw_X9_init_9 hown hK hP hS (v := (some (mS M3))) hF 9 5 rfl (by decide) tyX9 tyX9_ok nmX9 (by decide +kernel) (Or.inr ⟨rfl, hnm, rfl⟩) (Or.inr ⟨_, rfl⟩) ⟨rfl, rfl, rfl⟩ dX9_init_23 (fun M5 H locs hF hP hS => ?_)
  refine lv_aload_n hx hb dX9_init_26 rfl (lv_at hl 0 rfl) ?_
  refine xr_getR hx hb hts iw_X9_init_9 hown hK hP hF 9 0 rfl (by decide) (by decide +kernel) ⟨rfl, rfl, rfl⟩ dX9_init_27 (fun v6 hF => ?_)
  refine lv_iconst (v := 1) hx hb dX9_init_30 (by decide) ?_
  obtain ⟨M8, h7, hF⟩ := ob_some hF
  refine xr_call0 (va_runS (As := [.ref v6, .int 1]) (rest := []) ⟨hx, hb, hml, hown, hts⟩ (ct_J7_fill_53178 l b0 D cy M5 v6 1 M8 h7) (va_cwS 2 hts gX9_init_J7_fill_53178 rfl rfl rfl (by decide +kernel) ⟨Nat.le_of_ble_eq_true rfl, Nat.le_of_ble_eq_true rfl⟩) (xp_S hP hK hN hS hb0) rfl rfl hl.1 rfl (lv_room (Nat.le_of_ble_eq_true rfl)) dX9_init_31 ⟨Nat.le_of_ble_eq_true rfl, Nat.le_of_ble_eq_true rfl⟩) hS (fun H locs hP hS => ?_)
  refine lv_iconst (v := 0) hx hb dX9_init_34 (by decide) ?_
  refine lv_istore_n (lv' := [(1, .int 0), (0, .ref a0)]) hx hb dX9_init_35 rfl hl (by decide) (by first | rfl | simp [cat_rf]) (fun ls hl => ?_)
  refine lv_iload_n hx hb dX9_init_36 rfl (lv_at hl 0 rfl) ?_
  refine lv_bipush (v := 8) hx hb dX9_init_37 (by decide) ?_
  refine lv_icmp_ge (tgt := 61) hx hb dX9_init_39 (by decide) (fun hc => ?_) (fun hc => ?_)
  · exact absurd hc (by decide)
  refine lv_aload_n hx hb dX9_init_42 rfl (lv_at hl 1 rfl) ?_
  refine xr_getR hx hb hts iw_X9_init_9 hown hK hP hF 9 5 rfl (by decide) (by decide +kernel) ⟨rfl, rfl, rfl⟩ dX9_init_43 (fun v9 hF => ?_)
  refine lv_iload_n hx hb dX9_init_46 rfl (lv_at hl 0 rfl) ?_
  refine xr_new hx hb hts iw_X9_init_3 hown hK hP hS hb0 3 rfl tyX3 tyX3_ok df_3 (by decide +kernel) (by decide +kernel) (by decide +kernel) (Nat.le_of_ble_eq_true rfl) (Nat.le_of_ble_eq_true rfl) dX9_init_47 (kd := 4) rfl (fun H hP hS => ?_)
  refine W.cs (cells' := 3) (slots' := 18) rfl rfl ?_
  refine lv_dup hx hb dX9_init_50 rfl ?_
  obtain ⟨M11, h10, hF⟩ := ob_some hF
  refine xr_call0 (va_runIN (As := []) (rest := [.ref (mS M8), .int 0, .ref v9]) ⟨hx, hb, hml, hown, hts⟩ (ct_X3_init l b0 D cy (nO M8 4) (mS M8) M11 h10) ⟨va_cnB 0 hts gX9_init_X3_init_n31 rfl rfl rfl (hN.1 (RX9, 31, yX3_init, "HeaderLine") (by decide +kernel)) (hts (.initialized RX3) (by decide +kernel)) (by decide +kernel) ⟨Nat.le_of_ble_eq_true rfl, Nat.le_of_ble_eq_true rfl⟩, rfl, hts (.instanceMethod yX3_init) (by decide +kernel)⟩ (xp_S hP hK hN hS hb0) rfl rfl hl.1 rfl (lv_room (Nat.le_of_ble_eq_true rfl)) dX9_init_51 ⟨Nat.le_of_ble_eq_true rfl, Nat.le_of_ble_eq_true rfl⟩) hS (fun H locs hP hS => ?_)
  refine W.cs (cells' := 4) (slots' := 26) rfl rfl ?_
  refine xr_wR hx hb hK hP hS hF 4 3 rfl (by decide) rfl rfl dX9_init_54 (fun M12 H locs hF hP hS => ?_)
  refine lv_iinc (v := 1) (lv' := [(1, .int 1), (0, .ref a0)]) hx hb dX9_init_55 hl (k := 0) rfl (by decide) (by decide) rfl (fun ls hl => ?_)
  refine lv_goto (tgt := 36) hx hb dX9_init_58 (by decide) ?_
  refine lv_iload_n hx hb dX9_init_36 rfl (lv_at hl 0 rfl) ?_
  refine lv_bipush (v := 8) hx hb dX9_init_37 (by decide) ?_
  refine lv_icmp_ge (tgt := 61) hx hb dX9_init_39 (by decide) (fun hc => ?_) (fun hc => ?_)
  · exact absurd hc (by decide)
  refine lv_aload_n hx hb dX9_init_42 rfl (lv_at hl 1 rfl) ?_
  refine xr_getR hx hb hts iw_X9_init_9 hown hK hP hF 9 5 rfl (by decide) (by decide +kernel) ⟨rfl, rfl, rfl⟩ dX9_init_43 (fun v13 hF => ?_)
  refine lv_iload_n hx hb dX9_init_46 rfl (lv_at hl 0 rfl) ?_
  refine xr_new hx hb hts iw_X9_init_3 hown hK hP hS hb0 3 rfl tyX3 tyX3_ok df_3 (by decide +kernel) (by decide +kernel) (by decide +kernel) (Nat.le_of_ble_eq_true rfl) (Nat.le_of_ble_eq_true rfl) dX9_init_47 (kd := 4) rfl (fun H hP hS => ?_)
  refine W.cs (cells' := 5) (slots' := 28) rfl rfl ?_
  refine lv_dup hx hb dX9_init_50 rfl ?_
  obtain ⟨M15, h14, hF⟩ := ob_some hF
  refine xr_call0 (va_runIN (As := []) (rest := [.ref (mS M12), .int 1, .ref v13]) ⟨hx, hb, hml, hown, hts⟩ (ct_X3_init l b0 D cy (nO M12 4) (mS M12) M15 h14) ⟨va_cnB 0 hts gX9_init_X3_init_n31 rfl rfl rfl (hN.1 (RX9, 31, yX3_init, "HeaderLine") (by decide +kernel)) (hts (.initialized RX3) (by decide +kernel)) (by decide +kernel) ⟨Nat.le_of_ble_eq_true rfl, Nat.le_of_ble_eq_true rfl⟩, rfl, hts (.instanceMethod yX3_init) (by decide +kernel)⟩ (xp_S hP hK hN hS hb0) rfl rfl hl.1 rfl (lv_room (Nat.le_of_ble_eq_true rfl)) dX9_init_51 ⟨Nat.le_of_ble_eq_true rfl, Nat.le_of_ble_eq_true rfl⟩) hS (fun H locs hP hS => ?_)
  refine W.cs (cells' := 6) (slots' := 36) rfl rfl ?_
  refine xr_wR hx hb hK hP hS hF 4 3 rfl (by decide) rfl rfl dX9_init_54 (fun M16 H locs hF hP hS => ?_)
  refine lv_iinc (v := 2) (lv' := [(1, .int 2), (0, .ref a0)]) hx hb dX9_init_55 hl (k := 0) rfl (by decide) (by decide) rfl (fun ls hl => ?_)
  refine lv_goto (tgt := 36) hx hb dX9_init_58 (by decide) ?_
  refine lv_iload_n hx hb dX9_init_36 rfl (lv_at hl 0 rfl) ?_
  refine lv_bipush (v := 8) hx hb dX9_init_37 (by decide) ?_
  refine lv_icmp_ge (tgt := 61) hx hb dX9_init_39 (by decide) (fun hc => ?_) (fun hc => ?_)
  · exact absurd hc (by decide)
  refine lv_aload_n hx hb dX9_init_42 rfl (lv_at hl 1 rfl) ?_
  refine xr_getR hx hb hts iw_X9_init_9 hown hK hP hF 9 5 rfl (by decide) (by decide +kernel) ⟨rfl, rfl, rfl⟩ dX9_init_43 (fun v17 hF => ?_)
  refine lv_iload_n hx hb dX9_init_46 rfl (lv_at hl 0 rfl) ?_
  refine xr_new hx hb hts iw_X9_init_3 hown hK hP hS hb0 3 rfl tyX3 tyX3_ok df_3 (by decide +kernel) (by decide +kernel) (by decide +kernel) (Nat.le_of_ble_eq_true rfl) (Nat.le_of_ble_eq_true rfl) dX9_init_47 (kd := 4) rfl (fun H hP hS => ?_)
  refine W.cs (cells' := 7) (slots' := 38) rfl rfl ?_
  refine lv_dup hx hb dX9_init_50 rfl ?_
  obtain ⟨M19, h18, hF⟩ := ob_some hF
  refine xr_call0 (va_runIN (As := []) (rest := [.ref (mS M16), .int 2, .ref v17]) ⟨hx, hb, hml, hown, hts⟩ (ct_X3_init l b0 D cy (nO M16 4) (mS M16) M19 h18) ⟨va_cnB 0 hts gX9_init_X3_init_n31 rfl rfl rfl (hN.1 (RX9, 31, yX3_init, "HeaderLine") (by decide +kernel)) (hts (.initialized RX3) (by decide +kernel)) (by decide +kernel) ⟨Nat.le_of_ble_eq_true rfl, Nat.le_of_ble_eq_true rfl⟩, rfl, hts (.instanceMethod yX3_init) (by decide +kernel)⟩ (xp_S hP hK hN hS hb0) rfl rfl hl.1 rfl (lv_room (Nat.le_of_ble_eq_true rfl)) dX9_init_51 ⟨Nat.le_of_ble_eq_true rfl, Nat.le_of_ble_eq_true rfl⟩) hS (fun H locs hP hS => ?_)
  refine W.cs (cells' := 8) (slots' := 46) rfl rfl ?_
  refine xr_wR hx hb hK hP hS hF 4 3 rfl (by decide) rfl rfl dX9_init_54 (fun M20 H locs hF hP hS => ?_)
  refine lv_iinc (v := 3) (lv' := [(1, .int 3), (0, .ref a0)]) hx hb dX9_init_55 hl (k := 0) rfl (by decide) (by decide) rfl (fun ls hl => ?_)
  refine lv_goto (tgt := 36) hx hb dX9_init_58 (by decide) ?_
  refine lv_iload_n hx hb dX9_init_36 rfl (lv_at hl 0 rfl) ?_
  refine lv_bipush (v := 8) hx hb dX9_init_37 (by decide) ?_
  refine lv_icmp_ge (tgt := 61) hx hb dX9_init_39 (by decide) (fun hc => ?_) (fun hc => ?_)
  · exact absurd hc (by decide)
  refine lv_aload_n hx hb dX9_init_42 rfl (lv_at hl 1 rfl) ?_
  refine xr_getR hx hb hts iw_X9_init_9 hown hK hP hF 9 5 rfl (by decide) (by decide +kernel) ⟨rfl, rfl, rfl⟩ dX9_init_43 (fun v21 hF => ?_)
  refine lv_iload_n hx hb dX9_init_46 rfl (lv_at hl 0 rfl) ?_
  refine xr_new hx hb hts iw_X9_init_3 hown hK hP hS hb0 3 rfl tyX3 tyX3_ok df_3 (by decide +kernel) (by decide +kernel) (by decide +kernel) (Nat.le_of_ble_eq_true rfl) (Nat.le_of_ble_eq_true rfl) dX9_init_47 (kd := 4) rfl (fun H hP hS => ?_)
  refine W.cs (cells' := 9) (slots' := 48) rfl rfl ?_
  refine lv_dup hx hb dX9_init_50 rfl ?_
  obtain ⟨M23, h22, hF⟩ := ob_some hF
  refine xr_call0 (va_runIN (As := []) (rest := [.ref (mS M20), .int 3, .ref v21]) ⟨hx, hb, hml, hown, hts⟩ (ct_X3_init l b0 D cy (nO M20 4) (mS M20) M23 h22) ⟨va_cnB 0 hts gX9_init_X3_init_n31 rfl rfl rfl (hN.1 (RX9, 31, yX3_init, "HeaderLine") (by decide +kernel)) (hts (.initialized RX3) (by decide +kernel)) (by decide +kernel) ⟨Nat.le_of_ble_eq_true rfl, Nat.le_of_ble_eq_true rfl⟩, rfl, hts (.instanceMethod yX3_init) (by decide +kernel)⟩ (xp_S hP hK hN hS hb0) rfl rfl hl.1 rfl (lv_room (Nat.le_of_ble_eq_true rfl)) dX9_init_51 ⟨Nat.le_of_ble_eq_true rfl, Nat.le_of_ble_eq_true rfl⟩) hS (fun H locs hP hS => ?_)
  refine W.cs (cells' := 10) (slots' := 56) rfl rfl ?_
  refine xr_wR hx hb hK hP hS hF 4 3 rfl (by decide) rfl rfl dX9_init_54 (fun M24 H locs hF hP hS => ?_)
  refine lv_iinc (v := 4) (lv' := [(1, .int 4), (0, .ref a0)]) hx hb dX9_init_55 hl (k := 0) rfl (by decide) (by decide) rfl (fun ls hl => ?_)
  refine lv_goto (tgt := 36) hx hb dX9_init_58 (by decide) ?_
  refine lv_iload_n hx hb dX9_init_36 rfl (lv_at hl 0 rfl) ?_
  refine lv_bipush (v := 8) hx hb dX9_init_37 (by decide) ?_
  refine lv_icmp_ge (tgt := 61) hx hb dX9_init_39 (by decide) (fun hc => ?_) (fun hc => ?_)
  · exact absurd hc (by decide)
  refine lv_aload_n hx hb dX9_init_42 rfl (lv_at hl 1 rfl) ?_
  refine xr_getR hx hb hts iw_X9_init_9 hown hK hP hF 9 5 rfl (by decide) (by decide +kernel) ⟨rfl, rfl, rfl⟩ dX9_init_43 (fun v25 hF => ?_)
  refine lv_iload_n hx hb dX9_init_46 rfl (lv_at hl 0 rfl) ?_
  refine xr_new hx hb hts iw_X9_init_3 hown hK hP hS hb0 3 rfl tyX3 tyX3_ok df_3 (by decide +kernel) (by decide +kernel) (by decide +kernel) (Nat.le_of_ble_eq_true rfl) (Nat.le_of_ble_eq_true rfl) dX9_init_47 (kd := 4) rfl (fun H hP hS => ?_)
  refine W.cs (cells' := 11) (slots' := 58) rfl rfl ?_
  refine lv_dup hx hb dX9_init_50 rfl ?_
  obtain ⟨M27, h26, hF⟩ := ob_some hF
  refine xr_call0 (va_runIN (As := []) (rest := [.ref (mS M24), .int 4, .ref v25]) ⟨hx, hb, hml, hown, hts⟩ (ct_X3_init l b0 D cy (nO M24 4) (mS M24) M27 h26) ⟨va_cnB 0 hts gX9_init_X3_init_n31 rfl rfl rfl (hN.1 (RX9, 31, yX3_init, "HeaderLine") (by decide +kernel)) (hts (.initialized RX3) (by decide +kernel)) (by decide +kernel) ⟨Nat.le_of_ble_eq_true rfl, Nat.le_of_ble_eq_true rfl⟩, rfl, hts (.instanceMethod yX3_init) (by decide +kernel)⟩ (xp_S hP hK hN hS hb0) rfl rfl hl.1 rfl (lv_room (Nat.le_of_ble_eq_true rfl)) dX9_init_51 ⟨Nat.le_of_ble_eq_true rfl, Nat.le_of_ble_eq_true rfl⟩) hS (fun H locs hP hS => ?_)
  refine W.cs (cells' := 12) (slots' := 66) rfl rfl ?_
  refine xr_wR hx hb hK hP hS hF 4 3 rfl (by decide) rfl rfl dX9_init_54 (fun M28 H locs hF hP hS => ?_)
  refine lv_iinc (v := 5) (lv' := [(1, .int 5), (0, .ref a0)]) hx hb dX9_init_55 hl (k := 0) rfl (by decide) (by decide) rfl (fun ls hl => ?_)
  refine lv_goto (tgt := 36) hx hb dX9_init_58 (by decide) ?_
  refine lv_iload_n hx hb dX9_init_36 rfl (lv_at hl 0 rfl) ?_
  refine lv_bipush (v := 8) hx hb dX9_init_37 (by decide) ?_
  refine lv_icmp_ge (tgt := 61) hx hb dX9_init_39 (by decide) (fun hc => ?_) (fun hc => ?_)
  · exact absurd hc (by decide)
  refine lv_aload_n hx hb dX9_init_42 rfl (lv_at hl 1 rfl) ?_
  refine xr_getR hx hb hts iw_X9_init_9 hown hK hP hF 9 5 rfl (by decide) (by decide +kernel) ⟨rfl, rfl, rfl⟩ dX9_init_43 (fun v29 hF => ?_)
  refine lv_iload_n hx hb dX9_init_46 rfl (lv_at hl 0 rfl) ?_
  refine xr_new hx hb hts iw_X9_init_3 hown hK hP hS hb0 3 rfl tyX3 tyX3_ok df_3 (by decide +kernel) (by decide +kernel) (by decide +kernel) (Nat.le_of_ble_eq_true rfl) (Nat.le_of_ble_eq_true rfl) dX9_init_47 (kd := 4) rfl (fun H hP hS => ?_)
  refine W.cs (cells' := 13) (slots' := 68) rfl rfl ?_
  refine lv_dup hx hb dX9_init_50 rfl ?_
  obtain ⟨M31, h30, hF⟩ := ob_some hF
  refine xr_call0 (va_runIN (As := []) (rest := [.ref (mS M28), .int 5, .ref v29]) ⟨hx, hb, hml, hown, hts⟩ (ct_X3_init l b0 D cy (nO M28 4) (mS M28) M31 h30) ⟨va_cnB 0 hts gX9_init_X3_init_n31 rfl rfl rfl (hN.1 (RX9, 31, yX3_init, "HeaderLine") (by decide +kernel)) (hts (.initialized RX3) (by decide +kernel)) (by decide +kernel) ⟨Nat.le_of_ble_eq_true rfl, Nat.le_of_ble_eq_true rfl⟩, rfl, hts (.instanceMethod yX3_init) (by decide +kernel)⟩ (xp_S hP hK hN hS hb0) rfl rfl hl.1 rfl (lv_room (Nat.le_of_ble_eq_true rfl)) dX9_init_51 ⟨Nat.le_of_ble_eq_true rfl, Nat.le_of_ble_eq_true rfl⟩) hS (fun H locs hP hS => ?_)
  refine W.cs (cells' := 14) (slots' := 76) rfl rfl ?_
  refine xr_wR hx hb hK hP hS hF 4 3 rfl (by decide) rfl rfl dX9_init_54 (fun M32 H locs hF hP hS => ?_)
  refine lv_iinc (v := 6) (lv' := [(1, .int 6), (0, .ref a0)]) hx hb dX9_init_55 hl (k := 0) rfl (by decide) (by decide) rfl (fun ls hl => ?_)
  refine lv_goto (tgt := 36) hx hb dX9_init_58 (by decide) ?_
  refine lv_iload_n hx hb dX9_init_36 rfl (lv_at hl 0 rfl) ?_
  refine lv_bipush (v := 8) hx hb dX9_init_37 (by decide) ?_
  refine lv_icmp_ge (tgt := 61) hx hb dX9_init_39 (by decide) (fun hc => ?_) (fun hc => ?_)
  · exact absurd hc (by decide)
  refine lv_aload_n hx hb dX9_init_42 rfl (lv_at hl 1 rfl) ?_
  refine xr_getR hx hb hts iw_X9_init_9 hown hK hP hF 9 5 rfl (by decide) (by decide +kernel) ⟨rfl, rfl, rfl⟩ dX9_init_43 (fun v33 hF => ?_)
  refine lv_iload_n hx hb dX9_init_46 rfl (lv_at hl 0 rfl) ?_
  refine xr_new hx hb hts iw_X9_init_3 hown hK hP hS hb0 3 rfl tyX3 tyX3_ok df_3 (by decide +kernel) (by decide +kernel) (by decide +kernel) (Nat.le_of_ble_eq_true rfl) (Nat.le_of_ble_eq_true rfl) dX9_init_47 (kd := 4) rfl (fun H hP hS => ?_)
  refine W.cs (cells' := 15) (slots' := 78) rfl rfl ?_
  refine lv_dup hx hb dX9_init_50 rfl ?_
  obtain ⟨M35, h34, hF⟩ := ob_some hF
  refine xr_call0 (va_runIN (As := []) (rest := [.ref (mS M32), .int 6, .ref v33]) ⟨hx, hb, hml, hown, hts⟩ (ct_X3_init l b0 D cy (nO M32 4) (mS M32) M35 h34) ⟨va_cnB 0 hts gX9_init_X3_init_n31 rfl rfl rfl (hN.1 (RX9, 31, yX3_init, "HeaderLine") (by decide +kernel)) (hts (.initialized RX3) (by decide +kernel)) (by decide +kernel) ⟨Nat.le_of_ble_eq_true rfl, Nat.le_of_ble_eq_true rfl⟩, rfl, hts (.instanceMethod yX3_init) (by decide +kernel)⟩ (xp_S hP hK hN hS hb0) rfl rfl hl.1 rfl (lv_room (Nat.le_of_ble_eq_true rfl)) dX9_init_51 ⟨Nat.le_of_ble_eq_true rfl, Nat.le_of_ble_eq_true rfl⟩) hS (fun H locs hP hS => ?_)
  refine W.cs (cells' := 16) (slots' := 86) rfl rfl ?_
  refine xr_wR hx hb hK hP hS hF 4 3 rfl (by decide) rfl rfl dX9_init_54 (fun M36 H locs hF hP hS => ?_)
  refine lv_iinc (v := 7) (lv' := [(1, .int 7), (0, .ref a0)]) hx hb dX9_init_55 hl (k := 0) rfl (by decide) (by decide) rfl (fun ls hl => ?_)
  refine lv_goto (tgt := 36) hx hb dX9_init_58 (by decide) ?_
  refine lv_iload_n hx hb dX9_init_36 rfl (lv_at hl 0 rfl) ?_
  refine lv_bipush (v := 8) hx hb dX9_init_37 (by decide) ?_
  refine lv_icmp_ge (tgt := 61) hx hb dX9_init_39 (by decide) (fun hc => ?_) (fun hc => ?_)
  · exact absurd hc (by decide)
  refine lv_aload_n hx hb dX9_init_42 rfl (lv_at hl 1 rfl) ?_
  refine xr_getR hx hb hts iw_X9_init_9 hown hK hP hF 9 5 rfl (by decide) (by decide +kernel) ⟨rfl, rfl, rfl⟩ dX9_init_43 (fun v37 hF => ?_)
  refine lv_iload_n hx hb dX9_init_46 rfl (lv_at hl 0 rfl) ?_
  refine xr_new hx hb hts iw_X9_init_3 hown hK hP hS hb0 3 rfl tyX3 tyX3_ok df_3 (by decide +kernel) (by decide +kernel) (by decide +kernel) (Nat.le_of_ble_eq_true rfl) (Nat.le_of_ble_eq_true rfl) dX9_init_47 (kd := 4) rfl (fun H hP hS => ?_)
  refine W.cs (cells' := 17) (slots' := 88) rfl rfl ?_
  refine lv_dup hx hb dX9_init_50 rfl ?_
  obtain ⟨M39, h38, hF⟩ := ob_some hF
  refine xr_call0 (va_runIN (As := []) (rest := [.ref (mS M36), .int 7, .ref v37]) ⟨hx, hb, hml, hown, hts⟩ (ct_X3_init l b0 D cy (nO M36 4) (mS M36) M39 h38) ⟨va_cnB 0 hts gX9_init_X3_init_n31 rfl rfl rfl (hN.1 (RX9, 31, yX3_init, "HeaderLine") (by decide +kernel)) (hts (.initialized RX3) (by decide +kernel)) (by decide +kernel) ⟨Nat.le_of_ble_eq_true rfl, Nat.le_of_ble_eq_true rfl⟩, rfl, hts (.instanceMethod yX3_init) (by decide +kernel)⟩ (xp_S hP hK hN hS hb0) rfl rfl hl.1 rfl (lv_room (Nat.le_of_ble_eq_true rfl)) dX9_init_51 ⟨Nat.le_of_ble_eq_true rfl, Nat.le_of_ble_eq_true rfl⟩) hS (fun H locs hP hS => ?_)
  refine W.cs (cells' := 18) (slots' := 96) rfl rfl ?_
  refine xr_wR hx hb hK hP hS hF 4 3 rfl (by decide) rfl rfl dX9_init_54 (fun M40 H locs hF hP hS => ?_)
  refine lv_iinc (v := 8) (lv' := [(1, .int 8), (0, .ref a0)]) hx hb dX9_init_55 hl (k := 0) rfl (by decide) (by decide) rfl (fun ls hl => ?_)
  refine lv_goto (tgt := 36) hx hb dX9_init_58 (by decide) ?_
  refine lv_iload_n hx hb dX9_init_36 rfl (lv_at hl 0 rfl) ?_
  refine lv_bipush (v := 8) hx hb dX9_init_37 (by decide) ?_
  refine lv_icmp_ge (tgt := 61) hx hb dX9_init_39 (by decide) (fun hc => ?_) (fun hc => ?_)
  rotate_left
  · exact absurd hc (by decide)
  cases hF
  exact W.vret hx hb hr (fun t ht hW => ⟨rfl, by rw [ht]; exact hP, hS.F ht⟩) hS.2.2 dX9_init_61 hlk
/-! J9_floorMod_7cf53 -/
abbrev rm_J9_floorMod_7cf53 : Room := { frames := 0, cells := 0, slots := 0, locals := 0 }
set_option maxHeartbeats 4000000 in
set_option maxRecDepth 100000 in
theorem ct_J9_floorMod_7cf53 (l : Launch) (b0 : Nat) (D : va_G) (cy : Nat → ClassId) (M : Mm) (a0 : Int32) (a1 : Int32) (r : Int32) (hF : f_J9_floorMod_7cf53 a0 a1 = some r) : Met l yJ9_floorMod_7cf53 wsJ9_floorMod_7cf53 rm_J9_floorMod_7cf53 (va_Pc [.int a0, .int a1] (Pm b0 D cy M)) (Qm b0 D cy M (some (.int r))) 0 0 (BA b0) := by
  refine ct_ofF [.int a0, .int a1] (by decide +kernel) rfl ?_
  intro p e s m below meth c CX hP
  obtain ⟨hx, hb, hr, hml, hown0, hts, hlk, hK, hN, hb0, hnm⟩ := id CX
  have hown : s.vm.findClass RJ9 = some m.cls := hown0
  have hS : va_S (BA b0) s.heap s.heap [] := va_S.rf
  have hl := lv_entry [.int a0, .int a1] (n := 3) (Nat.le_of_ble_eq_true rfl)
  generalize (lg_sl [.int a0, .int a1] ++ List.replicate (3 - (lg_sl [.int a0, .int a1]).length) Slot.unset).toArray = ls at hl ⊢
  have hl : lv_has ls 3 [(0, .int a0), (1, .int a1)] := hl
  unfold f_J9_floorMod_7cf53 at hF
  refine lv_iload_n hx hb dJ9_floorMod_7cf53_0 rfl (lv_at hl 0 rfl) ?_
  refine lv_iload_n hx hb dJ9_floorMod_7cf53_1 rfl (lv_at hl 1 rfl) ?_
  have hz1 : ¬ a1 = 0 := fun q => by rw [if_pos q] at hF; cases hF
  replace hF := it_f hF hz1
  refine lv_irem hx hb dJ9_floorMod_7cf53_2 hz1 ?_
  refine lv_istore_n (lv' := [(2, .int (a0 - a0 / a1 * a1)), (0, .int a0), (1, .int a1)]) hx hb dJ9_floorMod_7cf53_3 rfl hl (by decide) (by first | rfl | simp [cat_rf]) (fun ls hl => ?_)
  refine lv_iload_n hx hb dJ9_floorMod_7cf53_4 rfl (lv_at hl 1 rfl) ?_
  refine lv_iload_n hx hb dJ9_floorMod_7cf53_5 rfl (lv_at hl 2 rfl) ?_
  refine lv_ixor hx hb dJ9_floorMod_7cf53_6 ?_
  refine lv_if_ge (tgt := 18) hx hb dJ9_floorMod_7cf53_7 (by decide) (fun c2 => ?_) (fun c2 => ?_)
  · replace hF := it_t hF c2
    refine lv_iload_n hx hb dJ9_floorMod_7cf53_18 rfl (lv_at hl 0 rfl) ?_
    cases hF
    exact W.iret hx hb hr (fun t ht hW => ⟨rfl, by rw [ht]; exact hP, hS.F ht⟩) hS.2.2 dJ9_floorMod_7cf53_19 hlk
  · replace hF := it_f hF c2
    refine lv_iload_n hx hb dJ9_floorMod_7cf53_10 rfl (lv_at hl 0 rfl) ?_
    refine lv_if_eq (tgt := 18) hx hb dJ9_floorMod_7cf53_11 (by decide) (fun c3 => ?_) (fun c3 => ?_)
    · replace hF := it_t hF c3
      refine lv_iload_n hx hb dJ9_floorMod_7cf53_18 rfl (lv_at hl 0 rfl) ?_
      cases hF
      exact W.iret hx hb hr (fun t ht hW => ⟨rfl, by rw [ht]; exact hP, hS.F ht⟩) hS.2.2 dJ9_floorMod_7cf53_19 hlk
    · replace hF := it_f hF c3
      refine lv_iload_n hx hb dJ9_floorMod_7cf53_14 rfl (lv_at hl 0 rfl) ?_
      refine lv_iload_n hx hb dJ9_floorMod_7cf53_15 rfl (lv_at hl 2 rfl) ?_
      refine lv_iadd hx hb dJ9_floorMod_7cf53_16 ?_
      cases hF
      exact W.iret hx hb hr (fun t ht hW => ⟨rfl, by rw [ht]; exact hP, hS.F ht⟩) hS.2.2 dJ9_floorMod_7cf53_17 hlk
/-! X9_reference -/
theorem iw_X9_reference_9 : ∀ w ∈ u_ws RX9 TX9 7, w ∈ wsX9_reference := by decide +kernel
abbrev rm_X9_reference : Room := { frames := 1, cells := 0, slots := 0, locals := 22 }
theorem gk_X9_reference {M : Mm} {a0 : Nat} {a1 : Int32} {r : Nat} (h : f_X9_reference M a0 a1 = some r) : mK M a0 = 10 := by
  unfold f_X9_reference at h
  exact (if_some h).1
set_option maxHeartbeats 4000000 in
set_option maxRecDepth 100000 in
theorem ct_X9_reference (l : Launch) (b0 : Nat) (D : va_G) (cy : Nat → ClassId) (M : Mm) (a0 : Nat) (a1 : Int32) (r : Nat) (hF : f_X9_reference M a0 a1 = some r) : Met l yX9_reference wsX9_reference rm_X9_reference (va_Pc [.ref a0, .int a1] (Pm b0 D cy M)) (Qm b0 D cy M (some (.ref r))) 0 0 (BA b0) := by
  refine ct_of [.ref a0, .int a1] (by decide) rfl ?_
  intro p e s m below meth c CX hP
  obtain ⟨hx, hb, hr, hml, hown0, hts, hlk, hK, hN, hb0, hnm⟩ := id CX
  have hown : s.vm.findClass RX9 = some m.cls := hown0
  have hS : va_S (BA b0) s.heap s.heap [] := va_S.rf
  have hl := lv_entry [.ref a0, .int a1] (n := 2) (Nat.le_of_ble_eq_true rfl)
  generalize (lg_sl [.ref a0, .int a1] ++ List.replicate (2 - (lg_sl [.ref a0, .int a1]).length) Slot.unset).toArray = ls at hl ⊢
  have hl : lv_has ls 2 [(0, .ref a0), (1, .int a1)] := hl
  unfold f_X9_reference at hF
  replace hF := (if_some hF).2
  refine lv_aload_n hx hb dX9_reference_0 rfl (lv_at hl 0 rfl) ?_
  refine xr_getR hx hb hts iw_X9_reference_9 hown hK hP hF 9 5 rfl (by decide) (by decide +kernel) ⟨rfl, rfl, rfl⟩ dX9_reference_1 (fun v1 hF => ?_)
  refine lv_aload_n hx hb dX9_reference_4 rfl (lv_at hl 0 rfl) ?_
  refine xr_getI hx hb hts iw_X9_reference_9 hown hK hP hF 9 6 rfl (by decide) (by decide +kernel) ⟨rfl, rfl, rfl⟩ dX9_reference_5 (fun v2 hF => ?_)
  refine lv_iload_n hx hb dX9_reference_8 rfl (lv_at hl 1 rfl) ?_
  refine lv_iadd hx hb dX9_reference_9 ?_
  refine lv_bipush (v := 8) hx hb dX9_reference_10 (by decide) ?_
  obtain ⟨v4, h3, hF⟩ := ob_some hF
  refine xr_call1 (va_runS (As := [.int (v2 + a1), .int 8]) (rest := [.ref v1]) ⟨hx, hb, hml, hown, hts⟩ (ct_J9_floorMod_7cf53 l b0 D cy M (v2 + a1) 8 v4 h3) (va_cwS 2 hts gX9_reference_J9_floorMod_7cf53 rfl rfl rfl (by decide +kernel) ⟨Nat.le_of_ble_eq_true rfl, Nat.le_of_ble_eq_true rfl⟩) (xp_S hP hK hN hS hb0) rfl rfl hl.1 rfl (lv_room (Nat.le_of_ble_eq_true rfl)) dX9_reference_12 ⟨Nat.le_of_ble_eq_true rfl, Nat.le_of_ble_eq_true rfl⟩) hS (fun H locs hP hS => ?_)
  refine xr_aR hx hb hK hP hF 4 rfl (by decide) dX9_reference_15 (fun v5 hF => ?_)
  cases hF
  exact W.aret hx hb hr (Or.inl ⟨_, rfl⟩) (Or.inr ⟨_, rfl⟩) (fun t ht hW => ⟨rfl, by rw [ht]; exact hP, hS.F ht⟩) hS.2.2 dX9_reference_16 hlk
/-! X9_oldestNumber -/
theorem iw_X9_oldestNumber_3 : ∀ w ∈ u_ws RX3 TX3 2, w ∈ wsX9_oldestNumber := by decide +kernel
theorem iw_X9_oldestNumber_9 : ∀ w ∈ u_ws RX9 TX9 7, w ∈ wsX9_oldestNumber := by decide +kernel
abbrev rm_X9_oldestNumber : Room := { frames := 2, cells := 0, slots := 0, locals := 43 }
theorem gk_X9_oldestNumber {M : Mm} {a0 : Nat} {r : Int32} (h : f_X9_oldestNumber M a0 = some r) : mK M a0 = 10 := by
  unfold f_X9_oldestNumber at h
  exact (if_some h).1
set_option maxHeartbeats 4000000 in
set_option maxRecDepth 100000 in
theorem ct_X9_oldestNumber (l : Launch) (b0 : Nat) (D : va_G) (cy : Nat → ClassId) (M : Mm) (a0 : Nat) (r : Int32) (hF : f_X9_oldestNumber M a0 = some r) : Met l yX9_oldestNumber wsX9_oldestNumber rm_X9_oldestNumber (va_Pc [.ref a0] (Pm b0 D cy M)) (Qm b0 D cy M (some (.int r))) 0 0 (BA b0) := by
  refine ct_of [.ref a0] (by decide) rfl ?_
  intro p e s m below meth c CX hP
  obtain ⟨hx, hb, hr, hml, hown0, hts, hlk, hK, hN, hb0, hnm⟩ := id CX
  have hown : s.vm.findClass RX9 = some m.cls := hown0
  have hS : va_S (BA b0) s.heap s.heap [] := va_S.rf
  have hl := lv_entry [.ref a0] (n := 1) (Nat.le_of_ble_eq_true rfl)
  generalize (lg_sl [.ref a0] ++ List.replicate (1 - (lg_sl [.ref a0]).length) Slot.unset).toArray = ls at hl ⊢
  have hl : lv_has ls 1 [(0, .ref a0)] := hl
  unfold f_X9_oldestNumber at hF
  replace hF := (if_some hF).2
  refine lv_aload_n hx hb dX9_oldestNumber_0 rfl (lv_at hl 0 rfl) ?_
  refine xr_getI hx hb hts iw_X9_oldestNumber_9 hown hK hP hF 9 4 rfl (by decide) (by decide +kernel) ⟨rfl, rfl, rfl⟩ dX9_oldestNumber_1 (fun v1 hF => ?_)
  refine lv_if_ne (tgt := 12) hx hb dX9_oldestNumber_4 (by decide) (fun c2 => ?_) (fun c2 => ?_)
  · replace hF := it_f hF c2
    refine lv_aload_n hx hb dX9_oldestNumber_12 rfl (lv_at hl 0 rfl) ?_
    refine lv_iconst (v := 0) hx hb dX9_oldestNumber_13 (by decide) ?_
    obtain ⟨v4, h3, hF⟩ := ob_some hF
    refine xr_call1 (va_runV (As := [.int 0]) (rest := []) ⟨hx, hb, hml, hown, hts⟩ (ct_X9_reference l b0 D cy M a0 0 v4 h3) (cwV 1 hts gX9_oldestNumber_X9_reference rfl rfl rfl (by decide +kernel) ⟨Nat.le_of_ble_eq_true rfl, Nat.le_of_ble_eq_true rfl⟩) (xp_V hP hK hN hS hb0 9 rfl (gk_X9_reference h3)) rfl rfl hl.1 rfl (lv_room (Nat.le_of_ble_eq_true rfl)) dX9_oldestNumber_14 ⟨Nat.le_of_ble_eq_true rfl, Nat.le_of_ble_eq_true rfl⟩) hS (fun H locs hP hS => ?_)
    refine xr_getI hx hb hts iw_X9_oldestNumber_3 hown hK hP hF 3 1 rfl (by decide) (by decide +kernel) ⟨rfl, rfl, rfl⟩ dX9_oldestNumber_17 (fun v5 hF => ?_)
    cases hF
    exact W.iret hx hb hr (fun t ht hW => ⟨rfl, by rw [ht]; exact hP, hS.F ht⟩) hS.2.2 dX9_oldestNumber_20 hlk
  · replace hF := it_t hF c2
    refine lv_bipush (v := (-2)) hx hb dX9_oldestNumber_7 (by decide) ?_
    refine lv_goto (tgt := 20) hx hb dX9_oldestNumber_9 (by decide) ?_
    cases hF
    exact W.iret hx hb hr (fun t ht hW => ⟨rfl, by rw [ht]; exact hP, hS.F ht⟩) hS.2.2 dX9_oldestNumber_20 hlk
/-! X9_oldestMiss -/
theorem iw_X9_oldestMiss_3 : ∀ w ∈ u_ws RX3 TX3 2, w ∈ wsX9_oldestMiss := by decide +kernel
theorem iw_X9_oldestMiss_9 : ∀ w ∈ u_ws RX9 TX9 7, w ∈ wsX9_oldestMiss := by decide +kernel
abbrev rm_X9_oldestMiss : Room := { frames := 3, cells := 0, slots := 0, locals := 73 }
set_option maxHeartbeats 4000000 in
set_option maxRecDepth 100000 in
theorem nd_X9_oldestMiss_11 {p : Program} {l : Launch} {e : Env} {s : State} {m : MethodId} {args : Array Value} {below : List Frame} {meth : Method} {c : Code} {b0 : Nat} {D : va_G} {cy : Nat → ClassId} {r : Int32} {M : Mm} (CX : Cx yX9_oldestMiss cX9_oldestMiss 10 (some .int) wsX9_oldestMiss b0 D cy p s m args meth c) : ∀ (fu : Nat), ∀ (x0 : Nat) (x1 : Nat) (x2 : Nat) (x3 : Int32) (x4 : Int32) (x5 : Int64) (x7 : Int32) (H : Heap) (locs : List Loc) (ls : Array Slot), f_X9_oldestMiss_L11 M fu x0 x1 x2 x3 x4 x5 x7 = some r → Hp b0 D cy M H → va_S (BA b0) s.heap H locs → lv_has ls 10 [(0, .ref x0), (1, .ref x1), (2, .ref x2), (3, .int x3), (4, .int x4), (5, .long x5), (7, .int x7)] → W p l e rm_X9_oldestMiss s m args below meth c H locs 0 0 (MQ below (Qm b0 D cy M (some (.int r))) args s 0 0 (BA b0)) (F0 m 11 ls []) := by
  obtain ⟨hx, hb, hr, hml, hown0, hts, hlk, hK, hN, hb0, hnm⟩ := id CX
  have hown : s.vm.findClass RX9 = some m.cls := hown0
  intro fu
  induction fu with
  | zero =>
    intro x0 x1 x2 x3 x4 x5 x7 H locs ls hF hP hS hl
    rw [f_X9_oldestMiss_L11] at hF
    cases hF
  | succ fu ih =>
    intro x0 x1 x2 x3 x4 x5 x7 H locs ls hF hP hS hl
    rw [f_X9_oldestMiss_L11] at hF
    refine lv_iload hx hb dX9_oldestMiss_11 (lv_at hl 6 rfl) ?_
    refine lv_aload_n hx hb dX9_oldestMiss_13 rfl (lv_at hl 0 rfl) ?_
    refine xr_getI hx hb hts iw_X9_oldestMiss_9 hown hK hP hF 9 4 rfl (by decide) (by decide +kernel) ⟨rfl, rfl, rfl⟩ dX9_oldestMiss_14 (fun v1 hF => ?_)
    refine lv_icmp_ge (tgt := 71) hx hb dX9_oldestMiss_17 (by decide) (fun c2 => ?_) (fun c2 => ?_)
    · replace hF := it_t hF c2
      refine lv_bipush (v := (-2)) hx hb dX9_oldestMiss_71 (by decide) ?_
      cases hF
      exact W.iret hx hb hr (fun t ht hW => ⟨rfl, by rw [ht]; exact hP, hS.F ht⟩) hS.2.2 dX9_oldestMiss_73 hlk
    · replace hF := it_f hF c2
      refine lv_aload_n hx hb dX9_oldestMiss_20 rfl (lv_at hl 1 rfl) ?_
      refine lv_iload_n hx hb dX9_oldestMiss_21 rfl (lv_at hl 3 rfl) ?_
      refine lv_aload_n hx hb dX9_oldestMiss_22 rfl (lv_at hl 0 rfl) ?_
      refine lv_iload hx hb dX9_oldestMiss_23 (lv_at hl 6 rfl) ?_
      obtain ⟨v4, h3, hF⟩ := ob_some hF
      refine xr_call1 (va_runV (As := [.int x7]) (rest := [.int x3, .ref x1]) ⟨hx, hb, hml, hown, hts⟩ (ct_X9_reference l b0 D cy M x0 x7 v4 h3) (cwV 1 hts gX9_oldestMiss_X9_reference rfl rfl rfl (by decide +kernel) ⟨Nat.le_of_ble_eq_true rfl, Nat.le_of_ble_eq_true rfl⟩) (xp_V hP hK hN hS hb0 9 rfl (gk_X9_reference h3)) rfl rfl hl.1 rfl (lv_room (Nat.le_of_ble_eq_true rfl)) dX9_oldestMiss_25 ⟨Nat.le_of_ble_eq_true rfl, Nat.le_of_ble_eq_true rfl⟩) hS (fun H locs hP hS => ?_)
      refine lv_aload_n hx hb dX9_oldestMiss_28 rfl (lv_at hl 0 rfl) ?_
      refine xr_getR hx hb hts iw_X9_oldestMiss_9 hown hK hP hF 9 0 rfl (by decide) (by decide +kernel) ⟨rfl, rfl, rfl⟩ dX9_oldestMiss_29 (fun v5 hF => ?_)
      refine lv_aload_n hx hb dX9_oldestMiss_32 rfl (lv_at hl 2 rfl) ?_
      obtain ⟨v7, h6, hF⟩ := ob_some hF
      refine xr_call1 (va_runV (As := [.int x3, .ref v4, .ref v5, .ref x2]) (rest := []) ⟨hx, hb, hml, hown, hts⟩ (ct_X6_given l b0 D cy M x1 x3 v4 v5 x2 v7 h6) (cwV 4 hts gX9_oldestMiss_X6_given rfl rfl rfl (by decide +kernel) ⟨Nat.le_of_ble_eq_true rfl, Nat.le_of_ble_eq_true rfl⟩) (xp_V hP hK hN hS hb0 6 rfl (gk_X6_given h6)) rfl rfl hl.1 rfl (lv_room (Nat.le_of_ble_eq_true rfl)) dX9_oldestMiss_33 ⟨Nat.le_of_ble_eq_true rfl, Nat.le_of_ble_eq_true rfl⟩) hS (fun H locs hP hS => ?_)
      refine lv_lstore (lv' := [(8, .long v7), (0, .ref x0), (1, .ref x1), (2, .ref x2), (3, .int x3), (4, .int x4), (5, .long x5), (7, .int x7)]) hx hb dX9_oldestMiss_36 hl (by decide) (by first | rfl | simp [cat_rf]) (fun ls hl => ?_)
      refine lv_aload_n hx hb dX9_oldestMiss_38 rfl (lv_at hl 2 rfl) ?_
      refine lv_iload_n hx hb dX9_oldestMiss_39 rfl (lv_at hl 4 rfl) ?_
      refine lv_lload hx hb dX9_oldestMiss_40 (lv_at hl 0 rfl) ?_
      refine lv_iload hx hb dX9_oldestMiss_42 (lv_at hl 5 rfl) ?_
      refine lv_lload hx hb dX9_oldestMiss_44 (lv_at hl 6 rfl) ?_
      obtain ⟨v9, h8, hF⟩ := ob_some hF
      refine xr_call1 (va_runV (As := [.int x3, .long v7, .int x4, .long x5]) (rest := []) ⟨hx, hb, hml, hown, hts⟩ (ct_X6_found l b0 D cy M x1 x3 v7 x4 x5 v9 h8) (cwV 4 hts gX9_oldestMiss_X6_found rfl rfl rfl (by decide +kernel) ⟨Nat.le_of_ble_eq_true rfl, Nat.le_of_ble_eq_true rfl⟩) (xp_V hP hK hN hS hb0 6 rfl (gk_X6_found h8)) rfl rfl hl.1 rfl (lv_room (Nat.le_of_ble_eq_true rfl)) dX9_oldestMiss_46 ⟨Nat.le_of_ble_eq_true rfl, Nat.le_of_ble_eq_true rfl⟩) hS (fun H locs hP hS => ?_)
      refine lv_lload hx hb dX9_oldestMiss_49 (lv_at hl 6 rfl) ?_
      refine W.lcmp hx hb dX9_oldestMiss_51 ?_
      refine lv_if_eq (tgt := 65) hx hb dX9_oldestMiss_52 (by decide) (fun c10 => ?_) (fun c10 => ?_)
      · replace hF := it_t hF c10
        refine lv_iinc (v := x7 + 1) (lv' := [(7, .int (x7 + 1)), (8, .long v7), (0, .ref x0), (1, .ref x1), (2, .ref x2), (3, .int x3), (4, .int x4), (5, .long x5)]) hx hb dX9_oldestMiss_65 hl (k := 7) rfl (by rfl) (by decide) rfl (fun ls hl => ?_)
        refine lv_goto (tgt := 11) hx hb dX9_oldestMiss_68 (by decide) ?_
        exact ih _ _ _ _ _ _ _ _ _ _ hF hP hS (lv_sub hl [2, 3, 4, 5, 6, 7, 0] rfl)
      · replace hF := it_f hF c10
        refine lv_aload_n hx hb dX9_oldestMiss_55 rfl (lv_at hl 1 rfl) ?_
        refine lv_iload hx hb dX9_oldestMiss_56 (lv_at hl 7 rfl) ?_
        obtain ⟨v12, h11, hF⟩ := ob_some hF
        refine xr_call1 (va_runV (As := [.int x7]) (rest := []) ⟨hx, hb, hml, hown, hts⟩ (ct_X9_reference l b0 D cy M x0 x7 v12 h11) (cwV 1 hts gX9_oldestMiss_X9_reference rfl rfl rfl (by decide +kernel) ⟨Nat.le_of_ble_eq_true rfl, Nat.le_of_ble_eq_true rfl⟩) (xp_V hP hK hN hS hb0 9 rfl (gk_X9_reference h11)) rfl rfl hl.1 rfl (lv_room (Nat.le_of_ble_eq_true rfl)) dX9_oldestMiss_58 ⟨Nat.le_of_ble_eq_true rfl, Nat.le_of_ble_eq_true rfl⟩) hS (fun H locs hP hS => ?_)
        refine xr_getI hx hb hts iw_X9_oldestMiss_3 hown hK hP hF 3 1 rfl (by decide) (by decide +kernel) ⟨rfl, rfl, rfl⟩ dX9_oldestMiss_61 (fun v13 hF => ?_)
        cases hF
        exact W.iret hx hb hr (fun t ht hW => ⟨rfl, by rw [ht]; exact hP, hS.F ht⟩) hS.2.2 dX9_oldestMiss_64 hlk
theorem gk_X9_oldestMiss {M : Mm} {a0 : Nat} {a1 : Nat} {a2 : Nat} {a3 : Int32} {a4 : Int32} {r : Int32} (h : f_X9_oldestMiss M a0 a1 a2 a3 a4 = some r) : mK M a0 = 10 := by
  unfold f_X9_oldestMiss at h
  exact (if_some h).1
set_option maxHeartbeats 4000000 in
set_option maxRecDepth 100000 in
theorem ct_X9_oldestMiss (l : Launch) (b0 : Nat) (D : va_G) (cy : Nat → ClassId) (M : Mm) (a0 : Nat) (a1 : Nat) (a2 : Nat) (a3 : Int32) (a4 : Int32) (r : Int32) (hF : f_X9_oldestMiss M a0 a1 a2 a3 a4 = some r) : Met l yX9_oldestMiss wsX9_oldestMiss rm_X9_oldestMiss (va_Pc [.ref a0, .ref a1, .ref a2, .int a3, .int a4] (Pm b0 D cy M)) (Qm b0 D cy M (some (.int r))) 0 0 (BA b0) := by
  refine ct_of [.ref a0, .ref a1, .ref a2, .int a3, .int a4] (by decide) rfl ?_
  intro p e s m below meth c CX hP
  obtain ⟨hx, hb, hr, hml, hown0, hts, hlk, hK, hN, hb0, hnm⟩ := id CX
  have hown : s.vm.findClass RX9 = some m.cls := hown0
  have hS : va_S (BA b0) s.heap s.heap [] := va_S.rf
  have hl := lv_entry [.ref a0, .ref a1, .ref a2, .int a3, .int a4] (n := 10) (Nat.le_of_ble_eq_true rfl)
  generalize (lg_sl [.ref a0, .ref a1, .ref a2, .int a3, .int a4] ++ List.replicate (10 - (lg_sl [.ref a0, .ref a1, .ref a2, .int a3, .int a4]).length) Slot.unset).toArray = ls at hl ⊢
  have hl : lv_has ls 10 [(0, .ref a0), (1, .ref a1), (2, .ref a2), (3, .int a3), (4, .int a4)] := hl
  unfold f_X9_oldestMiss at hF
  replace hF := (if_some hF).2
  refine lv_aload_n hx hb dX9_oldestMiss_0 rfl (lv_at hl 2 rfl) ?_
  refine xr_getR hx hb hts iw_X9_oldestMiss_3 hown hK hP hF 3 0 rfl (by decide) (by decide +kernel) ⟨rfl, rfl, rfl⟩ dX9_oldestMiss_1 (fun v1 hF => ?_)
  refine lv_iload_n hx hb dX9_oldestMiss_4 rfl (lv_at hl 3 rfl) ?_
  refine xr_aJ hx hb hK hP hF dX9_oldestMiss_5 (fun v2 hF => ?_)
  refine lv_lstore (lv' := [(5, .long v2), (0, .ref a0), (1, .ref a1), (2, .ref a2), (3, .int a3), (4, .int a4)]) hx hb dX9_oldestMiss_6 hl (by decide) (by first | rfl | simp [cat_rf]) (fun ls hl => ?_)
  refine lv_iconst (v := 0) hx hb dX9_oldestMiss_8 (by decide) ?_
  refine lv_istore (lv' := [(7, .int 0), (5, .long v2), (0, .ref a0), (1, .ref a1), (2, .ref a2), (3, .int a3), (4, .int a4)]) hx hb dX9_oldestMiss_9 hl (by decide) (by first | rfl | simp [cat_rf]) (fun ls hl => ?_)
  exact nd_X9_oldestMiss_11 CX _ _ _ _ _ _ _ _ _ _ _ hF hP hS (lv_sub hl [2, 3, 4, 5, 6, 1, 0] rfl)
/-! X9_isGivenByAll -/
abbrev rm_X9_isGivenByAll : Room := { frames := 4, cells := 0, slots := 0, locals := 102 }
theorem gk_X9_isGivenByAll {M : Mm} {a0 : Nat} {a1 : Nat} {a2 : Nat} {a3 : Int32} {r : Int32} (h : f_X9_isGivenByAll M a0 a1 a2 a3 = some r) : mK M a0 = 10 := by
  unfold f_X9_isGivenByAll at h
  exact (if_some h).1
set_option maxHeartbeats 4000000 in
set_option maxRecDepth 100000 in
theorem ct_X9_isGivenByAll (l : Launch) (b0 : Nat) (D : va_G) (cy : Nat → ClassId) (M : Mm) (a0 : Nat) (a1 : Nat) (a2 : Nat) (a3 : Int32) (r : Int32) (hF : f_X9_isGivenByAll M a0 a1 a2 a3 = some r) : Met l yX9_isGivenByAll wsX9_isGivenByAll rm_X9_isGivenByAll (va_Pc [.ref a0, .ref a1, .ref a2, .int a3] (Pm b0 D cy M)) (Qm b0 D cy M (some (.int r))) 0 0 (BA b0) := by
  refine ct_of [.ref a0, .ref a1, .ref a2, .int a3] (by decide) rfl ?_
  intro p e s m below meth c CX hP
  obtain ⟨hx, hb, hr, hml, hown0, hts, hlk, hK, hN, hb0, hnm⟩ := id CX
  have hown : s.vm.findClass RX9 = some m.cls := hown0
  have hS : va_S (BA b0) s.heap s.heap [] := va_S.rf
  have hl := lv_entry [.ref a0, .ref a1, .ref a2, .int a3] (n := 4) (Nat.le_of_ble_eq_true rfl)
  generalize (lg_sl [.ref a0, .ref a1, .ref a2, .int a3] ++ List.replicate (4 - (lg_sl [.ref a0, .ref a1, .ref a2, .int a3]).length) Slot.unset).toArray = ls at hl ⊢
  have hl : lv_has ls 4 [(0, .ref a0), (1, .ref a1), (2, .ref a2), (3, .int a3)] := hl
  unfold f_X9_isGivenByAll at hF
  replace hF := (if_some hF).2
  refine lv_aload_n hx hb dX9_isGivenByAll_0 rfl (lv_at hl 0 rfl) ?_
  refine lv_aload_n hx hb dX9_isGivenByAll_1 rfl (lv_at hl 1 rfl) ?_
  refine lv_aload_n hx hb dX9_isGivenByAll_2 rfl (lv_at hl 2 rfl) ?_
  refine lv_iload_n hx hb dX9_isGivenByAll_3 rfl (lv_at hl 3 rfl) ?_
  refine lv_iconst (v := 0) hx hb dX9_isGivenByAll_4 (by decide) ?_
  obtain ⟨v2, h1, hF⟩ := ob_some hF
  refine xr_call1 (va_runV (As := [.ref a1, .ref a2, .int a3, .int 0]) (rest := []) ⟨hx, hb, hml, hown, hts⟩ (ct_X9_oldestMiss l b0 D cy M a0 a1 a2 a3 0 v2 h1) (cwV 4 hts gX9_isGivenByAll_X9_oldestMiss rfl rfl rfl (by decide +kernel) ⟨Nat.le_of_ble_eq_true rfl, Nat.le_of_ble_eq_true rfl⟩) (xp_V hP hK hN hS hb0 9 rfl (gk_X9_oldestMiss h1)) rfl rfl hl.1 rfl (lv_room (Nat.le_of_ble_eq_true rfl)) dX9_isGivenByAll_5 ⟨Nat.le_of_ble_eq_true rfl, Nat.le_of_ble_eq_true rfl⟩) hS (fun H locs hP hS => ?_)
  refine lv_bipush (v := (-2)) hx hb dX9_isGivenByAll_8 (by decide) ?_
  refine lv_icmp_ne (tgt := 17) hx hb dX9_isGivenByAll_10 (by decide) (fun c3 => ?_) (fun c3 => ?_)
  · replace hF := it_f hF c3
    refine lv_iconst (v := 0) hx hb dX9_isGivenByAll_17 (by decide) ?_
    cases hF
    exact W.zret hx hb hr rfl (fun t ht hW => ⟨rfl, by rw [ht]; exact hP, hS.F ht⟩) hS.2.2 dX9_isGivenByAll_18 hlk
  · replace hF := it_t hF c3
    refine lv_iconst (v := 1) hx hb dX9_isGivenByAll_13 (by decide) ?_
    refine lv_goto (tgt := 18) hx hb dX9_isGivenByAll_14 (by decide) ?_
    cases hF
    exact W.zret hx hb hr rfl (fun t ht hW => ⟨rfl, by rw [ht]; exact hP, hS.F ht⟩) hS.2.2 dX9_isGivenByAll_18 hlk
/-! X9_kindFor -/
theorem iw_X9_kindFor_6 : ∀ w ∈ u_ws RX6 TX6 5, w ∈ wsX9_kindFor := by decide +kernel
theorem iw_X9_kindFor_9 : ∀ w ∈ u_ws RX9 TX9 7, w ∈ wsX9_kindFor := by decide +kernel
abbrev rm_X9_kindFor : Room := { frames := 5, cells := 0, slots := 0, locals := 125 }
set_option maxHeartbeats 4000000 in
set_option maxRecDepth 100000 in
theorem nd_X9_kindFor_78 {p : Program} {l : Launch} {e : Env} {s : State} {m : MethodId} {args : Array Value} {below : List Frame} {meth : Method} {c : Code} {b0 : Nat} {D : va_G} {cy : Nat → ClassId} {r : Int32} {M : Mm} (CX : Cx yX9_kindFor cX9_kindFor 6 (some .int) wsX9_kindFor b0 D cy p s m args meth c) (k23 : Nat → Nat → Nat → Int32 → Option Int32) (hk23 : ∀ (x0 : Nat) (x1 : Nat) (x2 : Nat) (x4 : Int32) (H : Heap) (locs : List Loc) (ls : Array Slot), k23 x0 x1 x2 x4 = some r → Hp b0 D cy M H → va_S (BA b0) s.heap H locs → lv_has ls 6 [(0, .ref x0), (1, .ref x1), (2, .ref x2), (4, .int x4)] → W p l e rm_X9_kindFor s m args below meth c H locs 0 0 (MQ below (Qm b0 D cy M (some (.int r))) args s 0 0 (BA b0)) (F0 m 23 ls [])) : ∀ (x0 : Nat) (x1 : Nat) (x2 : Nat) (x4 : Int32) (H : Heap) (locs : List Loc) (ls : Array Slot), f_X9_kindFor_J78 k23 M x0 x1 x2 x4 = some r → Hp b0 D cy M H → va_S (BA b0) s.heap H locs → lv_has ls 6 [(0, .ref x0), (1, .ref x1), (2, .ref x2), (4, .int x4)] → W p l e rm_X9_kindFor s m args below meth c H locs 0 0 (MQ below (Qm b0 D cy M (some (.int r))) args s 0 0 (BA b0)) (F0 m 78 ls []) := by
  obtain ⟨hx, hb, hr, hml, hown0, hts, hlk, hK, hN, hb0, hnm⟩ := id CX
  have hown : s.vm.findClass RX9 = some m.cls := hown0
  intro x0 x1 x2 x4 H locs ls hF hP hS hl
  unfold f_X9_kindFor_J78 at hF
  refine lv_iinc (v := x4 + 1) (lv' := [(4, .int (x4 + 1)), (0, .ref x0), (1, .ref x1), (2, .ref x2)]) hx hb dX9_kindFor_78 hl (k := 3) rfl (by rfl) (by decide) rfl (fun ls hl => ?_)
  refine lv_goto (tgt := 23) hx hb dX9_kindFor_81 (by decide) ?_
  exact hk23 _ _ _ _ _ _ _ hF hP hS (lv_sub hl [1, 2, 3, 0] rfl)
set_option maxHeartbeats 4000000 in
set_option maxRecDepth 100000 in
theorem nd_X9_kindFor_58 {p : Program} {l : Launch} {e : Env} {s : State} {m : MethodId} {args : Array Value} {below : List Frame} {meth : Method} {c : Code} {b0 : Nat} {D : va_G} {cy : Nat → ClassId} {r : Int32} {M : Mm} (CX : Cx yX9_kindFor cX9_kindFor 6 (some .int) wsX9_kindFor b0 D cy p s m args meth c) (k23 : Nat → Nat → Nat → Int32 → Option Int32) (hk23 : ∀ (x0 : Nat) (x1 : Nat) (x2 : Nat) (x4 : Int32) (H : Heap) (locs : List Loc) (ls : Array Slot), k23 x0 x1 x2 x4 = some r → Hp b0 D cy M H → va_S (BA b0) s.heap H locs → lv_has ls 6 [(0, .ref x0), (1, .ref x1), (2, .ref x2), (4, .int x4)] → W p l e rm_X9_kindFor s m args below meth c H locs 0 0 (MQ below (Qm b0 D cy M (some (.int r))) args s 0 0 (BA b0)) (F0 m 23 ls [])) : ∀ (x0 : Nat) (x1 : Nat) (x2 : Nat) (x4 : Int32) (s0 : Int32) (H : Heap) (locs : List Loc) (ls : Array Slot), f_X9_kindFor_J58 k23 M x0 x1 x2 x4 s0 = some r → Hp b0 D cy M H → va_S (BA b0) s.heap H locs → lv_has ls 6 [(0, .ref x0), (1, .ref x1), (2, .ref x2), (4, .int x4)] → W p l e rm_X9_kindFor s m args below meth c H locs 0 0 (MQ below (Qm b0 D cy M (some (.int r))) args s 0 0 (BA b0)) (F0 m 58 ls [.int s0]) := by
  obtain ⟨hx, hb, hr, hml, hown0, hts, hlk, hK, hN, hb0, hnm⟩ := id CX
  have hown : s.vm.findClass RX9 = some m.cls := hown0
  intro x0 x1 x2 x4 s0 H locs ls hF hP hS hl
  unfold f_X9_kindFor_J58 at hF
  refine lv_istore (lv' := [(5, .int s0), (0, .ref x0), (1, .ref x1), (2, .ref x2), (4, .int x4)]) hx hb dX9_kindFor_58 hl (by decide) (by first | rfl | simp [cat_rf]) (fun ls hl => ?_)
  refine lv_iload hx hb dX9_kindFor_60 (lv_at hl 0 rfl) ?_
  refine lv_if_eq (tgt := 78) hx hb dX9_kindFor_62 (by decide) (fun c1 => ?_) (fun c1 => ?_)
  · replace hF := it_t hF c1
    exact nd_X9_kindFor_78 CX k23 hk23 _ _ _ _ _ _ _ hF hP hS (lv_sub hl [1, 2, 3, 4] rfl)
  · replace hF := it_f hF c1
    refine lv_aload_n hx hb dX9_kindFor_65 rfl (lv_at hl 1 rfl) ?_
    refine lv_aload_n hx hb dX9_kindFor_66 rfl (lv_at hl 2 rfl) ?_
    refine lv_aload_n hx hb dX9_kindFor_67 rfl (lv_at hl 3 rfl) ?_
    refine lv_iload hx hb dX9_kindFor_68 (lv_at hl 4 rfl) ?_
    obtain ⟨v3, h2, hF⟩ := ob_some hF
    refine xr_call1 (va_runV (As := [.ref x1, .ref x2, .int x4]) (rest := []) ⟨hx, hb, hml, hown, hts⟩ (ct_X9_isGivenByAll l b0 D cy M x0 x1 x2 x4 v3 h2) (cwV 3 hts gX9_kindFor_X9_isGivenByAll rfl rfl rfl (by decide +kernel) ⟨Nat.le_of_ble_eq_true rfl, Nat.le_of_ble_eq_true rfl⟩) (xp_V hP hK hN hS hb0 9 rfl (gk_X9_isGivenByAll h2)) rfl rfl hl.1 rfl (lv_room (Nat.le_of_ble_eq_true rfl)) dX9_kindFor_70 ⟨Nat.le_of_ble_eq_true rfl, Nat.le_of_ble_eq_true rfl⟩) hS (fun H locs hP hS => ?_)
    refine lv_if_ne (tgt := 78) hx hb dX9_kindFor_73 (by decide) (fun c4 => ?_) (fun c4 => ?_)
    · replace hF := it_f hF c4
      exact nd_X9_kindFor_78 CX k23 hk23 _ _ _ _ _ _ _ hF hP hS (lv_sub hl [1, 2, 3, 4] rfl)
    · replace hF := it_t hF c4
      refine lv_iconst (v := 1) hx hb dX9_kindFor_76 (by decide) ?_
      cases hF
      exact W.iret hx hb hr (fun t ht hW => ⟨rfl, by rw [ht]; exact hP, hS.F ht⟩) hS.2.2 dX9_kindFor_77 hlk
set_option maxHeartbeats 4000000 in
set_option maxRecDepth 100000 in
theorem nd_X9_kindFor_53 {p : Program} {l : Launch} {e : Env} {s : State} {m : MethodId} {args : Array Value} {below : List Frame} {meth : Method} {c : Code} {b0 : Nat} {D : va_G} {cy : Nat → ClassId} {r : Int32} {M : Mm} (CX : Cx yX9_kindFor cX9_kindFor 6 (some .int) wsX9_kindFor b0 D cy p s m args meth c) (k23 : Nat → Nat → Nat → Int32 → Option Int32) (hk23 : ∀ (x0 : Nat) (x1 : Nat) (x2 : Nat) (x4 : Int32) (H : Heap) (locs : List Loc) (ls : Array Slot), k23 x0 x1 x2 x4 = some r → Hp b0 D cy M H → va_S (BA b0) s.heap H locs → lv_has ls 6 [(0, .ref x0), (1, .ref x1), (2, .ref x2), (4, .int x4)] → W p l e rm_X9_kindFor s m args below meth c H locs 0 0 (MQ below (Qm b0 D cy M (some (.int r))) args s 0 0 (BA b0)) (F0 m 23 ls [])) : ∀ (x0 : Nat) (x1 : Nat) (x2 : Nat) (x4 : Int32) (H : Heap) (locs : List Loc) (ls : Array Slot), f_X9_kindFor_J53 k23 M x0 x1 x2 x4 = some r → Hp b0 D cy M H → va_S (BA b0) s.heap H locs → lv_has ls 6 [(0, .ref x0), (1, .ref x1), (2, .ref x2), (4, .int x4)] → W p l e rm_X9_kindFor s m args below meth c H locs 0 0 (MQ below (Qm b0 D cy M (some (.int r))) args s 0 0 (BA b0)) (F0 m 53 ls []) := by
  obtain ⟨hx, hb, hr, hml, hown0, hts, hlk, hK, hN, hb0, hnm⟩ := id CX
  have hown : s.vm.findClass RX9 = some m.cls := hown0
  intro x0 x1 x2 x4 H locs ls hF hP hS hl
  unfold f_X9_kindFor_J53 at hF
  refine lv_iconst (v := 1) hx hb dX9_kindFor_53 (by decide) ?_
  refine lv_goto (tgt := 58) hx hb dX9_kindFor_54 (by decide) ?_
  exact nd_X9_kindFor_58 CX k23 hk23 _ _ _ _ _ _ _ _ hF hP hS (lv_sub hl [0, 1, 2, 3] rfl)
set_option maxHeartbeats 4000000 in
set_option maxRecDepth 100000 in
theorem nd_X9_kindFor_23 {p : Program} {l : Launch} {e : Env} {s : State} {m : MethodId} {args : Array Value} {below : List Frame} {meth : Method} {c : Code} {b0 : Nat} {D : va_G} {cy : Nat → ClassId} {r : Int32} {M : Mm} (CX : Cx yX9_kindFor cX9_kindFor 6 (some .int) wsX9_kindFor b0 D cy p s m args meth c) : ∀ (fu : Nat), ∀ (x0 : Nat) (x1 : Nat) (x2 : Nat) (x4 : Int32) (H : Heap) (locs : List Loc) (ls : Array Slot), f_X9_kindFor_L23 M fu x0 x1 x2 x4 = some r → Hp b0 D cy M H → va_S (BA b0) s.heap H locs → lv_has ls 6 [(0, .ref x0), (1, .ref x1), (2, .ref x2), (4, .int x4)] → W p l e rm_X9_kindFor s m args below meth c H locs 0 0 (MQ below (Qm b0 D cy M (some (.int r))) args s 0 0 (BA b0)) (F0 m 23 ls []) := by
  obtain ⟨hx, hb, hr, hml, hown0, hts, hlk, hK, hN, hb0, hnm⟩ := id CX
  have hown : s.vm.findClass RX9 = some m.cls := hown0
  intro fu
  induction fu with
  | zero =>
    intro x0 x1 x2 x4 H locs ls hF hP hS hl
    rw [f_X9_kindFor_L23] at hF
    cases hF
  | succ fu ih =>
    intro x0 x1 x2 x4 H locs ls hF hP hS hl
    rw [f_X9_kindFor_L23] at hF
    refine lv_iload hx hb dX9_kindFor_23 (lv_at hl 3 rfl) ?_
    refine lv_aload_n hx hb dX9_kindFor_25 rfl (lv_at hl 1 rfl) ?_
    refine xr_getI hx hb hts iw_X9_kindFor_6 hown hK hP hF 6 4 rfl (by decide) (by decide +kernel) ⟨rfl, rfl, rfl⟩ dX9_kindFor_26 (fun v1 hF => ?_)
    refine lv_icmp_ge (tgt := 84) hx hb dX9_kindFor_29 (by decide) (fun c2 => ?_) (fun c2 => ?_)
    · replace hF := it_t hF c2
      refine lv_iconst (v := 2) hx hb dX9_kindFor_84 (by decide) ?_
      cases hF
      exact W.iret hx hb hr (fun t ht hW => ⟨rfl, by rw [ht]; exact hP, hS.F ht⟩) hS.2.2 dX9_kindFor_85 hlk
    · replace hF := it_f hF c2
      refine lv_aload_n hx hb dX9_kindFor_32 rfl (lv_at hl 1 rfl) ?_
      refine xr_getR hx hb hts iw_X9_kindFor_6 hown hK hP hF 6 0 rfl (by decide) (by decide +kernel) ⟨rfl, rfl, rfl⟩ dX9_kindFor_33 (fun v3 hF => ?_)
      refine lv_iload hx hb dX9_kindFor_36 (lv_at hl 3 rfl) ?_
      refine xr_aI hx hb hK hP hF dX9_kindFor_38 (fun v4 hF => ?_)
      refine lv_if_eq (tgt := 53) hx hb dX9_kindFor_39 (by decide) (fun c5 => ?_) (fun c5 => ?_)
      · replace hF := it_t hF c5
        exact nd_X9_kindFor_53 CX (f_X9_kindFor_L23 M fu) ih _ _ _ _ _ _ _ hF hP hS (lv_sub hl [0, 1, 2, 3] rfl)
      · replace hF := it_f hF c5
        refine lv_aload_n hx hb dX9_kindFor_42 rfl (lv_at hl 1 rfl) ?_
        refine xr_getR hx hb hts iw_X9_kindFor_6 hown hK hP hF 6 0 rfl (by decide) (by decide +kernel) ⟨rfl, rfl, rfl⟩ dX9_kindFor_43 (fun v6 hF => ?_)
        refine lv_iload hx hb dX9_kindFor_46 (lv_at hl 3 rfl) ?_
        refine xr_aI hx hb hK hP hF dX9_kindFor_48 (fun v7 hF => ?_)
        refine lv_iconst (v := 1) hx hb dX9_kindFor_49 (by decide) ?_
        refine lv_icmp_ne (tgt := 57) hx hb dX9_kindFor_50 (by decide) (fun c8 => ?_) (fun c8 => ?_)
        · replace hF := it_f hF c8
          refine lv_iconst (v := 0) hx hb dX9_kindFor_57 (by decide) ?_
          exact nd_X9_kindFor_58 CX (f_X9_kindFor_L23 M fu) ih _ _ _ _ _ _ _ _ hF hP hS (lv_sub hl [0, 1, 2, 3] rfl)
        · replace hF := it_t hF c8
          exact nd_X9_kindFor_53 CX (f_X9_kindFor_L23 M fu) ih _ _ _ _ _ _ _ hF hP hS (lv_sub hl [0, 1, 2, 3] rfl)
theorem gk_X9_kindFor {M : Mm} {a0 : Nat} {a1 : Nat} {a2 : Nat} {a3 : Int32} {r : Int32} (h : f_X9_kindFor M a0 a1 a2 a3 = some r) : mK M a0 = 10 := by
  unfold f_X9_kindFor at h
  exact (if_some h).1
set_option maxHeartbeats 4000000 in
set_option maxRecDepth 100000 in
theorem ct_X9_kindFor (l : Launch) (b0 : Nat) (D : va_G) (cy : Nat → ClassId) (M : Mm) (a0 : Nat) (a1 : Nat) (a2 : Nat) (a3 : Int32) (r : Int32) (hF : f_X9_kindFor M a0 a1 a2 a3 = some r) : Met l yX9_kindFor wsX9_kindFor rm_X9_kindFor (va_Pc [.ref a0, .ref a1, .ref a2, .int a3] (Pm b0 D cy M)) (Qm b0 D cy M (some (.int r))) 0 0 (BA b0) := by
  refine ct_of [.ref a0, .ref a1, .ref a2, .int a3] (by decide) rfl ?_
  intro p e s m below meth c CX hP
  obtain ⟨hx, hb, hr, hml, hown0, hts, hlk, hK, hN, hb0, hnm⟩ := id CX
  have hown : s.vm.findClass RX9 = some m.cls := hown0
  have hS : va_S (BA b0) s.heap s.heap [] := va_S.rf
  have hl := lv_entry [.ref a0, .ref a1, .ref a2, .int a3] (n := 6) (Nat.le_of_ble_eq_true rfl)
  generalize (lg_sl [.ref a0, .ref a1, .ref a2, .int a3] ++ List.replicate (6 - (lg_sl [.ref a0, .ref a1, .ref a2, .int a3]).length) Slot.unset).toArray = ls at hl ⊢
  have hl : lv_has ls 6 [(0, .ref a0), (1, .ref a1), (2, .ref a2), (3, .int a3)] := hl
  unfold f_X9_kindFor at hF
  replace hF := (if_some hF).2
  refine lv_iload_n hx hb dX9_kindFor_0 rfl (lv_at hl 3 rfl) ?_
  refine lv_if_ne (tgt := 18) hx hb dX9_kindFor_1 (by decide) (fun c1 => ?_) (fun c1 => ?_)
  · replace hF := it_f hF c1
    refine lv_iconst (v := 0) hx hb dX9_kindFor_18 (by decide) ?_
    cases hF
    exact W.iret hx hb hr (fun t ht hW => ⟨rfl, by rw [ht]; exact hP, hS.F ht⟩) hS.2.2 dX9_kindFor_19 hlk
  · replace hF := it_t hF c1
    refine lv_aload_n hx hb dX9_kindFor_4 rfl (lv_at hl 0 rfl) ?_
    refine xr_getI hx hb hts iw_X9_kindFor_9 hown hK hP hF 9 3 rfl (by decide) (by decide +kernel) ⟨rfl, rfl, rfl⟩ dX9_kindFor_5 (fun v2 hF => ?_)
    refine lv_if_ne (tgt := 18) hx hb dX9_kindFor_8 (by decide) (fun c3 => ?_) (fun c3 => ?_)
    · replace hF := it_f hF c3
      refine lv_iconst (v := 0) hx hb dX9_kindFor_18 (by decide) ?_
      cases hF
      exact W.iret hx hb hr (fun t ht hW => ⟨rfl, by rw [ht]; exact hP, hS.F ht⟩) hS.2.2 dX9_kindFor_19 hlk
    · replace hF := it_t hF c3
      refine lv_aload_n hx hb dX9_kindFor_11 rfl (lv_at hl 0 rfl) ?_
      refine xr_getI hx hb hts iw_X9_kindFor_9 hown hK hP hF 9 4 rfl (by decide) (by decide +kernel) ⟨rfl, rfl, rfl⟩ dX9_kindFor_12 (fun v4 hF => ?_)
      refine lv_if_ne (tgt := 20) hx hb dX9_kindFor_15 (by decide) (fun c5 => ?_) (fun c5 => ?_)
      · replace hF := it_f hF c5
        refine lv_iconst (v := 0) hx hb dX9_kindFor_20 (by decide) ?_
        refine lv_istore (lv' := [(4, .int 0), (0, .ref a0), (1, .ref a1), (2, .ref a2), (3, .int a3)]) hx hb dX9_kindFor_21 hl (by decide) (by first | rfl | simp [cat_rf]) (fun ls hl => ?_)
        exact nd_X9_kindFor_23 CX _ _ _ _ _ _ _ _ hF hP hS (lv_sub hl [1, 2, 3, 0] rfl)
      · replace hF := it_t hF c5
        refine lv_iconst (v := 0) hx hb dX9_kindFor_18 (by decide) ?_
        cases hF
        exact W.iret hx hb hr (fun t ht hW => ⟨rfl, by rw [ht]; exact hP, hS.F ht⟩) hS.2.2 dX9_kindFor_19 hlk
/-! X9_beginRound -/
theorem iw_X9_beginRound_9 : ∀ w ∈ u_ws RX9 TX9 7, w ∈ wsX9_beginRound := by decide +kernel
abbrev rm_X9_beginRound : Room := { frames := 0, cells := 0, slots := 0, locals := 0 }
theorem gk_X9_beginRound {M : Mm} {a0 : Nat} {r : Mm} (h : f_X9_beginRound M a0 = some r) : mK M a0 = 10 := by
  unfold f_X9_beginRound at h
  exact (if_some h).1
set_option maxHeartbeats 4000000 in
set_option maxRecDepth 100000 in
theorem ct_X9_beginRound (l : Launch) (b0 : Nat) (D : va_G) (cy : Nat → ClassId) (M : Mm) (a0 : Nat) (M1 : Mm) (hF : f_X9_beginRound M a0 = some M1) : Met l yX9_beginRound wsX9_beginRound rm_X9_beginRound (va_Pc [.ref a0] (Pm b0 D cy M)) (Qm b0 D cy M1 none) 0 0 (BA b0) := by
  refine ct_of [.ref a0] (by decide) rfl ?_
  intro p e s m below meth c CX hP
  obtain ⟨hx, hb, hr, hml, hown0, hts, hlk, hK, hN, hb0, hnm⟩ := id CX
  have hown : s.vm.findClass RX9 = some m.cls := hown0
  have hS : va_S (BA b0) s.heap s.heap [] := va_S.rf
  have hl := lv_entry [.ref a0] (n := 1) (Nat.le_of_ble_eq_true rfl)
  generalize (lg_sl [.ref a0] ++ List.replicate (1 - (lg_sl [.ref a0]).length) Slot.unset).toArray = ls at hl ⊢
  have hl : lv_has ls 1 [(0, .ref a0)] := hl
  unfold f_X9_beginRound at hF
  replace hF := (if_some hF).2
  refine lv_aload_n hx hb dX9_beginRound_0 rfl (lv_at hl 0 rfl) ?_
  refine lv_aload_n hx hb dX9_beginRound_1 rfl (lv_at hl 0 rfl) ?_
  refine xr_getI hx hb hts iw_X9_beginRound_9 hown hK hP hF 9 2 rfl (by decide) (by decide +kernel) ⟨rfl, rfl, rfl⟩ dX9_beginRound_2 (fun v1 hF => ?_)
  refine lv_iconst (v := 1) hx hb dX9_beginRound_5 (by decide) ?_
  refine lv_iadd hx hb dX9_beginRound_6 ?_
  refine lv_bipush (v := 16) hx hb dX9_beginRound_7 (by decide) ?_
  refine lv_irem hx hb dX9_beginRound_9 (by decide) ?_
  refine xr_putI hx hb hts iw_X9_beginRound_9 hown hK hP hS hF 9 2 rfl (by decide) tyX9 tyX9_ok nmX9 (by decide +kernel) (Or.inl rfl) rfl ⟨rfl, rfl, rfl⟩ dX9_beginRound_10 (fun M2 H locs hF hP hS => ?_)
  refine lv_aload_n hx hb dX9_beginRound_13 rfl (lv_at hl 0 rfl) ?_
  refine lv_iconst (v := 0) hx hb dX9_beginRound_14 (by decide) ?_
  refine xr_putI hx hb hts iw_X9_beginRound_9 hown hK hP hS hF 9 4 rfl (by decide) tyX9 tyX9_ok nmX9 (by decide +kernel) (Or.inl rfl) rfl ⟨rfl, rfl, rfl⟩ dX9_beginRound_15 (fun M3 H locs hF hP hS => ?_)
  refine lv_aload_n hx hb dX9_beginRound_18 rfl (lv_at hl 0 rfl) ?_
  refine lv_iconst (v := 0) hx hb dX9_beginRound_19 (by decide) ?_
  refine xr_putZ hx hb hts iw_X9_beginRound_9 hown hK hP hS hF 9 3 rfl (by decide) tyX9 tyX9_ok nmX9 (by decide +kernel) (Or.inl rfl) rfl ⟨rfl, rfl, rfl⟩ dX9_beginRound_20 (fun M4 H locs hF hP hS => ?_)
  cases hF
  exact W.vret hx hb hr (fun t ht hW => ⟨rfl, by rw [ht]; exact hP, hS.F ht⟩) hS.2.2 dX9_beginRound_23 hlk
/-! X9_writeWhole -/
theorem iw_X9_writeWhole_3 : ∀ w ∈ u_ws RX3 TX3 2, w ∈ wsX9_writeWhole := by decide +kernel
theorem iw_X9_writeWhole_6 : ∀ w ∈ u_ws RX6 TX6 5, w ∈ wsX9_writeWhole := by decide +kernel
theorem iw_X9_writeWhole_9 : ∀ w ∈ u_ws RX9 TX9 7, w ∈ wsX9_writeWhole := by decide +kernel
abbrev rm_X9_writeWhole : Room := { frames := 2, cells := 0, slots := 0, locals := 45 }
set_option maxHeartbeats 4000000 in
set_option maxRecDepth 100000 in
theorem nd_X9_writeWhole_63 {p : Program} {l : Launch} {e : Env} {s : State} {m : MethodId} {args : Array Value} {below : List Frame} {meth : Method} {c : Code} {b0 : Nat} {D : va_G} {cy : Nat → ClassId} {M1 : Mm} (CX : Cx yX9_writeWhole cX9_writeWhole 5 none wsX9_writeWhole b0 D cy p s m args meth c) (k13 : Mm → Nat → Nat → Nat → Nat → Int32 → Option Mm) (hk13 : ∀ (M : Mm) (x0 : Nat) (x1 : Nat) (x2 : Nat) (x3 : Nat) (x4 : Int32) (H : Heap) (locs : List Loc) (ls : Array Slot), k13 M x0 x1 x2 x3 x4 = some M1 → Hp b0 D cy M H → va_S (BA b0) s.heap H locs → lv_has ls 5 [(0, .ref x0), (1, .ref x1), (2, .ref x2), (3, .ref x3), (4, .int x4)] → W p l e rm_X9_writeWhole s m args below meth c H locs 0 0 (MQ below (Qm b0 D cy M1 none) args s 0 0 (BA b0)) (F0 m 13 ls [])) : ∀ (M : Mm) (x0 : Nat) (x1 : Nat) (x2 : Nat) (x3 : Nat) (x4 : Int32) (H : Heap) (locs : List Loc) (ls : Array Slot), f_X9_writeWhole_J63 k13 M x0 x1 x2 x3 x4 = some M1 → Hp b0 D cy M H → va_S (BA b0) s.heap H locs → lv_has ls 5 [(0, .ref x0), (1, .ref x1), (2, .ref x2), (3, .ref x3), (4, .int x4)] → W p l e rm_X9_writeWhole s m args below meth c H locs 0 0 (MQ below (Qm b0 D cy M1 none) args s 0 0 (BA b0)) (F0 m 63 ls []) := by
  obtain ⟨hx, hb, hr, hml, hown0, hts, hlk, hK, hN, hb0, hnm⟩ := id CX
  have hown : s.vm.findClass RX9 = some m.cls := hown0
  intro M x0 x1 x2 x3 x4 H locs ls hF hP hS hl
  unfold f_X9_writeWhole_J63 at hF
  refine lv_iinc (v := x4 + 1) (lv' := [(4, .int (x4 + 1)), (0, .ref x0), (1, .ref x1), (2, .ref x2), (3, .ref x3)]) hx hb dX9_writeWhole_63 hl (k := 4) rfl (by rfl) (by decide) rfl (fun ls hl => ?_)
  refine lv_goto (tgt := 13) hx hb dX9_writeWhole_66 (by decide) ?_
  exact hk13 _ _ _ _ _ _ _ _ _ hF hP hS (lv_sub hl [1, 2, 3, 4, 0] rfl)
set_option maxHeartbeats 4000000 in
set_option maxRecDepth 100000 in
theorem nd_X9_writeWhole_13 {p : Program} {l : Launch} {e : Env} {s : State} {m : MethodId} {args : Array Value} {below : List Frame} {meth : Method} {c : Code} {b0 : Nat} {D : va_G} {cy : Nat → ClassId} {M1 : Mm} (CX : Cx yX9_writeWhole cX9_writeWhole 5 none wsX9_writeWhole b0 D cy p s m args meth c) : ∀ (fu : Nat), ∀ (M : Mm) (x0 : Nat) (x1 : Nat) (x2 : Nat) (x3 : Nat) (x4 : Int32) (H : Heap) (locs : List Loc) (ls : Array Slot), f_X9_writeWhole_L13 fu M x0 x1 x2 x3 x4 = some M1 → Hp b0 D cy M H → va_S (BA b0) s.heap H locs → lv_has ls 5 [(0, .ref x0), (1, .ref x1), (2, .ref x2), (3, .ref x3), (4, .int x4)] → W p l e rm_X9_writeWhole s m args below meth c H locs 0 0 (MQ below (Qm b0 D cy M1 none) args s 0 0 (BA b0)) (F0 m 13 ls []) := by
  obtain ⟨hx, hb, hr, hml, hown0, hts, hlk, hK, hN, hb0, hnm⟩ := id CX
  have hown : s.vm.findClass RX9 = some m.cls := hown0
  intro fu
  induction fu with
  | zero =>
    intro M x0 x1 x2 x3 x4 H locs ls hF hP hS hl
    rw [f_X9_writeWhole_L13] at hF
    cases hF
  | succ fu ih =>
    intro M x0 x1 x2 x3 x4 H locs ls hF hP hS hl
    rw [f_X9_writeWhole_L13] at hF
    refine lv_iload hx hb dX9_writeWhole_13 (lv_at hl 4 rfl) ?_
    refine lv_aload_n hx hb dX9_writeWhole_15 rfl (lv_at hl 1 rfl) ?_
    refine xr_getI hx hb hts iw_X9_writeWhole_6 hown hK hP hF 6 4 rfl (by decide) (by decide +kernel) ⟨rfl, rfl, rfl⟩ dX9_writeWhole_16 (fun v1 hF => ?_)
    refine lv_icmp_ge (tgt := 69) hx hb dX9_writeWhole_19 (by decide) (fun c2 => ?_) (fun c2 => ?_)
    · replace hF := it_t hF c2
      cases hF
      exact W.vret hx hb hr (fun t ht hW => ⟨rfl, by rw [ht]; exact hP, hS.F ht⟩) hS.2.2 dX9_writeWhole_69 hlk
    · replace hF := it_f hF c2
      refine lv_aload_n hx hb dX9_writeWhole_22 rfl (lv_at hl 3 rfl) ?_
      refine lv_aload_n hx hb dX9_writeWhole_23 rfl (lv_at hl 2 rfl) ?_
      refine xr_getR hx hb hts iw_X9_writeWhole_3 hown hK hP hF 3 0 rfl (by decide) (by decide +kernel) ⟨rfl, rfl, rfl⟩ dX9_writeWhole_24 (fun v3 hF => ?_)
      refine lv_iload hx hb dX9_writeWhole_27 (lv_at hl 4 rfl) ?_
      refine xr_aJ hx hb hK hP hF dX9_writeWhole_29 (fun v4 hF => ?_)
      refine lv_aload_n hx hb dX9_writeWhole_30 rfl (lv_at hl 1 rfl) ?_
      refine xr_getR hx hb hts iw_X9_writeWhole_6 hown hK hP hF 6 1 rfl (by decide) (by decide +kernel) ⟨rfl, rfl, rfl⟩ dX9_writeWhole_31 (fun v5 hF => ?_)
      refine lv_iload hx hb dX9_writeWhole_34 (lv_at hl 4 rfl) ?_
      refine xr_aI hx hb hK hP hF dX9_writeWhole_36 (fun v6 hF => ?_)
      obtain ⟨M8, h7, hF⟩ := ob_some hF
      refine xr_call0 (va_runV (As := [.long v4, .int v6]) (rest := []) ⟨hx, hb, hml, hown, hts⟩ (ct_X5_write l b0 D cy M x3 v4 v6 M8 h7) (cwV 2 hts gX9_writeWhole_X5_write rfl rfl rfl (by decide +kernel) ⟨Nat.le_of_ble_eq_true rfl, Nat.le_of_ble_eq_true rfl⟩) (xp_V hP hK hN hS hb0 5 rfl (gk_X5_write h7)) rfl rfl hl.1 rfl (lv_room (Nat.le_of_ble_eq_true rfl)) dX9_writeWhole_37 ⟨Nat.le_of_ble_eq_true rfl, Nat.le_of_ble_eq_true rfl⟩) hS (fun H locs hP hS => ?_)
      refine lv_aload_n hx hb dX9_writeWhole_40 rfl (lv_at hl 1 rfl) ?_
      refine lv_iload hx hb dX9_writeWhole_41 (lv_at hl 4 rfl) ?_
      obtain ⟨v10, h9, hF⟩ := ob_some hF
      refine xr_call1 (va_runV (As := [.int x4]) (rest := []) ⟨hx, hb, hml, hown, hts⟩ (ct_X6_hasStride l b0 D cy M8 x1 x4 v10 h9) (cwV 1 hts gX9_writeWhole_X6_hasStride rfl rfl rfl (by decide +kernel) ⟨Nat.le_of_ble_eq_true rfl, Nat.le_of_ble_eq_true rfl⟩) (xp_V hP hK hN hS hb0 6 rfl (gk_X6_hasStride h9)) rfl rfl hl.1 rfl (lv_room (Nat.le_of_ble_eq_true rfl)) dX9_writeWhole_43 ⟨Nat.le_of_ble_eq_true rfl, Nat.le_of_ble_eq_true rfl⟩) hS (fun H locs hP hS => ?_)
      refine lv_if_eq (tgt := 63) hx hb dX9_writeWhole_46 (by decide) (fun c11 => ?_) (fun c11 => ?_)
      · replace hF := it_t hF c11
        exact nd_X9_writeWhole_63 CX (f_X9_writeWhole_L13 fu) ih _ _ _ _ _ _ _ _ _ hF hP hS (lv_sub hl [0, 1, 2, 3, 4] rfl)
      · replace hF := it_f hF c11
        refine lv_aload_n hx hb dX9_writeWhole_49 rfl (lv_at hl 3 rfl) ?_
        refine lv_aload_n hx hb dX9_writeWhole_50 rfl (lv_at hl 0 rfl) ?_
        refine xr_getR hx hb hts iw_X9_writeWhole_9 hown hK hP hF 9 0 rfl (by decide) (by decide +kernel) ⟨rfl, rfl, rfl⟩ dX9_writeWhole_51 (fun v12 hF => ?_)
        refine lv_iload hx hb dX9_writeWhole_54 (lv_at hl 4 rfl) ?_
        refine xr_aI hx hb hK hP hF dX9_writeWhole_56 (fun v13 hF => ?_)
        refine lv_i2l hx hb dX9_writeWhole_57 rfl ?_
        refine lv_bipush (v := 8) hx hb dX9_writeWhole_58 (by decide) ?_
        obtain ⟨M15, h14, hF⟩ := ob_some hF
        refine xr_call0 (va_runV (As := [.long v13.toInt64, .int 8]) (rest := []) ⟨hx, hb, hml, hown, hts⟩ (ct_X5_write l b0 D cy M8 x3 v13.toInt64 8 M15 h14) (cwV 2 hts gX9_writeWhole_X5_write rfl rfl rfl (by decide +kernel) ⟨Nat.le_of_ble_eq_true rfl, Nat.le_of_ble_eq_true rfl⟩) (xp_V hP hK hN hS hb0 5 rfl (gk_X5_write h14)) rfl rfl hl.1 rfl (lv_room (Nat.le_of_ble_eq_true rfl)) dX9_writeWhole_60 ⟨Nat.le_of_ble_eq_true rfl, Nat.le_of_ble_eq_true rfl⟩) hS (fun H locs hP hS => ?_)
        exact nd_X9_writeWhole_63 CX (f_X9_writeWhole_L13 fu) ih _ _ _ _ _ _ _ _ _ hF hP hS (lv_sub hl [0, 1, 2, 3, 4] rfl)
theorem gk_X9_writeWhole {M : Mm} {a0 : Nat} {a1 : Nat} {a2 : Nat} {a3 : Nat} {r : Mm} (h : f_X9_writeWhole M a0 a1 a2 a3 = some r) : mK M a0 = 10 := by
  unfold f_X9_writeWhole at h
  exact (if_some h).1
set_option maxHeartbeats 4000000 in
set_option maxRecDepth 100000 in
theorem ct_X9_writeWhole (l : Launch) (b0 : Nat) (D : va_G) (cy : Nat → ClassId) (M : Mm) (a0 : Nat) (a1 : Nat) (a2 : Nat) (a3 : Nat) (M1 : Mm) (hF : f_X9_writeWhole M a0 a1 a2 a3 = some M1) : Met l yX9_writeWhole wsX9_writeWhole rm_X9_writeWhole (va_Pc [.ref a0, .ref a1, .ref a2, .ref a3] (Pm b0 D cy M)) (Qm b0 D cy M1 none) 0 0 (BA b0) := by
  refine ct_of [.ref a0, .ref a1, .ref a2, .ref a3] (by decide) rfl ?_
  intro p e s m below meth c CX hP
  obtain ⟨hx, hb, hr, hml, hown0, hts, hlk, hK, hN, hb0, hnm⟩ := id CX
  have hown : s.vm.findClass RX9 = some m.cls := hown0
  have hS : va_S (BA b0) s.heap s.heap [] := va_S.rf
  have hl := lv_entry [.ref a0, .ref a1, .ref a2, .ref a3] (n := 5) (Nat.le_of_ble_eq_true rfl)
  generalize (lg_sl [.ref a0, .ref a1, .ref a2, .ref a3] ++ List.replicate (5 - (lg_sl [.ref a0, .ref a1, .ref a2, .ref a3]).length) Slot.unset).toArray = ls at hl ⊢
  have hl : lv_has ls 5 [(0, .ref a0), (1, .ref a1), (2, .ref a2), (3, .ref a3)] := hl
  unfold f_X9_writeWhole at hF
  replace hF := (if_some hF).2
  refine lv_aload_n hx hb dX9_writeWhole_0 rfl (lv_at hl 3 rfl) ?_
  refine lv_aload_n hx hb dX9_writeWhole_1 rfl (lv_at hl 0 rfl) ?_
  refine xr_getI hx hb hts iw_X9_writeWhole_9 hown hK hP hF 9 2 rfl (by decide) (by decide +kernel) ⟨rfl, rfl, rfl⟩ dX9_writeWhole_2 (fun v1 hF => ?_)
  refine lv_i2l hx hb dX9_writeWhole_5 rfl ?_
  refine lv_iconst (v := 4) hx hb dX9_writeWhole_6 (by decide) ?_
  obtain ⟨M3, h2, hF⟩ := ob_some hF
  refine xr_call0 (va_runV (As := [.long v1.toInt64, .int 4]) (rest := []) ⟨hx, hb, hml, hown, hts⟩ (ct_X5_write l b0 D cy M a3 v1.toInt64 4 M3 h2) (cwV 2 hts gX9_writeWhole_X5_write rfl rfl rfl (by decide +kernel) ⟨Nat.le_of_ble_eq_true rfl, Nat.le_of_ble_eq_true rfl⟩) (xp_V hP hK hN hS hb0 5 rfl (gk_X5_write h2)) rfl rfl hl.1 rfl (lv_room (Nat.le_of_ble_eq_true rfl)) dX9_writeWhole_7 ⟨Nat.le_of_ble_eq_true rfl, Nat.le_of_ble_eq_true rfl⟩) hS (fun H locs hP hS => ?_)
  refine lv_iconst (v := 0) hx hb dX9_writeWhole_10 (by decide) ?_
  refine lv_istore (lv' := [(4, .int 0), (0, .ref a0), (1, .ref a1), (2, .ref a2), (3, .ref a3)]) hx hb dX9_writeWhole_11 hl (by decide) (by first | rfl | simp [cat_rf]) (fun ls hl => ?_)
  exact nd_X9_writeWhole_13 CX _ _ _ _ _ _ _ _ _ _ hF hP hS (lv_sub hl [1, 2, 3, 4, 0] rfl)
/-! X9_writePart -/
theorem iw_X9_writePart_3 : ∀ w ∈ u_ws RX3 TX3 2, w ∈ wsX9_writePart := by decide +kernel
theorem iw_X9_writePart_6 : ∀ w ∈ u_ws RX6 TX6 5, w ∈ wsX9_writePart := by decide +kernel
theorem iw_X9_writePart_9 : ∀ w ∈ u_ws RX9 TX9 7, w ∈ wsX9_writePart := by decide +kernel
abbrev rm_X9_writePart : Room := { frames := 5, cells := 0, slots := 0, locals := 125 }
set_option maxHeartbeats 4000000 in
set_option maxRecDepth 100000 in
theorem nd_X9_writePart_106 {p : Program} {l : Launch} {e : Env} {s : State} {m : MethodId} {args : Array Value} {below : List Frame} {meth : Method} {c : Code} {b0 : Nat} {D : va_G} {cy : Nat → ClassId} {M1 : Mm} (CX : Cx yX9_writePart cX9_writePart 7 none wsX9_writePart b0 D cy p s m args meth c) (k13 : Mm → Nat → Nat → Nat → Nat → Int32 → Option Mm) (hk13 : ∀ (M : Mm) (x0 : Nat) (x1 : Nat) (x2 : Nat) (x3 : Nat) (x4 : Int32) (H : Heap) (locs : List Loc) (ls : Array Slot), k13 M x0 x1 x2 x3 x4 = some M1 → Hp b0 D cy M H → va_S (BA b0) s.heap H locs → lv_has ls 7 [(0, .ref x0), (1, .ref x1), (2, .ref x2), (3, .ref x3), (4, .int x4)] → W p l e rm_X9_writePart s m args below meth c H locs 0 0 (MQ below (Qm b0 D cy M1 none) args s 0 0 (BA b0)) (F0 m 13 ls [])) : ∀ (M : Mm) (x0 : Nat) (x1 : Nat) (x2 : Nat) (x3 : Nat) (x4 : Int32) (H : Heap) (locs : List Loc) (ls : Array Slot), f_X9_writePart_J106 k13 M x0 x1 x2 x3 x4 = some M1 → Hp b0 D cy M H → va_S (BA b0) s.heap H locs → lv_has ls 7 [(0, .ref x0), (1, .ref x1), (2, .ref x2), (3, .ref x3), (4, .int x4)] → W p l e rm_X9_writePart s m args below meth c H locs 0 0 (MQ below (Qm b0 D cy M1 none) args s 0 0 (BA b0)) (F0 m 106 ls []) := by
  obtain ⟨hx, hb, hr, hml, hown0, hts, hlk, hK, hN, hb0, hnm⟩ := id CX
  have hown : s.vm.findClass RX9 = some m.cls := hown0
  intro M x0 x1 x2 x3 x4 H locs ls hF hP hS hl
  unfold f_X9_writePart_J106 at hF
  refine lv_iinc (v := x4 + 1) (lv' := [(4, .int (x4 + 1)), (0, .ref x0), (1, .ref x1), (2, .ref x2), (3, .ref x3)]) hx hb dX9_writePart_106 hl (k := 4) rfl (by rfl) (by decide) rfl (fun ls hl => ?_)
  refine lv_goto (tgt := 13) hx hb dX9_writePart_109 (by decide) ?_
  exact hk13 _ _ _ _ _ _ _ _ _ hF hP hS (lv_sub hl [1, 2, 3, 4, 0] rfl)
set_option maxHeartbeats 4000000 in
set_option maxRecDepth 100000 in
theorem nd_X9_writePart_83 {p : Program} {l : Launch} {e : Env} {s : State} {m : MethodId} {args : Array Value} {below : List Frame} {meth : Method} {c : Code} {b0 : Nat} {D : va_G} {cy : Nat → ClassId} {M1 : Mm} (CX : Cx yX9_writePart cX9_writePart 7 none wsX9_writePart b0 D cy p s m args meth c) (k13 : Mm → Nat → Nat → Nat → Nat → Int32 → Option Mm) (hk13 : ∀ (M : Mm) (x0 : Nat) (x1 : Nat) (x2 : Nat) (x3 : Nat) (x4 : Int32) (H : Heap) (locs : List Loc) (ls : Array Slot), k13 M x0 x1 x2 x3 x4 = some M1 → Hp b0 D cy M H → va_S (BA b0) s.heap H locs → lv_has ls 7 [(0, .ref x0), (1, .ref x1), (2, .ref x2), (3, .ref x3), (4, .int x4)] → W p l e rm_X9_writePart s m args below meth c H locs 0 0 (MQ below (Qm b0 D cy M1 none) args s 0 0 (BA b0)) (F0 m 13 ls [])) : ∀ (M : Mm) (x0 : Nat) (x1 : Nat) (x2 : Nat) (x3 : Nat) (x4 : Int32) (x6 : Int32) (H : Heap) (locs : List Loc) (ls : Array Slot), f_X9_writePart_J83 k13 M x0 x1 x2 x3 x4 x6 = some M1 → Hp b0 D cy M H → va_S (BA b0) s.heap H locs → lv_has ls 7 [(0, .ref x0), (1, .ref x1), (2, .ref x2), (3, .ref x3), (4, .int x4), (6, .int x6)] → W p l e rm_X9_writePart s m args below meth c H locs 0 0 (MQ below (Qm b0 D cy M1 none) args s 0 0 (BA b0)) (F0 m 83 ls []) := by
  obtain ⟨hx, hb, hr, hml, hown0, hts, hlk, hK, hN, hb0, hnm⟩ := id CX
  have hown : s.vm.findClass RX9 = some m.cls := hown0
  intro M x0 x1 x2 x3 x4 x6 H locs ls hF hP hS hl
  unfold f_X9_writePart_J83 at hF
  refine lv_iload hx hb dX9_writePart_83 (lv_at hl 5 rfl) ?_
  refine lv_if_eq (tgt := 106) hx hb dX9_writePart_85 (by decide) (fun c1 => ?_) (fun c1 => ?_)
  · replace hF := it_t hF c1
    exact nd_X9_writePart_106 CX k13 hk13 _ _ _ _ _ _ _ _ _ hF hP hS (lv_sub hl [0, 1, 2, 3, 4] rfl)
  · replace hF := it_f hF c1
    refine lv_aload_n hx hb dX9_writePart_88 rfl (lv_at hl 3 rfl) ?_
    refine lv_aload_n hx hb dX9_writePart_89 rfl (lv_at hl 2 rfl) ?_
    refine xr_getR hx hb hts iw_X9_writePart_3 hown hK hP hF 3 0 rfl (by decide) (by decide +kernel) ⟨rfl, rfl, rfl⟩ dX9_writePart_90 (fun v2 hF => ?_)
    refine lv_iload hx hb dX9_writePart_93 (lv_at hl 4 rfl) ?_
    refine xr_aJ hx hb hK hP hF dX9_writePart_95 (fun v3 hF => ?_)
    refine lv_aload_n hx hb dX9_writePart_96 rfl (lv_at hl 1 rfl) ?_
    refine xr_getR hx hb hts iw_X9_writePart_6 hown hK hP hF 6 1 rfl (by decide) (by decide +kernel) ⟨rfl, rfl, rfl⟩ dX9_writePart_97 (fun v4 hF => ?_)
    refine lv_iload hx hb dX9_writePart_100 (lv_at hl 4 rfl) ?_
    refine xr_aI hx hb hK hP hF dX9_writePart_102 (fun v5 hF => ?_)
    obtain ⟨M7, h6, hF⟩ := ob_some hF
    refine xr_call0 (va_runV (As := [.long v3, .int v5]) (rest := []) ⟨hx, hb, hml, hown, hts⟩ (ct_X5_write l b0 D cy M x3 v3 v5 M7 h6) (cwV 2 hts gX9_writePart_X5_write rfl rfl rfl (by decide +kernel) ⟨Nat.le_of_ble_eq_true rfl, Nat.le_of_ble_eq_true rfl⟩) (xp_V hP hK hN hS hb0 5 rfl (gk_X5_write h6)) rfl rfl hl.1 rfl (lv_room (Nat.le_of_ble_eq_true rfl)) dX9_writePart_103 ⟨Nat.le_of_ble_eq_true rfl, Nat.le_of_ble_eq_true rfl⟩) hS (fun H locs hP hS => ?_)
    exact nd_X9_writePart_106 CX k13 hk13 _ _ _ _ _ _ _ _ _ hF hP hS (lv_sub hl [0, 1, 2, 3, 4] rfl)
set_option maxHeartbeats 4000000 in
set_option maxRecDepth 100000 in
theorem nd_X9_writePart_79 {p : Program} {l : Launch} {e : Env} {s : State} {m : MethodId} {args : Array Value} {below : List Frame} {meth : Method} {c : Code} {b0 : Nat} {D : va_G} {cy : Nat → ClassId} {M1 : Mm} (CX : Cx yX9_writePart cX9_writePart 7 none wsX9_writePart b0 D cy p s m args meth c) (k13 : Mm → Nat → Nat → Nat → Nat → Int32 → Option Mm) (hk13 : ∀ (M : Mm) (x0 : Nat) (x1 : Nat) (x2 : Nat) (x3 : Nat) (x4 : Int32) (H : Heap) (locs : List Loc) (ls : Array Slot), k13 M x0 x1 x2 x3 x4 = some M1 → Hp b0 D cy M H → va_S (BA b0) s.heap H locs → lv_has ls 7 [(0, .ref x0), (1, .ref x1), (2, .ref x2), (3, .ref x3), (4, .int x4)] → W p l e rm_X9_writePart s m args below meth c H locs 0 0 (MQ below (Qm b0 D cy M1 none) args s 0 0 (BA b0)) (F0 m 13 ls [])) : ∀ (M : Mm) (x0 : Nat) (x1 : Nat) (x2 : Nat) (x3 : Nat) (x4 : Int32) (x6 : Int32) (s0 : Nat) (s1 : Int64) (H : Heap) (locs : List Loc) (ls : Array Slot), f_X9_writePart_J79 k13 M x0 x1 x2 x3 x4 x6 s0 s1 = some M1 → Hp b0 D cy M H → va_S (BA b0) s.heap H locs → lv_has ls 7 [(0, .ref x0), (1, .ref x1), (2, .ref x2), (3, .ref x3), (4, .int x4), (6, .int x6)] → W p l e rm_X9_writePart s m args below meth c H locs 0 0 (MQ below (Qm b0 D cy M1 none) args s 0 0 (BA b0)) (F0 m 79 ls [.long s1, .ref s0]) := by
  obtain ⟨hx, hb, hr, hml, hown0, hts, hlk, hK, hN, hb0, hnm⟩ := id CX
  have hown : s.vm.findClass RX9 = some m.cls := hown0
  intro M x0 x1 x2 x3 x4 x6 s0 s1 H locs ls hF hP hS hl
  unfold f_X9_writePart_J79 at hF
  refine lv_iconst (v := 1) hx hb dX9_writePart_79 (by decide) ?_
  obtain ⟨M2, h1, hF⟩ := ob_some hF
  refine xr_call0 (va_runV (As := [.long s1, .int 1]) (rest := []) ⟨hx, hb, hml, hown, hts⟩ (ct_X5_write l b0 D cy M s0 s1 1 M2 h1) (cwV 2 hts gX9_writePart_X5_write rfl rfl rfl (by decide +kernel) ⟨Nat.le_of_ble_eq_true rfl, Nat.le_of_ble_eq_true rfl⟩) (xp_V hP hK hN hS hb0 5 rfl (gk_X5_write h1)) rfl rfl hl.1 rfl (lv_room (Nat.le_of_ble_eq_true rfl)) dX9_writePart_80 ⟨Nat.le_of_ble_eq_true rfl, Nat.le_of_ble_eq_true rfl⟩) hS (fun H locs hP hS => ?_)
  exact nd_X9_writePart_83 CX k13 hk13 _ _ _ _ _ _ _ _ _ _ hF hP hS (lv_sub hl [0, 1, 2, 3, 4, 5] rfl)
set_option maxHeartbeats 4000000 in
set_option maxRecDepth 100000 in
theorem nd_X9_writePart_61 {p : Program} {l : Launch} {e : Env} {s : State} {m : MethodId} {args : Array Value} {below : List Frame} {meth : Method} {c : Code} {b0 : Nat} {D : va_G} {cy : Nat → ClassId} {M1 : Mm} (CX : Cx yX9_writePart cX9_writePart 7 none wsX9_writePart b0 D cy p s m args meth c) (k13 : Mm → Nat → Nat → Nat → Nat → Int32 → Option Mm) (hk13 : ∀ (M : Mm) (x0 : Nat) (x1 : Nat) (x2 : Nat) (x3 : Nat) (x4 : Int32) (H : Heap) (locs : List Loc) (ls : Array Slot), k13 M x0 x1 x2 x3 x4 = some M1 → Hp b0 D cy M H → va_S (BA b0) s.heap H locs → lv_has ls 7 [(0, .ref x0), (1, .ref x1), (2, .ref x2), (3, .ref x3), (4, .int x4)] → W p l e rm_X9_writePart s m args below meth c H locs 0 0 (MQ below (Qm b0 D cy M1 none) args s 0 0 (BA b0)) (F0 m 13 ls [])) : ∀ (M : Mm) (x0 : Nat) (x1 : Nat) (x2 : Nat) (x3 : Nat) (x4 : Int32) (x5 : Int32) (s0 : Int32) (H : Heap) (locs : List Loc) (ls : Array Slot), f_X9_writePart_J61 k13 M x0 x1 x2 x3 x4 x5 s0 = some M1 → Hp b0 D cy M H → va_S (BA b0) s.heap H locs → lv_has ls 7 [(0, .ref x0), (1, .ref x1), (2, .ref x2), (3, .ref x3), (4, .int x4), (5, .int x5)] → W p l e rm_X9_writePart s m args below meth c H locs 0 0 (MQ below (Qm b0 D cy M1 none) args s 0 0 (BA b0)) (F0 m 61 ls [.int s0]) := by
  obtain ⟨hx, hb, hr, hml, hown0, hts, hlk, hK, hN, hb0, hnm⟩ := id CX
  have hown : s.vm.findClass RX9 = some m.cls := hown0
  intro M x0 x1 x2 x3 x4 x5 s0 H locs ls hF hP hS hl
  unfold f_X9_writePart_J61 at hF
  refine lv_istore (lv' := [(6, .int s0), (0, .ref x0), (1, .ref x1), (2, .ref x2), (3, .ref x3), (4, .int x4), (5, .int x5)]) hx hb dX9_writePart_61 hl (by decide) (by first | rfl | simp [cat_rf]) (fun ls hl => ?_)
  refine lv_iload hx hb dX9_writePart_63 (lv_at hl 6 rfl) ?_
  refine lv_if_ne (tgt := 83) hx hb dX9_writePart_65 (by decide) (fun c1 => ?_) (fun c1 => ?_)
  · replace hF := it_f hF c1
    exact nd_X9_writePart_83 CX k13 hk13 _ _ _ _ _ _ _ _ _ _ hF hP hS (lv_sub hl [1, 2, 3, 4, 5, 0] rfl)
  · replace hF := it_t hF c1
    refine lv_aload_n hx hb dX9_writePart_68 rfl (lv_at hl 4 rfl) ?_
    refine lv_iload hx hb dX9_writePart_69 (lv_at hl 0 rfl) ?_
    refine lv_if_eq (tgt := 78) hx hb dX9_writePart_71 (by decide) (fun c2 => ?_) (fun c2 => ?_)
    · replace hF := it_t hF c2
      refine lv_lconst (v := 0) hx hb dX9_writePart_78 (by decide) ?_
      exact nd_X9_writePart_79 CX k13 hk13 _ _ _ _ _ _ _ _ _ _ _ _ hF hP hS (lv_sub hl [1, 2, 3, 4, 5, 0] rfl)
    · replace hF := it_f hF c2
      refine lv_lconst (v := 1) hx hb dX9_writePart_74 (by decide) ?_
      refine lv_goto (tgt := 79) hx hb dX9_writePart_75 (by decide) ?_
      exact nd_X9_writePart_79 CX k13 hk13 _ _ _ _ _ _ _ _ _ _ _ _ hF hP hS (lv_sub hl [1, 2, 3, 4, 5, 0] rfl)
set_option maxHeartbeats 4000000 in
set_option maxRecDepth 100000 in
theorem nd_X9_writePart_56 {p : Program} {l : Launch} {e : Env} {s : State} {m : MethodId} {args : Array Value} {below : List Frame} {meth : Method} {c : Code} {b0 : Nat} {D : va_G} {cy : Nat → ClassId} {M1 : Mm} (CX : Cx yX9_writePart cX9_writePart 7 none wsX9_writePart b0 D cy p s m args meth c) (k13 : Mm → Nat → Nat → Nat → Nat → Int32 → Option Mm) (hk13 : ∀ (M : Mm) (x0 : Nat) (x1 : Nat) (x2 : Nat) (x3 : Nat) (x4 : Int32) (H : Heap) (locs : List Loc) (ls : Array Slot), k13 M x0 x1 x2 x3 x4 = some M1 → Hp b0 D cy M H → va_S (BA b0) s.heap H locs → lv_has ls 7 [(0, .ref x0), (1, .ref x1), (2, .ref x2), (3, .ref x3), (4, .int x4)] → W p l e rm_X9_writePart s m args below meth c H locs 0 0 (MQ below (Qm b0 D cy M1 none) args s 0 0 (BA b0)) (F0 m 13 ls [])) : ∀ (M : Mm) (x0 : Nat) (x1 : Nat) (x2 : Nat) (x3 : Nat) (x4 : Int32) (x5 : Int32) (H : Heap) (locs : List Loc) (ls : Array Slot), f_X9_writePart_J56 k13 M x0 x1 x2 x3 x4 x5 = some M1 → Hp b0 D cy M H → va_S (BA b0) s.heap H locs → lv_has ls 7 [(0, .ref x0), (1, .ref x1), (2, .ref x2), (3, .ref x3), (4, .int x4), (5, .int x5)] → W p l e rm_X9_writePart s m args below meth c H locs 0 0 (MQ below (Qm b0 D cy M1 none) args s 0 0 (BA b0)) (F0 m 56 ls []) := by
  obtain ⟨hx, hb, hr, hml, hown0, hts, hlk, hK, hN, hb0, hnm⟩ := id CX
  have hown : s.vm.findClass RX9 = some m.cls := hown0
  intro M x0 x1 x2 x3 x4 x5 H locs ls hF hP hS hl
  unfold f_X9_writePart_J56 at hF
  refine lv_iconst (v := 1) hx hb dX9_writePart_56 (by decide) ?_
  refine lv_goto (tgt := 61) hx hb dX9_writePart_57 (by decide) ?_
  exact nd_X9_writePart_61 CX k13 hk13 _ _ _ _ _ _ _ _ _ _ _ hF hP hS (lv_sub hl [0, 1, 2, 3, 4, 5] rfl)
set_option maxHeartbeats 4000000 in
set_option maxRecDepth 100000 in
theorem nd_X9_writePart_38 {p : Program} {l : Launch} {e : Env} {s : State} {m : MethodId} {args : Array Value} {below : List Frame} {meth : Method} {c : Code} {b0 : Nat} {D : va_G} {cy : Nat → ClassId} {M1 : Mm} (CX : Cx yX9_writePart cX9_writePart 7 none wsX9_writePart b0 D cy p s m args meth c) (k13 : Mm → Nat → Nat → Nat → Nat → Int32 → Option Mm) (hk13 : ∀ (M : Mm) (x0 : Nat) (x1 : Nat) (x2 : Nat) (x3 : Nat) (x4 : Int32) (H : Heap) (locs : List Loc) (ls : Array Slot), k13 M x0 x1 x2 x3 x4 = some M1 → Hp b0 D cy M H → va_S (BA b0) s.heap H locs → lv_has ls 7 [(0, .ref x0), (1, .ref x1), (2, .ref x2), (3, .ref x3), (4, .int x4)] → W p l e rm_X9_writePart s m args below meth c H locs 0 0 (MQ below (Qm b0 D cy M1 none) args s 0 0 (BA b0)) (F0 m 13 ls [])) : ∀ (M : Mm) (x0 : Nat) (x1 : Nat) (x2 : Nat) (x3 : Nat) (x4 : Int32) (s0 : Int32) (H : Heap) (locs : List Loc) (ls : Array Slot), f_X9_writePart_J38 k13 M x0 x1 x2 x3 x4 s0 = some M1 → Hp b0 D cy M H → va_S (BA b0) s.heap H locs → lv_has ls 7 [(0, .ref x0), (1, .ref x1), (2, .ref x2), (3, .ref x3), (4, .int x4)] → W p l e rm_X9_writePart s m args below meth c H locs 0 0 (MQ below (Qm b0 D cy M1 none) args s 0 0 (BA b0)) (F0 m 38 ls [.int s0]) := by
  obtain ⟨hx, hb, hr, hml, hown0, hts, hlk, hK, hN, hb0, hnm⟩ := id CX
  have hown : s.vm.findClass RX9 = some m.cls := hown0
  intro M x0 x1 x2 x3 x4 s0 H locs ls hF hP hS hl
  unfold f_X9_writePart_J38 at hF
  refine lv_istore (lv' := [(5, .int s0), (0, .ref x0), (1, .ref x1), (2, .ref x2), (3, .ref x3), (4, .int x4)]) hx hb dX9_writePart_38 hl (by decide) (by first | rfl | simp [cat_rf]) (fun ls hl => ?_)
  refine lv_iload hx hb dX9_writePart_40 (lv_at hl 0 rfl) ?_
  refine lv_if_ne (tgt := 56) hx hb dX9_writePart_42 (by decide) (fun c1 => ?_) (fun c1 => ?_)
  · replace hF := it_f hF c1
    exact nd_X9_writePart_56 CX k13 hk13 _ _ _ _ _ _ _ _ _ _ hF hP hS (lv_sub hl [1, 2, 3, 4, 5, 0] rfl)
  · replace hF := it_t hF c1
    refine lv_aload_n hx hb dX9_writePart_45 rfl (lv_at hl 1 rfl) ?_
    refine lv_aload_n hx hb dX9_writePart_46 rfl (lv_at hl 2 rfl) ?_
    refine lv_aload_n hx hb dX9_writePart_47 rfl (lv_at hl 3 rfl) ?_
    refine lv_iload hx hb dX9_writePart_48 (lv_at hl 5 rfl) ?_
    obtain ⟨v3, h2, hF⟩ := ob_some hF
    refine xr_call1 (va_runV (As := [.ref x1, .ref x2, .int x4]) (rest := []) ⟨hx, hb, hml, hown, hts⟩ (ct_X9_isGivenByAll l b0 D cy M x0 x1 x2 x4 v3 h2) (cwV 3 hts gX9_writePart_X9_isGivenByAll rfl rfl rfl (by decide +kernel) ⟨Nat.le_of_ble_eq_true rfl, Nat.le_of_ble_eq_true rfl⟩) (xp_V hP hK hN hS hb0 9 rfl (gk_X9_isGivenByAll h2)) rfl rfl hl.1 rfl (lv_room (Nat.le_of_ble_eq_true rfl)) dX9_writePart_50 ⟨Nat.le_of_ble_eq_true rfl, Nat.le_of_ble_eq_true rfl⟩) hS (fun H locs hP hS => ?_)
    refine lv_if_ne (tgt := 60) hx hb dX9_writePart_53 (by decide) (fun c4 => ?_) (fun c4 => ?_)
    · replace hF := it_f hF c4
      refine lv_iconst (v := 0) hx hb dX9_writePart_60 (by decide) ?_
      exact nd_X9_writePart_61 CX k13 hk13 _ _ _ _ _ _ _ _ _ _ _ hF hP hS (lv_sub hl [1, 2, 3, 4, 5, 0] rfl)
    · replace hF := it_t hF c4
      exact nd_X9_writePart_56 CX k13 hk13 _ _ _ _ _ _ _ _ _ _ hF hP hS (lv_sub hl [1, 2, 3, 4, 5, 0] rfl)
set_option maxHeartbeats 4000000 in
set_option maxRecDepth 100000 in
theorem nd_X9_writePart_13 {p : Program} {l : Launch} {e : Env} {s : State} {m : MethodId} {args : Array Value} {below : List Frame} {meth : Method} {c : Code} {b0 : Nat} {D : va_G} {cy : Nat → ClassId} {M1 : Mm} (CX : Cx yX9_writePart cX9_writePart 7 none wsX9_writePart b0 D cy p s m args meth c) : ∀ (fu : Nat), ∀ (M : Mm) (x0 : Nat) (x1 : Nat) (x2 : Nat) (x3 : Nat) (x4 : Int32) (H : Heap) (locs : List Loc) (ls : Array Slot), f_X9_writePart_L13 fu M x0 x1 x2 x3 x4 = some M1 → Hp b0 D cy M H → va_S (BA b0) s.heap H locs → lv_has ls 7 [(0, .ref x0), (1, .ref x1), (2, .ref x2), (3, .ref x3), (4, .int x4)] → W p l e rm_X9_writePart s m args below meth c H locs 0 0 (MQ below (Qm b0 D cy M1 none) args s 0 0 (BA b0)) (F0 m 13 ls []) := by
  obtain ⟨hx, hb, hr, hml, hown0, hts, hlk, hK, hN, hb0, hnm⟩ := id CX
  have hown : s.vm.findClass RX9 = some m.cls := hown0
  intro fu
  induction fu with
  | zero =>
    intro M x0 x1 x2 x3 x4 H locs ls hF hP hS hl
    rw [f_X9_writePart_L13] at hF
    cases hF
  | succ fu ih =>
    intro M x0 x1 x2 x3 x4 H locs ls hF hP hS hl
    rw [f_X9_writePart_L13] at hF
    refine lv_iload hx hb dX9_writePart_13 (lv_at hl 4 rfl) ?_
    refine lv_aload_n hx hb dX9_writePart_15 rfl (lv_at hl 1 rfl) ?_
    refine xr_getI hx hb hts iw_X9_writePart_6 hown hK hP hF 6 4 rfl (by decide) (by decide +kernel) ⟨rfl, rfl, rfl⟩ dX9_writePart_16 (fun v1 hF => ?_)
    refine lv_icmp_ge (tgt := 112) hx hb dX9_writePart_19 (by decide) (fun c2 => ?_) (fun c2 => ?_)
    · replace hF := it_t hF c2
      refine lv_aload_n hx hb dX9_writePart_112 rfl (lv_at hl 3 rfl) ?_
      refine lv_aload_n hx hb dX9_writePart_113 rfl (lv_at hl 1 rfl) ?_
      refine lv_aload_n hx hb dX9_writePart_114 rfl (lv_at hl 2 rfl) ?_
      obtain ⟨v4, h3, hF⟩ := ob_some hF
      refine xr_call1 (va_runV (As := [.ref x2]) (rest := [.ref x3]) ⟨hx, hb, hml, hown, hts⟩ (ct_X6_sumOf l b0 D cy M x1 x2 v4 h3) (cwV 1 hts gX9_writePart_X6_sumOf rfl rfl rfl (by decide +kernel) ⟨Nat.le_of_ble_eq_true rfl, Nat.le_of_ble_eq_true rfl⟩) (xp_V hP hK hN hS hb0 6 rfl (gk_X6_sumOf h3)) rfl rfl hl.1 rfl (lv_room (Nat.le_of_ble_eq_true rfl)) dX9_writePart_115 ⟨Nat.le_of_ble_eq_true rfl, Nat.le_of_ble_eq_true rfl⟩) hS (fun H locs hP hS => ?_)
      refine lv_i2l hx hb dX9_writePart_118 rfl ?_
      refine lv_bipush (v := 8) hx hb dX9_writePart_119 (by decide) ?_
      obtain ⟨M6, h5, hF⟩ := ob_some hF
      refine xr_call0 (va_runV (As := [.long v4.toInt64, .int 8]) (rest := []) ⟨hx, hb, hml, hown, hts⟩ (ct_X5_write l b0 D cy M x3 v4.toInt64 8 M6 h5) (cwV 2 hts gX9_writePart_X5_write rfl rfl rfl (by decide +kernel) ⟨Nat.le_of_ble_eq_true rfl, Nat.le_of_ble_eq_true rfl⟩) (xp_V hP hK hN hS hb0 5 rfl (gk_X5_write h5)) rfl rfl hl.1 rfl (lv_room (Nat.le_of_ble_eq_true rfl)) dX9_writePart_121 ⟨Nat.le_of_ble_eq_true rfl, Nat.le_of_ble_eq_true rfl⟩) hS (fun H locs hP hS => ?_)
      cases hF
      exact W.vret hx hb hr (fun t ht hW => ⟨rfl, by rw [ht]; exact hP, hS.F ht⟩) hS.2.2 dX9_writePart_124 hlk
    · replace hF := it_f hF c2
      refine lv_aload_n hx hb dX9_writePart_22 rfl (lv_at hl 1 rfl) ?_
      refine xr_getR hx hb hts iw_X9_writePart_6 hown hK hP hF 6 0 rfl (by decide) (by decide +kernel) ⟨rfl, rfl, rfl⟩ dX9_writePart_23 (fun v7 hF => ?_)
      refine lv_iload hx hb dX9_writePart_26 (lv_at hl 4 rfl) ?_
      refine xr_aI hx hb hK hP hF dX9_writePart_28 (fun v8 hF => ?_)
      refine lv_iconst (v := 4) hx hb dX9_writePart_29 (by decide) ?_
      refine lv_icmp_ne (tgt := 37) hx hb dX9_writePart_30 (by decide) (fun c9 => ?_) (fun c9 => ?_)
      · replace hF := it_f hF c9
        refine lv_iconst (v := 0) hx hb dX9_writePart_37 (by decide) ?_
        exact nd_X9_writePart_38 CX (f_X9_writePart_L13 fu) ih _ _ _ _ _ _ _ _ _ _ hF hP hS (lv_sub hl [0, 1, 2, 3, 4] rfl)
      · replace hF := it_t hF c9
        refine lv_iconst (v := 1) hx hb dX9_writePart_33 (by decide) ?_
        refine lv_goto (tgt := 38) hx hb dX9_writePart_34 (by decide) ?_
        exact nd_X9_writePart_38 CX (f_X9_writePart_L13 fu) ih _ _ _ _ _ _ _ _ _ _ hF hP hS (lv_sub hl [0, 1, 2, 3, 4] rfl)
theorem gk_X9_writePart {M : Mm} {a0 : Nat} {a1 : Nat} {a2 : Nat} {a3 : Nat} {r : Mm} (h : f_X9_writePart M a0 a1 a2 a3 = some r) : mK M a0 = 10 := by
  unfold f_X9_writePart at h
  exact (if_some h).1
set_option maxHeartbeats 4000000 in
set_option maxRecDepth 100000 in
theorem ct_X9_writePart (l : Launch) (b0 : Nat) (D : va_G) (cy : Nat → ClassId) (M : Mm) (a0 : Nat) (a1 : Nat) (a2 : Nat) (a3 : Nat) (M1 : Mm) (hF : f_X9_writePart M a0 a1 a2 a3 = some M1) : Met l yX9_writePart wsX9_writePart rm_X9_writePart (va_Pc [.ref a0, .ref a1, .ref a2, .ref a3] (Pm b0 D cy M)) (Qm b0 D cy M1 none) 0 0 (BA b0) := by
  refine ct_of [.ref a0, .ref a1, .ref a2, .ref a3] (by decide) rfl ?_
  intro p e s m below meth c CX hP
  obtain ⟨hx, hb, hr, hml, hown0, hts, hlk, hK, hN, hb0, hnm⟩ := id CX
  have hown : s.vm.findClass RX9 = some m.cls := hown0
  have hS : va_S (BA b0) s.heap s.heap [] := va_S.rf
  have hl := lv_entry [.ref a0, .ref a1, .ref a2, .ref a3] (n := 7) (Nat.le_of_ble_eq_true rfl)
  generalize (lg_sl [.ref a0, .ref a1, .ref a2, .ref a3] ++ List.replicate (7 - (lg_sl [.ref a0, .ref a1, .ref a2, .ref a3]).length) Slot.unset).toArray = ls at hl ⊢
  have hl : lv_has ls 7 [(0, .ref a0), (1, .ref a1), (2, .ref a2), (3, .ref a3)] := hl
  unfold f_X9_writePart at hF
  replace hF := (if_some hF).2
  refine lv_aload_n hx hb dX9_writePart_0 rfl (lv_at hl 3 rfl) ?_
  refine lv_aload_n hx hb dX9_writePart_1 rfl (lv_at hl 0 rfl) ?_
  refine xr_getI hx hb hts iw_X9_writePart_9 hown hK hP hF 9 2 rfl (by decide) (by decide +kernel) ⟨rfl, rfl, rfl⟩ dX9_writePart_2 (fun v1 hF => ?_)
  refine lv_i2l hx hb dX9_writePart_5 rfl ?_
  refine lv_iconst (v := 4) hx hb dX9_writePart_6 (by decide) ?_
  obtain ⟨M3, h2, hF⟩ := ob_some hF
  refine xr_call0 (va_runV (As := [.long v1.toInt64, .int 4]) (rest := []) ⟨hx, hb, hml, hown, hts⟩ (ct_X5_write l b0 D cy M a3 v1.toInt64 4 M3 h2) (cwV 2 hts gX9_writePart_X5_write rfl rfl rfl (by decide +kernel) ⟨Nat.le_of_ble_eq_true rfl, Nat.le_of_ble_eq_true rfl⟩) (xp_V hP hK hN hS hb0 5 rfl (gk_X5_write h2)) rfl rfl hl.1 rfl (lv_room (Nat.le_of_ble_eq_true rfl)) dX9_writePart_7 ⟨Nat.le_of_ble_eq_true rfl, Nat.le_of_ble_eq_true rfl⟩) hS (fun H locs hP hS => ?_)
  refine lv_iconst (v := 0) hx hb dX9_writePart_10 (by decide) ?_
  refine lv_istore (lv' := [(4, .int 0), (0, .ref a0), (1, .ref a1), (2, .ref a2), (3, .ref a3)]) hx hb dX9_writePart_11 hl (by decide) (by first | rfl | simp [cat_rf]) (fun ls hl => ?_)
  exact nd_X9_writePart_13 CX _ _ _ _ _ _ _ _ _ _ hF hP hS (lv_sub hl [1, 2, 3, 4, 0] rfl)
/-! X9_findLeast -/
theorem iw_X9_findLeast_6 : ∀ w ∈ u_ws RX6 TX6 5, w ∈ wsX9_findLeast := by decide +kernel
theorem iw_X9_findLeast_7 : ∀ w ∈ u_ws RX7 TX7 4, w ∈ wsX9_findLeast := by decide +kernel
abbrev rm_X9_findLeast : Room := { frames := 4, cells := 0, slots := 0, locals := 102 }
set_option maxHeartbeats 4000000 in
set_option maxRecDepth 100000 in
theorem nd_X9_findLeast_7 {p : Program} {l : Launch} {e : Env} {s : State} {m : MethodId} {args : Array Value} {below : List Frame} {meth : Method} {c : Code} {b0 : Nat} {D : va_G} {cy : Nat → ClassId} {M1 : Mm} (CX : Cx yX9_findLeast cX9_findLeast 7 none wsX9_findLeast b0 D cy p s m args meth c) : ∀ (fu : Nat), ∀ (M : Mm) (x0 : Nat) (x1 : Nat) (x2 : Nat) (x3 : Int32) (x4 : Nat) (x5 : Int32) (x6 : Int32) (H : Heap) (locs : List Loc) (ls : Array Slot), f_X9_findLeast_L7 fu M x0 x1 x2 x3 x4 x5 x6 = some M1 → Hp b0 D cy M H → va_S (BA b0) s.heap H locs → lv_has ls 7 [(0, .ref x0), (1, .ref x1), (2, .ref x2), (3, .int x3), (4, .ref x4), (5, .int x5), (6, .int x6)] → W p l e rm_X9_findLeast s m args below meth c H locs 0 0 (MQ below (Qm b0 D cy M1 none) args s 0 0 (BA b0)) (F0 m 7 ls []) := by
  obtain ⟨hx, hb, hr, hml, hown0, hts, hlk, hK, hN, hb0, hnm⟩ := id CX
  have hown : s.vm.findClass RX9 = some m.cls := hown0
  intro fu
  induction fu with
  | zero =>
    intro M x0 x1 x2 x3 x4 x5 x6 H locs ls hF hP hS hl
    rw [f_X9_findLeast_L7] at hF
    cases hF
  | succ fu ih =>
    intro M x0 x1 x2 x3 x4 x5 x6 H locs ls hF hP hS hl
    rw [f_X9_findLeast_L7] at hF
    refine lv_iload hx hb dX9_findLeast_7 (lv_at hl 6 rfl) ?_
    refine lv_aload_n hx hb dX9_findLeast_9 rfl (lv_at hl 1 rfl) ?_
    refine xr_getR hx hb hts iw_X9_findLeast_6 hown hK hP hF 6 1 rfl (by decide) (by decide +kernel) ⟨rfl, rfl, rfl⟩ dX9_findLeast_10 (fun v1 hF => ?_)
    refine lv_iload_n hx hb dX9_findLeast_13 rfl (lv_at hl 3 rfl) ?_
    refine xr_aI hx hb hK hP hF dX9_findLeast_14 (fun v2 hF => ?_)
    refine lv_icmp_gt (tgt := 61) hx hb dX9_findLeast_15 (by decide) (fun c3 => ?_) (fun c3 => ?_)
    · replace hF := it_t hF c3
      cases hF
      exact W.vret hx hb hr (fun t ht hW => ⟨rfl, by rw [ht]; exact hP, hS.F ht⟩) hS.2.2 dX9_findLeast_61 hlk
    · replace hF := it_f hF c3
      refine lv_aload hx hb dX9_findLeast_18 (lv_at hl 4 rfl) ?_
      refine xr_getR hx hb hts iw_X9_findLeast_7 hown hK hP hF 7 0 rfl (by decide) (by decide +kernel) ⟨rfl, rfl, rfl⟩ dX9_findLeast_20 (fun v4 hF => ?_)
      refine lv_iload_n hx hb dX9_findLeast_23 rfl (lv_at hl 3 rfl) ?_
      refine lv_iload hx hb dX9_findLeast_24 (lv_at hl 6 rfl) ?_
      refine xr_wI hx hb hK hP hS hF dX9_findLeast_26 (fun M5 H locs hF hP hS => ?_)
      refine lv_aload hx hb dX9_findLeast_27 (lv_at hl 4 rfl) ?_
      refine xr_getR hx hb hts iw_X9_findLeast_7 hown hK hP hF 7 1 rfl (by decide) (by decide +kernel) ⟨rfl, rfl, rfl⟩ dX9_findLeast_29 (fun v6 hF => ?_)
      refine lv_iload_n hx hb dX9_findLeast_32 rfl (lv_at hl 3 rfl) ?_
      refine lv_iload hx hb dX9_findLeast_33 (lv_at hl 5 rfl) ?_
      refine xr_wI hx hb hK hP hS hF dX9_findLeast_35 (fun M7 H locs hF hP hS => ?_)
      refine lv_aload_n hx hb dX9_findLeast_36 rfl (lv_at hl 0 rfl) ?_
      refine lv_aload_n hx hb dX9_findLeast_37 rfl (lv_at hl 1 rfl) ?_
      refine lv_aload_n hx hb dX9_findLeast_38 rfl (lv_at hl 2 rfl) ?_
      refine lv_iload_n hx hb dX9_findLeast_39 rfl (lv_at hl 3 rfl) ?_
      refine lv_iload hx hb dX9_findLeast_40 (lv_at hl 6 rfl) ?_
      obtain ⟨v9, h8, hF⟩ := ob_some hF
      refine xr_call1 (va_runV (As := [.ref x1, .ref x2, .int x3, .int x6]) (rest := []) ⟨hx, hb, hml, hown, hts⟩ (ct_X9_oldestMiss l b0 D cy M7 x0 x1 x2 x3 x6 v9 h8) (cwV 4 hts gX9_findLeast_X9_oldestMiss rfl rfl rfl (by decide +kernel) ⟨Nat.le_of_ble_eq_true rfl, Nat.le_of_ble_eq_true rfl⟩) (xp_V hP hK hN hS hb0 9 rfl (gk_X9_oldestMiss h8)) rfl rfl hl.1 rfl (lv_room (Nat.le_of_ble_eq_true rfl)) dX9_findLeast_42 ⟨Nat.le_of_ble_eq_true rfl, Nat.le_of_ble_eq_true rfl⟩) hS (fun H locs hP hS => ?_)
      refine lv_istore (lv' := [(5, .int v9), (0, .ref x0), (1, .ref x1), (2, .ref x2), (3, .int x3), (4, .ref x4), (6, .int x6)]) hx hb dX9_findLeast_45 hl (by decide) (by first | rfl | simp [cat_rf]) (fun ls hl => ?_)
      refine lv_iload hx hb dX9_findLeast_47 (lv_at hl 0 rfl) ?_
      refine lv_bipush (v := (-2)) hx hb dX9_findLeast_49 (by decide) ?_
      refine lv_icmp_ne (tgt := 55) hx hb dX9_findLeast_51 (by decide) (fun c10 => ?_) (fun c10 => ?_)
      · replace hF := it_f hF c10
        refine lv_iinc (v := x6 + 1) (lv' := [(6, .int (x6 + 1)), (5, .int v9), (0, .ref x0), (1, .ref x1), (2, .ref x2), (3, .int x3), (4, .ref x4)]) hx hb dX9_findLeast_55 hl (k := 6) rfl (by rfl) (by decide) rfl (fun ls hl => ?_)
        refine lv_goto (tgt := 7) hx hb dX9_findLeast_58 (by decide) ?_
        exact ih _ _ _ _ _ _ _ _ _ _ _ hF hP hS (lv_sub hl [2, 3, 4, 5, 6, 1, 0] rfl)
      · replace hF := it_t hF c10
        cases hF
        exact W.vret hx hb hr (fun t ht hW => ⟨rfl, by rw [ht]; exact hP, hS.F ht⟩) hS.2.2 dX9_findLeast_54 hlk
theorem gk_X9_findLeast {M : Mm} {a0 : Nat} {a1 : Nat} {a2 : Nat} {a3 : Int32} {a4 : Nat} {r : Mm} (h : f_X9_findLeast M a0 a1 a2 a3 a4 = some r) : mK M a0 = 10 := by
  unfold f_X9_findLeast at h
  exact (if_some h).1
set_option maxHeartbeats 4000000 in
set_option maxRecDepth 100000 in
theorem ct_X9_findLeast (l : Launch) (b0 : Nat) (D : va_G) (cy : Nat → ClassId) (M : Mm) (a0 : Nat) (a1 : Nat) (a2 : Nat) (a3 : Int32) (a4 : Nat) (M1 : Mm) (hF : f_X9_findLeast M a0 a1 a2 a3 a4 = some M1) : Met l yX9_findLeast wsX9_findLeast rm_X9_findLeast (va_Pc [.ref a0, .ref a1, .ref a2, .int a3, .ref a4] (Pm b0 D cy M)) (Qm b0 D cy M1 none) 0 0 (BA b0) := by
  refine ct_of [.ref a0, .ref a1, .ref a2, .int a3, .ref a4] (by decide) rfl ?_
  intro p e s m below meth c CX hP
  obtain ⟨hx, hb, hr, hml, hown0, hts, hlk, hK, hN, hb0, hnm⟩ := id CX
  have hown : s.vm.findClass RX9 = some m.cls := hown0
  have hS : va_S (BA b0) s.heap s.heap [] := va_S.rf
  have hl := lv_entry [.ref a0, .ref a1, .ref a2, .int a3, .ref a4] (n := 7) (Nat.le_of_ble_eq_true rfl)
  generalize (lg_sl [.ref a0, .ref a1, .ref a2, .int a3, .ref a4] ++ List.replicate (7 - (lg_sl [.ref a0, .ref a1, .ref a2, .int a3, .ref a4]).length) Slot.unset).toArray = ls at hl ⊢
  have hl : lv_has ls 7 [(0, .ref a0), (1, .ref a1), (2, .ref a2), (3, .int a3), (4, .ref a4)] := hl
  unfold f_X9_findLeast at hF
  replace hF := (if_some hF).2
  refine lv_bipush (v := (-2)) hx hb dX9_findLeast_0 (by decide) ?_
  refine lv_istore (lv' := [(5, .int (-2)), (0, .ref a0), (1, .ref a1), (2, .ref a2), (3, .int a3), (4, .ref a4)]) hx hb dX9_findLeast_2 hl (by decide) (by first | rfl | simp [cat_rf]) (fun ls hl => ?_)
  refine lv_iconst (v := 0) hx hb dX9_findLeast_4 (by decide) ?_
  refine lv_istore (lv' := [(6, .int 0), (5, .int (-2)), (0, .ref a0), (1, .ref a1), (2, .ref a2), (3, .int a3), (4, .ref a4)]) hx hb dX9_findLeast_5 hl (by decide) (by first | rfl | simp [cat_rf]) (fun ls hl => ?_)
  exact nd_X9_findLeast_7 CX _ _ _ _ _ _ _ _ _ _ _ _ hF hP hS (lv_sub hl [2, 3, 4, 5, 6, 1, 0] rfl)
