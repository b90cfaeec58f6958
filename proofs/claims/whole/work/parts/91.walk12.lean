/-! X11_isUnderWay -/
theorem iw_X11_isUnderWay_11 : ∀ w ∈ u_ws RX11 TX11 58, w ∈ wsX11_isUnderWay := by decide +kernel
abbrev rm_X11_isUnderWay : Room := { frames := 0, cells := 0, slots := 0, locals := 0 }
theorem gk_X11_isUnderWay {M : Mm} {a0 : Nat} {a1 : Int32} {r : Int32} (h : f_X11_isUnderWay M a0 a1 = some r) : mK M a0 = 12 := by
  unfold f_X11_isUnderWay at h
  exact (if_some h).1
set_option maxHeartbeats 4000000 in
set_option maxRecDepth 100000 in
theorem ct_X11_isUnderWay (l : Launch) (b0 : Nat) (D : va_G) (cy : Nat → ClassId) (M : Mm) (a0 : Nat) (a1 : Int32) (r : Int32) (hF : f_X11_isUnderWay M a0 a1 = some r) : Met l yX11_isUnderWay wsX11_isUnderWay rm_X11_isUnderWay (va_Pc [.ref a0, .int a1] (Pm b0 D cy M)) (Qm b0 D cy M (some (.int r))) 0 0 (BA b0) := by
  refine ct_of [.ref a0, .int a1] (by decide) rfl ?_
  intro p e s m below meth c CX hP
  obtain ⟨hx, hb, hr, hml, hown0, hts, hlk, hK, hN, hb0, hnm⟩ := id CX
  have hown : s.vm.findClass RX11 = some m.cls := hown0
  have hS : va_S (BA b0) s.heap s.heap [] := va_S.rf
  have hl := lv_entry [.ref a0, .int a1] (n := 2) (Nat.le_of_ble_eq_true rfl)
  generalize (lg_sl [.ref a0, .int a1] ++ List.replicate (2 - (lg_sl [.ref a0, .int a1]).length) Slot.unset).toArray = ls at hl ⊢
  have hl : lv_has ls 2 [(0, .ref a0), (1, .int a1)] := hl
  unfold f_X11_isUnderWay at hF
  replace hF := (if_some hF).2
  refine lv_iload_n hx hb dX11_isUnderWay_0 rfl (lv_at hl 1 rfl) ?_
  refine lv_if_lt (tgt := 25) hx hb dX11_isUnderWay_1 (by decide) (fun c1 => ?_) (fun c1 => ?_)
  · replace hF := it_t hF c1
    refine lv_iconst (v := 0) hx hb dX11_isUnderWay_25 (by decide) ?_
    cases hF
    exact W.zret hx hb hr rfl (fun t ht hW => ⟨rfl, by rw [ht]; exact hP, hS.F ht⟩) hS.2.2 dX11_isUnderWay_26 hlk
  · replace hF := it_f hF c1
    refine lv_iload_n hx hb dX11_isUnderWay_4 rfl (lv_at hl 1 rfl) ?_
    refine lv_aload_n hx hb dX11_isUnderWay_5 rfl (lv_at hl 0 rfl) ?_
    refine xr_getI hx hb hts iw_X11_isUnderWay_11 hown hK hP hF 11 16 rfl (by decide) (by decide +kernel) ⟨rfl, rfl, rfl⟩ dX11_isUnderWay_6 (fun v2 hF => ?_)
    refine lv_icmp_ge (tgt := 25) hx hb dX11_isUnderWay_9 (by decide) (fun c3 => ?_) (fun c3 => ?_)
    · replace hF := it_t hF c3
      refine lv_iconst (v := 0) hx hb dX11_isUnderWay_25 (by decide) ?_
      cases hF
      exact W.zret hx hb hr rfl (fun t ht hW => ⟨rfl, by rw [ht]; exact hP, hS.F ht⟩) hS.2.2 dX11_isUnderWay_26 hlk
    · replace hF := it_f hF c3
      refine lv_aload_n hx hb dX11_isUnderWay_12 rfl (lv_at hl 0 rfl) ?_
      refine xr_getR hx hb hts iw_X11_isUnderWay_11 hown hK hP hF 11 24 rfl (by decide) (by decide +kernel) ⟨rfl, rfl, rfl⟩ dX11_isUnderWay_13 (fun v4 hF => ?_)
      refine lv_iload_n hx hb dX11_isUnderWay_16 rfl (lv_at hl 1 rfl) ?_
      refine xr_aZ hx hb hK hP hF dX11_isUnderWay_17 (fun v5 hF => ?_)
      refine lv_if_ne (tgt := 25) hx hb dX11_isUnderWay_18 (by decide) (fun c6 => ?_) (fun c6 => ?_)
      · replace hF := it_f hF c6
        refine lv_iconst (v := 0) hx hb dX11_isUnderWay_25 (by decide) ?_
        cases hF
        exact W.zret hx hb hr rfl (fun t ht hW => ⟨rfl, by rw [ht]; exact hP, hS.F ht⟩) hS.2.2 dX11_isUnderWay_26 hlk
      · replace hF := it_t hF c6
        refine lv_iconst (v := 1) hx hb dX11_isUnderWay_21 (by decide) ?_
        refine lv_goto (tgt := 26) hx hb dX11_isUnderWay_22 (by decide) ?_
        cases hF
        exact W.zret hx hb hr rfl (fun t ht hW => ⟨rfl, by rw [ht]; exact hP, hS.F ht⟩) hS.2.2 dX11_isUnderWay_26 hlk
/-! X11_deliver -/
theorem iw_X11_deliver_11 : ∀ w ∈ u_ws RX11 TX11 58, w ∈ wsX11_deliver := by decide +kernel
abbrev rm_X11_deliver : Room := { frames := 4, cells := 0, slots := 0, locals := 103 }
theorem gk_X11_deliver {M : Mm} {a0 : Nat} {a1 : Int32} {r : (Mm × Int32)} (h : f_X11_deliver M a0 a1 = some r) : mK M a0 = 12 := by
  unfold f_X11_deliver at h
  exact (if_some h).1
set_option maxHeartbeats 4000000 in
set_option maxRecDepth 100000 in
theorem ct_X11_deliver (l : Launch) (b0 : Nat) (D : va_G) (cy : Nat → ClassId) (M : Mm) (a0 : Nat) (a1 : Int32) (M1 : Mm) (r : Int32) (hF : f_X11_deliver M a0 a1 = some (M1, r)) : Met l yX11_deliver wsX11_deliver rm_X11_deliver (va_Pc [.ref a0, .int a1] (Pm b0 D cy M)) (Qm b0 D cy M1 (some (.int r))) 0 0 (BA b0) := by
  refine ct_of [.ref a0, .int a1] (by decide) rfl ?_
  intro p e s m below meth c CX hP
  obtain ⟨hx, hb, hr, hml, hown0, hts, hlk, hK, hN, hb0, hnm⟩ := id CX
  have hown : s.vm.findClass RX11 = some m.cls := hown0
  have hS : va_S (BA b0) s.heap s.heap [] := va_S.rf
  have hl := lv_entry [.ref a0, .int a1] (n := 5) (Nat.le_of_ble_eq_true rfl)
  generalize (lg_sl [.ref a0, .int a1] ++ List.replicate (5 - (lg_sl [.ref a0, .int a1]).length) Slot.unset).toArray = ls at hl ⊢
  have hl : lv_has ls 5 [(0, .ref a0), (1, .int a1)] := hl
  unfold f_X11_deliver at hF
  replace hF := (if_some hF).2
  refine lv_aload_n hx hb dX11_deliver_0 rfl (lv_at hl 0 rfl) ?_
  refine lv_iconst (v := 0) hx hb dX11_deliver_1 (by decide) ?_
  refine xr_putI hx hb hts iw_X11_deliver_11 hown hK hP hS hF 11 0 rfl (by decide) tyX11 tyX11_ok nmX11 (by decide +kernel) (Or.inl rfl) rfl ⟨rfl, rfl, rfl⟩ dX11_deliver_2 (fun M1 H locs hF hP hS => ?_)
  refine lv_aload_n hx hb dX11_deliver_5 rfl (lv_at hl 0 rfl) ?_
  refine lv_iload_n hx hb dX11_deliver_6 rfl (lv_at hl 1 rfl) ?_
  obtain ⟨v3, h2, hF⟩ := ob_some hF
  refine xr_call1 (va_runV (As := [.int a1]) (rest := []) ⟨hx, hb, hml, hown, hts⟩ (ct_X11_isUnderWay l b0 D cy M1 a0 a1 v3 h2) (cwV 1 hts gX11_deliver_X11_isUnderWay rfl rfl rfl (by decide +kernel) ⟨Nat.le_of_ble_eq_true rfl, Nat.le_of_ble_eq_true rfl⟩) (xp_V hP hK hN hS hb0 11 rfl (gk_X11_isUnderWay h2)) rfl rfl hl.1 rfl (lv_room (Nat.le_of_ble_eq_true rfl)) dX11_deliver_7 ⟨Nat.le_of_ble_eq_true rfl, Nat.le_of_ble_eq_true rfl⟩) hS (fun H locs hP hS => ?_)
  refine lv_if_ne (tgt := 15) hx hb dX11_deliver_10 (by decide) (fun c4 => ?_) (fun c4 => ?_)
  · replace hF := it_f hF c4
    refine lv_aload_n hx hb dX11_deliver_15 rfl (lv_at hl 0 rfl) ?_
    refine lv_iconst (v := 0) hx hb dX11_deliver_16 (by decide) ?_
    refine xr_putI hx hb hts iw_X11_deliver_11 hown hK hP hS hF 11 43 rfl (by decide) tyX11 tyX11_ok nmX11 (by decide +kernel) (Or.inl rfl) rfl ⟨rfl, rfl, rfl⟩ dX11_deliver_17 (fun M5 H locs hF hP hS => ?_)
    refine lv_aload_n hx hb dX11_deliver_20 rfl (lv_at hl 0 rfl) ?_
    refine lv_bipush (v := 8) hx hb dX11_deliver_21 (by decide) ?_
    refine lv_aload_n hx hb dX11_deliver_23 rfl (lv_at hl 0 rfl) ?_
    refine xr_getR hx hb hts iw_X11_deliver_11 hown hK hP hF 11 17 rfl (by decide) (by decide +kernel) ⟨rfl, rfl, rfl⟩ dX11_deliver_24 (fun v6 hF => ?_)
    refine lv_iload_n hx hb dX11_deliver_27 rfl (lv_at hl 1 rfl) ?_
    refine xr_aI hx hb hK hP hF dX11_deliver_28 (fun v7 hF => ?_)
    refine lv_imul hx hb dX11_deliver_29 ?_
    refine xr_putI hx hb hts iw_X11_deliver_11 hown hK hP hS hF 11 44 rfl (by decide) tyX11 tyX11_ok nmX11 (by decide +kernel) (Or.inl rfl) rfl ⟨rfl, rfl, rfl⟩ dX11_deliver_30 (fun M8 H locs hF hP hS => ?_)
    refine lv_aload_n hx hb dX11_deliver_33 rfl (lv_at hl 0 rfl) ?_
    refine lv_iconst (v := 0) hx hb dX11_deliver_34 (by decide) ?_
    refine xr_putZ hx hb hts iw_X11_deliver_11 hown hK hP hS hF 11 45 rfl (by decide) tyX11 tyX11_ok nmX11 (by decide +kernel) (Or.inl rfl) rfl ⟨rfl, rfl, rfl⟩ dX11_deliver_35 (fun M9 H locs hF hP hS => ?_)
    refine lv_aload_n hx hb dX11_deliver_38 rfl (lv_at hl 0 rfl) ?_
    refine lv_iload_n hx hb dX11_deliver_39 rfl (lv_at hl 1 rfl) ?_
    refine lv_iconst (v := 3) hx hb dX11_deliver_40 (by decide) ?_
    obtain ⟨M11, v12, h10, hF⟩ := ob2_some hF
    refine xr_call1 (va_runV (As := [.int a1, .int 3]) (rest := []) ⟨hx, hb, hml, hown, hts⟩ (ct_X11_take l b0 D cy M9 a0 a1 3 M11 v12 h10) (cwV 2 hts gX11_deliver_X11_take rfl rfl rfl (by decide +kernel) ⟨Nat.le_of_ble_eq_true rfl, Nat.le_of_ble_eq_true rfl⟩) (xp_V hP hK hN hS hb0 11 rfl (gk_X11_take h10)) rfl rfl hl.1 rfl (lv_room (Nat.le_of_ble_eq_true rfl)) dX11_deliver_41 ⟨Nat.le_of_ble_eq_true rfl, Nat.le_of_ble_eq_true rfl⟩) hS (fun H locs hP hS => ?_)
    refine lv_l2i hx hb dX11_deliver_44 rfl ?_
    refine lv_istore_n (lv' := [(2, .int v12.toInt32), (0, .ref a0), (1, .int a1)]) hx hb dX11_deliver_45 rfl hl (by decide) (by first | rfl | simp [cat_rf]) (fun ls hl => ?_)
    refine lv_aload_n hx hb dX11_deliver_46 rfl (lv_at hl 1 rfl) ?_
    refine lv_iload_n hx hb dX11_deliver_47 rfl (lv_at hl 2 rfl) ?_
    refine lv_iconst (v := 3) hx hb dX11_deliver_48 (by decide) ?_
    obtain ⟨M14, v15, h13, hF⟩ := ob2_some hF
    refine xr_call1 (va_runV (As := [.int a1, .int 3]) (rest := []) ⟨hx, hb, hml, hown, hts⟩ (ct_X11_take l b0 D cy M11 a0 a1 3 M14 v15 h13) (cwV 2 hts gX11_deliver_X11_take rfl rfl rfl (by decide +kernel) ⟨Nat.le_of_ble_eq_true rfl, Nat.le_of_ble_eq_true rfl⟩) (xp_V hP hK hN hS hb0 11 rfl (gk_X11_take h13)) rfl rfl hl.1 rfl (lv_room (Nat.le_of_ble_eq_true rfl)) dX11_deliver_49 ⟨Nat.le_of_ble_eq_true rfl, Nat.le_of_ble_eq_true rfl⟩) hS (fun H locs hP hS => ?_)
    refine lv_l2i hx hb dX11_deliver_52 rfl ?_
    refine lv_istore_n (lv' := [(3, .int v15.toInt32), (2, .int v12.toInt32), (0, .ref a0), (1, .int a1)]) hx hb dX11_deliver_53 rfl hl (by decide) (by first | rfl | simp [cat_rf]) (fun ls hl => ?_)
    refine lv_aload_n hx hb dX11_deliver_54 rfl (lv_at hl 2 rfl) ?_
    refine lv_iload_n hx hb dX11_deliver_55 rfl (lv_at hl 3 rfl) ?_
    refine lv_bipush (v := 16) hx hb dX11_deliver_56 (by decide) ?_
    obtain ⟨M17, v18, h16, hF⟩ := ob2_some hF
    refine xr_call1 (va_runV (As := [.int a1, .int 16]) (rest := []) ⟨hx, hb, hml, hown, hts⟩ (ct_X11_take l b0 D cy M14 a0 a1 16 M17 v18 h16) (cwV 2 hts gX11_deliver_X11_take rfl rfl rfl (by decide +kernel) ⟨Nat.le_of_ble_eq_true rfl, Nat.le_of_ble_eq_true rfl⟩) (xp_V hP hK hN hS hb0 11 rfl (gk_X11_take h16)) rfl rfl hl.1 rfl (lv_room (Nat.le_of_ble_eq_true rfl)) dX11_deliver_58 ⟨Nat.le_of_ble_eq_true rfl, Nat.le_of_ble_eq_true rfl⟩) hS (fun H locs hP hS => ?_)
    refine lv_l2i hx hb dX11_deliver_61 rfl ?_
    refine lv_istore (lv' := [(4, .int v18.toInt32), (3, .int v15.toInt32), (2, .int v12.toInt32), (0, .ref a0), (1, .int a1)]) hx hb dX11_deliver_62 hl (by decide) (by first | rfl | simp [cat_rf]) (fun ls hl => ?_)
    refine lv_aload_n hx hb dX11_deliver_64 rfl (lv_at hl 3 rfl) ?_
    refine xr_getR hx hb hts iw_X11_deliver_11 hown hK hP hF 11 23 rfl (by decide) (by decide +kernel) ⟨rfl, rfl, rfl⟩ dX11_deliver_65 (fun v19 hF => ?_)
    refine lv_iload_n hx hb dX11_deliver_68 rfl (lv_at hl 4 rfl) ?_
    refine lv_iload_n hx hb dX11_deliver_69 rfl (lv_at hl 2 rfl) ?_
    refine lv_iconst (v := 5) hx hb dX11_deliver_70 (by decide) ?_
    refine lv_icmp_le (tgt := 78) hx hb dX11_deliver_71 (by decide) (fun c20 => ?_) (fun c20 => ?_)
    · replace hF := it_t hF c20
      refine lv_iload_n hx hb dX11_deliver_78 rfl (lv_at hl 2 rfl) ?_
      refine lv_iconst (v := 2) hx hb dX11_deliver_79 (by decide) ?_
      refine lv_icmp_le (tgt := 95) hx hb dX11_deliver_80 (by decide) (fun c21 => ?_) (fun c21 => ?_)
      · replace hF := it_t hF c21
        refine lv_aload_n hx hb dX11_deliver_95 rfl (lv_at hl 3 rfl) ?_
        refine lv_iload_n hx hb dX11_deliver_96 rfl (lv_at hl 4 rfl) ?_
        refine lv_iload_n hx hb dX11_deliver_97 rfl (lv_at hl 2 rfl) ?_
        refine lv_iload_n hx hb dX11_deliver_98 rfl (lv_at hl 1 rfl) ?_
        refine lv_iload hx hb dX11_deliver_99 (lv_at hl 0 rfl) ?_
        obtain ⟨M23, v24, h22, hF⟩ := ob2_some hF
        refine xr_call1 (va_runV (As := [.int a1, .int v12.toInt32, .int v15.toInt32, .int v18.toInt32]) (rest := [.int a1, .ref v19]) ⟨hx, hb, hml, hown, hts⟩ (ct_X11_opened l b0 D cy M17 a0 a1 v12.toInt32 v15.toInt32 v18.toInt32 M23 v24 h22) (cwV 4 hts gX11_deliver_X11_opened rfl rfl rfl (by decide +kernel) ⟨Nat.le_of_ble_eq_true rfl, Nat.le_of_ble_eq_true rfl⟩) (xp_V hP hK hN hS hb0 11 rfl (gk_X11_opened h22)) rfl rfl hl.1 rfl (lv_room (Nat.le_of_ble_eq_true rfl)) dX11_deliver_101 ⟨Nat.le_of_ble_eq_true rfl, Nat.le_of_ble_eq_true rfl⟩) hS (fun H locs hP hS => ?_)
        refine xr_wI hx hb hK hP hS hF dX11_deliver_104 (fun M25 H locs hF hP hS => ?_)
        refine lv_aload_n hx hb dX11_deliver_105 rfl (lv_at hl 3 rfl) ?_
        refine xr_getR hx hb hts iw_X11_deliver_11 hown hK hP hF 11 23 rfl (by decide) (by decide +kernel) ⟨rfl, rfl, rfl⟩ dX11_deliver_106 (fun v26 hF => ?_)
        refine lv_iload_n hx hb dX11_deliver_109 rfl (lv_at hl 4 rfl) ?_
        refine xr_aI hx hb hK hP hF dX11_deliver_110 (fun v27 hF => ?_)
        cases hF
        exact W.iret hx hb hr (fun t ht hW => ⟨rfl, by rw [ht]; exact hP, hS.F ht⟩) hS.2.2 dX11_deliver_111 hlk
      · replace hF := it_f hF c21
        refine lv_aload_n hx hb dX11_deliver_83 rfl (lv_at hl 3 rfl) ?_
        refine lv_iload_n hx hb dX11_deliver_84 rfl (lv_at hl 4 rfl) ?_
        refine lv_iload_n hx hb dX11_deliver_85 rfl (lv_at hl 2 rfl) ?_
        refine lv_iload_n hx hb dX11_deliver_86 rfl (lv_at hl 1 rfl) ?_
        refine lv_iload hx hb dX11_deliver_87 (lv_at hl 0 rfl) ?_
        obtain ⟨M29, v30, h28, hF⟩ := ob2_some hF
        refine xr_call1 (va_runV (As := [.int a1, .int v12.toInt32, .int v15.toInt32, .int v18.toInt32]) (rest := [.int a1, .ref v19]) ⟨hx, hb, hml, hown, hts⟩ (ct_X11_answered l b0 D cy M17 a0 a1 v12.toInt32 v15.toInt32 v18.toInt32 M29 v30 h28) (cwV 4 hts gX11_deliver_X11_answered rfl rfl rfl (by decide +kernel) ⟨Nat.le_of_ble_eq_true rfl, Nat.le_of_ble_eq_true rfl⟩) (xp_V hP hK hN hS hb0 11 rfl (gk_X11_answered h28)) rfl rfl hl.1 rfl (lv_room (Nat.le_of_ble_eq_true rfl)) dX11_deliver_89 ⟨Nat.le_of_ble_eq_true rfl, Nat.le_of_ble_eq_true rfl⟩) hS (fun H locs hP hS => ?_)
        refine lv_goto (tgt := 104) hx hb dX11_deliver_92 (by decide) ?_
        refine xr_wI hx hb hK hP hS hF dX11_deliver_104 (fun M31 H locs hF hP hS => ?_)
        refine lv_aload_n hx hb dX11_deliver_105 rfl (lv_at hl 3 rfl) ?_
        refine xr_getR hx hb hts iw_X11_deliver_11 hown hK hP hF 11 23 rfl (by decide) (by decide +kernel) ⟨rfl, rfl, rfl⟩ dX11_deliver_106 (fun v32 hF => ?_)
        refine lv_iload_n hx hb dX11_deliver_109 rfl (lv_at hl 4 rfl) ?_
        refine xr_aI hx hb hK hP hF dX11_deliver_110 (fun v33 hF => ?_)
        cases hF
        exact W.iret hx hb hr (fun t ht hW => ⟨rfl, by rw [ht]; exact hP, hS.F ht⟩) hS.2.2 dX11_deliver_111 hlk
    · replace hF := it_f hF c20
      refine lv_iconst (v := 5) hx hb dX11_deliver_74 (by decide) ?_
      refine lv_goto (tgt := 104) hx hb dX11_deliver_75 (by decide) ?_
      refine xr_wI hx hb hK hP hS hF dX11_deliver_104 (fun M34 H locs hF hP hS => ?_)
      refine lv_aload_n hx hb dX11_deliver_105 rfl (lv_at hl 3 rfl) ?_
      refine xr_getR hx hb hts iw_X11_deliver_11 hown hK hP hF 11 23 rfl (by decide) (by decide +kernel) ⟨rfl, rfl, rfl⟩ dX11_deliver_106 (fun v35 hF => ?_)
      refine lv_iload_n hx hb dX11_deliver_109 rfl (lv_at hl 4 rfl) ?_
      refine xr_aI hx hb hK hP hF dX11_deliver_110 (fun v36 hF => ?_)
      cases hF
      exact W.iret hx hb hr (fun t ht hW => ⟨rfl, by rw [ht]; exact hP, hS.F ht⟩) hS.2.2 dX11_deliver_111 hlk
  · replace hF := it_t hF c4
    refine lv_iconst (v := (-1)) hx hb dX11_deliver_13 (by decide) ?_
    cases hF
    exact W.iret hx hb hr (fun t ht hW => ⟨rfl, by rw [ht]; exact hP, hS.F ht⟩) hS.2.2 dX11_deliver_14 hlk
/-! X11_lose -/
theorem iw_X11_lose_11 : ∀ w ∈ u_ws RX11 TX11 58, w ∈ wsX11_lose := by decide +kernel
abbrev rm_X11_lose : Room := { frames := 1, cells := 0, slots := 0, locals := 21 }
theorem gk_X11_lose {M : Mm} {a0 : Nat} {a1 : Int32} {r : (Mm × Int32)} (h : f_X11_lose M a0 a1 = some r) : mK M a0 = 12 := by
  unfold f_X11_lose at h
  exact (if_some h).1
set_option maxHeartbeats 4000000 in
set_option maxRecDepth 100000 in
theorem ct_X11_lose (l : Launch) (b0 : Nat) (D : va_G) (cy : Nat → ClassId) (M : Mm) (a0 : Nat) (a1 : Int32) (M1 : Mm) (r : Int32) (hF : f_X11_lose M a0 a1 = some (M1, r)) : Met l yX11_lose wsX11_lose rm_X11_lose (va_Pc [.ref a0, .int a1] (Pm b0 D cy M)) (Qm b0 D cy M1 (some (.int r))) 0 0 (BA b0) := by
  refine ct_of [.ref a0, .int a1] (by decide) rfl ?_
  intro p e s m below meth c CX hP
  obtain ⟨hx, hb, hr, hml, hown0, hts, hlk, hK, hN, hb0, hnm⟩ := id CX
  have hown : s.vm.findClass RX11 = some m.cls := hown0
  have hS : va_S (BA b0) s.heap s.heap [] := va_S.rf
  have hl := lv_entry [.ref a0, .int a1] (n := 2) (Nat.le_of_ble_eq_true rfl)
  generalize (lg_sl [.ref a0, .int a1] ++ List.replicate (2 - (lg_sl [.ref a0, .int a1]).length) Slot.unset).toArray = ls at hl ⊢
  have hl : lv_has ls 2 [(0, .ref a0), (1, .int a1)] := hl
  unfold f_X11_lose at hF
  replace hF := (if_some hF).2
  refine lv_aload_n hx hb dX11_lose_0 rfl (lv_at hl 0 rfl) ?_
  refine lv_iconst (v := 0) hx hb dX11_lose_1 (by decide) ?_
  refine xr_putI hx hb hts iw_X11_lose_11 hown hK hP hS hF 11 0 rfl (by decide) tyX11 tyX11_ok nmX11 (by decide +kernel) (Or.inl rfl) rfl ⟨rfl, rfl, rfl⟩ dX11_lose_2 (fun M1 H locs hF hP hS => ?_)
  refine lv_aload_n hx hb dX11_lose_5 rfl (lv_at hl 0 rfl) ?_
  refine lv_iload_n hx hb dX11_lose_6 rfl (lv_at hl 1 rfl) ?_
  obtain ⟨v3, h2, hF⟩ := ob_some hF
  refine xr_call1 (va_runV (As := [.int a1]) (rest := []) ⟨hx, hb, hml, hown, hts⟩ (ct_X11_isUnderWay l b0 D cy M1 a0 a1 v3 h2) (cwV 1 hts gX11_lose_X11_isUnderWay rfl rfl rfl (by decide +kernel) ⟨Nat.le_of_ble_eq_true rfl, Nat.le_of_ble_eq_true rfl⟩) (xp_V hP hK hN hS hb0 11 rfl (gk_X11_isUnderWay h2)) rfl rfl hl.1 rfl (lv_room (Nat.le_of_ble_eq_true rfl)) dX11_lose_7 ⟨Nat.le_of_ble_eq_true rfl, Nat.le_of_ble_eq_true rfl⟩) hS (fun H locs hP hS => ?_)
  refine lv_if_ne (tgt := 15) hx hb dX11_lose_10 (by decide) (fun c4 => ?_) (fun c4 => ?_)
  · replace hF := it_f hF c4
    refine lv_aload_n hx hb dX11_lose_15 rfl (lv_at hl 0 rfl) ?_
    refine xr_getR hx hb hts iw_X11_lose_11 hown hK hP hF 11 24 rfl (by decide) (by decide +kernel) ⟨rfl, rfl, rfl⟩ dX11_lose_16 (fun v5 hF => ?_)
    refine lv_iload_n hx hb dX11_lose_19 rfl (lv_at hl 1 rfl) ?_
    refine lv_iconst (v := 1) hx hb dX11_lose_20 (by decide) ?_
    refine xr_wZ hx hb hK hP hS hF dX11_lose_21 (fun M6 H locs hF hP hS => ?_)
    refine lv_iconst (v := 0) hx hb dX11_lose_22 (by decide) ?_
    cases hF
    exact W.iret hx hb hr (fun t ht hW => ⟨rfl, by rw [ht]; exact hP, hS.F ht⟩) hS.2.2 dX11_lose_23 hlk
  · replace hF := it_t hF c4
    refine lv_iconst (v := (-1)) hx hb dX11_lose_13 (by decide) ?_
    cases hF
    exact W.iret hx hb hr (fun t ht hW => ⟨rfl, by rw [ht]; exact hP, hS.F ht⟩) hS.2.2 dX11_lose_14 hlk
/-! X11_twice -/
theorem iw_X11_twice_11 : ∀ w ∈ u_ws RX11 TX11 58, w ∈ wsX11_twice := by decide +kernel
abbrev rm_X11_twice : Room := { frames := 1, cells := 0, slots := 0, locals := 21 }
set_option maxHeartbeats 4000000 in
set_option maxRecDepth 100000 in
theorem nd_X11_twice_116 {p : Program} {l : Launch} {e : Env} {s : State} {m : MethodId} {args : Array Value} {below : List Frame} {meth : Method} {c : Code} {b0 : Nat} {D : va_G} {cy : Nat → ClassId} {M1 : Mm} {r : Int32} (CX : Cx yX11_twice cX11_twice 4 (some .int) wsX11_twice b0 D cy p s m args meth c) : ∀ (fu : Nat), ∀ (M : Mm) (x0 : Nat) (x1 : Int32) (x2 : Int32) (x3 : Int32) (H : Heap) (locs : List Loc) (ls : Array Slot), f_X11_twice_L116 fu M x0 x1 x2 x3 = some (M1, r) → Hp b0 D cy M H → va_S (BA b0) s.heap H locs → lv_has ls 4 [(0, .ref x0), (1, .int x1), (2, .int x2), (3, .int x3)] → W p l e rm_X11_twice s m args below meth c H locs 0 0 (MQ below (Qm b0 D cy M1 (some (.int r))) args s 0 0 (BA b0)) (F0 m 116 ls []) := by
  obtain ⟨hx, hb, hr, hml, hown0, hts, hlk, hK, hN, hb0, hnm⟩ := id CX
  have hown : s.vm.findClass RX11 = some m.cls := hown0
  intro fu
  induction fu with
  | zero =>
    intro M x0 x1 x2 x3 H locs ls hF hP hS hl
    rw [f_X11_twice_L116] at hF
    cases hF
  | succ fu ih =>
    intro M x0 x1 x2 x3 H locs ls hF hP hS hl
    rw [f_X11_twice_L116] at hF
    refine lv_iload_n hx hb dX11_twice_116 rfl (lv_at hl 3 rfl) ?_
    refine lv_aload_n hx hb dX11_twice_117 rfl (lv_at hl 0 rfl) ?_
    refine xr_getR hx hb hts iw_X11_twice_11 hown hK hP hF 11 17 rfl (by decide) (by decide +kernel) ⟨rfl, rfl, rfl⟩ dX11_twice_118 (fun v1 hF => ?_)
    refine lv_iload_n hx hb dX11_twice_121 rfl (lv_at hl 1 rfl) ?_
    refine xr_aI hx hb hK hP hF dX11_twice_122 (fun v2 hF => ?_)
    refine lv_icmp_ge (tgt := 154) hx hb dX11_twice_123 (by decide) (fun c3 => ?_) (fun c3 => ?_)
    · replace hF := it_t hF c3
      refine lv_aload_n hx hb dX11_twice_154 rfl (lv_at hl 0 rfl) ?_
      refine lv_dup hx hb dX11_twice_155 rfl ?_
      refine xr_getI hx hb hts iw_X11_twice_11 hown hK hP hF 11 16 rfl (by decide) (by decide +kernel) ⟨rfl, rfl, rfl⟩ dX11_twice_156 (fun v4 hF => ?_)
      refine lv_iconst (v := 1) hx hb dX11_twice_159 (by decide) ?_
      refine lv_iadd hx hb dX11_twice_160 ?_
      refine xr_putI hx hb hts iw_X11_twice_11 hown hK hP hS hF 11 16 rfl (by decide) tyX11 tyX11_ok nmX11 (by decide +kernel) (Or.inl rfl) rfl ⟨rfl, rfl, rfl⟩ dX11_twice_161 (fun M5 H locs hF hP hS => ?_)
      refine lv_iload_n hx hb dX11_twice_164 rfl (lv_at hl 2 rfl) ?_
      cases hF
      exact W.iret hx hb hr (fun t ht hW => ⟨rfl, by rw [ht]; exact hP, hS.F ht⟩) hS.2.2 dX11_twice_165 hlk
    · replace hF := it_f hF c3
      refine lv_aload_n hx hb dX11_twice_126 rfl (lv_at hl 0 rfl) ?_
      refine xr_getR hx hb hts iw_X11_twice_11 hown hK hP hF 11 18 rfl (by decide) (by decide +kernel) ⟨rfl, rfl, rfl⟩ dX11_twice_127 (fun v6 hF => ?_)
      refine lv_bipush (v := 64) hx hb dX11_twice_130 (by decide) ?_
      refine lv_iload_n hx hb dX11_twice_132 rfl (lv_at hl 2 rfl) ?_
      refine lv_imul hx hb dX11_twice_133 ?_
      refine lv_iload_n hx hb dX11_twice_134 rfl (lv_at hl 3 rfl) ?_
      refine lv_iadd hx hb dX11_twice_135 ?_
      refine lv_aload_n hx hb dX11_twice_136 rfl (lv_at hl 0 rfl) ?_
      refine xr_getR hx hb hts iw_X11_twice_11 hown hK hP hF 11 18 rfl (by decide) (by decide +kernel) ⟨rfl, rfl, rfl⟩ dX11_twice_137 (fun v7 hF => ?_)
      refine lv_bipush (v := 64) hx hb dX11_twice_140 (by decide) ?_
      refine lv_iload_n hx hb dX11_twice_142 rfl (lv_at hl 1 rfl) ?_
      refine lv_imul hx hb dX11_twice_143 ?_
      refine lv_iload_n hx hb dX11_twice_144 rfl (lv_at hl 3 rfl) ?_
      refine lv_iadd hx hb dX11_twice_145 ?_
      refine xr_aI hx hb hK hP hF dX11_twice_146 (fun v8 hF => ?_)
      refine xr_wI hx hb hK hP hS hF dX11_twice_147 (fun M9 H locs hF hP hS => ?_)
      refine lv_iinc (v := x3 + 1) (lv' := [(3, .int (x3 + 1)), (0, .ref x0), (1, .int x1), (2, .int x2)]) hx hb dX11_twice_148 hl (k := 3) rfl (by rfl) (by decide) rfl (fun ls hl => ?_)
      refine lv_goto (tgt := 116) hx hb dX11_twice_151 (by decide) ?_
      exact ih _ _ _ _ _ _ _ _ hF hP hS (lv_sub hl [1, 2, 3, 0] rfl)
theorem gk_X11_twice {M : Mm} {a0 : Nat} {a1 : Int32} {r : (Mm × Int32)} (h : f_X11_twice M a0 a1 = some r) : mK M a0 = 12 := by
  unfold f_X11_twice at h
  exact (if_some h).1
set_option maxHeartbeats 4000000 in
set_option maxRecDepth 100000 in
theorem ct_X11_twice (l : Launch) (b0 : Nat) (D : va_G) (cy : Nat → ClassId) (M : Mm) (a0 : Nat) (a1 : Int32) (M1 : Mm) (r : Int32) (hF : f_X11_twice M a0 a1 = some (M1, r)) : Met l yX11_twice wsX11_twice rm_X11_twice (va_Pc [.ref a0, .int a1] (Pm b0 D cy M)) (Qm b0 D cy M1 (some (.int r))) 0 0 (BA b0) := by
  refine ct_of [.ref a0, .int a1] (by decide) rfl ?_
  intro p e s m below meth c CX hP
  obtain ⟨hx, hb, hr, hml, hown0, hts, hlk, hK, hN, hb0, hnm⟩ := id CX
  have hown : s.vm.findClass RX11 = some m.cls := hown0
  have hS : va_S (BA b0) s.heap s.heap [] := va_S.rf
  have hl := lv_entry [.ref a0, .int a1] (n := 4) (Nat.le_of_ble_eq_true rfl)
  generalize (lg_sl [.ref a0, .int a1] ++ List.replicate (4 - (lg_sl [.ref a0, .int a1]).length) Slot.unset).toArray = ls at hl ⊢
  have hl : lv_has ls 4 [(0, .ref a0), (1, .int a1)] := hl
  unfold f_X11_twice at hF
  replace hF := (if_some hF).2
  refine lv_aload_n hx hb dX11_twice_0 rfl (lv_at hl 0 rfl) ?_
  refine lv_iconst (v := 0) hx hb dX11_twice_1 (by decide) ?_
  refine xr_putI hx hb hts iw_X11_twice_11 hown hK hP hS hF 11 0 rfl (by decide) tyX11 tyX11_ok nmX11 (by decide +kernel) (Or.inl rfl) rfl ⟨rfl, rfl, rfl⟩ dX11_twice_2 (fun M1 H locs hF hP hS => ?_)
  refine lv_aload_n hx hb dX11_twice_5 rfl (lv_at hl 0 rfl) ?_
  refine lv_iload_n hx hb dX11_twice_6 rfl (lv_at hl 1 rfl) ?_
  obtain ⟨v3, h2, hF⟩ := ob_some hF
  refine xr_call1 (va_runV (As := [.int a1]) (rest := []) ⟨hx, hb, hml, hown, hts⟩ (ct_X11_isUnderWay l b0 D cy M1 a0 a1 v3 h2) (cwV 1 hts gX11_twice_X11_isUnderWay rfl rfl rfl (by decide +kernel) ⟨Nat.le_of_ble_eq_true rfl, Nat.le_of_ble_eq_true rfl⟩) (xp_V hP hK hN hS hb0 11 rfl (gk_X11_isUnderWay h2)) rfl rfl hl.1 rfl (lv_room (Nat.le_of_ble_eq_true rfl)) dX11_twice_7 ⟨Nat.le_of_ble_eq_true rfl, Nat.le_of_ble_eq_true rfl⟩) hS (fun H locs hP hS => ?_)
  refine lv_if_ne (tgt := 15) hx hb dX11_twice_10 (by decide) (fun c4 => ?_) (fun c4 => ?_)
  · replace hF := it_f hF c4
    refine lv_aload_n hx hb dX11_twice_15 rfl (lv_at hl 0 rfl) ?_
    refine xr_getI hx hb hts iw_X11_twice_11 hown hK hP hF 11 16 rfl (by decide) (by decide +kernel) ⟨rfl, rfl, rfl⟩ dX11_twice_16 (fun v5 hF => ?_)
    refine lv_sipush (v := 200) hx hb dX11_twice_19 (by decide) ?_
    refine lv_icmp_ne (tgt := 28) hx hb dX11_twice_22 (by decide) (fun c6 => ?_) (fun c6 => ?_)
    · replace hF := it_f hF c6
      refine lv_aload_n hx hb dX11_twice_28 rfl (lv_at hl 0 rfl) ?_
      refine xr_getI hx hb hts iw_X11_twice_11 hown hK hP hF 11 16 rfl (by decide) (by decide +kernel) ⟨rfl, rfl, rfl⟩ dX11_twice_29 (fun v7 hF => ?_)
      refine lv_istore_n (lv' := [(2, .int v7), (0, .ref a0), (1, .int a1)]) hx hb dX11_twice_32 rfl hl (by decide) (by first | rfl | simp [cat_rf]) (fun ls hl => ?_)
      refine lv_aload_n hx hb dX11_twice_33 rfl (lv_at hl 1 rfl) ?_
      refine xr_getR hx hb hts iw_X11_twice_11 hown hK hP hF 11 19 rfl (by decide) (by decide +kernel) ⟨rfl, rfl, rfl⟩ dX11_twice_34 (fun v8 hF => ?_)
      refine lv_iload_n hx hb dX11_twice_37 rfl (lv_at hl 0 rfl) ?_
      refine lv_aload_n hx hb dX11_twice_38 rfl (lv_at hl 1 rfl) ?_
      refine xr_getR hx hb hts iw_X11_twice_11 hown hK hP hF 11 19 rfl (by decide) (by decide +kernel) ⟨rfl, rfl, rfl⟩ dX11_twice_39 (fun v9 hF => ?_)
      refine lv_iload_n hx hb dX11_twice_42 rfl (lv_at hl 2 rfl) ?_
      refine xr_aI hx hb hK hP hF dX11_twice_43 (fun v10 hF => ?_)
      refine xr_wI hx hb hK hP hS hF dX11_twice_44 (fun M11 H locs hF hP hS => ?_)
      refine lv_aload_n hx hb dX11_twice_45 rfl (lv_at hl 1 rfl) ?_
      refine xr_getR hx hb hts iw_X11_twice_11 hown hK hP hF 11 20 rfl (by decide) (by decide +kernel) ⟨rfl, rfl, rfl⟩ dX11_twice_46 (fun v12 hF => ?_)
      refine lv_iload_n hx hb dX11_twice_49 rfl (lv_at hl 0 rfl) ?_
      refine lv_aload_n hx hb dX11_twice_50 rfl (lv_at hl 1 rfl) ?_
      refine xr_getR hx hb hts iw_X11_twice_11 hown hK hP hF 11 20 rfl (by decide) (by decide +kernel) ⟨rfl, rfl, rfl⟩ dX11_twice_51 (fun v13 hF => ?_)
      refine lv_iload_n hx hb dX11_twice_54 rfl (lv_at hl 2 rfl) ?_
      refine xr_aI hx hb hK hP hF dX11_twice_55 (fun v14 hF => ?_)
      refine xr_wI hx hb hK hP hS hF dX11_twice_56 (fun M15 H locs hF hP hS => ?_)
      refine lv_aload_n hx hb dX11_twice_57 rfl (lv_at hl 1 rfl) ?_
      refine xr_getR hx hb hts iw_X11_twice_11 hown hK hP hF 11 21 rfl (by decide) (by decide +kernel) ⟨rfl, rfl, rfl⟩ dX11_twice_58 (fun v16 hF => ?_)
      refine lv_iload_n hx hb dX11_twice_61 rfl (lv_at hl 0 rfl) ?_
      refine lv_aload_n hx hb dX11_twice_62 rfl (lv_at hl 1 rfl) ?_
      refine xr_getR hx hb hts iw_X11_twice_11 hown hK hP hF 11 21 rfl (by decide) (by decide +kernel) ⟨rfl, rfl, rfl⟩ dX11_twice_63 (fun v17 hF => ?_)
      refine lv_iload_n hx hb dX11_twice_66 rfl (lv_at hl 2 rfl) ?_
      refine xr_aI hx hb hK hP hF dX11_twice_67 (fun v18 hF => ?_)
      refine xr_wI hx hb hK hP hS hF dX11_twice_68 (fun M19 H locs hF hP hS => ?_)
      refine lv_aload_n hx hb dX11_twice_69 rfl (lv_at hl 1 rfl) ?_
      refine xr_getR hx hb hts iw_X11_twice_11 hown hK hP hF 11 22 rfl (by decide) (by decide +kernel) ⟨rfl, rfl, rfl⟩ dX11_twice_70 (fun v20 hF => ?_)
      refine lv_iload_n hx hb dX11_twice_73 rfl (lv_at hl 0 rfl) ?_
      refine lv_aload_n hx hb dX11_twice_74 rfl (lv_at hl 1 rfl) ?_
      refine xr_getR hx hb hts iw_X11_twice_11 hown hK hP hF 11 22 rfl (by decide) (by decide +kernel) ⟨rfl, rfl, rfl⟩ dX11_twice_75 (fun v21 hF => ?_)
      refine lv_iload_n hx hb dX11_twice_78 rfl (lv_at hl 2 rfl) ?_
      refine xr_aI hx hb hK hP hF dX11_twice_79 (fun v22 hF => ?_)
      refine xr_wI hx hb hK hP hS hF dX11_twice_80 (fun M23 H locs hF hP hS => ?_)
      refine lv_aload_n hx hb dX11_twice_81 rfl (lv_at hl 1 rfl) ?_
      refine xr_getR hx hb hts iw_X11_twice_11 hown hK hP hF 11 17 rfl (by decide) (by decide +kernel) ⟨rfl, rfl, rfl⟩ dX11_twice_82 (fun v24 hF => ?_)
      refine lv_iload_n hx hb dX11_twice_85 rfl (lv_at hl 0 rfl) ?_
      refine lv_aload_n hx hb dX11_twice_86 rfl (lv_at hl 1 rfl) ?_
      refine xr_getR hx hb hts iw_X11_twice_11 hown hK hP hF 11 17 rfl (by decide) (by decide +kernel) ⟨rfl, rfl, rfl⟩ dX11_twice_87 (fun v25 hF => ?_)
      refine lv_iload_n hx hb dX11_twice_90 rfl (lv_at hl 2 rfl) ?_
      refine xr_aI hx hb hK hP hF dX11_twice_91 (fun v26 hF => ?_)
      refine xr_wI hx hb hK hP hS hF dX11_twice_92 (fun M27 H locs hF hP hS => ?_)
      refine lv_aload_n hx hb dX11_twice_93 rfl (lv_at hl 1 rfl) ?_
      refine xr_getR hx hb hts iw_X11_twice_11 hown hK hP hF 11 23 rfl (by decide) (by decide +kernel) ⟨rfl, rfl, rfl⟩ dX11_twice_94 (fun v28 hF => ?_)
      refine lv_iload_n hx hb dX11_twice_97 rfl (lv_at hl 0 rfl) ?_
      refine lv_iconst (v := (-1)) hx hb dX11_twice_98 (by decide) ?_
      refine xr_wI hx hb hK hP hS hF dX11_twice_99 (fun M29 H locs hF hP hS => ?_)
      refine lv_aload_n hx hb dX11_twice_100 rfl (lv_at hl 1 rfl) ?_
      refine xr_getR hx hb hts iw_X11_twice_11 hown hK hP hF 11 24 rfl (by decide) (by decide +kernel) ⟨rfl, rfl, rfl⟩ dX11_twice_101 (fun v30 hF => ?_)
      refine lv_iload_n hx hb dX11_twice_104 rfl (lv_at hl 0 rfl) ?_
      refine lv_iconst (v := 0) hx hb dX11_twice_105 (by decide) ?_
      refine xr_wZ hx hb hK hP hS hF dX11_twice_106 (fun M31 H locs hF hP hS => ?_)
      refine lv_aload_n hx hb dX11_twice_107 rfl (lv_at hl 1 rfl) ?_
      refine xr_getR hx hb hts iw_X11_twice_11 hown hK hP hF 11 25 rfl (by decide) (by decide +kernel) ⟨rfl, rfl, rfl⟩ dX11_twice_108 (fun v32 hF => ?_)
      refine lv_iload_n hx hb dX11_twice_111 rfl (lv_at hl 0 rfl) ?_
      refine lv_iconst (v := 1) hx hb dX11_twice_112 (by decide) ?_
      refine xr_wZ hx hb hK hP hS hF dX11_twice_113 (fun M33 H locs hF hP hS => ?_)
      refine lv_iconst (v := 0) hx hb dX11_twice_114 (by decide) ?_
      refine lv_istore_n (lv' := [(3, .int 0), (2, .int v7), (0, .ref a0), (1, .int a1)]) hx hb dX11_twice_115 rfl hl (by decide) (by first | rfl | simp [cat_rf]) (fun ls hl => ?_)
      exact nd_X11_twice_116 CX _ _ _ _ _ _ _ _ _ hF hP hS (lv_sub hl [2, 3, 1, 0] rfl)
    · replace hF := it_t hF c6
      refine lv_bipush (v := (-2)) hx hb dX11_twice_25 (by decide) ?_
      cases hF
      exact W.iret hx hb hr (fun t ht hW => ⟨rfl, by rw [ht]; exact hP, hS.F ht⟩) hS.2.2 dX11_twice_27 hlk
  · replace hF := it_t hF c4
    refine lv_iconst (v := (-1)) hx hb dX11_twice_13 (by decide) ?_
    cases hF
    exact W.iret hx hb hr (fun t ht hW => ⟨rfl, by rw [ht]; exact hP, hS.F ht⟩) hS.2.2 dX11_twice_14 hlk
/-! X11_bend -/
theorem iw_X11_bend_11 : ∀ w ∈ u_ws RX11 TX11 58, w ∈ wsX11_bend := by decide +kernel
abbrev rm_X11_bend : Room := { frames := 1, cells := 0, slots := 0, locals := 25 }
theorem gk_X11_bend {M : Mm} {a0 : Nat} {a1 : Int32} {a2 : Int32} {a3 : Int32} {r : (Mm × Int32)} (h : f_X11_bend M a0 a1 a2 a3 = some r) : mK M a0 = 12 := by
  unfold f_X11_bend at h
  exact (if_some h).1
set_option maxHeartbeats 4000000 in
set_option maxRecDepth 100000 in
theorem ct_X11_bend (l : Launch) (b0 : Nat) (D : va_G) (cy : Nat → ClassId) (M : Mm) (a0 : Nat) (a1 : Int32) (a2 : Int32) (a3 : Int32) (M1 : Mm) (r : Int32) (hF : f_X11_bend M a0 a1 a2 a3 = some (M1, r)) : Met l yX11_bend wsX11_bend rm_X11_bend (va_Pc [.ref a0, .int a1, .int a2, .int a3] (Pm b0 D cy M)) (Qm b0 D cy M1 (some (.int r))) 0 0 (BA b0) := by
  refine ct_of [.ref a0, .int a1, .int a2, .int a3] (by decide) rfl ?_
  intro p e s m below meth c CX hP
  obtain ⟨hx, hb, hr, hml, hown0, hts, hlk, hK, hN, hb0, hnm⟩ := id CX
  have hown : s.vm.findClass RX11 = some m.cls := hown0
  have hS : va_S (BA b0) s.heap s.heap [] := va_S.rf
  have hl := lv_entry [.ref a0, .int a1, .int a2, .int a3] (n := 4) (Nat.le_of_ble_eq_true rfl)
  generalize (lg_sl [.ref a0, .int a1, .int a2, .int a3] ++ List.replicate (4 - (lg_sl [.ref a0, .int a1, .int a2, .int a3]).length) Slot.unset).toArray = ls at hl ⊢
  have hl : lv_has ls 4 [(0, .ref a0), (1, .int a1), (2, .int a2), (3, .int a3)] := hl
  unfold f_X11_bend at hF
  replace hF := (if_some hF).2
  refine lv_aload_n hx hb dX11_bend_0 rfl (lv_at hl 0 rfl) ?_
  refine lv_iconst (v := 0) hx hb dX11_bend_1 (by decide) ?_
  refine xr_putI hx hb hts iw_X11_bend_11 hown hK hP hS hF 11 0 rfl (by decide) tyX11 tyX11_ok nmX11 (by decide +kernel) (Or.inl rfl) rfl ⟨rfl, rfl, rfl⟩ dX11_bend_2 (fun M1 H locs hF hP hS => ?_)
  refine lv_aload_n hx hb dX11_bend_5 rfl (lv_at hl 0 rfl) ?_
  refine lv_iload_n hx hb dX11_bend_6 rfl (lv_at hl 1 rfl) ?_
  obtain ⟨v3, h2, hF⟩ := ob_some hF
  refine xr_call1 (va_runV (As := [.int a1]) (rest := []) ⟨hx, hb, hml, hown, hts⟩ (ct_X11_isUnderWay l b0 D cy M1 a0 a1 v3 h2) (cwV 1 hts gX11_bend_X11_isUnderWay rfl rfl rfl (by decide +kernel) ⟨Nat.le_of_ble_eq_true rfl, Nat.le_of_ble_eq_true rfl⟩) (xp_V hP hK hN hS hb0 11 rfl (gk_X11_isUnderWay h2)) rfl rfl hl.1 rfl (lv_room (Nat.le_of_ble_eq_true rfl)) dX11_bend_7 ⟨Nat.le_of_ble_eq_true rfl, Nat.le_of_ble_eq_true rfl⟩) hS (fun H locs hP hS => ?_)
  refine lv_if_eq (tgt := 39) hx hb dX11_bend_10 (by decide) (fun c4 => ?_) (fun c4 => ?_)
  · replace hF := it_t hF c4
    refine lv_iconst (v := (-1)) hx hb dX11_bend_39 (by decide) ?_
    cases hF
    exact W.iret hx hb hr (fun t ht hW => ⟨rfl, by rw [ht]; exact hP, hS.F ht⟩) hS.2.2 dX11_bend_40 hlk
  · replace hF := it_f hF c4
    refine lv_iload_n hx hb dX11_bend_13 rfl (lv_at hl 2 rfl) ?_
    refine lv_if_lt (tgt := 39) hx hb dX11_bend_14 (by decide) (fun c5 => ?_) (fun c5 => ?_)
    · replace hF := it_t hF c5
      refine lv_iconst (v := (-1)) hx hb dX11_bend_39 (by decide) ?_
      cases hF
      exact W.iret hx hb hr (fun t ht hW => ⟨rfl, by rw [ht]; exact hP, hS.F ht⟩) hS.2.2 dX11_bend_40 hlk
    · replace hF := it_f hF c5
      refine lv_iload_n hx hb dX11_bend_17 rfl (lv_at hl 2 rfl) ?_
      refine lv_aload_n hx hb dX11_bend_18 rfl (lv_at hl 0 rfl) ?_
      refine xr_getR hx hb hts iw_X11_bend_11 hown hK hP hF 11 17 rfl (by decide) (by decide +kernel) ⟨rfl, rfl, rfl⟩ dX11_bend_19 (fun v6 hF => ?_)
      refine lv_iload_n hx hb dX11_bend_22 rfl (lv_at hl 1 rfl) ?_
      refine xr_aI hx hb hK hP hF dX11_bend_23 (fun v7 hF => ?_)
      refine lv_icmp_ge (tgt := 39) hx hb dX11_bend_24 (by decide) (fun c8 => ?_) (fun c8 => ?_)
      · replace hF := it_t hF c8
        refine lv_iconst (v := (-1)) hx hb dX11_bend_39 (by decide) ?_
        cases hF
        exact W.iret hx hb hr (fun t ht hW => ⟨rfl, by rw [ht]; exact hP, hS.F ht⟩) hS.2.2 dX11_bend_40 hlk
      · replace hF := it_f hF c8
        refine lv_iload_n hx hb dX11_bend_27 rfl (lv_at hl 3 rfl) ?_
        refine lv_i2l hx hb dX11_bend_28 rfl ?_
        refine lv_lconst (v := 1) hx hb dX11_bend_29 (by decide) ?_
        refine lv_ldc2 (v := 255) hx hb hown (hts (.constantLong RX11 181 255) (by decide +kernel)) dX11_bend_30 ?_
        obtain ⟨v10, h9, hF⟩ := ob_some hF
        refine xr_call1 (va_runS (As := [.long a3.toInt64, .long 1, .long 255]) (rest := []) ⟨hx, hb, hml, hown, hts⟩ (ct_X11_isIn l b0 D cy M1 a3.toInt64 1 255 v10 h9) (va_cwS 3 hts gX11_bend_X11_isIn rfl rfl rfl (by decide +kernel) ⟨Nat.le_of_ble_eq_true rfl, Nat.le_of_ble_eq_true rfl⟩) (xp_S hP hK hN hS hb0) rfl rfl hl.1 rfl (lv_room (Nat.le_of_ble_eq_true rfl)) dX11_bend_33 ⟨Nat.le_of_ble_eq_true rfl, Nat.le_of_ble_eq_true rfl⟩) hS (fun H locs hP hS => ?_)
        refine lv_if_ne (tgt := 41) hx hb dX11_bend_36 (by decide) (fun c11 => ?_) (fun c11 => ?_)
        · replace hF := it_f hF c11
          refine lv_aload_n hx hb dX11_bend_41 rfl (lv_at hl 0 rfl) ?_
          refine xr_getR hx hb hts iw_X11_bend_11 hown hK hP hF 11 18 rfl (by decide) (by decide +kernel) ⟨rfl, rfl, rfl⟩ dX11_bend_42 (fun v12 hF => ?_)
          refine lv_bipush (v := 64) hx hb dX11_bend_45 (by decide) ?_
          refine lv_iload_n hx hb dX11_bend_47 rfl (lv_at hl 1 rfl) ?_
          refine lv_imul hx hb dX11_bend_48 ?_
          refine lv_iload_n hx hb dX11_bend_49 rfl (lv_at hl 2 rfl) ?_
          refine lv_iadd hx hb dX11_bend_50 ?_
          refine lv_dup2_11 hx hb dX11_bend_51 rfl rfl ?_
          refine xr_aI hx hb hK hP hF dX11_bend_52 (fun v13 hF => ?_)
          refine lv_iload_n hx hb dX11_bend_53 rfl (lv_at hl 3 rfl) ?_
          refine lv_ixor hx hb dX11_bend_54 ?_
          refine xr_wI hx hb hK hP hS hF dX11_bend_55 (fun M14 H locs hF hP hS => ?_)
          refine lv_aload_n hx hb dX11_bend_56 rfl (lv_at hl 0 rfl) ?_
          refine xr_getR hx hb hts iw_X11_bend_11 hown hK hP hF 11 18 rfl (by decide) (by decide +kernel) ⟨rfl, rfl, rfl⟩ dX11_bend_57 (fun v15 hF => ?_)
          refine lv_bipush (v := 64) hx hb dX11_bend_60 (by decide) ?_
          refine lv_iload_n hx hb dX11_bend_62 rfl (lv_at hl 1 rfl) ?_
          refine lv_imul hx hb dX11_bend_63 ?_
          refine lv_iload_n hx hb dX11_bend_64 rfl (lv_at hl 2 rfl) ?_
          refine lv_iadd hx hb dX11_bend_65 ?_
          refine xr_aI hx hb hK hP hF dX11_bend_66 (fun v16 hF => ?_)
          cases hF
          exact W.iret hx hb hr (fun t ht hW => ⟨rfl, by rw [ht]; exact hP, hS.F ht⟩) hS.2.2 dX11_bend_67 hlk
        · replace hF := it_t hF c11
          refine lv_iconst (v := (-1)) hx hb dX11_bend_39 (by decide) ?_
          cases hF
          exact W.iret hx hb hr (fun t ht hW => ⟨rfl, by rw [ht]; exact hP, hS.F ht⟩) hS.2.2 dX11_bend_40 hlk
/-! X11_octet -/
theorem iw_X11_octet_11 : ∀ w ∈ u_ws RX11 TX11 58, w ∈ wsX11_octet := by decide +kernel
abbrev rm_X11_octet : Room := { frames := 0, cells := 0, slots := 0, locals := 0 }
theorem gk_X11_octet {M : Mm} {a0 : Nat} {a1 : Int32} {a2 : Int32} {r : (Mm × Int32)} (h : f_X11_octet M a0 a1 a2 = some r) : mK M a0 = 12 := by
  unfold f_X11_octet at h
  exact (if_some h).1
set_option maxHeartbeats 4000000 in
set_option maxRecDepth 100000 in
theorem ct_X11_octet (l : Launch) (b0 : Nat) (D : va_G) (cy : Nat → ClassId) (M : Mm) (a0 : Nat) (a1 : Int32) (a2 : Int32) (M1 : Mm) (r : Int32) (hF : f_X11_octet M a0 a1 a2 = some (M1, r)) : Met l yX11_octet wsX11_octet rm_X11_octet (va_Pc [.ref a0, .int a1, .int a2] (Pm b0 D cy M)) (Qm b0 D cy M1 (some (.int r))) 0 0 (BA b0) := by
  refine ct_of [.ref a0, .int a1, .int a2] (by decide) rfl ?_
  intro p e s m below meth c CX hP
  obtain ⟨hx, hb, hr, hml, hown0, hts, hlk, hK, hN, hb0, hnm⟩ := id CX
  have hown : s.vm.findClass RX11 = some m.cls := hown0
  have hS : va_S (BA b0) s.heap s.heap [] := va_S.rf
  have hl := lv_entry [.ref a0, .int a1, .int a2] (n := 3) (Nat.le_of_ble_eq_true rfl)
  generalize (lg_sl [.ref a0, .int a1, .int a2] ++ List.replicate (3 - (lg_sl [.ref a0, .int a1, .int a2]).length) Slot.unset).toArray = ls at hl ⊢
  have hl : lv_has ls 3 [(0, .ref a0), (1, .int a1), (2, .int a2)] := hl
  unfold f_X11_octet at hF
  replace hF := (if_some hF).2
  refine lv_aload_n hx hb dX11_octet_0 rfl (lv_at hl 0 rfl) ?_
  refine lv_iconst (v := 0) hx hb dX11_octet_1 (by decide) ?_
  refine xr_putI hx hb hts iw_X11_octet_11 hown hK hP hS hF 11 0 rfl (by decide) tyX11 tyX11_ok nmX11 (by decide +kernel) (Or.inl rfl) rfl ⟨rfl, rfl, rfl⟩ dX11_octet_2 (fun M1 H locs hF hP hS => ?_)
  refine lv_iload_n hx hb dX11_octet_5 rfl (lv_at hl 1 rfl) ?_
  refine lv_if_lt (tgt := 31) hx hb dX11_octet_6 (by decide) (fun c2 => ?_) (fun c2 => ?_)
  · replace hF := it_t hF c2
    refine lv_iconst (v := (-1)) hx hb dX11_octet_31 (by decide) ?_
    refine lv_goto (tgt := 46) hx hb dX11_octet_32 (by decide) ?_
    cases hF
    exact W.iret hx hb hr (fun t ht hW => ⟨rfl, by rw [ht]; exact hP, hS.F ht⟩) hS.2.2 dX11_octet_46 hlk
  · replace hF := it_f hF c2
    refine lv_iload_n hx hb dX11_octet_9 rfl (lv_at hl 1 rfl) ?_
    refine lv_aload_n hx hb dX11_octet_10 rfl (lv_at hl 0 rfl) ?_
    refine xr_getI hx hb hts iw_X11_octet_11 hown hK hP hF 11 16 rfl (by decide) (by decide +kernel) ⟨rfl, rfl, rfl⟩ dX11_octet_11 (fun v3 hF => ?_)
    refine lv_icmp_ge (tgt := 31) hx hb dX11_octet_14 (by decide) (fun c4 => ?_) (fun c4 => ?_)
    · replace hF := it_t hF c4
      refine lv_iconst (v := (-1)) hx hb dX11_octet_31 (by decide) ?_
      refine lv_goto (tgt := 46) hx hb dX11_octet_32 (by decide) ?_
      cases hF
      exact W.iret hx hb hr (fun t ht hW => ⟨rfl, by rw [ht]; exact hP, hS.F ht⟩) hS.2.2 dX11_octet_46 hlk
    · replace hF := it_f hF c4
      refine lv_iload_n hx hb dX11_octet_17 rfl (lv_at hl 2 rfl) ?_
      refine lv_if_lt (tgt := 31) hx hb dX11_octet_18 (by decide) (fun c5 => ?_) (fun c5 => ?_)
      · replace hF := it_t hF c5
        refine lv_iconst (v := (-1)) hx hb dX11_octet_31 (by decide) ?_
        refine lv_goto (tgt := 46) hx hb dX11_octet_32 (by decide) ?_
        cases hF
        exact W.iret hx hb hr (fun t ht hW => ⟨rfl, by rw [ht]; exact hP, hS.F ht⟩) hS.2.2 dX11_octet_46 hlk
      · replace hF := it_f hF c5
        refine lv_iload_n hx hb dX11_octet_21 rfl (lv_at hl 2 rfl) ?_
        refine lv_aload_n hx hb dX11_octet_22 rfl (lv_at hl 0 rfl) ?_
        refine xr_getR hx hb hts iw_X11_octet_11 hown hK hP hF 11 17 rfl (by decide) (by decide +kernel) ⟨rfl, rfl, rfl⟩ dX11_octet_23 (fun v6 hF => ?_)
        refine lv_iload_n hx hb dX11_octet_26 rfl (lv_at hl 1 rfl) ?_
        refine xr_aI hx hb hK hP hF dX11_octet_27 (fun v7 hF => ?_)
        refine lv_icmp_lt (tgt := 35) hx hb dX11_octet_28 (by decide) (fun c8 => ?_) (fun c8 => ?_)
        · replace hF := it_t hF c8
          refine lv_aload_n hx hb dX11_octet_35 rfl (lv_at hl 0 rfl) ?_
          refine xr_getR hx hb hts iw_X11_octet_11 hown hK hP hF 11 18 rfl (by decide) (by decide +kernel) ⟨rfl, rfl, rfl⟩ dX11_octet_36 (fun v9 hF => ?_)
          refine lv_bipush (v := 64) hx hb dX11_octet_39 (by decide) ?_
          refine lv_iload_n hx hb dX11_octet_41 rfl (lv_at hl 1 rfl) ?_
          refine lv_imul hx hb dX11_octet_42 ?_
          refine lv_iload_n hx hb dX11_octet_43 rfl (lv_at hl 2 rfl) ?_
          refine lv_iadd hx hb dX11_octet_44 ?_
          refine xr_aI hx hb hK hP hF dX11_octet_45 (fun v10 hF => ?_)
          cases hF
          exact W.iret hx hb hr (fun t ht hW => ⟨rfl, by rw [ht]; exact hP, hS.F ht⟩) hS.2.2 dX11_octet_46 hlk
        · replace hF := it_f hF c8
          refine lv_iconst (v := (-1)) hx hb dX11_octet_31 (by decide) ?_
          refine lv_goto (tgt := 46) hx hb dX11_octet_32 (by decide) ?_
          cases hF
          exact W.iret hx hb hr (fun t ht hW => ⟨rfl, by rw [ht]; exact hP, hS.F ht⟩) hS.2.2 dX11_octet_46 hlk
/-! X11_look -/
theorem iw_X11_look_11 : ∀ w ∈ u_ws RX11 TX11 58, w ∈ wsX11_look := by decide +kernel
abbrev rm_X11_look : Room := { frames := 0, cells := 0, slots := 0, locals := 0 }
theorem gk_X11_look {M : Mm} {a0 : Nat} {a1 : Int32} {a2 : Int32} {r : (Mm × Int32)} (h : f_X11_look M a0 a1 a2 = some r) : mK M a0 = 12 := by
  unfold f_X11_look at h
  exact (if_some h).1
set_option maxHeartbeats 4000000 in
set_option maxRecDepth 100000 in
theorem ct_X11_look (l : Launch) (b0 : Nat) (D : va_G) (cy : Nat → ClassId) (M : Mm) (a0 : Nat) (a1 : Int32) (a2 : Int32) (M1 : Mm) (r : Int32) (hF : f_X11_look M a0 a1 a2 = some (M1, r)) : Met l yX11_look wsX11_look rm_X11_look (va_Pc [.ref a0, .int a1, .int a2] (Pm b0 D cy M)) (Qm b0 D cy M1 (some (.int r))) 0 0 (BA b0) := by
  refine ct_of [.ref a0, .int a1, .int a2] (by decide) rfl ?_
  intro p e s m below meth c CX hP
  obtain ⟨hx, hb, hr, hml, hown0, hts, hlk, hK, hN, hb0, hnm⟩ := id CX
  have hown : s.vm.findClass RX11 = some m.cls := hown0
  have hS : va_S (BA b0) s.heap s.heap [] := va_S.rf
  have hl := lv_entry [.ref a0, .int a1, .int a2] (n := 3) (Nat.le_of_ble_eq_true rfl)
  generalize (lg_sl [.ref a0, .int a1, .int a2] ++ List.replicate (3 - (lg_sl [.ref a0, .int a1, .int a2]).length) Slot.unset).toArray = ls at hl ⊢
  have hl : lv_has ls 3 [(0, .ref a0), (1, .int a1), (2, .int a2)] := hl
  unfold f_X11_look at hF
  replace hF := (if_some hF).2
  refine lv_aload_n hx hb dX11_look_0 rfl (lv_at hl 0 rfl) ?_
  refine lv_iconst (v := 0) hx hb dX11_look_1 (by decide) ?_
  refine xr_putI hx hb hts iw_X11_look_11 hown hK hP hS hF 11 0 rfl (by decide) tyX11 tyX11_ok nmX11 (by decide +kernel) (Or.inl rfl) rfl ⟨rfl, rfl, rfl⟩ dX11_look_2 (fun M1 H locs hF hP hS => ?_)
  refine lv_iload_n hx hb dX11_look_5 rfl (lv_at hl 1 rfl) ?_
  refine lv_if_lt (tgt := 17) hx hb dX11_look_6 (by decide) (fun c2 => ?_) (fun c2 => ?_)
  · replace hF := it_t hF c2
    refine lv_iconst (v := (-1)) hx hb dX11_look_17 (by decide) ?_
    cases hF
    exact W.iret hx hb hr (fun t ht hW => ⟨rfl, by rw [ht]; exact hP, hS.F ht⟩) hS.2.2 dX11_look_18 hlk
  · replace hF := it_f hF c2
    refine lv_iload_n hx hb dX11_look_9 rfl (lv_at hl 1 rfl) ?_
    refine lv_aload_n hx hb dX11_look_10 rfl (lv_at hl 0 rfl) ?_
    refine xr_getI hx hb hts iw_X11_look_11 hown hK hP hF 11 16 rfl (by decide) (by decide +kernel) ⟨rfl, rfl, rfl⟩ dX11_look_11 (fun v3 hF => ?_)
    refine lv_icmp_lt (tgt := 19) hx hb dX11_look_14 (by decide) (fun c4 => ?_) (fun c4 => ?_)
    · replace hF := it_t hF c4
      refine lv_iload_n hx hb dX11_look_19 rfl (lv_at hl 2 rfl) ?_
      by_cases c5 : a2 = 0
      · replace hF := it_t hF c5
        refine lv_tableIn (off := 44) (tgt := 64) hx hb dX11_look_20 (by rw [c5]; decide) (by rw [c5]; decide) (by rw [c5]; decide) (by decide) ?_
        refine lv_aload_n hx hb dX11_look_64 rfl (lv_at hl 0 rfl) ?_
        refine xr_getR hx hb hts iw_X11_look_11 hown hK hP hF 11 19 rfl (by decide) (by decide +kernel) ⟨rfl, rfl, rfl⟩ dX11_look_65 (fun v6 hF => ?_)
        refine lv_iload_n hx hb dX11_look_68 rfl (lv_at hl 1 rfl) ?_
        refine xr_aI hx hb hK hP hF dX11_look_69 (fun v7 hF => ?_)
        cases hF
        exact W.iret hx hb hr (fun t ht hW => ⟨rfl, by rw [ht]; exact hP, hS.F ht⟩) hS.2.2 dX11_look_70 hlk
      replace hF := it_f hF c5
      by_cases c8 : a2 = 1
      · replace hF := it_t hF c8
        refine lv_tableIn (off := 51) (tgt := 71) hx hb dX11_look_20 (by rw [c8]; decide) (by rw [c8]; decide) (by rw [c8]; decide) (by decide) ?_
        refine lv_aload_n hx hb dX11_look_71 rfl (lv_at hl 0 rfl) ?_
        refine xr_getR hx hb hts iw_X11_look_11 hown hK hP hF 11 20 rfl (by decide) (by decide +kernel) ⟨rfl, rfl, rfl⟩ dX11_look_72 (fun v9 hF => ?_)
        refine lv_iload_n hx hb dX11_look_75 rfl (lv_at hl 1 rfl) ?_
        refine xr_aI hx hb hK hP hF dX11_look_76 (fun v10 hF => ?_)
        cases hF
        exact W.iret hx hb hr (fun t ht hW => ⟨rfl, by rw [ht]; exact hP, hS.F ht⟩) hS.2.2 dX11_look_77 hlk
      replace hF := it_f hF c8
      by_cases c11 : a2 = 2
      · replace hF := it_t hF c11
        refine lv_tableIn (off := 58) (tgt := 78) hx hb dX11_look_20 (by rw [c11]; decide) (by rw [c11]; decide) (by rw [c11]; decide) (by decide) ?_
        refine lv_aload_n hx hb dX11_look_78 rfl (lv_at hl 0 rfl) ?_
        refine xr_getR hx hb hts iw_X11_look_11 hown hK hP hF 11 21 rfl (by decide) (by decide +kernel) ⟨rfl, rfl, rfl⟩ dX11_look_79 (fun v12 hF => ?_)
        refine lv_iload_n hx hb dX11_look_82 rfl (lv_at hl 1 rfl) ?_
        refine xr_aI hx hb hK hP hF dX11_look_83 (fun v13 hF => ?_)
        cases hF
        exact W.iret hx hb hr (fun t ht hW => ⟨rfl, by rw [ht]; exact hP, hS.F ht⟩) hS.2.2 dX11_look_84 hlk
      replace hF := it_f hF c11
      by_cases c14 : a2 = 3
      · replace hF := it_t hF c14
        refine lv_tableIn (off := 65) (tgt := 85) hx hb dX11_look_20 (by rw [c14]; decide) (by rw [c14]; decide) (by rw [c14]; decide) (by decide) ?_
        refine lv_aload_n hx hb dX11_look_85 rfl (lv_at hl 0 rfl) ?_
        refine xr_getR hx hb hts iw_X11_look_11 hown hK hP hF 11 17 rfl (by decide) (by decide +kernel) ⟨rfl, rfl, rfl⟩ dX11_look_86 (fun v15 hF => ?_)
        refine lv_iload_n hx hb dX11_look_89 rfl (lv_at hl 1 rfl) ?_
        refine xr_aI hx hb hK hP hF dX11_look_90 (fun v16 hF => ?_)
        cases hF
        exact W.iret hx hb hr (fun t ht hW => ⟨rfl, by rw [ht]; exact hP, hS.F ht⟩) hS.2.2 dX11_look_91 hlk
      replace hF := it_f hF c14
      by_cases c17 : a2 = 4
      · replace hF := it_t hF c17
        refine lv_tableIn (off := 72) (tgt := 92) hx hb dX11_look_20 (by rw [c17]; decide) (by rw [c17]; decide) (by rw [c17]; decide) (by decide) ?_
        refine lv_aload_n hx hb dX11_look_92 rfl (lv_at hl 0 rfl) ?_
        refine xr_getR hx hb hts iw_X11_look_11 hown hK hP hF 11 22 rfl (by decide) (by decide +kernel) ⟨rfl, rfl, rfl⟩ dX11_look_93 (fun v18 hF => ?_)
        refine lv_iload_n hx hb dX11_look_96 rfl (lv_at hl 1 rfl) ?_
        refine xr_aI hx hb hK hP hF dX11_look_97 (fun v19 hF => ?_)
        cases hF
        exact W.iret hx hb hr (fun t ht hW => ⟨rfl, by rw [ht]; exact hP, hS.F ht⟩) hS.2.2 dX11_look_98 hlk
      replace hF := it_f hF c17
      by_cases c20 : a2 = 5
      · replace hF := it_t hF c20
        refine lv_tableIn (off := 79) (tgt := 99) hx hb dX11_look_20 (by rw [c20]; decide) (by rw [c20]; decide) (by rw [c20]; decide) (by decide) ?_
        refine lv_aload_n hx hb dX11_look_99 rfl (lv_at hl 0 rfl) ?_
        refine xr_getR hx hb hts iw_X11_look_11 hown hK hP hF 11 23 rfl (by decide) (by decide +kernel) ⟨rfl, rfl, rfl⟩ dX11_look_100 (fun v21 hF => ?_)
        refine lv_iload_n hx hb dX11_look_103 rfl (lv_at hl 1 rfl) ?_
        refine xr_aI hx hb hK hP hF dX11_look_104 (fun v22 hF => ?_)
        cases hF
        exact W.iret hx hb hr (fun t ht hW => ⟨rfl, by rw [ht]; exact hP, hS.F ht⟩) hS.2.2 dX11_look_105 hlk
      replace hF := it_f hF c20
      by_cases c23 : a2 = 6
      · replace hF := it_t hF c23
        refine lv_tableIn (off := 86) (tgt := 106) hx hb dX11_look_20 (by rw [c23]; decide) (by rw [c23]; decide) (by rw [c23]; decide) (by decide) ?_
        refine lv_aload_n hx hb dX11_look_106 rfl (lv_at hl 0 rfl) ?_
        refine xr_getR hx hb hts iw_X11_look_11 hown hK hP hF 11 24 rfl (by decide) (by decide +kernel) ⟨rfl, rfl, rfl⟩ dX11_look_107 (fun v24 hF => ?_)
        refine lv_iload_n hx hb dX11_look_110 rfl (lv_at hl 1 rfl) ?_
        refine xr_aZ hx hb hK hP hF dX11_look_111 (fun v25 hF => ?_)
        refine lv_if_eq (tgt := 119) hx hb dX11_look_112 (by decide) (fun c26 => ?_) (fun c26 => ?_)
        · replace hF := it_t hF c26
          refine lv_iconst (v := 0) hx hb dX11_look_119 (by decide) ?_
          cases hF
          exact W.iret hx hb hr (fun t ht hW => ⟨rfl, by rw [ht]; exact hP, hS.F ht⟩) hS.2.2 dX11_look_120 hlk
        · replace hF := it_f hF c26
          refine lv_iconst (v := 1) hx hb dX11_look_115 (by decide) ?_
          refine lv_goto (tgt := 120) hx hb dX11_look_116 (by decide) ?_
          cases hF
          exact W.iret hx hb hr (fun t ht hW => ⟨rfl, by rw [ht]; exact hP, hS.F ht⟩) hS.2.2 dX11_look_120 hlk
      replace hF := it_f hF c23
      refine lv_tableOut (tgt := 121) hx hb dX11_look_20 (by have := lv_neT c5 (by decide : (0 : Int32).toInt = 0); have := lv_neT c8 (by decide : (1 : Int32).toInt = 1); have := lv_neT c11 (by decide : (2 : Int32).toInt = 2); have := lv_neT c14 (by decide : (3 : Int32).toInt = 3); have := lv_neT c17 (by decide : (4 : Int32).toInt = 4); have := lv_neT c20 (by decide : (5 : Int32).toInt = 5); have := lv_neT c23 (by decide : (6 : Int32).toInt = 6); omega) (by decide) ?_
      refine lv_iconst (v := (-1)) hx hb dX11_look_121 (by decide) ?_
      cases hF
      exact W.iret hx hb hr (fun t ht hW => ⟨rfl, by rw [ht]; exact hP, hS.F ht⟩) hS.2.2 dX11_look_122 hlk
    · replace hF := it_f hF c4
      refine lv_iconst (v := (-1)) hx hb dX11_look_17 (by decide) ?_
      cases hF
      exact W.iret hx hb hr (fun t ht hW => ⟨rfl, by rw [ht]; exact hP, hS.F ht⟩) hS.2.2 dX11_look_18 hlk
/-! X11_prove -/
theorem iw_X11_prove_11 : ∀ w ∈ u_ws RX11 TX11 58, w ∈ wsX11_prove := by decide +kernel
abbrev rm_X11_prove : Room := { frames := 1, cells := 0, slots := 0, locals := 25 }
theorem gk_X11_prove {M : Mm} {a0 : Nat} {a1 : Int32} {a2 : Int32} {a3 : Int32} {r : (Mm × Int32)} (h : f_X11_prove M a0 a1 a2 a3 = some r) : mK M a0 = 12 := by
  unfold f_X11_prove at h
  exact (if_some h).1
set_option maxHeartbeats 4000000 in
set_option maxRecDepth 100000 in
theorem ct_X11_prove (l : Launch) (b0 : Nat) (D : va_G) (cy : Nat → ClassId) (M : Mm) (a0 : Nat) (a1 : Int32) (a2 : Int32) (a3 : Int32) (M1 : Mm) (r : Int32) (hF : f_X11_prove M a0 a1 a2 a3 = some (M1, r)) : Met l yX11_prove wsX11_prove rm_X11_prove (va_Pc [.ref a0, .int a1, .int a2, .int a3] (Pm b0 D cy M)) (Qm b0 D cy M1 (some (.int r))) 0 0 (BA b0) := by
  refine ct_of [.ref a0, .int a1, .int a2, .int a3] (by decide) rfl ?_
  intro p e s m below meth c CX hP
  obtain ⟨hx, hb, hr, hml, hown0, hts, hlk, hK, hN, hb0, hnm⟩ := id CX
  have hown : s.vm.findClass RX11 = some m.cls := hown0
  have hS : va_S (BA b0) s.heap s.heap [] := va_S.rf
  have hl := lv_entry [.ref a0, .int a1, .int a2, .int a3] (n := 4) (Nat.le_of_ble_eq_true rfl)
  generalize (lg_sl [.ref a0, .int a1, .int a2, .int a3] ++ List.replicate (4 - (lg_sl [.ref a0, .int a1, .int a2, .int a3]).length) Slot.unset).toArray = ls at hl ⊢
  have hl : lv_has ls 4 [(0, .ref a0), (1, .int a1), (2, .int a2), (3, .int a3)] := hl
  unfold f_X11_prove at hF
  replace hF := (if_some hF).2
  refine lv_aload_n hx hb dX11_prove_0 rfl (lv_at hl 0 rfl) ?_
  refine lv_iconst (v := 0) hx hb dX11_prove_1 (by decide) ?_
  refine xr_putI hx hb hts iw_X11_prove_11 hown hK hP hS hF 11 0 rfl (by decide) tyX11 tyX11_ok nmX11 (by decide +kernel) (Or.inl rfl) rfl ⟨rfl, rfl, rfl⟩ dX11_prove_2 (fun M1 H locs hF hP hS => ?_)
  refine lv_iload_n hx hb dX11_prove_5 rfl (lv_at hl 1 rfl) ?_
  refine lv_if_lt (tgt := 64) hx hb dX11_prove_6 (by decide) (fun c2 => ?_) (fun c2 => ?_)
  · replace hF := it_t hF c2
    refine lv_iconst (v := (-1)) hx hb dX11_prove_64 (by decide) ?_
    cases hF
    exact W.iret hx hb hr (fun t ht hW => ⟨rfl, by rw [ht]; exact hP, hS.F ht⟩) hS.2.2 dX11_prove_65 hlk
  · replace hF := it_f hF c2
    refine lv_iload_n hx hb dX11_prove_9 rfl (lv_at hl 1 rfl) ?_
    refine lv_aload_n hx hb dX11_prove_10 rfl (lv_at hl 0 rfl) ?_
    refine xr_getI hx hb hts iw_X11_prove_11 hown hK hP hF 11 16 rfl (by decide) (by decide +kernel) ⟨rfl, rfl, rfl⟩ dX11_prove_11 (fun v3 hF => ?_)
    refine lv_icmp_ge (tgt := 64) hx hb dX11_prove_14 (by decide) (fun c4 => ?_) (fun c4 => ?_)
    · replace hF := it_t hF c4
      refine lv_iconst (v := (-1)) hx hb dX11_prove_64 (by decide) ?_
      cases hF
      exact W.iret hx hb hr (fun t ht hW => ⟨rfl, by rw [ht]; exact hP, hS.F ht⟩) hS.2.2 dX11_prove_65 hlk
    · replace hF := it_f hF c4
      refine lv_aload_n hx hb dX11_prove_17 rfl (lv_at hl 0 rfl) ?_
      refine xr_getR hx hb hts iw_X11_prove_11 hown hK hP hF 11 25 rfl (by decide) (by decide +kernel) ⟨rfl, rfl, rfl⟩ dX11_prove_18 (fun v5 hF => ?_)
      refine lv_iload_n hx hb dX11_prove_21 rfl (lv_at hl 1 rfl) ?_
      refine xr_aZ hx hb hK hP hF dX11_prove_22 (fun v6 hF => ?_)
      refine lv_if_ne (tgt := 64) hx hb dX11_prove_23 (by decide) (fun c7 => ?_) (fun c7 => ?_)
      · replace hF := it_f hF c7
        refine lv_iconst (v := (-1)) hx hb dX11_prove_64 (by decide) ?_
        cases hF
        exact W.iret hx hb hr (fun t ht hW => ⟨rfl, by rw [ht]; exact hP, hS.F ht⟩) hS.2.2 dX11_prove_65 hlk
      · replace hF := it_t hF c7
        refine lv_aload_n hx hb dX11_prove_26 rfl (lv_at hl 0 rfl) ?_
        refine xr_getR hx hb hts iw_X11_prove_11 hown hK hP hF 11 19 rfl (by decide) (by decide +kernel) ⟨rfl, rfl, rfl⟩ dX11_prove_27 (fun v8 hF => ?_)
        refine lv_iload_n hx hb dX11_prove_30 rfl (lv_at hl 1 rfl) ?_
        refine xr_aI hx hb hK hP hF dX11_prove_31 (fun v9 hF => ?_)
        refine lv_iconst (v := 2) hx hb dX11_prove_32 (by decide) ?_
        refine lv_icmp_ne (tgt := 64) hx hb dX11_prove_33 (by decide) (fun c10 => ?_) (fun c10 => ?_)
        · replace hF := it_f hF c10
          refine lv_iconst (v := (-1)) hx hb dX11_prove_64 (by decide) ?_
          cases hF
          exact W.iret hx hb hr (fun t ht hW => ⟨rfl, by rw [ht]; exact hP, hS.F ht⟩) hS.2.2 dX11_prove_65 hlk
        · replace hF := it_t hF c10
          refine lv_aload_n hx hb dX11_prove_36 rfl (lv_at hl 0 rfl) ?_
          refine lv_iload_n hx hb dX11_prove_37 rfl (lv_at hl 2 rfl) ?_
          obtain ⟨v12, h11, hF⟩ := ob_some hF
          refine xr_call1 (va_runV (As := [.int a2]) (rest := []) ⟨hx, hb, hml, hown, hts⟩ (ct_X11_isField l b0 D cy M1 a0 a2 v12 h11) (cwV 1 hts gX11_prove_X11_isField rfl rfl rfl (by decide +kernel) ⟨Nat.le_of_ble_eq_true rfl, Nat.le_of_ble_eq_true rfl⟩) (xp_V hP hK hN hS hb0 11 rfl (gk_X11_isField h11)) rfl rfl hl.1 rfl (lv_room (Nat.le_of_ble_eq_true rfl)) dX11_prove_38 ⟨Nat.le_of_ble_eq_true rfl, Nat.le_of_ble_eq_true rfl⟩) hS (fun H locs hP hS => ?_)
          refine lv_if_eq (tgt := 64) hx hb dX11_prove_41 (by decide) (fun c13 => ?_) (fun c13 => ?_)
          · replace hF := it_t hF c13
            refine lv_iconst (v := (-1)) hx hb dX11_prove_64 (by decide) ?_
            cases hF
            exact W.iret hx hb hr (fun t ht hW => ⟨rfl, by rw [ht]; exact hP, hS.F ht⟩) hS.2.2 dX11_prove_65 hlk
          · replace hF := it_f hF c13
            refine lv_aload_n hx hb dX11_prove_44 rfl (lv_at hl 0 rfl) ?_
            refine lv_iload_n hx hb dX11_prove_45 rfl (lv_at hl 2 rfl) ?_
            obtain ⟨v15, h14, hF⟩ := ob_some hF
            refine xr_call1 (va_runV (As := [.int a2]) (rest := []) ⟨hx, hb, hml, hown, hts⟩ (ct_X11_runs l b0 D cy M1 a0 a2 v15 h14) (cwV 1 hts gX11_prove_X11_runs rfl rfl rfl (by decide +kernel) ⟨Nat.le_of_ble_eq_true rfl, Nat.le_of_ble_eq_true rfl⟩) (xp_V hP hK hN hS hb0 11 rfl (gk_X11_runs h14)) rfl rfl hl.1 rfl (lv_room (Nat.le_of_ble_eq_true rfl)) dX11_prove_46 ⟨Nat.le_of_ble_eq_true rfl, Nat.le_of_ble_eq_true rfl⟩) hS (fun H locs hP hS => ?_)
            refine lv_if_eq (tgt := 64) hx hb dX11_prove_49 (by decide) (fun c16 => ?_) (fun c16 => ?_)
            · replace hF := it_t hF c16
              refine lv_iconst (v := (-1)) hx hb dX11_prove_64 (by decide) ?_
              cases hF
              exact W.iret hx hb hr (fun t ht hW => ⟨rfl, by rw [ht]; exact hP, hS.F ht⟩) hS.2.2 dX11_prove_65 hlk
            · replace hF := it_f hF c16
              refine lv_iload_n hx hb dX11_prove_52 rfl (lv_at hl 3 rfl) ?_
              refine lv_i2l hx hb dX11_prove_53 rfl ?_
              refine lv_lconst (v := 0) hx hb dX11_prove_54 (by decide) ?_
              refine lv_ldc2 (v := 3) hx hb hown (hts (.constantLong RX11 317 3) (by decide +kernel)) dX11_prove_55 ?_
              obtain ⟨v18, h17, hF⟩ := ob_some hF
              refine xr_call1 (va_runS (As := [.long a3.toInt64, .long 0, .long 3]) (rest := []) ⟨hx, hb, hml, hown, hts⟩ (ct_X11_isIn l b0 D cy M1 a3.toInt64 0 3 v18 h17) (va_cwS 3 hts gX11_prove_X11_isIn rfl rfl rfl (by decide +kernel) ⟨Nat.le_of_ble_eq_true rfl, Nat.le_of_ble_eq_true rfl⟩) (xp_S hP hK hN hS hb0) rfl rfl hl.1 rfl (lv_room (Nat.le_of_ble_eq_true rfl)) dX11_prove_58 ⟨Nat.le_of_ble_eq_true rfl, Nat.le_of_ble_eq_true rfl⟩) hS (fun H locs hP hS => ?_)
              refine lv_if_ne (tgt := 66) hx hb dX11_prove_61 (by decide) (fun c19 => ?_) (fun c19 => ?_)
              · replace hF := it_f hF c19
                refine lv_iload_n hx hb dX11_prove_66 rfl (lv_at hl 3 rfl) ?_
                refine lv_if_ne (tgt := 84) hx hb dX11_prove_67 (by decide) (fun c20 => ?_) (fun c20 => ?_)
                · replace hF := it_f hF c20
                  refine lv_iload_n hx hb dX11_prove_84 rfl (lv_at hl 3 rfl) ?_
                  refine lv_iconst (v := 1) hx hb dX11_prove_85 (by decide) ?_
                  refine lv_icmp_ne (tgt := 103) hx hb dX11_prove_86 (by decide) (fun c21 => ?_) (fun c21 => ?_)
                  · replace hF := it_f hF c21
                    refine lv_iload_n hx hb dX11_prove_103 rfl (lv_at hl 3 rfl) ?_
                    refine lv_iconst (v := 2) hx hb dX11_prove_104 (by decide) ?_
                    refine lv_icmp_ne (tgt := 117) hx hb dX11_prove_105 (by decide) (fun c22 => ?_) (fun c22 => ?_)
                    · replace hF := it_f hF c22
                      refine lv_aload_n hx hb dX11_prove_117 rfl (lv_at hl 0 rfl) ?_
                      refine xr_getR hx hb hts iw_X11_prove_11 hown hK hP hF 11 29 rfl (by decide) (by decide +kernel) ⟨rfl, rfl, rfl⟩ dX11_prove_118 (fun v23 hF => ?_)
                      refine lv_iload_n hx hb dX11_prove_121 rfl (lv_at hl 1 rfl) ?_
                      refine xr_aI hx hb hK hP hF dX11_prove_122 (fun v24 hF => ?_)
                      cases hF
                      exact W.iret hx hb hr (fun t ht hW => ⟨rfl, by rw [ht]; exact hP, hS.F ht⟩) hS.2.2 dX11_prove_123 hlk
                    · replace hF := it_t hF c22
                      refine lv_aload_n hx hb dX11_prove_108 rfl (lv_at hl 0 rfl) ?_
                      refine xr_getR hx hb hts iw_X11_prove_11 hown hK hP hF 11 28 rfl (by decide) (by decide +kernel) ⟨rfl, rfl, rfl⟩ dX11_prove_109 (fun v25 hF => ?_)
                      refine lv_iload_n hx hb dX11_prove_112 rfl (lv_at hl 1 rfl) ?_
                      refine xr_aI hx hb hK hP hF dX11_prove_113 (fun v26 hF => ?_)
                      refine lv_goto (tgt := 123) hx hb dX11_prove_114 (by decide) ?_
                      cases hF
                      exact W.iret hx hb hr (fun t ht hW => ⟨rfl, by rw [ht]; exact hP, hS.F ht⟩) hS.2.2 dX11_prove_123 hlk
                  · replace hF := it_t hF c21
                    refine lv_aload_n hx hb dX11_prove_89 rfl (lv_at hl 0 rfl) ?_
                    refine xr_getR hx hb hts iw_X11_prove_11 hown hK hP hF 11 27 rfl (by decide) (by decide +kernel) ⟨rfl, rfl, rfl⟩ dX11_prove_90 (fun v27 hF => ?_)
                    refine lv_bipush (v := 8) hx hb dX11_prove_93 (by decide) ?_
                    refine lv_iload_n hx hb dX11_prove_95 rfl (lv_at hl 1 rfl) ?_
                    refine lv_imul hx hb dX11_prove_96 ?_
                    refine lv_iload_n hx hb dX11_prove_97 rfl (lv_at hl 2 rfl) ?_
                    refine lv_iadd hx hb dX11_prove_98 ?_
                    refine xr_aI hx hb hK hP hF dX11_prove_99 (fun v28 hF => ?_)
                    refine lv_goto (tgt := 123) hx hb dX11_prove_100 (by decide) ?_
                    cases hF
                    exact W.iret hx hb hr (fun t ht hW => ⟨rfl, by rw [ht]; exact hP, hS.F ht⟩) hS.2.2 dX11_prove_123 hlk
                · replace hF := it_t hF c20
                  refine lv_aload_n hx hb dX11_prove_70 rfl (lv_at hl 0 rfl) ?_
                  refine xr_getR hx hb hts iw_X11_prove_11 hown hK hP hF 11 26 rfl (by decide) (by decide +kernel) ⟨rfl, rfl, rfl⟩ dX11_prove_71 (fun v29 hF => ?_)
                  refine lv_bipush (v := 8) hx hb dX11_prove_74 (by decide) ?_
                  refine lv_iload_n hx hb dX11_prove_76 rfl (lv_at hl 1 rfl) ?_
                  refine lv_imul hx hb dX11_prove_77 ?_
                  refine lv_iload_n hx hb dX11_prove_78 rfl (lv_at hl 2 rfl) ?_
                  refine lv_iadd hx hb dX11_prove_79 ?_
                  refine xr_aI hx hb hK hP hF dX11_prove_80 (fun v30 hF => ?_)
                  refine lv_goto (tgt := 123) hx hb dX11_prove_81 (by decide) ?_
                  cases hF
                  exact W.iret hx hb hr (fun t ht hW => ⟨rfl, by rw [ht]; exact hP, hS.F ht⟩) hS.2.2 dX11_prove_123 hlk
              · replace hF := it_t hF c19
                refine lv_iconst (v := (-1)) hx hb dX11_prove_64 (by decide) ?_
                cases hF
                exact W.iret hx hb hr (fun t ht hW => ⟨rfl, by rw [ht]; exact hP, hS.F ht⟩) hS.2.2 dX11_prove_65 hlk
/-! X11_got -/
theorem iw_X11_got_11 : ∀ w ∈ u_ws RX11 TX11 58, w ∈ wsX11_got := by decide +kernel
abbrev rm_X11_got : Room := { frames := 1, cells := 0, slots := 0, locals := 21 }
theorem gk_X11_got {M : Mm} {a0 : Nat} {a1 : Int32} {r : (Mm × Int64)} (h : f_X11_got M a0 a1 = some r) : mK M a0 = 12 := by
  unfold f_X11_got at h
  exact (if_some h).1
set_option maxHeartbeats 4000000 in
set_option maxRecDepth 100000 in
theorem ct_X11_got (l : Launch) (b0 : Nat) (D : va_G) (cy : Nat → ClassId) (M : Mm) (a0 : Nat) (a1 : Int32) (M1 : Mm) (r : Int64) (hF : f_X11_got M a0 a1 = some (M1, r)) : Met l yX11_got wsX11_got rm_X11_got (va_Pc [.ref a0, .int a1] (Pm b0 D cy M)) (Qm b0 D cy M1 (some (.long r))) 0 0 (BA b0) := by
  refine ct_of [.ref a0, .int a1] (by decide) rfl ?_
  intro p e s m below meth c CX hP
  obtain ⟨hx, hb, hr, hml, hown0, hts, hlk, hK, hN, hb0, hnm⟩ := id CX
  have hown : s.vm.findClass RX11 = some m.cls := hown0
  have hS : va_S (BA b0) s.heap s.heap [] := va_S.rf
  have hl := lv_entry [.ref a0, .int a1] (n := 2) (Nat.le_of_ble_eq_true rfl)
  generalize (lg_sl [.ref a0, .int a1] ++ List.replicate (2 - (lg_sl [.ref a0, .int a1]).length) Slot.unset).toArray = ls at hl ⊢
  have hl : lv_has ls 2 [(0, .ref a0), (1, .int a1)] := hl
  unfold f_X11_got at hF
  replace hF := (if_some hF).2
  refine lv_aload_n hx hb dX11_got_0 rfl (lv_at hl 0 rfl) ?_
  refine lv_iconst (v := 0) hx hb dX11_got_1 (by decide) ?_
  refine xr_putI hx hb hts iw_X11_got_11 hown hK hP hS hF 11 0 rfl (by decide) tyX11 tyX11_ok nmX11 (by decide +kernel) (Or.inl rfl) rfl ⟨rfl, rfl, rfl⟩ dX11_got_2 (fun M1 H locs hF hP hS => ?_)
  refine lv_aload_n hx hb dX11_got_5 rfl (lv_at hl 0 rfl) ?_
  refine lv_iload_n hx hb dX11_got_6 rfl (lv_at hl 1 rfl) ?_
  obtain ⟨v3, h2, hF⟩ := ob_some hF
  refine xr_call1 (va_runV (As := [.int a1]) (rest := []) ⟨hx, hb, hml, hown, hts⟩ (ct_X11_isField l b0 D cy M1 a0 a1 v3 h2) (cwV 1 hts gX11_got_X11_isField rfl rfl rfl (by decide +kernel) ⟨Nat.le_of_ble_eq_true rfl, Nat.le_of_ble_eq_true rfl⟩) (xp_V hP hK hN hS hb0 11 rfl (gk_X11_isField h2)) rfl rfl hl.1 rfl (lv_room (Nat.le_of_ble_eq_true rfl)) dX11_got_7 ⟨Nat.le_of_ble_eq_true rfl, Nat.le_of_ble_eq_true rfl⟩) hS (fun H locs hP hS => ?_)
  refine lv_if_ne (tgt := 19) hx hb dX11_got_10 (by decide) (fun c4 => ?_) (fun c4 => ?_)
  · replace hF := it_f hF c4
    refine lv_aload_n hx hb dX11_got_19 rfl (lv_at hl 0 rfl) ?_
    refine xr_getI hx hb hts iw_X11_got_11 hown hK hP hF 11 35 rfl (by decide) (by decide +kernel) ⟨rfl, rfl, rfl⟩ dX11_got_20 (fun v5 hF => ?_)
    refine lv_if_ne (tgt := 32) hx hb dX11_got_23 (by decide) (fun c6 => ?_) (fun c6 => ?_)
    · replace hF := it_f hF c6
      refine lv_aload_n hx hb dX11_got_32 rfl (lv_at hl 0 rfl) ?_
      refine xr_getR hx hb hts iw_X11_got_11 hown hK hP hF 11 39 rfl (by decide) (by decide +kernel) ⟨rfl, rfl, rfl⟩ dX11_got_33 (fun v7 hF => ?_)
      refine lv_iload_n hx hb dX11_got_36 rfl (lv_at hl 1 rfl) ?_
      refine xr_aJ hx hb hK hP hF dX11_got_37 (fun v8 hF => ?_)
      cases hF
      exact W.lret hx hb hr (fun t ht hW => ⟨rfl, by rw [ht]; exact hP, hS.F ht⟩) hS.2.2 dX11_got_38 hlk
    · replace hF := it_t hF c6
      refine lv_ldc2 (v := (-2)) hx hb hown (hts (.constantLong RX11 319 (-2)) (by decide +kernel)) dX11_got_26 ?_
      refine lv_goto (tgt := 38) hx hb dX11_got_29 (by decide) ?_
      cases hF
      exact W.lret hx hb hr (fun t ht hW => ⟨rfl, by rw [ht]; exact hP, hS.F ht⟩) hS.2.2 dX11_got_38 hlk
  · replace hF := it_t hF c4
    refine lv_ldc2 (v := (-1)) hx hb hown (hts (.constantLong RX11 169 (-1)) (by decide +kernel)) dX11_got_13 ?_
    refine lv_goto (tgt := 38) hx hb dX11_got_16 (by decide) ?_
    cases hF
    exact W.lret hx hb hr (fun t ht hW => ⟨rfl, by rw [ht]; exact hP, hS.F ht⟩) hS.2.2 dX11_got_38 hlk
/-! X11_way -/
theorem iw_X11_way_11 : ∀ w ∈ u_ws RX11 TX11 58, w ∈ wsX11_way := by decide +kernel
abbrev rm_X11_way : Room := { frames := 1, cells := 0, slots := 0, locals := 21 }
theorem gk_X11_way {M : Mm} {a0 : Nat} {a1 : Int32} {r : (Mm × Int32)} (h : f_X11_way M a0 a1 = some r) : mK M a0 = 12 := by
  unfold f_X11_way at h
  exact (if_some h).1
set_option maxHeartbeats 4000000 in
set_option maxRecDepth 100000 in
theorem ct_X11_way (l : Launch) (b0 : Nat) (D : va_G) (cy : Nat → ClassId) (M : Mm) (a0 : Nat) (a1 : Int32) (M1 : Mm) (r : Int32) (hF : f_X11_way M a0 a1 = some (M1, r)) : Met l yX11_way wsX11_way rm_X11_way (va_Pc [.ref a0, .int a1] (Pm b0 D cy M)) (Qm b0 D cy M1 (some (.int r))) 0 0 (BA b0) := by
  refine ct_of [.ref a0, .int a1] (by decide) rfl ?_
  intro p e s m below meth c CX hP
  obtain ⟨hx, hb, hr, hml, hown0, hts, hlk, hK, hN, hb0, hnm⟩ := id CX
  have hown : s.vm.findClass RX11 = some m.cls := hown0
  have hS : va_S (BA b0) s.heap s.heap [] := va_S.rf
  have hl := lv_entry [.ref a0, .int a1] (n := 2) (Nat.le_of_ble_eq_true rfl)
  generalize (lg_sl [.ref a0, .int a1] ++ List.replicate (2 - (lg_sl [.ref a0, .int a1]).length) Slot.unset).toArray = ls at hl ⊢
  have hl : lv_has ls 2 [(0, .ref a0), (1, .int a1)] := hl
  unfold f_X11_way at hF
  replace hF := (if_some hF).2
  refine lv_aload_n hx hb dX11_way_0 rfl (lv_at hl 0 rfl) ?_
  refine lv_iconst (v := 0) hx hb dX11_way_1 (by decide) ?_
  refine xr_putI hx hb hts iw_X11_way_11 hown hK hP hS hF 11 0 rfl (by decide) tyX11 tyX11_ok nmX11 (by decide +kernel) (Or.inl rfl) rfl ⟨rfl, rfl, rfl⟩ dX11_way_2 (fun M1 H locs hF hP hS => ?_)
  refine lv_aload_n hx hb dX11_way_5 rfl (lv_at hl 0 rfl) ?_
  refine lv_iload_n hx hb dX11_way_6 rfl (lv_at hl 1 rfl) ?_
  obtain ⟨v3, h2, hF⟩ := ob_some hF
  refine xr_call1 (va_runV (As := [.int a1]) (rest := []) ⟨hx, hb, hml, hown, hts⟩ (ct_X11_isField l b0 D cy M1 a0 a1 v3 h2) (cwV 1 hts gX11_way_X11_isField rfl rfl rfl (by decide +kernel) ⟨Nat.le_of_ble_eq_true rfl, Nat.le_of_ble_eq_true rfl⟩) (xp_V hP hK hN hS hb0 11 rfl (gk_X11_isField h2)) rfl rfl hl.1 rfl (lv_room (Nat.le_of_ble_eq_true rfl)) dX11_way_7 ⟨Nat.le_of_ble_eq_true rfl, Nat.le_of_ble_eq_true rfl⟩) hS (fun H locs hP hS => ?_)
  refine lv_if_ne (tgt := 17) hx hb dX11_way_10 (by decide) (fun c4 => ?_) (fun c4 => ?_)
  · replace hF := it_f hF c4
    refine lv_aload_n hx hb dX11_way_17 rfl (lv_at hl 0 rfl) ?_
    refine xr_getI hx hb hts iw_X11_way_11 hown hK hP hF 11 35 rfl (by decide) (by decide +kernel) ⟨rfl, rfl, rfl⟩ dX11_way_18 (fun v5 hF => ?_)
    refine lv_if_ne (tgt := 29) hx hb dX11_way_21 (by decide) (fun c6 => ?_) (fun c6 => ?_)
    · replace hF := it_f hF c6
      refine lv_aload_n hx hb dX11_way_29 rfl (lv_at hl 0 rfl) ?_
      refine xr_getR hx hb hts iw_X11_way_11 hown hK hP hF 11 40 rfl (by decide) (by decide +kernel) ⟨rfl, rfl, rfl⟩ dX11_way_30 (fun v7 hF => ?_)
      refine lv_iload_n hx hb dX11_way_33 rfl (lv_at hl 1 rfl) ?_
      refine xr_aI hx hb hK hP hF dX11_way_34 (fun v8 hF => ?_)
      cases hF
      exact W.iret hx hb hr (fun t ht hW => ⟨rfl, by rw [ht]; exact hP, hS.F ht⟩) hS.2.2 dX11_way_35 hlk
    · replace hF := it_t hF c6
      refine lv_bipush (v := (-2)) hx hb dX11_way_24 (by decide) ?_
      refine lv_goto (tgt := 35) hx hb dX11_way_26 (by decide) ?_
      cases hF
      exact W.iret hx hb hr (fun t ht hW => ⟨rfl, by rw [ht]; exact hP, hS.F ht⟩) hS.2.2 dX11_way_35 hlk
  · replace hF := it_t hF c4
    refine lv_iconst (v := (-1)) hx hb dX11_way_13 (by decide) ?_
    refine lv_goto (tgt := 35) hx hb dX11_way_14 (by decide) ?_
    cases hF
    exact W.iret hx hb hr (fun t ht hW => ⟨rfl, by rw [ht]; exact hP, hS.F ht⟩) hS.2.2 dX11_way_35 hlk
/-! X11_hung -/
theorem iw_X11_hung_11 : ∀ w ∈ u_ws RX11 TX11 58, w ∈ wsX11_hung := by decide +kernel
abbrev rm_X11_hung : Room := { frames := 1, cells := 0, slots := 0, locals := 25 }
theorem gk_X11_hung {M : Mm} {a0 : Nat} {a1 : Int32} {r : (Mm × Int32)} (h : f_X11_hung M a0 a1 = some r) : mK M a0 = 12 := by
  unfold f_X11_hung at h
  exact (if_some h).1
set_option maxHeartbeats 4000000 in
set_option maxRecDepth 100000 in
theorem ct_X11_hung (l : Launch) (b0 : Nat) (D : va_G) (cy : Nat → ClassId) (M : Mm) (a0 : Nat) (a1 : Int32) (M1 : Mm) (r : Int32) (hF : f_X11_hung M a0 a1 = some (M1, r)) : Met l yX11_hung wsX11_hung rm_X11_hung (va_Pc [.ref a0, .int a1] (Pm b0 D cy M)) (Qm b0 D cy M1 (some (.int r))) 0 0 (BA b0) := by
  refine ct_of [.ref a0, .int a1] (by decide) rfl ?_
  intro p e s m below meth c CX hP
  obtain ⟨hx, hb, hr, hml, hown0, hts, hlk, hK, hN, hb0, hnm⟩ := id CX
  have hown : s.vm.findClass RX11 = some m.cls := hown0
  have hS : va_S (BA b0) s.heap s.heap [] := va_S.rf
  have hl := lv_entry [.ref a0, .int a1] (n := 2) (Nat.le_of_ble_eq_true rfl)
  generalize (lg_sl [.ref a0, .int a1] ++ List.replicate (2 - (lg_sl [.ref a0, .int a1]).length) Slot.unset).toArray = ls at hl ⊢
  have hl : lv_has ls 2 [(0, .ref a0), (1, .int a1)] := hl
  unfold f_X11_hung at hF
  replace hF := (if_some hF).2
  refine lv_aload_n hx hb dX11_hung_0 rfl (lv_at hl 0 rfl) ?_
  refine lv_iconst (v := 0) hx hb dX11_hung_1 (by decide) ?_
  refine xr_putI hx hb hts iw_X11_hung_11 hown hK hP hS hF 11 0 rfl (by decide) tyX11 tyX11_ok nmX11 (by decide +kernel) (Or.inl rfl) rfl ⟨rfl, rfl, rfl⟩ dX11_hung_2 (fun M1 H locs hF hP hS => ?_)
  refine lv_iload_n hx hb dX11_hung_5 rfl (lv_at hl 1 rfl) ?_
  refine lv_i2l hx hb dX11_hung_6 rfl ?_
  refine lv_lconst (v := 0) hx hb dX11_hung_7 (by decide) ?_
  refine lv_ldc2 (v := 3) hx hb hown (hts (.constantLong RX11 317 3) (by decide +kernel)) dX11_hung_8 ?_
  obtain ⟨v3, h2, hF⟩ := ob_some hF
  refine xr_call1 (va_runS (As := [.long a1.toInt64, .long 0, .long 3]) (rest := []) ⟨hx, hb, hml, hown, hts⟩ (ct_X11_isIn l b0 D cy M1 a1.toInt64 0 3 v3 h2) (va_cwS 3 hts gX11_hung_X11_isIn rfl rfl rfl (by decide +kernel) ⟨Nat.le_of_ble_eq_true rfl, Nat.le_of_ble_eq_true rfl⟩) (xp_S hP hK hN hS hb0) rfl rfl hl.1 rfl (lv_room (Nat.le_of_ble_eq_true rfl)) dX11_hung_11 ⟨Nat.le_of_ble_eq_true rfl, Nat.le_of_ble_eq_true rfl⟩) hS (fun H locs hP hS => ?_)
  refine lv_if_ne (tgt := 19) hx hb dX11_hung_14 (by decide) (fun c4 => ?_) (fun c4 => ?_)
  · replace hF := it_f hF c4
    refine lv_iload_n hx hb dX11_hung_19 rfl (lv_at hl 1 rfl) ?_
    refine lv_iconst (v := 3) hx hb dX11_hung_20 (by decide) ?_
    refine lv_icmp_ne (tgt := 31) hx hb dX11_hung_21 (by decide) (fun c5 => ?_) (fun c5 => ?_)
    · replace hF := it_f hF c5
      refine lv_aload_n hx hb dX11_hung_31 rfl (lv_at hl 0 rfl) ?_
      refine xr_getI hx hb hts iw_X11_hung_11 hown hK hP hF 11 35 rfl (by decide) (by decide +kernel) ⟨rfl, rfl, rfl⟩ dX11_hung_32 (fun v6 hF => ?_)
      refine lv_if_ne (tgt := 43) hx hb dX11_hung_35 (by decide) (fun c7 => ?_) (fun c7 => ?_)
      · replace hF := it_f hF c7
        refine lv_iload_n hx hb dX11_hung_43 rfl (lv_at hl 1 rfl) ?_
        refine lv_if_ne (tgt := 54) hx hb dX11_hung_44 (by decide) (fun c8 => ?_) (fun c8 => ?_)
        · replace hF := it_f hF c8
          refine lv_iload_n hx hb dX11_hung_54 rfl (lv_at hl 1 rfl) ?_
          refine lv_iconst (v := 1) hx hb dX11_hung_55 (by decide) ?_
          refine lv_icmp_ne (tgt := 66) hx hb dX11_hung_56 (by decide) (fun c9 => ?_) (fun c9 => ?_)
          · replace hF := it_f hF c9
            refine lv_aload_n hx hb dX11_hung_66 rfl (lv_at hl 0 rfl) ?_
            refine xr_getI hx hb hts iw_X11_hung_11 hown hK hP hF 11 38 rfl (by decide) (by decide +kernel) ⟨rfl, rfl, rfl⟩ dX11_hung_67 (fun v10 hF => ?_)
            cases hF
            exact W.iret hx hb hr (fun t ht hW => ⟨rfl, by rw [ht]; exact hP, hS.F ht⟩) hS.2.2 dX11_hung_70 hlk
          · replace hF := it_t hF c9
            refine lv_aload_n hx hb dX11_hung_59 rfl (lv_at hl 0 rfl) ?_
            refine xr_getI hx hb hts iw_X11_hung_11 hown hK hP hF 11 37 rfl (by decide) (by decide +kernel) ⟨rfl, rfl, rfl⟩ dX11_hung_60 (fun v11 hF => ?_)
            refine lv_goto (tgt := 70) hx hb dX11_hung_63 (by decide) ?_
            cases hF
            exact W.iret hx hb hr (fun t ht hW => ⟨rfl, by rw [ht]; exact hP, hS.F ht⟩) hS.2.2 dX11_hung_70 hlk
        · replace hF := it_t hF c8
          refine lv_aload_n hx hb dX11_hung_47 rfl (lv_at hl 0 rfl) ?_
          refine xr_getI hx hb hts iw_X11_hung_11 hown hK hP hF 11 36 rfl (by decide) (by decide +kernel) ⟨rfl, rfl, rfl⟩ dX11_hung_48 (fun v12 hF => ?_)
          refine lv_goto (tgt := 70) hx hb dX11_hung_51 (by decide) ?_
          cases hF
          exact W.iret hx hb hr (fun t ht hW => ⟨rfl, by rw [ht]; exact hP, hS.F ht⟩) hS.2.2 dX11_hung_70 hlk
      · replace hF := it_t hF c7
        refine lv_bipush (v := (-2)) hx hb dX11_hung_38 (by decide) ?_
        refine lv_goto (tgt := 70) hx hb dX11_hung_40 (by decide) ?_
        cases hF
        exact W.iret hx hb hr (fun t ht hW => ⟨rfl, by rw [ht]; exact hP, hS.F ht⟩) hS.2.2 dX11_hung_70 hlk
    · replace hF := it_t hF c5
      refine lv_aload_n hx hb dX11_hung_24 rfl (lv_at hl 0 rfl) ?_
      refine xr_getI hx hb hts iw_X11_hung_11 hown hK hP hF 11 35 rfl (by decide) (by decide +kernel) ⟨rfl, rfl, rfl⟩ dX11_hung_25 (fun v13 hF => ?_)
      refine lv_goto (tgt := 70) hx hb dX11_hung_28 (by decide) ?_
      cases hF
      exact W.iret hx hb hr (fun t ht hW => ⟨rfl, by rw [ht]; exact hP, hS.F ht⟩) hS.2.2 dX11_hung_70 hlk
  · replace hF := it_t hF c4
    refine lv_iconst (v := (-1)) hx hb dX11_hung_17 (by decide) ?_
    cases hF
    exact W.iret hx hb hr (fun t ht hW => ⟨rfl, by rw [ht]; exact hP, hS.F ht⟩) hS.2.2 dX11_hung_18 hlk
/-! X11_context -/
theorem iw_X11_context_11 : ∀ w ∈ u_ws RX11 TX11 58, w ∈ wsX11_context := by decide +kernel
abbrev rm_X11_context : Room := { frames := 1, cells := 0, slots := 0, locals := 25 }
theorem gk_X11_context {M : Mm} {a0 : Nat} {a1 : Int32} {a2 : Int32} {r : (Mm × Int32)} (h : f_X11_context M a0 a1 a2 = some r) : mK M a0 = 12 := by
  unfold f_X11_context at h
  exact (if_some h).1
set_option maxHeartbeats 4000000 in
set_option maxRecDepth 100000 in
theorem ct_X11_context (l : Launch) (b0 : Nat) (D : va_G) (cy : Nat → ClassId) (M : Mm) (a0 : Nat) (a1 : Int32) (a2 : Int32) (M1 : Mm) (r : Int32) (hF : f_X11_context M a0 a1 a2 = some (M1, r)) : Met l yX11_context wsX11_context rm_X11_context (va_Pc [.ref a0, .int a1, .int a2] (Pm b0 D cy M)) (Qm b0 D cy M1 (some (.int r))) 0 0 (BA b0) := by
  refine ct_of [.ref a0, .int a1, .int a2] (by decide) rfl ?_
  intro p e s m below meth c CX hP
  obtain ⟨hx, hb, hr, hml, hown0, hts, hlk, hK, hN, hb0, hnm⟩ := id CX
  have hown : s.vm.findClass RX11 = some m.cls := hown0
  have hS : va_S (BA b0) s.heap s.heap [] := va_S.rf
  have hl := lv_entry [.ref a0, .int a1, .int a2] (n := 3) (Nat.le_of_ble_eq_true rfl)
  generalize (lg_sl [.ref a0, .int a1, .int a2] ++ List.replicate (3 - (lg_sl [.ref a0, .int a1, .int a2]).length) Slot.unset).toArray = ls at hl ⊢
  have hl : lv_has ls 3 [(0, .ref a0), (1, .int a1), (2, .int a2)] := hl
  unfold f_X11_context at hF
  replace hF := (if_some hF).2
  refine lv_aload_n hx hb dX11_context_0 rfl (lv_at hl 0 rfl) ?_
  refine lv_iconst (v := 0) hx hb dX11_context_1 (by decide) ?_
  refine xr_putI hx hb hts iw_X11_context_11 hown hK hP hS hF 11 0 rfl (by decide) tyX11 tyX11_ok nmX11 (by decide +kernel) (Or.inl rfl) rfl ⟨rfl, rfl, rfl⟩ dX11_context_2 (fun M1 H locs hF hP hS => ?_)
  refine lv_iload_n hx hb dX11_context_5 rfl (lv_at hl 1 rfl) ?_
  obtain ⟨v3, h2, hF⟩ := ob_some hF
  refine xr_call1 (va_runS (As := [.int a1]) (rest := []) ⟨hx, hb, hml, hown, hts⟩ (ct_X11_isFlow l b0 D cy M1 a1 v3 h2) (va_cwS 1 hts gX11_context_X11_isFlow rfl rfl rfl (by decide +kernel) ⟨Nat.le_of_ble_eq_true rfl, Nat.le_of_ble_eq_true rfl⟩) (xp_S hP hK hN hS hb0) rfl rfl hl.1 rfl (lv_room (Nat.le_of_ble_eq_true rfl)) dX11_context_6 ⟨Nat.le_of_ble_eq_true rfl, Nat.le_of_ble_eq_true rfl⟩) hS (fun H locs hP hS => ?_)
  refine lv_if_eq (tgt := 24) hx hb dX11_context_9 (by decide) (fun c4 => ?_) (fun c4 => ?_)
  · replace hF := it_t hF c4
    refine lv_iconst (v := (-1)) hx hb dX11_context_24 (by decide) ?_
    cases hF
    exact W.iret hx hb hr (fun t ht hW => ⟨rfl, by rw [ht]; exact hP, hS.F ht⟩) hS.2.2 dX11_context_25 hlk
  · replace hF := it_f hF c4
    refine lv_iload_n hx hb dX11_context_12 rfl (lv_at hl 2 rfl) ?_
    refine lv_i2l hx hb dX11_context_13 rfl ?_
    refine lv_lconst (v := 0) hx hb dX11_context_14 (by decide) ?_
    refine lv_ldc2 (v := 2) hx hb hown (hts (.constantLong RX11 265 2) (by decide +kernel)) dX11_context_15 ?_
    obtain ⟨v6, h5, hF⟩ := ob_some hF
    refine xr_call1 (va_runS (As := [.long a2.toInt64, .long 0, .long 2]) (rest := []) ⟨hx, hb, hml, hown, hts⟩ (ct_X11_isIn l b0 D cy M1 a2.toInt64 0 2 v6 h5) (va_cwS 3 hts gX11_context_X11_isIn rfl rfl rfl (by decide +kernel) ⟨Nat.le_of_ble_eq_true rfl, Nat.le_of_ble_eq_true rfl⟩) (xp_S hP hK hN hS hb0) rfl rfl hl.1 rfl (lv_room (Nat.le_of_ble_eq_true rfl)) dX11_context_18 ⟨Nat.le_of_ble_eq_true rfl, Nat.le_of_ble_eq_true rfl⟩) hS (fun H locs hP hS => ?_)
    refine lv_if_ne (tgt := 26) hx hb dX11_context_21 (by decide) (fun c7 => ?_) (fun c7 => ?_)
    · replace hF := it_f hF c7
      refine lv_iload_n hx hb dX11_context_26 rfl (lv_at hl 2 rfl) ?_
      refine lv_if_ne (tgt := 47) hx hb dX11_context_27 (by decide) (fun c8 => ?_) (fun c8 => ?_)
      · replace hF := it_f hF c8
        refine lv_aload_n hx hb dX11_context_47 rfl (lv_at hl 0 rfl) ?_
        refine xr_getR hx hb hts iw_X11_context_11 hown hK hP hF 11 30 rfl (by decide) (by decide +kernel) ⟨rfl, rfl, rfl⟩ dX11_context_48 (fun v9 hF => ?_)
        refine lv_iload_n hx hb dX11_context_51 rfl (lv_at hl 1 rfl) ?_
        refine xr_aZ hx hb hK hP hF dX11_context_52 (fun v10 hF => ?_)
        refine lv_if_ne (tgt := 61) hx hb dX11_context_53 (by decide) (fun c11 => ?_) (fun c11 => ?_)
        · replace hF := it_f hF c11
          refine lv_iload_n hx hb dX11_context_61 rfl (lv_at hl 2 rfl) ?_
          refine lv_iconst (v := 1) hx hb dX11_context_62 (by decide) ?_
          refine lv_icmp_ne (tgt := 75) hx hb dX11_context_63 (by decide) (fun c12 => ?_) (fun c12 => ?_)
          · replace hF := it_f hF c12
            refine lv_aload_n hx hb dX11_context_75 rfl (lv_at hl 0 rfl) ?_
            refine xr_getR hx hb hts iw_X11_context_11 hown hK hP hF 11 32 rfl (by decide) (by decide +kernel) ⟨rfl, rfl, rfl⟩ dX11_context_76 (fun v13 hF => ?_)
            refine lv_iload_n hx hb dX11_context_79 rfl (lv_at hl 1 rfl) ?_
            refine xr_aI hx hb hK hP hF dX11_context_80 (fun v14 hF => ?_)
            cases hF
            exact W.iret hx hb hr (fun t ht hW => ⟨rfl, by rw [ht]; exact hP, hS.F ht⟩) hS.2.2 dX11_context_81 hlk
          · replace hF := it_t hF c12
            refine lv_aload_n hx hb dX11_context_66 rfl (lv_at hl 0 rfl) ?_
            refine xr_getR hx hb hts iw_X11_context_11 hown hK hP hF 11 31 rfl (by decide) (by decide +kernel) ⟨rfl, rfl, rfl⟩ dX11_context_67 (fun v15 hF => ?_)
            refine lv_iload_n hx hb dX11_context_70 rfl (lv_at hl 1 rfl) ?_
            refine xr_aI hx hb hK hP hF dX11_context_71 (fun v16 hF => ?_)
            refine lv_goto (tgt := 81) hx hb dX11_context_72 (by decide) ?_
            cases hF
            exact W.iret hx hb hr (fun t ht hW => ⟨rfl, by rw [ht]; exact hP, hS.F ht⟩) hS.2.2 dX11_context_81 hlk
        · replace hF := it_t hF c11
          refine lv_bipush (v := (-2)) hx hb dX11_context_56 (by decide) ?_
          refine lv_goto (tgt := 81) hx hb dX11_context_58 (by decide) ?_
          cases hF
          exact W.iret hx hb hr (fun t ht hW => ⟨rfl, by rw [ht]; exact hP, hS.F ht⟩) hS.2.2 dX11_context_81 hlk
      · replace hF := it_t hF c8
        refine lv_aload_n hx hb dX11_context_30 rfl (lv_at hl 0 rfl) ?_
        refine xr_getR hx hb hts iw_X11_context_11 hown hK hP hF 11 30 rfl (by decide) (by decide +kernel) ⟨rfl, rfl, rfl⟩ dX11_context_31 (fun v17 hF => ?_)
        refine lv_iload_n hx hb dX11_context_34 rfl (lv_at hl 1 rfl) ?_
        refine xr_aZ hx hb hK hP hF dX11_context_35 (fun v18 hF => ?_)
        refine lv_if_eq (tgt := 43) hx hb dX11_context_36 (by decide) (fun c19 => ?_) (fun c19 => ?_)
        · replace hF := it_t hF c19
          refine lv_iconst (v := 0) hx hb dX11_context_43 (by decide) ?_
          refine lv_goto (tgt := 81) hx hb dX11_context_44 (by decide) ?_
          cases hF
          exact W.iret hx hb hr (fun t ht hW => ⟨rfl, by rw [ht]; exact hP, hS.F ht⟩) hS.2.2 dX11_context_81 hlk
        · replace hF := it_f hF c19
          refine lv_iconst (v := 1) hx hb dX11_context_39 (by decide) ?_
          refine lv_goto (tgt := 81) hx hb dX11_context_40 (by decide) ?_
          cases hF
          exact W.iret hx hb hr (fun t ht hW => ⟨rfl, by rw [ht]; exact hP, hS.F ht⟩) hS.2.2 dX11_context_81 hlk
    · replace hF := it_t hF c7
      refine lv_iconst (v := (-1)) hx hb dX11_context_24 (by decide) ?_
      cases hF
      exact W.iret hx hb hr (fun t ht hW => ⟨rfl, by rw [ht]; exact hP, hS.F ht⟩) hS.2.2 dX11_context_25 hlk
/-! X11_known -/
theorem iw_X11_known_11 : ∀ w ∈ u_ws RX11 TX11 58, w ∈ wsX11_known := by decide +kernel
abbrev rm_X11_known : Room := { frames := 1, cells := 0, slots := 0, locals := 21 }
theorem gk_X11_known {M : Mm} {a0 : Nat} {a1 : Int32} {a2 : Int32} {a3 : Int32} {r : (Mm × Int64)} (h : f_X11_known M a0 a1 a2 a3 = some r) : mK M a0 = 12 := by
  unfold f_X11_known at h
  exact (if_some h).1
set_option maxHeartbeats 4000000 in
set_option maxRecDepth 100000 in
theorem ct_X11_known (l : Launch) (b0 : Nat) (D : va_G) (cy : Nat → ClassId) (M : Mm) (a0 : Nat) (a1 : Int32) (a2 : Int32) (a3 : Int32) (M1 : Mm) (r : Int64) (hF : f_X11_known M a0 a1 a2 a3 = some (M1, r)) : Met l yX11_known wsX11_known rm_X11_known (va_Pc [.ref a0, .int a1, .int a2, .int a3] (Pm b0 D cy M)) (Qm b0 D cy M1 (some (.long r))) 0 0 (BA b0) := by
  refine ct_of [.ref a0, .int a1, .int a2, .int a3] (by decide) rfl ?_
  intro p e s m below meth c CX hP
  obtain ⟨hx, hb, hr, hml, hown0, hts, hlk, hK, hN, hb0, hnm⟩ := id CX
  have hown : s.vm.findClass RX11 = some m.cls := hown0
  have hS : va_S (BA b0) s.heap s.heap [] := va_S.rf
  have hl := lv_entry [.ref a0, .int a1, .int a2, .int a3] (n := 4) (Nat.le_of_ble_eq_true rfl)
  generalize (lg_sl [.ref a0, .int a1, .int a2, .int a3] ++ List.replicate (4 - (lg_sl [.ref a0, .int a1, .int a2, .int a3]).length) Slot.unset).toArray = ls at hl ⊢
  have hl : lv_has ls 4 [(0, .ref a0), (1, .int a1), (2, .int a2), (3, .int a3)] := hl
  unfold f_X11_known at hF
  replace hF := (if_some hF).2
  refine lv_aload_n hx hb dX11_known_0 rfl (lv_at hl 0 rfl) ?_
  refine lv_iconst (v := 0) hx hb dX11_known_1 (by decide) ?_
  refine xr_putI hx hb hts iw_X11_known_11 hown hK hP hS hF 11 0 rfl (by decide) tyX11 tyX11_ok nmX11 (by decide +kernel) (Or.inl rfl) rfl ⟨rfl, rfl, rfl⟩ dX11_known_2 (fun M1 H locs hF hP hS => ?_)
  refine lv_iload_n hx hb dX11_known_5 rfl (lv_at hl 1 rfl) ?_
  obtain ⟨v3, h2, hF⟩ := ob_some hF
  refine xr_call1 (va_runS (As := [.int a1]) (rest := []) ⟨hx, hb, hml, hown, hts⟩ (ct_X11_isFlow l b0 D cy M1 a1 v3 h2) (va_cwS 1 hts gX11_known_X11_isFlow rfl rfl rfl (by decide +kernel) ⟨Nat.le_of_ble_eq_true rfl, Nat.le_of_ble_eq_true rfl⟩) (xp_S hP hK hN hS hb0) rfl rfl hl.1 rfl (lv_room (Nat.le_of_ble_eq_true rfl)) dX11_known_6 ⟨Nat.le_of_ble_eq_true rfl, Nat.le_of_ble_eq_true rfl⟩) hS (fun H locs hP hS => ?_)
  refine lv_if_eq (tgt := 20) hx hb dX11_known_9 (by decide) (fun c4 => ?_) (fun c4 => ?_)
  · replace hF := it_t hF c4
    refine lv_ldc2 (v := (-1)) hx hb hown (hts (.constantLong RX11 169 (-1)) (by decide +kernel)) dX11_known_20 ?_
    cases hF
    exact W.lret hx hb hr (fun t ht hW => ⟨rfl, by rw [ht]; exact hP, hS.F ht⟩) hS.2.2 dX11_known_23 hlk
  · replace hF := it_f hF c4
    refine lv_aload_n hx hb dX11_known_12 rfl (lv_at hl 0 rfl) ?_
    refine lv_iload_n hx hb dX11_known_13 rfl (lv_at hl 2 rfl) ?_
    obtain ⟨v6, h5, hF⟩ := ob_some hF
    refine xr_call1 (va_runV (As := [.int a2]) (rest := []) ⟨hx, hb, hml, hown, hts⟩ (ct_X11_isField l b0 D cy M1 a0 a2 v6 h5) (cwV 1 hts gX11_known_X11_isField rfl rfl rfl (by decide +kernel) ⟨Nat.le_of_ble_eq_true rfl, Nat.le_of_ble_eq_true rfl⟩) (xp_V hP hK hN hS hb0 11 rfl (gk_X11_isField h5)) rfl rfl hl.1 rfl (lv_room (Nat.le_of_ble_eq_true rfl)) dX11_known_14 ⟨Nat.le_of_ble_eq_true rfl, Nat.le_of_ble_eq_true rfl⟩) hS (fun H locs hP hS => ?_)
    refine lv_if_ne (tgt := 24) hx hb dX11_known_17 (by decide) (fun c7 => ?_) (fun c7 => ?_)
    · replace hF := it_f hF c7
      refine lv_aload_n hx hb dX11_known_24 rfl (lv_at hl 0 rfl) ?_
      refine xr_getR hx hb hts iw_X11_known_11 hown hK hP hF 11 30 rfl (by decide) (by decide +kernel) ⟨rfl, rfl, rfl⟩ dX11_known_25 (fun v8 hF => ?_)
      refine lv_iload_n hx hb dX11_known_28 rfl (lv_at hl 1 rfl) ?_
      refine xr_aZ hx hb hK hP hF dX11_known_29 (fun v9 hF => ?_)
      refine lv_if_ne (tgt := 39) hx hb dX11_known_30 (by decide) (fun c10 => ?_) (fun c10 => ?_)
      · replace hF := it_f hF c10
        refine lv_iload_n hx hb dX11_known_39 rfl (lv_at hl 3 rfl) ?_
        refine lv_if_eq (tgt := 58) hx hb dX11_known_40 (by decide) (fun c11 => ?_) (fun c11 => ?_)
        · replace hF := it_t hF c11
          refine lv_aload_n hx hb dX11_known_58 rfl (lv_at hl 0 rfl) ?_
          refine xr_getR hx hb hts iw_X11_known_11 hown hK hP hF 11 34 rfl (by decide) (by decide +kernel) ⟨rfl, rfl, rfl⟩ dX11_known_59 (fun v12 hF => ?_)
          refine lv_bipush (v := 8) hx hb dX11_known_62 (by decide) ?_
          refine lv_iload_n hx hb dX11_known_64 rfl (lv_at hl 1 rfl) ?_
          refine lv_imul hx hb dX11_known_65 ?_
          refine lv_iload_n hx hb dX11_known_66 rfl (lv_at hl 2 rfl) ?_
          refine lv_iadd hx hb dX11_known_67 ?_
          refine xr_aJ hx hb hK hP hF dX11_known_68 (fun v13 hF => ?_)
          cases hF
          exact W.lret hx hb hr (fun t ht hW => ⟨rfl, by rw [ht]; exact hP, hS.F ht⟩) hS.2.2 dX11_known_69 hlk
        · replace hF := it_f hF c11
          refine lv_aload_n hx hb dX11_known_43 rfl (lv_at hl 0 rfl) ?_
          refine xr_getR hx hb hts iw_X11_known_11 hown hK hP hF 11 33 rfl (by decide) (by decide +kernel) ⟨rfl, rfl, rfl⟩ dX11_known_44 (fun v14 hF => ?_)
          refine lv_bipush (v := 8) hx hb dX11_known_47 (by decide) ?_
          refine lv_iload_n hx hb dX11_known_49 rfl (lv_at hl 1 rfl) ?_
          refine lv_imul hx hb dX11_known_50 ?_
          refine lv_iload_n hx hb dX11_known_51 rfl (lv_at hl 2 rfl) ?_
          refine lv_iadd hx hb dX11_known_52 ?_
          refine xr_aI hx hb hK hP hF dX11_known_53 (fun v15 hF => ?_)
          refine lv_i2l hx hb dX11_known_54 rfl ?_
          refine lv_goto (tgt := 69) hx hb dX11_known_55 (by decide) ?_
          cases hF
          exact W.lret hx hb hr (fun t ht hW => ⟨rfl, by rw [ht]; exact hP, hS.F ht⟩) hS.2.2 dX11_known_69 hlk
      · replace hF := it_t hF c10
        refine lv_ldc2 (v := (-2)) hx hb hown (hts (.constantLong RX11 319 (-2)) (by decide +kernel)) dX11_known_33 ?_
        refine lv_goto (tgt := 69) hx hb dX11_known_36 (by decide) ?_
        cases hF
        exact W.lret hx hb hr (fun t ht hW => ⟨rfl, by rw [ht]; exact hP, hS.F ht⟩) hS.2.2 dX11_known_69 hlk
    · replace hF := it_t hF c7
      refine lv_ldc2 (v := (-1)) hx hb hown (hts (.constantLong RX11 169 (-1)) (by decide +kernel)) dX11_known_20 ?_
      cases hF
      exact W.lret hx hb hr (fun t ht hW => ⟨rfl, by rw [ht]; exact hP, hS.F ht⟩) hS.2.2 dX11_known_23 hlk
/-! X11_squeezer -/
theorem iw_X11_squeezer_11 : ∀ w ∈ u_ws RX11 TX11 58, w ∈ wsX11_squeezer := by decide +kernel
abbrev rm_X11_squeezer : Room := { frames := 1, cells := 0, slots := 0, locals := 25 }
theorem gk_X11_squeezer {M : Mm} {a0 : Nat} {a1 : Int32} {a2 : Int32} {r : (Mm × Int32)} (h : f_X11_squeezer M a0 a1 a2 = some r) : mK M a0 = 12 := by
  unfold f_X11_squeezer at h
  exact (if_some h).1
set_option maxHeartbeats 4000000 in
set_option maxRecDepth 100000 in
theorem ct_X11_squeezer (l : Launch) (b0 : Nat) (D : va_G) (cy : Nat → ClassId) (M : Mm) (a0 : Nat) (a1 : Int32) (a2 : Int32) (M1 : Mm) (r : Int32) (hF : f_X11_squeezer M a0 a1 a2 = some (M1, r)) : Met l yX11_squeezer wsX11_squeezer rm_X11_squeezer (va_Pc [.ref a0, .int a1, .int a2] (Pm b0 D cy M)) (Qm b0 D cy M1 (some (.int r))) 0 0 (BA b0) := by
  refine ct_of [.ref a0, .int a1, .int a2] (by decide) rfl ?_
  intro p e s m below meth c CX hP
  obtain ⟨hx, hb, hr, hml, hown0, hts, hlk, hK, hN, hb0, hnm⟩ := id CX
  have hown : s.vm.findClass RX11 = some m.cls := hown0
  have hS : va_S (BA b0) s.heap s.heap [] := va_S.rf
  have hl := lv_entry [.ref a0, .int a1, .int a2] (n := 3) (Nat.le_of_ble_eq_true rfl)
  generalize (lg_sl [.ref a0, .int a1, .int a2] ++ List.replicate (3 - (lg_sl [.ref a0, .int a1, .int a2]).length) Slot.unset).toArray = ls at hl ⊢
  have hl : lv_has ls 3 [(0, .ref a0), (1, .int a1), (2, .int a2)] := hl
  unfold f_X11_squeezer at hF
  replace hF := (if_some hF).2
  refine lv_aload_n hx hb dX11_squeezer_0 rfl (lv_at hl 0 rfl) ?_
  refine lv_iconst (v := 0) hx hb dX11_squeezer_1 (by decide) ?_
  refine xr_putI hx hb hts iw_X11_squeezer_11 hown hK hP hS hF 11 0 rfl (by decide) tyX11 tyX11_ok nmX11 (by decide +kernel) (Or.inl rfl) rfl ⟨rfl, rfl, rfl⟩ dX11_squeezer_2 (fun M1 H locs hF hP hS => ?_)
  refine lv_iload_n hx hb dX11_squeezer_5 rfl (lv_at hl 1 rfl) ?_
  obtain ⟨v3, h2, hF⟩ := ob_some hF
  refine xr_call1 (va_runS (As := [.int a1]) (rest := []) ⟨hx, hb, hml, hown, hts⟩ (ct_X11_isFlow l b0 D cy M1 a1 v3 h2) (va_cwS 1 hts gX11_squeezer_X11_isFlow rfl rfl rfl (by decide +kernel) ⟨Nat.le_of_ble_eq_true rfl, Nat.le_of_ble_eq_true rfl⟩) (xp_S hP hK hN hS hb0) rfl rfl hl.1 rfl (lv_room (Nat.le_of_ble_eq_true rfl)) dX11_squeezer_6 ⟨Nat.le_of_ble_eq_true rfl, Nat.le_of_ble_eq_true rfl⟩) hS (fun H locs hP hS => ?_)
  refine lv_if_eq (tgt := 24) hx hb dX11_squeezer_9 (by decide) (fun c4 => ?_) (fun c4 => ?_)
  · replace hF := it_t hF c4
    refine lv_iconst (v := (-1)) hx hb dX11_squeezer_24 (by decide) ?_
    cases hF
    exact W.iret hx hb hr (fun t ht hW => ⟨rfl, by rw [ht]; exact hP, hS.F ht⟩) hS.2.2 dX11_squeezer_25 hlk
  · replace hF := it_f hF c4
    refine lv_iload_n hx hb dX11_squeezer_12 rfl (lv_at hl 2 rfl) ?_
    refine lv_i2l hx hb dX11_squeezer_13 rfl ?_
    refine lv_lconst (v := 0) hx hb dX11_squeezer_14 (by decide) ?_
    refine lv_ldc2 (v := 4) hx hb hown (hts (.constantLong RX11 151 4) (by decide +kernel)) dX11_squeezer_15 ?_
    obtain ⟨v6, h5, hF⟩ := ob_some hF
    refine xr_call1 (va_runS (As := [.long a2.toInt64, .long 0, .long 4]) (rest := []) ⟨hx, hb, hml, hown, hts⟩ (ct_X11_isIn l b0 D cy M1 a2.toInt64 0 4 v6 h5) (va_cwS 3 hts gX11_squeezer_X11_isIn rfl rfl rfl (by decide +kernel) ⟨Nat.le_of_ble_eq_true rfl, Nat.le_of_ble_eq_true rfl⟩) (xp_S hP hK hN hS hb0) rfl rfl hl.1 rfl (lv_room (Nat.le_of_ble_eq_true rfl)) dX11_squeezer_18 ⟨Nat.le_of_ble_eq_true rfl, Nat.le_of_ble_eq_true rfl⟩) hS (fun H locs hP hS => ?_)
    refine lv_if_ne (tgt := 26) hx hb dX11_squeezer_21 (by decide) (fun c7 => ?_) (fun c7 => ?_)
    · replace hF := it_f hF c7
      refine lv_iload_n hx hb dX11_squeezer_26 rfl (lv_at hl 2 rfl) ?_
      by_cases c8 : a2 = 0
      · replace hF := it_t hF c8
        refine lv_tableIn (off := 29) (tgt := 56) hx hb dX11_squeezer_27 (by rw [c8]; decide) (by rw [c8]; decide) (by rw [c8]; decide) (by decide) ?_
        refine lv_aload_n hx hb dX11_squeezer_56 rfl (lv_at hl 0 rfl) ?_
        refine xr_getR hx hb hts iw_X11_squeezer_11 hown hK hP hF 11 9 rfl (by decide) (by decide +kernel) ⟨rfl, rfl, rfl⟩ dX11_squeezer_57 (fun v9 hF => ?_)
        refine lv_iload_n hx hb dX11_squeezer_60 rfl (lv_at hl 1 rfl) ?_
        refine xr_aI hx hb hK hP hF dX11_squeezer_61 (fun v10 hF => ?_)
        cases hF
        exact W.iret hx hb hr (fun t ht hW => ⟨rfl, by rw [ht]; exact hP, hS.F ht⟩) hS.2.2 dX11_squeezer_62 hlk
      replace hF := it_f hF c8
      by_cases c11 : a2 = 1
      · replace hF := it_t hF c11
        refine lv_tableIn (off := 36) (tgt := 63) hx hb dX11_squeezer_27 (by rw [c11]; decide) (by rw [c11]; decide) (by rw [c11]; decide) (by decide) ?_
        refine lv_aload_n hx hb dX11_squeezer_63 rfl (lv_at hl 0 rfl) ?_
        refine xr_getR hx hb hts iw_X11_squeezer_11 hown hK hP hF 11 10 rfl (by decide) (by decide +kernel) ⟨rfl, rfl, rfl⟩ dX11_squeezer_64 (fun v12 hF => ?_)
        refine lv_iload_n hx hb dX11_squeezer_67 rfl (lv_at hl 1 rfl) ?_
        refine xr_aI hx hb hK hP hF dX11_squeezer_68 (fun v13 hF => ?_)
        cases hF
        exact W.iret hx hb hr (fun t ht hW => ⟨rfl, by rw [ht]; exact hP, hS.F ht⟩) hS.2.2 dX11_squeezer_69 hlk
      replace hF := it_f hF c11
      by_cases c14 : a2 = 2
      · replace hF := it_t hF c14
        refine lv_tableIn (off := 43) (tgt := 70) hx hb dX11_squeezer_27 (by rw [c14]; decide) (by rw [c14]; decide) (by rw [c14]; decide) (by decide) ?_
        refine lv_aload_n hx hb dX11_squeezer_70 rfl (lv_at hl 0 rfl) ?_
        refine xr_getR hx hb hts iw_X11_squeezer_11 hown hK hP hF 11 13 rfl (by decide) (by decide +kernel) ⟨rfl, rfl, rfl⟩ dX11_squeezer_71 (fun v15 hF => ?_)
        refine lv_iload_n hx hb dX11_squeezer_74 rfl (lv_at hl 1 rfl) ?_
        refine xr_aI hx hb hK hP hF dX11_squeezer_75 (fun v16 hF => ?_)
        cases hF
        exact W.iret hx hb hr (fun t ht hW => ⟨rfl, by rw [ht]; exact hP, hS.F ht⟩) hS.2.2 dX11_squeezer_76 hlk
      replace hF := it_f hF c14
      by_cases c17 : a2 = 3
      · replace hF := it_t hF c17
        refine lv_tableIn (off := 50) (tgt := 77) hx hb dX11_squeezer_27 (by rw [c17]; decide) (by rw [c17]; decide) (by rw [c17]; decide) (by decide) ?_
        refine lv_aload_n hx hb dX11_squeezer_77 rfl (lv_at hl 0 rfl) ?_
        refine xr_getR hx hb hts iw_X11_squeezer_11 hown hK hP hF 11 13 rfl (by decide) (by decide +kernel) ⟨rfl, rfl, rfl⟩ dX11_squeezer_78 (fun v18 hF => ?_)
        refine lv_iload_n hx hb dX11_squeezer_81 rfl (lv_at hl 1 rfl) ?_
        refine xr_aI hx hb hK hP hF dX11_squeezer_82 (fun v19 hF => ?_)
        refine lv_if_ne (tgt := 91) hx hb dX11_squeezer_83 (by decide) (fun c20 => ?_) (fun c20 => ?_)
        · replace hF := it_f hF c20
          refine lv_aload_n hx hb dX11_squeezer_91 rfl (lv_at hl 0 rfl) ?_
          refine xr_getR hx hb hts iw_X11_squeezer_11 hown hK hP hF 11 14 rfl (by decide) (by decide +kernel) ⟨rfl, rfl, rfl⟩ dX11_squeezer_92 (fun v21 hF => ?_)
          refine lv_bipush (v := 9) hx hb dX11_squeezer_95 (by decide) ?_
          refine lv_iload_n hx hb dX11_squeezer_97 rfl (lv_at hl 1 rfl) ?_
          refine lv_imul hx hb dX11_squeezer_98 ?_
          refine xr_aI hx hb hK hP hF dX11_squeezer_99 (fun v22 hF => ?_)
          cases hF
          exact W.iret hx hb hr (fun t ht hW => ⟨rfl, by rw [ht]; exact hP, hS.F ht⟩) hS.2.2 dX11_squeezer_100 hlk
        · replace hF := it_t hF c20
          refine lv_bipush (v := (-2)) hx hb dX11_squeezer_86 (by decide) ?_
          refine lv_goto (tgt := 100) hx hb dX11_squeezer_88 (by decide) ?_
          cases hF
          exact W.iret hx hb hr (fun t ht hW => ⟨rfl, by rw [ht]; exact hP, hS.F ht⟩) hS.2.2 dX11_squeezer_100 hlk
      replace hF := it_f hF c17
      refine lv_tableOut (tgt := 101) hx hb dX11_squeezer_27 (by have := lv_neT c8 (by decide : (0 : Int32).toInt = 0); have := lv_neT c11 (by decide : (1 : Int32).toInt = 1); have := lv_neT c14 (by decide : (2 : Int32).toInt = 2); have := lv_neT c17 (by decide : (3 : Int32).toInt = 3); omega) (by decide) ?_
      refine lv_aload_n hx hb dX11_squeezer_101 rfl (lv_at hl 0 rfl) ?_
      refine xr_getR hx hb hts iw_X11_squeezer_11 hown hK hP hF 11 12 rfl (by decide) (by decide +kernel) ⟨rfl, rfl, rfl⟩ dX11_squeezer_102 (fun v23 hF => ?_)
      refine lv_iload_n hx hb dX11_squeezer_105 rfl (lv_at hl 1 rfl) ?_
      refine xr_aZ hx hb hK hP hF dX11_squeezer_106 (fun v24 hF => ?_)
      refine lv_if_eq (tgt := 114) hx hb dX11_squeezer_107 (by decide) (fun c25 => ?_) (fun c25 => ?_)
      · replace hF := it_t hF c25
        refine lv_iconst (v := 0) hx hb dX11_squeezer_114 (by decide) ?_
        cases hF
        exact W.iret hx hb hr (fun t ht hW => ⟨rfl, by rw [ht]; exact hP, hS.F ht⟩) hS.2.2 dX11_squeezer_115 hlk
      · replace hF := it_f hF c25
        refine lv_iconst (v := 1) hx hb dX11_squeezer_110 (by decide) ?_
        refine lv_goto (tgt := 115) hx hb dX11_squeezer_111 (by decide) ?_
        cases hF
        exact W.iret hx hb hr (fun t ht hW => ⟨rfl, by rw [ht]; exact hP, hS.F ht⟩) hS.2.2 dX11_squeezer_115 hlk
    · replace hF := it_t hF c7
      refine lv_iconst (v := (-1)) hx hb dX11_squeezer_24 (by decide) ?_
      cases hF
      exact W.iret hx hb hr (fun t ht hW => ⟨rfl, by rw [ht]; exact hP, hS.F ht⟩) hS.2.2 dX11_squeezer_25 hlk
/-! X11_forget -/
theorem iw_X11_forget_11 : ∀ w ∈ u_ws RX11 TX11 58, w ∈ wsX11_forget := by decide +kernel
abbrev rm_X11_forget : Room := { frames := 1, cells := 0, slots := 0, locals := 25 }
set_option maxHeartbeats 4000000 in
set_option maxRecDepth 100000 in
theorem nd_X11_forget_52 {p : Program} {l : Launch} {e : Env} {s : State} {m : MethodId} {args : Array Value} {below : List Frame} {meth : Method} {c : Code} {b0 : Nat} {D : va_G} {cy : Nat → ClassId} {M1 : Mm} {r : Int32} (CX : Cx yX11_forget cX11_forget 4 (some .int) wsX11_forget b0 D cy p s m args meth c) : ∀ (M : Mm) (x0 : Nat) (x1 : Int32) (x2 : Int32) (s0 : Int32) (H : Heap) (locs : List Loc) (ls : Array Slot), f_X11_forget_J52 M x0 x1 x2 s0 = some (M1, r) → Hp b0 D cy M H → va_S (BA b0) s.heap H locs → lv_has ls 4 [(0, .ref x0), (1, .int x1), (2, .int x2)] → W p l e rm_X11_forget s m args below meth c H locs 0 0 (MQ below (Qm b0 D cy M1 (some (.int r))) args s 0 0 (BA b0)) (F0 m 52 ls [.int s0]) := by
  obtain ⟨hx, hb, hr, hml, hown0, hts, hlk, hK, hN, hb0, hnm⟩ := id CX
  have hown : s.vm.findClass RX11 = some m.cls := hown0
  intro M x0 x1 x2 s0 H locs ls hF hP hS hl
  unfold f_X11_forget_J52 at hF
  refine lv_istore_n (lv' := [(3, .int s0), (0, .ref x0), (1, .int x1), (2, .int x2)]) hx hb dX11_forget_52 rfl hl (by decide) (by first | rfl | simp [cat_rf]) (fun ls hl => ?_)
  refine lv_iload_n hx hb dX11_forget_53 rfl (lv_at hl 3 rfl) ?_
  refine lv_iconst (v := 1) hx hb dX11_forget_54 (by decide) ?_
  refine lv_icmp_ne (tgt := 68) hx hb dX11_forget_55 (by decide) (fun c1 => ?_) (fun c1 => ?_)
  · replace hF := it_f hF c1
    refine lv_aload_n hx hb dX11_forget_68 rfl (lv_at hl 1 rfl) ?_
    refine xr_getR hx hb hts iw_X11_forget_11 hown hK hP hF 11 12 rfl (by decide) (by decide +kernel) ⟨rfl, rfl, rfl⟩ dX11_forget_69 (fun v2 hF => ?_)
    refine lv_iload_n hx hb dX11_forget_72 rfl (lv_at hl 2 rfl) ?_
    refine lv_iconst (v := 1) hx hb dX11_forget_73 (by decide) ?_
    refine xr_wZ hx hb hK hP hS hF dX11_forget_74 (fun M3 H locs hF hP hS => ?_)
    refine lv_aload_n hx hb dX11_forget_75 rfl (lv_at hl 1 rfl) ?_
    refine xr_getR hx hb hts iw_X11_forget_11 hown hK hP hF 11 13 rfl (by decide) (by decide +kernel) ⟨rfl, rfl, rfl⟩ dX11_forget_76 (fun v4 hF => ?_)
    refine lv_iload_n hx hb dX11_forget_79 rfl (lv_at hl 2 rfl) ?_
    refine lv_iconst (v := 0) hx hb dX11_forget_80 (by decide) ?_
    refine xr_wI hx hb hK hP hS hF dX11_forget_81 (fun M5 H locs hF hP hS => ?_)
    refine lv_iload_n hx hb dX11_forget_82 rfl (lv_at hl 0 rfl) ?_
    refine lv_if_eq (tgt := 90) hx hb dX11_forget_83 (by decide) (fun c6 => ?_) (fun c6 => ?_)
    · replace hF := it_t hF c6
      refine lv_iconst (v := 0) hx hb dX11_forget_90 (by decide) ?_
      cases hF
      exact W.iret hx hb hr (fun t ht hW => ⟨rfl, by rw [ht]; exact hP, hS.F ht⟩) hS.2.2 dX11_forget_91 hlk
    · replace hF := it_f hF c6
      refine lv_iconst (v := 1) hx hb dX11_forget_86 (by decide) ?_
      refine lv_goto (tgt := 91) hx hb dX11_forget_87 (by decide) ?_
      cases hF
      exact W.iret hx hb hr (fun t ht hW => ⟨rfl, by rw [ht]; exact hP, hS.F ht⟩) hS.2.2 dX11_forget_91 hlk
  · replace hF := it_t hF c1
    refine lv_aload_n hx hb dX11_forget_58 rfl (lv_at hl 1 rfl) ?_
    refine xr_getR hx hb hts iw_X11_forget_11 hown hK hP hF 11 30 rfl (by decide) (by decide +kernel) ⟨rfl, rfl, rfl⟩ dX11_forget_59 (fun v7 hF => ?_)
    refine lv_iload_n hx hb dX11_forget_62 rfl (lv_at hl 2 rfl) ?_
    refine lv_iconst (v := 0) hx hb dX11_forget_63 (by decide) ?_
    refine xr_wZ hx hb hK hP hS hF dX11_forget_64 (fun M8 H locs hF hP hS => ?_)
    refine lv_goto (tgt := 82) hx hb dX11_forget_65 (by decide) ?_
    refine lv_iload_n hx hb dX11_forget_82 rfl (lv_at hl 0 rfl) ?_
    refine lv_if_eq (tgt := 90) hx hb dX11_forget_83 (by decide) (fun c9 => ?_) (fun c9 => ?_)
    · replace hF := it_t hF c9
      refine lv_iconst (v := 0) hx hb dX11_forget_90 (by decide) ?_
      cases hF
      exact W.iret hx hb hr (fun t ht hW => ⟨rfl, by rw [ht]; exact hP, hS.F ht⟩) hS.2.2 dX11_forget_91 hlk
    · replace hF := it_f hF c9
      refine lv_iconst (v := 1) hx hb dX11_forget_86 (by decide) ?_
      refine lv_goto (tgt := 91) hx hb dX11_forget_87 (by decide) ?_
      cases hF
      exact W.iret hx hb hr (fun t ht hW => ⟨rfl, by rw [ht]; exact hP, hS.F ht⟩) hS.2.2 dX11_forget_91 hlk
theorem gk_X11_forget {M : Mm} {a0 : Nat} {a1 : Int32} {a2 : Int32} {r : (Mm × Int32)} (h : f_X11_forget M a0 a1 a2 = some r) : mK M a0 = 12 := by
  unfold f_X11_forget at h
  exact (if_some h).1
set_option maxHeartbeats 4000000 in
set_option maxRecDepth 100000 in
theorem ct_X11_forget (l : Launch) (b0 : Nat) (D : va_G) (cy : Nat → ClassId) (M : Mm) (a0 : Nat) (a1 : Int32) (a2 : Int32) (M1 : Mm) (r : Int32) (hF : f_X11_forget M a0 a1 a2 = some (M1, r)) : Met l yX11_forget wsX11_forget rm_X11_forget (va_Pc [.ref a0, .int a1, .int a2] (Pm b0 D cy M)) (Qm b0 D cy M1 (some (.int r))) 0 0 (BA b0) := by
  refine ct_of [.ref a0, .int a1, .int a2] (by decide) rfl ?_
  intro p e s m below meth c CX hP
  obtain ⟨hx, hb, hr, hml, hown0, hts, hlk, hK, hN, hb0, hnm⟩ := id CX
  have hown : s.vm.findClass RX11 = some m.cls := hown0
  have hS : va_S (BA b0) s.heap s.heap [] := va_S.rf
  have hl := lv_entry [.ref a0, .int a1, .int a2] (n := 4) (Nat.le_of_ble_eq_true rfl)
  generalize (lg_sl [.ref a0, .int a1, .int a2] ++ List.replicate (4 - (lg_sl [.ref a0, .int a1, .int a2]).length) Slot.unset).toArray = ls at hl ⊢
  have hl : lv_has ls 4 [(0, .ref a0), (1, .int a1), (2, .int a2)] := hl
  unfold f_X11_forget at hF
  replace hF := (if_some hF).2
  refine lv_aload_n hx hb dX11_forget_0 rfl (lv_at hl 0 rfl) ?_
  refine lv_iconst (v := 0) hx hb dX11_forget_1 (by decide) ?_
  refine xr_putI hx hb hts iw_X11_forget_11 hown hK hP hS hF 11 0 rfl (by decide) tyX11 tyX11_ok nmX11 (by decide +kernel) (Or.inl rfl) rfl ⟨rfl, rfl, rfl⟩ dX11_forget_2 (fun M1 H locs hF hP hS => ?_)
  refine lv_iload_n hx hb dX11_forget_5 rfl (lv_at hl 1 rfl) ?_
  obtain ⟨v3, h2, hF⟩ := ob_some hF
  refine xr_call1 (va_runS (As := [.int a1]) (rest := []) ⟨hx, hb, hml, hown, hts⟩ (ct_X11_isFlow l b0 D cy M1 a1 v3 h2) (va_cwS 1 hts gX11_forget_X11_isFlow rfl rfl rfl (by decide +kernel) ⟨Nat.le_of_ble_eq_true rfl, Nat.le_of_ble_eq_true rfl⟩) (xp_S hP hK hN hS hb0) rfl rfl hl.1 rfl (lv_room (Nat.le_of_ble_eq_true rfl)) dX11_forget_6 ⟨Nat.le_of_ble_eq_true rfl, Nat.le_of_ble_eq_true rfl⟩) hS (fun H locs hP hS => ?_)
  refine lv_if_eq (tgt := 22) hx hb dX11_forget_9 (by decide) (fun c4 => ?_) (fun c4 => ?_)
  · replace hF := it_t hF c4
    refine lv_iconst (v := (-1)) hx hb dX11_forget_22 (by decide) ?_
    cases hF
    exact W.iret hx hb hr (fun t ht hW => ⟨rfl, by rw [ht]; exact hP, hS.F ht⟩) hS.2.2 dX11_forget_23 hlk
  · replace hF := it_f hF c4
    refine lv_iload_n hx hb dX11_forget_12 rfl (lv_at hl 2 rfl) ?_
    refine lv_i2l hx hb dX11_forget_13 rfl ?_
    refine lv_lconst (v := 0) hx hb dX11_forget_14 (by decide) ?_
    refine lv_lconst (v := 1) hx hb dX11_forget_15 (by decide) ?_
    obtain ⟨v6, h5, hF⟩ := ob_some hF
    refine xr_call1 (va_runS (As := [.long a2.toInt64, .long 0, .long 1]) (rest := []) ⟨hx, hb, hml, hown, hts⟩ (ct_X11_isIn l b0 D cy M1 a2.toInt64 0 1 v6 h5) (va_cwS 3 hts gX11_forget_X11_isIn rfl rfl rfl (by decide +kernel) ⟨Nat.le_of_ble_eq_true rfl, Nat.le_of_ble_eq_true rfl⟩) (xp_S hP hK hN hS hb0) rfl rfl hl.1 rfl (lv_room (Nat.le_of_ble_eq_true rfl)) dX11_forget_16 ⟨Nat.le_of_ble_eq_true rfl, Nat.le_of_ble_eq_true rfl⟩) hS (fun H locs hP hS => ?_)
    refine lv_if_ne (tgt := 24) hx hb dX11_forget_19 (by decide) (fun c7 => ?_) (fun c7 => ?_)
    · replace hF := it_f hF c7
      refine lv_iload_n hx hb dX11_forget_24 rfl (lv_at hl 2 rfl) ?_
      refine lv_iconst (v := 1) hx hb dX11_forget_25 (by decide) ?_
      refine lv_icmp_ne (tgt := 38) hx hb dX11_forget_26 (by decide) (fun c8 => ?_) (fun c8 => ?_)
      · replace hF := it_f hF c8
        refine lv_aload_n hx hb dX11_forget_38 rfl (lv_at hl 0 rfl) ?_
        refine xr_getR hx hb hts iw_X11_forget_11 hown hK hP hF 11 13 rfl (by decide) (by decide +kernel) ⟨rfl, rfl, rfl⟩ dX11_forget_39 (fun v9 hF => ?_)
        refine lv_iload_n hx hb dX11_forget_42 rfl (lv_at hl 1 rfl) ?_
        refine xr_aI hx hb hK hP hF dX11_forget_43 (fun v10 hF => ?_)
        refine lv_if_le (tgt := 51) hx hb dX11_forget_44 (by decide) (fun c11 => ?_) (fun c11 => ?_)
        · replace hF := it_t hF c11
          refine lv_iconst (v := 0) hx hb dX11_forget_51 (by decide) ?_
          exact nd_X11_forget_52 CX _ _ _ _ _ _ _ _ hF hP hS (lv_sub hl [0, 1, 2] rfl)
        · replace hF := it_f hF c11
          refine lv_iconst (v := 1) hx hb dX11_forget_47 (by decide) ?_
          refine lv_goto (tgt := 52) hx hb dX11_forget_48 (by decide) ?_
          exact nd_X11_forget_52 CX _ _ _ _ _ _ _ _ hF hP hS (lv_sub hl [0, 1, 2] rfl)
      · replace hF := it_t hF c8
        refine lv_aload_n hx hb dX11_forget_29 rfl (lv_at hl 0 rfl) ?_
        refine xr_getR hx hb hts iw_X11_forget_11 hown hK hP hF 11 30 rfl (by decide) (by decide +kernel) ⟨rfl, rfl, rfl⟩ dX11_forget_30 (fun v12 hF => ?_)
        refine lv_iload_n hx hb dX11_forget_33 rfl (lv_at hl 1 rfl) ?_
        refine xr_aZ hx hb hK hP hF dX11_forget_34 (fun v13 hF => ?_)
        refine lv_goto (tgt := 52) hx hb dX11_forget_35 (by decide) ?_
        exact nd_X11_forget_52 CX _ _ _ _ _ _ _ _ hF hP hS (lv_sub hl [0, 1, 2] rfl)
    · replace hF := it_t hF c7
      refine lv_iconst (v := (-1)) hx hb dX11_forget_22 (by decide) ?_
      cases hF
      exact W.iret hx hb hr (fun t ht hW => ⟨rfl, by rw [ht]; exact hP, hS.F ht⟩) hS.2.2 dX11_forget_23 hlk
