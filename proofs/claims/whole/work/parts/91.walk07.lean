/-! X10_keep -/
theorem iw_X10_keep_8 : ∀ w ∈ u_ws RX8 TX8 5, w ∈ wsX10_keep := by decide +kernel
theorem iw_X10_keep_10 : ∀ w ∈ u_ws RX10 TX10 12, w ∈ wsX10_keep := by decide +kernel
abbrev rm_X10_keep : Room := { frames := 3, cells := 0, slots := 0, locals := 70 }
set_option maxHeartbeats 4000000 in
set_option maxRecDepth 100000 in
theorem nd_X10_keep_60 {p : Program} {l : Launch} {e : Env} {s : State} {m : MethodId} {args : Array Value} {below : List Frame} {meth : Method} {c : Code} {b0 : Nat} {D : va_G} {cy : Nat → ClassId} {M1 : Mm} {r : Int32} (CX : Cx yX10_keep cX10_keep 5 (some .int) wsX10_keep b0 D cy p s m args meth c) : ∀ (M : Mm) (x0 : Nat) (x2 : Int32) (x3 : Int32) (x4 : Nat) (H : Heap) (locs : List Loc) (ls : Array Slot), f_X10_keep_J60 M x0 x2 x3 x4 = some (M1, r) → Hp b0 D cy M H → va_S (BA b0) s.heap H locs → lv_has ls 5 [(0, .ref x0), (2, .int x2), (3, .int x3), (4, .ref x4)] → W p l e rm_X10_keep s m args below meth c H locs 0 0 (MQ below (Qm b0 D cy M1 (some (.int r))) args s 0 0 (BA b0)) (F0 m 60 ls []) := by
  obtain ⟨hx, hb, hr, hml, hown0, hts, hlk, hK, hN, hb0, hnm⟩ := id CX
  have hown : s.vm.findClass RX10 = some m.cls := hown0
  intro M x0 x2 x3 x4 H locs ls hF hP hS hl
  unfold f_X10_keep_J60 at hF
  refine lv_aload hx hb dX10_keep_60 (lv_at hl 3 rfl) ?_
  refine lv_iload_n hx hb dX10_keep_62 rfl (lv_at hl 1 rfl) ?_
  refine lv_aload_n hx hb dX10_keep_63 rfl (lv_at hl 0 rfl) ?_
  refine lv_iload_n hx hb dX10_keep_64 rfl (lv_at hl 2 rfl) ?_
  obtain ⟨v2, h1, hF⟩ := ob_some hF
  refine xr_call1 (va_runV (As := [.int x3]) (rest := [.int x2, .ref x4]) ⟨hx, hb, hml, hown, hts⟩ (ct_X10_letterAt l b0 D cy M x0 x3 v2 h1) (cwV 1 hts gX10_keep_X10_letterAt rfl rfl rfl (by decide +kernel) ⟨Nat.le_of_ble_eq_true rfl, Nat.le_of_ble_eq_true rfl⟩) (xp_V hP hK hN hS hb0 10 rfl (gk_X10_letterAt h1)) rfl rfl hl.1 rfl (lv_room (Nat.le_of_ble_eq_true rfl)) dX10_keep_65 ⟨Nat.le_of_ble_eq_true rfl, Nat.le_of_ble_eq_true rfl⟩) hS (fun H locs hP hS => ?_)
  obtain ⟨M4, v5, h3, hF⟩ := ob2_some hF
  refine xr_call1 (va_runS (As := [.ref x4, .int x2, va_rf v2]) (rest := []) ⟨hx, hb, hml, hown, hts⟩ (ct_X10_keepLetter l b0 D cy M x4 x2 v2 M4 v5 h3) (va_cwS 3 hts gX10_keep_X10_keepLetter rfl rfl rfl (by decide +kernel) ⟨Nat.le_of_ble_eq_true rfl, Nat.le_of_ble_eq_true rfl⟩) (xp_S hP hK hN hS hb0) rfl rfl hl.1 rfl (lv_room (Nat.le_of_ble_eq_true rfl)) dX10_keep_68 ⟨Nat.le_of_ble_eq_true rfl, Nat.le_of_ble_eq_true rfl⟩) hS (fun H locs hP hS => ?_)
  cases hF
  exact W.iret hx hb hr (fun t ht hW => ⟨rfl, by rw [ht]; exact hP, hS.F ht⟩) hS.2.2 dX10_keep_71 hlk
theorem gk_X10_keep {M : Mm} {a0 : Nat} {a1 : Int32} {a2 : Int32} {a3 : Int32} {r : (Mm × Int32)} (h : f_X10_keep M a0 a1 a2 a3 = some r) : mK M a0 = 11 := by
  unfold f_X10_keep at h
  exact (if_some h).1
set_option maxHeartbeats 4000000 in
set_option maxRecDepth 100000 in
theorem ct_X10_keep (l : Launch) (b0 : Nat) (D : va_G) (cy : Nat → ClassId) (M : Mm) (a0 : Nat) (a1 : Int32) (a2 : Int32) (a3 : Int32) (M1 : Mm) (r : Int32) (hF : f_X10_keep M a0 a1 a2 a3 = some (M1, r)) : Met l yX10_keep wsX10_keep rm_X10_keep (va_Pc [.ref a0, .int a1, .int a2, .int a3] (Pm b0 D cy M)) (Qm b0 D cy M1 (some (.int r))) 0 0 (BA b0) := by
  refine ct_of [.ref a0, .int a1, .int a2, .int a3] (by decide) rfl ?_
  intro p e s m below meth c CX hP
  obtain ⟨hx, hb, hr, hml, hown0, hts, hlk, hK, hN, hb0, hnm⟩ := id CX
  have hown : s.vm.findClass RX10 = some m.cls := hown0
  have hS : va_S (BA b0) s.heap s.heap [] := va_S.rf
  have hl := lv_entry [.ref a0, .int a1, .int a2, .int a3] (n := 5) (Nat.le_of_ble_eq_true rfl)
  generalize (lg_sl [.ref a0, .int a1, .int a2, .int a3] ++ List.replicate (5 - (lg_sl [.ref a0, .int a1, .int a2, .int a3]).length) Slot.unset).toArray = ls at hl ⊢
  have hl : lv_has ls 5 [(0, .ref a0), (1, .int a1), (2, .int a2), (3, .int a3)] := hl
  unfold f_X10_keep at hF
  replace hF := (if_some hF).2
  refine lv_iload_n hx hb dX10_keep_0 rfl (lv_at hl 1 rfl) ?_
  obtain ⟨v2, h1, hF⟩ := ob_some hF
  refine xr_call1 (va_runS (As := [.int a1]) (rest := []) ⟨hx, hb, hml, hown, hts⟩ (ct_X10_isShelf l b0 D cy M a1 v2 h1) (va_cwS 1 hts gX10_keep_X10_isShelf rfl rfl rfl (by decide +kernel) ⟨Nat.le_of_ble_eq_true rfl, Nat.le_of_ble_eq_true rfl⟩) (xp_S hP hK hN hS hb0) rfl rfl hl.1 rfl (lv_room (Nat.le_of_ble_eq_true rfl)) dX10_keep_1 ⟨Nat.le_of_ble_eq_true rfl, Nat.le_of_ble_eq_true rfl⟩) hS (fun H locs hP hS => ?_)
  refine lv_if_ne (tgt := 9) hx hb dX10_keep_4 (by decide) (fun c3 => ?_) (fun c3 => ?_)
  · replace hF := it_f hF c3
    refine lv_aload_n hx hb dX10_keep_9 rfl (lv_at hl 0 rfl) ?_
    refine xr_getR hx hb hts iw_X10_keep_10 hown hK hP hF 10 6 rfl (by decide) (by decide +kernel) ⟨rfl, rfl, rfl⟩ dX10_keep_10 (fun v4 hF => ?_)
    refine lv_iload_n hx hb dX10_keep_13 rfl (lv_at hl 1 rfl) ?_
    refine xr_aR hx hb hK hP hF 6 rfl (by decide) dX10_keep_14 (fun v5 hF => ?_)
    refine lv_astore (lv' := [(4, .ref v5), (0, .ref a0), (1, .int a1), (2, .int a2), (3, .int a3)]) hx hb dX10_keep_15 hl (by decide) (by first | rfl | simp [cat_rf]) (fun ls hl => ?_)
    refine lv_iload_n hx hb dX10_keep_17 rfl (lv_at hl 3 rfl) ?_
    by_cases c6 : a2 = 0
    · replace hF := it_t hF c6
      refine lv_tableIn (off := 34) (tgt := 52) hx hb dX10_keep_18 (by rw [c6]; decide) (by rw [c6]; decide) (by rw [c6]; decide) (by decide) ?_
      refine lv_aload hx hb dX10_keep_52 (lv_at hl 0 rfl) ?_
      refine lv_iconst (v := 0) hx hb dX10_keep_54 (by decide) ?_
      refine xr_putI hx hb hts iw_X10_keep_8 hown hK hP hS hF 8 1 rfl (by decide) tyX8 tyX8_ok nmX8 (by decide +kernel) (Or.inl rfl) rfl ⟨rfl, rfl, rfl⟩ dX10_keep_55 (fun M7 H locs hF hP hS => ?_)
      refine lv_iconst (v := 0) hx hb dX10_keep_58 (by decide) ?_
      cases hF
      exact W.iret hx hb hr (fun t ht hW => ⟨rfl, by rw [ht]; exact hP, hS.F ht⟩) hS.2.2 dX10_keep_59 hlk
    replace hF := it_f hF c6
    by_cases c8 : a2 = 1
    · replace hF := it_t hF c8
      refine lv_tableIn (off := 42) (tgt := 60) hx hb dX10_keep_18 (by rw [c8]; decide) (by rw [c8]; decide) (by rw [c8]; decide) (by decide) ?_
      exact nd_X10_keep_60 CX _ _ _ _ _ _ _ _ hF hP hS (lv_sub hl [1, 3, 4, 0] rfl)
    replace hF := it_f hF c8
    by_cases c9 : a2 = 2
    · replace hF := it_t hF c9
      refine lv_tableIn (off := 42) (tgt := 60) hx hb dX10_keep_18 (by rw [c9]; decide) (by rw [c9]; decide) (by rw [c9]; decide) (by decide) ?_
      exact nd_X10_keep_60 CX _ _ _ _ _ _ _ _ hF hP hS (lv_sub hl [1, 3, 4, 0] rfl)
    replace hF := it_f hF c9
    by_cases c10 : a2 = 3
    · replace hF := it_t hF c10
      refine lv_tableIn (off := 54) (tgt := 72) hx hb dX10_keep_18 (by rw [c10]; decide) (by rw [c10]; decide) (by rw [c10]; decide) (by decide) ?_
      refine lv_aload_n hx hb dX10_keep_72 rfl (lv_at hl 1 rfl) ?_
      refine lv_aload hx hb dX10_keep_73 (lv_at hl 0 rfl) ?_
      refine lv_iload_n hx hb dX10_keep_75 rfl (lv_at hl 4 rfl) ?_
      obtain ⟨M12, v13, h11, hF⟩ := ob2_some hF
      refine xr_call1 (va_runV (As := [.ref v5, .int a3]) (rest := []) ⟨hx, hb, hml, hown, hts⟩ (ct_X10_keepReferences l b0 D cy M a0 v5 a3 M12 v13 h11) (cwV 2 hts gX10_keep_X10_keepReferences rfl rfl rfl (by decide +kernel) ⟨Nat.le_of_ble_eq_true rfl, Nat.le_of_ble_eq_true rfl⟩) (xp_V hP hK hN hS hb0 10 rfl (gk_X10_keepReferences h11)) rfl rfl hl.1 rfl (lv_room (Nat.le_of_ble_eq_true rfl)) dX10_keep_76 ⟨Nat.le_of_ble_eq_true rfl, Nat.le_of_ble_eq_true rfl⟩) hS (fun H locs hP hS => ?_)
      cases hF
      exact W.iret hx hb hr (fun t ht hW => ⟨rfl, by rw [ht]; exact hP, hS.F ht⟩) hS.2.2 dX10_keep_79 hlk
    replace hF := it_f hF c10
    by_cases c14 : a2 = 4
    · replace hF := it_t hF c14
      refine lv_tableIn (off := 62) (tgt := 80) hx hb dX10_keep_18 (by rw [c14]; decide) (by rw [c14]; decide) (by rw [c14]; decide) (by decide) ?_
      refine lv_aload_n hx hb dX10_keep_80 rfl (lv_at hl 1 rfl) ?_
      refine lv_aload hx hb dX10_keep_81 (lv_at hl 0 rfl) ?_
      refine lv_iload_n hx hb dX10_keep_83 rfl (lv_at hl 4 rfl) ?_
      obtain ⟨M16, v17, h15, hF⟩ := ob2_some hF
      refine xr_call1 (va_runV (As := [.ref v5, .int a3]) (rest := []) ⟨hx, hb, hml, hown, hts⟩ (ct_X10_keepContext l b0 D cy M a0 v5 a3 M16 v17 h15) (cwV 2 hts gX10_keep_X10_keepContext rfl rfl rfl (by decide +kernel) ⟨Nat.le_of_ble_eq_true rfl, Nat.le_of_ble_eq_true rfl⟩) (xp_V hP hK hN hS hb0 10 rfl (gk_X10_keepContext h15)) rfl rfl hl.1 rfl (lv_room (Nat.le_of_ble_eq_true rfl)) dX10_keep_84 ⟨Nat.le_of_ble_eq_true rfl, Nat.le_of_ble_eq_true rfl⟩) hS (fun H locs hP hS => ?_)
      cases hF
      exact W.iret hx hb hr (fun t ht hW => ⟨rfl, by rw [ht]; exact hP, hS.F ht⟩) hS.2.2 dX10_keep_87 hlk
    replace hF := it_f hF c14
    refine lv_tableOut (tgt := 88) hx hb dX10_keep_18 (by have := lv_neT c6 (by decide : (0 : Int32).toInt = 0); have := lv_neT c8 (by decide : (1 : Int32).toInt = 1); have := lv_neT c9 (by decide : (2 : Int32).toInt = 2); have := lv_neT c10 (by decide : (3 : Int32).toInt = 3); have := lv_neT c14 (by decide : (4 : Int32).toInt = 4); omega) (by decide) ?_
    refine lv_iconst (v := (-1)) hx hb dX10_keep_88 (by decide) ?_
    cases hF
    exact W.iret hx hb hr (fun t ht hW => ⟨rfl, by rw [ht]; exact hP, hS.F ht⟩) hS.2.2 dX10_keep_89 hlk
  · replace hF := it_t hF c3
    refine lv_iconst (v := (-1)) hx hb dX10_keep_7 (by decide) ?_
    cases hF
    exact W.iret hx hb hr (fun t ht hW => ⟨rfl, by rw [ht]; exact hP, hS.F ht⟩) hS.2.2 dX10_keep_8 hlk
/-! X10_make -/
theorem iw_X10_make_10 : ∀ w ∈ u_ws RX10 TX10 12, w ∈ wsX10_make := by decide +kernel
abbrev rm_X10_make : Room := { frames := 2, cells := 0, slots := 0, locals := 46 }
theorem gk_X10_make {M : Mm} {a0 : Nat} {a1 : Int32} {a2 : Int32} {a3 : Int32} {r : (Mm × Int32)} (h : f_X10_make M a0 a1 a2 a3 = some r) : mK M a0 = 11 := by
  unfold f_X10_make at h
  exact (if_some h).1
set_option maxHeartbeats 4000000 in
set_option maxRecDepth 100000 in
theorem ct_X10_make (l : Launch) (b0 : Nat) (D : va_G) (cy : Nat → ClassId) (M : Mm) (a0 : Nat) (a1 : Int32) (a2 : Int32) (a3 : Int32) (M1 : Mm) (r : Int32) (hF : f_X10_make M a0 a1 a2 a3 = some (M1, r)) : Met l yX10_make wsX10_make rm_X10_make (va_Pc [.ref a0, .int a1, .int a2, .int a3] (Pm b0 D cy M)) (Qm b0 D cy M1 (some (.int r))) 0 0 (BA b0) := by
  refine ct_of [.ref a0, .int a1, .int a2, .int a3] (by decide) rfl ?_
  intro p e s m below meth c CX hP
  obtain ⟨hx, hb, hr, hml, hown0, hts, hlk, hK, hN, hb0, hnm⟩ := id CX
  have hown : s.vm.findClass RX10 = some m.cls := hown0
  have hS : va_S (BA b0) s.heap s.heap [] := va_S.rf
  have hl := lv_entry [.ref a0, .int a1, .int a2, .int a3] (n := 4) (Nat.le_of_ble_eq_true rfl)
  generalize (lg_sl [.ref a0, .int a1, .int a2, .int a3] ++ List.replicate (4 - (lg_sl [.ref a0, .int a1, .int a2, .int a3]).length) Slot.unset).toArray = ls at hl ⊢
  have hl : lv_has ls 4 [(0, .ref a0), (1, .int a1), (2, .int a2), (3, .int a3)] := hl
  unfold f_X10_make at hF
  replace hF := (if_some hF).2
  refine lv_iload_n hx hb dX10_make_0 rfl (lv_at hl 1 rfl) ?_
  obtain ⟨v2, h1, hF⟩ := ob_some hF
  refine xr_call1 (va_runS (As := [.int a1]) (rest := []) ⟨hx, hb, hml, hown, hts⟩ (ct_X10_isShelf l b0 D cy M a1 v2 h1) (va_cwS 1 hts gX10_make_X10_isShelf rfl rfl rfl (by decide +kernel) ⟨Nat.le_of_ble_eq_true rfl, Nat.le_of_ble_eq_true rfl⟩) (xp_S hP hK hN hS hb0) rfl rfl hl.1 rfl (lv_room (Nat.le_of_ble_eq_true rfl)) dX10_make_1 ⟨Nat.le_of_ble_eq_true rfl, Nat.le_of_ble_eq_true rfl⟩) hS (fun H locs hP hS => ?_)
  refine lv_if_eq (tgt := 23) hx hb dX10_make_4 (by decide) (fun c3 => ?_) (fun c3 => ?_)
  · replace hF := it_t hF c3
    refine lv_iconst (v := (-1)) hx hb dX10_make_23 (by decide) ?_
    cases hF
    exact W.iret hx hb hr (fun t ht hW => ⟨rfl, by rw [ht]; exact hP, hS.F ht⟩) hS.2.2 dX10_make_24 hlk
  · replace hF := it_f hF c3
    refine lv_iload_n hx hb dX10_make_7 rfl (lv_at hl 2 rfl) ?_
    refine lv_iconst (v := 2) hx hb dX10_make_8 (by decide) ?_
    refine lv_icmp_lt (tgt := 23) hx hb dX10_make_9 (by decide) (fun c4 => ?_) (fun c4 => ?_)
    · replace hF := it_t hF c4
      refine lv_iconst (v := (-1)) hx hb dX10_make_23 (by decide) ?_
      cases hF
      exact W.iret hx hb hr (fun t ht hW => ⟨rfl, by rw [ht]; exact hP, hS.F ht⟩) hS.2.2 dX10_make_24 hlk
    · replace hF := it_f hF c4
      refine lv_iload_n hx hb dX10_make_12 rfl (lv_at hl 2 rfl) ?_
      refine lv_iconst (v := 4) hx hb dX10_make_13 (by decide) ?_
      refine lv_icmp_gt (tgt := 23) hx hb dX10_make_14 (by decide) (fun c5 => ?_) (fun c5 => ?_)
      · replace hF := it_t hF c5
        refine lv_iconst (v := (-1)) hx hb dX10_make_23 (by decide) ?_
        cases hF
        exact W.iret hx hb hr (fun t ht hW => ⟨rfl, by rw [ht]; exact hP, hS.F ht⟩) hS.2.2 dX10_make_24 hlk
      · replace hF := it_f hF c5
        refine lv_iload_n hx hb dX10_make_17 rfl (lv_at hl 3 rfl) ?_
        refine lv_bipush (v := 60) hx hb dX10_make_18 (by decide) ?_
        refine lv_icmp_le (tgt := 25) hx hb dX10_make_20 (by decide) (fun c6 => ?_) (fun c6 => ?_)
        · replace hF := it_t hF c6
          refine lv_iload_n hx hb dX10_make_25 rfl (lv_at hl 3 rfl) ?_
          refine lv_if_ge (tgt := 32) hx hb dX10_make_26 (by decide) (fun c7 => ?_) (fun c7 => ?_)
          · replace hF := it_t hF c7
            refine lv_aload_n hx hb dX10_make_32 rfl (lv_at hl 0 rfl) ?_
            refine xr_getR hx hb hts iw_X10_make_10 hown hK hP hF 10 6 rfl (by decide) (by decide +kernel) ⟨rfl, rfl, rfl⟩ dX10_make_33 (fun v8 hF => ?_)
            refine lv_iload_n hx hb dX10_make_36 rfl (lv_at hl 1 rfl) ?_
            refine xr_aR hx hb hK hP hF 6 rfl (by decide) dX10_make_37 (fun v9 hF => ?_)
            refine lv_iload_n hx hb dX10_make_38 rfl (lv_at hl 2 rfl) ?_
            refine lv_iload_n hx hb dX10_make_39 rfl (lv_at hl 3 rfl) ?_
            obtain ⟨M11, h10, hF⟩ := ob_some hF
            refine xr_call0 (va_runV (As := [.int a2, .int a3]) (rest := []) ⟨hx, hb, hml, hown, hts⟩ (ct_X8_holdRow l b0 D cy M v9 a2 a3 M11 h10) (cwV 2 hts gX10_make_X8_holdRow rfl rfl rfl (by decide +kernel) ⟨Nat.le_of_ble_eq_true rfl, Nat.le_of_ble_eq_true rfl⟩) (xp_V hP hK hN hS hb0 8 rfl (gk_X8_holdRow h10)) rfl rfl hl.1 rfl (lv_room (Nat.le_of_ble_eq_true rfl)) dX10_make_40 ⟨Nat.le_of_ble_eq_true rfl, Nat.le_of_ble_eq_true rfl⟩) hS (fun H locs hP hS => ?_)
            refine lv_iconst (v := 0) hx hb dX10_make_43 (by decide) ?_
            cases hF
            exact W.iret hx hb hr (fun t ht hW => ⟨rfl, by rw [ht]; exact hP, hS.F ht⟩) hS.2.2 dX10_make_44 hlk
          · replace hF := it_f hF c7
            refine lv_bipush (v := (-14)) hx hb dX10_make_29 (by decide) ?_
            cases hF
            exact W.iret hx hb hr (fun t ht hW => ⟨rfl, by rw [ht]; exact hP, hS.F ht⟩) hS.2.2 dX10_make_31 hlk
        · replace hF := it_f hF c6
          refine lv_iconst (v := (-1)) hx hb dX10_make_23 (by decide) ?_
          cases hF
          exact W.iret hx hb hr (fun t ht hW => ⟨rfl, by rw [ht]; exact hP, hS.F ht⟩) hS.2.2 dX10_make_24 hlk
/-! X10_put -/
theorem iw_X10_put_8 : ∀ w ∈ u_ws RX8 TX8 5, w ∈ wsX10_put := by decide +kernel
theorem iw_X10_put_10 : ∀ w ∈ u_ws RX10 TX10 12, w ∈ wsX10_put := by decide +kernel
abbrev rm_X10_put : Room := { frames := 1, cells := 0, slots := 0, locals := 22 }
theorem gk_X10_put {M : Mm} {a0 : Nat} {a1 : Int32} {a2 : Int32} {a3 : Int32} {r : (Mm × Int64)} (h : f_X10_put M a0 a1 a2 a3 = some r) : mK M a0 = 11 := by
  unfold f_X10_put at h
  exact (if_some h).1
set_option maxHeartbeats 4000000 in
set_option maxRecDepth 100000 in
theorem ct_X10_put (l : Launch) (b0 : Nat) (D : va_G) (cy : Nat → ClassId) (M : Mm) (a0 : Nat) (a1 : Int32) (a2 : Int32) (a3 : Int32) (M1 : Mm) (r : Int64) (hF : f_X10_put M a0 a1 a2 a3 = some (M1, r)) : Met l yX10_put wsX10_put rm_X10_put (va_Pc [.ref a0, .int a1, .int a2, .int a3] (Pm b0 D cy M)) (Qm b0 D cy M1 (some (.long r))) 0 0 (BA b0) := by
  refine ct_of [.ref a0, .int a1, .int a2, .int a3] (by decide) rfl ?_
  intro p e s m below meth c CX hP
  obtain ⟨hx, hb, hr, hml, hown0, hts, hlk, hK, hN, hb0, hnm⟩ := id CX
  have hown : s.vm.findClass RX10 = some m.cls := hown0
  have hS : va_S (BA b0) s.heap s.heap [] := va_S.rf
  have hl := lv_entry [.ref a0, .int a1, .int a2, .int a3] (n := 7) (Nat.le_of_ble_eq_true rfl)
  generalize (lg_sl [.ref a0, .int a1, .int a2, .int a3] ++ List.replicate (7 - (lg_sl [.ref a0, .int a1, .int a2, .int a3]).length) Slot.unset).toArray = ls at hl ⊢
  have hl : lv_has ls 7 [(0, .ref a0), (1, .int a1), (2, .int a2), (3, .int a3)] := hl
  unfold f_X10_put at hF
  replace hF := (if_some hF).2
  refine lv_iload_n hx hb dX10_put_0 rfl (lv_at hl 1 rfl) ?_
  obtain ⟨v2, h1, hF⟩ := ob_some hF
  refine xr_call1 (va_runS (As := [.int a1]) (rest := []) ⟨hx, hb, hml, hown, hts⟩ (ct_X10_isShelf l b0 D cy M a1 v2 h1) (va_cwS 1 hts gX10_put_X10_isShelf rfl rfl rfl (by decide +kernel) ⟨Nat.le_of_ble_eq_true rfl, Nat.le_of_ble_eq_true rfl⟩) (xp_S hP hK hN hS hb0) rfl rfl hl.1 rfl (lv_room (Nat.le_of_ble_eq_true rfl)) dX10_put_1 ⟨Nat.le_of_ble_eq_true rfl, Nat.le_of_ble_eq_true rfl⟩) hS (fun H locs hP hS => ?_)
  refine lv_if_eq (tgt := 18) hx hb dX10_put_4 (by decide) (fun c3 => ?_) (fun c3 => ?_)
  · replace hF := it_t hF c3
    refine lv_ldc2 (v := (-1)) hx hb hown (hts (.constantLong RX10 99 (-1)) (by decide +kernel)) dX10_put_18 ?_
    cases hF
    exact W.lret hx hb hr (fun t ht hW => ⟨rfl, by rw [ht]; exact hP, hS.F ht⟩) hS.2.2 dX10_put_21 hlk
  · replace hF := it_f hF c3
    refine lv_iload_n hx hb dX10_put_7 rfl (lv_at hl 3 rfl) ?_
    refine lv_if_lt (tgt := 18) hx hb dX10_put_8 (by decide) (fun c4 => ?_) (fun c4 => ?_)
    · replace hF := it_t hF c4
      refine lv_ldc2 (v := (-1)) hx hb hown (hts (.constantLong RX10 99 (-1)) (by decide +kernel)) dX10_put_18 ?_
      cases hF
      exact W.lret hx hb hr (fun t ht hW => ⟨rfl, by rw [ht]; exact hP, hS.F ht⟩) hS.2.2 dX10_put_21 hlk
    · replace hF := it_f hF c4
      refine lv_iload_n hx hb dX10_put_11 rfl (lv_at hl 3 rfl) ?_
      refine lv_sipush (v := 30000) hx hb dX10_put_12 (by decide) ?_
      refine lv_icmp_le (tgt := 22) hx hb dX10_put_15 (by decide) (fun c5 => ?_) (fun c5 => ?_)
      · replace hF := it_t hF c5
        refine lv_aload_n hx hb dX10_put_22 rfl (lv_at hl 0 rfl) ?_
        refine xr_getR hx hb hts iw_X10_put_10 hown hK hP hF 10 6 rfl (by decide) (by decide +kernel) ⟨rfl, rfl, rfl⟩ dX10_put_23 (fun v6 hF => ?_)
        refine lv_iload_n hx hb dX10_put_26 rfl (lv_at hl 1 rfl) ?_
        refine xr_aR hx hb hK hP hF 6 rfl (by decide) dX10_put_27 (fun v7 hF => ?_)
        refine lv_astore (lv' := [(4, .ref v7), (0, .ref a0), (1, .int a1), (2, .int a2), (3, .int a3)]) hx hb dX10_put_28 hl (by decide) (by first | rfl | simp [cat_rf]) (fun ls hl => ?_)
        refine lv_aload hx hb dX10_put_30 (lv_at hl 0 rfl) ?_
        refine xr_getI hx hb hts iw_X10_put_8 hown hK hP hF 8 1 rfl (by decide) (by decide +kernel) ⟨rfl, rfl, rfl⟩ dX10_put_32 (fun v8 hF => ?_)
        refine lv_if_ne (tgt := 42) hx hb dX10_put_35 (by decide) (fun c9 => ?_) (fun c9 => ?_)
        · replace hF := it_f hF c9
          refine lv_aload hx hb dX10_put_42 (lv_at hl 0 rfl) ?_
          refine xr_getI hx hb hts iw_X10_put_8 hown hK hP hF 8 1 rfl (by decide) (by decide +kernel) ⟨rfl, rfl, rfl⟩ dX10_put_44 (fun v10 hF => ?_)
          refine lv_iconst (v := 1) hx hb dX10_put_47 (by decide) ?_
          refine lv_icmp_ne (tgt := 55) hx hb dX10_put_48 (by decide) (fun c11 => ?_) (fun c11 => ?_)
          · replace hF := it_f hF c11
            refine lv_aload hx hb dX10_put_55 (lv_at hl 0 rfl) ?_
            refine lv_iload_n hx hb dX10_put_57 rfl (lv_at hl 3 rfl) ?_
            refine lv_iconst (v := 1) hx hb dX10_put_58 (by decide) ?_
            obtain ⟨v13, h12, hF⟩ := ob_some hF
            refine xr_call1 (va_runV (As := [.int a2, .int 1]) (rest := []) ⟨hx, hb, hml, hown, hts⟩ (ct_X8_hasPlaces l b0 D cy M v7 a2 1 v13 h12) (cwV 2 hts gX10_put_X8_hasPlaces rfl rfl rfl (by decide +kernel) ⟨Nat.le_of_ble_eq_true rfl, Nat.le_of_ble_eq_true rfl⟩) (xp_V hP hK hN hS hb0 8 rfl (gk_X8_hasPlaces h12)) rfl rfl hl.1 rfl (lv_room (Nat.le_of_ble_eq_true rfl)) dX10_put_59 ⟨Nat.le_of_ble_eq_true rfl, Nat.le_of_ble_eq_true rfl⟩) hS (fun H locs hP hS => ?_)
            refine lv_if_ne (tgt := 69) hx hb dX10_put_62 (by decide) (fun c14 => ?_) (fun c14 => ?_)
            · replace hF := it_f hF c14
              refine lv_aload hx hb dX10_put_69 (lv_at hl 0 rfl) ?_
              refine xr_getR hx hb hts iw_X10_put_8 hown hK hP hF 8 0 rfl (by decide) (by decide +kernel) ⟨rfl, rfl, rfl⟩ dX10_put_71 (fun v15 hF => ?_)
              refine lv_iload_n hx hb dX10_put_74 rfl (lv_at hl 3 rfl) ?_
              refine xr_aJ hx hb hK hP hF dX10_put_75 (fun v16 hF => ?_)
              refine lv_lstore (lv' := [(5, .long v16), (4, .ref v7), (0, .ref a0), (1, .int a1), (2, .int a2), (3, .int a3)]) hx hb dX10_put_76 hl (by decide) (by first | rfl | simp [cat_rf]) (fun ls hl => ?_)
              refine lv_aload hx hb dX10_put_78 (lv_at hl 1 rfl) ?_
              refine xr_getR hx hb hts iw_X10_put_8 hown hK hP hF 8 0 rfl (by decide) (by decide +kernel) ⟨rfl, rfl, rfl⟩ dX10_put_80 (fun v17 hF => ?_)
              refine lv_iload_n hx hb dX10_put_83 rfl (lv_at hl 4 rfl) ?_
              refine lv_iload_n hx hb dX10_put_84 rfl (lv_at hl 5 rfl) ?_
              refine lv_i2l hx hb dX10_put_85 rfl ?_
              refine xr_wJ hx hb hK hP hS hF dX10_put_86 (fun M18 H locs hF hP hS => ?_)
              refine lv_lload hx hb dX10_put_87 (lv_at hl 0 rfl) ?_
              cases hF
              exact W.lret hx hb hr (fun t ht hW => ⟨rfl, by rw [ht]; exact hP, hS.F ht⟩) hS.2.2 dX10_put_89 hlk
            · replace hF := it_t hF c14
              refine lv_ldc2 (v := (-13)) hx hb hown (hts (.constantLong RX10 299 (-13)) (by decide +kernel)) dX10_put_65 ?_
              cases hF
              exact W.lret hx hb hr (fun t ht hW => ⟨rfl, by rw [ht]; exact hP, hS.F ht⟩) hS.2.2 dX10_put_68 hlk
          · replace hF := it_t hF c11
            refine lv_ldc2 (v := (-12)) hx hb hown (hts (.constantLong RX10 293 (-12)) (by decide +kernel)) dX10_put_51 ?_
            cases hF
            exact W.lret hx hb hr (fun t ht hW => ⟨rfl, by rw [ht]; exact hP, hS.F ht⟩) hS.2.2 dX10_put_54 hlk
        · replace hF := it_t hF c9
          refine lv_ldc2 (v := (-11)) hx hb hown (hts (.constantLong RX10 291 (-11)) (by decide +kernel)) dX10_put_38 ?_
          cases hF
          exact W.lret hx hb hr (fun t ht hW => ⟨rfl, by rw [ht]; exact hP, hS.F ht⟩) hS.2.2 dX10_put_41 hlk
      · replace hF := it_f hF c5
        refine lv_ldc2 (v := (-1)) hx hb hown (hts (.constantLong RX10 99 (-1)) (by decide +kernel)) dX10_put_18 ?_
        cases hF
        exact W.lret hx hb hr (fun t ht hW => ⟨rfl, by rw [ht]; exact hP, hS.F ht⟩) hS.2.2 dX10_put_21 hlk
/-! X10_copy -/
theorem iw_X10_copy_8 : ∀ w ∈ u_ws RX8 TX8 5, w ∈ wsX10_copy := by decide +kernel
theorem iw_X10_copy_10 : ∀ w ∈ u_ws RX10 TX10 12, w ∈ wsX10_copy := by decide +kernel
abbrev rm_X10_copy : Room := { frames := 1, cells := 0, slots := 0, locals := 50 }
theorem gk_X10_copy {M : Mm} {a0 : Nat} {a1 : Int32} {a2 : Int32} {a3 : Int32} {a4 : Int32} {a5 : Int32} {r : (Mm × Int32)} (h : f_X10_copy M a0 a1 a2 a3 a4 a5 = some r) : mK M a0 = 11 := by
  unfold f_X10_copy at h
  exact (if_some h).1
set_option maxHeartbeats 4000000 in
set_option maxRecDepth 100000 in
theorem ct_X10_copy (l : Launch) (b0 : Nat) (D : va_G) (cy : Nat → ClassId) (M : Mm) (a0 : Nat) (a1 : Int32) (a2 : Int32) (a3 : Int32) (a4 : Int32) (a5 : Int32) (M1 : Mm) (r : Int32) (hF : f_X10_copy M a0 a1 a2 a3 a4 a5 = some (M1, r)) : Met l yX10_copy wsX10_copy rm_X10_copy (va_Pc [.ref a0, .int a1, .int a2, .int a3, .int a4, .int a5] (Pm b0 D cy M)) (Qm b0 D cy M1 (some (.int r))) 0 0 (BA b0) := by
  refine ct_of [.ref a0, .int a1, .int a2, .int a3, .int a4, .int a5] (by decide) rfl ?_
  intro p e s m below meth c CX hP
  obtain ⟨hx, hb, hr, hml, hown0, hts, hlk, hK, hN, hb0, hnm⟩ := id CX
  have hown : s.vm.findClass RX10 = some m.cls := hown0
  have hS : va_S (BA b0) s.heap s.heap [] := va_S.rf
  have hl := lv_entry [.ref a0, .int a1, .int a2, .int a3, .int a4, .int a5] (n := 8) (Nat.le_of_ble_eq_true rfl)
  generalize (lg_sl [.ref a0, .int a1, .int a2, .int a3, .int a4, .int a5] ++ List.replicate (8 - (lg_sl [.ref a0, .int a1, .int a2, .int a3, .int a4, .int a5]).length) Slot.unset).toArray = ls at hl ⊢
  have hl : lv_has ls 8 [(0, .ref a0), (1, .int a1), (2, .int a2), (3, .int a3), (4, .int a4), (5, .int a5)] := hl
  unfold f_X10_copy at hF
  replace hF := (if_some hF).2
  refine lv_iload_n hx hb dX10_copy_0 rfl (lv_at hl 1 rfl) ?_
  obtain ⟨v2, h1, hF⟩ := ob_some hF
  refine xr_call1 (va_runS (As := [.int a1]) (rest := []) ⟨hx, hb, hml, hown, hts⟩ (ct_X10_isShelf l b0 D cy M a1 v2 h1) (va_cwS 1 hts gX10_copy_X10_isShelf rfl rfl rfl (by decide +kernel) ⟨Nat.le_of_ble_eq_true rfl, Nat.le_of_ble_eq_true rfl⟩) (xp_S hP hK hN hS hb0) rfl rfl hl.1 rfl (lv_room (Nat.le_of_ble_eq_true rfl)) dX10_copy_1 ⟨Nat.le_of_ble_eq_true rfl, Nat.le_of_ble_eq_true rfl⟩) hS (fun H locs hP hS => ?_)
  refine lv_if_eq (tgt := 14) hx hb dX10_copy_4 (by decide) (fun c3 => ?_) (fun c3 => ?_)
  · replace hF := it_t hF c3
    refine lv_iconst (v := (-1)) hx hb dX10_copy_14 (by decide) ?_
    cases hF
    exact W.iret hx hb hr (fun t ht hW => ⟨rfl, by rw [ht]; exact hP, hS.F ht⟩) hS.2.2 dX10_copy_15 hlk
  · replace hF := it_f hF c3
    refine lv_iload_n hx hb dX10_copy_7 rfl (lv_at hl 3 rfl) ?_
    obtain ⟨v5, h4, hF⟩ := ob_some hF
    refine xr_call1 (va_runS (As := [.int a3]) (rest := []) ⟨hx, hb, hml, hown, hts⟩ (ct_X10_isShelf l b0 D cy M a3 v5 h4) (va_cwS 1 hts gX10_copy_X10_isShelf rfl rfl rfl (by decide +kernel) ⟨Nat.le_of_ble_eq_true rfl, Nat.le_of_ble_eq_true rfl⟩) (xp_S hP hK hN hS hb0) rfl rfl hl.1 rfl (lv_room (Nat.le_of_ble_eq_true rfl)) dX10_copy_8 ⟨Nat.le_of_ble_eq_true rfl, Nat.le_of_ble_eq_true rfl⟩) hS (fun H locs hP hS => ?_)
    refine lv_if_ne (tgt := 16) hx hb dX10_copy_11 (by decide) (fun c6 => ?_) (fun c6 => ?_)
    · replace hF := it_f hF c6
      refine lv_aload_n hx hb dX10_copy_16 rfl (lv_at hl 0 rfl) ?_
      refine xr_getR hx hb hts iw_X10_copy_10 hown hK hP hF 10 6 rfl (by decide) (by decide +kernel) ⟨rfl, rfl, rfl⟩ dX10_copy_17 (fun v7 hF => ?_)
      refine lv_iload_n hx hb dX10_copy_20 rfl (lv_at hl 1 rfl) ?_
      refine xr_aR hx hb hK hP hF 6 rfl (by decide) dX10_copy_21 (fun v8 hF => ?_)
      refine lv_astore (lv' := [(6, .ref v8), (0, .ref a0), (1, .int a1), (2, .int a2), (3, .int a3), (4, .int a4), (5, .int a5)]) hx hb dX10_copy_22 hl (by decide) (by first | rfl | simp [cat_rf]) (fun ls hl => ?_)
      refine lv_aload_n hx hb dX10_copy_24 rfl (lv_at hl 1 rfl) ?_
      refine xr_getR hx hb hts iw_X10_copy_10 hown hK hP hF 10 6 rfl (by decide) (by decide +kernel) ⟨rfl, rfl, rfl⟩ dX10_copy_25 (fun v9 hF => ?_)
      refine lv_iload_n hx hb dX10_copy_28 rfl (lv_at hl 4 rfl) ?_
      refine xr_aR hx hb hK hP hF 6 rfl (by decide) dX10_copy_29 (fun v10 hF => ?_)
      refine lv_astore (lv' := [(7, .ref v10), (6, .ref v8), (0, .ref a0), (1, .int a1), (2, .int a2), (3, .int a3), (4, .int a4), (5, .int a5)]) hx hb dX10_copy_30 hl (by decide) (by first | rfl | simp [cat_rf]) (fun ls hl => ?_)
      refine lv_aload hx hb dX10_copy_32 (lv_at hl 1 rfl) ?_
      refine xr_getI hx hb hts iw_X10_copy_8 hown hK hP hF 8 1 rfl (by decide) (by decide +kernel) ⟨rfl, rfl, rfl⟩ dX10_copy_34 (fun v11 hF => ?_)
      refine lv_if_eq (tgt := 48) hx hb dX10_copy_37 (by decide) (fun c12 => ?_) (fun c12 => ?_)
      · replace hF := it_t hF c12
        refine lv_bipush (v := (-11)) hx hb dX10_copy_48 (by decide) ?_
        cases hF
        exact W.iret hx hb hr (fun t ht hW => ⟨rfl, by rw [ht]; exact hP, hS.F ht⟩) hS.2.2 dX10_copy_50 hlk
      · replace hF := it_f hF c12
        refine lv_aload hx hb dX10_copy_40 (lv_at hl 0 rfl) ?_
        refine xr_getI hx hb hts iw_X10_copy_8 hown hK hP hF 8 1 rfl (by decide) (by decide +kernel) ⟨rfl, rfl, rfl⟩ dX10_copy_42 (fun v13 hF => ?_)
        refine lv_if_ne (tgt := 51) hx hb dX10_copy_45 (by decide) (fun c14 => ?_) (fun c14 => ?_)
        · replace hF := it_f hF c14
          refine lv_aload hx hb dX10_copy_51 (lv_at hl 1 rfl) ?_
          refine xr_getI hx hb hts iw_X10_copy_8 hown hK hP hF 8 1 rfl (by decide) (by decide +kernel) ⟨rfl, rfl, rfl⟩ dX10_copy_53 (fun v15 hF => ?_)
          refine lv_iconst (v := 1) hx hb dX10_copy_56 (by decide) ?_
          refine lv_icmp_eq (tgt := 73) hx hb dX10_copy_57 (by decide) (fun c16 => ?_) (fun c16 => ?_)
          · replace hF := it_t hF c16
            refine lv_bipush (v := (-12)) hx hb dX10_copy_73 (by decide) ?_
            cases hF
            exact W.iret hx hb hr (fun t ht hW => ⟨rfl, by rw [ht]; exact hP, hS.F ht⟩) hS.2.2 dX10_copy_75 hlk
          · replace hF := it_f hF c16
            refine lv_aload hx hb dX10_copy_60 (lv_at hl 1 rfl) ?_
            refine xr_getI hx hb hts iw_X10_copy_8 hown hK hP hF 8 1 rfl (by decide) (by decide +kernel) ⟨rfl, rfl, rfl⟩ dX10_copy_62 (fun v17 hF => ?_)
            refine lv_aload hx hb dX10_copy_65 (lv_at hl 0 rfl) ?_
            refine xr_getI hx hb hts iw_X10_copy_8 hown hK hP hF 8 1 rfl (by decide) (by decide +kernel) ⟨rfl, rfl, rfl⟩ dX10_copy_67 (fun v18 hF => ?_)
            refine lv_icmp_eq (tgt := 76) hx hb dX10_copy_70 (by decide) (fun c19 => ?_) (fun c19 => ?_)
            · replace hF := it_t hF c19
              refine lv_aload hx hb dX10_copy_76 (lv_at hl 1 rfl) ?_
              refine lv_iload_n hx hb dX10_copy_78 rfl (lv_at hl 4 rfl) ?_
              refine lv_iload hx hb dX10_copy_79 (lv_at hl 7 rfl) ?_
              obtain ⟨v21, h20, hF⟩ := ob_some hF
              refine xr_call1 (va_runV (As := [.int a2, .int a5]) (rest := []) ⟨hx, hb, hml, hown, hts⟩ (ct_X8_hasPlaces l b0 D cy M v8 a2 a5 v21 h20) (cwV 2 hts gX10_copy_X8_hasPlaces rfl rfl rfl (by decide +kernel) ⟨Nat.le_of_ble_eq_true rfl, Nat.le_of_ble_eq_true rfl⟩) (xp_V hP hK hN hS hb0 8 rfl (gk_X8_hasPlaces h20)) rfl rfl hl.1 rfl (lv_room (Nat.le_of_ble_eq_true rfl)) dX10_copy_81 ⟨Nat.le_of_ble_eq_true rfl, Nat.le_of_ble_eq_true rfl⟩) hS (fun H locs hP hS => ?_)
              refine lv_if_eq (tgt := 99) hx hb dX10_copy_84 (by decide) (fun c22 => ?_) (fun c22 => ?_)
              · replace hF := it_t hF c22
                refine lv_bipush (v := (-13)) hx hb dX10_copy_99 (by decide) ?_
                cases hF
                exact W.iret hx hb hr (fun t ht hW => ⟨rfl, by rw [ht]; exact hP, hS.F ht⟩) hS.2.2 dX10_copy_101 hlk
              · replace hF := it_f hF c22
                refine lv_aload hx hb dX10_copy_87 (lv_at hl 0 rfl) ?_
                refine lv_iload hx hb dX10_copy_89 (lv_at hl 6 rfl) ?_
                refine lv_iload hx hb dX10_copy_91 (lv_at hl 7 rfl) ?_
                obtain ⟨v24, h23, hF⟩ := ob_some hF
                refine xr_call1 (va_runV (As := [.int a4, .int a5]) (rest := []) ⟨hx, hb, hml, hown, hts⟩ (ct_X8_hasPlaces l b0 D cy M v10 a4 a5 v24 h23) (cwV 2 hts gX10_copy_X8_hasPlaces rfl rfl rfl (by decide +kernel) ⟨Nat.le_of_ble_eq_true rfl, Nat.le_of_ble_eq_true rfl⟩) (xp_V hP hK hN hS hb0 8 rfl (gk_X8_hasPlaces h23)) rfl rfl hl.1 rfl (lv_room (Nat.le_of_ble_eq_true rfl)) dX10_copy_93 ⟨Nat.le_of_ble_eq_true rfl, Nat.le_of_ble_eq_true rfl⟩) hS (fun H locs hP hS => ?_)
                refine lv_if_ne (tgt := 102) hx hb dX10_copy_96 (by decide) (fun c25 => ?_) (fun c25 => ?_)
                · replace hF := it_f hF c25
                  refine lv_aload hx hb dX10_copy_102 (lv_at hl 1 rfl) ?_
                  refine xr_getR hx hb hts iw_X10_copy_8 hown hK hP hF 8 0 rfl (by decide) (by decide +kernel) ⟨rfl, rfl, rfl⟩ dX10_copy_104 (fun v26 hF => ?_)
                  refine lv_iload_n hx hb dX10_copy_107 rfl (lv_at hl 4 rfl) ?_
                  refine lv_aload hx hb dX10_copy_108 (lv_at hl 0 rfl) ?_
                  refine xr_getR hx hb hts iw_X10_copy_8 hown hK hP hF 8 0 rfl (by decide) (by decide +kernel) ⟨rfl, rfl, rfl⟩ dX10_copy_110 (fun v27 hF => ?_)
                  refine lv_iload hx hb dX10_copy_113 (lv_at hl 6 rfl) ?_
                  refine lv_iload hx hb dX10_copy_115 (lv_at hl 7 rfl) ?_
                  refine xr_cpJ hx hb (hml.trans hl.1.symm) hts hown hK hP hS hF (by decide +kernel) (by decide +kernel) (Nat.le_of_ble_eq_true rfl) (Nat.le_of_ble_eq_true rfl) dX10_copy_117 (fun M28 H locs hF hP hS => ?_)
                  refine lv_iload hx hb dX10_copy_120 (lv_at hl 7 rfl) ?_
                  cases hF
                  exact W.iret hx hb hr (fun t ht hW => ⟨rfl, by rw [ht]; exact hP, hS.F ht⟩) hS.2.2 dX10_copy_122 hlk
                · replace hF := it_t hF c25
                  refine lv_bipush (v := (-13)) hx hb dX10_copy_99 (by decide) ?_
                  cases hF
                  exact W.iret hx hb hr (fun t ht hW => ⟨rfl, by rw [ht]; exact hP, hS.F ht⟩) hS.2.2 dX10_copy_101 hlk
            · replace hF := it_f hF c19
              refine lv_bipush (v := (-12)) hx hb dX10_copy_73 (by decide) ?_
              cases hF
              exact W.iret hx hb hr (fun t ht hW => ⟨rfl, by rw [ht]; exact hP, hS.F ht⟩) hS.2.2 dX10_copy_75 hlk
        · replace hF := it_t hF c14
          refine lv_bipush (v := (-11)) hx hb dX10_copy_48 (by decide) ?_
          cases hF
          exact W.iret hx hb hr (fun t ht hW => ⟨rfl, by rw [ht]; exact hP, hS.F ht⟩) hS.2.2 dX10_copy_50 hlk
    · replace hF := it_t hF c6
      refine lv_iconst (v := (-1)) hx hb dX10_copy_14 (by decide) ?_
      cases hF
      exact W.iret hx hb hr (fun t ht hW => ⟨rfl, by rw [ht]; exact hP, hS.F ht⟩) hS.2.2 dX10_copy_15 hlk
/-! X10_refusalOfLetterOn -/
theorem iw_X10_refusalOfLetterOn_8 : ∀ w ∈ u_ws RX8 TX8 5, w ∈ wsX10_refusalOfLetterOn := by decide +kernel
theorem iw_X10_refusalOfLetterOn_10 : ∀ w ∈ u_ws RX10 TX10 12, w ∈ wsX10_refusalOfLetterOn := by decide +kernel
abbrev rm_X10_refusalOfLetterOn : Room := { frames := 1, cells := 0, slots := 0, locals := 20 }
theorem gk_X10_refusalOfLetterOn {M : Mm} {a0 : Nat} {a1 : Int32} {r : Int32} (h : f_X10_refusalOfLetterOn M a0 a1 = some r) : mK M a0 = 11 := by
  unfold f_X10_refusalOfLetterOn at h
  exact (if_some h).1
set_option maxHeartbeats 4000000 in
set_option maxRecDepth 100000 in
theorem ct_X10_refusalOfLetterOn (l : Launch) (b0 : Nat) (D : va_G) (cy : Nat → ClassId) (M : Mm) (a0 : Nat) (a1 : Int32) (r : Int32) (hF : f_X10_refusalOfLetterOn M a0 a1 = some r) : Met l yX10_refusalOfLetterOn wsX10_refusalOfLetterOn rm_X10_refusalOfLetterOn (va_Pc [.ref a0, .int a1] (Pm b0 D cy M)) (Qm b0 D cy M (some (.int r))) 0 0 (BA b0) := by
  refine ct_of [.ref a0, .int a1] (by decide) rfl ?_
  intro p e s m below meth c CX hP
  obtain ⟨hx, hb, hr, hml, hown0, hts, hlk, hK, hN, hb0, hnm⟩ := id CX
  have hown : s.vm.findClass RX10 = some m.cls := hown0
  have hS : va_S (BA b0) s.heap s.heap [] := va_S.rf
  have hl := lv_entry [.ref a0, .int a1] (n := 2) (Nat.le_of_ble_eq_true rfl)
  generalize (lg_sl [.ref a0, .int a1] ++ List.replicate (2 - (lg_sl [.ref a0, .int a1]).length) Slot.unset).toArray = ls at hl ⊢
  have hl : lv_has ls 2 [(0, .ref a0), (1, .int a1)] := hl
  unfold f_X10_refusalOfLetterOn at hF
  replace hF := (if_some hF).2
  refine lv_iload_n hx hb dX10_refusalOfLetterOn_0 rfl (lv_at hl 1 rfl) ?_
  obtain ⟨v2, h1, hF⟩ := ob_some hF
  refine xr_call1 (va_runS (As := [.int a1]) (rest := []) ⟨hx, hb, hml, hown, hts⟩ (ct_X10_isShelf l b0 D cy M a1 v2 h1) (va_cwS 1 hts gX10_refusalOfLetterOn_X10_isShelf rfl rfl rfl (by decide +kernel) ⟨Nat.le_of_ble_eq_true rfl, Nat.le_of_ble_eq_true rfl⟩) (xp_S hP hK hN hS hb0) rfl rfl hl.1 rfl (lv_room (Nat.le_of_ble_eq_true rfl)) dX10_refusalOfLetterOn_1 ⟨Nat.le_of_ble_eq_true rfl, Nat.le_of_ble_eq_true rfl⟩) hS (fun H locs hP hS => ?_)
  refine lv_if_ne (tgt := 9) hx hb dX10_refusalOfLetterOn_4 (by decide) (fun c3 => ?_) (fun c3 => ?_)
  · replace hF := it_f hF c3
    refine lv_aload_n hx hb dX10_refusalOfLetterOn_9 rfl (lv_at hl 0 rfl) ?_
    refine xr_getR hx hb hts iw_X10_refusalOfLetterOn_10 hown hK hP hF 10 6 rfl (by decide) (by decide +kernel) ⟨rfl, rfl, rfl⟩ dX10_refusalOfLetterOn_10 (fun v4 hF => ?_)
    refine lv_iload_n hx hb dX10_refusalOfLetterOn_13 rfl (lv_at hl 1 rfl) ?_
    refine xr_aR hx hb hK hP hF 6 rfl (by decide) dX10_refusalOfLetterOn_14 (fun v5 hF => ?_)
    refine xr_getI hx hb hts iw_X10_refusalOfLetterOn_8 hown hK hP hF 8 1 rfl (by decide) (by decide +kernel) ⟨rfl, rfl, rfl⟩ dX10_refusalOfLetterOn_15 (fun v6 hF => ?_)
    refine lv_if_ne (tgt := 24) hx hb dX10_refusalOfLetterOn_18 (by decide) (fun c7 => ?_) (fun c7 => ?_)
    · replace hF := it_f hF c7
      refine lv_aload_n hx hb dX10_refusalOfLetterOn_24 rfl (lv_at hl 0 rfl) ?_
      refine xr_getR hx hb hts iw_X10_refusalOfLetterOn_10 hown hK hP hF 10 6 rfl (by decide) (by decide +kernel) ⟨rfl, rfl, rfl⟩ dX10_refusalOfLetterOn_25 (fun v8 hF => ?_)
      refine lv_iload_n hx hb dX10_refusalOfLetterOn_28 rfl (lv_at hl 1 rfl) ?_
      refine xr_aR hx hb hK hP hF 6 rfl (by decide) dX10_refusalOfLetterOn_29 (fun v9 hF => ?_)
      refine xr_getI hx hb hts iw_X10_refusalOfLetterOn_8 hown hK hP hF 8 1 rfl (by decide) (by decide +kernel) ⟨rfl, rfl, rfl⟩ dX10_refusalOfLetterOn_30 (fun v10 hF => ?_)
      refine lv_iconst (v := 1) hx hb dX10_refusalOfLetterOn_33 (by decide) ?_
      refine lv_icmp_ne (tgt := 41) hx hb dX10_refusalOfLetterOn_34 (by decide) (fun c11 => ?_) (fun c11 => ?_)
      · replace hF := it_f hF c11
        refine lv_bipush (v := (-12)) hx hb dX10_refusalOfLetterOn_41 (by decide) ?_
        cases hF
        exact W.iret hx hb hr (fun t ht hW => ⟨rfl, by rw [ht]; exact hP, hS.F ht⟩) hS.2.2 dX10_refusalOfLetterOn_43 hlk
      · replace hF := it_t hF c11
        refine lv_iconst (v := 0) hx hb dX10_refusalOfLetterOn_37 (by decide) ?_
        refine lv_goto (tgt := 43) hx hb dX10_refusalOfLetterOn_38 (by decide) ?_
        cases hF
        exact W.iret hx hb hr (fun t ht hW => ⟨rfl, by rw [ht]; exact hP, hS.F ht⟩) hS.2.2 dX10_refusalOfLetterOn_43 hlk
    · replace hF := it_t hF c7
      refine lv_bipush (v := (-11)) hx hb dX10_refusalOfLetterOn_21 (by decide) ?_
      cases hF
      exact W.iret hx hb hr (fun t ht hW => ⟨rfl, by rw [ht]; exact hP, hS.F ht⟩) hS.2.2 dX10_refusalOfLetterOn_23 hlk
  · replace hF := it_t hF c3
    refine lv_iconst (v := (-1)) hx hb dX10_refusalOfLetterOn_7 (by decide) ?_
    cases hF
    exact W.iret hx hb hr (fun t ht hW => ⟨rfl, by rw [ht]; exact hP, hS.F ht⟩) hS.2.2 dX10_refusalOfLetterOn_8 hlk
/-! X10_worth -/
theorem iw_X10_worth_8 : ∀ w ∈ u_ws RX8 TX8 5, w ∈ wsX10_worth := by decide +kernel
theorem iw_X10_worth_10 : ∀ w ∈ u_ws RX10 TX10 12, w ∈ wsX10_worth := by decide +kernel
abbrev rm_X10_worth : Room := { frames := 2, cells := 0, slots := 0, locals := 41 }
theorem gk_X10_worth {M : Mm} {a0 : Nat} {a1 : Int32} {r : Int32} (h : f_X10_worth M a0 a1 = some r) : mK M a0 = 11 := by
  unfold f_X10_worth at h
  exact (if_some h).1
set_option maxHeartbeats 4000000 in
set_option maxRecDepth 100000 in
theorem ct_X10_worth (l : Launch) (b0 : Nat) (D : va_G) (cy : Nat → ClassId) (M : Mm) (a0 : Nat) (a1 : Int32) (r : Int32) (hF : f_X10_worth M a0 a1 = some r) : Met l yX10_worth wsX10_worth rm_X10_worth (va_Pc [.ref a0, .int a1] (Pm b0 D cy M)) (Qm b0 D cy M (some (.int r))) 0 0 (BA b0) := by
  refine ct_of [.ref a0, .int a1] (by decide) rfl ?_
  intro p e s m below meth c CX hP
  obtain ⟨hx, hb, hr, hml, hown0, hts, hlk, hK, hN, hb0, hnm⟩ := id CX
  have hown : s.vm.findClass RX10 = some m.cls := hown0
  have hS : va_S (BA b0) s.heap s.heap [] := va_S.rf
  have hl := lv_entry [.ref a0, .int a1] (n := 5) (Nat.le_of_ble_eq_true rfl)
  generalize (lg_sl [.ref a0, .int a1] ++ List.replicate (5 - (lg_sl [.ref a0, .int a1]).length) Slot.unset).toArray = ls at hl ⊢
  have hl : lv_has ls 5 [(0, .ref a0), (1, .int a1)] := hl
  unfold f_X10_worth at hF
  replace hF := (if_some hF).2
  refine lv_aload_n hx hb dX10_worth_0 rfl (lv_at hl 0 rfl) ?_
  refine lv_iload_n hx hb dX10_worth_1 rfl (lv_at hl 1 rfl) ?_
  obtain ⟨v2, h1, hF⟩ := ob_some hF
  refine xr_call1 (va_runV (As := [.int a1]) (rest := []) ⟨hx, hb, hml, hown, hts⟩ (ct_X10_refusalOfLetterOn l b0 D cy M a0 a1 v2 h1) (cwV 1 hts gX10_worth_X10_refusalOfLetterOn rfl rfl rfl (by decide +kernel) ⟨Nat.le_of_ble_eq_true rfl, Nat.le_of_ble_eq_true rfl⟩) (xp_V hP hK hN hS hb0 10 rfl (gk_X10_refusalOfLetterOn h1)) rfl rfl hl.1 rfl (lv_room (Nat.le_of_ble_eq_true rfl)) dX10_worth_2 ⟨Nat.le_of_ble_eq_true rfl, Nat.le_of_ble_eq_true rfl⟩) hS (fun H locs hP hS => ?_)
  refine lv_istore_n (lv' := [(2, .int v2), (0, .ref a0), (1, .int a1)]) hx hb dX10_worth_5 rfl hl (by decide) (by first | rfl | simp [cat_rf]) (fun ls hl => ?_)
  refine lv_iload_n hx hb dX10_worth_6 rfl (lv_at hl 0 rfl) ?_
  refine lv_if_eq (tgt := 12) hx hb dX10_worth_7 (by decide) (fun c3 => ?_) (fun c3 => ?_)
  · replace hF := it_t hF c3
    refine lv_aload_n hx hb dX10_worth_12 rfl (lv_at hl 1 rfl) ?_
    refine xr_getR hx hb hts iw_X10_worth_10 hown hK hP hF 10 6 rfl (by decide) (by decide +kernel) ⟨rfl, rfl, rfl⟩ dX10_worth_13 (fun v4 hF => ?_)
    refine lv_iload_n hx hb dX10_worth_16 rfl (lv_at hl 2 rfl) ?_
    refine xr_aR hx hb hK hP hF 6 rfl (by decide) dX10_worth_17 (fun v5 hF => ?_)
    refine xr_getI hx hb hts iw_X10_worth_8 hown hK hP hF 8 3 rfl (by decide) (by decide +kernel) ⟨rfl, rfl, rfl⟩ dX10_worth_18 (fun v6 hF => ?_)
    refine lv_istore_n (lv' := [(3, .int v6), (2, .int v2), (0, .ref a0), (1, .int a1)]) hx hb dX10_worth_21 rfl hl (by decide) (by first | rfl | simp [cat_rf]) (fun ls hl => ?_)
    refine lv_aload_n hx hb dX10_worth_22 rfl (lv_at hl 2 rfl) ?_
    refine xr_getR hx hb hts iw_X10_worth_10 hown hK hP hF 10 6 rfl (by decide) (by decide +kernel) ⟨rfl, rfl, rfl⟩ dX10_worth_23 (fun v7 hF => ?_)
    refine lv_iload_n hx hb dX10_worth_26 rfl (lv_at hl 3 rfl) ?_
    refine xr_aR hx hb hK hP hF 6 rfl (by decide) dX10_worth_27 (fun v8 hF => ?_)
    refine xr_getI hx hb hts iw_X10_worth_8 hown hK hP hF 8 4 rfl (by decide) (by decide +kernel) ⟨rfl, rfl, rfl⟩ dX10_worth_28 (fun v9 hF => ?_)
    refine lv_bipush (v := 10) hx hb dX10_worth_31 (by decide) ?_
    refine lv_imul hx hb dX10_worth_33 ?_
    refine lv_iload_n hx hb dX10_worth_34 rfl (lv_at hl 0 rfl) ?_
    refine lv_iadd hx hb dX10_worth_35 ?_
    refine lv_istore (lv' := [(4, .int ((v9 * 10) + v6)), (3, .int v6), (2, .int v2), (0, .ref a0), (1, .int a1)]) hx hb dX10_worth_36 hl (by decide) (by first | rfl | simp [cat_rf]) (fun ls hl => ?_)
    refine lv_iload_n hx hb dX10_worth_38 rfl (lv_at hl 1 rfl) ?_
    by_cases c10 : v6 = 1
    · replace hF := it_t hF c10
      refine lv_tableIn (off := 33) (tgt := 72) hx hb dX10_worth_39 (by rw [c10]; decide) (by rw [c10]; decide) (by rw [c10]; decide) (by decide) ?_
      refine lv_iload hx hb dX10_worth_72 (lv_at hl 0 rfl) ?_
      refine lv_iconst (v := 3) hx hb dX10_worth_74 (by decide) ?_
      refine lv_iadd hx hb dX10_worth_75 ?_
      cases hF
      exact W.iret hx hb hr (fun t ht hW => ⟨rfl, by rw [ht]; exact hP, hS.F ht⟩) hS.2.2 dX10_worth_76 hlk
    replace hF := it_f hF c10
    by_cases c11 : v6 = 2
    · replace hF := it_t hF c11
      refine lv_tableIn (off := 38) (tgt := 77) hx hb dX10_worth_39 (by rw [c11]; decide) (by rw [c11]; decide) (by rw [c11]; decide) (by decide) ?_
      refine lv_iload hx hb dX10_worth_77 (lv_at hl 0 rfl) ?_
      refine lv_iconst (v := 3) hx hb dX10_worth_79 (by decide) ?_
      refine lv_iadd hx hb dX10_worth_80 ?_
      refine lv_iconst (v := 2) hx hb dX10_worth_81 (by decide) ?_
      refine lv_imul hx hb dX10_worth_82 ?_
      cases hF
      exact W.iret hx hb hr (fun t ht hW => ⟨rfl, by rw [ht]; exact hP, hS.F ht⟩) hS.2.2 dX10_worth_83 hlk
    replace hF := it_f hF c11
    by_cases c12 : v6 = 3
    · replace hF := it_t hF c12
      refine lv_tableIn (off := 45) (tgt := 84) hx hb dX10_worth_39 (by rw [c12]; decide) (by rw [c12]; decide) (by rw [c12]; decide) (by decide) ?_
      refine lv_iload hx hb dX10_worth_84 (lv_at hl 0 rfl) ?_
      refine lv_iconst (v := 1) hx hb dX10_worth_86 (by decide) ?_
      refine lv_iadd hx hb dX10_worth_87 ?_
      cases hF
      exact W.iret hx hb hr (fun t ht hW => ⟨rfl, by rw [ht]; exact hP, hS.F ht⟩) hS.2.2 dX10_worth_88 hlk
    replace hF := it_f hF c12
    by_cases c13 : v6 = 4
    · replace hF := it_t hF c13
      refine lv_tableIn (off := 50) (tgt := 89) hx hb dX10_worth_39 (by rw [c13]; decide) (by rw [c13]; decide) (by rw [c13]; decide) (by decide) ?_
      refine lv_iload hx hb dX10_worth_89 (lv_at hl 0 rfl) ?_
      refine lv_iconst (v := 1) hx hb dX10_worth_91 (by decide) ?_
      refine lv_iadd hx hb dX10_worth_92 ?_
      refine lv_iconst (v := 5) hx hb dX10_worth_93 (by decide) ?_
      refine lv_iadd hx hb dX10_worth_94 ?_
      cases hF
      exact W.iret hx hb hr (fun t ht hW => ⟨rfl, by rw [ht]; exact hP, hS.F ht⟩) hS.2.2 dX10_worth_95 hlk
    replace hF := it_f hF c13
    by_cases c14 : v6 = 5
    · replace hF := it_t hF c14
      refine lv_tableIn (off := 57) (tgt := 96) hx hb dX10_worth_39 (by rw [c14]; decide) (by rw [c14]; decide) (by rw [c14]; decide) (by decide) ?_
      refine lv_iload hx hb dX10_worth_96 (lv_at hl 0 rfl) ?_
      refine lv_iconst (v := 1) hx hb dX10_worth_98 (by decide) ?_
      refine lv_iadd hx hb dX10_worth_99 ?_
      refine lv_iconst (v := 5) hx hb dX10_worth_100 (by decide) ?_
      refine lv_iadd hx hb dX10_worth_101 ?_
      refine lv_iconst (v := 3) hx hb dX10_worth_102 (by decide) ?_
      refine lv_imul hx hb dX10_worth_103 ?_
      cases hF
      exact W.iret hx hb hr (fun t ht hW => ⟨rfl, by rw [ht]; exact hP, hS.F ht⟩) hS.2.2 dX10_worth_104 hlk
    replace hF := it_f hF c14
    refine lv_tableOut (tgt := 105) hx hb dX10_worth_39 (by have := lv_neT c10 (by decide : (1 : Int32).toInt = 1); have := lv_neT c11 (by decide : (2 : Int32).toInt = 2); have := lv_neT c12 (by decide : (3 : Int32).toInt = 3); have := lv_neT c13 (by decide : (4 : Int32).toInt = 4); have := lv_neT c14 (by decide : (5 : Int32).toInt = 5); omega) (by decide) ?_
    refine lv_iload hx hb dX10_worth_105 (lv_at hl 0 rfl) ?_
    cases hF
    exact W.iret hx hb hr (fun t ht hW => ⟨rfl, by rw [ht]; exact hP, hS.F ht⟩) hS.2.2 dX10_worth_107 hlk
  · replace hF := it_f hF c3
    refine lv_iload_n hx hb dX10_worth_10 rfl (lv_at hl 0 rfl) ?_
    cases hF
    exact W.iret hx hb hr (fun t ht hW => ⟨rfl, by rw [ht]; exact hP, hS.F ht⟩) hS.2.2 dX10_worth_11 hlk
/-! X10_toss -/
theorem iw_X10_toss_8 : ∀ w ∈ u_ws RX8 TX8 5, w ∈ wsX10_toss := by decide +kernel
theorem iw_X10_toss_10 : ∀ w ∈ u_ws RX10 TX10 12, w ∈ wsX10_toss := by decide +kernel
abbrev rm_X10_toss : Room := { frames := 2, cells := 0, slots := 0, locals := 41 }
theorem gk_X10_toss {M : Mm} {a0 : Nat} {a1 : Int32} {r : Int32} (h : f_X10_toss M a0 a1 = some r) : mK M a0 = 11 := by
  unfold f_X10_toss at h
  exact (if_some h).1
set_option maxHeartbeats 4000000 in
set_option maxRecDepth 100000 in
theorem ct_X10_toss (l : Launch) (b0 : Nat) (D : va_G) (cy : Nat → ClassId) (M : Mm) (a0 : Nat) (a1 : Int32) (r : Int32) (hF : f_X10_toss M a0 a1 = some r) : Met l yX10_toss wsX10_toss rm_X10_toss (va_Pc [.ref a0, .int a1] (Pm b0 D cy M)) (Qm b0 D cy M (some (.int r))) 0 0 (BA b0) := by
  refine ct_of [.ref a0, .int a1] (by decide) rfl ?_
  intro p e s m below meth c CX hP
  obtain ⟨hx, hb, hr, hml, hown0, hts, hlk, hK, hN, hb0, hnm⟩ := id CX
  have hown : s.vm.findClass RX10 = some m.cls := hown0
  have hS : va_S (BA b0) s.heap s.heap [] := va_S.rf
  have hl := lv_entry [.ref a0, .int a1] (n := 4) (Nat.le_of_ble_eq_true rfl)
  generalize (lg_sl [.ref a0, .int a1] ++ List.replicate (4 - (lg_sl [.ref a0, .int a1]).length) Slot.unset).toArray = ls at hl ⊢
  have hl : lv_has ls 4 [(0, .ref a0), (1, .int a1)] := hl
  unfold f_X10_toss at hF
  replace hF := (if_some hF).2
  refine lv_aload_n hx hb dX10_toss_0 rfl (lv_at hl 0 rfl) ?_
  refine lv_iload_n hx hb dX10_toss_1 rfl (lv_at hl 1 rfl) ?_
  obtain ⟨v2, h1, hF⟩ := ob_some hF
  refine xr_call1 (va_runV (As := [.int a1]) (rest := []) ⟨hx, hb, hml, hown, hts⟩ (ct_X10_refusalOfLetterOn l b0 D cy M a0 a1 v2 h1) (cwV 1 hts gX10_toss_X10_refusalOfLetterOn rfl rfl rfl (by decide +kernel) ⟨Nat.le_of_ble_eq_true rfl, Nat.le_of_ble_eq_true rfl⟩) (xp_V hP hK hN hS hb0 10 rfl (gk_X10_refusalOfLetterOn h1)) rfl rfl hl.1 rfl (lv_room (Nat.le_of_ble_eq_true rfl)) dX10_toss_2 ⟨Nat.le_of_ble_eq_true rfl, Nat.le_of_ble_eq_true rfl⟩) hS (fun H locs hP hS => ?_)
  refine lv_istore_n (lv' := [(2, .int v2), (0, .ref a0), (1, .int a1)]) hx hb dX10_toss_5 rfl hl (by decide) (by first | rfl | simp [cat_rf]) (fun ls hl => ?_)
  refine lv_iload_n hx hb dX10_toss_6 rfl (lv_at hl 0 rfl) ?_
  refine lv_if_eq (tgt := 12) hx hb dX10_toss_7 (by decide) (fun c3 => ?_) (fun c3 => ?_)
  · replace hF := it_t hF c3
    refine lv_aload_n hx hb dX10_toss_12 rfl (lv_at hl 1 rfl) ?_
    refine xr_getR hx hb hts iw_X10_toss_10 hown hK hP hF 10 6 rfl (by decide) (by decide +kernel) ⟨rfl, rfl, rfl⟩ dX10_toss_13 (fun v4 hF => ?_)
    refine lv_iload_n hx hb dX10_toss_16 rfl (lv_at hl 2 rfl) ?_
    refine xr_aR hx hb hK hP hF 6 rfl (by decide) dX10_toss_17 (fun v5 hF => ?_)
    refine xr_getI hx hb hts iw_X10_toss_8 hown hK hP hF 8 3 rfl (by decide) (by decide +kernel) ⟨rfl, rfl, rfl⟩ dX10_toss_18 (fun v6 hF => ?_)
    refine lv_istore_n (lv' := [(3, .int v6), (2, .int v2), (0, .ref a0), (1, .int a1)]) hx hb dX10_toss_21 rfl hl (by decide) (by first | rfl | simp [cat_rf]) (fun ls hl => ?_)
    refine lv_iload_n hx hb dX10_toss_22 rfl (lv_at hl 0 rfl) ?_
    refine lv_if_eq (tgt := 31) hx hb dX10_toss_23 (by decide) (fun c7 => ?_) (fun c7 => ?_)
    · replace hF := it_t hF c7
      refine lv_bipush (v := (-15)) hx hb dX10_toss_31 (by decide) ?_
      refine lv_goto (tgt := 37) hx hb dX10_toss_33 (by decide) ?_
      cases hF
      exact W.iret hx hb hr (fun t ht hW => ⟨rfl, by rw [ht]; exact hP, hS.F ht⟩) hS.2.2 dX10_toss_37 hlk
    · replace hF := it_f hF c7
      refine lv_iload_n hx hb dX10_toss_26 rfl (lv_at hl 0 rfl) ?_
      refine lv_iconst (v := 3) hx hb dX10_toss_27 (by decide) ?_
      refine lv_icmp_ne (tgt := 36) hx hb dX10_toss_28 (by decide) (fun c8 => ?_) (fun c8 => ?_)
      · replace hF := it_f hF c8
        refine lv_iload_n hx hb dX10_toss_36 rfl (lv_at hl 0 rfl) ?_
        cases hF
        exact W.iret hx hb hr (fun t ht hW => ⟨rfl, by rw [ht]; exact hP, hS.F ht⟩) hS.2.2 dX10_toss_37 hlk
      · replace hF := it_t hF c8
        refine lv_bipush (v := (-15)) hx hb dX10_toss_31 (by decide) ?_
        refine lv_goto (tgt := 37) hx hb dX10_toss_33 (by decide) ?_
        cases hF
        exact W.iret hx hb hr (fun t ht hW => ⟨rfl, by rw [ht]; exact hP, hS.F ht⟩) hS.2.2 dX10_toss_37 hlk
  · replace hF := it_f hF c3
    refine lv_iload_n hx hb dX10_toss_10 rfl (lv_at hl 0 rfl) ?_
    cases hF
    exact W.iret hx hb hr (fun t ht hW => ⟨rfl, by rw [ht]; exact hP, hS.F ht⟩) hS.2.2 dX10_toss_11 hlk
/-! X10_count -/
theorem iw_X10_count_6 : ∀ w ∈ u_ws RX6 TX6 5, w ∈ wsX10_count := by decide +kernel
theorem iw_X10_count_10 : ∀ w ∈ u_ws RX10 TX10 12, w ∈ wsX10_count := by decide +kernel
abbrev rm_X10_count : Room := { frames := 0, cells := 0, slots := 0, locals := 0 }
theorem gk_X10_count {M : Mm} {a0 : Nat} {a1 : Int32} {r : Int32} (h : f_X10_count M a0 a1 = some r) : mK M a0 = 11 := by
  unfold f_X10_count at h
  exact (if_some h).1
set_option maxHeartbeats 4000000 in
set_option maxRecDepth 100000 in
theorem ct_X10_count (l : Launch) (b0 : Nat) (D : va_G) (cy : Nat → ClassId) (M : Mm) (a0 : Nat) (a1 : Int32) (r : Int32) (hF : f_X10_count M a0 a1 = some r) : Met l yX10_count wsX10_count rm_X10_count (va_Pc [.ref a0, .int a1] (Pm b0 D cy M)) (Qm b0 D cy M (some (.int r))) 0 0 (BA b0) := by
  refine ct_of [.ref a0, .int a1] (by decide) rfl ?_
  intro p e s m below meth c CX hP
  obtain ⟨hx, hb, hr, hml, hown0, hts, hlk, hK, hN, hb0, hnm⟩ := id CX
  have hown : s.vm.findClass RX10 = some m.cls := hown0
  have hS : va_S (BA b0) s.heap s.heap [] := va_S.rf
  have hl := lv_entry [.ref a0, .int a1] (n := 2) (Nat.le_of_ble_eq_true rfl)
  generalize (lg_sl [.ref a0, .int a1] ++ List.replicate (2 - (lg_sl [.ref a0, .int a1]).length) Slot.unset).toArray = ls at hl ⊢
  have hl : lv_has ls 2 [(0, .ref a0), (1, .int a1)] := hl
  unfold f_X10_count at hF
  replace hF := (if_some hF).2
  refine lv_iload_n hx hb dX10_count_0 rfl (lv_at hl 1 rfl) ?_
  by_cases c1 : a1 = 0
  · replace hF := it_t hF c1
    refine lv_tableIn (off := 31) (tgt := 32) hx hb dX10_count_1 (by rw [c1]; decide) (by rw [c1]; decide) (by rw [c1]; decide) (by decide) ?_
    refine lv_aload_n hx hb dX10_count_32 rfl (lv_at hl 0 rfl) ?_
    refine xr_getR hx hb hts iw_X10_count_10 hown hK hP hF 10 1 rfl (by decide) (by decide +kernel) ⟨rfl, rfl, rfl⟩ dX10_count_33 (fun v2 hF => ?_)
    refine xr_getI hx hb hts iw_X10_count_6 hown hK hP hF 6 4 rfl (by decide) (by decide +kernel) ⟨rfl, rfl, rfl⟩ dX10_count_36 (fun v3 hF => ?_)
    cases hF
    exact W.iret hx hb hr (fun t ht hW => ⟨rfl, by rw [ht]; exact hP, hS.F ht⟩) hS.2.2 dX10_count_39 hlk
  replace hF := it_f hF c1
  by_cases c4 : a1 = 1
  · replace hF := it_t hF c4
    refine lv_tableIn (off := 39) (tgt := 40) hx hb dX10_count_1 (by rw [c4]; decide) (by rw [c4]; decide) (by rw [c4]; decide) (by decide) ?_
    refine lv_aload_n hx hb dX10_count_40 rfl (lv_at hl 0 rfl) ?_
    refine xr_getI hx hb hts iw_X10_count_10 hown hK hP hF 10 10 rfl (by decide) (by decide +kernel) ⟨rfl, rfl, rfl⟩ dX10_count_41 (fun v5 hF => ?_)
    cases hF
    exact W.iret hx hb hr (fun t ht hW => ⟨rfl, by rw [ht]; exact hP, hS.F ht⟩) hS.2.2 dX10_count_44 hlk
  replace hF := it_f hF c4
  by_cases c6 : a1 = 2
  · replace hF := it_t hF c6
    refine lv_tableIn (off := 44) (tgt := 45) hx hb dX10_count_1 (by rw [c6]; decide) (by rw [c6]; decide) (by rw [c6]; decide) (by decide) ?_
    refine lv_aload_n hx hb dX10_count_45 rfl (lv_at hl 0 rfl) ?_
    refine xr_getI hx hb hts iw_X10_count_10 hown hK hP hF 10 0 rfl (by decide) (by decide +kernel) ⟨rfl, rfl, rfl⟩ dX10_count_46 (fun v7 hF => ?_)
    cases hF
    exact W.iret hx hb hr (fun t ht hW => ⟨rfl, by rw [ht]; exact hP, hS.F ht⟩) hS.2.2 dX10_count_49 hlk
  replace hF := it_f hF c6
  by_cases c8 : a1 = 3
  · replace hF := it_t hF c8
    refine lv_tableIn (off := 49) (tgt := 50) hx hb dX10_count_1 (by rw [c8]; decide) (by rw [c8]; decide) (by rw [c8]; decide) (by decide) ?_
    refine lv_aload_n hx hb dX10_count_50 rfl (lv_at hl 0 rfl) ?_
    refine xr_getI hx hb hts iw_X10_count_10 hown hK hP hF 10 11 rfl (by decide) (by decide +kernel) ⟨rfl, rfl, rfl⟩ dX10_count_51 (fun v9 hF => ?_)
    cases hF
    exact W.iret hx hb hr (fun t ht hW => ⟨rfl, by rw [ht]; exact hP, hS.F ht⟩) hS.2.2 dX10_count_54 hlk
  replace hF := it_f hF c8
  refine lv_tableOut (tgt := 55) hx hb dX10_count_1 (by have := lv_neT c1 (by decide : (0 : Int32).toInt = 0); have := lv_neT c4 (by decide : (1 : Int32).toInt = 1); have := lv_neT c6 (by decide : (2 : Int32).toInt = 2); have := lv_neT c8 (by decide : (3 : Int32).toInt = 3); omega) (by decide) ?_
  refine lv_iconst (v := (-1)) hx hb dX10_count_55 (by decide) ?_
  cases hF
  exact W.iret hx hb hr (fun t ht hW => ⟨rfl, by rw [ht]; exact hP, hS.F ht⟩) hS.2.2 dX10_count_56 hlk
/-! X11_init -/
theorem iw_X11_init_11 : ∀ w ∈ u_ws RX11 TX11 58, w ∈ wsX11_init := by decide +kernel
abbrev rm_X11_init : Room := { frames := 1, cells := 43, slots := 20192, locals := 20 }
set_option maxHeartbeats 4000000 in
set_option maxRecDepth 100000 in
theorem nd_X11_init_410 {p : Program} {l : Launch} {e : Env} {s : State} {m : MethodId} {args : Array Value} {below : List Frame} {meth : Method} {c : Code} {b0 : Nat} {D : va_G} {cy : Nat → ClassId} {M1 : Mm} (CX : Cx yX11_init cX11_init 3 none wsX11_init b0 D cy p s m args meth c) : ∀ (fu : Nat), ∀ (M : Mm) (x0 : Nat) (x2 : Int32) (H : Heap) (locs : List Loc) (ls : Array Slot), f_X11_init_L410 fu M x0 x2 = some M1 → Hp b0 D cy M H → va_S (BA b0) s.heap H locs → lv_has ls 3 [(0, .ref x0), (2, .int x2)] → W p l e rm_X11_init s m args below meth c H locs 43 20192 (MQ below (Qm b0 D cy M1 none) args s 43 20192 (BA b0)) (F0 m 410 ls []) := by
  obtain ⟨hx, hb, hr, hml, hown0, hts, hlk, hK, hN, hb0, hnm⟩ := id CX
  have hown : s.vm.findClass RX11 = some m.cls := hown0
  intro fu
  induction fu with
  | zero =>
    intro M x0 x2 H locs ls hF hP hS hl
    rw [f_X11_init_L410] at hF
    cases hF
  | succ fu ih =>
    intro M x0 x2 H locs ls hF hP hS hl
    rw [f_X11_init_L410] at hF
    refine lv_iload_n hx hb dX11_init_410 rfl (lv_at hl 1 rfl) ?_
    refine lv_bipush (v := 8) hx hb dX11_init_411 (by decide) ?_
    refine lv_icmp_ge (tgt := 429) hx hb dX11_init_413 (by decide) (fun c1 => ?_) (fun c1 => ?_)
    · replace hF := it_t hF c1
      cases hF
      exact W.vret hx hb hr (fun t ht hW => ⟨rfl, by rw [ht]; exact hP, hS.F ht⟩) hS.2.2 dX11_init_429 hlk
    · replace hF := it_f hF c1
      refine lv_aload_n hx hb dX11_init_416 rfl (lv_at hl 0 rfl) ?_
      refine xr_getR hx hb hts iw_X11_init_11 hown hK hP hF 11 12 rfl (by decide) (by decide +kernel) ⟨rfl, rfl, rfl⟩ dX11_init_417 (fun v2 hF => ?_)
      refine lv_iload_n hx hb dX11_init_420 rfl (lv_at hl 1 rfl) ?_
      refine lv_iconst (v := 1) hx hb dX11_init_421 (by decide) ?_
      refine xr_wZ hx hb hK hP hS hF dX11_init_422 (fun M3 H locs hF hP hS => ?_)
      refine lv_iinc (v := x2 + 1) (lv' := [(2, .int (x2 + 1)), (0, .ref x0)]) hx hb dX11_init_423 hl (k := 1) rfl (by rfl) (by decide) rfl (fun ls hl => ?_)
      refine lv_goto (tgt := 410) hx hb dX11_init_426 (by decide) ?_
      exact ih _ _ _ _ _ _ hF hP hS (lv_sub hl [1, 0] rfl)
set_option maxHeartbeats 4000000 in
set_option maxRecDepth 100000 in
theorem nd_X11_init_382 {p : Program} {l : Launch} {e : Env} {s : State} {m : MethodId} {args : Array Value} {below : List Frame} {meth : Method} {c : Code} {b0 : Nat} {D : va_G} {cy : Nat → ClassId} {M1 : Mm} (CX : Cx yX11_init cX11_init 3 none wsX11_init b0 D cy p s m args meth c) : ∀ (fu : Nat), ∀ (M : Mm) (x0 : Nat) (x2 : Int32) (H : Heap) (locs : List Loc) (ls : Array Slot), f_X11_init_L382 fu M x0 x2 = some M1 → Hp b0 D cy M H → va_S (BA b0) s.heap H locs → lv_has ls 3 [(0, .ref x0), (2, .int x2)] → W p l e rm_X11_init s m args below meth c H locs 43 20192 (MQ below (Qm b0 D cy M1 none) args s 43 20192 (BA b0)) (F0 m 382 ls []) := by
  obtain ⟨hx, hb, hr, hml, hown0, hts, hlk, hK, hN, hb0, hnm⟩ := id CX
  have hown : s.vm.findClass RX11 = some m.cls := hown0
  intro fu
  induction fu with
  | zero =>
    intro M x0 x2 H locs ls hF hP hS hl
    rw [f_X11_init_L382] at hF
    cases hF
  | succ fu ih =>
    intro M x0 x2 H locs ls hF hP hS hl
    rw [f_X11_init_L382] at hF
    refine lv_iload_n hx hb dX11_init_382 rfl (lv_at hl 1 rfl) ?_
    refine lv_bipush (v := 64) hx hb dX11_init_383 (by decide) ?_
    refine lv_icmp_ge (tgt := 408) hx hb dX11_init_385 (by decide) (fun c1 => ?_) (fun c1 => ?_)
    · replace hF := it_t hF c1
      refine lv_iconst (v := 0) hx hb dX11_init_408 (by decide) ?_
      refine lv_istore_n (lv' := [(2, .int 0), (0, .ref x0)]) hx hb dX11_init_409 rfl hl (by decide) (by first | rfl | simp [cat_rf]) (fun ls hl => ?_)
      exact nd_X11_init_410 CX _ _ _ _ _ _ _ hF hP hS (lv_sub hl [1, 0] rfl)
    · replace hF := it_f hF c1
      refine lv_aload_n hx hb dX11_init_388 rfl (lv_at hl 0 rfl) ?_
      refine xr_getR hx hb hts iw_X11_init_11 hown hK hP hF 11 11 rfl (by decide) (by decide +kernel) ⟨rfl, rfl, rfl⟩ dX11_init_389 (fun v2 hF => ?_)
      refine lv_iload_n hx hb dX11_init_392 rfl (lv_at hl 1 rfl) ?_
      refine lv_iconst (v := 1) hx hb dX11_init_393 (by decide) ?_
      refine xr_wI hx hb hK hP hS hF dX11_init_394 (fun M3 H locs hF hP hS => ?_)
      refine lv_aload_n hx hb dX11_init_395 rfl (lv_at hl 0 rfl) ?_
      refine xr_getR hx hb hts iw_X11_init_11 hown hK hP hF 11 33 rfl (by decide) (by decide +kernel) ⟨rfl, rfl, rfl⟩ dX11_init_396 (fun v4 hF => ?_)
      refine lv_iload_n hx hb dX11_init_399 rfl (lv_at hl 1 rfl) ?_
      refine lv_iconst (v := 1) hx hb dX11_init_400 (by decide) ?_
      refine xr_wI hx hb hK hP hS hF dX11_init_401 (fun M5 H locs hF hP hS => ?_)
      refine lv_iinc (v := x2 + 1) (lv' := [(2, .int (x2 + 1)), (0, .ref x0)]) hx hb dX11_init_402 hl (k := 1) rfl (by rfl) (by decide) rfl (fun ls hl => ?_)
      refine lv_goto (tgt := 382) hx hb dX11_init_405 (by decide) ?_
      exact ih _ _ _ _ _ _ hF hP hS (lv_sub hl [1, 0] rfl)
theorem gk_X11_init {M : Mm} {a0 : Nat} {a1 : Int32} {r : Mm} (h : f_X11_init M a0 a1 = some r) : mK M a0 = 12 := by
  unfold f_X11_init at h
  exact (if_some h).1
set_option maxHeartbeats 4000000 in
set_option maxRecDepth 100000 in
theorem ct_X11_init (l : Launch) (b0 : Nat) (D : va_G) (cy : Nat → ClassId) (M : Mm) (a0 : Nat) (a1 : Int32) (M1 : Mm) (hF : f_X11_init M a0 a1 = some M1) : Met l yX11_init wsX11_init rm_X11_init (va_Pc [.ref a0, .int a1] (Pm b0 D cy M)) (Qm b0 D cy M1 none) 43 20192 (BA b0) := by
  refine ct_of [.ref a0, .int a1] (by decide) rfl ?_
  intro p e s m below meth c CX hP
  obtain ⟨hx, hb, hr, hml, hown0, hts, hlk, hK, hN, hb0, hnm⟩ := id CX
  have hown : s.vm.findClass RX11 = some m.cls := hown0
  have hS : va_S (BA b0) s.heap s.heap [] := va_S.rf
  have hl := lv_entry [.ref a0, .int a1] (n := 3) (Nat.le_of_ble_eq_true rfl)
  generalize (lg_sl [.ref a0, .int a1] ++ List.replicate (3 - (lg_sl [.ref a0, .int a1]).length) Slot.unset).toArray = ls at hl ⊢
  have hl : lv_has ls 3 [(0, .ref a0), (1, .int a1)] := hl
  unfold f_X11_init at hF
  replace hF := (if_some hF).2
  refine lv_aload_n hx hb dX11_init_0 rfl (lv_at hl 0 rfl) ?_
  refine W.objInit hx hb hown (hts (.methodLink RX11 1 objectInit) (by decide +kernel)) (hts (.instanceMethod objectInit) (by decide +kernel)) (hts (.code objectInit ⟨#[0xb1]⟩ 1 none) (by decide +kernel)) rfl (by rw [hml]; exact hl.1) rfl dX11_init_1 (Nat.le_of_ble_eq_true rfl) (Nat.le_of_ble_eq_true rfl) ?_
  refine W.eq (g2 := F0 m 4 ls []) rfl ?_
  refine lv_aload_n hx hb dX11_init_4 rfl (lv_at hl 0 rfl) ?_
  refine lv_bipush (v := 8) hx hb dX11_init_5 (by decide) ?_
  refine xr_newA hx hb hts hK hP hS hb0 hF (by decide +kernel) (Or.inl ⟨rfl, rfl⟩) (by decide) (Nat.le_of_ble_eq_true rfl) (Nat.le_of_ble_eq_true rfl) dX11_init_7 (fun M1 H hF hP hS => ?_)
  refine W.cs (cells' := 1) (slots' := 8) rfl rfl ?_
  refine xr_putR hx hb hts iw_X11_init_11 hown hK hP hS (v := (some (mS M))) hF 11 2 rfl (by decide) tyX11 tyX11_ok nmX11 (by decide +kernel) (Or.inr ⟨rfl, hnm, rfl⟩) (Or.inr ⟨_, rfl⟩) ⟨rfl, rfl, rfl⟩ dX11_init_9 (fun M2 H locs hF hP hS => ?_)
  refine lv_aload_n hx hb dX11_init_12 rfl (lv_at hl 0 rfl) ?_
  refine lv_bipush (v := 8) hx hb dX11_init_13 (by decide) ?_
  refine xr_newA hx hb hts hK hP hS hb0 hF (by decide +kernel) (Or.inl ⟨rfl, rfl⟩) (by decide) (Nat.le_of_ble_eq_true rfl) (Nat.le_of_ble_eq_true rfl) dX11_init_15 (fun M3 H hF hP hS => ?_)
  refine W.cs (cells' := 2) (slots' := 16) rfl rfl ?_
  refine xr_putR hx hb hts iw_X11_init_11 hown hK hP hS (v := (some (mS M2))) hF 11 3 rfl (by decide) tyX11 tyX11_ok nmX11 (by decide +kernel) (Or.inr ⟨rfl, hnm, rfl⟩) (Or.inr ⟨_, rfl⟩) ⟨rfl, rfl, rfl⟩ dX11_init_17 (fun M4 H locs hF hP hS => ?_)
  refine lv_aload_n hx hb dX11_init_20 rfl (lv_at hl 0 rfl) ?_
  refine lv_bipush (v := 8) hx hb dX11_init_21 (by decide) ?_
  refine xr_newA hx hb hts hK hP hS hb0 hF (by decide +kernel) (Or.inl ⟨rfl, rfl⟩) (by decide) (Nat.le_of_ble_eq_true rfl) (Nat.le_of_ble_eq_true rfl) dX11_init_23 (fun M5 H hF hP hS => ?_)
  refine W.cs (cells' := 3) (slots' := 24) rfl rfl ?_
  refine xr_putR hx hb hts iw_X11_init_11 hown hK hP hS (v := (some (mS M4))) hF 11 4 rfl (by decide) tyX11 tyX11_ok nmX11 (by decide +kernel) (Or.inr ⟨rfl, hnm, rfl⟩) (Or.inr ⟨_, rfl⟩) ⟨rfl, rfl, rfl⟩ dX11_init_25 (fun M6 H locs hF hP hS => ?_)
  refine lv_aload_n hx hb dX11_init_28 rfl (lv_at hl 0 rfl) ?_
  refine lv_bipush (v := 8) hx hb dX11_init_29 (by decide) ?_
  refine xr_newA hx hb hts hK hP hS hb0 hF (by decide +kernel) (Or.inr (Or.inl ⟨rfl, rfl⟩)) (by decide) (Nat.le_of_ble_eq_true rfl) (Nat.le_of_ble_eq_true rfl) dX11_init_31 (fun M7 H hF hP hS => ?_)
  refine W.cs (cells' := 4) (slots' := 32) rfl rfl ?_
  refine xr_putR hx hb hts iw_X11_init_11 hown hK hP hS (v := (some (mS M6))) hF 11 5 rfl (by decide) tyX11 tyX11_ok nmX11 (by decide +kernel) (Or.inr ⟨rfl, hnm, rfl⟩) (Or.inr ⟨_, rfl⟩) ⟨rfl, rfl, rfl⟩ dX11_init_33 (fun M8 H locs hF hP hS => ?_)
  refine lv_aload_n hx hb dX11_init_36 rfl (lv_at hl 0 rfl) ?_
  refine lv_bipush (v := 8) hx hb dX11_init_37 (by decide) ?_
  refine xr_newA hx hb hts hK hP hS hb0 hF (by decide +kernel) (Or.inr (Or.inl ⟨rfl, rfl⟩)) (by decide) (Nat.le_of_ble_eq_true rfl) (Nat.le_of_ble_eq_true rfl) dX11_init_39 (fun M9 H hF hP hS => ?_)
  refine W.cs (cells' := 5) (slots' := 40) rfl rfl ?_
  refine xr_putR hx hb hts iw_X11_init_11 hown hK hP hS (v := (some (mS M8))) hF 11 8 rfl (by decide) tyX11 tyX11_ok nmX11 (by decide +kernel) (Or.inr ⟨rfl, hnm, rfl⟩) (Or.inr ⟨_, rfl⟩) ⟨rfl, rfl, rfl⟩ dX11_init_41 (fun M10 H locs hF hP hS => ?_)
  refine lv_aload_n hx hb dX11_init_44 rfl (lv_at hl 0 rfl) ?_
  refine lv_bipush (v := 8) hx hb dX11_init_45 (by decide) ?_
  refine xr_newA hx hb hts hK hP hS hb0 hF (by decide +kernel) (Or.inl ⟨rfl, rfl⟩) (by decide) (Nat.le_of_ble_eq_true rfl) (Nat.le_of_ble_eq_true rfl) dX11_init_47 (fun M11 H hF hP hS => ?_)
  refine W.cs (cells' := 6) (slots' := 48) rfl rfl ?_
  refine xr_putR hx hb hts iw_X11_init_11 hown hK hP hS (v := (some (mS M10))) hF 11 9 rfl (by decide) tyX11 tyX11_ok nmX11 (by decide +kernel) (Or.inr ⟨rfl, hnm, rfl⟩) (Or.inr ⟨_, rfl⟩) ⟨rfl, rfl, rfl⟩ dX11_init_49 (fun M12 H locs hF hP hS => ?_)
  refine lv_aload_n hx hb dX11_init_52 rfl (lv_at hl 0 rfl) ?_
  refine lv_bipush (v := 8) hx hb dX11_init_53 (by decide) ?_
  refine xr_newA hx hb hts hK hP hS hb0 hF (by decide +kernel) (Or.inl ⟨rfl, rfl⟩) (by decide) (Nat.le_of_ble_eq_true rfl) (Nat.le_of_ble_eq_true rfl) dX11_init_55 (fun M13 H hF hP hS => ?_)
  refine W.cs (cells' := 7) (slots' := 56) rfl rfl ?_
  refine xr_putR hx hb hts iw_X11_init_11 hown hK hP hS (v := (some (mS M12))) hF 11 10 rfl (by decide) tyX11 tyX11_ok nmX11 (by decide +kernel) (Or.inr ⟨rfl, hnm, rfl⟩) (Or.inr ⟨_, rfl⟩) ⟨rfl, rfl, rfl⟩ dX11_init_57 (fun M14 H locs hF hP hS => ?_)
  refine lv_aload_n hx hb dX11_init_60 rfl (lv_at hl 0 rfl) ?_
  refine lv_bipush (v := 64) hx hb dX11_init_61 (by decide) ?_
  refine xr_newA hx hb hts hK hP hS hb0 hF (by decide +kernel) (Or.inl ⟨rfl, rfl⟩) (by decide) (Nat.le_of_ble_eq_true rfl) (Nat.le_of_ble_eq_true rfl) dX11_init_63 (fun M15 H hF hP hS => ?_)
  refine W.cs (cells' := 8) (slots' := 120) rfl rfl ?_
  refine xr_putR hx hb hts iw_X11_init_11 hown hK hP hS (v := (some (mS M14))) hF 11 11 rfl (by decide) tyX11 tyX11_ok nmX11 (by decide +kernel) (Or.inr ⟨rfl, hnm, rfl⟩) (Or.inr ⟨_, rfl⟩) ⟨rfl, rfl, rfl⟩ dX11_init_65 (fun M16 H locs hF hP hS => ?_)
  refine lv_aload_n hx hb dX11_init_68 rfl (lv_at hl 0 rfl) ?_
  refine lv_bipush (v := 8) hx hb dX11_init_69 (by decide) ?_
  refine xr_newA hx hb hts hK hP hS hb0 hF (by decide +kernel) (Or.inr (Or.inr ⟨rfl, rfl⟩)) (by decide) (Nat.le_of_ble_eq_true rfl) (Nat.le_of_ble_eq_true rfl) dX11_init_71 (fun M17 H hF hP hS => ?_)
  refine W.cs (cells' := 9) (slots' := 128) rfl rfl ?_
  refine xr_putR hx hb hts iw_X11_init_11 hown hK hP hS (v := (some (mS M16))) hF 11 12 rfl (by decide) tyX11 tyX11_ok nmX11 (by decide +kernel) (Or.inr ⟨rfl, hnm, rfl⟩) (Or.inr ⟨_, rfl⟩) ⟨rfl, rfl, rfl⟩ dX11_init_73 (fun M18 H locs hF hP hS => ?_)
  refine lv_aload_n hx hb dX11_init_76 rfl (lv_at hl 0 rfl) ?_
  refine lv_bipush (v := 8) hx hb dX11_init_77 (by decide) ?_
  refine xr_newA hx hb hts hK hP hS hb0 hF (by decide +kernel) (Or.inl ⟨rfl, rfl⟩) (by decide) (Nat.le_of_ble_eq_true rfl) (Nat.le_of_ble_eq_true rfl) dX11_init_79 (fun M19 H hF hP hS => ?_)
  refine W.cs (cells' := 10) (slots' := 136) rfl rfl ?_
  refine xr_putR hx hb hts iw_X11_init_11 hown hK hP hS (v := (some (mS M18))) hF 11 13 rfl (by decide) tyX11 tyX11_ok nmX11 (by decide +kernel) (Or.inr ⟨rfl, hnm, rfl⟩) (Or.inr ⟨_, rfl⟩) ⟨rfl, rfl, rfl⟩ dX11_init_81 (fun M20 H locs hF hP hS => ?_)
  refine lv_aload_n hx hb dX11_init_84 rfl (lv_at hl 0 rfl) ?_
  refine lv_bipush (v := 72) hx hb dX11_init_85 (by decide) ?_
  refine xr_newA hx hb hts hK hP hS hb0 hF (by decide +kernel) (Or.inl ⟨rfl, rfl⟩) (by decide) (Nat.le_of_ble_eq_true rfl) (Nat.le_of_ble_eq_true rfl) dX11_init_87 (fun M21 H hF hP hS => ?_)
  refine W.cs (cells' := 11) (slots' := 208) rfl rfl ?_
  refine xr_putR hx hb hts iw_X11_init_11 hown hK hP hS (v := (some (mS M20))) hF 11 14 rfl (by decide) tyX11 tyX11_ok nmX11 (by decide +kernel) (Or.inr ⟨rfl, hnm, rfl⟩) (Or.inr ⟨_, rfl⟩) ⟨rfl, rfl, rfl⟩ dX11_init_89 (fun M22 H locs hF hP hS => ?_)
  refine lv_aload_n hx hb dX11_init_92 rfl (lv_at hl 0 rfl) ?_
  refine lv_sipush (v := 576) hx hb dX11_init_93 (by decide) ?_
  refine xr_newA hx hb hts hK hP hS hb0 hF (by decide +kernel) (Or.inr (Or.inl ⟨rfl, rfl⟩)) (by decide) (Nat.le_of_ble_eq_true rfl) (Nat.le_of_ble_eq_true rfl) dX11_init_96 (fun M23 H hF hP hS => ?_)
  refine W.cs (cells' := 12) (slots' := 784) rfl rfl ?_
  refine xr_putR hx hb hts iw_X11_init_11 hown hK hP hS (v := (some (mS M22))) hF 11 15 rfl (by decide) tyX11 tyX11_ok nmX11 (by decide +kernel) (Or.inr ⟨rfl, hnm, rfl⟩) (Or.inr ⟨_, rfl⟩) ⟨rfl, rfl, rfl⟩ dX11_init_98 (fun M24 H locs hF hP hS => ?_)
  refine lv_aload_n hx hb dX11_init_101 rfl (lv_at hl 0 rfl) ?_
  refine lv_sipush (v := 200) hx hb dX11_init_102 (by decide) ?_
  refine xr_newA hx hb hts hK hP hS hb0 hF (by decide +kernel) (Or.inl ⟨rfl, rfl⟩) (by decide) (Nat.le_of_ble_eq_true rfl) (Nat.le_of_ble_eq_true rfl) dX11_init_105 (fun M25 H hF hP hS => ?_)
  refine W.cs (cells' := 13) (slots' := 984) rfl rfl ?_
  refine xr_putR hx hb hts iw_X11_init_11 hown hK hP hS (v := (some (mS M24))) hF 11 17 rfl (by decide) tyX11 tyX11_ok nmX11 (by decide +kernel) (Or.inr ⟨rfl, hnm, rfl⟩) (Or.inr ⟨_, rfl⟩) ⟨rfl, rfl, rfl⟩ dX11_init_107 (fun M26 H locs hF hP hS => ?_)
  refine lv_aload_n hx hb dX11_init_110 rfl (lv_at hl 0 rfl) ?_
  refine lv_sipush (v := 12800) hx hb dX11_init_111 (by decide) ?_
  refine xr_newA hx hb hts hK hP hS hb0 hF (by decide +kernel) (Or.inl ⟨rfl, rfl⟩) (by decide) (Nat.le_of_ble_eq_true rfl) (Nat.le_of_ble_eq_true rfl) dX11_init_114 (fun M27 H hF hP hS => ?_)
  refine W.cs (cells' := 14) (slots' := 13784) rfl rfl ?_
  refine xr_putR hx hb hts iw_X11_init_11 hown hK hP hS (v := (some (mS M26))) hF 11 18 rfl (by decide) tyX11 tyX11_ok nmX11 (by decide +kernel) (Or.inr ⟨rfl, hnm, rfl⟩) (Or.inr ⟨_, rfl⟩) ⟨rfl, rfl, rfl⟩ dX11_init_116 (fun M28 H locs hF hP hS => ?_)
  refine lv_aload_n hx hb dX11_init_119 rfl (lv_at hl 0 rfl) ?_
  refine lv_sipush (v := 200) hx hb dX11_init_120 (by decide) ?_
  refine xr_newA hx hb hts hK hP hS hb0 hF (by decide +kernel) (Or.inl ⟨rfl, rfl⟩) (by decide) (Nat.le_of_ble_eq_true rfl) (Nat.le_of_ble_eq_true rfl) dX11_init_123 (fun M29 H hF hP hS => ?_)
  refine W.cs (cells' := 15) (slots' := 13984) rfl rfl ?_
  refine xr_putR hx hb hts iw_X11_init_11 hown hK hP hS (v := (some (mS M28))) hF 11 19 rfl (by decide) tyX11 tyX11_ok nmX11 (by decide +kernel) (Or.inr ⟨rfl, hnm, rfl⟩) (Or.inr ⟨_, rfl⟩) ⟨rfl, rfl, rfl⟩ dX11_init_125 (fun M30 H locs hF hP hS => ?_)
  refine lv_aload_n hx hb dX11_init_128 rfl (lv_at hl 0 rfl) ?_
  refine lv_sipush (v := 200) hx hb dX11_init_129 (by decide) ?_
  refine xr_newA hx hb hts hK hP hS hb0 hF (by decide +kernel) (Or.inl ⟨rfl, rfl⟩) (by decide) (Nat.le_of_ble_eq_true rfl) (Nat.le_of_ble_eq_true rfl) dX11_init_132 (fun M31 H hF hP hS => ?_)
  refine W.cs (cells' := 16) (slots' := 14184) rfl rfl ?_
  refine xr_putR hx hb hts iw_X11_init_11 hown hK hP hS (v := (some (mS M30))) hF 11 20 rfl (by decide) tyX11 tyX11_ok nmX11 (by decide +kernel) (Or.inr ⟨rfl, hnm, rfl⟩) (Or.inr ⟨_, rfl⟩) ⟨rfl, rfl, rfl⟩ dX11_init_134 (fun M32 H locs hF hP hS => ?_)
  refine lv_aload_n hx hb dX11_init_137 rfl (lv_at hl 0 rfl) ?_
  refine lv_sipush (v := 200) hx hb dX11_init_138 (by decide) ?_
  refine xr_newA hx hb hts hK hP hS hb0 hF (by decide +kernel) (Or.inl ⟨rfl, rfl⟩) (by decide) (Nat.le_of_ble_eq_true rfl) (Nat.le_of_ble_eq_true rfl) dX11_init_141 (fun M33 H hF hP hS => ?_)
  refine W.cs (cells' := 17) (slots' := 14384) rfl rfl ?_
  refine xr_putR hx hb hts iw_X11_init_11 hown hK hP hS (v := (some (mS M32))) hF 11 21 rfl (by decide) tyX11 tyX11_ok nmX11 (by decide +kernel) (Or.inr ⟨rfl, hnm, rfl⟩) (Or.inr ⟨_, rfl⟩) ⟨rfl, rfl, rfl⟩ dX11_init_143 (fun M34 H locs hF hP hS => ?_)
  refine lv_aload_n hx hb dX11_init_146 rfl (lv_at hl 0 rfl) ?_
  refine lv_sipush (v := 200) hx hb dX11_init_147 (by decide) ?_
  refine xr_newA hx hb hts hK hP hS hb0 hF (by decide +kernel) (Or.inl ⟨rfl, rfl⟩) (by decide) (Nat.le_of_ble_eq_true rfl) (Nat.le_of_ble_eq_true rfl) dX11_init_150 (fun M35 H hF hP hS => ?_)
  refine W.cs (cells' := 18) (slots' := 14584) rfl rfl ?_
  refine xr_putR hx hb hts iw_X11_init_11 hown hK hP hS (v := (some (mS M34))) hF 11 22 rfl (by decide) tyX11 tyX11_ok nmX11 (by decide +kernel) (Or.inr ⟨rfl, hnm, rfl⟩) (Or.inr ⟨_, rfl⟩) ⟨rfl, rfl, rfl⟩ dX11_init_152 (fun M36 H locs hF hP hS => ?_)
  refine lv_aload_n hx hb dX11_init_155 rfl (lv_at hl 0 rfl) ?_
  refine lv_sipush (v := 200) hx hb dX11_init_156 (by decide) ?_
  refine xr_newA hx hb hts hK hP hS hb0 hF (by decide +kernel) (Or.inl ⟨rfl, rfl⟩) (by decide) (Nat.le_of_ble_eq_true rfl) (Nat.le_of_ble_eq_true rfl) dX11_init_159 (fun M37 H hF hP hS => ?_)
  refine W.cs (cells' := 19) (slots' := 14784) rfl rfl ?_
  refine xr_putR hx hb hts iw_X11_init_11 hown hK hP hS (v := (some (mS M36))) hF 11 23 rfl (by decide) tyX11 tyX11_ok nmX11 (by decide +kernel) (Or.inr ⟨rfl, hnm, rfl⟩) (Or.inr ⟨_, rfl⟩) ⟨rfl, rfl, rfl⟩ dX11_init_161 (fun M38 H locs hF hP hS => ?_)
  refine lv_aload_n hx hb dX11_init_164 rfl (lv_at hl 0 rfl) ?_
  refine lv_sipush (v := 200) hx hb dX11_init_165 (by decide) ?_
  refine xr_newA hx hb hts hK hP hS hb0 hF (by decide +kernel) (Or.inr (Or.inr ⟨rfl, rfl⟩)) (by decide) (Nat.le_of_ble_eq_true rfl) (Nat.le_of_ble_eq_true rfl) dX11_init_168 (fun M39 H hF hP hS => ?_)
  refine W.cs (cells' := 20) (slots' := 14984) rfl rfl ?_
  refine xr_putR hx hb hts iw_X11_init_11 hown hK hP hS (v := (some (mS M38))) hF 11 24 rfl (by decide) tyX11 tyX11_ok nmX11 (by decide +kernel) (Or.inr ⟨rfl, hnm, rfl⟩) (Or.inr ⟨_, rfl⟩) ⟨rfl, rfl, rfl⟩ dX11_init_170 (fun M40 H locs hF hP hS => ?_)
  refine lv_aload_n hx hb dX11_init_173 rfl (lv_at hl 0 rfl) ?_
  refine lv_sipush (v := 200) hx hb dX11_init_174 (by decide) ?_
  refine xr_newA hx hb hts hK hP hS hb0 hF (by decide +kernel) (Or.inr (Or.inr ⟨rfl, rfl⟩)) (by decide) (Nat.le_of_ble_eq_true rfl) (Nat.le_of_ble_eq_true rfl) dX11_init_177 (fun M41 H hF hP hS => ?_)
  refine W.cs (cells' := 21) (slots' := 15184) rfl rfl ?_
  refine xr_putR hx hb hts iw_X11_init_11 hown hK hP hS (v := (some (mS M40))) hF 11 25 rfl (by decide) tyX11 tyX11_ok nmX11 (by decide +kernel) (Or.inr ⟨rfl, hnm, rfl⟩) (Or.inr ⟨_, rfl⟩) ⟨rfl, rfl, rfl⟩ dX11_init_179 (fun M42 H locs hF hP hS => ?_)
  refine lv_aload_n hx hb dX11_init_182 rfl (lv_at hl 0 rfl) ?_
  refine lv_sipush (v := 1600) hx hb dX11_init_183 (by decide) ?_
  refine xr_newA hx hb hts hK hP hS hb0 hF (by decide +kernel) (Or.inl ⟨rfl, rfl⟩) (by decide) (Nat.le_of_ble_eq_true rfl) (Nat.le_of_ble_eq_true rfl) dX11_init_186 (fun M43 H hF hP hS => ?_)
  refine W.cs (cells' := 22) (slots' := 16784) rfl rfl ?_
  refine xr_putR hx hb hts iw_X11_init_11 hown hK hP hS (v := (some (mS M42))) hF 11 26 rfl (by decide) tyX11 tyX11_ok nmX11 (by decide +kernel) (Or.inr ⟨rfl, hnm, rfl⟩) (Or.inr ⟨_, rfl⟩) ⟨rfl, rfl, rfl⟩ dX11_init_188 (fun M44 H locs hF hP hS => ?_)
  refine lv_aload_n hx hb dX11_init_191 rfl (lv_at hl 0 rfl) ?_
  refine lv_sipush (v := 1600) hx hb dX11_init_192 (by decide) ?_
  refine xr_newA hx hb hts hK hP hS hb0 hF (by decide +kernel) (Or.inl ⟨rfl, rfl⟩) (by decide) (Nat.le_of_ble_eq_true rfl) (Nat.le_of_ble_eq_true rfl) dX11_init_195 (fun M45 H hF hP hS => ?_)
  refine W.cs (cells' := 23) (slots' := 18384) rfl rfl ?_
  refine xr_putR hx hb hts iw_X11_init_11 hown hK hP hS (v := (some (mS M44))) hF 11 27 rfl (by decide) tyX11 tyX11_ok nmX11 (by decide +kernel) (Or.inr ⟨rfl, hnm, rfl⟩) (Or.inr ⟨_, rfl⟩) ⟨rfl, rfl, rfl⟩ dX11_init_197 (fun M46 H locs hF hP hS => ?_)
  refine lv_aload_n hx hb dX11_init_200 rfl (lv_at hl 0 rfl) ?_
  refine lv_sipush (v := 200) hx hb dX11_init_201 (by decide) ?_
  refine xr_newA hx hb hts hK hP hS hb0 hF (by decide +kernel) (Or.inl ⟨rfl, rfl⟩) (by decide) (Nat.le_of_ble_eq_true rfl) (Nat.le_of_ble_eq_true rfl) dX11_init_204 (fun M47 H hF hP hS => ?_)
  refine W.cs (cells' := 24) (slots' := 18584) rfl rfl ?_
  refine xr_putR hx hb hts iw_X11_init_11 hown hK hP hS (v := (some (mS M46))) hF 11 28 rfl (by decide) tyX11 tyX11_ok nmX11 (by decide +kernel) (Or.inr ⟨rfl, hnm, rfl⟩) (Or.inr ⟨_, rfl⟩) ⟨rfl, rfl, rfl⟩ dX11_init_206 (fun M48 H locs hF hP hS => ?_)
  refine lv_aload_n hx hb dX11_init_209 rfl (lv_at hl 0 rfl) ?_
  refine lv_sipush (v := 200) hx hb dX11_init_210 (by decide) ?_
  refine xr_newA hx hb hts hK hP hS hb0 hF (by decide +kernel) (Or.inl ⟨rfl, rfl⟩) (by decide) (Nat.le_of_ble_eq_true rfl) (Nat.le_of_ble_eq_true rfl) dX11_init_213 (fun M49 H hF hP hS => ?_)
  refine W.cs (cells' := 25) (slots' := 18784) rfl rfl ?_
  refine xr_putR hx hb hts iw_X11_init_11 hown hK hP hS (v := (some (mS M48))) hF 11 29 rfl (by decide) tyX11 tyX11_ok nmX11 (by decide +kernel) (Or.inr ⟨rfl, hnm, rfl⟩) (Or.inr ⟨_, rfl⟩) ⟨rfl, rfl, rfl⟩ dX11_init_215 (fun M50 H locs hF hP hS => ?_)
  refine lv_aload_n hx hb dX11_init_218 rfl (lv_at hl 0 rfl) ?_
  refine lv_bipush (v := 8) hx hb dX11_init_219 (by decide) ?_
  refine xr_newA hx hb hts hK hP hS hb0 hF (by decide +kernel) (Or.inr (Or.inr ⟨rfl, rfl⟩)) (by decide) (Nat.le_of_ble_eq_true rfl) (Nat.le_of_ble_eq_true rfl) dX11_init_221 (fun M51 H hF hP hS => ?_)
  refine W.cs (cells' := 26) (slots' := 18792) rfl rfl ?_
  refine xr_putR hx hb hts iw_X11_init_11 hown hK hP hS (v := (some (mS M50))) hF 11 30 rfl (by decide) tyX11 tyX11_ok nmX11 (by decide +kernel) (Or.inr ⟨rfl, hnm, rfl⟩) (Or.inr ⟨_, rfl⟩) ⟨rfl, rfl, rfl⟩ dX11_init_223 (fun M52 H locs hF hP hS => ?_)
  refine lv_aload_n hx hb dX11_init_226 rfl (lv_at hl 0 rfl) ?_
  refine lv_bipush (v := 8) hx hb dX11_init_227 (by decide) ?_
  refine xr_newA hx hb hts hK hP hS hb0 hF (by decide +kernel) (Or.inl ⟨rfl, rfl⟩) (by decide) (Nat.le_of_ble_eq_true rfl) (Nat.le_of_ble_eq_true rfl) dX11_init_229 (fun M53 H hF hP hS => ?_)
  refine W.cs (cells' := 27) (slots' := 18800) rfl rfl ?_
  refine xr_putR hx hb hts iw_X11_init_11 hown hK hP hS (v := (some (mS M52))) hF 11 31 rfl (by decide) tyX11 tyX11_ok nmX11 (by decide +kernel) (Or.inr ⟨rfl, hnm, rfl⟩) (Or.inr ⟨_, rfl⟩) ⟨rfl, rfl, rfl⟩ dX11_init_231 (fun M54 H locs hF hP hS => ?_)
  refine lv_aload_n hx hb dX11_init_234 rfl (lv_at hl 0 rfl) ?_
  refine lv_bipush (v := 8) hx hb dX11_init_235 (by decide) ?_
  refine xr_newA hx hb hts hK hP hS hb0 hF (by decide +kernel) (Or.inl ⟨rfl, rfl⟩) (by decide) (Nat.le_of_ble_eq_true rfl) (Nat.le_of_ble_eq_true rfl) dX11_init_237 (fun M55 H hF hP hS => ?_)
  refine W.cs (cells' := 28) (slots' := 18808) rfl rfl ?_
  refine xr_putR hx hb hts iw_X11_init_11 hown hK hP hS (v := (some (mS M54))) hF 11 32 rfl (by decide) tyX11 tyX11_ok nmX11 (by decide +kernel) (Or.inr ⟨rfl, hnm, rfl⟩) (Or.inr ⟨_, rfl⟩) ⟨rfl, rfl, rfl⟩ dX11_init_239 (fun M56 H locs hF hP hS => ?_)
  refine lv_aload_n hx hb dX11_init_242 rfl (lv_at hl 0 rfl) ?_
  refine lv_bipush (v := 64) hx hb dX11_init_243 (by decide) ?_
  refine xr_newA hx hb hts hK hP hS hb0 hF (by decide +kernel) (Or.inl ⟨rfl, rfl⟩) (by decide) (Nat.le_of_ble_eq_true rfl) (Nat.le_of_ble_eq_true rfl) dX11_init_245 (fun M57 H hF hP hS => ?_)
  refine W.cs (cells' := 29) (slots' := 18872) rfl rfl ?_
  refine xr_putR hx hb hts iw_X11_init_11 hown hK hP hS (v := (some (mS M56))) hF 11 33 rfl (by decide) tyX11 tyX11_ok nmX11 (by decide +kernel) (Or.inr ⟨rfl, hnm, rfl⟩) (Or.inr ⟨_, rfl⟩) ⟨rfl, rfl, rfl⟩ dX11_init_247 (fun M58 H locs hF hP hS => ?_)
  refine lv_aload_n hx hb dX11_init_250 rfl (lv_at hl 0 rfl) ?_
  refine lv_bipush (v := 64) hx hb dX11_init_251 (by decide) ?_
  refine xr_newA hx hb hts hK hP hS hb0 hF (by decide +kernel) (Or.inr (Or.inl ⟨rfl, rfl⟩)) (by decide) (Nat.le_of_ble_eq_true rfl) (Nat.le_of_ble_eq_true rfl) dX11_init_253 (fun M59 H hF hP hS => ?_)
  refine W.cs (cells' := 30) (slots' := 18936) rfl rfl ?_
  refine xr_putR hx hb hts iw_X11_init_11 hown hK hP hS (v := (some (mS M58))) hF 11 34 rfl (by decide) tyX11 tyX11_ok nmX11 (by decide +kernel) (Or.inr ⟨rfl, hnm, rfl⟩) (Or.inr ⟨_, rfl⟩) ⟨rfl, rfl, rfl⟩ dX11_init_255 (fun M60 H locs hF hP hS => ?_)
  refine lv_aload_n hx hb dX11_init_258 rfl (lv_at hl 0 rfl) ?_
  refine lv_bipush (v := 8) hx hb dX11_init_259 (by decide) ?_
  refine xr_newA hx hb hts hK hP hS hb0 hF (by decide +kernel) (Or.inr (Or.inl ⟨rfl, rfl⟩)) (by decide) (Nat.le_of_ble_eq_true rfl) (Nat.le_of_ble_eq_true rfl) dX11_init_261 (fun M61 H hF hP hS => ?_)
  refine W.cs (cells' := 31) (slots' := 18944) rfl rfl ?_
  refine xr_putR hx hb hts iw_X11_init_11 hown hK hP hS (v := (some (mS M60))) hF 11 39 rfl (by decide) tyX11 tyX11_ok nmX11 (by decide +kernel) (Or.inr ⟨rfl, hnm, rfl⟩) (Or.inr ⟨_, rfl⟩) ⟨rfl, rfl, rfl⟩ dX11_init_263 (fun M62 H locs hF hP hS => ?_)
  refine lv_aload_n hx hb dX11_init_266 rfl (lv_at hl 0 rfl) ?_
  refine lv_bipush (v := 8) hx hb dX11_init_267 (by decide) ?_
  refine xr_newA hx hb hts hK hP hS hb0 hF (by decide +kernel) (Or.inl ⟨rfl, rfl⟩) (by decide) (Nat.le_of_ble_eq_true rfl) (Nat.le_of_ble_eq_true rfl) dX11_init_269 (fun M63 H hF hP hS => ?_)
  refine W.cs (cells' := 32) (slots' := 18952) rfl rfl ?_
  refine xr_putR hx hb hts iw_X11_init_11 hown hK hP hS (v := (some (mS M62))) hF 11 40 rfl (by decide) tyX11 tyX11_ok nmX11 (by decide +kernel) (Or.inr ⟨rfl, hnm, rfl⟩) (Or.inr ⟨_, rfl⟩) ⟨rfl, rfl, rfl⟩ dX11_init_271 (fun M64 H locs hF hP hS => ?_)
  refine lv_aload_n hx hb dX11_init_274 rfl (lv_at hl 0 rfl) ?_
  refine lv_sipush (v := 600) hx hb dX11_init_275 (by decide) ?_
  refine xr_newA hx hb hts hK hP hS hb0 hF (by decide +kernel) (Or.inl ⟨rfl, rfl⟩) (by decide) (Nat.le_of_ble_eq_true rfl) (Nat.le_of_ble_eq_true rfl) dX11_init_278 (fun M65 H hF hP hS => ?_)
  refine W.cs (cells' := 33) (slots' := 19552) rfl rfl ?_
  refine xr_putR hx hb hts iw_X11_init_11 hown hK hP hS (v := (some (mS M64))) hF 11 41 rfl (by decide) tyX11 tyX11_ok nmX11 (by decide +kernel) (Or.inr ⟨rfl, hnm, rfl⟩) (Or.inr ⟨_, rfl⟩) ⟨rfl, rfl, rfl⟩ dX11_init_280 (fun M66 H locs hF hP hS => ?_)
  refine lv_aload_n hx hb dX11_init_283 rfl (lv_at hl 0 rfl) ?_
  refine lv_bipush (v := 8) hx hb dX11_init_284 (by decide) ?_
  refine xr_newA hx hb hts hK hP hS hb0 hF (by decide +kernel) (Or.inl ⟨rfl, rfl⟩) (by decide) (Nat.le_of_ble_eq_true rfl) (Nat.le_of_ble_eq_true rfl) dX11_init_286 (fun M67 H hF hP hS => ?_)
  refine W.cs (cells' := 34) (slots' := 19560) rfl rfl ?_
  refine xr_putR hx hb hts iw_X11_init_11 hown hK hP hS (v := (some (mS M66))) hF 11 46 rfl (by decide) tyX11 tyX11_ok nmX11 (by decide +kernel) (Or.inr ⟨rfl, hnm, rfl⟩) (Or.inr ⟨_, rfl⟩) ⟨rfl, rfl, rfl⟩ dX11_init_288 (fun M68 H locs hF hP hS => ?_)
  refine lv_aload_n hx hb dX11_init_291 rfl (lv_at hl 0 rfl) ?_
  refine lv_bipush (v := 8) hx hb dX11_init_292 (by decide) ?_
  refine xr_newA hx hb hts hK hP hS hb0 hF (by decide +kernel) (Or.inl ⟨rfl, rfl⟩) (by decide) (Nat.le_of_ble_eq_true rfl) (Nat.le_of_ble_eq_true rfl) dX11_init_294 (fun M69 H hF hP hS => ?_)
  refine W.cs (cells' := 35) (slots' := 19568) rfl rfl ?_
  refine xr_putR hx hb hts iw_X11_init_11 hown hK hP hS (v := (some (mS M68))) hF 11 47 rfl (by decide) tyX11 tyX11_ok nmX11 (by decide +kernel) (Or.inr ⟨rfl, hnm, rfl⟩) (Or.inr ⟨_, rfl⟩) ⟨rfl, rfl, rfl⟩ dX11_init_296 (fun M70 H locs hF hP hS => ?_)
  refine lv_aload_n hx hb dX11_init_299 rfl (lv_at hl 0 rfl) ?_
  refine lv_bipush (v := 8) hx hb dX11_init_300 (by decide) ?_
  refine xr_newA hx hb hts hK hP hS hb0 hF (by decide +kernel) (Or.inr (Or.inl ⟨rfl, rfl⟩)) (by decide) (Nat.le_of_ble_eq_true rfl) (Nat.le_of_ble_eq_true rfl) dX11_init_302 (fun M71 H hF hP hS => ?_)
  refine W.cs (cells' := 36) (slots' := 19576) rfl rfl ?_
  refine xr_putR hx hb hts iw_X11_init_11 hown hK hP hS (v := (some (mS M70))) hF 11 48 rfl (by decide) tyX11 tyX11_ok nmX11 (by decide +kernel) (Or.inr ⟨rfl, hnm, rfl⟩) (Or.inr ⟨_, rfl⟩) ⟨rfl, rfl, rfl⟩ dX11_init_304 (fun M72 H locs hF hP hS => ?_)
  refine lv_aload_n hx hb dX11_init_307 rfl (lv_at hl 0 rfl) ?_
  refine lv_bipush (v := 8) hx hb dX11_init_308 (by decide) ?_
  refine xr_newA hx hb hts hK hP hS hb0 hF (by decide +kernel) (Or.inl ⟨rfl, rfl⟩) (by decide) (Nat.le_of_ble_eq_true rfl) (Nat.le_of_ble_eq_true rfl) dX11_init_310 (fun M73 H hF hP hS => ?_)
  refine W.cs (cells' := 37) (slots' := 19584) rfl rfl ?_
  refine xr_putR hx hb hts iw_X11_init_11 hown hK hP hS (v := (some (mS M72))) hF 11 49 rfl (by decide) tyX11 tyX11_ok nmX11 (by decide +kernel) (Or.inr ⟨rfl, hnm, rfl⟩) (Or.inr ⟨_, rfl⟩) ⟨rfl, rfl, rfl⟩ dX11_init_312 (fun M74 H locs hF hP hS => ?_)
  refine lv_aload_n hx hb dX11_init_315 rfl (lv_at hl 0 rfl) ?_
  refine lv_bipush (v := 8) hx hb dX11_init_316 (by decide) ?_
  refine xr_newA hx hb hts hK hP hS hb0 hF (by decide +kernel) (Or.inr (Or.inl ⟨rfl, rfl⟩)) (by decide) (Nat.le_of_ble_eq_true rfl) (Nat.le_of_ble_eq_true rfl) dX11_init_318 (fun M75 H hF hP hS => ?_)
  refine W.cs (cells' := 38) (slots' := 19592) rfl rfl ?_
  refine xr_putR hx hb hts iw_X11_init_11 hown hK hP hS (v := (some (mS M74))) hF 11 52 rfl (by decide) tyX11 tyX11_ok nmX11 (by decide +kernel) (Or.inr ⟨rfl, hnm, rfl⟩) (Or.inr ⟨_, rfl⟩) ⟨rfl, rfl, rfl⟩ dX11_init_320 (fun M76 H locs hF hP hS => ?_)
  refine lv_aload_n hx hb dX11_init_323 rfl (lv_at hl 0 rfl) ?_
  refine lv_bipush (v := 8) hx hb dX11_init_324 (by decide) ?_
  refine xr_newA hx hb hts hK hP hS hb0 hF (by decide +kernel) (Or.inl ⟨rfl, rfl⟩) (by decide) (Nat.le_of_ble_eq_true rfl) (Nat.le_of_ble_eq_true rfl) dX11_init_326 (fun M77 H hF hP hS => ?_)
  refine W.cs (cells' := 39) (slots' := 19600) rfl rfl ?_
  refine xr_putR hx hb hts iw_X11_init_11 hown hK hP hS (v := (some (mS M76))) hF 11 53 rfl (by decide) tyX11 tyX11_ok nmX11 (by decide +kernel) (Or.inr ⟨rfl, hnm, rfl⟩) (Or.inr ⟨_, rfl⟩) ⟨rfl, rfl, rfl⟩ dX11_init_328 (fun M78 H locs hF hP hS => ?_)
  refine lv_aload_n hx hb dX11_init_331 rfl (lv_at hl 0 rfl) ?_
  refine lv_bipush (v := 8) hx hb dX11_init_332 (by decide) ?_
  refine xr_newA hx hb hts hK hP hS hb0 hF (by decide +kernel) (Or.inl ⟨rfl, rfl⟩) (by decide) (Nat.le_of_ble_eq_true rfl) (Nat.le_of_ble_eq_true rfl) dX11_init_334 (fun M79 H hF hP hS => ?_)
  refine W.cs (cells' := 40) (slots' := 19608) rfl rfl ?_
  refine xr_putR hx hb hts iw_X11_init_11 hown hK hP hS (v := (some (mS M78))) hF 11 54 rfl (by decide) tyX11 tyX11_ok nmX11 (by decide +kernel) (Or.inr ⟨rfl, hnm, rfl⟩) (Or.inr ⟨_, rfl⟩) ⟨rfl, rfl, rfl⟩ dX11_init_336 (fun M80 H locs hF hP hS => ?_)
  refine lv_aload_n hx hb dX11_init_339 rfl (lv_at hl 0 rfl) ?_
  refine lv_bipush (v := 8) hx hb dX11_init_340 (by decide) ?_
  refine xr_newA hx hb hts hK hP hS hb0 hF (by decide +kernel) (Or.inl ⟨rfl, rfl⟩) (by decide) (Nat.le_of_ble_eq_true rfl) (Nat.le_of_ble_eq_true rfl) dX11_init_342 (fun M81 H hF hP hS => ?_)
  refine W.cs (cells' := 41) (slots' := 19616) rfl rfl ?_
  refine xr_putR hx hb hts iw_X11_init_11 hown hK hP hS (v := (some (mS M80))) hF 11 55 rfl (by decide) tyX11 tyX11_ok nmX11 (by decide +kernel) (Or.inr ⟨rfl, hnm, rfl⟩) (Or.inr ⟨_, rfl⟩) ⟨rfl, rfl, rfl⟩ dX11_init_344 (fun M82 H locs hF hP hS => ?_)
  refine lv_aload_n hx hb dX11_init_347 rfl (lv_at hl 0 rfl) ?_
  refine lv_sipush (v := 512) hx hb dX11_init_348 (by decide) ?_
  refine xr_newA hx hb hts hK hP hS hb0 hF (by decide +kernel) (Or.inr (Or.inl ⟨rfl, rfl⟩)) (by decide) (Nat.le_of_ble_eq_true rfl) (Nat.le_of_ble_eq_true rfl) dX11_init_351 (fun M83 H hF hP hS => ?_)
  refine W.cs (cells' := 42) (slots' := 20128) rfl rfl ?_
  refine xr_putR hx hb hts iw_X11_init_11 hown hK hP hS (v := (some (mS M82))) hF 11 56 rfl (by decide) tyX11 tyX11_ok nmX11 (by decide +kernel) (Or.inr ⟨rfl, hnm, rfl⟩) (Or.inr ⟨_, rfl⟩) ⟨rfl, rfl, rfl⟩ dX11_init_353 (fun M84 H locs hF hP hS => ?_)
  refine lv_aload_n hx hb dX11_init_356 rfl (lv_at hl 0 rfl) ?_
  refine lv_bipush (v := 64) hx hb dX11_init_357 (by decide) ?_
  refine xr_newA hx hb hts hK hP hS hb0 hF (by decide +kernel) (Or.inr (Or.inl ⟨rfl, rfl⟩)) (by decide) (Nat.le_of_ble_eq_true rfl) (Nat.le_of_ble_eq_true rfl) dX11_init_359 (fun M85 H hF hP hS => ?_)
  refine W.cs (cells' := 43) (slots' := 20192) rfl rfl ?_
  refine xr_putR hx hb hts iw_X11_init_11 hown hK hP hS (v := (some (mS M84))) hF 11 57 rfl (by decide) tyX11 tyX11_ok nmX11 (by decide +kernel) (Or.inr ⟨rfl, hnm, rfl⟩) (Or.inr ⟨_, rfl⟩) ⟨rfl, rfl, rfl⟩ dX11_init_361 (fun M86 H locs hF hP hS => ?_)
  refine lv_aload_n hx hb dX11_init_364 rfl (lv_at hl 0 rfl) ?_
  refine lv_iconst (v := 1) hx hb dX11_init_365 (by decide) ?_
  refine lv_iload_n hx hb dX11_init_366 rfl (lv_at hl 1 rfl) ?_
  refine lv_bipush (v := 8) hx hb dX11_init_367 (by decide) ?_
  refine lv_irem hx hb dX11_init_369 (by decide) ?_
  refine lv_bipush (v := 8) hx hb dX11_init_370 (by decide) ?_
  refine lv_iadd hx hb dX11_init_372 ?_
  refine lv_bipush (v := 8) hx hb dX11_init_373 (by decide) ?_
  refine lv_irem hx hb dX11_init_375 (by decide) ?_
  refine lv_iadd hx hb dX11_init_376 ?_
  refine xr_putI hx hb hts iw_X11_init_11 hown hK hP hS hF 11 7 rfl (by decide) tyX11 tyX11_ok nmX11 (by decide +kernel) (Or.inl rfl) rfl ⟨rfl, rfl, rfl⟩ dX11_init_377 (fun M87 H locs hF hP hS => ?_)
  refine lv_iconst (v := 0) hx hb dX11_init_380 (by decide) ?_
  refine lv_istore_n (lv' := [(2, .int 0), (0, .ref a0), (1, .int a1)]) hx hb dX11_init_381 rfl hl (by decide) (by first | rfl | simp [cat_rf]) (fun ls hl => ?_)
  exact nd_X11_init_382 CX _ _ _ _ _ _ _ hF hP hS (lv_sub hl [1, 0] rfl)
/-! X11_isIn -/
abbrev rm_X11_isIn : Room := { frames := 0, cells := 0, slots := 0, locals := 0 }
set_option maxHeartbeats 4000000 in
set_option maxRecDepth 100000 in
theorem ct_X11_isIn (l : Launch) (b0 : Nat) (D : va_G) (cy : Nat → ClassId) (M : Mm) (a0 : Int64) (a2 : Int64) (a4 : Int64) (r : Int32) (hF : f_X11_isIn a0 a2 a4 = some r) : Met l yX11_isIn wsX11_isIn rm_X11_isIn (va_Pc [.long a0, .long a2, .long a4] (Pm b0 D cy M)) (Qm b0 D cy M (some (.int r))) 0 0 (BA b0) := by
  refine ct_of [.long a0, .long a2, .long a4] (by decide) rfl ?_
  intro p e s m below meth c CX hP
  obtain ⟨hx, hb, hr, hml, hown0, hts, hlk, hK, hN, hb0, hnm⟩ := id CX
  have hown : s.vm.findClass RX11 = some m.cls := hown0
  have hS : va_S (BA b0) s.heap s.heap [] := va_S.rf
  have hl := lv_entry [.long a0, .long a2, .long a4] (n := 6) (Nat.le_of_ble_eq_true rfl)
  generalize (lg_sl [.long a0, .long a2, .long a4] ++ List.replicate (6 - (lg_sl [.long a0, .long a2, .long a4]).length) Slot.unset).toArray = ls at hl ⊢
  have hl : lv_has ls 6 [(0, .long a0), (2, .long a2), (4, .long a4)] := hl
  unfold f_X11_isIn at hF
  refine lv_lload_n hx hb dX11_isIn_0 rfl (lv_at hl 0 rfl) ?_
  refine lv_lload_n hx hb dX11_isIn_1 rfl (lv_at hl 1 rfl) ?_
  refine W.lcmp hx hb dX11_isIn_2 ?_
  refine lv_if_lt (tgt := 17) hx hb dX11_isIn_3 (by decide) (fun c1 => ?_) (fun c1 => ?_)
  · replace hF := it_t hF c1
    refine lv_iconst (v := 0) hx hb dX11_isIn_17 (by decide) ?_
    cases hF
    exact W.zret hx hb hr rfl (fun t ht hW => ⟨rfl, by rw [ht]; exact hP, hS.F ht⟩) hS.2.2 dX11_isIn_18 hlk
  · replace hF := it_f hF c1
    refine lv_lload_n hx hb dX11_isIn_6 rfl (lv_at hl 0 rfl) ?_
    refine lv_lload hx hb dX11_isIn_7 (lv_at hl 2 rfl) ?_
    refine W.lcmp hx hb dX11_isIn_9 ?_
    refine lv_if_gt (tgt := 17) hx hb dX11_isIn_10 (by decide) (fun c2 => ?_) (fun c2 => ?_)
    · replace hF := it_t hF c2
      refine lv_iconst (v := 0) hx hb dX11_isIn_17 (by decide) ?_
      cases hF
      exact W.zret hx hb hr rfl (fun t ht hW => ⟨rfl, by rw [ht]; exact hP, hS.F ht⟩) hS.2.2 dX11_isIn_18 hlk
    · replace hF := it_f hF c2
      refine lv_iconst (v := 1) hx hb dX11_isIn_13 (by decide) ?_
      refine lv_goto (tgt := 18) hx hb dX11_isIn_14 (by decide) ?_
      cases hF
      exact W.zret hx hb hr rfl (fun t ht hW => ⟨rfl, by rw [ht]; exact hP, hS.F ht⟩) hS.2.2 dX11_isIn_18 hlk
/-! X11_isField -/
theorem iw_X11_isField_11 : ∀ w ∈ u_ws RX11 TX11 58, w ∈ wsX11_isField := by decide +kernel
abbrev rm_X11_isField : Room := { frames := 0, cells := 0, slots := 0, locals := 0 }
theorem gk_X11_isField {M : Mm} {a0 : Nat} {a1 : Int32} {r : Int32} (h : f_X11_isField M a0 a1 = some r) : mK M a0 = 12 := by
  unfold f_X11_isField at h
  exact (if_some h).1
set_option maxHeartbeats 4000000 in
set_option maxRecDepth 100000 in
theorem ct_X11_isField (l : Launch) (b0 : Nat) (D : va_G) (cy : Nat → ClassId) (M : Mm) (a0 : Nat) (a1 : Int32) (r : Int32) (hF : f_X11_isField M a0 a1 = some r) : Met l yX11_isField wsX11_isField rm_X11_isField (va_Pc [.ref a0, .int a1] (Pm b0 D cy M)) (Qm b0 D cy M (some (.int r))) 0 0 (BA b0) := by
  refine ct_of [.ref a0, .int a1] (by decide) rfl ?_
  intro p e s m below meth c CX hP
  obtain ⟨hx, hb, hr, hml, hown0, hts, hlk, hK, hN, hb0, hnm⟩ := id CX
  have hown : s.vm.findClass RX11 = some m.cls := hown0
  have hS : va_S (BA b0) s.heap s.heap [] := va_S.rf
  have hl := lv_entry [.ref a0, .int a1] (n := 2) (Nat.le_of_ble_eq_true rfl)
  generalize (lg_sl [.ref a0, .int a1] ++ List.replicate (2 - (lg_sl [.ref a0, .int a1]).length) Slot.unset).toArray = ls at hl ⊢
  have hl : lv_has ls 2 [(0, .ref a0), (1, .int a1)] := hl
  unfold f_X11_isField at hF
  replace hF := (if_some hF).2
  refine lv_iload_n hx hb dX11_isField_0 rfl (lv_at hl 1 rfl) ?_
  refine lv_if_lt (tgt := 16) hx hb dX11_isField_1 (by decide) (fun c1 => ?_) (fun c1 => ?_)
  · replace hF := it_t hF c1
    refine lv_iconst (v := 0) hx hb dX11_isField_16 (by decide) ?_
    cases hF
    exact W.zret hx hb hr rfl (fun t ht hW => ⟨rfl, by rw [ht]; exact hP, hS.F ht⟩) hS.2.2 dX11_isField_17 hlk
  · replace hF := it_f hF c1
    refine lv_iload_n hx hb dX11_isField_4 rfl (lv_at hl 1 rfl) ?_
    refine lv_aload_n hx hb dX11_isField_5 rfl (lv_at hl 0 rfl) ?_
    refine xr_getI hx hb hts iw_X11_isField_11 hown hK hP hF 11 1 rfl (by decide) (by decide +kernel) ⟨rfl, rfl, rfl⟩ dX11_isField_6 (fun v2 hF => ?_)
    refine lv_icmp_ge (tgt := 16) hx hb dX11_isField_9 (by decide) (fun c3 => ?_) (fun c3 => ?_)
    · replace hF := it_t hF c3
      refine lv_iconst (v := 0) hx hb dX11_isField_16 (by decide) ?_
      cases hF
      exact W.zret hx hb hr rfl (fun t ht hW => ⟨rfl, by rw [ht]; exact hP, hS.F ht⟩) hS.2.2 dX11_isField_17 hlk
    · replace hF := it_f hF c3
      refine lv_iconst (v := 1) hx hb dX11_isField_12 (by decide) ?_
      refine lv_goto (tgt := 17) hx hb dX11_isField_13 (by decide) ?_
      cases hF
      exact W.zret hx hb hr rfl (fun t ht hW => ⟨rfl, by rw [ht]; exact hP, hS.F ht⟩) hS.2.2 dX11_isField_17 hlk
/-! X11_isFlow -/
abbrev rm_X11_isFlow : Room := { frames := 0, cells := 0, slots := 0, locals := 0 }
set_option maxHeartbeats 4000000 in
set_option maxRecDepth 100000 in
theorem ct_X11_isFlow (l : Launch) (b0 : Nat) (D : va_G) (cy : Nat → ClassId) (M : Mm) (a0 : Int32) (r : Int32) (hF : f_X11_isFlow a0 = some r) : Met l yX11_isFlow wsX11_isFlow rm_X11_isFlow (va_Pc [.int a0] (Pm b0 D cy M)) (Qm b0 D cy M (some (.int r))) 0 0 (BA b0) := by
  refine ct_of [.int a0] (by decide) rfl ?_
  intro p e s m below meth c CX hP
  obtain ⟨hx, hb, hr, hml, hown0, hts, hlk, hK, hN, hb0, hnm⟩ := id CX
  have hown : s.vm.findClass RX11 = some m.cls := hown0
  have hS : va_S (BA b0) s.heap s.heap [] := va_S.rf
  have hl := lv_entry [.int a0] (n := 1) (Nat.le_of_ble_eq_true rfl)
  generalize (lg_sl [.int a0] ++ List.replicate (1 - (lg_sl [.int a0]).length) Slot.unset).toArray = ls at hl ⊢
  have hl : lv_has ls 1 [(0, .int a0)] := hl
  unfold f_X11_isFlow at hF
  refine lv_iload_n hx hb dX11_isFlow_0 rfl (lv_at hl 0 rfl) ?_
  refine lv_if_lt (tgt := 14) hx hb dX11_isFlow_1 (by decide) (fun c1 => ?_) (fun c1 => ?_)
  · replace hF := it_t hF c1
    refine lv_iconst (v := 0) hx hb dX11_isFlow_14 (by decide) ?_
    cases hF
    exact W.zret hx hb hr rfl (fun t ht hW => ⟨rfl, by rw [ht]; exact hP, hS.F ht⟩) hS.2.2 dX11_isFlow_15 hlk
  · replace hF := it_f hF c1
    refine lv_iload_n hx hb dX11_isFlow_4 rfl (lv_at hl 0 rfl) ?_
    refine lv_bipush (v := 8) hx hb dX11_isFlow_5 (by decide) ?_
    refine lv_icmp_ge (tgt := 14) hx hb dX11_isFlow_7 (by decide) (fun c2 => ?_) (fun c2 => ?_)
    · replace hF := it_t hF c2
      refine lv_iconst (v := 0) hx hb dX11_isFlow_14 (by decide) ?_
      cases hF
      exact W.zret hx hb hr rfl (fun t ht hW => ⟨rfl, by rw [ht]; exact hP, hS.F ht⟩) hS.2.2 dX11_isFlow_15 hlk
    · replace hF := it_f hF c2
      refine lv_iconst (v := 1) hx hb dX11_isFlow_10 (by decide) ?_
      refine lv_goto (tgt := 15) hx hb dX11_isFlow_11 (by decide) ?_
      cases hF
      exact W.zret hx hb hr rfl (fun t ht hW => ⟨rfl, by rw [ht]; exact hP, hS.F ht⟩) hS.2.2 dX11_isFlow_15 hlk
/-! X11_cut -/
theorem iw_X11_cut_11 : ∀ w ∈ u_ws RX11 TX11 58, w ∈ wsX11_cut := by decide +kernel
abbrev rm_X11_cut : Room := { frames := 0, cells := 0, slots := 0, locals := 0 }
theorem gk_X11_cut {M : Mm} {a0 : Nat} {a1 : Int32} {a2 : Int64} {r : Int64} (h : f_X11_cut M a0 a1 a2 = some r) : mK M a0 = 12 := by
  unfold f_X11_cut at h
  exact (if_some h).1
set_option maxHeartbeats 4000000 in
set_option maxRecDepth 100000 in
theorem ct_X11_cut (l : Launch) (b0 : Nat) (D : va_G) (cy : Nat → ClassId) (M : Mm) (a0 : Nat) (a1 : Int32) (a2 : Int64) (r : Int64) (hF : f_X11_cut M a0 a1 a2 = some r) : Met l yX11_cut wsX11_cut rm_X11_cut (va_Pc [.ref a0, .int a1, .long a2] (Pm b0 D cy M)) (Qm b0 D cy M (some (.long r))) 0 0 (BA b0) := by
  refine ct_of [.ref a0, .int a1, .long a2] (by decide) rfl ?_
  intro p e s m below meth c CX hP
  obtain ⟨hx, hb, hr, hml, hown0, hts, hlk, hK, hN, hb0, hnm⟩ := id CX
  have hown : s.vm.findClass RX11 = some m.cls := hown0
  have hS : va_S (BA b0) s.heap s.heap [] := va_S.rf
  have hl := lv_entry [.ref a0, .int a1, .long a2] (n := 4) (Nat.le_of_ble_eq_true rfl)
  generalize (lg_sl [.ref a0, .int a1, .long a2] ++ List.replicate (4 - (lg_sl [.ref a0, .int a1, .long a2]).length) Slot.unset).toArray = ls at hl ⊢
  have hl : lv_has ls 4 [(0, .ref a0), (1, .int a1), (2, .long a2)] := hl
  unfold f_X11_cut at hF
  replace hF := (if_some hF).2
  refine lv_lload_n hx hb dX11_cut_0 rfl (lv_at hl 2 rfl) ?_
  refine lv_lconst (v := 1) hx hb dX11_cut_1 (by decide) ?_
  refine lv_aload_n hx hb dX11_cut_2 rfl (lv_at hl 0 rfl) ?_
  refine xr_getR hx hb hts iw_X11_cut_11 hown hK hP hF 11 3 rfl (by decide) (by decide +kernel) ⟨rfl, rfl, rfl⟩ dX11_cut_3 (fun v1 hF => ?_)
  refine lv_iload_n hx hb dX11_cut_6 rfl (lv_at hl 1 rfl) ?_
  refine xr_aI hx hb hK hP hF dX11_cut_7 (fun v2 hF => ?_)
  refine lv_lshl hx hb dX11_cut_8 rfl ?_
  refine lv_lconst (v := 1) hx hb dX11_cut_9 (by decide) ?_
  refine lv_lsub hx hb dX11_cut_10 ?_
  refine lv_land hx hb dX11_cut_11 ?_
  cases hF
  exact W.lret hx hb hr (fun t ht hW => ⟨rfl, by rw [ht]; exact hP, hS.F ht⟩) hS.2.2 dX11_cut_12 hlk
/-! X11_runs -/
theorem iw_X11_runs_11 : ∀ w ∈ u_ws RX11 TX11 58, w ∈ wsX11_runs := by decide +kernel
abbrev rm_X11_runs : Room := { frames := 0, cells := 0, slots := 0, locals := 0 }
theorem gk_X11_runs {M : Mm} {a0 : Nat} {a1 : Int32} {r : Int32} (h : f_X11_runs M a0 a1 = some r) : mK M a0 = 12 := by
  unfold f_X11_runs at h
  exact (if_some h).1
set_option maxHeartbeats 4000000 in
set_option maxRecDepth 100000 in
theorem ct_X11_runs (l : Launch) (b0 : Nat) (D : va_G) (cy : Nat → ClassId) (M : Mm) (a0 : Nat) (a1 : Int32) (r : Int32) (hF : f_X11_runs M a0 a1 = some r) : Met l yX11_runs wsX11_runs rm_X11_runs (va_Pc [.ref a0, .int a1] (Pm b0 D cy M)) (Qm b0 D cy M (some (.int r))) 0 0 (BA b0) := by
  refine ct_of [.ref a0, .int a1] (by decide) rfl ?_
  intro p e s m below meth c CX hP
  obtain ⟨hx, hb, hr, hml, hown0, hts, hlk, hK, hN, hb0, hnm⟩ := id CX
  have hown : s.vm.findClass RX11 = some m.cls := hown0
  have hS : va_S (BA b0) s.heap s.heap [] := va_S.rf
  have hl := lv_entry [.ref a0, .int a1] (n := 2) (Nat.le_of_ble_eq_true rfl)
  generalize (lg_sl [.ref a0, .int a1] ++ List.replicate (2 - (lg_sl [.ref a0, .int a1]).length) Slot.unset).toArray = ls at hl ⊢
  have hl : lv_has ls 2 [(0, .ref a0), (1, .int a1)] := hl
  unfold f_X11_runs at hF
  replace hF := (if_some hF).2
  refine lv_aload_n hx hb dX11_runs_0 rfl (lv_at hl 0 rfl) ?_
  refine xr_getR hx hb hts iw_X11_runs_11 hown hK hP hF 11 2 rfl (by decide) (by decide +kernel) ⟨rfl, rfl, rfl⟩ dX11_runs_1 (fun v1 hF => ?_)
  refine lv_iload_n hx hb dX11_runs_4 rfl (lv_at hl 1 rfl) ?_
  refine xr_aI hx hb hK hP hF dX11_runs_5 (fun v2 hF => ?_)
  refine lv_iconst (v := 2) hx hb dX11_runs_6 (by decide) ?_
  refine lv_icmp_eq (tgt := 20) hx hb dX11_runs_7 (by decide) (fun c3 => ?_) (fun c3 => ?_)
  · replace hF := it_t hF c3
    refine lv_iconst (v := 1) hx hb dX11_runs_20 (by decide) ?_
    refine lv_goto (tgt := 25) hx hb dX11_runs_21 (by decide) ?_
    cases hF
    exact W.zret hx hb hr rfl (fun t ht hW => ⟨rfl, by rw [ht]; exact hP, hS.F ht⟩) hS.2.2 dX11_runs_25 hlk
  · replace hF := it_f hF c3
    refine lv_aload_n hx hb dX11_runs_10 rfl (lv_at hl 0 rfl) ?_
    refine xr_getR hx hb hts iw_X11_runs_11 hown hK hP hF 11 2 rfl (by decide) (by decide +kernel) ⟨rfl, rfl, rfl⟩ dX11_runs_11 (fun v4 hF => ?_)
    refine lv_iload_n hx hb dX11_runs_14 rfl (lv_at hl 1 rfl) ?_
    refine xr_aI hx hb hK hP hF dX11_runs_15 (fun v5 hF => ?_)
    refine lv_iconst (v := 3) hx hb dX11_runs_16 (by decide) ?_
    refine lv_icmp_ne (tgt := 24) hx hb dX11_runs_17 (by decide) (fun c6 => ?_) (fun c6 => ?_)
    · replace hF := it_f hF c6
      refine lv_iconst (v := 0) hx hb dX11_runs_24 (by decide) ?_
      cases hF
      exact W.zret hx hb hr rfl (fun t ht hW => ⟨rfl, by rw [ht]; exact hP, hS.F ht⟩) hS.2.2 dX11_runs_25 hlk
    · replace hF := it_t hF c6
      refine lv_iconst (v := 1) hx hb dX11_runs_20 (by decide) ?_
      refine lv_goto (tgt := 25) hx hb dX11_runs_21 (by decide) ?_
      cases hF
      exact W.zret hx hb hr rfl (fun t ht hW => ⟨rfl, by rw [ht]; exact hP, hS.F ht⟩) hS.2.2 dX11_runs_25 hlk
