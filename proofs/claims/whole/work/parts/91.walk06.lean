/-! X10_look -/
theorem iw_X10_look_4 : ∀ w ∈ u_ws RX4 TX4 9, w ∈ wsX10_look := by decide +kernel
abbrev rm_X10_look : Room := { frames := 1, cells := 0, slots := 0, locals := 21 }
theorem gk_X10_look {M : Mm} {a0 : Nat} {a1 : Int32} {a2 : Int32} {r : Int32} (h : f_X10_look M a0 a1 a2 = some r) : mK M a0 = 11 := by
  unfold f_X10_look at h
  exact (if_some h).1
set_option maxHeartbeats 4000000 in
set_option maxRecDepth 100000 in
theorem ct_X10_look (l : Launch) (b0 : Nat) (D : va_G) (cy : Nat → ClassId) (M : Mm) (a0 : Nat) (a1 : Int32) (a2 : Int32) (r : Int32) (hF : f_X10_look M a0 a1 a2 = some r) : Met l yX10_look wsX10_look rm_X10_look (va_Pc [.ref a0, .int a1, .int a2] (Pm b0 D cy M)) (Qm b0 D cy M (some (.int r))) 0 0 (BA b0) := by
  refine ct_of [.ref a0, .int a1, .int a2] (by decide) rfl ?_
  intro p e s m below meth c CX hP
  obtain ⟨hx, hb, hr, hml, hown0, hts, hlk, hK, hN, hb0, hnm⟩ := id CX
  have hown : s.vm.findClass RX10 = some m.cls := hown0
  have hS : va_S (BA b0) s.heap s.heap [] := va_S.rf
  have hl := lv_entry [.ref a0, .int a1, .int a2] (n := 4) (Nat.le_of_ble_eq_true rfl)
  generalize (lg_sl [.ref a0, .int a1, .int a2] ++ List.replicate (4 - (lg_sl [.ref a0, .int a1, .int a2]).length) Slot.unset).toArray = ls at hl ⊢
  have hl : lv_has ls 4 [(0, .ref a0), (1, .int a1), (2, .int a2)] := hl
  unfold f_X10_look at hF
  replace hF := (if_some hF).2
  refine lv_aload_n hx hb dX10_look_0 rfl (lv_at hl 0 rfl) ?_
  refine lv_iload_n hx hb dX10_look_1 rfl (lv_at hl 1 rfl) ?_
  obtain ⟨v2, h1, hF⟩ := ob_some hF
  refine xr_call1 (va_runV (As := [.int a1]) (rest := []) ⟨hx, hb, hml, hown, hts⟩ (ct_X10_letterAt l b0 D cy M a0 a1 v2 h1) (cwV 1 hts gX10_look_X10_letterAt rfl rfl rfl (by decide +kernel) ⟨Nat.le_of_ble_eq_true rfl, Nat.le_of_ble_eq_true rfl⟩) (xp_V hP hK hN hS hb0 10 rfl (gk_X10_letterAt h1)) rfl rfl hl.1 rfl (lv_room (Nat.le_of_ble_eq_true rfl)) dX10_look_2 ⟨Nat.le_of_ble_eq_true rfl, Nat.le_of_ble_eq_true rfl⟩) hS (fun H locs hP hS => ?_)
  refine xr_astore_n (lv' := [(3, va_rf v2), (0, .ref a0), (1, .int a1), (2, .int a2)]) hx hb dX10_look_5 rfl hl (by decide) (by first | rfl | simp [cat_rf]) (fun ls hl => ?_)
  refine xr_aload_n hx hb dX10_look_6 rfl (lv_at hl 0 rfl) ?_
  rcases v2 with _ | w3
  · replace hF := nm_n hF
    refine lv_ifnonnullN hx hb dX10_look_7 ?_
    refine lv_iconst (v := (-1)) hx hb dX10_look_10 (by decide) ?_
    cases hF
    exact W.iret hx hb hr (fun t ht hW => ⟨rfl, by rw [ht]; exact hP, hS.F ht⟩) hS.2.2 dX10_look_11 hlk
  · replace hF := nm_s hF
    refine lv_ifnonnull (tgt := 12) hx hb dX10_look_7 (by decide) ?_
    refine lv_iload_n hx hb dX10_look_12 rfl (lv_at hl 3 rfl) ?_
    by_cases c4 : a2 = 0
    · replace hF := it_t hF c4
      refine lv_tableIn (off := 43) (tgt := 56) hx hb dX10_look_13 (by rw [c4]; decide) (by rw [c4]; decide) (by rw [c4]; decide) (by decide) ?_
      refine lv_aload_n hx hb dX10_look_56 rfl (lv_at hl 0 rfl) ?_
      refine xr_getI hx hb hts iw_X10_look_4 hown hK hP hF 4 0 rfl (by decide) (by decide +kernel) ⟨rfl, rfl, rfl⟩ dX10_look_57 (fun v5 hF => ?_)
      cases hF
      exact W.iret hx hb hr (fun t ht hW => ⟨rfl, by rw [ht]; exact hP, hS.F ht⟩) hS.2.2 dX10_look_60 hlk
    replace hF := it_f hF c4
    by_cases c6 : a2 = 1
    · replace hF := it_t hF c6
      refine lv_tableIn (off := 48) (tgt := 61) hx hb dX10_look_13 (by rw [c6]; decide) (by rw [c6]; decide) (by rw [c6]; decide) (by decide) ?_
      refine lv_aload_n hx hb dX10_look_61 rfl (lv_at hl 0 rfl) ?_
      refine xr_getI hx hb hts iw_X10_look_4 hown hK hP hF 4 1 rfl (by decide) (by decide +kernel) ⟨rfl, rfl, rfl⟩ dX10_look_62 (fun v7 hF => ?_)
      cases hF
      exact W.iret hx hb hr (fun t ht hW => ⟨rfl, by rw [ht]; exact hP, hS.F ht⟩) hS.2.2 dX10_look_65 hlk
    replace hF := it_f hF c6
    by_cases c8 : a2 = 2
    · replace hF := it_t hF c8
      refine lv_tableIn (off := 53) (tgt := 66) hx hb dX10_look_13 (by rw [c8]; decide) (by rw [c8]; decide) (by rw [c8]; decide) (by decide) ?_
      refine lv_aload_n hx hb dX10_look_66 rfl (lv_at hl 0 rfl) ?_
      refine xr_getI hx hb hts iw_X10_look_4 hown hK hP hF 4 2 rfl (by decide) (by decide +kernel) ⟨rfl, rfl, rfl⟩ dX10_look_67 (fun v9 hF => ?_)
      cases hF
      exact W.iret hx hb hr (fun t ht hW => ⟨rfl, by rw [ht]; exact hP, hS.F ht⟩) hS.2.2 dX10_look_70 hlk
    replace hF := it_f hF c8
    by_cases c10 : a2 = 3
    · replace hF := it_t hF c10
      refine lv_tableIn (off := 58) (tgt := 71) hx hb dX10_look_13 (by rw [c10]; decide) (by rw [c10]; decide) (by rw [c10]; decide) (by decide) ?_
      refine lv_aload_n hx hb dX10_look_71 rfl (lv_at hl 0 rfl) ?_
      refine xr_getR hx hb hts iw_X10_look_4 hown hK hP hF 4 3 rfl (by decide) (by decide +kernel) ⟨rfl, rfl, rfl⟩ dX10_look_72 (fun v11 hF => ?_)
      refine xr_aL hx hb hK hP hF dX10_look_75 (fun v12 hF => ?_)
      cases hF
      exact W.iret hx hb hr (fun t ht hW => ⟨rfl, by rw [ht]; exact hP, hS.F ht⟩) hS.2.2 dX10_look_76 hlk
    replace hF := it_f hF c10
    by_cases c13 : a2 = 4
    · replace hF := it_t hF c13
      refine lv_tableIn (off := 64) (tgt := 77) hx hb dX10_look_13 (by rw [c13]; decide) (by rw [c13]; decide) (by rw [c13]; decide) (by decide) ?_
      refine lv_aload_n hx hb dX10_look_77 rfl (lv_at hl 0 rfl) ?_
      refine xr_getI hx hb hts iw_X10_look_4 hown hK hP hF 4 4 rfl (by decide) (by decide +kernel) ⟨rfl, rfl, rfl⟩ dX10_look_78 (fun v14 hF => ?_)
      cases hF
      exact W.iret hx hb hr (fun t ht hW => ⟨rfl, by rw [ht]; exact hP, hS.F ht⟩) hS.2.2 dX10_look_81 hlk
    replace hF := it_f hF c13
    by_cases c15 : a2 = 5
    · replace hF := it_t hF c15
      refine lv_tableIn (off := 69) (tgt := 82) hx hb dX10_look_13 (by rw [c15]; decide) (by rw [c15]; decide) (by rw [c15]; decide) (by decide) ?_
      refine lv_aload_n hx hb dX10_look_82 rfl (lv_at hl 0 rfl) ?_
      refine xr_getI hx hb hts iw_X10_look_4 hown hK hP hF 4 5 rfl (by decide) (by decide +kernel) ⟨rfl, rfl, rfl⟩ dX10_look_83 (fun v16 hF => ?_)
      cases hF
      exact W.iret hx hb hr (fun t ht hW => ⟨rfl, by rw [ht]; exact hP, hS.F ht⟩) hS.2.2 dX10_look_86 hlk
    replace hF := it_f hF c15
    by_cases c17 : a2 = 6
    · replace hF := it_t hF c17
      refine lv_tableIn (off := 74) (tgt := 87) hx hb dX10_look_13 (by rw [c17]; decide) (by rw [c17]; decide) (by rw [c17]; decide) (by decide) ?_
      refine lv_aload_n hx hb dX10_look_87 rfl (lv_at hl 0 rfl) ?_
      refine xr_getI hx hb hts iw_X10_look_4 hown hK hP hF 4 6 rfl (by decide) (by decide +kernel) ⟨rfl, rfl, rfl⟩ dX10_look_88 (fun v18 hF => ?_)
      refine lv_if_eq (tgt := 98) hx hb dX10_look_91 (by decide) (fun c19 => ?_) (fun c19 => ?_)
      · replace hF := it_t hF c19
        refine lv_iconst (v := 0) hx hb dX10_look_98 (by decide) ?_
        cases hF
        exact W.iret hx hb hr (fun t ht hW => ⟨rfl, by rw [ht]; exact hP, hS.F ht⟩) hS.2.2 dX10_look_99 hlk
      · replace hF := it_f hF c19
        refine lv_iconst (v := 1) hx hb dX10_look_94 (by decide) ?_
        refine lv_goto (tgt := 99) hx hb dX10_look_95 (by decide) ?_
        cases hF
        exact W.iret hx hb hr (fun t ht hW => ⟨rfl, by rw [ht]; exact hP, hS.F ht⟩) hS.2.2 dX10_look_99 hlk
    replace hF := it_f hF c17
    refine lv_tableOut (tgt := 100) hx hb dX10_look_13 (by have := lv_neT c4 (by decide : (0 : Int32).toInt = 0); have := lv_neT c6 (by decide : (1 : Int32).toInt = 1); have := lv_neT c8 (by decide : (2 : Int32).toInt = 2); have := lv_neT c10 (by decide : (3 : Int32).toInt = 3); have := lv_neT c13 (by decide : (4 : Int32).toInt = 4); have := lv_neT c15 (by decide : (5 : Int32).toInt = 5); have := lv_neT c17 (by decide : (6 : Int32).toInt = 6); omega) (by decide) ?_
    refine lv_iconst (v := (-1)) hx hb dX10_look_100 (by decide) ?_
    cases hF
    exact W.iret hx hb hr (fun t ht hW => ⟨rfl, by rw [ht]; exact hP, hS.F ht⟩) hS.2.2 dX10_look_101 hlk
/-! X10_prove -/
theorem iw_X10_prove_4 : ∀ w ∈ u_ws RX4 TX4 9, w ∈ wsX10_prove := by decide +kernel
theorem iw_X10_prove_7 : ∀ w ∈ u_ws RX7 TX7 4, w ∈ wsX10_prove := by decide +kernel
theorem iw_X10_prove_10 : ∀ w ∈ u_ws RX10 TX10 12, w ∈ wsX10_prove := by decide +kernel
abbrev rm_X10_prove : Room := { frames := 2, cells := 0, slots := 0, locals := 42 }
theorem gk_X10_prove {M : Mm} {a0 : Nat} {a1 : Int32} {a2 : Int32} {a3 : Int32} {r : Int32} (h : f_X10_prove M a0 a1 a2 a3 = some r) : mK M a0 = 11 := by
  unfold f_X10_prove at h
  exact (if_some h).1
set_option maxHeartbeats 4000000 in
set_option maxRecDepth 100000 in
theorem ct_X10_prove (l : Launch) (b0 : Nat) (D : va_G) (cy : Nat → ClassId) (M : Mm) (a0 : Nat) (a1 : Int32) (a2 : Int32) (a3 : Int32) (r : Int32) (hF : f_X10_prove M a0 a1 a2 a3 = some r) : Met l yX10_prove wsX10_prove rm_X10_prove (va_Pc [.ref a0, .int a1, .int a2, .int a3] (Pm b0 D cy M)) (Qm b0 D cy M (some (.int r))) 0 0 (BA b0) := by
  refine ct_of [.ref a0, .int a1, .int a2, .int a3] (by decide) rfl ?_
  intro p e s m below meth c CX hP
  obtain ⟨hx, hb, hr, hml, hown0, hts, hlk, hK, hN, hb0, hnm⟩ := id CX
  have hown : s.vm.findClass RX10 = some m.cls := hown0
  have hS : va_S (BA b0) s.heap s.heap [] := va_S.rf
  have hl := lv_entry [.ref a0, .int a1, .int a2, .int a3] (n := 6) (Nat.le_of_ble_eq_true rfl)
  generalize (lg_sl [.ref a0, .int a1, .int a2, .int a3] ++ List.replicate (6 - (lg_sl [.ref a0, .int a1, .int a2, .int a3]).length) Slot.unset).toArray = ls at hl ⊢
  have hl : lv_has ls 6 [(0, .ref a0), (1, .int a1), (2, .int a2), (3, .int a3)] := hl
  unfold f_X10_prove at hF
  replace hF := (if_some hF).2
  refine lv_aload_n hx hb dX10_prove_0 rfl (lv_at hl 0 rfl) ?_
  refine lv_iload_n hx hb dX10_prove_1 rfl (lv_at hl 1 rfl) ?_
  obtain ⟨v2, h1, hF⟩ := ob_some hF
  refine xr_call1 (va_runV (As := [.int a1]) (rest := []) ⟨hx, hb, hml, hown, hts⟩ (ct_X10_letterAt l b0 D cy M a0 a1 v2 h1) (cwV 1 hts gX10_prove_X10_letterAt rfl rfl rfl (by decide +kernel) ⟨Nat.le_of_ble_eq_true rfl, Nat.le_of_ble_eq_true rfl⟩) (xp_V hP hK hN hS hb0 10 rfl (gk_X10_letterAt h1)) rfl rfl hl.1 rfl (lv_room (Nat.le_of_ble_eq_true rfl)) dX10_prove_2 ⟨Nat.le_of_ble_eq_true rfl, Nat.le_of_ble_eq_true rfl⟩) hS (fun H locs hP hS => ?_)
  refine xr_astore (lv' := [(4, va_rf v2), (0, .ref a0), (1, .int a1), (2, .int a2), (3, .int a3)]) hx hb dX10_prove_5 hl (by decide) (by first | rfl | simp [cat_rf]) (fun ls hl => ?_)
  refine xr_aload hx hb dX10_prove_7 (lv_at hl 0 rfl) ?_
  rcases v2 with _ | w3
  · replace hF := nm_n hF
    refine lv_ifnullN (tgt := 31) hx hb dX10_prove_9 (by decide) ?_
    refine lv_iconst (v := (-1)) hx hb dX10_prove_31 (by decide) ?_
    cases hF
    exact W.iret hx hb hr (fun t ht hW => ⟨rfl, by rw [ht]; exact hP, hS.F ht⟩) hS.2.2 dX10_prove_32 hlk
  · replace hF := nm_s hF
    refine lv_ifnull hx hb dX10_prove_9 ?_
    refine lv_aload hx hb dX10_prove_12 (lv_at hl 0 rfl) ?_
    refine xr_getN hx hb hts iw_X10_prove_4 hown hK hP hF 4 8 rfl (by decide) (by decide +kernel) ⟨rfl, rfl, rfl⟩ dX10_prove_14 (fun v4 hF => ?_)
    rcases v4 with _ | w5
    · replace hF := nm_n hF
      refine lv_ifnullN (tgt := 31) hx hb dX10_prove_17 (by decide) ?_
      refine lv_iconst (v := (-1)) hx hb dX10_prove_31 (by decide) ?_
      cases hF
      exact W.iret hx hb hr (fun t ht hW => ⟨rfl, by rw [ht]; exact hP, hS.F ht⟩) hS.2.2 dX10_prove_32 hlk
    · replace hF := nm_s hF
      refine lv_ifnull hx hb dX10_prove_17 ?_
      refine lv_aload_n hx hb dX10_prove_20 rfl (lv_at hl 1 rfl) ?_
      refine xr_getR hx hb hts iw_X10_prove_10 hown hK hP hF 10 1 rfl (by decide) (by decide +kernel) ⟨rfl, rfl, rfl⟩ dX10_prove_21 (fun v6 hF => ?_)
      refine lv_iload_n hx hb dX10_prove_24 rfl (lv_at hl 3 rfl) ?_
      obtain ⟨v8, h7, hF⟩ := ob_some hF
      refine xr_call1 (va_runV (As := [.int a2]) (rest := []) ⟨hx, hb, hml, hown, hts⟩ (ct_X6_hasStride l b0 D cy M v6 a2 v8 h7) (cwV 1 hts gX10_prove_X6_hasStride rfl rfl rfl (by decide +kernel) ⟨Nat.le_of_ble_eq_true rfl, Nat.le_of_ble_eq_true rfl⟩) (xp_V hP hK hN hS hb0 6 rfl (gk_X6_hasStride h7)) rfl rfl hl.1 rfl (lv_room (Nat.le_of_ble_eq_true rfl)) dX10_prove_25 ⟨Nat.le_of_ble_eq_true rfl, Nat.le_of_ble_eq_true rfl⟩) hS (fun H locs hP hS => ?_)
      refine lv_if_ne (tgt := 33) hx hb dX10_prove_28 (by decide) (fun c9 => ?_) (fun c9 => ?_)
      · replace hF := it_f hF c9
        refine lv_aload hx hb dX10_prove_33 (lv_at hl 0 rfl) ?_
        refine xr_getN hx hb hts iw_X10_prove_4 hown hK hP hF 4 8 rfl (by decide) (by decide +kernel) ⟨rfl, rfl, rfl⟩ dX10_prove_35 (fun v10 hF => ?_)
        refine xr_astore (lv' := [(5, va_rf v10), (4, .ref w3), (0, .ref a0), (1, .int a1), (2, .int a2), (3, .int a3)]) hx hb dX10_prove_38 hl (by decide) (by first | rfl | simp [cat_rf]) (fun ls hl => ?_)
        refine lv_iload_n hx hb dX10_prove_40 rfl (lv_at hl 5 rfl) ?_
        by_cases c11 : a3 = 0
        · replace hF := it_t hF c11
          refine lv_tableIn (off := 31) (tgt := 72) hx hb dX10_prove_41 (by rw [c11]; decide) (by rw [c11]; decide) (by rw [c11]; decide) (by decide) ?_
          refine xr_aload hx hb dX10_prove_72 (lv_at hl 0 rfl) ?_
          obtain ⟨w12, h13, hF⟩ := ob_some hF
          subst h13
          refine xr_getR hx hb hts iw_X10_prove_7 hown hK hP hF 7 0 rfl (by decide) (by decide +kernel) ⟨rfl, rfl, rfl⟩ dX10_prove_74 (fun v14 hF => ?_)
          refine lv_iload_n hx hb dX10_prove_77 rfl (lv_at hl 4 rfl) ?_
          refine xr_aI hx hb hK hP hF dX10_prove_78 (fun v15 hF => ?_)
          cases hF
          exact W.iret hx hb hr (fun t ht hW => ⟨rfl, by rw [ht]; exact hP, hS.F ht⟩) hS.2.2 dX10_prove_79 hlk
        replace hF := it_f hF c11
        by_cases c16 : a3 = 1
        · replace hF := it_t hF c16
          refine lv_tableIn (off := 39) (tgt := 80) hx hb dX10_prove_41 (by rw [c16]; decide) (by rw [c16]; decide) (by rw [c16]; decide) (by decide) ?_
          refine xr_aload hx hb dX10_prove_80 (lv_at hl 0 rfl) ?_
          obtain ⟨w17, h18, hF⟩ := ob_some hF
          subst h18
          refine xr_getR hx hb hts iw_X10_prove_7 hown hK hP hF 7 1 rfl (by decide) (by decide +kernel) ⟨rfl, rfl, rfl⟩ dX10_prove_82 (fun v19 hF => ?_)
          refine lv_iload_n hx hb dX10_prove_85 rfl (lv_at hl 4 rfl) ?_
          refine xr_aI hx hb hK hP hF dX10_prove_86 (fun v20 hF => ?_)
          cases hF
          exact W.iret hx hb hr (fun t ht hW => ⟨rfl, by rw [ht]; exact hP, hS.F ht⟩) hS.2.2 dX10_prove_87 hlk
        replace hF := it_f hF c16
        by_cases c21 : a3 = 2
        · replace hF := it_t hF c21
          refine lv_tableIn (off := 47) (tgt := 88) hx hb dX10_prove_41 (by rw [c21]; decide) (by rw [c21]; decide) (by rw [c21]; decide) (by decide) ?_
          refine xr_aload hx hb dX10_prove_88 (lv_at hl 0 rfl) ?_
          obtain ⟨w22, h23, hF⟩ := ob_some hF
          subst h23
          refine xr_getI hx hb hts iw_X10_prove_7 hown hK hP hF 7 2 rfl (by decide) (by decide +kernel) ⟨rfl, rfl, rfl⟩ dX10_prove_90 (fun v24 hF => ?_)
          cases hF
          exact W.iret hx hb hr (fun t ht hW => ⟨rfl, by rw [ht]; exact hP, hS.F ht⟩) hS.2.2 dX10_prove_93 hlk
        replace hF := it_f hF c21
        by_cases c25 : a3 = 3
        · replace hF := it_t hF c25
          refine lv_tableIn (off := 53) (tgt := 94) hx hb dX10_prove_41 (by rw [c25]; decide) (by rw [c25]; decide) (by rw [c25]; decide) (by decide) ?_
          refine xr_aload hx hb dX10_prove_94 (lv_at hl 0 rfl) ?_
          obtain ⟨w26, h27, hF⟩ := ob_some hF
          subst h27
          refine xr_getI hx hb hts iw_X10_prove_7 hown hK hP hF 7 3 rfl (by decide) (by decide +kernel) ⟨rfl, rfl, rfl⟩ dX10_prove_96 (fun v28 hF => ?_)
          cases hF
          exact W.iret hx hb hr (fun t ht hW => ⟨rfl, by rw [ht]; exact hP, hS.F ht⟩) hS.2.2 dX10_prove_99 hlk
        replace hF := it_f hF c25
        refine lv_tableOut (tgt := 100) hx hb dX10_prove_41 (by have := lv_neT c11 (by decide : (0 : Int32).toInt = 0); have := lv_neT c16 (by decide : (1 : Int32).toInt = 1); have := lv_neT c21 (by decide : (2 : Int32).toInt = 2); have := lv_neT c25 (by decide : (3 : Int32).toInt = 3); omega) (by decide) ?_
        refine lv_iconst (v := (-1)) hx hb dX10_prove_100 (by decide) ?_
        cases hF
        exact W.iret hx hb hr (fun t ht hW => ⟨rfl, by rw [ht]; exact hP, hS.F ht⟩) hS.2.2 dX10_prove_101 hlk
      · replace hF := it_t hF c9
        refine lv_iconst (v := (-1)) hx hb dX10_prove_31 (by decide) ?_
        cases hF
        exact W.iret hx hb hr (fun t ht hW => ⟨rfl, by rw [ht]; exact hP, hS.F ht⟩) hS.2.2 dX10_prove_32 hlk
/-! X10_got -/
theorem iw_X10_got_2 : ∀ w ∈ u_ws RX2 TX2 5, w ∈ wsX10_got := by decide +kernel
theorem iw_X10_got_3 : ∀ w ∈ u_ws RX3 TX3 2, w ∈ wsX10_got := by decide +kernel
theorem iw_X10_got_10 : ∀ w ∈ u_ws RX10 TX10 12, w ∈ wsX10_got := by decide +kernel
abbrev rm_X10_got : Room := { frames := 1, cells := 0, slots := 0, locals := 21 }
theorem gk_X10_got {M : Mm} {a0 : Nat} {a1 : Int32} {r : Int64} (h : f_X10_got M a0 a1 = some r) : mK M a0 = 11 := by
  unfold f_X10_got at h
  exact (if_some h).1
set_option maxHeartbeats 4000000 in
set_option maxRecDepth 100000 in
theorem ct_X10_got (l : Launch) (b0 : Nat) (D : va_G) (cy : Nat → ClassId) (M : Mm) (a0 : Nat) (a1 : Int32) (r : Int64) (hF : f_X10_got M a0 a1 = some r) : Met l yX10_got wsX10_got rm_X10_got (va_Pc [.ref a0, .int a1] (Pm b0 D cy M)) (Qm b0 D cy M (some (.long r))) 0 0 (BA b0) := by
  refine ct_of [.ref a0, .int a1] (by decide) rfl ?_
  intro p e s m below meth c CX hP
  obtain ⟨hx, hb, hr, hml, hown0, hts, hlk, hK, hN, hb0, hnm⟩ := id CX
  have hown : s.vm.findClass RX10 = some m.cls := hown0
  have hS : va_S (BA b0) s.heap s.heap [] := va_S.rf
  have hl := lv_entry [.ref a0, .int a1] (n := 2) (Nat.le_of_ble_eq_true rfl)
  generalize (lg_sl [.ref a0, .int a1] ++ List.replicate (2 - (lg_sl [.ref a0, .int a1]).length) Slot.unset).toArray = ls at hl ⊢
  have hl : lv_has ls 2 [(0, .ref a0), (1, .int a1)] := hl
  unfold f_X10_got at hF
  replace hF := (if_some hF).2
  refine lv_aload_n hx hb dX10_got_0 rfl (lv_at hl 0 rfl) ?_
  refine xr_getR hx hb hts iw_X10_got_10 hown hK hP hF 10 1 rfl (by decide) (by decide +kernel) ⟨rfl, rfl, rfl⟩ dX10_got_1 (fun v1 hF => ?_)
  refine lv_iload_n hx hb dX10_got_4 rfl (lv_at hl 1 rfl) ?_
  obtain ⟨v3, h2, hF⟩ := ob_some hF
  refine xr_call1 (va_runV (As := [.int a1]) (rest := []) ⟨hx, hb, hml, hown, hts⟩ (ct_X6_has l b0 D cy M v1 a1 v3 h2) (cwV 1 hts gX10_got_X6_has rfl rfl rfl (by decide +kernel) ⟨Nat.le_of_ble_eq_true rfl, Nat.le_of_ble_eq_true rfl⟩) (xp_V hP hK hN hS hb0 6 rfl (gk_X6_has h2)) rfl rfl hl.1 rfl (lv_room (Nat.le_of_ble_eq_true rfl)) dX10_got_5 ⟨Nat.le_of_ble_eq_true rfl, Nat.le_of_ble_eq_true rfl⟩) hS (fun H locs hP hS => ?_)
  refine lv_if_ne (tgt := 15) hx hb dX10_got_8 (by decide) (fun c4 => ?_) (fun c4 => ?_)
  · replace hF := it_f hF c4
    refine lv_aload_n hx hb dX10_got_15 rfl (lv_at hl 0 rfl) ?_
    refine xr_getR hx hb hts iw_X10_got_10 hown hK hP hF 10 9 rfl (by decide) (by decide +kernel) ⟨rfl, rfl, rfl⟩ dX10_got_16 (fun v5 hF => ?_)
    refine xr_getI hx hb hts iw_X10_got_2 hown hK hP hF 2 4 rfl (by decide) (by decide +kernel) ⟨rfl, rfl, rfl⟩ dX10_got_19 (fun v6 hF => ?_)
    refine lv_if_ne (tgt := 31) hx hb dX10_got_22 (by decide) (fun c7 => ?_) (fun c7 => ?_)
    · replace hF := it_f hF c7
      refine lv_aload_n hx hb dX10_got_31 rfl (lv_at hl 0 rfl) ?_
      refine xr_getR hx hb hts iw_X10_got_10 hown hK hP hF 10 9 rfl (by decide) (by decide +kernel) ⟨rfl, rfl, rfl⟩ dX10_got_32 (fun v8 hF => ?_)
      refine xr_getR hx hb hts iw_X10_got_2 hown hK hP hF 2 0 rfl (by decide) (by decide +kernel) ⟨rfl, rfl, rfl⟩ dX10_got_35 (fun v9 hF => ?_)
      refine xr_getR hx hb hts iw_X10_got_3 hown hK hP hF 3 0 rfl (by decide) (by decide +kernel) ⟨rfl, rfl, rfl⟩ dX10_got_38 (fun v10 hF => ?_)
      refine lv_iload_n hx hb dX10_got_41 rfl (lv_at hl 1 rfl) ?_
      refine xr_aJ hx hb hK hP hF dX10_got_42 (fun v11 hF => ?_)
      cases hF
      exact W.lret hx hb hr (fun t ht hW => ⟨rfl, by rw [ht]; exact hP, hS.F ht⟩) hS.2.2 dX10_got_43 hlk
    · replace hF := it_t hF c7
      refine lv_ldc2 (v := (-2)) hx hb hown (hts (.constantLong RX10 245 (-2)) (by decide +kernel)) dX10_got_25 ?_
      refine lv_goto (tgt := 43) hx hb dX10_got_28 (by decide) ?_
      cases hF
      exact W.lret hx hb hr (fun t ht hW => ⟨rfl, by rw [ht]; exact hP, hS.F ht⟩) hS.2.2 dX10_got_43 hlk
  · replace hF := it_t hF c4
    refine lv_ldc2 (v := (-1)) hx hb hown (hts (.constantLong RX10 99 (-1)) (by decide +kernel)) dX10_got_11 ?_
    cases hF
    exact W.lret hx hb hr (fun t ht hW => ⟨rfl, by rw [ht]; exact hP, hS.F ht⟩) hS.2.2 dX10_got_14 hlk
/-! X10_way -/
theorem iw_X10_way_2 : ∀ w ∈ u_ws RX2 TX2 5, w ∈ wsX10_way := by decide +kernel
theorem iw_X10_way_10 : ∀ w ∈ u_ws RX10 TX10 12, w ∈ wsX10_way := by decide +kernel
abbrev rm_X10_way : Room := { frames := 1, cells := 0, slots := 0, locals := 21 }
theorem gk_X10_way {M : Mm} {a0 : Nat} {a1 : Int32} {r : Int32} (h : f_X10_way M a0 a1 = some r) : mK M a0 = 11 := by
  unfold f_X10_way at h
  exact (if_some h).1
set_option maxHeartbeats 4000000 in
set_option maxRecDepth 100000 in
theorem ct_X10_way (l : Launch) (b0 : Nat) (D : va_G) (cy : Nat → ClassId) (M : Mm) (a0 : Nat) (a1 : Int32) (r : Int32) (hF : f_X10_way M a0 a1 = some r) : Met l yX10_way wsX10_way rm_X10_way (va_Pc [.ref a0, .int a1] (Pm b0 D cy M)) (Qm b0 D cy M (some (.int r))) 0 0 (BA b0) := by
  refine ct_of [.ref a0, .int a1] (by decide) rfl ?_
  intro p e s m below meth c CX hP
  obtain ⟨hx, hb, hr, hml, hown0, hts, hlk, hK, hN, hb0, hnm⟩ := id CX
  have hown : s.vm.findClass RX10 = some m.cls := hown0
  have hS : va_S (BA b0) s.heap s.heap [] := va_S.rf
  have hl := lv_entry [.ref a0, .int a1] (n := 2) (Nat.le_of_ble_eq_true rfl)
  generalize (lg_sl [.ref a0, .int a1] ++ List.replicate (2 - (lg_sl [.ref a0, .int a1]).length) Slot.unset).toArray = ls at hl ⊢
  have hl : lv_has ls 2 [(0, .ref a0), (1, .int a1)] := hl
  unfold f_X10_way at hF
  replace hF := (if_some hF).2
  refine lv_aload_n hx hb dX10_way_0 rfl (lv_at hl 0 rfl) ?_
  refine xr_getR hx hb hts iw_X10_way_10 hown hK hP hF 10 1 rfl (by decide) (by decide +kernel) ⟨rfl, rfl, rfl⟩ dX10_way_1 (fun v1 hF => ?_)
  refine lv_iload_n hx hb dX10_way_4 rfl (lv_at hl 1 rfl) ?_
  obtain ⟨v3, h2, hF⟩ := ob_some hF
  refine xr_call1 (va_runV (As := [.int a1]) (rest := []) ⟨hx, hb, hml, hown, hts⟩ (ct_X6_has l b0 D cy M v1 a1 v3 h2) (cwV 1 hts gX10_way_X6_has rfl rfl rfl (by decide +kernel) ⟨Nat.le_of_ble_eq_true rfl, Nat.le_of_ble_eq_true rfl⟩) (xp_V hP hK hN hS hb0 6 rfl (gk_X6_has h2)) rfl rfl hl.1 rfl (lv_room (Nat.le_of_ble_eq_true rfl)) dX10_way_5 ⟨Nat.le_of_ble_eq_true rfl, Nat.le_of_ble_eq_true rfl⟩) hS (fun H locs hP hS => ?_)
  refine lv_if_ne (tgt := 13) hx hb dX10_way_8 (by decide) (fun c4 => ?_) (fun c4 => ?_)
  · replace hF := it_f hF c4
    refine lv_aload_n hx hb dX10_way_13 rfl (lv_at hl 0 rfl) ?_
    refine xr_getR hx hb hts iw_X10_way_10 hown hK hP hF 10 9 rfl (by decide) (by decide +kernel) ⟨rfl, rfl, rfl⟩ dX10_way_14 (fun v5 hF => ?_)
    refine xr_getI hx hb hts iw_X10_way_2 hown hK hP hF 2 4 rfl (by decide) (by decide +kernel) ⟨rfl, rfl, rfl⟩ dX10_way_17 (fun v6 hF => ?_)
    refine lv_if_ne (tgt := 28) hx hb dX10_way_20 (by decide) (fun c7 => ?_) (fun c7 => ?_)
    · replace hF := it_f hF c7
      refine lv_aload_n hx hb dX10_way_28 rfl (lv_at hl 0 rfl) ?_
      refine xr_getR hx hb hts iw_X10_way_10 hown hK hP hF 10 9 rfl (by decide) (by decide +kernel) ⟨rfl, rfl, rfl⟩ dX10_way_29 (fun v8 hF => ?_)
      refine xr_getR hx hb hts iw_X10_way_2 hown hK hP hF 2 1 rfl (by decide) (by decide +kernel) ⟨rfl, rfl, rfl⟩ dX10_way_32 (fun v9 hF => ?_)
      refine lv_iload_n hx hb dX10_way_35 rfl (lv_at hl 1 rfl) ?_
      refine xr_aI hx hb hK hP hF dX10_way_36 (fun v10 hF => ?_)
      cases hF
      exact W.iret hx hb hr (fun t ht hW => ⟨rfl, by rw [ht]; exact hP, hS.F ht⟩) hS.2.2 dX10_way_37 hlk
    · replace hF := it_t hF c7
      refine lv_bipush (v := (-2)) hx hb dX10_way_23 (by decide) ?_
      refine lv_goto (tgt := 37) hx hb dX10_way_25 (by decide) ?_
      cases hF
      exact W.iret hx hb hr (fun t ht hW => ⟨rfl, by rw [ht]; exact hP, hS.F ht⟩) hS.2.2 dX10_way_37 hlk
  · replace hF := it_t hF c4
    refine lv_iconst (v := (-1)) hx hb dX10_way_11 (by decide) ?_
    cases hF
    exact W.iret hx hb hr (fun t ht hW => ⟨rfl, by rw [ht]; exact hP, hS.F ht⟩) hS.2.2 dX10_way_12 hlk
/-! X10_hung -/
theorem iw_X10_hung_2 : ∀ w ∈ u_ws RX2 TX2 5, w ∈ wsX10_hung := by decide +kernel
theorem iw_X10_hung_3 : ∀ w ∈ u_ws RX3 TX3 2, w ∈ wsX10_hung := by decide +kernel
theorem iw_X10_hung_10 : ∀ w ∈ u_ws RX10 TX10 12, w ∈ wsX10_hung := by decide +kernel
abbrev rm_X10_hung : Room := { frames := 0, cells := 0, slots := 0, locals := 0 }
theorem gk_X10_hung {M : Mm} {a0 : Nat} {a1 : Int32} {r : Int32} (h : f_X10_hung M a0 a1 = some r) : mK M a0 = 11 := by
  unfold f_X10_hung at h
  exact (if_some h).1
set_option maxHeartbeats 4000000 in
set_option maxRecDepth 100000 in
theorem ct_X10_hung (l : Launch) (b0 : Nat) (D : va_G) (cy : Nat → ClassId) (M : Mm) (a0 : Nat) (a1 : Int32) (r : Int32) (hF : f_X10_hung M a0 a1 = some r) : Met l yX10_hung wsX10_hung rm_X10_hung (va_Pc [.ref a0, .int a1] (Pm b0 D cy M)) (Qm b0 D cy M (some (.int r))) 0 0 (BA b0) := by
  refine ct_of [.ref a0, .int a1] (by decide) rfl ?_
  intro p e s m below meth c CX hP
  obtain ⟨hx, hb, hr, hml, hown0, hts, hlk, hK, hN, hb0, hnm⟩ := id CX
  have hown : s.vm.findClass RX10 = some m.cls := hown0
  have hS : va_S (BA b0) s.heap s.heap [] := va_S.rf
  have hl := lv_entry [.ref a0, .int a1] (n := 2) (Nat.le_of_ble_eq_true rfl)
  generalize (lg_sl [.ref a0, .int a1] ++ List.replicate (2 - (lg_sl [.ref a0, .int a1]).length) Slot.unset).toArray = ls at hl ⊢
  have hl : lv_has ls 2 [(0, .ref a0), (1, .int a1)] := hl
  unfold f_X10_hung at hF
  replace hF := (if_some hF).2
  refine lv_iload_n hx hb dX10_hung_0 rfl (lv_at hl 1 rfl) ?_
  refine lv_if_lt (tgt := 9) hx hb dX10_hung_1 (by decide) (fun c1 => ?_) (fun c1 => ?_)
  · replace hF := it_t hF c1
    refine lv_iconst (v := (-1)) hx hb dX10_hung_9 (by decide) ?_
    cases hF
    exact W.iret hx hb hr (fun t ht hW => ⟨rfl, by rw [ht]; exact hP, hS.F ht⟩) hS.2.2 dX10_hung_10 hlk
  · replace hF := it_f hF c1
    refine lv_iload_n hx hb dX10_hung_4 rfl (lv_at hl 1 rfl) ?_
    refine lv_iconst (v := 3) hx hb dX10_hung_5 (by decide) ?_
    refine lv_icmp_le (tgt := 11) hx hb dX10_hung_6 (by decide) (fun c2 => ?_) (fun c2 => ?_)
    · replace hF := it_t hF c2
      refine lv_iload_n hx hb dX10_hung_11 rfl (lv_at hl 1 rfl) ?_
      refine lv_iconst (v := 3) hx hb dX10_hung_12 (by decide) ?_
      refine lv_icmp_ne (tgt := 24) hx hb dX10_hung_13 (by decide) (fun c3 => ?_) (fun c3 => ?_)
      · replace hF := it_f hF c3
        refine lv_aload_n hx hb dX10_hung_24 rfl (lv_at hl 0 rfl) ?_
        refine xr_getR hx hb hts iw_X10_hung_10 hown hK hP hF 10 9 rfl (by decide) (by decide +kernel) ⟨rfl, rfl, rfl⟩ dX10_hung_25 (fun v4 hF => ?_)
        refine xr_getI hx hb hts iw_X10_hung_2 hown hK hP hF 2 4 rfl (by decide) (by decide +kernel) ⟨rfl, rfl, rfl⟩ dX10_hung_28 (fun v5 hF => ?_)
        refine lv_if_ne (tgt := 37) hx hb dX10_hung_31 (by decide) (fun c6 => ?_) (fun c6 => ?_)
        · replace hF := it_f hF c6
          refine lv_iload_n hx hb dX10_hung_37 rfl (lv_at hl 1 rfl) ?_
          by_cases c7 : a1 = 0
          · replace hF := it_t hF c7
            refine lv_lookup (off := 26) (tgt := 64) hx hb dX10_hung_38 (by decide) (by rw [c7]; decide) (by decide) ?_
            refine lv_aload_n hx hb dX10_hung_64 rfl (lv_at hl 0 rfl) ?_
            refine xr_getR hx hb hts iw_X10_hung_10 hown hK hP hF 10 9 rfl (by decide) (by decide +kernel) ⟨rfl, rfl, rfl⟩ dX10_hung_65 (fun v8 hF => ?_)
            refine xr_getI hx hb hts iw_X10_hung_2 hown hK hP hF 2 2 rfl (by decide) (by decide +kernel) ⟨rfl, rfl, rfl⟩ dX10_hung_68 (fun v9 hF => ?_)
            cases hF
            exact W.iret hx hb hr (fun t ht hW => ⟨rfl, by rw [ht]; exact hP, hS.F ht⟩) hS.2.2 dX10_hung_71 hlk
          replace hF := it_f hF c7
          by_cases c10 : a1 = 1
          · replace hF := it_t hF c10
            refine lv_lookup (off := 34) (tgt := 72) hx hb dX10_hung_38 (by decide) (by rw [c10]; decide) (by decide) ?_
            refine lv_aload_n hx hb dX10_hung_72 rfl (lv_at hl 0 rfl) ?_
            refine xr_getR hx hb hts iw_X10_hung_10 hown hK hP hF 10 9 rfl (by decide) (by decide +kernel) ⟨rfl, rfl, rfl⟩ dX10_hung_73 (fun v11 hF => ?_)
            refine xr_getR hx hb hts iw_X10_hung_2 hown hK hP hF 2 0 rfl (by decide) (by decide +kernel) ⟨rfl, rfl, rfl⟩ dX10_hung_76 (fun v12 hF => ?_)
            refine xr_getI hx hb hts iw_X10_hung_3 hown hK hP hF 3 1 rfl (by decide) (by decide +kernel) ⟨rfl, rfl, rfl⟩ dX10_hung_79 (fun v13 hF => ?_)
            cases hF
            exact W.iret hx hb hr (fun t ht hW => ⟨rfl, by rw [ht]; exact hP, hS.F ht⟩) hS.2.2 dX10_hung_82 hlk
          replace hF := it_f hF c10
          refine lv_lookup (off := 45) (tgt := 83) hx hb dX10_hung_38 (by decide) (show Op.lookupswitch.offset [(0, 26), (1, 34)] 45 _ = _ from by rw [lv_osw c7 (by decide), lv_osw c10 (by decide)]; rfl) (by decide) ?_
          refine lv_aload_n hx hb dX10_hung_83 rfl (lv_at hl 0 rfl) ?_
          refine xr_getR hx hb hts iw_X10_hung_10 hown hK hP hF 10 9 rfl (by decide) (by decide +kernel) ⟨rfl, rfl, rfl⟩ dX10_hung_84 (fun v14 hF => ?_)
          refine xr_getI hx hb hts iw_X10_hung_2 hown hK hP hF 2 3 rfl (by decide) (by decide +kernel) ⟨rfl, rfl, rfl⟩ dX10_hung_87 (fun v15 hF => ?_)
          cases hF
          exact W.iret hx hb hr (fun t ht hW => ⟨rfl, by rw [ht]; exact hP, hS.F ht⟩) hS.2.2 dX10_hung_90 hlk
        · replace hF := it_t hF c6
          refine lv_bipush (v := (-2)) hx hb dX10_hung_34 (by decide) ?_
          cases hF
          exact W.iret hx hb hr (fun t ht hW => ⟨rfl, by rw [ht]; exact hP, hS.F ht⟩) hS.2.2 dX10_hung_36 hlk
      · replace hF := it_t hF c3
        refine lv_aload_n hx hb dX10_hung_16 rfl (lv_at hl 0 rfl) ?_
        refine xr_getR hx hb hts iw_X10_hung_10 hown hK hP hF 10 9 rfl (by decide) (by decide +kernel) ⟨rfl, rfl, rfl⟩ dX10_hung_17 (fun v16 hF => ?_)
        refine xr_getI hx hb hts iw_X10_hung_2 hown hK hP hF 2 4 rfl (by decide) (by decide +kernel) ⟨rfl, rfl, rfl⟩ dX10_hung_20 (fun v17 hF => ?_)
        cases hF
        exact W.iret hx hb hr (fun t ht hW => ⟨rfl, by rw [ht]; exact hP, hS.F ht⟩) hS.2.2 dX10_hung_23 hlk
    · replace hF := it_f hF c2
      refine lv_iconst (v := (-1)) hx hb dX10_hung_9 (by decide) ?_
      cases hF
      exact W.iret hx hb hr (fun t ht hW => ⟨rfl, by rw [ht]; exact hP, hS.F ht⟩) hS.2.2 dX10_hung_10 hlk
/-! X10_context -/
theorem iw_X10_context_1 : ∀ w ∈ u_ws RX1 TX1 4, w ∈ wsX10_context := by decide +kernel
theorem iw_X10_context_3 : ∀ w ∈ u_ws RX3 TX3 2, w ∈ wsX10_context := by decide +kernel
theorem iw_X10_context_10 : ∀ w ∈ u_ws RX10 TX10 12, w ∈ wsX10_context := by decide +kernel
abbrev rm_X10_context : Room := { frames := 1, cells := 0, slots := 0, locals := 20 }
theorem gk_X10_context {M : Mm} {a0 : Nat} {a1 : Int32} {a2 : Int32} {r : Int32} (h : f_X10_context M a0 a1 a2 = some r) : mK M a0 = 11 := by
  unfold f_X10_context at h
  exact (if_some h).1
set_option maxHeartbeats 4000000 in
set_option maxRecDepth 100000 in
theorem ct_X10_context (l : Launch) (b0 : Nat) (D : va_G) (cy : Nat → ClassId) (M : Mm) (a0 : Nat) (a1 : Int32) (a2 : Int32) (r : Int32) (hF : f_X10_context M a0 a1 a2 = some r) : Met l yX10_context wsX10_context rm_X10_context (va_Pc [.ref a0, .int a1, .int a2] (Pm b0 D cy M)) (Qm b0 D cy M (some (.int r))) 0 0 (BA b0) := by
  refine ct_of [.ref a0, .int a1, .int a2] (by decide) rfl ?_
  intro p e s m below meth c CX hP
  obtain ⟨hx, hb, hr, hml, hown0, hts, hlk, hK, hN, hb0, hnm⟩ := id CX
  have hown : s.vm.findClass RX10 = some m.cls := hown0
  have hS : va_S (BA b0) s.heap s.heap [] := va_S.rf
  have hl := lv_entry [.ref a0, .int a1, .int a2] (n := 4) (Nat.le_of_ble_eq_true rfl)
  generalize (lg_sl [.ref a0, .int a1, .int a2] ++ List.replicate (4 - (lg_sl [.ref a0, .int a1, .int a2]).length) Slot.unset).toArray = ls at hl ⊢
  have hl : lv_has ls 4 [(0, .ref a0), (1, .int a1), (2, .int a2)] := hl
  unfold f_X10_context at hF
  replace hF := (if_some hF).2
  refine lv_iload_n hx hb dX10_context_0 rfl (lv_at hl 1 rfl) ?_
  obtain ⟨v2, h1, hF⟩ := ob_some hF
  refine xr_call1 (va_runS (As := [.int a1]) (rest := []) ⟨hx, hb, hml, hown, hts⟩ (ct_X10_isFlow l b0 D cy M a1 v2 h1) (va_cwS 1 hts gX10_context_X10_isFlow rfl rfl rfl (by decide +kernel) ⟨Nat.le_of_ble_eq_true rfl, Nat.le_of_ble_eq_true rfl⟩) (xp_S hP hK hN hS hb0) rfl rfl hl.1 rfl (lv_room (Nat.le_of_ble_eq_true rfl)) dX10_context_1 ⟨Nat.le_of_ble_eq_true rfl, Nat.le_of_ble_eq_true rfl⟩) hS (fun H locs hP hS => ?_)
  refine lv_if_eq (tgt := 16) hx hb dX10_context_4 (by decide) (fun c3 => ?_) (fun c3 => ?_)
  · replace hF := it_t hF c3
    refine lv_iconst (v := (-1)) hx hb dX10_context_16 (by decide) ?_
    cases hF
    exact W.iret hx hb hr (fun t ht hW => ⟨rfl, by rw [ht]; exact hP, hS.F ht⟩) hS.2.2 dX10_context_17 hlk
  · replace hF := it_f hF c3
    refine lv_iload_n hx hb dX10_context_7 rfl (lv_at hl 2 rfl) ?_
    refine lv_if_lt (tgt := 16) hx hb dX10_context_8 (by decide) (fun c4 => ?_) (fun c4 => ?_)
    · replace hF := it_t hF c4
      refine lv_iconst (v := (-1)) hx hb dX10_context_16 (by decide) ?_
      cases hF
      exact W.iret hx hb hr (fun t ht hW => ⟨rfl, by rw [ht]; exact hP, hS.F ht⟩) hS.2.2 dX10_context_17 hlk
    · replace hF := it_f hF c4
      refine lv_iload_n hx hb dX10_context_11 rfl (lv_at hl 2 rfl) ?_
      refine lv_iconst (v := 2) hx hb dX10_context_12 (by decide) ?_
      refine lv_icmp_le (tgt := 18) hx hb dX10_context_13 (by decide) (fun c5 => ?_) (fun c5 => ?_)
      · replace hF := it_t hF c5
        refine lv_aload_n hx hb dX10_context_18 rfl (lv_at hl 0 rfl) ?_
        refine xr_getR hx hb hts iw_X10_context_10 hown hK hP hF 10 4 rfl (by decide) (by decide +kernel) ⟨rfl, rfl, rfl⟩ dX10_context_19 (fun v6 hF => ?_)
        refine lv_iload_n hx hb dX10_context_22 rfl (lv_at hl 1 rfl) ?_
        refine xr_aR hx hb hK hP hF 3 rfl (by decide) dX10_context_23 (fun v7 hF => ?_)
        refine lv_astore_n (lv' := [(3, .ref v7), (0, .ref a0), (1, .int a1), (2, .int a2)]) hx hb dX10_context_24 rfl hl (by decide) (by first | rfl | simp [cat_rf]) (fun ls hl => ?_)
        refine lv_iload_n hx hb dX10_context_25 rfl (lv_at hl 3 rfl) ?_
        refine lv_if_ne (tgt := 42) hx hb dX10_context_26 (by decide) (fun c8 => ?_) (fun c8 => ?_)
        · replace hF := it_f hF c8
          refine lv_aload_n hx hb dX10_context_42 rfl (lv_at hl 0 rfl) ?_
          refine xr_getI hx hb hts iw_X10_context_1 hown hK hP hF 1 3 rfl (by decide) (by decide +kernel) ⟨rfl, rfl, rfl⟩ dX10_context_43 (fun v9 hF => ?_)
          refine lv_if_ne (tgt := 52) hx hb dX10_context_46 (by decide) (fun c10 => ?_) (fun c10 => ?_)
          · replace hF := it_f hF c10
            refine lv_iload_n hx hb dX10_context_52 rfl (lv_at hl 3 rfl) ?_
            refine lv_iconst (v := 1) hx hb dX10_context_53 (by decide) ?_
            refine lv_icmp_ne (tgt := 67) hx hb dX10_context_54 (by decide) (fun c11 => ?_) (fun c11 => ?_)
            · replace hF := it_f hF c11
              refine lv_aload_n hx hb dX10_context_67 rfl (lv_at hl 0 rfl) ?_
              refine xr_getI hx hb hts iw_X10_context_1 hown hK hP hF 1 2 rfl (by decide) (by decide +kernel) ⟨rfl, rfl, rfl⟩ dX10_context_68 (fun v12 hF => ?_)
              cases hF
              exact W.iret hx hb hr (fun t ht hW => ⟨rfl, by rw [ht]; exact hP, hS.F ht⟩) hS.2.2 dX10_context_71 hlk
            · replace hF := it_t hF c11
              refine lv_aload_n hx hb dX10_context_57 rfl (lv_at hl 0 rfl) ?_
              refine xr_getR hx hb hts iw_X10_context_1 hown hK hP hF 1 0 rfl (by decide) (by decide +kernel) ⟨rfl, rfl, rfl⟩ dX10_context_58 (fun v13 hF => ?_)
              refine xr_getI hx hb hts iw_X10_context_3 hown hK hP hF 3 1 rfl (by decide) (by decide +kernel) ⟨rfl, rfl, rfl⟩ dX10_context_61 (fun v14 hF => ?_)
              refine lv_goto (tgt := 71) hx hb dX10_context_64 (by decide) ?_
              cases hF
              exact W.iret hx hb hr (fun t ht hW => ⟨rfl, by rw [ht]; exact hP, hS.F ht⟩) hS.2.2 dX10_context_71 hlk
          · replace hF := it_t hF c10
            refine lv_bipush (v := (-2)) hx hb dX10_context_49 (by decide) ?_
            cases hF
            exact W.iret hx hb hr (fun t ht hW => ⟨rfl, by rw [ht]; exact hP, hS.F ht⟩) hS.2.2 dX10_context_51 hlk
        · replace hF := it_t hF c8
          refine lv_aload_n hx hb dX10_context_29 rfl (lv_at hl 0 rfl) ?_
          refine xr_getI hx hb hts iw_X10_context_1 hown hK hP hF 1 3 rfl (by decide) (by decide +kernel) ⟨rfl, rfl, rfl⟩ dX10_context_30 (fun v15 hF => ?_)
          refine lv_if_eq (tgt := 40) hx hb dX10_context_33 (by decide) (fun c16 => ?_) (fun c16 => ?_)
          · replace hF := it_t hF c16
            refine lv_iconst (v := 0) hx hb dX10_context_40 (by decide) ?_
            cases hF
            exact W.iret hx hb hr (fun t ht hW => ⟨rfl, by rw [ht]; exact hP, hS.F ht⟩) hS.2.2 dX10_context_41 hlk
          · replace hF := it_f hF c16
            refine lv_iconst (v := 1) hx hb dX10_context_36 (by decide) ?_
            refine lv_goto (tgt := 41) hx hb dX10_context_37 (by decide) ?_
            cases hF
            exact W.iret hx hb hr (fun t ht hW => ⟨rfl, by rw [ht]; exact hP, hS.F ht⟩) hS.2.2 dX10_context_41 hlk
      · replace hF := it_f hF c5
        refine lv_iconst (v := (-1)) hx hb dX10_context_16 (by decide) ?_
        cases hF
        exact W.iret hx hb hr (fun t ht hW => ⟨rfl, by rw [ht]; exact hP, hS.F ht⟩) hS.2.2 dX10_context_17 hlk
/-! X10_known -/
theorem iw_X10_known_1 : ∀ w ∈ u_ws RX1 TX1 4, w ∈ wsX10_known := by decide +kernel
theorem iw_X10_known_3 : ∀ w ∈ u_ws RX3 TX3 2, w ∈ wsX10_known := by decide +kernel
theorem iw_X10_known_10 : ∀ w ∈ u_ws RX10 TX10 12, w ∈ wsX10_known := by decide +kernel
abbrev rm_X10_known : Room := { frames := 1, cells := 0, slots := 0, locals := 21 }
theorem gk_X10_known {M : Mm} {a0 : Nat} {a1 : Int32} {a2 : Int32} {a3 : Int32} {r : Int64} (h : f_X10_known M a0 a1 a2 a3 = some r) : mK M a0 = 11 := by
  unfold f_X10_known at h
  exact (if_some h).1
set_option maxHeartbeats 4000000 in
set_option maxRecDepth 100000 in
theorem ct_X10_known (l : Launch) (b0 : Nat) (D : va_G) (cy : Nat → ClassId) (M : Mm) (a0 : Nat) (a1 : Int32) (a2 : Int32) (a3 : Int32) (r : Int64) (hF : f_X10_known M a0 a1 a2 a3 = some r) : Met l yX10_known wsX10_known rm_X10_known (va_Pc [.ref a0, .int a1, .int a2, .int a3] (Pm b0 D cy M)) (Qm b0 D cy M (some (.long r))) 0 0 (BA b0) := by
  refine ct_of [.ref a0, .int a1, .int a2, .int a3] (by decide) rfl ?_
  intro p e s m below meth c CX hP
  obtain ⟨hx, hb, hr, hml, hown0, hts, hlk, hK, hN, hb0, hnm⟩ := id CX
  have hown : s.vm.findClass RX10 = some m.cls := hown0
  have hS : va_S (BA b0) s.heap s.heap [] := va_S.rf
  have hl := lv_entry [.ref a0, .int a1, .int a2, .int a3] (n := 5) (Nat.le_of_ble_eq_true rfl)
  generalize (lg_sl [.ref a0, .int a1, .int a2, .int a3] ++ List.replicate (5 - (lg_sl [.ref a0, .int a1, .int a2, .int a3]).length) Slot.unset).toArray = ls at hl ⊢
  have hl : lv_has ls 5 [(0, .ref a0), (1, .int a1), (2, .int a2), (3, .int a3)] := hl
  unfold f_X10_known at hF
  replace hF := (if_some hF).2
  refine lv_iload_n hx hb dX10_known_0 rfl (lv_at hl 1 rfl) ?_
  obtain ⟨v2, h1, hF⟩ := ob_some hF
  refine xr_call1 (va_runS (As := [.int a1]) (rest := []) ⟨hx, hb, hml, hown, hts⟩ (ct_X10_isFlow l b0 D cy M a1 v2 h1) (va_cwS 1 hts gX10_known_X10_isFlow rfl rfl rfl (by decide +kernel) ⟨Nat.le_of_ble_eq_true rfl, Nat.le_of_ble_eq_true rfl⟩) (xp_S hP hK hN hS hb0) rfl rfl hl.1 rfl (lv_room (Nat.le_of_ble_eq_true rfl)) dX10_known_1 ⟨Nat.le_of_ble_eq_true rfl, Nat.le_of_ble_eq_true rfl⟩) hS (fun H locs hP hS => ?_)
  refine lv_if_eq (tgt := 18) hx hb dX10_known_4 (by decide) (fun c3 => ?_) (fun c3 => ?_)
  · replace hF := it_t hF c3
    refine lv_ldc2 (v := (-1)) hx hb hown (hts (.constantLong RX10 99 (-1)) (by decide +kernel)) dX10_known_18 ?_
    cases hF
    exact W.lret hx hb hr (fun t ht hW => ⟨rfl, by rw [ht]; exact hP, hS.F ht⟩) hS.2.2 dX10_known_21 hlk
  · replace hF := it_f hF c3
    refine lv_aload_n hx hb dX10_known_7 rfl (lv_at hl 0 rfl) ?_
    refine xr_getR hx hb hts iw_X10_known_10 hown hK hP hF 10 1 rfl (by decide) (by decide +kernel) ⟨rfl, rfl, rfl⟩ dX10_known_8 (fun v4 hF => ?_)
    refine lv_iload_n hx hb dX10_known_11 rfl (lv_at hl 2 rfl) ?_
    obtain ⟨v6, h5, hF⟩ := ob_some hF
    refine xr_call1 (va_runV (As := [.int a2]) (rest := []) ⟨hx, hb, hml, hown, hts⟩ (ct_X6_has l b0 D cy M v4 a2 v6 h5) (cwV 1 hts gX10_known_X6_has rfl rfl rfl (by decide +kernel) ⟨Nat.le_of_ble_eq_true rfl, Nat.le_of_ble_eq_true rfl⟩) (xp_V hP hK hN hS hb0 6 rfl (gk_X6_has h5)) rfl rfl hl.1 rfl (lv_room (Nat.le_of_ble_eq_true rfl)) dX10_known_12 ⟨Nat.le_of_ble_eq_true rfl, Nat.le_of_ble_eq_true rfl⟩) hS (fun H locs hP hS => ?_)
    refine lv_if_ne (tgt := 22) hx hb dX10_known_15 (by decide) (fun c7 => ?_) (fun c7 => ?_)
    · replace hF := it_f hF c7
      refine lv_aload_n hx hb dX10_known_22 rfl (lv_at hl 0 rfl) ?_
      refine xr_getR hx hb hts iw_X10_known_10 hown hK hP hF 10 4 rfl (by decide) (by decide +kernel) ⟨rfl, rfl, rfl⟩ dX10_known_23 (fun v8 hF => ?_)
      refine lv_iload_n hx hb dX10_known_26 rfl (lv_at hl 1 rfl) ?_
      refine xr_aR hx hb hK hP hF 3 rfl (by decide) dX10_known_27 (fun v9 hF => ?_)
      refine lv_astore (lv' := [(4, .ref v9), (0, .ref a0), (1, .int a1), (2, .int a2), (3, .int a3)]) hx hb dX10_known_28 hl (by decide) (by first | rfl | simp [cat_rf]) (fun ls hl => ?_)
      refine lv_aload hx hb dX10_known_30 (lv_at hl 0 rfl) ?_
      refine xr_getI hx hb hts iw_X10_known_1 hown hK hP hF 1 3 rfl (by decide) (by decide +kernel) ⟨rfl, rfl, rfl⟩ dX10_known_32 (fun v10 hF => ?_)
      refine lv_if_ne (tgt := 42) hx hb dX10_known_35 (by decide) (fun c11 => ?_) (fun c11 => ?_)
      · replace hF := it_f hF c11
        refine lv_iload_n hx hb dX10_known_42 rfl (lv_at hl 4 rfl) ?_
        refine lv_if_eq (tgt := 57) hx hb dX10_known_43 (by decide) (fun c12 => ?_) (fun c12 => ?_)
        · replace hF := it_t hF c12
          refine lv_aload hx hb dX10_known_57 (lv_at hl 0 rfl) ?_
          refine xr_getR hx hb hts iw_X10_known_1 hown hK hP hF 1 0 rfl (by decide) (by decide +kernel) ⟨rfl, rfl, rfl⟩ dX10_known_59 (fun v13 hF => ?_)
          refine xr_getR hx hb hts iw_X10_known_3 hown hK hP hF 3 0 rfl (by decide) (by decide +kernel) ⟨rfl, rfl, rfl⟩ dX10_known_62 (fun v14 hF => ?_)
          refine lv_iload_n hx hb dX10_known_65 rfl (lv_at hl 3 rfl) ?_
          refine xr_aJ hx hb hK hP hF dX10_known_66 (fun v15 hF => ?_)
          cases hF
          exact W.lret hx hb hr (fun t ht hW => ⟨rfl, by rw [ht]; exact hP, hS.F ht⟩) hS.2.2 dX10_known_67 hlk
        · replace hF := it_f hF c12
          refine lv_aload hx hb dX10_known_46 (lv_at hl 0 rfl) ?_
          refine xr_getR hx hb hts iw_X10_known_1 hown hK hP hF 1 1 rfl (by decide) (by decide +kernel) ⟨rfl, rfl, rfl⟩ dX10_known_48 (fun v16 hF => ?_)
          refine lv_iload_n hx hb dX10_known_51 rfl (lv_at hl 3 rfl) ?_
          refine xr_aI hx hb hK hP hF dX10_known_52 (fun v17 hF => ?_)
          refine lv_i2l hx hb dX10_known_53 rfl ?_
          refine lv_goto (tgt := 67) hx hb dX10_known_54 (by decide) ?_
          cases hF
          exact W.lret hx hb hr (fun t ht hW => ⟨rfl, by rw [ht]; exact hP, hS.F ht⟩) hS.2.2 dX10_known_67 hlk
      · replace hF := it_t hF c11
        refine lv_ldc2 (v := (-2)) hx hb hown (hts (.constantLong RX10 245 (-2)) (by decide +kernel)) dX10_known_38 ?_
        cases hF
        exact W.lret hx hb hr (fun t ht hW => ⟨rfl, by rw [ht]; exact hP, hS.F ht⟩) hS.2.2 dX10_known_41 hlk
    · replace hF := it_t hF c7
      refine lv_ldc2 (v := (-1)) hx hb hown (hts (.constantLong RX10 99 (-1)) (by decide +kernel)) dX10_known_18 ?_
      cases hF
      exact W.lret hx hb hr (fun t ht hW => ⟨rfl, by rw [ht]; exact hP, hS.F ht⟩) hS.2.2 dX10_known_21 hlk
/-! X10_squeezer -/
theorem iw_X10_squeezer_9 : ∀ w ∈ u_ws RX9 TX9 7, w ∈ wsX10_squeezer := by decide +kernel
theorem iw_X10_squeezer_10 : ∀ w ∈ u_ws RX10 TX10 12, w ∈ wsX10_squeezer := by decide +kernel
abbrev rm_X10_squeezer : Room := { frames := 3, cells := 0, slots := 0, locals := 63 }
theorem gk_X10_squeezer {M : Mm} {a0 : Nat} {a1 : Int32} {a2 : Int32} {r : Int32} (h : f_X10_squeezer M a0 a1 a2 = some r) : mK M a0 = 11 := by
  unfold f_X10_squeezer at h
  exact (if_some h).1
set_option maxHeartbeats 4000000 in
set_option maxRecDepth 100000 in
theorem ct_X10_squeezer (l : Launch) (b0 : Nat) (D : va_G) (cy : Nat → ClassId) (M : Mm) (a0 : Nat) (a1 : Int32) (a2 : Int32) (r : Int32) (hF : f_X10_squeezer M a0 a1 a2 = some r) : Met l yX10_squeezer wsX10_squeezer rm_X10_squeezer (va_Pc [.ref a0, .int a1, .int a2] (Pm b0 D cy M)) (Qm b0 D cy M (some (.int r))) 0 0 (BA b0) := by
  refine ct_of [.ref a0, .int a1, .int a2] (by decide) rfl ?_
  intro p e s m below meth c CX hP
  obtain ⟨hx, hb, hr, hml, hown0, hts, hlk, hK, hN, hb0, hnm⟩ := id CX
  have hown : s.vm.findClass RX10 = some m.cls := hown0
  have hS : va_S (BA b0) s.heap s.heap [] := va_S.rf
  have hl := lv_entry [.ref a0, .int a1, .int a2] (n := 4) (Nat.le_of_ble_eq_true rfl)
  generalize (lg_sl [.ref a0, .int a1, .int a2] ++ List.replicate (4 - (lg_sl [.ref a0, .int a1, .int a2]).length) Slot.unset).toArray = ls at hl ⊢
  have hl : lv_has ls 4 [(0, .ref a0), (1, .int a1), (2, .int a2)] := hl
  unfold f_X10_squeezer at hF
  replace hF := (if_some hF).2
  refine lv_iload_n hx hb dX10_squeezer_0 rfl (lv_at hl 1 rfl) ?_
  obtain ⟨v2, h1, hF⟩ := ob_some hF
  refine xr_call1 (va_runS (As := [.int a1]) (rest := []) ⟨hx, hb, hml, hown, hts⟩ (ct_X10_isFlow l b0 D cy M a1 v2 h1) (va_cwS 1 hts gX10_squeezer_X10_isFlow rfl rfl rfl (by decide +kernel) ⟨Nat.le_of_ble_eq_true rfl, Nat.le_of_ble_eq_true rfl⟩) (xp_S hP hK hN hS hb0) rfl rfl hl.1 rfl (lv_room (Nat.le_of_ble_eq_true rfl)) dX10_squeezer_1 ⟨Nat.le_of_ble_eq_true rfl, Nat.le_of_ble_eq_true rfl⟩) hS (fun H locs hP hS => ?_)
  refine lv_if_ne (tgt := 9) hx hb dX10_squeezer_4 (by decide) (fun c3 => ?_) (fun c3 => ?_)
  · replace hF := it_f hF c3
    refine lv_aload_n hx hb dX10_squeezer_9 rfl (lv_at hl 0 rfl) ?_
    refine xr_getR hx hb hts iw_X10_squeezer_10 hown hK hP hF 10 3 rfl (by decide) (by decide +kernel) ⟨rfl, rfl, rfl⟩ dX10_squeezer_10 (fun v4 hF => ?_)
    refine lv_iload_n hx hb dX10_squeezer_13 rfl (lv_at hl 1 rfl) ?_
    refine xr_aR hx hb hK hP hF 7 rfl (by decide) dX10_squeezer_14 (fun v5 hF => ?_)
    refine lv_astore_n (lv' := [(3, .ref v5), (0, .ref a0), (1, .int a1), (2, .int a2)]) hx hb dX10_squeezer_15 rfl hl (by decide) (by first | rfl | simp [cat_rf]) (fun ls hl => ?_)
    refine lv_iload_n hx hb dX10_squeezer_16 rfl (lv_at hl 3 rfl) ?_
    by_cases c6 : a2 = 0
    · replace hF := it_t hF c6
      refine lv_tableIn (off := 35) (tgt := 52) hx hb dX10_squeezer_17 (by rw [c6]; decide) (by rw [c6]; decide) (by rw [c6]; decide) (by decide) ?_
      refine lv_aload_n hx hb dX10_squeezer_52 rfl (lv_at hl 0 rfl) ?_
      refine xr_getI hx hb hts iw_X10_squeezer_9 hown hK hP hF 9 1 rfl (by decide) (by decide +kernel) ⟨rfl, rfl, rfl⟩ dX10_squeezer_53 (fun v7 hF => ?_)
      cases hF
      exact W.iret hx hb hr (fun t ht hW => ⟨rfl, by rw [ht]; exact hP, hS.F ht⟩) hS.2.2 dX10_squeezer_56 hlk
    replace hF := it_f hF c6
    by_cases c8 : a2 = 1
    · replace hF := it_t hF c8
      refine lv_tableIn (off := 40) (tgt := 57) hx hb dX10_squeezer_17 (by rw [c8]; decide) (by rw [c8]; decide) (by rw [c8]; decide) (by decide) ?_
      refine lv_aload_n hx hb dX10_squeezer_57 rfl (lv_at hl 0 rfl) ?_
      refine xr_getI hx hb hts iw_X10_squeezer_9 hown hK hP hF 9 2 rfl (by decide) (by decide +kernel) ⟨rfl, rfl, rfl⟩ dX10_squeezer_58 (fun v9 hF => ?_)
      cases hF
      exact W.iret hx hb hr (fun t ht hW => ⟨rfl, by rw [ht]; exact hP, hS.F ht⟩) hS.2.2 dX10_squeezer_61 hlk
    replace hF := it_f hF c8
    by_cases c10 : a2 = 2
    · replace hF := it_t hF c10
      refine lv_tableIn (off := 45) (tgt := 62) hx hb dX10_squeezer_17 (by rw [c10]; decide) (by rw [c10]; decide) (by rw [c10]; decide) (by decide) ?_
      refine lv_aload_n hx hb dX10_squeezer_62 rfl (lv_at hl 0 rfl) ?_
      refine xr_getI hx hb hts iw_X10_squeezer_9 hown hK hP hF 9 4 rfl (by decide) (by decide +kernel) ⟨rfl, rfl, rfl⟩ dX10_squeezer_63 (fun v11 hF => ?_)
      cases hF
      exact W.iret hx hb hr (fun t ht hW => ⟨rfl, by rw [ht]; exact hP, hS.F ht⟩) hS.2.2 dX10_squeezer_66 hlk
    replace hF := it_f hF c10
    by_cases c12 : a2 = 3
    · replace hF := it_t hF c12
      refine lv_tableIn (off := 50) (tgt := 67) hx hb dX10_squeezer_17 (by rw [c12]; decide) (by rw [c12]; decide) (by rw [c12]; decide) (by decide) ?_
      refine lv_aload_n hx hb dX10_squeezer_67 rfl (lv_at hl 0 rfl) ?_
      obtain ⟨v14, h13, hF⟩ := ob_some hF
      refine xr_call1 (va_runV (As := []) (rest := []) ⟨hx, hb, hml, hown, hts⟩ (ct_X9_oldestNumber l b0 D cy M v5 v14 h13) (cwV 0 hts gX10_squeezer_X9_oldestNumber rfl rfl rfl (by decide +kernel) ⟨Nat.le_of_ble_eq_true rfl, Nat.le_of_ble_eq_true rfl⟩) (xp_V hP hK hN hS hb0 9 rfl (gk_X9_oldestNumber h13)) rfl rfl hl.1 rfl (lv_room (Nat.le_of_ble_eq_true rfl)) dX10_squeezer_68 ⟨Nat.le_of_ble_eq_true rfl, Nat.le_of_ble_eq_true rfl⟩) hS (fun H locs hP hS => ?_)
      cases hF
      exact W.iret hx hb hr (fun t ht hW => ⟨rfl, by rw [ht]; exact hP, hS.F ht⟩) hS.2.2 dX10_squeezer_71 hlk
    replace hF := it_f hF c12
    by_cases c15 : a2 = 4
    · replace hF := it_t hF c15
      refine lv_tableIn (off := 55) (tgt := 72) hx hb dX10_squeezer_17 (by rw [c15]; decide) (by rw [c15]; decide) (by rw [c15]; decide) (by decide) ?_
      refine lv_aload_n hx hb dX10_squeezer_72 rfl (lv_at hl 0 rfl) ?_
      refine xr_getI hx hb hts iw_X10_squeezer_9 hown hK hP hF 9 3 rfl (by decide) (by decide +kernel) ⟨rfl, rfl, rfl⟩ dX10_squeezer_73 (fun v16 hF => ?_)
      refine lv_if_eq (tgt := 83) hx hb dX10_squeezer_76 (by decide) (fun c17 => ?_) (fun c17 => ?_)
      · replace hF := it_t hF c17
        refine lv_iconst (v := 0) hx hb dX10_squeezer_83 (by decide) ?_
        cases hF
        exact W.iret hx hb hr (fun t ht hW => ⟨rfl, by rw [ht]; exact hP, hS.F ht⟩) hS.2.2 dX10_squeezer_84 hlk
      · replace hF := it_f hF c17
        refine lv_iconst (v := 1) hx hb dX10_squeezer_79 (by decide) ?_
        refine lv_goto (tgt := 84) hx hb dX10_squeezer_80 (by decide) ?_
        cases hF
        exact W.iret hx hb hr (fun t ht hW => ⟨rfl, by rw [ht]; exact hP, hS.F ht⟩) hS.2.2 dX10_squeezer_84 hlk
    replace hF := it_f hF c15
    refine lv_tableOut (tgt := 85) hx hb dX10_squeezer_17 (by have := lv_neT c6 (by decide : (0 : Int32).toInt = 0); have := lv_neT c8 (by decide : (1 : Int32).toInt = 1); have := lv_neT c10 (by decide : (2 : Int32).toInt = 2); have := lv_neT c12 (by decide : (3 : Int32).toInt = 3); have := lv_neT c15 (by decide : (4 : Int32).toInt = 4); omega) (by decide) ?_
    refine lv_iconst (v := (-1)) hx hb dX10_squeezer_85 (by decide) ?_
    cases hF
    exact W.iret hx hb hr (fun t ht hW => ⟨rfl, by rw [ht]; exact hP, hS.F ht⟩) hS.2.2 dX10_squeezer_86 hlk
  · replace hF := it_t hF c3
    refine lv_iconst (v := (-1)) hx hb dX10_squeezer_7 (by decide) ?_
    cases hF
    exact W.iret hx hb hr (fun t ht hW => ⟨rfl, by rw [ht]; exact hP, hS.F ht⟩) hS.2.2 dX10_squeezer_8 hlk
/-! X10_forget -/
theorem iw_X10_forget_1 : ∀ w ∈ u_ws RX1 TX1 4, w ∈ wsX10_forget := by decide +kernel
theorem iw_X10_forget_9 : ∀ w ∈ u_ws RX9 TX9 7, w ∈ wsX10_forget := by decide +kernel
theorem iw_X10_forget_10 : ∀ w ∈ u_ws RX10 TX10 12, w ∈ wsX10_forget := by decide +kernel
abbrev rm_X10_forget : Room := { frames := 1, cells := 0, slots := 0, locals := 20 }
set_option maxHeartbeats 4000000 in
set_option maxRecDepth 100000 in
theorem nd_X10_forget_63 {p : Program} {l : Launch} {e : Env} {s : State} {m : MethodId} {args : Array Value} {below : List Frame} {meth : Method} {c : Code} {b0 : Nat} {D : va_G} {cy : Nat → ClassId} {M1 : Mm} {r : Int32} (CX : Cx yX10_forget cX10_forget 4 (some .int) wsX10_forget b0 D cy p s m args meth c) : ∀ (M : Mm) (x0 : Nat) (x1 : Int32) (s0 : Int32) (H : Heap) (locs : List Loc) (ls : Array Slot), f_X10_forget_J63 M x0 x1 s0 = some (M1, r) → Hp b0 D cy M H → va_S (BA b0) s.heap H locs → lv_has ls 4 [(0, .ref x0), (1, .int x1)] → W p l e rm_X10_forget s m args below meth c H locs 0 0 (MQ below (Qm b0 D cy M1 (some (.int r))) args s 0 0 (BA b0)) (F0 m 63 ls [.int s0]) := by
  obtain ⟨hx, hb, hr, hml, hown0, hts, hlk, hK, hN, hb0, hnm⟩ := id CX
  have hown : s.vm.findClass RX10 = some m.cls := hown0
  intro M x0 x1 s0 H locs ls hF hP hS hl
  unfold f_X10_forget_J63 at hF
  refine lv_istore_n (lv' := [(3, .int s0), (0, .ref x0), (1, .int x1)]) hx hb dX10_forget_63 rfl hl (by decide) (by first | rfl | simp [cat_rf]) (fun ls hl => ?_)
  refine lv_aload_n hx hb dX10_forget_64 rfl (lv_at hl 1 rfl) ?_
  refine xr_getR hx hb hts iw_X10_forget_10 hown hK hP hF 10 3 rfl (by decide) (by decide +kernel) ⟨rfl, rfl, rfl⟩ dX10_forget_65 (fun v1 hF => ?_)
  refine lv_iload_n hx hb dX10_forget_68 rfl (lv_at hl 2 rfl) ?_
  refine xr_aR hx hb hK hP hF 7 rfl (by decide) dX10_forget_69 (fun v2 hF => ?_)
  refine lv_iconst (v := 0) hx hb dX10_forget_70 (by decide) ?_
  refine xr_putI hx hb hts iw_X10_forget_9 hown hK hP hS hF 9 4 rfl (by decide) tyX9 tyX9_ok nmX9 (by decide +kernel) (Or.inl rfl) rfl ⟨rfl, rfl, rfl⟩ dX10_forget_71 (fun M3 H locs hF hP hS => ?_)
  refine lv_aload_n hx hb dX10_forget_74 rfl (lv_at hl 1 rfl) ?_
  refine xr_getR hx hb hts iw_X10_forget_10 hown hK hP hF 10 3 rfl (by decide) (by decide +kernel) ⟨rfl, rfl, rfl⟩ dX10_forget_75 (fun v4 hF => ?_)
  refine lv_iload_n hx hb dX10_forget_78 rfl (lv_at hl 2 rfl) ?_
  refine xr_aR hx hb hK hP hF 7 rfl (by decide) dX10_forget_79 (fun v5 hF => ?_)
  refine lv_iconst (v := 1) hx hb dX10_forget_80 (by decide) ?_
  refine xr_putZ hx hb hts iw_X10_forget_9 hown hK hP hS hF 9 3 rfl (by decide) tyX9 tyX9_ok nmX9 (by decide +kernel) (Or.inl rfl) rfl ⟨rfl, rfl, rfl⟩ dX10_forget_81 (fun M6 H locs hF hP hS => ?_)
  refine lv_iload_n hx hb dX10_forget_84 rfl (lv_at hl 0 rfl) ?_
  refine lv_if_eq (tgt := 92) hx hb dX10_forget_85 (by decide) (fun c7 => ?_) (fun c7 => ?_)
  · replace hF := it_t hF c7
    refine lv_iconst (v := 0) hx hb dX10_forget_92 (by decide) ?_
    cases hF
    exact W.iret hx hb hr (fun t ht hW => ⟨rfl, by rw [ht]; exact hP, hS.F ht⟩) hS.2.2 dX10_forget_93 hlk
  · replace hF := it_f hF c7
    refine lv_iconst (v := 1) hx hb dX10_forget_88 (by decide) ?_
    refine lv_goto (tgt := 93) hx hb dX10_forget_89 (by decide) ?_
    cases hF
    exact W.iret hx hb hr (fun t ht hW => ⟨rfl, by rw [ht]; exact hP, hS.F ht⟩) hS.2.2 dX10_forget_93 hlk
theorem gk_X10_forget {M : Mm} {a0 : Nat} {a1 : Int32} {a2 : Int32} {r : (Mm × Int32)} (h : f_X10_forget M a0 a1 a2 = some r) : mK M a0 = 11 := by
  unfold f_X10_forget at h
  exact (if_some h).1
set_option maxHeartbeats 4000000 in
set_option maxRecDepth 100000 in
theorem ct_X10_forget (l : Launch) (b0 : Nat) (D : va_G) (cy : Nat → ClassId) (M : Mm) (a0 : Nat) (a1 : Int32) (a2 : Int32) (M1 : Mm) (r : Int32) (hF : f_X10_forget M a0 a1 a2 = some (M1, r)) : Met l yX10_forget wsX10_forget rm_X10_forget (va_Pc [.ref a0, .int a1, .int a2] (Pm b0 D cy M)) (Qm b0 D cy M1 (some (.int r))) 0 0 (BA b0) := by
  refine ct_of [.ref a0, .int a1, .int a2] (by decide) rfl ?_
  intro p e s m below meth c CX hP
  obtain ⟨hx, hb, hr, hml, hown0, hts, hlk, hK, hN, hb0, hnm⟩ := id CX
  have hown : s.vm.findClass RX10 = some m.cls := hown0
  have hS : va_S (BA b0) s.heap s.heap [] := va_S.rf
  have hl := lv_entry [.ref a0, .int a1, .int a2] (n := 4) (Nat.le_of_ble_eq_true rfl)
  generalize (lg_sl [.ref a0, .int a1, .int a2] ++ List.replicate (4 - (lg_sl [.ref a0, .int a1, .int a2]).length) Slot.unset).toArray = ls at hl ⊢
  have hl : lv_has ls 4 [(0, .ref a0), (1, .int a1), (2, .int a2)] := hl
  unfold f_X10_forget at hF
  replace hF := (if_some hF).2
  refine lv_iload_n hx hb dX10_forget_0 rfl (lv_at hl 1 rfl) ?_
  obtain ⟨v2, h1, hF⟩ := ob_some hF
  refine xr_call1 (va_runS (As := [.int a1]) (rest := []) ⟨hx, hb, hml, hown, hts⟩ (ct_X10_isFlow l b0 D cy M a1 v2 h1) (va_cwS 1 hts gX10_forget_X10_isFlow rfl rfl rfl (by decide +kernel) ⟨Nat.le_of_ble_eq_true rfl, Nat.le_of_ble_eq_true rfl⟩) (xp_S hP hK hN hS hb0) rfl rfl hl.1 rfl (lv_room (Nat.le_of_ble_eq_true rfl)) dX10_forget_1 ⟨Nat.le_of_ble_eq_true rfl, Nat.le_of_ble_eq_true rfl⟩) hS (fun H locs hP hS => ?_)
  refine lv_if_eq (tgt := 16) hx hb dX10_forget_4 (by decide) (fun c3 => ?_) (fun c3 => ?_)
  · replace hF := it_t hF c3
    refine lv_iconst (v := (-1)) hx hb dX10_forget_16 (by decide) ?_
    cases hF
    exact W.iret hx hb hr (fun t ht hW => ⟨rfl, by rw [ht]; exact hP, hS.F ht⟩) hS.2.2 dX10_forget_17 hlk
  · replace hF := it_f hF c3
    refine lv_iload_n hx hb dX10_forget_7 rfl (lv_at hl 2 rfl) ?_
    refine lv_if_lt (tgt := 16) hx hb dX10_forget_8 (by decide) (fun c4 => ?_) (fun c4 => ?_)
    · replace hF := it_t hF c4
      refine lv_iconst (v := (-1)) hx hb dX10_forget_16 (by decide) ?_
      cases hF
      exact W.iret hx hb hr (fun t ht hW => ⟨rfl, by rw [ht]; exact hP, hS.F ht⟩) hS.2.2 dX10_forget_17 hlk
    · replace hF := it_f hF c4
      refine lv_iload_n hx hb dX10_forget_11 rfl (lv_at hl 2 rfl) ?_
      refine lv_iconst (v := 1) hx hb dX10_forget_12 (by decide) ?_
      refine lv_icmp_le (tgt := 18) hx hb dX10_forget_13 (by decide) (fun c5 => ?_) (fun c5 => ?_)
      · replace hF := it_t hF c5
        refine lv_iload_n hx hb dX10_forget_18 rfl (lv_at hl 2 rfl) ?_
        refine lv_iconst (v := 1) hx hb dX10_forget_19 (by decide) ?_
        refine lv_icmp_ne (tgt := 46) hx hb dX10_forget_20 (by decide) (fun c6 => ?_) (fun c6 => ?_)
        · replace hF := it_f hF c6
          refine lv_aload_n hx hb dX10_forget_46 rfl (lv_at hl 0 rfl) ?_
          refine xr_getR hx hb hts iw_X10_forget_10 hown hK hP hF 10 3 rfl (by decide) (by decide +kernel) ⟨rfl, rfl, rfl⟩ dX10_forget_47 (fun v7 hF => ?_)
          refine lv_iload_n hx hb dX10_forget_50 rfl (lv_at hl 1 rfl) ?_
          refine xr_aR hx hb hK hP hF 7 rfl (by decide) dX10_forget_51 (fun v8 hF => ?_)
          refine xr_getI hx hb hts iw_X10_forget_9 hown hK hP hF 9 4 rfl (by decide) (by decide +kernel) ⟨rfl, rfl, rfl⟩ dX10_forget_52 (fun v9 hF => ?_)
          refine lv_if_le (tgt := 62) hx hb dX10_forget_55 (by decide) (fun c10 => ?_) (fun c10 => ?_)
          · replace hF := it_t hF c10
            refine lv_iconst (v := 0) hx hb dX10_forget_62 (by decide) ?_
            exact nd_X10_forget_63 CX _ _ _ _ _ _ _ hF hP hS (lv_sub hl [0, 1] rfl)
          · replace hF := it_f hF c10
            refine lv_iconst (v := 1) hx hb dX10_forget_58 (by decide) ?_
            refine lv_goto (tgt := 63) hx hb dX10_forget_59 (by decide) ?_
            exact nd_X10_forget_63 CX _ _ _ _ _ _ _ hF hP hS (lv_sub hl [0, 1] rfl)
        · replace hF := it_t hF c6
          refine lv_aload_n hx hb dX10_forget_23 rfl (lv_at hl 0 rfl) ?_
          refine xr_getR hx hb hts iw_X10_forget_10 hown hK hP hF 10 4 rfl (by decide) (by decide +kernel) ⟨rfl, rfl, rfl⟩ dX10_forget_24 (fun v11 hF => ?_)
          refine lv_iload_n hx hb dX10_forget_27 rfl (lv_at hl 1 rfl) ?_
          refine xr_aR hx hb hK hP hF 3 rfl (by decide) dX10_forget_28 (fun v12 hF => ?_)
          refine xr_getI hx hb hts iw_X10_forget_1 hown hK hP hF 1 3 rfl (by decide) (by decide +kernel) ⟨rfl, rfl, rfl⟩ dX10_forget_29 (fun v13 hF => ?_)
          refine lv_istore_n (lv' := [(3, .int v13), (0, .ref a0), (1, .int a1), (2, .int a2)]) hx hb dX10_forget_32 rfl hl (by decide) (by first | rfl | simp [cat_rf]) (fun ls hl => ?_)
          refine lv_aload_n hx hb dX10_forget_33 rfl (lv_at hl 1 rfl) ?_
          refine xr_getR hx hb hts iw_X10_forget_10 hown hK hP hF 10 4 rfl (by decide) (by decide +kernel) ⟨rfl, rfl, rfl⟩ dX10_forget_34 (fun v14 hF => ?_)
          refine lv_iload_n hx hb dX10_forget_37 rfl (lv_at hl 2 rfl) ?_
          refine xr_aR hx hb hK hP hF 3 rfl (by decide) dX10_forget_38 (fun v15 hF => ?_)
          refine lv_iconst (v := 0) hx hb dX10_forget_39 (by decide) ?_
          refine xr_putZ hx hb hts iw_X10_forget_1 hown hK hP hS hF 1 3 rfl (by decide) tyX1 tyX1_ok nmX1 (by decide +kernel) (Or.inl rfl) rfl ⟨rfl, rfl, rfl⟩ dX10_forget_40 (fun M16 H locs hF hP hS => ?_)
          refine lv_goto (tgt := 84) hx hb dX10_forget_43 (by decide) ?_
          refine lv_iload_n hx hb dX10_forget_84 rfl (lv_at hl 0 rfl) ?_
          refine lv_if_eq (tgt := 92) hx hb dX10_forget_85 (by decide) (fun c17 => ?_) (fun c17 => ?_)
          · replace hF := it_t hF c17
            refine lv_iconst (v := 0) hx hb dX10_forget_92 (by decide) ?_
            cases hF
            exact W.iret hx hb hr (fun t ht hW => ⟨rfl, by rw [ht]; exact hP, hS.F ht⟩) hS.2.2 dX10_forget_93 hlk
          · replace hF := it_f hF c17
            refine lv_iconst (v := 1) hx hb dX10_forget_88 (by decide) ?_
            refine lv_goto (tgt := 93) hx hb dX10_forget_89 (by decide) ?_
            cases hF
            exact W.iret hx hb hr (fun t ht hW => ⟨rfl, by rw [ht]; exact hP, hS.F ht⟩) hS.2.2 dX10_forget_93 hlk
      · replace hF := it_f hF c5
        refine lv_iconst (v := (-1)) hx hb dX10_forget_16 (by decide) ?_
        cases hF
        exact W.iret hx hb hr (fun t ht hW => ⟨rfl, by rw [ht]; exact hP, hS.F ht⟩) hS.2.2 dX10_forget_17 hlk
/-! X10_spent -/
theorem iw_X10_spent_4 : ∀ w ∈ u_ws RX4 TX4 9, w ∈ wsX10_spent := by decide +kernel
theorem iw_X10_spent_10 : ∀ w ∈ u_ws RX10 TX10 12, w ∈ wsX10_spent := by decide +kernel
abbrev rm_X10_spent : Room := { frames := 3, cells := 0, slots := 0, locals := 64 }
set_option maxHeartbeats 4000000 in
set_option maxRecDepth 100000 in
theorem nd_X10_spent_104 {p : Program} {l : Launch} {e : Env} {s : State} {m : MethodId} {args : Array Value} {below : List Frame} {meth : Method} {c : Code} {b0 : Nat} {D : va_G} {cy : Nat → ClassId} {r : Int64} {M : Mm} (CX : Cx yX10_spent cX10_spent 10 (some .long) wsX10_spent b0 D cy p s m args meth c) (k38 : Nat → Int32 → Int32 → Int32 → Int64 → Int64 → Int32 → Option Int64) (hk38 : ∀ (x0 : Nat) (x1 : Int32) (x2 : Int32) (x3 : Int32) (x4 : Int64) (x6 : Int64) (x8 : Int32) (H : Heap) (locs : List Loc) (ls : Array Slot), k38 x0 x1 x2 x3 x4 x6 x8 = some r → Hp b0 D cy M H → va_S (BA b0) s.heap H locs → lv_has ls 10 [(0, .ref x0), (1, .int x1), (2, .int x2), (3, .int x3), (4, .long x4), (6, .long x6), (8, .int x8)] → W p l e rm_X10_spent s m args below meth c H locs 0 0 (MQ below (Qm b0 D cy M (some (.long r))) args s 0 0 (BA b0)) (F0 m 38 ls [])) : ∀ (x0 : Nat) (x1 : Int32) (x2 : Int32) (x3 : Int32) (x4 : Int64) (x6 : Int64) (x8 : Int32) (H : Heap) (locs : List Loc) (ls : Array Slot), f_X10_spent_J104 k38 M x0 x1 x2 x3 x4 x6 x8 = some r → Hp b0 D cy M H → va_S (BA b0) s.heap H locs → lv_has ls 10 [(0, .ref x0), (1, .int x1), (2, .int x2), (3, .int x3), (4, .long x4), (6, .long x6), (8, .int x8)] → W p l e rm_X10_spent s m args below meth c H locs 0 0 (MQ below (Qm b0 D cy M (some (.long r))) args s 0 0 (BA b0)) (F0 m 104 ls []) := by
  obtain ⟨hx, hb, hr, hml, hown0, hts, hlk, hK, hN, hb0, hnm⟩ := id CX
  have hown : s.vm.findClass RX10 = some m.cls := hown0
  intro x0 x1 x2 x3 x4 x6 x8 H locs ls hF hP hS hl
  unfold f_X10_spent_J104 at hF
  refine lv_iinc (v := x8 + 1) (lv' := [(8, .int (x8 + 1)), (0, .ref x0), (1, .int x1), (2, .int x2), (3, .int x3), (4, .long x4), (6, .long x6)]) hx hb dX10_spent_104 hl (k := 6) rfl (by rfl) (by decide) rfl (fun ls hl => ?_)
  refine lv_goto (tgt := 38) hx hb dX10_spent_107 (by decide) ?_
  exact hk38 _ _ _ _ _ _ _ _ _ _ hF hP hS (lv_sub hl [1, 2, 3, 4, 5, 6, 0] rfl)
set_option maxHeartbeats 4000000 in
set_option maxRecDepth 100000 in
theorem nd_X10_spent_38 {p : Program} {l : Launch} {e : Env} {s : State} {m : MethodId} {args : Array Value} {below : List Frame} {meth : Method} {c : Code} {b0 : Nat} {D : va_G} {cy : Nat → ClassId} {r : Int64} {M : Mm} (CX : Cx yX10_spent cX10_spent 10 (some .long) wsX10_spent b0 D cy p s m args meth c) : ∀ (fu : Nat), ∀ (x0 : Nat) (x1 : Int32) (x2 : Int32) (x3 : Int32) (x4 : Int64) (x6 : Int64) (x8 : Int32) (H : Heap) (locs : List Loc) (ls : Array Slot), f_X10_spent_L38 M fu x0 x1 x2 x3 x4 x6 x8 = some r → Hp b0 D cy M H → va_S (BA b0) s.heap H locs → lv_has ls 10 [(0, .ref x0), (1, .int x1), (2, .int x2), (3, .int x3), (4, .long x4), (6, .long x6), (8, .int x8)] → W p l e rm_X10_spent s m args below meth c H locs 0 0 (MQ below (Qm b0 D cy M (some (.long r))) args s 0 0 (BA b0)) (F0 m 38 ls []) := by
  obtain ⟨hx, hb, hr, hml, hown0, hts, hlk, hK, hN, hb0, hnm⟩ := id CX
  have hown : s.vm.findClass RX10 = some m.cls := hown0
  intro fu
  induction fu with
  | zero =>
    intro x0 x1 x2 x3 x4 x6 x8 H locs ls hF hP hS hl
    rw [f_X10_spent_L38] at hF
    cases hF
  | succ fu ih =>
    intro x0 x1 x2 x3 x4 x6 x8 H locs ls hF hP hS hl
    rw [f_X10_spent_L38] at hF
    refine lv_iload hx hb dX10_spent_38 (lv_at hl 6 rfl) ?_
    refine lv_aload_n hx hb dX10_spent_40 rfl (lv_at hl 0 rfl) ?_
    refine xr_getI hx hb hts iw_X10_spent_10 hown hK hP hF 10 10 rfl (by decide) (by decide +kernel) ⟨rfl, rfl, rfl⟩ dX10_spent_41 (fun v1 hF => ?_)
    refine lv_icmp_ge (tgt := 110) hx hb dX10_spent_44 (by decide) (fun c2 => ?_) (fun c2 => ?_)
    · replace hF := it_t hF c2
      refine lv_iload_n hx hb dX10_spent_110 rfl (lv_at hl 3 rfl) ?_
      refine lv_if_ne (tgt := 117) hx hb dX10_spent_111 (by decide) (fun c3 => ?_) (fun c3 => ?_)
      · replace hF := it_f hF c3
        refine lv_iload_n hx hb dX10_spent_117 rfl (lv_at hl 3 rfl) ?_
        refine lv_iconst (v := 1) hx hb dX10_spent_118 (by decide) ?_
        refine lv_icmp_ne (tgt := 125) hx hb dX10_spent_119 (by decide) (fun c4 => ?_) (fun c4 => ?_)
        · replace hF := it_f hF c4
          refine lv_iload_n hx hb dX10_spent_125 rfl (lv_at hl 2 rfl) ?_
          refine lv_iconst (v := 2) hx hb dX10_spent_126 (by decide) ?_
          refine lv_icmp_le (tgt := 134) hx hb dX10_spent_127 (by decide) (fun c5 => ?_) (fun c5 => ?_)
          · replace hF := it_t hF c5
            refine lv_lload hx hb dX10_spent_134 (lv_at hl 4 rfl) ?_
            refine lv_aload_n hx hb dX10_spent_136 rfl (lv_at hl 0 rfl) ?_
            refine xr_getR hx hb hts iw_X10_spent_10 hown hK hP hF 10 1 rfl (by decide) (by decide +kernel) ⟨rfl, rfl, rfl⟩ dX10_spent_137 (fun v6 hF => ?_)
            obtain ⟨v8, h7, hF⟩ := ob_some hF
            refine xr_call1 (va_runV (As := []) (rest := [.long x4]) ⟨hx, hb, hml, hown, hts⟩ (ct_X6_wholeBits l b0 D cy M v6 v8 h7) (cwV 0 hts gX10_spent_X6_wholeBits rfl rfl rfl (by decide +kernel) ⟨Nat.le_of_ble_eq_true rfl, Nat.le_of_ble_eq_true rfl⟩) (xp_V hP hK hN hS hb0 6 rfl (gk_X6_wholeBits h7)) rfl rfl hl.1 rfl (lv_room (Nat.le_of_ble_eq_true rfl)) dX10_spent_140 ⟨Nat.le_of_ble_eq_true rfl, Nat.le_of_ble_eq_true rfl⟩) hS (fun H locs hP hS => ?_)
            refine lv_i2l hx hb dX10_spent_143 rfl ?_
            refine lv_lmul hx hb dX10_spent_144 ?_
            refine lv_lload hx hb dX10_spent_145 (lv_at hl 5 rfl) ?_
            refine lv_lsub hx hb dX10_spent_147 ?_
            cases hF
            exact W.lret hx hb hr (fun t ht hW => ⟨rfl, by rw [ht]; exact hP, hS.F ht⟩) hS.2.2 dX10_spent_148 hlk
          · replace hF := it_f hF c5
            refine lv_lconst (v := 0) hx hb dX10_spent_130 (by decide) ?_
            refine lv_goto (tgt := 148) hx hb dX10_spent_131 (by decide) ?_
            cases hF
            exact W.lret hx hb hr (fun t ht hW => ⟨rfl, by rw [ht]; exact hP, hS.F ht⟩) hS.2.2 dX10_spent_148 hlk
        · replace hF := it_t hF c4
          refine lv_lload hx hb dX10_spent_122 (lv_at hl 5 rfl) ?_
          cases hF
          exact W.lret hx hb hr (fun t ht hW => ⟨rfl, by rw [ht]; exact hP, hS.F ht⟩) hS.2.2 dX10_spent_124 hlk
      · replace hF := it_t hF c3
        refine lv_lload hx hb dX10_spent_114 (lv_at hl 4 rfl) ?_
        cases hF
        exact W.lret hx hb hr (fun t ht hW => ⟨rfl, by rw [ht]; exact hP, hS.F ht⟩) hS.2.2 dX10_spent_116 hlk
    · replace hF := it_f hF c2
      refine lv_aload_n hx hb dX10_spent_47 rfl (lv_at hl 0 rfl) ?_
      refine xr_getR hx hb hts iw_X10_spent_10 hown hK hP hF 10 5 rfl (by decide) (by decide +kernel) ⟨rfl, rfl, rfl⟩ dX10_spent_48 (fun v9 hF => ?_)
      refine lv_iload hx hb dX10_spent_51 (lv_at hl 6 rfl) ?_
      refine xr_aN hx hb hK hP hF 5 rfl (by decide) dX10_spent_53 (fun v10 hF => ?_)
      refine xr_astore (lv' := [(9, va_rf v10), (0, .ref x0), (1, .int x1), (2, .int x2), (3, .int x3), (4, .long x4), (6, .long x6), (8, .int x8)]) hx hb dX10_spent_54 hl (by decide) (by first | rfl | simp [cat_rf]) (fun ls hl => ?_)
      refine xr_aload hx hb dX10_spent_56 (lv_at hl 0 rfl) ?_
      rcases v10 with _ | w11
      · replace hF := nm_n hF
        refine lv_ifnullN (tgt := 104) hx hb dX10_spent_58 (by decide) ?_
        exact nd_X10_spent_104 CX (f_X10_spent_L38 M fu) ih _ _ _ _ _ _ _ _ _ _ hF hP hS (lv_sub hl [1, 2, 3, 4, 5, 6, 7] rfl)
      · replace hF := nm_s hF
        refine lv_ifnull hx hb dX10_spent_58 ?_
        refine lv_aload hx hb dX10_spent_61 (lv_at hl 0 rfl) ?_
        refine xr_getI hx hb hts iw_X10_spent_4 hown hK hP hF 4 7 rfl (by decide) (by decide +kernel) ⟨rfl, rfl, rfl⟩ dX10_spent_63 (fun v12 hF => ?_)
        refine lv_if_ne (tgt := 104) hx hb dX10_spent_66 (by decide) (fun c13 => ?_) (fun c13 => ?_)
        · replace hF := it_f hF c13
          exact nd_X10_spent_104 CX (f_X10_spent_L38 M fu) ih _ _ _ _ _ _ _ _ _ _ hF hP hS (lv_sub hl [1, 2, 3, 4, 5, 6, 7] rfl)
        · replace hF := it_t hF c13
          refine lv_aload hx hb dX10_spent_69 (lv_at hl 0 rfl) ?_
          refine xr_getI hx hb hts iw_X10_spent_4 hown hK hP hF 4 0 rfl (by decide) (by decide +kernel) ⟨rfl, rfl, rfl⟩ dX10_spent_71 (fun v14 hF => ?_)
          refine lv_iload_n hx hb dX10_spent_74 rfl (lv_at hl 3 rfl) ?_
          refine lv_icmp_ne (tgt := 104) hx hb dX10_spent_75 (by decide) (fun c15 => ?_) (fun c15 => ?_)
          · replace hF := it_f hF c15
            exact nd_X10_spent_104 CX (f_X10_spent_L38 M fu) ih _ _ _ _ _ _ _ _ _ _ hF hP hS (lv_sub hl [1, 2, 3, 4, 5, 6, 7] rfl)
          · replace hF := it_t hF c15
            refine lv_aload hx hb dX10_spent_78 (lv_at hl 0 rfl) ?_
            refine xr_getI hx hb hts iw_X10_spent_4 hown hK hP hF 4 1 rfl (by decide) (by decide +kernel) ⟨rfl, rfl, rfl⟩ dX10_spent_80 (fun v16 hF => ?_)
            refine lv_iload_n hx hb dX10_spent_83 rfl (lv_at hl 2 rfl) ?_
            refine lv_icmp_ne (tgt := 104) hx hb dX10_spent_84 (by decide) (fun c17 => ?_) (fun c17 => ?_)
            · replace hF := it_f hF c17
              exact nd_X10_spent_104 CX (f_X10_spent_L38 M fu) ih _ _ _ _ _ _ _ _ _ _ hF hP hS (lv_sub hl [1, 2, 3, 4, 5, 6, 7] rfl)
            · replace hF := it_t hF c17
              refine lv_lload hx hb dX10_spent_87 (lv_at hl 5 rfl) ?_
              refine lv_lconst (v := 1) hx hb dX10_spent_89 (by decide) ?_
              refine lv_ladd hx hb dX10_spent_90 ?_
              refine lv_lstore (lv' := [(4, .long (x4 + 1)), (9, .ref w11), (0, .ref x0), (1, .int x1), (2, .int x2), (3, .int x3), (6, .long x6), (8, .int x8)]) hx hb dX10_spent_91 hl (by decide) (by first | rfl | simp [cat_rf]) (fun ls hl => ?_)
              refine lv_lload hx hb dX10_spent_93 (lv_at hl 6 rfl) ?_
              refine lv_aload hx hb dX10_spent_95 (lv_at hl 1 rfl) ?_
              refine xr_getI hx hb hts iw_X10_spent_4 hown hK hP hF 4 4 rfl (by decide) (by decide +kernel) ⟨rfl, rfl, rfl⟩ dX10_spent_97 (fun v18 hF => ?_)
              refine lv_i2l hx hb dX10_spent_100 rfl ?_
              refine lv_ladd hx hb dX10_spent_101 ?_
              refine lv_lstore (lv' := [(6, .long (x6 + v18.toInt64)), (4, .long (x4 + 1)), (9, .ref w11), (0, .ref x0), (1, .int x1), (2, .int x2), (3, .int x3), (8, .int x8)]) hx hb dX10_spent_102 hl (by decide) (by first | rfl | simp [cat_rf]) (fun ls hl => ?_)
              exact nd_X10_spent_104 CX (f_X10_spent_L38 M fu) ih _ _ _ _ _ _ _ _ _ _ hF hP hS (lv_sub hl [3, 4, 5, 6, 1, 0, 7] rfl)
theorem gk_X10_spent {M : Mm} {a0 : Nat} {a1 : Int32} {a2 : Int32} {a3 : Int32} {r : Int64} (h : f_X10_spent M a0 a1 a2 a3 = some r) : mK M a0 = 11 := by
  unfold f_X10_spent at h
  exact (if_some h).1
set_option maxHeartbeats 4000000 in
set_option maxRecDepth 100000 in
theorem ct_X10_spent (l : Launch) (b0 : Nat) (D : va_G) (cy : Nat → ClassId) (M : Mm) (a0 : Nat) (a1 : Int32) (a2 : Int32) (a3 : Int32) (r : Int64) (hF : f_X10_spent M a0 a1 a2 a3 = some r) : Met l yX10_spent wsX10_spent rm_X10_spent (va_Pc [.ref a0, .int a1, .int a2, .int a3] (Pm b0 D cy M)) (Qm b0 D cy M (some (.long r))) 0 0 (BA b0) := by
  refine ct_of [.ref a0, .int a1, .int a2, .int a3] (by decide) rfl ?_
  intro p e s m below meth c CX hP
  obtain ⟨hx, hb, hr, hml, hown0, hts, hlk, hK, hN, hb0, hnm⟩ := id CX
  have hown : s.vm.findClass RX10 = some m.cls := hown0
  have hS : va_S (BA b0) s.heap s.heap [] := va_S.rf
  have hl := lv_entry [.ref a0, .int a1, .int a2, .int a3] (n := 10) (Nat.le_of_ble_eq_true rfl)
  generalize (lg_sl [.ref a0, .int a1, .int a2, .int a3] ++ List.replicate (10 - (lg_sl [.ref a0, .int a1, .int a2, .int a3]).length) Slot.unset).toArray = ls at hl ⊢
  have hl : lv_has ls 10 [(0, .ref a0), (1, .int a1), (2, .int a2), (3, .int a3)] := hl
  unfold f_X10_spent at hF
  replace hF := (if_some hF).2
  refine lv_iload_n hx hb dX10_spent_0 rfl (lv_at hl 1 rfl) ?_
  obtain ⟨v2, h1, hF⟩ := ob_some hF
  refine xr_call1 (va_runS (As := [.int a1]) (rest := []) ⟨hx, hb, hml, hown, hts⟩ (ct_X10_isFlow l b0 D cy M a1 v2 h1) (va_cwS 1 hts gX10_spent_X10_isFlow rfl rfl rfl (by decide +kernel) ⟨Nat.le_of_ble_eq_true rfl, Nat.le_of_ble_eq_true rfl⟩) (xp_S hP hK hN hS hb0) rfl rfl hl.1 rfl (lv_room (Nat.le_of_ble_eq_true rfl)) dX10_spent_1 ⟨Nat.le_of_ble_eq_true rfl, Nat.le_of_ble_eq_true rfl⟩) hS (fun H locs hP hS => ?_)
  refine lv_if_eq (tgt := 25) hx hb dX10_spent_4 (by decide) (fun c3 => ?_) (fun c3 => ?_)
  · replace hF := it_t hF c3
    refine lv_ldc2 (v := (-1)) hx hb hown (hts (.constantLong RX10 99 (-1)) (by decide +kernel)) dX10_spent_25 ?_
    cases hF
    exact W.lret hx hb hr (fun t ht hW => ⟨rfl, by rw [ht]; exact hP, hS.F ht⟩) hS.2.2 dX10_spent_28 hlk
  · replace hF := it_f hF c3
    refine lv_iload_n hx hb dX10_spent_7 rfl (lv_at hl 2 rfl) ?_
    refine lv_if_lt (tgt := 25) hx hb dX10_spent_8 (by decide) (fun c4 => ?_) (fun c4 => ?_)
    · replace hF := it_t hF c4
      refine lv_ldc2 (v := (-1)) hx hb hown (hts (.constantLong RX10 99 (-1)) (by decide +kernel)) dX10_spent_25 ?_
      cases hF
      exact W.lret hx hb hr (fun t ht hW => ⟨rfl, by rw [ht]; exact hP, hS.F ht⟩) hS.2.2 dX10_spent_28 hlk
    · replace hF := it_f hF c4
      refine lv_iload_n hx hb dX10_spent_11 rfl (lv_at hl 2 rfl) ?_
      refine lv_iconst (v := 5) hx hb dX10_spent_12 (by decide) ?_
      refine lv_icmp_gt (tgt := 25) hx hb dX10_spent_13 (by decide) (fun c5 => ?_) (fun c5 => ?_)
      · replace hF := it_t hF c5
        refine lv_ldc2 (v := (-1)) hx hb hown (hts (.constantLong RX10 99 (-1)) (by decide +kernel)) dX10_spent_25 ?_
        cases hF
        exact W.lret hx hb hr (fun t ht hW => ⟨rfl, by rw [ht]; exact hP, hS.F ht⟩) hS.2.2 dX10_spent_28 hlk
      · replace hF := it_f hF c5
        refine lv_iload_n hx hb dX10_spent_16 rfl (lv_at hl 3 rfl) ?_
        refine lv_if_lt (tgt := 25) hx hb dX10_spent_17 (by decide) (fun c6 => ?_) (fun c6 => ?_)
        · replace hF := it_t hF c6
          refine lv_ldc2 (v := (-1)) hx hb hown (hts (.constantLong RX10 99 (-1)) (by decide +kernel)) dX10_spent_25 ?_
          cases hF
          exact W.lret hx hb hr (fun t ht hW => ⟨rfl, by rw [ht]; exact hP, hS.F ht⟩) hS.2.2 dX10_spent_28 hlk
        · replace hF := it_f hF c6
          refine lv_iload_n hx hb dX10_spent_20 rfl (lv_at hl 3 rfl) ?_
          refine lv_iconst (v := 2) hx hb dX10_spent_21 (by decide) ?_
          refine lv_icmp_le (tgt := 29) hx hb dX10_spent_22 (by decide) (fun c7 => ?_) (fun c7 => ?_)
          · replace hF := it_t hF c7
            refine lv_lconst (v := 0) hx hb dX10_spent_29 (by decide) ?_
            refine lv_lstore (lv' := [(4, .long 0), (0, .ref a0), (1, .int a1), (2, .int a2), (3, .int a3)]) hx hb dX10_spent_30 hl (by decide) (by first | rfl | simp [cat_rf]) (fun ls hl => ?_)
            refine lv_lconst (v := 0) hx hb dX10_spent_32 (by decide) ?_
            refine lv_lstore (lv' := [(6, .long 0), (4, .long 0), (0, .ref a0), (1, .int a1), (2, .int a2), (3, .int a3)]) hx hb dX10_spent_33 hl (by decide) (by first | rfl | simp [cat_rf]) (fun ls hl => ?_)
            refine lv_iconst (v := 0) hx hb dX10_spent_35 (by decide) ?_
            refine lv_istore (lv' := [(8, .int 0), (6, .long 0), (4, .long 0), (0, .ref a0), (1, .int a1), (2, .int a2), (3, .int a3)]) hx hb dX10_spent_36 hl (by decide) (by first | rfl | simp [cat_rf]) (fun ls hl => ?_)
            exact nd_X10_spent_38 CX _ _ _ _ _ _ _ _ _ _ _ hF hP hS (lv_sub hl [3, 4, 5, 6, 2, 1, 0] rfl)
          · replace hF := it_f hF c7
            refine lv_ldc2 (v := (-1)) hx hb hown (hts (.constantLong RX10 99 (-1)) (by decide +kernel)) dX10_spent_25 ?_
            cases hF
            exact W.lret hx hb hr (fun t ht hW => ⟨rfl, by rw [ht]; exact hP, hS.F ht⟩) hS.2.2 dX10_spent_28 hlk
/-! X10_isShelf -/
abbrev rm_X10_isShelf : Room := { frames := 0, cells := 0, slots := 0, locals := 0 }
set_option maxHeartbeats 4000000 in
set_option maxRecDepth 100000 in
theorem ct_X10_isShelf (l : Launch) (b0 : Nat) (D : va_G) (cy : Nat → ClassId) (M : Mm) (a0 : Int32) (r : Int32) (hF : f_X10_isShelf a0 = some r) : Met l yX10_isShelf wsX10_isShelf rm_X10_isShelf (va_Pc [.int a0] (Pm b0 D cy M)) (Qm b0 D cy M (some (.int r))) 0 0 (BA b0) := by
  refine ct_of [.int a0] (by decide) rfl ?_
  intro p e s m below meth c CX hP
  obtain ⟨hx, hb, hr, hml, hown0, hts, hlk, hK, hN, hb0, hnm⟩ := id CX
  have hown : s.vm.findClass RX10 = some m.cls := hown0
  have hS : va_S (BA b0) s.heap s.heap [] := va_S.rf
  have hl := lv_entry [.int a0] (n := 1) (Nat.le_of_ble_eq_true rfl)
  generalize (lg_sl [.int a0] ++ List.replicate (1 - (lg_sl [.int a0]).length) Slot.unset).toArray = ls at hl ⊢
  have hl : lv_has ls 1 [(0, .int a0)] := hl
  unfold f_X10_isShelf at hF
  refine lv_iload_n hx hb dX10_isShelf_0 rfl (lv_at hl 0 rfl) ?_
  refine lv_if_lt (tgt := 14) hx hb dX10_isShelf_1 (by decide) (fun c1 => ?_) (fun c1 => ?_)
  · replace hF := it_t hF c1
    refine lv_iconst (v := 0) hx hb dX10_isShelf_14 (by decide) ?_
    cases hF
    exact W.zret hx hb hr rfl (fun t ht hW => ⟨rfl, by rw [ht]; exact hP, hS.F ht⟩) hS.2.2 dX10_isShelf_15 hlk
  · replace hF := it_f hF c1
    refine lv_iload_n hx hb dX10_isShelf_4 rfl (lv_at hl 0 rfl) ?_
    refine lv_bipush (v := 8) hx hb dX10_isShelf_5 (by decide) ?_
    refine lv_icmp_ge (tgt := 14) hx hb dX10_isShelf_7 (by decide) (fun c2 => ?_) (fun c2 => ?_)
    · replace hF := it_t hF c2
      refine lv_iconst (v := 0) hx hb dX10_isShelf_14 (by decide) ?_
      cases hF
      exact W.zret hx hb hr rfl (fun t ht hW => ⟨rfl, by rw [ht]; exact hP, hS.F ht⟩) hS.2.2 dX10_isShelf_15 hlk
    · replace hF := it_f hF c2
      refine lv_iconst (v := 1) hx hb dX10_isShelf_10 (by decide) ?_
      refine lv_goto (tgt := 15) hx hb dX10_isShelf_11 (by decide) ?_
      cases hF
      exact W.zret hx hb hr rfl (fun t ht hW => ⟨rfl, by rw [ht]; exact hP, hS.F ht⟩) hS.2.2 dX10_isShelf_15 hlk
/-! X10_keepLetter -/
theorem iw_X10_keepLetter_4 : ∀ w ∈ u_ws RX4 TX4 9, w ∈ wsX10_keepLetter := by decide +kernel
theorem iw_X10_keepLetter_8 : ∀ w ∈ u_ws RX8 TX8 5, w ∈ wsX10_keepLetter := by decide +kernel
abbrev rm_X10_keepLetter : Room := { frames := 2, cells := 0, slots := 0, locals := 46 }
set_option maxHeartbeats 4000000 in
set_option maxRecDepth 100000 in
theorem nd_X10_keepLetter_30 {p : Program} {l : Launch} {e : Env} {s : State} {m : MethodId} {args : Array Value} {below : List Frame} {meth : Method} {c : Code} {b0 : Nat} {D : va_G} {cy : Nat → ClassId} {M1 : Mm} {r : Int32} (CX : Cx yX10_keepLetter cX10_keepLetter 4 (some .int) wsX10_keepLetter b0 D cy p s m args meth c) : ∀ (fu : Nat), ∀ (M : Mm) (x0 : Nat) (x2 : Nat) (x3 : Int32) (H : Heap) (locs : List Loc) (ls : Array Slot), f_X10_keepLetter_L30 fu M x0 x2 x3 = some (M1, r) → Hp b0 D cy M H → va_S (BA b0) s.heap H locs → lv_has ls 4 [(0, .ref x0), (2, .ref x2), (3, .int x3)] → W p l e rm_X10_keepLetter s m args below meth c H locs 0 0 (MQ below (Qm b0 D cy M1 (some (.int r))) args s 0 0 (BA b0)) (F0 m 30 ls []) := by
  obtain ⟨hx, hb, hr, hml, hown0, hts, hlk, hK, hN, hb0, hnm⟩ := id CX
  have hown : s.vm.findClass RX10 = some m.cls := hown0
  intro fu
  induction fu with
  | zero =>
    intro M x0 x2 x3 H locs ls hF hP hS hl
    rw [f_X10_keepLetter_L30] at hF
    cases hF
  | succ fu ih =>
    intro M x0 x2 x3 H locs ls hF hP hS hl
    rw [f_X10_keepLetter_L30] at hF
    refine lv_iload_n hx hb dX10_keepLetter_30 rfl (lv_at hl 2 rfl) ?_
    refine lv_aload_n hx hb dX10_keepLetter_31 rfl (lv_at hl 0 rfl) ?_
    refine xr_getI hx hb hts iw_X10_keepLetter_8 hown hK hP hF 8 2 rfl (by decide) (by decide +kernel) ⟨rfl, rfl, rfl⟩ dX10_keepLetter_32 (fun v1 hF => ?_)
    refine lv_icmp_ge (tgt := 57) hx hb dX10_keepLetter_35 (by decide) (fun c2 => ?_) (fun c2 => ?_)
    · replace hF := it_t hF c2
      refine lv_iconst (v := 0) hx hb dX10_keepLetter_57 (by decide) ?_
      cases hF
      exact W.iret hx hb hr (fun t ht hW => ⟨rfl, by rw [ht]; exact hP, hS.F ht⟩) hS.2.2 dX10_keepLetter_58 hlk
    · replace hF := it_f hF c2
      refine lv_aload_n hx hb dX10_keepLetter_38 rfl (lv_at hl 0 rfl) ?_
      refine xr_getR hx hb hts iw_X10_keepLetter_8 hown hK hP hF 8 0 rfl (by decide) (by decide +kernel) ⟨rfl, rfl, rfl⟩ dX10_keepLetter_39 (fun v3 hF => ?_)
      refine lv_iload_n hx hb dX10_keepLetter_42 rfl (lv_at hl 2 rfl) ?_
      refine lv_aload_n hx hb dX10_keepLetter_43 rfl (lv_at hl 1 rfl) ?_
      refine xr_getR hx hb hts iw_X10_keepLetter_4 hown hK hP hF 4 3 rfl (by decide) (by decide +kernel) ⟨rfl, rfl, rfl⟩ dX10_keepLetter_44 (fun v4 hF => ?_)
      refine lv_iload_n hx hb dX10_keepLetter_47 rfl (lv_at hl 2 rfl) ?_
      refine xr_aI hx hb hK hP hF dX10_keepLetter_48 (fun v5 hF => ?_)
      refine lv_i2l hx hb dX10_keepLetter_49 rfl ?_
      refine xr_wJ hx hb hK hP hS hF dX10_keepLetter_50 (fun M6 H locs hF hP hS => ?_)
      refine lv_iinc (v := x3 + 1) (lv' := [(3, .int (x3 + 1)), (0, .ref x0), (2, .ref x2)]) hx hb dX10_keepLetter_51 hl (k := 2) rfl (by rfl) (by decide) rfl (fun ls hl => ?_)
      refine lv_goto (tgt := 30) hx hb dX10_keepLetter_54 (by decide) ?_
      exact ih _ _ _ _ _ _ _ hF hP hS (lv_sub hl [1, 2, 0] rfl)
set_option maxHeartbeats 4000000 in
set_option maxRecDepth 100000 in
theorem ct_X10_keepLetter (l : Launch) (b0 : Nat) (D : va_G) (cy : Nat → ClassId) (M : Mm) (a0 : Nat) (a1 : Int32) (a2 : Option Nat) (M1 : Mm) (r : Int32) (hF : f_X10_keepLetter M a0 a1 a2 = some (M1, r)) : Met l yX10_keepLetter wsX10_keepLetter rm_X10_keepLetter (va_Pc [.ref a0, .int a1, va_rf a2] (Pm b0 D cy M)) (Qm b0 D cy M1 (some (.int r))) 0 0 (BA b0) := by
  refine ct_of [.ref a0, .int a1, va_rf a2] (by decide) rfl ?_
  intro p e s m below meth c CX hP
  obtain ⟨hx, hb, hr, hml, hown0, hts, hlk, hK, hN, hb0, hnm⟩ := id CX
  have hown : s.vm.findClass RX10 = some m.cls := hown0
  have hS : va_S (BA b0) s.heap s.heap [] := va_S.rf
  have hl := lv_entry [.ref a0, .int a1, va_rf a2] (n := 4) (by rcases a2 with _ | _ <;> exact Nat.le_of_ble_eq_true rfl)
  generalize (lg_sl [.ref a0, .int a1, va_rf a2] ++ List.replicate (4 - (lg_sl [.ref a0, .int a1, va_rf a2]).length) Slot.unset).toArray = ls at hl ⊢
  have hl : lv_has ls 4 [(0, .ref a0), (1, .int a1), (2, va_rf a2)] := by rcases a2 with _ | _ <;> exact hl
  unfold f_X10_keepLetter at hF
  refine xr_aload_n hx hb dX10_keepLetter_0 rfl (lv_at hl 2 rfl) ?_
  rcases a2 with _ | w1
  · replace hF := nm_n hF
    refine lv_ifnonnullN hx hb dX10_keepLetter_1 ?_
    refine lv_iconst (v := (-1)) hx hb dX10_keepLetter_4 (by decide) ?_
    cases hF
    exact W.iret hx hb hr (fun t ht hW => ⟨rfl, by rw [ht]; exact hP, hS.F ht⟩) hS.2.2 dX10_keepLetter_5 hlk
  · replace hF := nm_s hF
    refine lv_ifnonnull (tgt := 6) hx hb dX10_keepLetter_1 (by decide) ?_
    refine lv_iload_n hx hb dX10_keepLetter_6 rfl (lv_at hl 1 rfl) ?_
    refine lv_iconst (v := 1) hx hb dX10_keepLetter_7 (by decide) ?_
    refine lv_icmp_ne (tgt := 18) hx hb dX10_keepLetter_8 (by decide) (fun c2 => ?_) (fun c2 => ?_)
    · replace hF := it_f hF c2
      refine lv_aload_n hx hb dX10_keepLetter_18 rfl (lv_at hl 0 rfl) ?_
      refine lv_iconst (v := 2) hx hb dX10_keepLetter_19 (by decide) ?_
      refine lv_aload_n hx hb dX10_keepLetter_20 rfl (lv_at hl 2 rfl) ?_
      refine xr_getR hx hb hts iw_X10_keepLetter_4 hown hK hP hF 4 3 rfl (by decide) (by decide +kernel) ⟨rfl, rfl, rfl⟩ dX10_keepLetter_21 (fun v3 hF => ?_)
      refine xr_aL hx hb hK hP hF dX10_keepLetter_24 (fun v4 hF => ?_)
      obtain ⟨M6, h5, hF⟩ := ob_some hF
      refine xr_call0 (va_runV (As := [.int 2, .int v4]) (rest := []) ⟨hx, hb, hml, hown, hts⟩ (ct_X8_holdRow l b0 D cy M a0 2 v4 M6 h5) (cwV 2 hts gX10_keepLetter_X8_holdRow rfl rfl rfl (by decide +kernel) ⟨Nat.le_of_ble_eq_true rfl, Nat.le_of_ble_eq_true rfl⟩) (xp_V hP hK hN hS hb0 8 rfl (gk_X8_holdRow h5)) rfl rfl hl.1 rfl (lv_room (Nat.le_of_ble_eq_true rfl)) dX10_keepLetter_25 ⟨Nat.le_of_ble_eq_true rfl, Nat.le_of_ble_eq_true rfl⟩) hS (fun H locs hP hS => ?_)
      refine lv_iconst (v := 0) hx hb dX10_keepLetter_28 (by decide) ?_
      refine lv_istore_n (lv' := [(3, .int 0), (0, .ref a0), (1, .int a1), (2, .ref w1)]) hx hb dX10_keepLetter_29 rfl hl (by decide) (by first | rfl | simp [cat_rf]) (fun ls hl => ?_)
      exact nd_X10_keepLetter_30 CX _ _ _ _ _ _ _ _ hF hP hS (lv_sub hl [1, 3, 0] rfl)
    · replace hF := it_t hF c2
      refine lv_aload_n hx hb dX10_keepLetter_11 rfl (lv_at hl 0 rfl) ?_
      refine lv_aload_n hx hb dX10_keepLetter_12 rfl (lv_at hl 2 rfl) ?_
      obtain ⟨M8, h7, hF⟩ := ob_some hF
      refine xr_call0 (va_runV (As := [.ref w1]) (rest := []) ⟨hx, hb, hml, hown, hts⟩ (ct_X8_holdLetter l b0 D cy M a0 w1 M8 h7) (cwV 1 hts gX10_keepLetter_X8_holdLetter rfl rfl rfl (by decide +kernel) ⟨Nat.le_of_ble_eq_true rfl, Nat.le_of_ble_eq_true rfl⟩) (xp_V hP hK hN hS hb0 8 rfl (gk_X8_holdLetter h7)) rfl rfl hl.1 rfl (lv_room (Nat.le_of_ble_eq_true rfl)) dX10_keepLetter_13 ⟨Nat.le_of_ble_eq_true rfl, Nat.le_of_ble_eq_true rfl⟩) hS (fun H locs hP hS => ?_)
      refine lv_iconst (v := 0) hx hb dX10_keepLetter_16 (by decide) ?_
      cases hF
      exact W.iret hx hb hr (fun t ht hW => ⟨rfl, by rw [ht]; exact hP, hS.F ht⟩) hS.2.2 dX10_keepLetter_17 hlk
/-! X10_keepReferences -/
theorem iw_X10_keepReferences_3 : ∀ w ∈ u_ws RX3 TX3 2, w ∈ wsX10_keepReferences := by decide +kernel
theorem iw_X10_keepReferences_8 : ∀ w ∈ u_ws RX8 TX8 5, w ∈ wsX10_keepReferences := by decide +kernel
theorem iw_X10_keepReferences_9 : ∀ w ∈ u_ws RX9 TX9 7, w ∈ wsX10_keepReferences := by decide +kernel
theorem iw_X10_keepReferences_10 : ∀ w ∈ u_ws RX10 TX10 12, w ∈ wsX10_keepReferences := by decide +kernel
abbrev rm_X10_keepReferences : Room := { frames := 2, cells := 0, slots := 0, locals := 46 }
set_option maxHeartbeats 4000000 in
set_option maxRecDepth 100000 in
theorem nd_X10_keepReferences_28 {p : Program} {l : Launch} {e : Env} {s : State} {m : MethodId} {args : Array Value} {below : List Frame} {meth : Method} {c : Code} {b0 : Nat} {D : va_G} {cy : Nat → ClassId} {M1 : Mm} {r : Int32} (CX : Cx yX10_keepReferences cX10_keepReferences 5 (some .int) wsX10_keepReferences b0 D cy p s m args meth c) : ∀ (fu : Nat), ∀ (M : Mm) (x1 : Nat) (x3 : Nat) (x4 : Int32) (H : Heap) (locs : List Loc) (ls : Array Slot), f_X10_keepReferences_L28 fu M x1 x3 x4 = some (M1, r) → Hp b0 D cy M H → va_S (BA b0) s.heap H locs → lv_has ls 5 [(1, .ref x1), (3, .ref x3), (4, .int x4)] → W p l e rm_X10_keepReferences s m args below meth c H locs 0 0 (MQ below (Qm b0 D cy M1 (some (.int r))) args s 0 0 (BA b0)) (F0 m 28 ls []) := by
  obtain ⟨hx, hb, hr, hml, hown0, hts, hlk, hK, hN, hb0, hnm⟩ := id CX
  have hown : s.vm.findClass RX10 = some m.cls := hown0
  intro fu
  induction fu with
  | zero =>
    intro M x1 x3 x4 H locs ls hF hP hS hl
    rw [f_X10_keepReferences_L28] at hF
    cases hF
  | succ fu ih =>
    intro M x1 x3 x4 H locs ls hF hP hS hl
    rw [f_X10_keepReferences_L28] at hF
    refine lv_iload hx hb dX10_keepReferences_28 (lv_at hl 2 rfl) ?_
    refine lv_aload_n hx hb dX10_keepReferences_30 rfl (lv_at hl 0 rfl) ?_
    refine xr_getI hx hb hts iw_X10_keepReferences_8 hown hK hP hF 8 2 rfl (by decide) (by decide +kernel) ⟨rfl, rfl, rfl⟩ dX10_keepReferences_31 (fun v1 hF => ?_)
    refine lv_icmp_ge (tgt := 60) hx hb dX10_keepReferences_34 (by decide) (fun c2 => ?_) (fun c2 => ?_)
    · replace hF := it_t hF c2
      refine lv_iconst (v := 0) hx hb dX10_keepReferences_60 (by decide) ?_
      cases hF
      exact W.iret hx hb hr (fun t ht hW => ⟨rfl, by rw [ht]; exact hP, hS.F ht⟩) hS.2.2 dX10_keepReferences_61 hlk
    · replace hF := it_f hF c2
      refine lv_aload_n hx hb dX10_keepReferences_37 rfl (lv_at hl 0 rfl) ?_
      refine xr_getR hx hb hts iw_X10_keepReferences_8 hown hK hP hF 8 0 rfl (by decide) (by decide +kernel) ⟨rfl, rfl, rfl⟩ dX10_keepReferences_38 (fun v3 hF => ?_)
      refine lv_iload hx hb dX10_keepReferences_41 (lv_at hl 2 rfl) ?_
      refine lv_aload_n hx hb dX10_keepReferences_43 rfl (lv_at hl 1 rfl) ?_
      refine lv_iload hx hb dX10_keepReferences_44 (lv_at hl 2 rfl) ?_
      obtain ⟨v5, h4, hF⟩ := ob_some hF
      refine xr_call1 (va_runV (As := [.int x4]) (rest := [.int x4, .ref v3]) ⟨hx, hb, hml, hown, hts⟩ (ct_X9_reference l b0 D cy M x3 x4 v5 h4) (cwV 1 hts gX10_keepReferences_X9_reference rfl rfl rfl (by decide +kernel) ⟨Nat.le_of_ble_eq_true rfl, Nat.le_of_ble_eq_true rfl⟩) (xp_V hP hK hN hS hb0 9 rfl (gk_X9_reference h4)) rfl rfl hl.1 rfl (lv_room (Nat.le_of_ble_eq_true rfl)) dX10_keepReferences_46 ⟨Nat.le_of_ble_eq_true rfl, Nat.le_of_ble_eq_true rfl⟩) hS (fun H locs hP hS => ?_)
      refine xr_getI hx hb hts iw_X10_keepReferences_3 hown hK hP hF 3 1 rfl (by decide) (by decide +kernel) ⟨rfl, rfl, rfl⟩ dX10_keepReferences_49 (fun v6 hF => ?_)
      refine lv_i2l hx hb dX10_keepReferences_52 rfl ?_
      refine xr_wJ hx hb hK hP hS hF dX10_keepReferences_53 (fun M7 H locs hF hP hS => ?_)
      refine lv_iinc (v := x4 + 1) (lv' := [(4, .int (x4 + 1)), (1, .ref x1), (3, .ref x3)]) hx hb dX10_keepReferences_54 hl (k := 2) rfl (by rfl) (by decide) rfl (fun ls hl => ?_)
      refine lv_goto (tgt := 28) hx hb dX10_keepReferences_57 (by decide) ?_
      exact ih _ _ _ _ _ _ _ hF hP hS (lv_sub hl [1, 2, 0] rfl)
theorem gk_X10_keepReferences {M : Mm} {a0 : Nat} {a1 : Nat} {a2 : Int32} {r : (Mm × Int32)} (h : f_X10_keepReferences M a0 a1 a2 = some r) : mK M a0 = 11 := by
  unfold f_X10_keepReferences at h
  exact (if_some h).1
set_option maxHeartbeats 4000000 in
set_option maxRecDepth 100000 in
theorem ct_X10_keepReferences (l : Launch) (b0 : Nat) (D : va_G) (cy : Nat → ClassId) (M : Mm) (a0 : Nat) (a1 : Nat) (a2 : Int32) (M1 : Mm) (r : Int32) (hF : f_X10_keepReferences M a0 a1 a2 = some (M1, r)) : Met l yX10_keepReferences wsX10_keepReferences rm_X10_keepReferences (va_Pc [.ref a0, .ref a1, .int a2] (Pm b0 D cy M)) (Qm b0 D cy M1 (some (.int r))) 0 0 (BA b0) := by
  refine ct_of [.ref a0, .ref a1, .int a2] (by decide) rfl ?_
  intro p e s m below meth c CX hP
  obtain ⟨hx, hb, hr, hml, hown0, hts, hlk, hK, hN, hb0, hnm⟩ := id CX
  have hown : s.vm.findClass RX10 = some m.cls := hown0
  have hS : va_S (BA b0) s.heap s.heap [] := va_S.rf
  have hl := lv_entry [.ref a0, .ref a1, .int a2] (n := 5) (Nat.le_of_ble_eq_true rfl)
  generalize (lg_sl [.ref a0, .ref a1, .int a2] ++ List.replicate (5 - (lg_sl [.ref a0, .ref a1, .int a2]).length) Slot.unset).toArray = ls at hl ⊢
  have hl : lv_has ls 5 [(0, .ref a0), (1, .ref a1), (2, .int a2)] := hl
  unfold f_X10_keepReferences at hF
  replace hF := (if_some hF).2
  refine lv_iload_n hx hb dX10_keepReferences_0 rfl (lv_at hl 2 rfl) ?_
  obtain ⟨v2, h1, hF⟩ := ob_some hF
  refine xr_call1 (va_runS (As := [.int a2]) (rest := []) ⟨hx, hb, hml, hown, hts⟩ (ct_X10_isFlow l b0 D cy M a2 v2 h1) (va_cwS 1 hts gX10_keepReferences_X10_isFlow rfl rfl rfl (by decide +kernel) ⟨Nat.le_of_ble_eq_true rfl, Nat.le_of_ble_eq_true rfl⟩) (xp_S hP hK hN hS hb0) rfl rfl hl.1 rfl (lv_room (Nat.le_of_ble_eq_true rfl)) dX10_keepReferences_1 ⟨Nat.le_of_ble_eq_true rfl, Nat.le_of_ble_eq_true rfl⟩) hS (fun H locs hP hS => ?_)
  refine lv_if_ne (tgt := 9) hx hb dX10_keepReferences_4 (by decide) (fun c3 => ?_) (fun c3 => ?_)
  · replace hF := it_f hF c3
    refine lv_aload_n hx hb dX10_keepReferences_9 rfl (lv_at hl 0 rfl) ?_
    refine xr_getR hx hb hts iw_X10_keepReferences_10 hown hK hP hF 10 3 rfl (by decide) (by decide +kernel) ⟨rfl, rfl, rfl⟩ dX10_keepReferences_10 (fun v4 hF => ?_)
    refine lv_iload_n hx hb dX10_keepReferences_13 rfl (lv_at hl 2 rfl) ?_
    refine xr_aR hx hb hK hP hF 7 rfl (by decide) dX10_keepReferences_14 (fun v5 hF => ?_)
    refine lv_astore_n (lv' := [(3, .ref v5), (0, .ref a0), (1, .ref a1), (2, .int a2)]) hx hb dX10_keepReferences_15 rfl hl (by decide) (by first | rfl | simp [cat_rf]) (fun ls hl => ?_)
    refine lv_aload_n hx hb dX10_keepReferences_16 rfl (lv_at hl 2 rfl) ?_
    refine lv_iconst (v := 3) hx hb dX10_keepReferences_17 (by decide) ?_
    refine lv_aload_n hx hb dX10_keepReferences_18 rfl (lv_at hl 0 rfl) ?_
    refine xr_getI hx hb hts iw_X10_keepReferences_9 hown hK hP hF 9 4 rfl (by decide) (by decide +kernel) ⟨rfl, rfl, rfl⟩ dX10_keepReferences_19 (fun v6 hF => ?_)
    obtain ⟨M8, h7, hF⟩ := ob_some hF
    refine xr_call0 (va_runV (As := [.int 3, .int v6]) (rest := []) ⟨hx, hb, hml, hown, hts⟩ (ct_X8_holdRow l b0 D cy M a1 3 v6 M8 h7) (cwV 2 hts gX10_keepReferences_X8_holdRow rfl rfl rfl (by decide +kernel) ⟨Nat.le_of_ble_eq_true rfl, Nat.le_of_ble_eq_true rfl⟩) (xp_V hP hK hN hS hb0 8 rfl (gk_X8_holdRow h7)) rfl rfl hl.1 rfl (lv_room (Nat.le_of_ble_eq_true rfl)) dX10_keepReferences_22 ⟨Nat.le_of_ble_eq_true rfl, Nat.le_of_ble_eq_true rfl⟩) hS (fun H locs hP hS => ?_)
    refine lv_iconst (v := 0) hx hb dX10_keepReferences_25 (by decide) ?_
    refine lv_istore (lv' := [(4, .int 0), (3, .ref v5), (0, .ref a0), (1, .ref a1), (2, .int a2)]) hx hb dX10_keepReferences_26 hl (by decide) (by first | rfl | simp [cat_rf]) (fun ls hl => ?_)
    exact nd_X10_keepReferences_28 CX _ _ _ _ _ _ _ _ hF hP hS (lv_sub hl [3, 1, 0] rfl)
  · replace hF := it_t hF c3
    refine lv_iconst (v := (-1)) hx hb dX10_keepReferences_7 (by decide) ?_
    cases hF
    exact W.iret hx hb hr (fun t ht hW => ⟨rfl, by rw [ht]; exact hP, hS.F ht⟩) hS.2.2 dX10_keepReferences_8 hlk
/-! X10_keepContext -/
theorem iw_X10_keepContext_1 : ∀ w ∈ u_ws RX1 TX1 4, w ∈ wsX10_keepContext := by decide +kernel
theorem iw_X10_keepContext_3 : ∀ w ∈ u_ws RX3 TX3 2, w ∈ wsX10_keepContext := by decide +kernel
theorem iw_X10_keepContext_6 : ∀ w ∈ u_ws RX6 TX6 5, w ∈ wsX10_keepContext := by decide +kernel
theorem iw_X10_keepContext_8 : ∀ w ∈ u_ws RX8 TX8 5, w ∈ wsX10_keepContext := by decide +kernel
theorem iw_X10_keepContext_10 : ∀ w ∈ u_ws RX10 TX10 12, w ∈ wsX10_keepContext := by decide +kernel
abbrev rm_X10_keepContext : Room := { frames := 2, cells := 0, slots := 0, locals := 46 }
set_option maxHeartbeats 4000000 in
set_option maxRecDepth 100000 in
theorem nd_X10_keepContext_35 {p : Program} {l : Launch} {e : Env} {s : State} {m : MethodId} {args : Array Value} {below : List Frame} {meth : Method} {c : Code} {b0 : Nat} {D : va_G} {cy : Nat → ClassId} {M1 : Mm} {r : Int32} (CX : Cx yX10_keepContext cX10_keepContext 4 (some .int) wsX10_keepContext b0 D cy p s m args meth c) : ∀ (fu : Nat), ∀ (M : Mm) (x0 : Nat) (x1 : Nat) (x2 : Int32) (x3 : Int32) (H : Heap) (locs : List Loc) (ls : Array Slot), f_X10_keepContext_L35 fu M x0 x1 x2 x3 = some (M1, r) → Hp b0 D cy M H → va_S (BA b0) s.heap H locs → lv_has ls 4 [(0, .ref x0), (1, .ref x1), (2, .int x2), (3, .int x3)] → W p l e rm_X10_keepContext s m args below meth c H locs 0 0 (MQ below (Qm b0 D cy M1 (some (.int r))) args s 0 0 (BA b0)) (F0 m 35 ls []) := by
  obtain ⟨hx, hb, hr, hml, hown0, hts, hlk, hK, hN, hb0, hnm⟩ := id CX
  have hown : s.vm.findClass RX10 = some m.cls := hown0
  intro fu
  induction fu with
  | zero =>
    intro M x0 x1 x2 x3 H locs ls hF hP hS hl
    rw [f_X10_keepContext_L35] at hF
    cases hF
  | succ fu ih =>
    intro M x0 x1 x2 x3 H locs ls hF hP hS hl
    rw [f_X10_keepContext_L35] at hF
    refine lv_iload_n hx hb dX10_keepContext_35 rfl (lv_at hl 3 rfl) ?_
    refine lv_aload_n hx hb dX10_keepContext_36 rfl (lv_at hl 1 rfl) ?_
    refine xr_getI hx hb hts iw_X10_keepContext_8 hown hK hP hF 8 2 rfl (by decide) (by decide +kernel) ⟨rfl, rfl, rfl⟩ dX10_keepContext_37 (fun v1 hF => ?_)
    refine lv_icmp_ge (tgt := 69) hx hb dX10_keepContext_40 (by decide) (fun c2 => ?_) (fun c2 => ?_)
    · replace hF := it_t hF c2
      refine lv_iconst (v := 0) hx hb dX10_keepContext_69 (by decide) ?_
      cases hF
      exact W.iret hx hb hr (fun t ht hW => ⟨rfl, by rw [ht]; exact hP, hS.F ht⟩) hS.2.2 dX10_keepContext_70 hlk
    · replace hF := it_f hF c2
      refine lv_aload_n hx hb dX10_keepContext_43 rfl (lv_at hl 1 rfl) ?_
      refine xr_getR hx hb hts iw_X10_keepContext_8 hown hK hP hF 8 0 rfl (by decide) (by decide +kernel) ⟨rfl, rfl, rfl⟩ dX10_keepContext_44 (fun v3 hF => ?_)
      refine lv_iload_n hx hb dX10_keepContext_47 rfl (lv_at hl 3 rfl) ?_
      refine lv_aload_n hx hb dX10_keepContext_48 rfl (lv_at hl 0 rfl) ?_
      refine xr_getR hx hb hts iw_X10_keepContext_10 hown hK hP hF 10 4 rfl (by decide) (by decide +kernel) ⟨rfl, rfl, rfl⟩ dX10_keepContext_49 (fun v4 hF => ?_)
      refine lv_iload_n hx hb dX10_keepContext_52 rfl (lv_at hl 2 rfl) ?_
      refine xr_aR hx hb hK hP hF 3 rfl (by decide) dX10_keepContext_53 (fun v5 hF => ?_)
      refine xr_getR hx hb hts iw_X10_keepContext_1 hown hK hP hF 1 0 rfl (by decide) (by decide +kernel) ⟨rfl, rfl, rfl⟩ dX10_keepContext_54 (fun v6 hF => ?_)
      refine xr_getR hx hb hts iw_X10_keepContext_3 hown hK hP hF 3 0 rfl (by decide) (by decide +kernel) ⟨rfl, rfl, rfl⟩ dX10_keepContext_57 (fun v7 hF => ?_)
      refine lv_iload_n hx hb dX10_keepContext_60 rfl (lv_at hl 3 rfl) ?_
      refine xr_aJ hx hb hK hP hF dX10_keepContext_61 (fun v8 hF => ?_)
      refine xr_wJ hx hb hK hP hS hF dX10_keepContext_62 (fun M9 H locs hF hP hS => ?_)
      refine lv_iinc (v := x3 + 1) (lv' := [(3, .int (x3 + 1)), (0, .ref x0), (1, .ref x1), (2, .int x2)]) hx hb dX10_keepContext_63 hl (k := 3) rfl (by rfl) (by decide) rfl (fun ls hl => ?_)
      refine lv_goto (tgt := 35) hx hb dX10_keepContext_66 (by decide) ?_
      exact ih _ _ _ _ _ _ _ _ hF hP hS (lv_sub hl [1, 2, 3, 0] rfl)
theorem gk_X10_keepContext {M : Mm} {a0 : Nat} {a1 : Nat} {a2 : Int32} {r : (Mm × Int32)} (h : f_X10_keepContext M a0 a1 a2 = some r) : mK M a0 = 11 := by
  unfold f_X10_keepContext at h
  exact (if_some h).1
set_option maxHeartbeats 4000000 in
set_option maxRecDepth 100000 in
theorem ct_X10_keepContext (l : Launch) (b0 : Nat) (D : va_G) (cy : Nat → ClassId) (M : Mm) (a0 : Nat) (a1 : Nat) (a2 : Int32) (M1 : Mm) (r : Int32) (hF : f_X10_keepContext M a0 a1 a2 = some (M1, r)) : Met l yX10_keepContext wsX10_keepContext rm_X10_keepContext (va_Pc [.ref a0, .ref a1, .int a2] (Pm b0 D cy M)) (Qm b0 D cy M1 (some (.int r))) 0 0 (BA b0) := by
  refine ct_of [.ref a0, .ref a1, .int a2] (by decide) rfl ?_
  intro p e s m below meth c CX hP
  obtain ⟨hx, hb, hr, hml, hown0, hts, hlk, hK, hN, hb0, hnm⟩ := id CX
  have hown : s.vm.findClass RX10 = some m.cls := hown0
  have hS : va_S (BA b0) s.heap s.heap [] := va_S.rf
  have hl := lv_entry [.ref a0, .ref a1, .int a2] (n := 4) (Nat.le_of_ble_eq_true rfl)
  generalize (lg_sl [.ref a0, .ref a1, .int a2] ++ List.replicate (4 - (lg_sl [.ref a0, .ref a1, .int a2]).length) Slot.unset).toArray = ls at hl ⊢
  have hl : lv_has ls 4 [(0, .ref a0), (1, .ref a1), (2, .int a2)] := hl
  unfold f_X10_keepContext at hF
  replace hF := (if_some hF).2
  refine lv_iload_n hx hb dX10_keepContext_0 rfl (lv_at hl 2 rfl) ?_
  obtain ⟨v2, h1, hF⟩ := ob_some hF
  refine xr_call1 (va_runS (As := [.int a2]) (rest := []) ⟨hx, hb, hml, hown, hts⟩ (ct_X10_isFlow l b0 D cy M a2 v2 h1) (va_cwS 1 hts gX10_keepContext_X10_isFlow rfl rfl rfl (by decide +kernel) ⟨Nat.le_of_ble_eq_true rfl, Nat.le_of_ble_eq_true rfl⟩) (xp_S hP hK hN hS hb0) rfl rfl hl.1 rfl (lv_room (Nat.le_of_ble_eq_true rfl)) dX10_keepContext_1 ⟨Nat.le_of_ble_eq_true rfl, Nat.le_of_ble_eq_true rfl⟩) hS (fun H locs hP hS => ?_)
  refine lv_if_eq (tgt := 19) hx hb dX10_keepContext_4 (by decide) (fun c3 => ?_) (fun c3 => ?_)
  · replace hF := it_t hF c3
    refine lv_iconst (v := (-1)) hx hb dX10_keepContext_19 (by decide) ?_
    cases hF
    exact W.iret hx hb hr (fun t ht hW => ⟨rfl, by rw [ht]; exact hP, hS.F ht⟩) hS.2.2 dX10_keepContext_20 hlk
  · replace hF := it_f hF c3
    refine lv_aload_n hx hb dX10_keepContext_7 rfl (lv_at hl 0 rfl) ?_
    refine xr_getR hx hb hts iw_X10_keepContext_10 hown hK hP hF 10 4 rfl (by decide) (by decide +kernel) ⟨rfl, rfl, rfl⟩ dX10_keepContext_8 (fun v4 hF => ?_)
    refine lv_iload_n hx hb dX10_keepContext_11 rfl (lv_at hl 2 rfl) ?_
    refine xr_aR hx hb hK hP hF 3 rfl (by decide) dX10_keepContext_12 (fun v5 hF => ?_)
    refine xr_getI hx hb hts iw_X10_keepContext_1 hown hK hP hF 1 3 rfl (by decide) (by decide +kernel) ⟨rfl, rfl, rfl⟩ dX10_keepContext_13 (fun v6 hF => ?_)
    refine lv_if_ne (tgt := 21) hx hb dX10_keepContext_16 (by decide) (fun c7 => ?_) (fun c7 => ?_)
    · replace hF := it_f hF c7
      refine lv_aload_n hx hb dX10_keepContext_21 rfl (lv_at hl 1 rfl) ?_
      refine lv_iconst (v := 4) hx hb dX10_keepContext_22 (by decide) ?_
      refine lv_aload_n hx hb dX10_keepContext_23 rfl (lv_at hl 0 rfl) ?_
      refine xr_getR hx hb hts iw_X10_keepContext_10 hown hK hP hF 10 1 rfl (by decide) (by decide +kernel) ⟨rfl, rfl, rfl⟩ dX10_keepContext_24 (fun v8 hF => ?_)
      refine xr_getI hx hb hts iw_X10_keepContext_6 hown hK hP hF 6 4 rfl (by decide) (by decide +kernel) ⟨rfl, rfl, rfl⟩ dX10_keepContext_27 (fun v9 hF => ?_)
      obtain ⟨M11, h10, hF⟩ := ob_some hF
      refine xr_call0 (va_runV (As := [.int 4, .int v9]) (rest := []) ⟨hx, hb, hml, hown, hts⟩ (ct_X8_holdRow l b0 D cy M a1 4 v9 M11 h10) (cwV 2 hts gX10_keepContext_X8_holdRow rfl rfl rfl (by decide +kernel) ⟨Nat.le_of_ble_eq_true rfl, Nat.le_of_ble_eq_true rfl⟩) (xp_V hP hK hN hS hb0 8 rfl (gk_X8_holdRow h10)) rfl rfl hl.1 rfl (lv_room (Nat.le_of_ble_eq_true rfl)) dX10_keepContext_30 ⟨Nat.le_of_ble_eq_true rfl, Nat.le_of_ble_eq_true rfl⟩) hS (fun H locs hP hS => ?_)
      refine lv_iconst (v := 0) hx hb dX10_keepContext_33 (by decide) ?_
      refine lv_istore_n (lv' := [(3, .int 0), (0, .ref a0), (1, .ref a1), (2, .int a2)]) hx hb dX10_keepContext_34 rfl hl (by decide) (by first | rfl | simp [cat_rf]) (fun ls hl => ?_)
      exact nd_X10_keepContext_35 CX _ _ _ _ _ _ _ _ _ hF hP hS (lv_sub hl [1, 2, 3, 0] rfl)
    · replace hF := it_t hF c7
      refine lv_iconst (v := (-1)) hx hb dX10_keepContext_19 (by decide) ?_
      cases hF
      exact W.iret hx hb hr (fun t ht hW => ⟨rfl, by rw [ht]; exact hP, hS.F ht⟩) hS.2.2 dX10_keepContext_20 hlk
