theorem df_0 : ∀ k, k < 12 → defaultValue (tyX0 k) = if tyO 0 k = 0 then .int 0 else if tyO 0 k = 1 then .long 0 else .null := by
  intro k hk
  rcases (show k = 0 ∨ k = 1 ∨ k = 2 ∨ k = 3 ∨ k = 4 ∨ k = 5 ∨ k = 6 ∨ k = 7 ∨ k = 8 ∨ k = 9 ∨ k = 10 ∨ k = 11 by omega) with rfl | rfl | rfl | rfl | rfl | rfl | rfl | rfl | rfl | rfl | rfl | rfl <;> rfl
theorem df_1 : ∀ k, k < 4 → defaultValue (tyX1 k) = if tyO 1 k = 0 then .int 0 else if tyO 1 k = 1 then .long 0 else .null := by
  intro k hk
  rcases (show k = 0 ∨ k = 1 ∨ k = 2 ∨ k = 3 by omega) with rfl | rfl | rfl | rfl <;> rfl
theorem df_2 : ∀ k, k < 5 → defaultValue (tyX2 k) = if tyO 2 k = 0 then .int 0 else if tyO 2 k = 1 then .long 0 else .null := by
  intro k hk
  rcases (show k = 0 ∨ k = 1 ∨ k = 2 ∨ k = 3 ∨ k = 4 by omega) with rfl | rfl | rfl | rfl | rfl <;> rfl
theorem df_3 : ∀ k, k < 2 → defaultValue (tyX3 k) = if tyO 3 k = 0 then .int 0 else if tyO 3 k = 1 then .long 0 else .null := by
  intro k hk
  rcases (show k = 0 ∨ k = 1 by omega) with rfl | rfl <;> rfl
theorem df_4 : ∀ k, k < 9 → defaultValue (tyX4 k) = if tyO 4 k = 0 then .int 0 else if tyO 4 k = 1 then .long 0 else .null := by
  intro k hk
  rcases (show k = 0 ∨ k = 1 ∨ k = 2 ∨ k = 3 ∨ k = 4 ∨ k = 5 ∨ k = 6 ∨ k = 7 ∨ k = 8 by omega) with rfl | rfl | rfl | rfl | rfl | rfl | rfl | rfl | rfl <;> rfl
theorem df_5 : ∀ k, k < 2 → defaultValue (tyX5 k) = if tyO 5 k = 0 then .int 0 else if tyO 5 k = 1 then .long 0 else .null := by
  intro k hk
  rcases (show k = 0 ∨ k = 1 by omega) with rfl | rfl <;> rfl
theorem df_6 : ∀ k, k < 5 → defaultValue (tyX6 k) = if tyO 6 k = 0 then .int 0 else if tyO 6 k = 1 then .long 0 else .null := by
  intro k hk
  rcases (show k = 0 ∨ k = 1 ∨ k = 2 ∨ k = 3 ∨ k = 4 by omega) with rfl | rfl | rfl | rfl | rfl <;> rfl
theorem df_7 : ∀ k, k < 4 → defaultValue (tyX7 k) = if tyO 7 k = 0 then .int 0 else if tyO 7 k = 1 then .long 0 else .null := by
  intro k hk
  rcases (show k = 0 ∨ k = 1 ∨ k = 2 ∨ k = 3 by omega) with rfl | rfl | rfl | rfl <;> rfl
theorem df_8 : ∀ k, k < 5 → defaultValue (tyX8 k) = if tyO 8 k = 0 then .int 0 else if tyO 8 k = 1 then .long 0 else .null := by
  intro k hk
  rcases (show k = 0 ∨ k = 1 ∨ k = 2 ∨ k = 3 ∨ k = 4 by omega) with rfl | rfl | rfl | rfl | rfl <;> rfl
theorem df_9 : ∀ k, k < 7 → defaultValue (tyX9 k) = if tyO 9 k = 0 then .int 0 else if tyO 9 k = 1 then .long 0 else .null := by
  intro k hk
  rcases (show k = 0 ∨ k = 1 ∨ k = 2 ∨ k = 3 ∨ k = 4 ∨ k = 5 ∨ k = 6 by omega) with rfl | rfl | rfl | rfl | rfl | rfl | rfl <;> rfl
theorem df_10 : ∀ k, k < 12 → defaultValue (tyX10 k) = if tyO 10 k = 0 then .int 0 else if tyO 10 k = 1 then .long 0 else .null := by
  intro k hk
  rcases (show k = 0 ∨ k = 1 ∨ k = 2 ∨ k = 3 ∨ k = 4 ∨ k = 5 ∨ k = 6 ∨ k = 7 ∨ k = 8 ∨ k = 9 ∨ k = 10 ∨ k = 11 by omega) with rfl | rfl | rfl | rfl | rfl | rfl | rfl | rfl | rfl | rfl | rfl | rfl <;> rfl
theorem df_11 : ∀ k, k < 58 → defaultValue (tyX11 k) = if tyO 11 k = 0 then .int 0 else if tyO 11 k = 1 then .long 0 else .null := by
  intro k hk
  rcases (show k = 0 ∨ k = 1 ∨ k = 2 ∨ k = 3 ∨ k = 4 ∨ k = 5 ∨ k = 6 ∨ k = 7 ∨ k = 8 ∨ k = 9 ∨ k = 10 ∨ k = 11 ∨ k = 12 ∨ k = 13 ∨ k = 14 ∨ k = 15 ∨ k = 16 ∨ k = 17 ∨ k = 18 ∨ k = 19 ∨ k = 20 ∨ k = 21 ∨ k = 22 ∨ k = 23 ∨ k = 24 ∨ k = 25 ∨ k = 26 ∨ k = 27 ∨ k = 28 ∨ k = 29 ∨ k = 30 ∨ k = 31 ∨ k = 32 ∨ k = 33 ∨ k = 34 ∨ k = 35 ∨ k = 36 ∨ k = 37 ∨ k = 38 ∨ k = 39 ∨ k = 40 ∨ k = 41 ∨ k = 42 ∨ k = 43 ∨ k = 44 ∨ k = 45 ∨ k = 46 ∨ k = 47 ∨ k = 48 ∨ k = 49 ∨ k = 50 ∨ k = 51 ∨ k = 52 ∨ k = 53 ∨ k = 54 ∨ k = 55 ∨ k = 56 ∨ k = 57 by omega) with rfl | rfl | rfl | rfl | rfl | rfl | rfl | rfl | rfl | rfl | rfl | rfl | rfl | rfl | rfl | rfl | rfl | rfl | rfl | rfl | rfl | rfl | rfl | rfl | rfl | rfl | rfl | rfl | rfl | rfl | rfl | rfl | rfl | rfl | rfl | rfl | rfl | rfl | rfl | rfl | rfl | rfl | rfl | rfl | rfl | rfl | rfl | rfl | rfl | rfl | rfl | rfl | rfl | rfl | rfl | rfl | rfl | rfl <;> rfl
/-! X3_init -/
theorem iw_X3_init_3 : ∀ w ∈ u_ws RX3 TX3 2, w ∈ wsX3_init := by decide +kernel
abbrev rm_X3_init : Room := { frames := 1, cells := 1, slots := 8, locals := 20 }
theorem gk_X3_init {M : Mm} {a0 : Nat} {r : Mm} (h : f_X3_init M a0 = some r) : mK M a0 = 4 := by
  unfold f_X3_init at h
  exact (if_some h).1
set_option maxHeartbeats 4000000 in
set_option maxRecDepth 100000 in
theorem ct_X3_init (l : Launch) (b0 : Nat) (D : va_G) (cy : Nat → ClassId) (M : Mm) (a0 : Nat) (M1 : Mm) (hF : f_X3_init M a0 = some M1) : Met l yX3_init wsX3_init rm_X3_init (va_Pc [.ref a0] (Pm b0 D cy M)) (Qm b0 D cy M1 none) 1 8 (BA b0) := by
  refine ct_of [.ref a0] (by decide) rfl ?_
  intro p e s m below meth c CX hP
  obtain ⟨hx, hb, hr, hml, hown0, hts, hlk, hK, hN, hb0, hnm⟩ := id CX
  have hown : s.vm.findClass RX3 = some m.cls := hown0
  have hS : va_S (BA b0) s.heap s.heap [] := va_S.rf
  have hl := lv_entry [.ref a0] (n := 1) (Nat.le_of_ble_eq_true rfl)
  generalize (lg_sl [.ref a0] ++ List.replicate (1 - (lg_sl [.ref a0]).length) Slot.unset).toArray = ls at hl ⊢
  have hl : lv_has ls 1 [(0, .ref a0)] := hl
  unfold f_X3_init at hF
  replace hF := (if_some hF).2
  refine lv_aload_n hx hb dX3_init_0 rfl (lv_at hl 0 rfl) ?_
  refine W.objInit hx hb hown (hts (.methodLink RX3 3 objectInit) (by decide +kernel)) (hts (.instanceMethod objectInit) (by decide +kernel)) (hts (.code objectInit ⟨#[0xb1]⟩ 1 none) (by decide +kernel)) rfl (by rw [hml]; exact hl.1) rfl dX3_init_1 (Nat.le_of_ble_eq_true rfl) (Nat.le_of_ble_eq_true rfl) ?_
  refine W.eq (g2 := F0 m 4 ls []) rfl ?_
  refine lv_aload_n hx hb dX3_init_4 rfl (lv_at hl 0 rfl) ?_
  refine lv_bipush (v := 8) hx hb dX3_init_5 (by decide) ?_
  refine xr_newA hx hb hts hK hP hS hb0 hF (by decide +kernel) (Or.inr (Or.inl ⟨rfl, rfl⟩)) (by decide) (Nat.le_of_ble_eq_true rfl) (Nat.le_of_ble_eq_true rfl) dX3_init_7 (fun M1 H hF hP hS => ?_)
  refine W.cs (cells' := 1) (slots' := 8) rfl rfl ?_
  refine xr_putR hx hb hts iw_X3_init_3 hown hK hP hS (v := (some (mS M))) hF 3 0 rfl (by decide) tyX3 tyX3_ok nmX3 (by decide +kernel) (Or.inr ⟨rfl, hnm, rfl⟩) (Or.inr ⟨_, rfl⟩) ⟨rfl, rfl, rfl⟩ dX3_init_9 (fun M2 H locs hF hP hS => ?_)
  cases hF
  exact W.vret hx hb hr (fun t ht hW => ⟨rfl, by rw [ht]; exact hP, hS.F ht⟩) hS.2.2 dX3_init_12 hlk
/-! X0_init -/
theorem iw_X0_init_0 : ∀ w ∈ u_ws RX0 TX0 12, w ∈ wsX0_init := by decide +kernel
theorem iw_X0_init_3 : ∀ w ∈ u_ws RX3 TX3 2, w ∈ wsX0_init := by decide +kernel
abbrev rm_X0_init : Room := { frames := 2, cells := 7, slots := 42, locals := 40 }
theorem gk_X0_init {M : Mm} {a0 : Nat} {r : Mm} (h : f_X0_init M a0 = some r) : mK M a0 = 1 := by
  unfold f_X0_init at h
  exact (if_some h).1
set_option maxHeartbeats 4000000 in
set_option maxRecDepth 100000 in
theorem ct_X0_init (l : Launch) (b0 : Nat) (D : va_G) (cy : Nat → ClassId) (M : Mm) (a0 : Nat) (M1 : Mm) (hF : f_X0_init M a0 = some M1) : Met l yX0_init wsX0_init rm_X0_init (va_Pc [.ref a0] (Pm b0 D cy M)) (Qm b0 D cy M1 none) 7 42 (BA b0) := by
  refine ct_of [.ref a0] (by decide) rfl ?_
  intro p e s m below meth c CX hP
  obtain ⟨hx, hb, hr, hml, hown0, hts, hlk, hK, hN, hb0, hnm⟩ := id CX
  have hown : s.vm.findClass RX0 = some m.cls := hown0
  have hS : va_S (BA b0) s.heap s.heap [] := va_S.rf
  have hl := lv_entry [.ref a0] (n := 1) (Nat.le_of_ble_eq_true rfl)
  generalize (lg_sl [.ref a0] ++ List.replicate (1 - (lg_sl [.ref a0]).length) Slot.unset).toArray = ls at hl ⊢
  have hl : lv_has ls 1 [(0, .ref a0)] := hl
  unfold f_X0_init at hF
  replace hF := (if_some hF).2
  refine lv_aload_n hx hb dX0_init_0 rfl (lv_at hl 0 rfl) ?_
  refine W.objInit hx hb hown (hts (.methodLink RX0 3 objectInit) (by decide +kernel)) (hts (.instanceMethod objectInit) (by decide +kernel)) (hts (.code objectInit ⟨#[0xb1]⟩ 1 none) (by decide +kernel)) rfl (by rw [hml]; exact hl.1) rfl dX0_init_1 (Nat.le_of_ble_eq_true rfl) (Nat.le_of_ble_eq_true rfl) ?_
  refine W.eq (g2 := F0 m 4 ls []) rfl ?_
  refine lv_aload_n hx hb dX0_init_4 rfl (lv_at hl 0 rfl) ?_
  refine xr_new hx hb hts iw_X0_init_3 hown hK hP hS hb0 3 rfl tyX3 tyX3_ok df_3 (by decide +kernel) (by decide +kernel) (by decide +kernel) (Nat.le_of_ble_eq_true rfl) (Nat.le_of_ble_eq_true rfl) dX0_init_5 (kd := 4) rfl (fun H hP hS => ?_)
  refine W.cs (cells' := 1) (slots' := 2) rfl rfl ?_
  refine lv_dup hx hb dX0_init_8 rfl ?_
  obtain ⟨M2, h1, hF⟩ := ob_some hF
  refine xr_call0 (va_runIN (As := []) (rest := [.ref (mS M), .ref a0]) ⟨hx, hb, hml, hown, hts⟩ (ct_X3_init l b0 D cy (nO M 4) (mS M) M2 h1) ⟨va_cnB 0 hts gX0_init_X3_init_n11 rfl rfl rfl (hN.1 (RX0, 11, yX3_init, "HeaderLine") (by decide +kernel)) (hts (.initialized RX3) (by decide +kernel)) (by decide +kernel) ⟨Nat.le_of_ble_eq_true rfl, Nat.le_of_ble_eq_true rfl⟩, rfl, hts (.instanceMethod yX3_init) (by decide +kernel)⟩ (xp_S hP hK hN hS hb0) rfl rfl hl.1 rfl (lv_room (Nat.le_of_ble_eq_true rfl)) dX0_init_9 ⟨Nat.le_of_ble_eq_true rfl, Nat.le_of_ble_eq_true rfl⟩) hS (fun H locs hP hS => ?_)
  refine W.cs (cells' := 2) (slots' := 10) rfl rfl ?_
  refine xr_putR hx hb hts iw_X0_init_0 hown hK hP hS (v := (some (mS M))) hF 0 0 rfl (by decide) tyX0 tyX0_ok nmX0 (by decide +kernel) (Or.inr ⟨rfl, hnm, rfl⟩) (Or.inl ⟨_, rfl⟩) ⟨rfl, rfl, rfl⟩ dX0_init_12 (fun M3 H locs hF hP hS => ?_)
  refine lv_aload_n hx hb dX0_init_15 rfl (lv_at hl 0 rfl) ?_
  refine lv_bipush (v := 8) hx hb dX0_init_16 (by decide) ?_
  refine xr_newA hx hb hts hK hP hS hb0 hF (by decide +kernel) (Or.inl ⟨rfl, rfl⟩) (by decide) (Nat.le_of_ble_eq_true rfl) (Nat.le_of_ble_eq_true rfl) dX0_init_18 (fun M4 H hF hP hS => ?_)
  refine W.cs (cells' := 3) (slots' := 18) rfl rfl ?_
  refine xr_putR hx hb hts iw_X0_init_0 hown hK hP hS (v := (some (mS M3))) hF 0 1 rfl (by decide) tyX0 tyX0_ok nmX0 (by decide +kernel) (Or.inr ⟨rfl, hnm, rfl⟩) (Or.inr ⟨_, rfl⟩) ⟨rfl, rfl, rfl⟩ dX0_init_20 (fun M5 H locs hF hP hS => ?_)
  refine lv_aload_n hx hb dX0_init_23 rfl (lv_at hl 0 rfl) ?_
  refine lv_bipush (v := 8) hx hb dX0_init_24 (by decide) ?_
  refine xr_newA hx hb hts hK hP hS hb0 hF (by decide +kernel) (Or.inl ⟨rfl, rfl⟩) (by decide) (Nat.le_of_ble_eq_true rfl) (Nat.le_of_ble_eq_true rfl) dX0_init_26 (fun M6 H hF hP hS => ?_)
  refine W.cs (cells' := 4) (slots' := 26) rfl rfl ?_
  refine xr_putR hx hb hts iw_X0_init_0 hown hK hP hS (v := (some (mS M5))) hF 0 2 rfl (by decide) tyX0 tyX0_ok nmX0 (by decide +kernel) (Or.inr ⟨rfl, hnm, rfl⟩) (Or.inr ⟨_, rfl⟩) ⟨rfl, rfl, rfl⟩ dX0_init_28 (fun M7 H locs hF hP hS => ?_)
  refine lv_aload_n hx hb dX0_init_31 rfl (lv_at hl 0 rfl) ?_
  refine lv_bipush (v := 8) hx hb dX0_init_32 (by decide) ?_
  refine xr_newA hx hb hts hK hP hS hb0 hF (by decide +kernel) (Or.inl ⟨rfl, rfl⟩) (by decide) (Nat.le_of_ble_eq_true rfl) (Nat.le_of_ble_eq_true rfl) dX0_init_34 (fun M8 H hF hP hS => ?_)
  refine W.cs (cells' := 5) (slots' := 34) rfl rfl ?_
  refine xr_putR hx hb hts iw_X0_init_0 hown hK hP hS (v := (some (mS M7))) hF 0 3 rfl (by decide) tyX0 tyX0_ok nmX0 (by decide +kernel) (Or.inr ⟨rfl, hnm, rfl⟩) (Or.inr ⟨_, rfl⟩) ⟨rfl, rfl, rfl⟩ dX0_init_36 (fun M9 H locs hF hP hS => ?_)
  refine lv_aload_n hx hb dX0_init_39 rfl (lv_at hl 0 rfl) ?_
  refine lv_bipush (v := 8) hx hb dX0_init_40 (by decide) ?_
  refine xr_newA hx hb hts hK hP hS hb0 hF (by decide +kernel) (Or.inr (Or.inl ⟨rfl, rfl⟩)) (by decide) (Nat.le_of_ble_eq_true rfl) (Nat.le_of_ble_eq_true rfl) dX0_init_42 (fun M10 H hF hP hS => ?_)
  refine W.cs (cells' := 6) (slots' := 42) rfl rfl ?_
  refine xr_putR hx hb hts iw_X0_init_0 hown hK hP hS (v := (some (mS M9))) hF 0 4 rfl (by decide) tyX0 tyX0_ok nmX0 (by decide +kernel) (Or.inr ⟨rfl, hnm, rfl⟩) (Or.inr ⟨_, rfl⟩) ⟨rfl, rfl, rfl⟩ dX0_init_44 (fun M11 H locs hF hP hS => ?_)
  refine lv_aload_n hx hb dX0_init_47 rfl (lv_at hl 0 rfl) ?_
  refine lv_iconst (v := 0) hx hb dX0_init_48 (by decide) ?_
  refine xr_newA hx hb hts hK hP hS hb0 hF (by decide +kernel) (Or.inl ⟨rfl, rfl⟩) (by decide) (Nat.le_of_ble_eq_true rfl) (Nat.le_of_ble_eq_true rfl) dX0_init_49 (fun M12 H hF hP hS => ?_)
  refine W.cs (cells' := 7) (slots' := 42) rfl rfl ?_
  refine xr_putR hx hb hts iw_X0_init_0 hown hK hP hS (v := (some (mS M11))) hF 0 9 rfl (by decide) tyX0 tyX0_ok nmX0 (by decide +kernel) (Or.inl rfl) (Or.inr ⟨_, rfl⟩) ⟨rfl, rfl, rfl⟩ dX0_init_51 (fun M13 H locs hF hP hS => ?_)
  cases hF
  exact W.vret hx hb hr (fun t ht hW => ⟨rfl, by rw [ht]; exact hP, hS.F ht⟩) hS.2.2 dX0_init_54 hlk
/-! X0_read -/
theorem iw_X0_read_0 : ∀ w ∈ u_ws RX0 TX0 12, w ∈ wsX0_read := by decide +kernel
abbrev rm_X0_read : Room := { frames := 0, cells := 0, slots := 0, locals := 0 }
set_option maxHeartbeats 4000000 in
set_option maxRecDepth 100000 in
theorem nd_X0_read_36 {p : Program} {l : Launch} {e : Env} {s : State} {m : MethodId} {args : Array Value} {below : List Frame} {meth : Method} {c : Code} {b0 : Nat} {D : va_G} {cy : Nat → ClassId} {M1 : Mm} {r : Int64} (CX : Cx yX0_read cX0_read 5 (some .long) wsX0_read b0 D cy p s m args meth c) : ∀ (fu : Nat), ∀ (M : Mm) (x0 : Nat) (x1 : Int32) (x2 : Int64) (x4 : Int32) (H : Heap) (locs : List Loc) (ls : Array Slot), f_X0_read_L36 fu M x0 x1 x2 x4 = some (M1, r) → Hp b0 D cy M H → va_S (BA b0) s.heap H locs → lv_has ls 5 [(0, .ref x0), (1, .int x1), (2, .long x2), (4, .int x4)] → W p l e rm_X0_read s m args below meth c H locs 0 0 (MQ below (Qm b0 D cy M1 (some (.long r))) args s 0 0 (BA b0)) (F0 m 36 ls []) := by
  obtain ⟨hx, hb, hr, hml, hown0, hts, hlk, hK, hN, hb0, hnm⟩ := id CX
  have hown : s.vm.findClass RX0 = some m.cls := hown0
  intro fu
  induction fu with
  | zero =>
    intro M x0 x1 x2 x4 H locs ls hF hP hS hl
    rw [f_X0_read_L36] at hF
    cases hF
  | succ fu ih =>
    intro M x0 x1 x2 x4 H locs ls hF hP hS hl
    rw [f_X0_read_L36] at hF
    refine lv_iload hx hb dX0_read_36 (lv_at hl 3 rfl) ?_
    refine lv_iload_n hx hb dX0_read_38 rfl (lv_at hl 1 rfl) ?_
    refine lv_icmp_ge (tgt := 88) hx hb dX0_read_39 (by decide) (fun c1 => ?_) (fun c1 => ?_)
    · replace hF := it_t hF c1
      refine lv_lload_n hx hb dX0_read_88 rfl (lv_at hl 2 rfl) ?_
      cases hF
      exact W.lret hx hb hr (fun t ht hW => ⟨rfl, by rw [ht]; exact hP, hS.F ht⟩) hS.2.2 dX0_read_89 hlk
    · replace hF := it_f hF c1
      refine lv_lload_n hx hb dX0_read_42 rfl (lv_at hl 2 rfl) ?_
      refine lv_iconst (v := 1) hx hb dX0_read_43 (by decide) ?_
      refine lv_lshl hx hb dX0_read_44 rfl ?_
      refine lv_aload_n hx hb dX0_read_45 rfl (lv_at hl 0 rfl) ?_
      refine xr_getR hx hb hts iw_X0_read_0 hown hK hP hF 0 9 rfl (by decide) (by decide +kernel) ⟨rfl, rfl, rfl⟩ dX0_read_46 (fun v2 hF => ?_)
      refine lv_aload_n hx hb dX0_read_49 rfl (lv_at hl 0 rfl) ?_
      refine xr_getI hx hb hts iw_X0_read_0 hown hK hP hF 0 10 rfl (by decide) (by decide +kernel) ⟨rfl, rfl, rfl⟩ dX0_read_50 (fun v3 hF => ?_)
      refine lv_iconst (v := 3) hx hb dX0_read_53 (by decide) ?_
      refine lv_ishr hx hb dX0_read_54 ?_
      refine xr_aI hx hb hK hP hF dX0_read_55 (fun v4 hF => ?_)
      refine lv_bipush (v := 7) hx hb dX0_read_56 (by decide) ?_
      refine lv_aload_n hx hb dX0_read_58 rfl (lv_at hl 0 rfl) ?_
      refine xr_getI hx hb hts iw_X0_read_0 hown hK hP hF 0 10 rfl (by decide) (by decide +kernel) ⟨rfl, rfl, rfl⟩ dX0_read_59 (fun v5 hF => ?_)
      refine lv_bipush (v := 7) hx hb dX0_read_62 (by decide) ?_
      refine lv_iand hx hb dX0_read_64 ?_
      refine lv_isub hx hb dX0_read_65 ?_
      refine lv_ishr hx hb dX0_read_66 ?_
      refine lv_iconst (v := 1) hx hb dX0_read_67 (by decide) ?_
      refine lv_iand hx hb dX0_read_68 ?_
      refine lv_i2l hx hb dX0_read_69 rfl ?_
      refine lv_lor hx hb dX0_read_70 ?_
      refine lv_lstore_n (lv' := [(2, .long ((x2 <<< ((1 : Int32).toInt64 &&& 63)) ||| (((v4 >>> ((7 - (v5 &&& 7)) &&& 31)) &&& 1).toInt64))), (0, .ref x0), (1, .int x1), (4, .int x4)]) hx hb dX0_read_71 rfl hl (by decide) (by first | rfl | simp [cat_rf]) (fun ls hl => ?_)
      refine lv_aload_n hx hb dX0_read_72 rfl (lv_at hl 1 rfl) ?_
      refine lv_dup hx hb dX0_read_73 rfl ?_
      refine xr_getI hx hb hts iw_X0_read_0 hown hK hP hF 0 10 rfl (by decide) (by decide +kernel) ⟨rfl, rfl, rfl⟩ dX0_read_74 (fun v6 hF => ?_)
      refine lv_iconst (v := 1) hx hb dX0_read_77 (by decide) ?_
      refine lv_iadd hx hb dX0_read_78 ?_
      refine xr_putI hx hb hts iw_X0_read_0 hown hK hP hS hF 0 10 rfl (by decide) tyX0 tyX0_ok nmX0 (by decide +kernel) (Or.inl rfl) rfl ⟨rfl, rfl, rfl⟩ dX0_read_79 (fun M7 H locs hF hP hS => ?_)
      refine lv_iinc (v := x4 + 1) (lv' := [(4, .int (x4 + 1)), (2, .long ((x2 <<< ((1 : Int32).toInt64 &&& 63)) ||| (((v4 >>> ((7 - (v5 &&& 7)) &&& 31)) &&& 1).toInt64))), (0, .ref x0), (1, .int x1)]) hx hb dX0_read_82 hl (k := 3) rfl (by rfl) (by decide) rfl (fun ls hl => ?_)
      refine lv_goto (tgt := 36) hx hb dX0_read_85 (by decide) ?_
      exact ih _ _ _ _ _ _ _ _ hF hP hS (lv_sub hl [2, 3, 1, 0] rfl)
theorem gk_X0_read {M : Mm} {a0 : Nat} {a1 : Int32} {r : (Mm × Int64)} (h : f_X0_read M a0 a1 = some r) : mK M a0 = 1 := by
  unfold f_X0_read at h
  exact (if_some h).1
set_option maxHeartbeats 4000000 in
set_option maxRecDepth 100000 in
theorem ct_X0_read (l : Launch) (b0 : Nat) (D : va_G) (cy : Nat → ClassId) (M : Mm) (a0 : Nat) (a1 : Int32) (M1 : Mm) (r : Int64) (hF : f_X0_read M a0 a1 = some (M1, r)) : Met l yX0_read wsX0_read rm_X0_read (va_Pc [.ref a0, .int a1] (Pm b0 D cy M)) (Qm b0 D cy M1 (some (.long r))) 0 0 (BA b0) := by
  refine ct_of [.ref a0, .int a1] (by decide) rfl ?_
  intro p e s m below meth c CX hP
  obtain ⟨hx, hb, hr, hml, hown0, hts, hlk, hK, hN, hb0, hnm⟩ := id CX
  have hown : s.vm.findClass RX0 = some m.cls := hown0
  have hS : va_S (BA b0) s.heap s.heap [] := va_S.rf
  have hl := lv_entry [.ref a0, .int a1] (n := 5) (Nat.le_of_ble_eq_true rfl)
  generalize (lg_sl [.ref a0, .int a1] ++ List.replicate (5 - (lg_sl [.ref a0, .int a1]).length) Slot.unset).toArray = ls at hl ⊢
  have hl : lv_has ls 5 [(0, .ref a0), (1, .int a1)] := hl
  unfold f_X0_read at hF
  replace hF := (if_some hF).2
  refine lv_aload_n hx hb dX0_read_0 rfl (lv_at hl 0 rfl) ?_
  refine xr_getI hx hb hts iw_X0_read_0 hown hK hP hF 0 11 rfl (by decide) (by decide +kernel) ⟨rfl, rfl, rfl⟩ dX0_read_1 (fun v1 hF => ?_)
  refine lv_if_ne (tgt := 24) hx hb dX0_read_4 (by decide) (fun c2 => ?_) (fun c2 => ?_)
  · replace hF := it_f hF c2
    refine lv_aload_n hx hb dX0_read_24 rfl (lv_at hl 0 rfl) ?_
    refine lv_iconst (v := 1) hx hb dX0_read_25 (by decide) ?_
    refine xr_putZ hx hb hts iw_X0_read_0 hown hK hP hS hF 0 11 rfl (by decide) tyX0 tyX0_ok nmX0 (by decide +kernel) (Or.inl rfl) rfl ⟨rfl, rfl, rfl⟩ dX0_read_26 (fun M3 H locs hF hP hS => ?_)
    refine lv_lconst (v := 0) hx hb dX0_read_29 (by decide) ?_
    cases hF
    exact W.lret hx hb hr (fun t ht hW => ⟨rfl, by rw [ht]; exact hP, hS.F ht⟩) hS.2.2 dX0_read_30 hlk
  · replace hF := it_t hF c2
    refine lv_aload_n hx hb dX0_read_7 rfl (lv_at hl 0 rfl) ?_
    refine xr_getI hx hb hts iw_X0_read_0 hown hK hP hF 0 10 rfl (by decide) (by decide +kernel) ⟨rfl, rfl, rfl⟩ dX0_read_8 (fun v4 hF => ?_)
    refine lv_iload_n hx hb dX0_read_11 rfl (lv_at hl 1 rfl) ?_
    refine lv_iadd hx hb dX0_read_12 ?_
    refine lv_aload_n hx hb dX0_read_13 rfl (lv_at hl 0 rfl) ?_
    refine xr_getR hx hb hts iw_X0_read_0 hown hK hP hF 0 9 rfl (by decide) (by decide +kernel) ⟨rfl, rfl, rfl⟩ dX0_read_14 (fun v5 hF => ?_)
    refine xr_aL hx hb hK hP hF dX0_read_17 (fun v6 hF => ?_)
    refine lv_bipush (v := 8) hx hb dX0_read_18 (by decide) ?_
    refine lv_imul hx hb dX0_read_20 ?_
    refine lv_icmp_le (tgt := 31) hx hb dX0_read_21 (by decide) (fun c7 => ?_) (fun c7 => ?_)
    · replace hF := it_t hF c7
      refine lv_lconst (v := 0) hx hb dX0_read_31 (by decide) ?_
      refine lv_lstore_n (lv' := [(2, .long 0), (0, .ref a0), (1, .int a1)]) hx hb dX0_read_32 rfl hl (by decide) (by first | rfl | simp [cat_rf]) (fun ls hl => ?_)
      refine lv_iconst (v := 0) hx hb dX0_read_33 (by decide) ?_
      refine lv_istore (lv' := [(4, .int 0), (2, .long 0), (0, .ref a0), (1, .int a1)]) hx hb dX0_read_34 hl (by decide) (by first | rfl | simp [cat_rf]) (fun ls hl => ?_)
      exact nd_X0_read_36 CX _ _ _ _ _ _ _ _ _ hF hP hS (lv_sub hl [2, 3, 1, 0] rfl)
    · replace hF := it_f hF c7
      refine lv_aload_n hx hb dX0_read_24 rfl (lv_at hl 0 rfl) ?_
      refine lv_iconst (v := 1) hx hb dX0_read_25 (by decide) ?_
      refine xr_putZ hx hb hts iw_X0_read_0 hown hK hP hS hF 0 11 rfl (by decide) tyX0 tyX0_ok nmX0 (by decide +kernel) (Or.inl rfl) rfl ⟨rfl, rfl, rfl⟩ dX0_read_26 (fun M8 H locs hF hP hS => ?_)
      refine lv_lconst (v := 0) hx hb dX0_read_29 (by decide) ?_
      cases hF
      exact W.lret hx hb hr (fun t ht hW => ⟨rfl, by rw [ht]; exact hP, hS.F ht⟩) hS.2.2 dX0_read_30 hlk
/-! X0_readValue -/
theorem iw_X0_readValue_0 : ∀ w ∈ u_ws RX0 TX0 12, w ∈ wsX0_readValue := by decide +kernel
abbrev rm_X0_readValue : Room := { frames := 1, cells := 0, slots := 0, locals := 24 }
theorem gk_X0_readValue {M : Mm} {a0 : Nat} {a1 : Int32} {a2 : Int32} {a3 : Int32} {r : Mm} (h : f_X0_readValue M a0 a1 a2 a3 = some r) : mK M a0 = 1 := by
  unfold f_X0_readValue at h
  exact (if_some h).1
set_option maxHeartbeats 4000000 in
set_option maxRecDepth 100000 in
theorem ct_X0_readValue (l : Launch) (b0 : Nat) (D : va_G) (cy : Nat → ClassId) (M : Mm) (a0 : Nat) (a1 : Int32) (a2 : Int32) (a3 : Int32) (M1 : Mm) (hF : f_X0_readValue M a0 a1 a2 a3 = some M1) : Met l yX0_readValue wsX0_readValue rm_X0_readValue (va_Pc [.ref a0, .int a1, .int a2, .int a3] (Pm b0 D cy M)) (Qm b0 D cy M1 none) 0 0 (BA b0) := by
  refine ct_of [.ref a0, .int a1, .int a2, .int a3] (by decide) rfl ?_
  intro p e s m below meth c CX hP
  obtain ⟨hx, hb, hr, hml, hown0, hts, hlk, hK, hN, hb0, hnm⟩ := id CX
  have hown : s.vm.findClass RX0 = some m.cls := hown0
  have hS : va_S (BA b0) s.heap s.heap [] := va_S.rf
  have hl := lv_entry [.ref a0, .int a1, .int a2, .int a3] (n := 4) (Nat.le_of_ble_eq_true rfl)
  generalize (lg_sl [.ref a0, .int a1, .int a2, .int a3] ++ List.replicate (4 - (lg_sl [.ref a0, .int a1, .int a2, .int a3]).length) Slot.unset).toArray = ls at hl ⊢
  have hl : lv_has ls 4 [(0, .ref a0), (1, .int a1), (2, .int a2), (3, .int a3)] := hl
  unfold f_X0_readValue at hF
  replace hF := (if_some hF).2
  refine lv_aload_n hx hb dX0_readValue_0 rfl (lv_at hl 0 rfl) ?_
  refine xr_getR hx hb hts iw_X0_readValue_0 hown hK hP hF 0 2 rfl (by decide) (by decide +kernel) ⟨rfl, rfl, rfl⟩ dX0_readValue_1 (fun v1 hF => ?_)
  refine lv_iload_n hx hb dX0_readValue_4 rfl (lv_at hl 1 rfl) ?_
  refine lv_iload_n hx hb dX0_readValue_5 rfl (lv_at hl 2 rfl) ?_
  refine xr_wI hx hb hK hP hS hF dX0_readValue_6 (fun M2 H locs hF hP hS => ?_)
  refine lv_aload_n hx hb dX0_readValue_7 rfl (lv_at hl 0 rfl) ?_
  refine xr_getR hx hb hts iw_X0_readValue_0 hown hK hP hF 0 3 rfl (by decide) (by decide +kernel) ⟨rfl, rfl, rfl⟩ dX0_readValue_8 (fun v3 hF => ?_)
  refine lv_iload_n hx hb dX0_readValue_11 rfl (lv_at hl 1 rfl) ?_
  refine lv_iload_n hx hb dX0_readValue_12 rfl (lv_at hl 3 rfl) ?_
  refine xr_wI hx hb hK hP hS hF dX0_readValue_13 (fun M4 H locs hF hP hS => ?_)
  refine lv_aload_n hx hb dX0_readValue_14 rfl (lv_at hl 0 rfl) ?_
  refine xr_getR hx hb hts iw_X0_readValue_0 hown hK hP hF 0 4 rfl (by decide) (by decide +kernel) ⟨rfl, rfl, rfl⟩ dX0_readValue_15 (fun v5 hF => ?_)
  refine lv_iload_n hx hb dX0_readValue_18 rfl (lv_at hl 1 rfl) ?_
  refine lv_aload_n hx hb dX0_readValue_19 rfl (lv_at hl 0 rfl) ?_
  refine lv_iload_n hx hb dX0_readValue_20 rfl (lv_at hl 3 rfl) ?_
  obtain ⟨M7, v8, h6, hF⟩ := ob2_some hF
  refine xr_call1 (va_runV (As := [.int a3]) (rest := [.int a1, .ref v5]) ⟨hx, hb, hml, hown, hts⟩ (ct_X0_read l b0 D cy M4 a0 a3 M7 v8 h6) (cwV 1 hts gX0_readValue_X0_read rfl rfl rfl (by decide +kernel) ⟨Nat.le_of_ble_eq_true rfl, Nat.le_of_ble_eq_true rfl⟩) (xp_V hP hK hN hS hb0 0 rfl (gk_X0_read h6)) rfl rfl hl.1 rfl (lv_room (Nat.le_of_ble_eq_true rfl)) dX0_readValue_21 ⟨Nat.le_of_ble_eq_true rfl, Nat.le_of_ble_eq_true rfl⟩) hS (fun H locs hP hS => ?_)
  refine xr_wJ hx hb hK hP hS hF dX0_readValue_24 (fun M9 H locs hF hP hS => ?_)
  cases hF
  exact W.vret hx hb hr (fun t ht hW => ⟨rfl, by rw [ht]; exact hP, hS.F ht⟩) hS.2.2 dX0_readValue_25 hlk
/-! X6_has -/
theorem iw_X6_has_6 : ∀ w ∈ u_ws RX6 TX6 5, w ∈ wsX6_has := by decide +kernel
abbrev rm_X6_has : Room := { frames := 0, cells := 0, slots := 0, locals := 0 }
theorem gk_X6_has {M : Mm} {a0 : Nat} {a1 : Int32} {r : Int32} (h : f_X6_has M a0 a1 = some r) : mK M a0 = 7 := by
  unfold f_X6_has at h
  exact (if_some h).1
set_option maxHeartbeats 4000000 in
set_option maxRecDepth 100000 in
theorem ct_X6_has (l : Launch) (b0 : Nat) (D : va_G) (cy : Nat → ClassId) (M : Mm) (a0 : Nat) (a1 : Int32) (r : Int32) (hF : f_X6_has M a0 a1 = some r) : Met l yX6_has wsX6_has rm_X6_has (va_Pc [.ref a0, .int a1] (Pm b0 D cy M)) (Qm b0 D cy M (some (.int r))) 0 0 (BA b0) := by
  refine ct_of [.ref a0, .int a1] (by decide) rfl ?_
  intro p e s m below meth c CX hP
  obtain ⟨hx, hb, hr, hml, hown0, hts, hlk, hK, hN, hb0, hnm⟩ := id CX
  have hown : s.vm.findClass RX6 = some m.cls := hown0
  have hS : va_S (BA b0) s.heap s.heap [] := va_S.rf
  have hl := lv_entry [.ref a0, .int a1] (n := 2) (Nat.le_of_ble_eq_true rfl)
  generalize (lg_sl [.ref a0, .int a1] ++ List.replicate (2 - (lg_sl [.ref a0, .int a1]).length) Slot.unset).toArray = ls at hl ⊢
  have hl : lv_has ls 2 [(0, .ref a0), (1, .int a1)] := hl
  unfold f_X6_has at hF
  replace hF := (if_some hF).2
  refine lv_iload_n hx hb dX6_has_0 rfl (lv_at hl 1 rfl) ?_
  refine lv_if_lt (tgt := 16) hx hb dX6_has_1 (by decide) (fun c1 => ?_) (fun c1 => ?_)
  · replace hF := it_t hF c1
    refine lv_iconst (v := 0) hx hb dX6_has_16 (by decide) ?_
    cases hF
    exact W.zret hx hb hr rfl (fun t ht hW => ⟨rfl, by rw [ht]; exact hP, hS.F ht⟩) hS.2.2 dX6_has_17 hlk
  · replace hF := it_f hF c1
    refine lv_iload_n hx hb dX6_has_4 rfl (lv_at hl 1 rfl) ?_
    refine lv_aload_n hx hb dX6_has_5 rfl (lv_at hl 0 rfl) ?_
    refine xr_getI hx hb hts iw_X6_has_6 hown hK hP hF 6 4 rfl (by decide) (by decide +kernel) ⟨rfl, rfl, rfl⟩ dX6_has_6 (fun v2 hF => ?_)
    refine lv_icmp_ge (tgt := 16) hx hb dX6_has_9 (by decide) (fun c3 => ?_) (fun c3 => ?_)
    · replace hF := it_t hF c3
      refine lv_iconst (v := 0) hx hb dX6_has_16 (by decide) ?_
      cases hF
      exact W.zret hx hb hr rfl (fun t ht hW => ⟨rfl, by rw [ht]; exact hP, hS.F ht⟩) hS.2.2 dX6_has_17 hlk
    · replace hF := it_f hF c3
      refine lv_iconst (v := 1) hx hb dX6_has_12 (by decide) ?_
      refine lv_goto (tgt := 17) hx hb dX6_has_13 (by decide) ?_
      cases hF
      exact W.zret hx hb hr rfl (fun t ht hW => ⟨rfl, by rw [ht]; exact hP, hS.F ht⟩) hS.2.2 dX6_has_17 hlk
/-! X6_hasStride -/
theorem iw_X6_hasStride_6 : ∀ w ∈ u_ws RX6 TX6 5, w ∈ wsX6_hasStride := by decide +kernel
abbrev rm_X6_hasStride : Room := { frames := 1, cells := 0, slots := 0, locals := 21 }
theorem gk_X6_hasStride {M : Mm} {a0 : Nat} {a1 : Int32} {r : Int32} (h : f_X6_hasStride M a0 a1 = some r) : mK M a0 = 7 := by
  unfold f_X6_hasStride at h
  exact (if_some h).1
set_option maxHeartbeats 4000000 in
set_option maxRecDepth 100000 in
theorem ct_X6_hasStride (l : Launch) (b0 : Nat) (D : va_G) (cy : Nat → ClassId) (M : Mm) (a0 : Nat) (a1 : Int32) (r : Int32) (hF : f_X6_hasStride M a0 a1 = some r) : Met l yX6_hasStride wsX6_hasStride rm_X6_hasStride (va_Pc [.ref a0, .int a1] (Pm b0 D cy M)) (Qm b0 D cy M (some (.int r))) 0 0 (BA b0) := by
  refine ct_of [.ref a0, .int a1] (by decide) rfl ?_
  intro p e s m below meth c CX hP
  obtain ⟨hx, hb, hr, hml, hown0, hts, hlk, hK, hN, hb0, hnm⟩ := id CX
  have hown : s.vm.findClass RX6 = some m.cls := hown0
  have hS : va_S (BA b0) s.heap s.heap [] := va_S.rf
  have hl := lv_entry [.ref a0, .int a1] (n := 2) (Nat.le_of_ble_eq_true rfl)
  generalize (lg_sl [.ref a0, .int a1] ++ List.replicate (2 - (lg_sl [.ref a0, .int a1]).length) Slot.unset).toArray = ls at hl ⊢
  have hl : lv_has ls 2 [(0, .ref a0), (1, .int a1)] := hl
  unfold f_X6_hasStride at hF
  replace hF := (if_some hF).2
  refine lv_aload_n hx hb dX6_hasStride_0 rfl (lv_at hl 0 rfl) ?_
  refine lv_iload_n hx hb dX6_hasStride_1 rfl (lv_at hl 1 rfl) ?_
  obtain ⟨v2, h1, hF⟩ := ob_some hF
  refine xr_call1 (va_runV (As := [.int a1]) (rest := []) ⟨hx, hb, hml, hown, hts⟩ (ct_X6_has l b0 D cy M a0 a1 v2 h1) (cwV 1 hts gX6_hasStride_X6_has rfl rfl rfl (by decide +kernel) ⟨Nat.le_of_ble_eq_true rfl, Nat.le_of_ble_eq_true rfl⟩) (xp_V hP hK hN hS hb0 6 rfl (gk_X6_has h1)) rfl rfl hl.1 rfl (lv_room (Nat.le_of_ble_eq_true rfl)) dX6_hasStride_2 ⟨Nat.le_of_ble_eq_true rfl, Nat.le_of_ble_eq_true rfl⟩) hS (fun H locs hP hS => ?_)
  refine lv_if_eq (tgt := 32) hx hb dX6_hasStride_5 (by decide) (fun c3 => ?_) (fun c3 => ?_)
  · replace hF := it_t hF c3
    refine lv_iconst (v := 0) hx hb dX6_hasStride_32 (by decide) ?_
    cases hF
    exact W.zret hx hb hr rfl (fun t ht hW => ⟨rfl, by rw [ht]; exact hP, hS.F ht⟩) hS.2.2 dX6_hasStride_33 hlk
  · replace hF := it_f hF c3
    refine lv_aload_n hx hb dX6_hasStride_8 rfl (lv_at hl 0 rfl) ?_
    refine xr_getR hx hb hts iw_X6_hasStride_6 hown hK hP hF 6 0 rfl (by decide) (by decide +kernel) ⟨rfl, rfl, rfl⟩ dX6_hasStride_9 (fun v4 hF => ?_)
    refine lv_iload_n hx hb dX6_hasStride_12 rfl (lv_at hl 1 rfl) ?_
    refine xr_aI hx hb hK hP hF dX6_hasStride_13 (fun v5 hF => ?_)
    refine lv_iconst (v := 2) hx hb dX6_hasStride_14 (by decide) ?_
    refine lv_icmp_eq (tgt := 28) hx hb dX6_hasStride_15 (by decide) (fun c6 => ?_) (fun c6 => ?_)
    · replace hF := it_t hF c6
      refine lv_iconst (v := 1) hx hb dX6_hasStride_28 (by decide) ?_
      refine lv_goto (tgt := 33) hx hb dX6_hasStride_29 (by decide) ?_
      cases hF
      exact W.zret hx hb hr rfl (fun t ht hW => ⟨rfl, by rw [ht]; exact hP, hS.F ht⟩) hS.2.2 dX6_hasStride_33 hlk
    · replace hF := it_f hF c6
      refine lv_aload_n hx hb dX6_hasStride_18 rfl (lv_at hl 0 rfl) ?_
      refine xr_getR hx hb hts iw_X6_hasStride_6 hown hK hP hF 6 0 rfl (by decide) (by decide +kernel) ⟨rfl, rfl, rfl⟩ dX6_hasStride_19 (fun v7 hF => ?_)
      refine lv_iload_n hx hb dX6_hasStride_22 rfl (lv_at hl 1 rfl) ?_
      refine xr_aI hx hb hK hP hF dX6_hasStride_23 (fun v8 hF => ?_)
      refine lv_iconst (v := 3) hx hb dX6_hasStride_24 (by decide) ?_
      refine lv_icmp_ne (tgt := 32) hx hb dX6_hasStride_25 (by decide) (fun c9 => ?_) (fun c9 => ?_)
      · replace hF := it_f hF c9
        refine lv_iconst (v := 0) hx hb dX6_hasStride_32 (by decide) ?_
        cases hF
        exact W.zret hx hb hr rfl (fun t ht hW => ⟨rfl, by rw [ht]; exact hP, hS.F ht⟩) hS.2.2 dX6_hasStride_33 hlk
      · replace hF := it_t hF c9
        refine lv_iconst (v := 1) hx hb dX6_hasStride_28 (by decide) ?_
        refine lv_goto (tgt := 33) hx hb dX6_hasStride_29 (by decide) ?_
        cases hF
        exact W.zret hx hb hr rfl (fun t ht hW => ⟨rfl, by rw [ht]; exact hP, hS.F ht⟩) hS.2.2 dX6_hasStride_33 hlk
/-! X0_readField -/
theorem iw_X0_readField_0 : ∀ w ∈ u_ws RX0 TX0 12, w ∈ wsX0_readField := by decide +kernel
theorem iw_X0_readField_6 : ∀ w ∈ u_ws RX6 TX6 5, w ∈ wsX0_readField := by decide +kernel
abbrev rm_X0_readField : Room := { frames := 2, cells := 0, slots := 0, locals := 47 }
set_option maxHeartbeats 4000000 in
set_option maxRecDepth 100000 in
theorem nd_X0_readField_166 {p : Program} {l : Launch} {e : Env} {s : State} {m : MethodId} {args : Array Value} {below : List Frame} {meth : Method} {c : Code} {b0 : Nat} {D : va_G} {cy : Nat → ClassId} {M1 : Mm} (CX : Cx yX0_readField cX0_readField 5 none wsX0_readField b0 D cy p s m args meth c) : ∀ (M : Mm) (x0 : Nat) (x2 : Int32) (x4 : Int32) (s0 : Nat) (s1 : Int32) (H : Heap) (locs : List Loc) (ls : Array Slot), f_X0_readField_J166 M x0 x2 x4 s0 s1 = some M1 → Hp b0 D cy M H → va_S (BA b0) s.heap H locs → lv_has ls 5 [(0, .ref x0), (2, .int x2), (4, .int x4)] → W p l e rm_X0_readField s m args below meth c H locs 0 0 (MQ below (Qm b0 D cy M1 none) args s 0 0 (BA b0)) (F0 m 166 ls [.int s1, .ref s0]) := by
  obtain ⟨hx, hb, hr, hml, hown0, hts, hlk, hK, hN, hb0, hnm⟩ := id CX
  have hown : s.vm.findClass RX0 = some m.cls := hown0
  intro M x0 x2 x4 s0 s1 H locs ls hF hP hS hl
  unfold f_X0_readField_J166 at hF
  refine xr_putZ hx hb hts iw_X0_readField_0 hown hK hP hS hF 0 11 rfl (by decide) tyX0 tyX0_ok nmX0 (by decide +kernel) (Or.inl rfl) rfl ⟨rfl, rfl, rfl⟩ dX0_readField_166 (fun M1 H locs hF hP hS => ?_)
  refine lv_aload_n hx hb dX0_readField_169 rfl (lv_at hl 0 rfl) ?_
  refine lv_iload_n hx hb dX0_readField_170 rfl (lv_at hl 1 rfl) ?_
  refine lv_iconst (v := 1) hx hb dX0_readField_171 (by decide) ?_
  refine lv_iload hx hb dX0_readField_172 (lv_at hl 2 rfl) ?_
  obtain ⟨M3, h2, hF⟩ := ob_some hF
  refine xr_call0 (va_runV (As := [.int x2, .int 1, .int x4]) (rest := []) ⟨hx, hb, hml, hown, hts⟩ (ct_X0_readValue l b0 D cy M1 x0 x2 1 x4 M3 h2) (cwV 3 hts gX0_readField_X0_readValue rfl rfl rfl (by decide +kernel) ⟨Nat.le_of_ble_eq_true rfl, Nat.le_of_ble_eq_true rfl⟩) (xp_V hP hK hN hS hb0 0 rfl (gk_X0_readValue h2)) rfl rfl hl.1 rfl (lv_room (Nat.le_of_ble_eq_true rfl)) dX0_readField_174 ⟨Nat.le_of_ble_eq_true rfl, Nat.le_of_ble_eq_true rfl⟩) hS (fun H locs hP hS => ?_)
  refine lv_goto (tgt := 187) hx hb dX0_readField_177 (by decide) ?_
  cases hF
  exact W.vret hx hb hr (fun t ht hW => ⟨rfl, by rw [ht]; exact hP, hS.F ht⟩) hS.2.2 dX0_readField_187 hlk
set_option maxHeartbeats 4000000 in
set_option maxRecDepth 100000 in
theorem nd_X0_readField_161 {p : Program} {l : Launch} {e : Env} {s : State} {m : MethodId} {args : Array Value} {below : List Frame} {meth : Method} {c : Code} {b0 : Nat} {D : va_G} {cy : Nat → ClassId} {M1 : Mm} (CX : Cx yX0_readField cX0_readField 5 none wsX0_readField b0 D cy p s m args meth c) : ∀ (M : Mm) (x0 : Nat) (x2 : Int32) (x4 : Int32) (s0 : Nat) (H : Heap) (locs : List Loc) (ls : Array Slot), f_X0_readField_J161 M x0 x2 x4 s0 = some M1 → Hp b0 D cy M H → va_S (BA b0) s.heap H locs → lv_has ls 5 [(0, .ref x0), (2, .int x2), (4, .int x4)] → W p l e rm_X0_readField s m args below meth c H locs 0 0 (MQ below (Qm b0 D cy M1 none) args s 0 0 (BA b0)) (F0 m 161 ls [.ref s0]) := by
  obtain ⟨hx, hb, hr, hml, hown0, hts, hlk, hK, hN, hb0, hnm⟩ := id CX
  have hown : s.vm.findClass RX0 = some m.cls := hown0
  intro M x0 x2 x4 s0 H locs ls hF hP hS hl
  unfold f_X0_readField_J161 at hF
  refine lv_iconst (v := 1) hx hb dX0_readField_161 (by decide) ?_
  refine lv_goto (tgt := 166) hx hb dX0_readField_162 (by decide) ?_
  exact nd_X0_readField_166 CX _ _ _ _ _ _ _ _ _ hF hP hS (lv_sub hl [0, 1, 2] rfl)
set_option maxHeartbeats 4000000 in
set_option maxRecDepth 100000 in
theorem nd_X0_readField_119 {p : Program} {l : Launch} {e : Env} {s : State} {m : MethodId} {args : Array Value} {below : List Frame} {meth : Method} {c : Code} {b0 : Nat} {D : va_G} {cy : Nat → ClassId} {M1 : Mm} (CX : Cx yX0_readField cX0_readField 5 none wsX0_readField b0 D cy p s m args meth c) : ∀ (M : Mm) (s0 : Nat) (s1 : Int32) (s2 : Int32) (s3 : Int32) (H : Heap) (locs : List Loc) (ls : Array Slot), f_X0_readField_J119 M s0 s1 s2 s3 = some M1 → Hp b0 D cy M H → va_S (BA b0) s.heap H locs → lv_has ls 5 [] → W p l e rm_X0_readField s m args below meth c H locs 0 0 (MQ below (Qm b0 D cy M1 none) args s 0 0 (BA b0)) (F0 m 119 ls [.int s3, .int s2, .int s1, .ref s0]) := by
  obtain ⟨hx, hb, hr, hml, hown0, hts, hlk, hK, hN, hb0, hnm⟩ := id CX
  have hown : s.vm.findClass RX0 = some m.cls := hown0
  intro M s0 s1 s2 s3 H locs ls hF hP hS hl
  unfold f_X0_readField_J119 at hF
  obtain ⟨M2, h1, hF⟩ := ob_some hF
  refine xr_call0 (va_runV (As := [.int s1, .int s2, .int s3]) (rest := []) ⟨hx, hb, hml, hown, hts⟩ (ct_X0_readValue l b0 D cy M s0 s1 s2 s3 M2 h1) (cwV 3 hts gX0_readField_X0_readValue rfl rfl rfl (by decide +kernel) ⟨Nat.le_of_ble_eq_true rfl, Nat.le_of_ble_eq_true rfl⟩) (xp_V hP hK hN hS hb0 0 rfl (gk_X0_readValue h1)) rfl rfl hl.1 rfl (lv_room (Nat.le_of_ble_eq_true rfl)) dX0_readField_119 ⟨Nat.le_of_ble_eq_true rfl, Nat.le_of_ble_eq_true rfl⟩) hS (fun H locs hP hS => ?_)
  refine lv_goto (tgt := 187) hx hb dX0_readField_122 (by decide) ?_
  cases hF
  exact W.vret hx hb hr (fun t ht hW => ⟨rfl, by rw [ht]; exact hP, hS.F ht⟩) hS.2.2 dX0_readField_187 hlk
set_option maxHeartbeats 4000000 in
set_option maxRecDepth 100000 in
theorem nd_X0_readField_104 {p : Program} {l : Launch} {e : Env} {s : State} {m : MethodId} {args : Array Value} {below : List Frame} {meth : Method} {c : Code} {b0 : Nat} {D : va_G} {cy : Nat → ClassId} {M1 : Mm} (CX : Cx yX0_readField cX0_readField 5 none wsX0_readField b0 D cy p s m args meth c) : ∀ (M : Mm) (x1 : Nat) (x2 : Int32) (x4 : Int32) (s0 : Nat) (s1 : Int32) (s2 : Int32) (H : Heap) (locs : List Loc) (ls : Array Slot), f_X0_readField_J104 M x1 x2 x4 s0 s1 s2 = some M1 → Hp b0 D cy M H → va_S (BA b0) s.heap H locs → lv_has ls 5 [(1, .ref x1), (2, .int x2), (4, .int x4)] → W p l e rm_X0_readField s m args below meth c H locs 0 0 (MQ below (Qm b0 D cy M1 none) args s 0 0 (BA b0)) (F0 m 104 ls [.int s2, .int s1, .ref s0]) := by
  obtain ⟨hx, hb, hr, hml, hown0, hts, hlk, hK, hN, hb0, hnm⟩ := id CX
  have hown : s.vm.findClass RX0 = some m.cls := hown0
  intro M x1 x2 x4 s0 s1 s2 H locs ls hF hP hS hl
  unfold f_X0_readField_J104 at hF
  refine lv_iload hx hb dX0_readField_104 (lv_at hl 2 rfl) ?_
  refine lv_if_eq (tgt := 118) hx hb dX0_readField_106 (by decide) (fun c1 => ?_) (fun c1 => ?_)
  · replace hF := it_t hF c1
    refine lv_iconst (v := 0) hx hb dX0_readField_118 (by decide) ?_
    exact nd_X0_readField_119 CX _ _ _ _ _ _ _ _ hF hP hS (lv_sub hl [] rfl)
  · replace hF := it_f hF c1
    refine lv_aload_n hx hb dX0_readField_109 rfl (lv_at hl 0 rfl) ?_
    refine xr_getR hx hb hts iw_X0_readField_6 hown hK hP hF 6 1 rfl (by decide) (by decide +kernel) ⟨rfl, rfl, rfl⟩ dX0_readField_110 (fun v2 hF => ?_)
    refine lv_iload_n hx hb dX0_readField_113 rfl (lv_at hl 1 rfl) ?_
    refine xr_aI hx hb hK hP hF dX0_readField_114 (fun v3 hF => ?_)
    refine lv_goto (tgt := 119) hx hb dX0_readField_115 (by decide) ?_
    exact nd_X0_readField_119 CX _ _ _ _ _ _ _ _ hF hP hS (lv_sub hl [] rfl)
set_option maxHeartbeats 4000000 in
set_option maxRecDepth 100000 in
theorem nd_X0_readField_90 {p : Program} {l : Launch} {e : Env} {s : State} {m : MethodId} {args : Array Value} {below : List Frame} {meth : Method} {c : Code} {b0 : Nat} {D : va_G} {cy : Nat → ClassId} {M1 : Mm} (CX : Cx yX0_readField cX0_readField 5 none wsX0_readField b0 D cy p s m args meth c) : ∀ (M : Mm) (x0 : Nat) (x1 : Nat) (x2 : Int32) (s0 : Int32) (H : Heap) (locs : List Loc) (ls : Array Slot), f_X0_readField_J90 M x0 x1 x2 s0 = some M1 → Hp b0 D cy M H → va_S (BA b0) s.heap H locs → lv_has ls 5 [(0, .ref x0), (1, .ref x1), (2, .int x2)] → W p l e rm_X0_readField s m args below meth c H locs 0 0 (MQ below (Qm b0 D cy M1 none) args s 0 0 (BA b0)) (F0 m 90 ls [.int s0]) := by
  obtain ⟨hx, hb, hr, hml, hown0, hts, hlk, hK, hN, hb0, hnm⟩ := id CX
  have hown : s.vm.findClass RX0 = some m.cls := hown0
  intro M x0 x1 x2 s0 H locs ls hF hP hS hl
  unfold f_X0_readField_J90 at hF
  refine lv_istore (lv' := [(4, .int s0), (0, .ref x0), (1, .ref x1), (2, .int x2)]) hx hb dX0_readField_90 hl (by decide) (by first | rfl | simp [cat_rf]) (fun ls hl => ?_)
  refine lv_aload_n hx hb dX0_readField_92 rfl (lv_at hl 1 rfl) ?_
  refine lv_iload_n hx hb dX0_readField_93 rfl (lv_at hl 3 rfl) ?_
  refine lv_iload hx hb dX0_readField_94 (lv_at hl 0 rfl) ?_
  refine lv_if_eq (tgt := 103) hx hb dX0_readField_96 (by decide) (fun c1 => ?_) (fun c1 => ?_)
  · replace hF := it_t hF c1
    refine lv_iconst (v := 0) hx hb dX0_readField_103 (by decide) ?_
    exact nd_X0_readField_104 CX _ _ _ _ _ _ _ _ _ _ hF hP hS (lv_sub hl [2, 3, 0] rfl)
  · replace hF := it_f hF c1
    refine lv_iconst (v := 2) hx hb dX0_readField_99 (by decide) ?_
    refine lv_goto (tgt := 104) hx hb dX0_readField_100 (by decide) ?_
    exact nd_X0_readField_104 CX _ _ _ _ _ _ _ _ _ _ hF hP hS (lv_sub hl [2, 3, 0] rfl)
set_option maxHeartbeats 4000000 in
set_option maxRecDepth 100000 in
theorem nd_X0_readField_27 {p : Program} {l : Launch} {e : Env} {s : State} {m : MethodId} {args : Array Value} {below : List Frame} {meth : Method} {c : Code} {b0 : Nat} {D : va_G} {cy : Nat → ClassId} {M1 : Mm} (CX : Cx yX0_readField cX0_readField 5 none wsX0_readField b0 D cy p s m args meth c) : ∀ (M : Mm) (x0 : Nat) (x1 : Nat) (x2 : Int32) (H : Heap) (locs : List Loc) (ls : Array Slot), f_X0_readField_J27 M x0 x1 x2 = some M1 → Hp b0 D cy M H → va_S (BA b0) s.heap H locs → lv_has ls 5 [(0, .ref x0), (1, .ref x1), (2, .int x2)] → W p l e rm_X0_readField s m args below meth c H locs 0 0 (MQ below (Qm b0 D cy M1 none) args s 0 0 (BA b0)) (F0 m 27 ls []) := by
  obtain ⟨hx, hb, hr, hml, hown0, hts, hlk, hK, hN, hb0, hnm⟩ := id CX
  have hown : s.vm.findClass RX0 = some m.cls := hown0
  intro M x0 x1 x2 H locs ls hF hP hS hl
  unfold f_X0_readField_J27 at hF
  refine lv_aload_n hx hb dX0_readField_27 rfl (lv_at hl 0 rfl) ?_
  refine lv_iload_n hx hb dX0_readField_28 rfl (lv_at hl 2 rfl) ?_
  refine lv_iconst (v := 2) hx hb dX0_readField_29 (by decide) ?_
  refine lv_aload_n hx hb dX0_readField_30 rfl (lv_at hl 1 rfl) ?_
  refine xr_getR hx hb hts iw_X0_readField_6 hown hK hP hF 6 1 rfl (by decide) (by decide +kernel) ⟨rfl, rfl, rfl⟩ dX0_readField_31 (fun v1 hF => ?_)
  refine lv_iload_n hx hb dX0_readField_34 rfl (lv_at hl 2 rfl) ?_
  refine xr_aI hx hb hK hP hF dX0_readField_35 (fun v2 hF => ?_)
  obtain ⟨M4, h3, hF⟩ := ob_some hF
  refine xr_call0 (va_runV (As := [.int x2, .int 2, .int v2]) (rest := []) ⟨hx, hb, hml, hown, hts⟩ (ct_X0_readValue l b0 D cy M x0 x2 2 v2 M4 h3) (cwV 3 hts gX0_readField_X0_readValue rfl rfl rfl (by decide +kernel) ⟨Nat.le_of_ble_eq_true rfl, Nat.le_of_ble_eq_true rfl⟩) (xp_V hP hK hN hS hb0 0 rfl (gk_X0_readValue h3)) rfl rfl hl.1 rfl (lv_room (Nat.le_of_ble_eq_true rfl)) dX0_readField_36 ⟨Nat.le_of_ble_eq_true rfl, Nat.le_of_ble_eq_true rfl⟩) hS (fun H locs hP hS => ?_)
  refine lv_aload_n hx hb dX0_readField_39 rfl (lv_at hl 0 rfl) ?_
  refine xr_getR hx hb hts iw_X0_readField_0 hown hK hP hF 0 1 rfl (by decide) (by decide +kernel) ⟨rfl, rfl, rfl⟩ dX0_readField_40 (fun v5 hF => ?_)
  refine lv_iload_n hx hb dX0_readField_43 rfl (lv_at hl 2 rfl) ?_
  refine lv_aload_n hx hb dX0_readField_44 rfl (lv_at hl 1 rfl) ?_
  refine lv_iload_n hx hb dX0_readField_45 rfl (lv_at hl 2 rfl) ?_
  obtain ⟨v7, h6, hF⟩ := ob_some hF
  refine xr_call1 (va_runV (As := [.int x2]) (rest := [.int x2, .ref v5]) ⟨hx, hb, hml, hown, hts⟩ (ct_X6_hasStride l b0 D cy M4 x1 x2 v7 h6) (cwV 1 hts gX0_readField_X6_hasStride rfl rfl rfl (by decide +kernel) ⟨Nat.le_of_ble_eq_true rfl, Nat.le_of_ble_eq_true rfl⟩) (xp_V hP hK hN hS hb0 6 rfl (gk_X6_hasStride h6)) rfl rfl hl.1 rfl (lv_room (Nat.le_of_ble_eq_true rfl)) dX0_readField_46 ⟨Nat.le_of_ble_eq_true rfl, Nat.le_of_ble_eq_true rfl⟩) hS (fun H locs hP hS => ?_)
  refine lv_if_eq (tgt := 62) hx hb dX0_readField_49 (by decide) (fun c8 => ?_) (fun c8 => ?_)
  · replace hF := it_t hF c8
    refine lv_iconst (v := 1) hx hb dX0_readField_62 (by decide) ?_
    refine xr_wI hx hb hK hP hS hF dX0_readField_63 (fun M9 H locs hF hP hS => ?_)
    refine lv_goto (tgt := 187) hx hb dX0_readField_64 (by decide) ?_
    cases hF
    exact W.vret hx hb hr (fun t ht hW => ⟨rfl, by rw [ht]; exact hP, hS.F ht⟩) hS.2.2 dX0_readField_187 hlk
  · replace hF := it_f hF c8
    refine lv_aload_n hx hb dX0_readField_52 rfl (lv_at hl 0 rfl) ?_
    refine lv_bipush (v := 8) hx hb dX0_readField_53 (by decide) ?_
    obtain ⟨M11, v12, h10, hF⟩ := ob2_some hF
    refine xr_call1 (va_runV (As := [.int 8]) (rest := [.int x2, .ref v5]) ⟨hx, hb, hml, hown, hts⟩ (ct_X0_read l b0 D cy M4 x0 8 M11 v12 h10) (cwV 1 hts gX0_readField_X0_read rfl rfl rfl (by decide +kernel) ⟨Nat.le_of_ble_eq_true rfl, Nat.le_of_ble_eq_true rfl⟩) (xp_V hP hK hN hS hb0 0 rfl (gk_X0_read h10)) rfl rfl hl.1 rfl (lv_room (Nat.le_of_ble_eq_true rfl)) dX0_readField_55 ⟨Nat.le_of_ble_eq_true rfl, Nat.le_of_ble_eq_true rfl⟩) hS (fun H locs hP hS => ?_)
    refine lv_l2i hx hb dX0_readField_58 rfl ?_
    refine lv_goto (tgt := 63) hx hb dX0_readField_59 (by decide) ?_
    refine xr_wI hx hb hK hP hS hF dX0_readField_63 (fun M13 H locs hF hP hS => ?_)
    refine lv_goto (tgt := 187) hx hb dX0_readField_64 (by decide) ?_
    cases hF
    exact W.vret hx hb hr (fun t ht hW => ⟨rfl, by rw [ht]; exact hP, hS.F ht⟩) hS.2.2 dX0_readField_187 hlk
set_option maxHeartbeats 4000000 in
set_option maxRecDepth 100000 in
theorem nd_X0_readField_15 {p : Program} {l : Launch} {e : Env} {s : State} {m : MethodId} {args : Array Value} {below : List Frame} {meth : Method} {c : Code} {b0 : Nat} {D : va_G} {cy : Nat → ClassId} {M1 : Mm} (CX : Cx yX0_readField cX0_readField 5 none wsX0_readField b0 D cy p s m args meth c) : ∀ (M : Mm) (x0 : Nat) (x1 : Nat) (x2 : Int32) (s0 : Int32) (H : Heap) (locs : List Loc) (ls : Array Slot), f_X0_readField_J15 M x0 x1 x2 s0 = some M1 → Hp b0 D cy M H → va_S (BA b0) s.heap H locs → lv_has ls 5 [(0, .ref x0), (1, .ref x1), (2, .int x2)] → W p l e rm_X0_readField s m args below meth c H locs 0 0 (MQ below (Qm b0 D cy M1 none) args s 0 0 (BA b0)) (F0 m 15 ls [.int s0]) := by
  obtain ⟨hx, hb, hr, hml, hown0, hts, hlk, hK, hN, hb0, hnm⟩ := id CX
  have hown : s.vm.findClass RX0 = some m.cls := hown0
  intro M x0 x1 x2 s0 H locs ls hF hP hS hl
  unfold f_X0_readField_J15 at hF
  refine lv_istore_n (lv' := [(3, .int s0), (0, .ref x0), (1, .ref x1), (2, .int x2)]) hx hb dX0_readField_15 rfl hl (by decide) (by first | rfl | simp [cat_rf]) (fun ls hl => ?_)
  refine lv_aload_n hx hb dX0_readField_16 rfl (lv_at hl 1 rfl) ?_
  refine xr_getI hx hb hts iw_X0_readField_0 hown hK hP hF 0 5 rfl (by decide) (by decide +kernel) ⟨rfl, rfl, rfl⟩ dX0_readField_17 (fun v1 hF => ?_)
  refine lv_if_eq (tgt := 27) hx hb dX0_readField_20 (by decide) (fun c2 => ?_) (fun c2 => ?_)
  · replace hF := it_t hF c2
    exact nd_X0_readField_27 CX _ _ _ _ _ _ _ hF hP hS (lv_sub hl [1, 2, 3] rfl)
  · replace hF := it_f hF c2
    refine lv_iload_n hx hb dX0_readField_23 rfl (lv_at hl 0 rfl) ?_
    refine lv_if_eq (tgt := 67) hx hb dX0_readField_24 (by decide) (fun c3 => ?_) (fun c3 => ?_)
    · replace hF := it_t hF c3
      refine lv_aload_n hx hb dX0_readField_67 rfl (lv_at hl 1 rfl) ?_
      refine xr_getI hx hb hts iw_X0_readField_0 hown hK hP hF 0 5 rfl (by decide) (by decide +kernel) ⟨rfl, rfl, rfl⟩ dX0_readField_68 (fun v4 hF => ?_)
      refine lv_iconst (v := 1) hx hb dX0_readField_71 (by decide) ?_
      refine lv_icmp_ne (tgt := 125) hx hb dX0_readField_72 (by decide) (fun c5 => ?_) (fun c5 => ?_)
      · replace hF := it_f hF c5
        refine lv_aload_n hx hb dX0_readField_125 rfl (lv_at hl 2 rfl) ?_
        refine lv_iload_n hx hb dX0_readField_126 rfl (lv_at hl 3 rfl) ?_
        obtain ⟨v7, h6, hF⟩ := ob_some hF
        refine xr_call1 (va_runV (As := [.int x2]) (rest := []) ⟨hx, hb, hml, hown, hts⟩ (ct_X6_hasStride l b0 D cy M x1 x2 v7 h6) (cwV 1 hts gX0_readField_X6_hasStride rfl rfl rfl (by decide +kernel) ⟨Nat.le_of_ble_eq_true rfl, Nat.le_of_ble_eq_true rfl⟩) (xp_V hP hK hN hS hb0 6 rfl (gk_X6_hasStride h6)) rfl rfl hl.1 rfl (lv_room (Nat.le_of_ble_eq_true rfl)) dX0_readField_127 ⟨Nat.le_of_ble_eq_true rfl, Nat.le_of_ble_eq_true rfl⟩) hS (fun H locs hP hS => ?_)
        refine lv_if_eq (tgt := 180) hx hb dX0_readField_130 (by decide) (fun c8 => ?_) (fun c8 => ?_)
        · replace hF := it_t hF c8
          refine lv_aload_n hx hb dX0_readField_180 rfl (lv_at hl 1 rfl) ?_
          refine lv_iload_n hx hb dX0_readField_181 rfl (lv_at hl 3 rfl) ?_
          refine lv_iconst (v := 0) hx hb dX0_readField_182 (by decide) ?_
          refine lv_iconst (v := 0) hx hb dX0_readField_183 (by decide) ?_
          obtain ⟨M10, h9, hF⟩ := ob_some hF
          refine xr_call0 (va_runV (As := [.int x2, .int 0, .int 0]) (rest := []) ⟨hx, hb, hml, hown, hts⟩ (ct_X0_readValue l b0 D cy M x0 x2 0 0 M10 h9) (cwV 3 hts gX0_readField_X0_readValue rfl rfl rfl (by decide +kernel) ⟨Nat.le_of_ble_eq_true rfl, Nat.le_of_ble_eq_true rfl⟩) (xp_V hP hK hN hS hb0 0 rfl (gk_X0_readValue h9)) rfl rfl hl.1 rfl (lv_room (Nat.le_of_ble_eq_true rfl)) dX0_readField_184 ⟨Nat.le_of_ble_eq_true rfl, Nat.le_of_ble_eq_true rfl⟩) hS (fun H locs hP hS => ?_)
          cases hF
          exact W.vret hx hb hr (fun t ht hW => ⟨rfl, by rw [ht]; exact hP, hS.F ht⟩) hS.2.2 dX0_readField_187 hlk
        · replace hF := it_f hF c8
          refine lv_aload_n hx hb dX0_readField_133 rfl (lv_at hl 1 rfl) ?_
          refine lv_bipush (v := 6) hx hb dX0_readField_134 (by decide) ?_
          obtain ⟨M12, v13, h11, hF⟩ := ob2_some hF
          refine xr_call1 (va_runV (As := [.int 6]) (rest := []) ⟨hx, hb, hml, hown, hts⟩ (ct_X0_read l b0 D cy M x0 6 M12 v13 h11) (cwV 1 hts gX0_readField_X0_read rfl rfl rfl (by decide +kernel) ⟨Nat.le_of_ble_eq_true rfl, Nat.le_of_ble_eq_true rfl⟩) (xp_V hP hK hN hS hb0 0 rfl (gk_X0_read h11)) rfl rfl hl.1 rfl (lv_room (Nat.le_of_ble_eq_true rfl)) dX0_readField_136 ⟨Nat.le_of_ble_eq_true rfl, Nat.le_of_ble_eq_true rfl⟩) hS (fun H locs hP hS => ?_)
          refine lv_l2i hx hb dX0_readField_139 rfl ?_
          refine lv_istore (lv' := [(4, .int v13.toInt32), (3, .int s0), (0, .ref x0), (1, .ref x1), (2, .int x2)]) hx hb dX0_readField_140 hl (by decide) (by first | rfl | simp [cat_rf]) (fun ls hl => ?_)
          refine lv_aload_n hx hb dX0_readField_142 rfl (lv_at hl 2 rfl) ?_
          refine lv_aload_n hx hb dX0_readField_143 rfl (lv_at hl 2 rfl) ?_
          refine xr_getI hx hb hts iw_X0_readField_0 hown hK hP hF 0 11 rfl (by decide) (by decide +kernel) ⟨rfl, rfl, rfl⟩ dX0_readField_144 (fun v14 hF => ?_)
          refine lv_if_ne (tgt := 161) hx hb dX0_readField_147 (by decide) (fun c15 => ?_) (fun c15 => ?_)
          · replace hF := it_f hF c15
            exact nd_X0_readField_161 CX _ _ _ _ _ _ _ _ hF hP hS (lv_sub hl [2, 4, 0] rfl)
          · replace hF := it_t hF c15
            refine lv_iload hx hb dX0_readField_150 (lv_at hl 0 rfl) ?_
            refine lv_aload_n hx hb dX0_readField_152 rfl (lv_at hl 3 rfl) ?_
            refine xr_getR hx hb hts iw_X0_readField_6 hown hK hP hF 6 1 rfl (by decide) (by decide +kernel) ⟨rfl, rfl, rfl⟩ dX0_readField_153 (fun v16 hF => ?_)
            refine lv_iload_n hx hb dX0_readField_156 rfl (lv_at hl 4 rfl) ?_
            refine xr_aI hx hb hK hP hF dX0_readField_157 (fun v17 hF => ?_)
            refine lv_icmp_le (tgt := 165) hx hb dX0_readField_158 (by decide) (fun c18 => ?_) (fun c18 => ?_)
            · replace hF := it_t hF c18
              refine lv_iconst (v := 0) hx hb dX0_readField_165 (by decide) ?_
              exact nd_X0_readField_166 CX _ _ _ _ _ _ _ _ _ hF hP hS (lv_sub hl [2, 4, 0] rfl)
            · replace hF := it_f hF c18
              exact nd_X0_readField_161 CX _ _ _ _ _ _ _ _ hF hP hS (lv_sub hl [2, 4, 0] rfl)
      · replace hF := it_t hF c5
        refine lv_aload_n hx hb dX0_readField_75 rfl (lv_at hl 1 rfl) ?_
        refine lv_iconst (v := 1) hx hb dX0_readField_76 (by decide) ?_
        obtain ⟨M20, v21, h19, hF⟩ := ob2_some hF
        refine xr_call1 (va_runV (As := [.int 1]) (rest := []) ⟨hx, hb, hml, hown, hts⟩ (ct_X0_read l b0 D cy M x0 1 M20 v21 h19) (cwV 1 hts gX0_readField_X0_read rfl rfl rfl (by decide +kernel) ⟨Nat.le_of_ble_eq_true rfl, Nat.le_of_ble_eq_true rfl⟩) (xp_V hP hK hN hS hb0 0 rfl (gk_X0_read h19)) rfl rfl hl.1 rfl (lv_room (Nat.le_of_ble_eq_true rfl)) dX0_readField_77 ⟨Nat.le_of_ble_eq_true rfl, Nat.le_of_ble_eq_true rfl⟩) hS (fun H locs hP hS => ?_)
        refine lv_lconst (v := 1) hx hb dX0_readField_80 (by decide) ?_
        refine W.lcmp hx hb dX0_readField_81 ?_
        refine lv_if_ne (tgt := 89) hx hb dX0_readField_82 (by decide) (fun c22 => ?_) (fun c22 => ?_)
        · replace hF := it_f hF c22
          refine lv_iconst (v := 0) hx hb dX0_readField_89 (by decide) ?_
          exact nd_X0_readField_90 CX _ _ _ _ _ _ _ _ hF hP hS (lv_sub hl [1, 2, 3] rfl)
        · replace hF := it_t hF c22
          refine lv_iconst (v := 1) hx hb dX0_readField_85 (by decide) ?_
          refine lv_goto (tgt := 90) hx hb dX0_readField_86 (by decide) ?_
          exact nd_X0_readField_90 CX _ _ _ _ _ _ _ _ hF hP hS (lv_sub hl [1, 2, 3] rfl)
    · replace hF := it_f hF c3
      exact nd_X0_readField_27 CX _ _ _ _ _ _ _ hF hP hS (lv_sub hl [1, 2, 3] rfl)
theorem gk_X0_readField {M : Mm} {a0 : Nat} {a1 : Nat} {a2 : Int32} {r : Mm} (h : f_X0_readField M a0 a1 a2 = some r) : mK M a0 = 1 := by
  unfold f_X0_readField at h
  exact (if_some h).1
set_option maxHeartbeats 4000000 in
set_option maxRecDepth 100000 in
theorem ct_X0_readField (l : Launch) (b0 : Nat) (D : va_G) (cy : Nat → ClassId) (M : Mm) (a0 : Nat) (a1 : Nat) (a2 : Int32) (M1 : Mm) (hF : f_X0_readField M a0 a1 a2 = some M1) : Met l yX0_readField wsX0_readField rm_X0_readField (va_Pc [.ref a0, .ref a1, .int a2] (Pm b0 D cy M)) (Qm b0 D cy M1 none) 0 0 (BA b0) := by
  refine ct_of [.ref a0, .ref a1, .int a2] (by decide) rfl ?_
  intro p e s m below meth c CX hP
  obtain ⟨hx, hb, hr, hml, hown0, hts, hlk, hK, hN, hb0, hnm⟩ := id CX
  have hown : s.vm.findClass RX0 = some m.cls := hown0
  have hS : va_S (BA b0) s.heap s.heap [] := va_S.rf
  have hl := lv_entry [.ref a0, .ref a1, .int a2] (n := 5) (Nat.le_of_ble_eq_true rfl)
  generalize (lg_sl [.ref a0, .ref a1, .int a2] ++ List.replicate (5 - (lg_sl [.ref a0, .ref a1, .int a2]).length) Slot.unset).toArray = ls at hl ⊢
  have hl : lv_has ls 5 [(0, .ref a0), (1, .ref a1), (2, .int a2)] := hl
  unfold f_X0_readField at hF
  replace hF := (if_some hF).2
  refine lv_aload_n hx hb dX0_readField_0 rfl (lv_at hl 1 rfl) ?_
  refine xr_getR hx hb hts iw_X0_readField_6 hown hK hP hF 6 0 rfl (by decide) (by decide +kernel) ⟨rfl, rfl, rfl⟩ dX0_readField_1 (fun v1 hF => ?_)
  refine lv_iload_n hx hb dX0_readField_4 rfl (lv_at hl 2 rfl) ?_
  refine xr_aI hx hb hK hP hF dX0_readField_5 (fun v2 hF => ?_)
  refine lv_iconst (v := 4) hx hb dX0_readField_6 (by decide) ?_
  refine lv_icmp_ne (tgt := 14) hx hb dX0_readField_7 (by decide) (fun c3 => ?_) (fun c3 => ?_)
  · replace hF := it_f hF c3
    refine lv_iconst (v := 0) hx hb dX0_readField_14 (by decide) ?_
    exact nd_X0_readField_15 CX _ _ _ _ _ _ _ _ hF hP hS (lv_sub hl [0, 1, 2] rfl)
  · replace hF := it_t hF c3
    refine lv_iconst (v := 1) hx hb dX0_readField_10 (by decide) ?_
    refine lv_goto (tgt := 15) hx hb dX0_readField_11 (by decide) ?_
    exact nd_X0_readField_15 CX _ _ _ _ _ _ _ _ hF hP hS (lv_sub hl [0, 1, 2] rfl)
/-! X10_endsInCheck -/
abbrev rm_X10_endsInCheck : Room := { frames := 0, cells := 0, slots := 0, locals := 0 }
set_option maxHeartbeats 4000000 in
set_option maxRecDepth 100000 in
theorem ct_X10_endsInCheck (l : Launch) (b0 : Nat) (D : va_G) (cy : Nat → ClassId) (M : Mm) (a0 : Int32) (r : Int32) (hF : f_X10_endsInCheck a0 = some r) : Met l yX10_endsInCheck wsX10_endsInCheck rm_X10_endsInCheck (va_Pc [.int a0] (Pm b0 D cy M)) (Qm b0 D cy M (some (.int r))) 0 0 (BA b0) := by
  refine ct_of [.int a0] (by decide) rfl ?_
  intro p e s m below meth c CX hP
  obtain ⟨hx, hb, hr, hml, hown0, hts, hlk, hK, hN, hb0, hnm⟩ := id CX
  have hown : s.vm.findClass RX10 = some m.cls := hown0
  have hS : va_S (BA b0) s.heap s.heap [] := va_S.rf
  have hl := lv_entry [.int a0] (n := 1) (Nat.le_of_ble_eq_true rfl)
  generalize (lg_sl [.int a0] ++ List.replicate (1 - (lg_sl [.int a0]).length) Slot.unset).toArray = ls at hl ⊢
  have hl : lv_has ls 1 [(0, .int a0)] := hl
  unfold f_X10_endsInCheck at hF
  refine lv_iload_n hx hb dX10_endsInCheck_0 rfl (lv_at hl 0 rfl) ?_
  refine lv_iconst (v := 1) hx hb dX10_endsInCheck_1 (by decide) ?_
  refine lv_icmp_eq (tgt := 14) hx hb dX10_endsInCheck_2 (by decide) (fun c1 => ?_) (fun c1 => ?_)
  · replace hF := it_t hF c1
    refine lv_iconst (v := 0) hx hb dX10_endsInCheck_14 (by decide) ?_
    cases hF
    exact W.zret hx hb hr rfl (fun t ht hW => ⟨rfl, by rw [ht]; exact hP, hS.F ht⟩) hS.2.2 dX10_endsInCheck_15 hlk
  · replace hF := it_f hF c1
    refine lv_iload_n hx hb dX10_endsInCheck_5 rfl (lv_at hl 0 rfl) ?_
    refine lv_iconst (v := 2) hx hb dX10_endsInCheck_6 (by decide) ?_
    refine lv_icmp_eq (tgt := 14) hx hb dX10_endsInCheck_7 (by decide) (fun c2 => ?_) (fun c2 => ?_)
    · replace hF := it_t hF c2
      refine lv_iconst (v := 0) hx hb dX10_endsInCheck_14 (by decide) ?_
      cases hF
      exact W.zret hx hb hr rfl (fun t ht hW => ⟨rfl, by rw [ht]; exact hP, hS.F ht⟩) hS.2.2 dX10_endsInCheck_15 hlk
    · replace hF := it_f hF c2
      refine lv_iconst (v := 1) hx hb dX10_endsInCheck_10 (by decide) ?_
      refine lv_goto (tgt := 15) hx hb dX10_endsInCheck_11 (by decide) ?_
      cases hF
      exact W.zret hx hb hr rfl (fun t ht hW => ⟨rfl, by rw [ht]; exact hP, hS.F ht⟩) hS.2.2 dX10_endsInCheck_15 hlk
/-! X10_wholeBytes -/
abbrev rm_X10_wholeBytes : Room := { frames := 0, cells := 0, slots := 0, locals := 0 }
set_option maxHeartbeats 4000000 in
set_option maxRecDepth 100000 in
theorem ct_X10_wholeBytes (l : Launch) (b0 : Nat) (D : va_G) (cy : Nat → ClassId) (M : Mm) (a0 : Int32) (r : Int32) (hF : f_X10_wholeBytes a0 = some r) : Met l yX10_wholeBytes wsX10_wholeBytes rm_X10_wholeBytes (va_Pc [.int a0] (Pm b0 D cy M)) (Qm b0 D cy M (some (.int r))) 0 0 (BA b0) := by
  refine ct_of [.int a0] (by decide) rfl ?_
  intro p e s m below meth c CX hP
  obtain ⟨hx, hb, hr, hml, hown0, hts, hlk, hK, hN, hb0, hnm⟩ := id CX
  have hown : s.vm.findClass RX10 = some m.cls := hown0
  have hS : va_S (BA b0) s.heap s.heap [] := va_S.rf
  have hl := lv_entry [.int a0] (n := 1) (Nat.le_of_ble_eq_true rfl)
  generalize (lg_sl [.int a0] ++ List.replicate (1 - (lg_sl [.int a0]).length) Slot.unset).toArray = ls at hl ⊢
  have hl : lv_has ls 1 [(0, .int a0)] := hl
  unfold f_X10_wholeBytes at hF
  refine lv_iload_n hx hb dX10_wholeBytes_0 rfl (lv_at hl 0 rfl) ?_
  refine lv_bipush (v := 7) hx hb dX10_wholeBytes_1 (by decide) ?_
  refine lv_iadd hx hb dX10_wholeBytes_3 ?_
  refine lv_iconst (v := 3) hx hb dX10_wholeBytes_4 (by decide) ?_
  refine lv_ishr hx hb dX10_wholeBytes_5 ?_
  cases hF
  exact W.iret hx hb hr (fun t ht hW => ⟨rfl, by rw [ht]; exact hP, hS.F ht⟩) hS.2.2 dX10_wholeBytes_6 hlk
/-! X10_checkOf -/
abbrev rm_X10_checkOf : Room := { frames := 0, cells := 0, slots := 0, locals := 0 }
set_option maxHeartbeats 4000000 in
set_option maxRecDepth 100000 in
theorem nd_X10_checkOf_4 {p : Program} {l : Launch} {e : Env} {s : State} {m : MethodId} {args : Array Value} {below : List Frame} {meth : Method} {c : Code} {b0 : Nat} {D : va_G} {cy : Nat → ClassId} {r : Int32} {M : Mm} (CX : Cx yX10_checkOf cX10_checkOf 4 (some .int) wsX10_checkOf b0 D cy p s m args meth c) : ∀ (fu : Nat), ∀ (x0 : Nat) (x1 : Int32) (x2 : Int32) (x3 : Int32) (H : Heap) (locs : List Loc) (ls : Array Slot), f_X10_checkOf_L4 M fu x0 x1 x2 x3 = some r → Hp b0 D cy M H → va_S (BA b0) s.heap H locs → lv_has ls 4 [(0, .ref x0), (1, .int x1), (2, .int x2), (3, .int x3)] → W p l e rm_X10_checkOf s m args below meth c H locs 0 0 (MQ below (Qm b0 D cy M (some (.int r))) args s 0 0 (BA b0)) (F0 m 4 ls []) := by
  obtain ⟨hx, hb, hr, hml, hown0, hts, hlk, hK, hN, hb0, hnm⟩ := id CX
  have hown : s.vm.findClass RX10 = some m.cls := hown0
  intro fu
  induction fu with
  | zero =>
    intro x0 x1 x2 x3 H locs ls hF hP hS hl
    rw [f_X10_checkOf_L4] at hF
    cases hF
  | succ fu ih =>
    intro x0 x1 x2 x3 H locs ls hF hP hS hl
    rw [f_X10_checkOf_L4] at hF
    refine lv_iload_n hx hb dX10_checkOf_4 rfl (lv_at hl 3 rfl) ?_
    refine lv_iload_n hx hb dX10_checkOf_5 rfl (lv_at hl 1 rfl) ?_
    refine lv_icmp_ge (tgt := 27) hx hb dX10_checkOf_6 (by decide) (fun c1 => ?_) (fun c1 => ?_)
    · replace hF := it_t hF c1
      refine lv_sipush (v := 255) hx hb dX10_checkOf_27 (by decide) ?_
      refine lv_iload_n hx hb dX10_checkOf_30 rfl (lv_at hl 2 rfl) ?_
      refine lv_sipush (v := 255) hx hb dX10_checkOf_31 (by decide) ?_
      refine lv_iand hx hb dX10_checkOf_34 ?_
      refine lv_isub hx hb dX10_checkOf_35 ?_
      cases hF
      exact W.iret hx hb hr (fun t ht hW => ⟨rfl, by rw [ht]; exact hP, hS.F ht⟩) hS.2.2 dX10_checkOf_36 hlk
    · replace hF := it_f hF c1
      refine lv_iload_n hx hb dX10_checkOf_9 rfl (lv_at hl 3 rfl) ?_
      refine lv_aload_n hx hb dX10_checkOf_10 rfl (lv_at hl 0 rfl) ?_
      refine xr_aL hx hb hK hP hF dX10_checkOf_11 (fun v2 hF => ?_)
      refine lv_icmp_ge (tgt := 27) hx hb dX10_checkOf_12 (by decide) (fun c3 => ?_) (fun c3 => ?_)
      · replace hF := it_t hF c3
        refine lv_sipush (v := 255) hx hb dX10_checkOf_27 (by decide) ?_
        refine lv_iload_n hx hb dX10_checkOf_30 rfl (lv_at hl 2 rfl) ?_
        refine lv_sipush (v := 255) hx hb dX10_checkOf_31 (by decide) ?_
        refine lv_iand hx hb dX10_checkOf_34 ?_
        refine lv_isub hx hb dX10_checkOf_35 ?_
        cases hF
        exact W.iret hx hb hr (fun t ht hW => ⟨rfl, by rw [ht]; exact hP, hS.F ht⟩) hS.2.2 dX10_checkOf_36 hlk
      · replace hF := it_f hF c3
        refine lv_iload_n hx hb dX10_checkOf_15 rfl (lv_at hl 2 rfl) ?_
        refine lv_aload_n hx hb dX10_checkOf_16 rfl (lv_at hl 0 rfl) ?_
        refine lv_iload_n hx hb dX10_checkOf_17 rfl (lv_at hl 3 rfl) ?_
        refine xr_aI hx hb hK hP hF dX10_checkOf_18 (fun v4 hF => ?_)
        refine lv_iadd hx hb dX10_checkOf_19 ?_
        refine lv_istore_n (lv' := [(2, .int (x2 + v4)), (0, .ref x0), (1, .int x1), (3, .int x3)]) hx hb dX10_checkOf_20 rfl hl (by decide) (by first | rfl | simp [cat_rf]) (fun ls hl => ?_)
        refine lv_iinc (v := x3 + 1) (lv' := [(3, .int (x3 + 1)), (2, .int (x2 + v4)), (0, .ref x0), (1, .int x1)]) hx hb dX10_checkOf_21 hl (k := 3) rfl (by rfl) (by decide) rfl (fun ls hl => ?_)
        refine lv_goto (tgt := 4) hx hb dX10_checkOf_24 (by decide) ?_
        exact ih _ _ _ _ _ _ _ hF hP hS (lv_sub hl [2, 3, 1, 0] rfl)
set_option maxHeartbeats 4000000 in
set_option maxRecDepth 100000 in
theorem ct_X10_checkOf (l : Launch) (b0 : Nat) (D : va_G) (cy : Nat → ClassId) (M : Mm) (a0 : Nat) (a1 : Int32) (r : Int32) (hF : f_X10_checkOf M a0 a1 = some r) : Met l yX10_checkOf wsX10_checkOf rm_X10_checkOf (va_Pc [.ref a0, .int a1] (Pm b0 D cy M)) (Qm b0 D cy M (some (.int r))) 0 0 (BA b0) := by
  refine ct_of [.ref a0, .int a1] (by decide) rfl ?_
  intro p e s m below meth c CX hP
  obtain ⟨hx, hb, hr, hml, hown0, hts, hlk, hK, hN, hb0, hnm⟩ := id CX
  have hown : s.vm.findClass RX10 = some m.cls := hown0
  have hS : va_S (BA b0) s.heap s.heap [] := va_S.rf
  have hl := lv_entry [.ref a0, .int a1] (n := 4) (Nat.le_of_ble_eq_true rfl)
  generalize (lg_sl [.ref a0, .int a1] ++ List.replicate (4 - (lg_sl [.ref a0, .int a1]).length) Slot.unset).toArray = ls at hl ⊢
  have hl : lv_has ls 4 [(0, .ref a0), (1, .int a1)] := hl
  unfold f_X10_checkOf at hF
  refine lv_iconst (v := 0) hx hb dX10_checkOf_0 (by decide) ?_
  refine lv_istore_n (lv' := [(2, .int 0), (0, .ref a0), (1, .int a1)]) hx hb dX10_checkOf_1 rfl hl (by decide) (by first | rfl | simp [cat_rf]) (fun ls hl => ?_)
  refine lv_iconst (v := 0) hx hb dX10_checkOf_2 (by decide) ?_
  refine lv_istore_n (lv' := [(3, .int 0), (2, .int 0), (0, .ref a0), (1, .int a1)]) hx hb dX10_checkOf_3 rfl hl (by decide) (by first | rfl | simp [cat_rf]) (fun ls hl => ?_)
  exact nd_X10_checkOf_4 CX _ _ _ _ _ _ _ _ hF hP hS (lv_sub hl [2, 3, 1, 0] rfl)
/-! X0_isEndRight -/
theorem iw_X0_isEndRight_0 : ∀ w ∈ u_ws RX0 TX0 12, w ∈ wsX0_isEndRight := by decide +kernel
abbrev rm_X0_isEndRight : Room := { frames := 1, cells := 0, slots := 0, locals := 24 }
set_option maxHeartbeats 4000000 in
set_option maxRecDepth 100000 in
theorem nd_X0_isEndRight_31 {p : Program} {l : Launch} {e : Env} {s : State} {m : MethodId} {args : Array Value} {below : List Frame} {meth : Method} {c : Code} {b0 : Nat} {D : va_G} {cy : Nat → ClassId} {M1 : Mm} {r : Int32} (CX : Cx yX0_isEndRight cX0_isEndRight 3 (some .boolean) wsX0_isEndRight b0 D cy p s m args meth c) : ∀ (M : Mm) (x0 : Nat) (x1 : Int32) (x2 : Int32) (s0 : Int32) (s1 : Int32) (s2 : Int32) (H : Heap) (locs : List Loc) (ls : Array Slot), f_X0_isEndRight_J31 M x0 x1 x2 s0 s1 s2 = some (M1, r) → Hp b0 D cy M H → va_S (BA b0) s.heap H locs → lv_has ls 3 [(0, .ref x0), (1, .int x1), (2, .int x2)] → W p l e rm_X0_isEndRight s m args below meth c H locs 0 0 (MQ below (Qm b0 D cy M1 (some (.int r))) args s 0 0 (BA b0)) (F0 m 31 ls [.int s2, .int s1, .int s0]) := by
  obtain ⟨hx, hb, hr, hml, hown0, hts, hlk, hK, hN, hb0, hnm⟩ := id CX
  have hown : s.vm.findClass RX0 = some m.cls := hown0
  intro M x0 x1 x2 s0 s1 s2 H locs ls hF hP hS hl
  unfold f_X0_isEndRight_J31 at hF
  refine lv_iadd hx hb dX0_isEndRight_31 ?_
  refine lv_icmp_eq (tgt := 37) hx hb dX0_isEndRight_32 (by decide) (fun c1 => ?_) (fun c1 => ?_)
  · replace hF := it_t hF c1
    refine lv_aload_n hx hb dX0_isEndRight_37 rfl (lv_at hl 0 rfl) ?_
    refine lv_iload_n hx hb dX0_isEndRight_38 rfl (lv_at hl 1 rfl) ?_
    refine lv_bipush (v := 8) hx hb dX0_isEndRight_39 (by decide) ?_
    refine lv_imul hx hb dX0_isEndRight_41 ?_
    refine lv_aload_n hx hb dX0_isEndRight_42 rfl (lv_at hl 0 rfl) ?_
    refine xr_getI hx hb hts iw_X0_isEndRight_0 hown hK hP hF 0 10 rfl (by decide) (by decide +kernel) ⟨rfl, rfl, rfl⟩ dX0_isEndRight_43 (fun v2 hF => ?_)
    refine lv_isub hx hb dX0_isEndRight_46 ?_
    obtain ⟨M4, v5, h3, hF⟩ := ob2_some hF
    refine xr_call1 (va_runV (As := [.int ((x1 * 8) - v2)]) (rest := []) ⟨hx, hb, hml, hown, hts⟩ (ct_X0_read l b0 D cy M x0 ((x1 * 8) - v2) M4 v5 h3) (cwV 1 hts gX0_isEndRight_X0_read rfl rfl rfl (by decide +kernel) ⟨Nat.le_of_ble_eq_true rfl, Nat.le_of_ble_eq_true rfl⟩) (xp_V hP hK hN hS hb0 0 rfl (gk_X0_read h3)) rfl rfl hl.1 rfl (lv_room (Nat.le_of_ble_eq_true rfl)) dX0_isEndRight_47 ⟨Nat.le_of_ble_eq_true rfl, Nat.le_of_ble_eq_true rfl⟩) hS (fun H locs hP hS => ?_)
    refine lv_lconst (v := 0) hx hb dX0_isEndRight_50 (by decide) ?_
    refine W.lcmp hx hb dX0_isEndRight_51 ?_
    refine lv_if_eq (tgt := 57) hx hb dX0_isEndRight_52 (by decide) (fun c6 => ?_) (fun c6 => ?_)
    · replace hF := it_t hF c6
      refine lv_iload_n hx hb dX0_isEndRight_57 rfl (lv_at hl 2 rfl) ?_
      refine lv_if_eq (tgt := 78) hx hb dX0_isEndRight_58 (by decide) (fun c7 => ?_) (fun c7 => ?_)
      · replace hF := it_t hF c7
        refine lv_iconst (v := 1) hx hb dX0_isEndRight_78 (by decide) ?_
        refine lv_goto (tgt := 83) hx hb dX0_isEndRight_79 (by decide) ?_
        cases hF
        exact W.zret hx hb hr rfl (fun t ht hW => ⟨rfl, by rw [ht]; exact hP, hS.F ht⟩) hS.2.2 dX0_isEndRight_83 hlk
      · replace hF := it_f hF c7
        refine lv_aload_n hx hb dX0_isEndRight_61 rfl (lv_at hl 0 rfl) ?_
        refine xr_getR hx hb hts iw_X0_isEndRight_0 hown hK hP hF 0 9 rfl (by decide) (by decide +kernel) ⟨rfl, rfl, rfl⟩ dX0_isEndRight_62 (fun v8 hF => ?_)
        refine lv_iload_n hx hb dX0_isEndRight_65 rfl (lv_at hl 1 rfl) ?_
        refine xr_aI hx hb hK hP hF dX0_isEndRight_66 (fun v9 hF => ?_)
        refine lv_aload_n hx hb dX0_isEndRight_67 rfl (lv_at hl 0 rfl) ?_
        refine xr_getR hx hb hts iw_X0_isEndRight_0 hown hK hP hF 0 9 rfl (by decide) (by decide +kernel) ⟨rfl, rfl, rfl⟩ dX0_isEndRight_68 (fun v10 hF => ?_)
        refine lv_iload_n hx hb dX0_isEndRight_71 rfl (lv_at hl 1 rfl) ?_
        obtain ⟨v12, h11, hF⟩ := ob_some hF
        refine xr_call1 (va_runSN (As := [.ref v10, .int x1]) (rest := [.int v9]) ⟨hx, hb, hml, hown, hts⟩ (ct_X10_checkOf l b0 D cy M4 v10 x1 v12 h11) ⟨va_cnB 2 hts gX0_isEndRight_X10_checkOf_n111 rfl rfl rfl (hN.1 (RX0, 111, yX10_checkOf, "HeaderLine") (by decide +kernel)) (hts (.initialized RX10) (by decide +kernel)) (by decide +kernel) ⟨Nat.le_of_ble_eq_true rfl, Nat.le_of_ble_eq_true rfl⟩, hts (.static yX10_checkOf) (by decide +kernel), trivial⟩ (xp_S hP hK hN hS hb0) rfl rfl hl.1 rfl (lv_room (Nat.le_of_ble_eq_true rfl)) dX0_isEndRight_72 ⟨Nat.le_of_ble_eq_true rfl, Nat.le_of_ble_eq_true rfl⟩) hS (fun H locs hP hS => ?_)
        refine lv_icmp_ne (tgt := 82) hx hb dX0_isEndRight_75 (by decide) (fun c13 => ?_) (fun c13 => ?_)
        · replace hF := it_f hF c13
          refine lv_iconst (v := 0) hx hb dX0_isEndRight_82 (by decide) ?_
          cases hF
          exact W.zret hx hb hr rfl (fun t ht hW => ⟨rfl, by rw [ht]; exact hP, hS.F ht⟩) hS.2.2 dX0_isEndRight_83 hlk
        · replace hF := it_t hF c13
          refine lv_iconst (v := 1) hx hb dX0_isEndRight_78 (by decide) ?_
          refine lv_goto (tgt := 83) hx hb dX0_isEndRight_79 (by decide) ?_
          cases hF
          exact W.zret hx hb hr rfl (fun t ht hW => ⟨rfl, by rw [ht]; exact hP, hS.F ht⟩) hS.2.2 dX0_isEndRight_83 hlk
    · replace hF := it_f hF c6
      refine lv_iconst (v := 0) hx hb dX0_isEndRight_55 (by decide) ?_
      cases hF
      exact W.zret hx hb hr rfl (fun t ht hW => ⟨rfl, by rw [ht]; exact hP, hS.F ht⟩) hS.2.2 dX0_isEndRight_56 hlk
  · replace hF := it_f hF c1
    refine lv_iconst (v := 0) hx hb dX0_isEndRight_35 (by decide) ?_
    cases hF
    exact W.zret hx hb hr rfl (fun t ht hW => ⟨rfl, by rw [ht]; exact hP, hS.F ht⟩) hS.2.2 dX0_isEndRight_36 hlk
theorem gk_X0_isEndRight {M : Mm} {a0 : Nat} {r : (Mm × Int32)} (h : f_X0_isEndRight M a0 = some r) : mK M a0 = 1 := by
  unfold f_X0_isEndRight at h
  exact (if_some h).1
set_option maxHeartbeats 4000000 in
set_option maxRecDepth 100000 in
theorem ct_X0_isEndRight (l : Launch) (b0 : Nat) (D : va_G) (cy : Nat → ClassId) (M : Mm) (a0 : Nat) (M1 : Mm) (r : Int32) (hF : f_X0_isEndRight M a0 = some (M1, r)) : Met l yX0_isEndRight wsX0_isEndRight rm_X0_isEndRight (va_Pc [.ref a0] (Pm b0 D cy M)) (Qm b0 D cy M1 (some (.int r))) 0 0 (BA b0) := by
  refine ct_of [.ref a0] (by decide) rfl ?_
  intro p e s m below meth c CX hP
  obtain ⟨hx, hb, hr, hml, hown0, hts, hlk, hK, hN, hb0, hnm⟩ := id CX
  have hown : s.vm.findClass RX0 = some m.cls := hown0
  have hS : va_S (BA b0) s.heap s.heap [] := va_S.rf
  have hl := lv_entry [.ref a0] (n := 3) (Nat.le_of_ble_eq_true rfl)
  generalize (lg_sl [.ref a0] ++ List.replicate (3 - (lg_sl [.ref a0]).length) Slot.unset).toArray = ls at hl ⊢
  have hl : lv_has ls 3 [(0, .ref a0)] := hl
  unfold f_X0_isEndRight at hF
  replace hF := (if_some hF).2
  refine lv_aload_n hx hb dX0_isEndRight_0 rfl (lv_at hl 0 rfl) ?_
  refine xr_getI hx hb hts iw_X0_isEndRight_0 hown hK hP hF 0 10 rfl (by decide) (by decide +kernel) ⟨rfl, rfl, rfl⟩ dX0_isEndRight_1 (fun v1 hF => ?_)
  obtain ⟨v3, h2, hF⟩ := ob_some hF
  refine xr_call1 (va_runSN (As := [.int v1]) (rest := []) ⟨hx, hb, hml, hown, hts⟩ (ct_X10_wholeBytes l b0 D cy M v1 v3 h2) ⟨va_cnB 1 hts gX0_isEndRight_X10_wholeBytes_n107 rfl rfl rfl (hN.1 (RX0, 107, yX10_wholeBytes, "HeaderLine") (by decide +kernel)) (hts (.initialized RX10) (by decide +kernel)) (by decide +kernel) ⟨Nat.le_of_ble_eq_true rfl, Nat.le_of_ble_eq_true rfl⟩, hts (.static yX10_wholeBytes) (by decide +kernel), trivial⟩ (xp_S hP hK hN hS hb0) rfl rfl hl.1 rfl (lv_room (Nat.le_of_ble_eq_true rfl)) dX0_isEndRight_4 ⟨Nat.le_of_ble_eq_true rfl, Nat.le_of_ble_eq_true rfl⟩) hS (fun H locs hP hS => ?_)
  refine lv_istore_n (lv' := [(1, .int v3), (0, .ref a0)]) hx hb dX0_isEndRight_7 rfl hl (by decide) (by first | rfl | simp [cat_rf]) (fun ls hl => ?_)
  refine lv_aload_n hx hb dX0_isEndRight_8 rfl (lv_at hl 1 rfl) ?_
  refine xr_getI hx hb hts iw_X0_isEndRight_0 hown hK hP hF 0 5 rfl (by decide) (by decide +kernel) ⟨rfl, rfl, rfl⟩ dX0_isEndRight_9 (fun v4 hF => ?_)
  obtain ⟨v6, h5, hF⟩ := ob_some hF
  refine xr_call1 (va_runSN (As := [.int v4]) (rest := []) ⟨hx, hb, hml, hown, hts⟩ (ct_X10_endsInCheck l b0 D cy M v4 v6 h5) ⟨va_cnB 1 hts gX0_isEndRight_X10_endsInCheck_n68 rfl rfl rfl (hN.1 (RX0, 68, yX10_endsInCheck, "HeaderLine") (by decide +kernel)) (hts (.initialized RX10) (by decide +kernel)) (by decide +kernel) ⟨Nat.le_of_ble_eq_true rfl, Nat.le_of_ble_eq_true rfl⟩, hts (.static yX10_endsInCheck) (by decide +kernel), trivial⟩ (xp_S hP hK hN hS hb0) rfl rfl hl.1 rfl (lv_room (Nat.le_of_ble_eq_true rfl)) dX0_isEndRight_12 ⟨Nat.le_of_ble_eq_true rfl, Nat.le_of_ble_eq_true rfl⟩) hS (fun H locs hP hS => ?_)
  refine lv_istore_n (lv' := [(2, .int v6), (1, .int v3), (0, .ref a0)]) hx hb dX0_isEndRight_15 rfl hl (by decide) (by first | rfl | simp [cat_rf]) (fun ls hl => ?_)
  refine lv_aload_n hx hb dX0_isEndRight_16 rfl (lv_at hl 2 rfl) ?_
  refine xr_getR hx hb hts iw_X0_isEndRight_0 hown hK hP hF 0 9 rfl (by decide) (by decide +kernel) ⟨rfl, rfl, rfl⟩ dX0_isEndRight_17 (fun v7 hF => ?_)
  refine xr_aL hx hb hK hP hF dX0_isEndRight_20 (fun v8 hF => ?_)
  refine lv_iload_n hx hb dX0_isEndRight_21 rfl (lv_at hl 1 rfl) ?_
  refine lv_iload_n hx hb dX0_isEndRight_22 rfl (lv_at hl 0 rfl) ?_
  refine lv_if_eq (tgt := 30) hx hb dX0_isEndRight_23 (by decide) (fun c9 => ?_) (fun c9 => ?_)
  · replace hF := it_t hF c9
    refine lv_iconst (v := 0) hx hb dX0_isEndRight_30 (by decide) ?_
    exact nd_X0_isEndRight_31 CX _ _ _ _ _ _ _ _ _ _ hF hP hS (lv_sub hl [2, 1, 0] rfl)
  · replace hF := it_f hF c9
    refine lv_iconst (v := 1) hx hb dX0_isEndRight_26 (by decide) ?_
    refine lv_goto (tgt := 31) hx hb dX0_isEndRight_27 (by decide) ?_
    exact nd_X0_isEndRight_31 CX _ _ _ _ _ _ _ _ _ _ hF hP hS (lv_sub hl [2, 1, 0] rfl)
/-! X0_parse -/
theorem iw_X0_parse_0 : ∀ w ∈ u_ws RX0 TX0 12, w ∈ wsX0_parse := by decide +kernel
theorem iw_X0_parse_3 : ∀ w ∈ u_ws RX3 TX3 2, w ∈ wsX0_parse := by decide +kernel
theorem iw_X0_parse_6 : ∀ w ∈ u_ws RX6 TX6 5, w ∈ wsX0_parse := by decide +kernel
abbrev rm_X0_parse : Room := { frames := 3, cells := 0, slots := 0, locals := 71 }
set_option maxHeartbeats 4000000 in
set_option maxRecDepth 100000 in
theorem nd_X0_parse_120 {p : Program} {l : Launch} {e : Env} {s : State} {m : MethodId} {args : Array Value} {below : List Frame} {meth : Method} {c : Code} {b0 : Nat} {D : va_G} {cy : Nat → ClassId} {M1 : Mm} {r : Int32} (CX : Cx yX0_parse cX0_parse 4 (some .boolean) wsX0_parse b0 D cy p s m args meth c) : ∀ (M : Mm) (x0 : Nat) (H : Heap) (locs : List Loc) (ls : Array Slot), f_X0_parse_J120 M x0 = some (M1, r) → Hp b0 D cy M H → va_S (BA b0) s.heap H locs → lv_has ls 4 [(0, .ref x0)] → W p l e rm_X0_parse s m args below meth c H locs 0 0 (MQ below (Qm b0 D cy M1 (some (.int r))) args s 0 0 (BA b0)) (F0 m 120 ls []) := by
  obtain ⟨hx, hb, hr, hml, hown0, hts, hlk, hK, hN, hb0, hnm⟩ := id CX
  have hown : s.vm.findClass RX0 = some m.cls := hown0
  intro M x0 H locs ls hF hP hS hl
  unfold f_X0_parse_J120 at hF
  refine lv_aload_n hx hb dX0_parse_120 rfl (lv_at hl 0 rfl) ?_
  refine xr_getI hx hb hts iw_X0_parse_0 hown hK hP hF 0 11 rfl (by decide) (by decide +kernel) ⟨rfl, rfl, rfl⟩ dX0_parse_121 (fun v1 hF => ?_)
  refine lv_if_ne (tgt := 138) hx hb dX0_parse_124 (by decide) (fun c2 => ?_) (fun c2 => ?_)
  · replace hF := it_f hF c2
    refine lv_iconst (v := 0) hx hb dX0_parse_138 (by decide) ?_
    cases hF
    exact W.zret hx hb hr rfl (fun t ht hW => ⟨rfl, by rw [ht]; exact hP, hS.F ht⟩) hS.2.2 dX0_parse_139 hlk
  · replace hF := it_t hF c2
    refine lv_aload_n hx hb dX0_parse_127 rfl (lv_at hl 0 rfl) ?_
    obtain ⟨M4, v5, h3, hF⟩ := ob2_some hF
    refine xr_call1 (va_runV (As := []) (rest := []) ⟨hx, hb, hml, hown, hts⟩ (ct_X0_isEndRight l b0 D cy M x0 M4 v5 h3) (cwV 0 hts gX0_parse_X0_isEndRight rfl rfl rfl (by decide +kernel) ⟨Nat.le_of_ble_eq_true rfl, Nat.le_of_ble_eq_true rfl⟩) (xp_V hP hK hN hS hb0 0 rfl (gk_X0_isEndRight h3)) rfl rfl hl.1 rfl (lv_room (Nat.le_of_ble_eq_true rfl)) dX0_parse_128 ⟨Nat.le_of_ble_eq_true rfl, Nat.le_of_ble_eq_true rfl⟩) hS (fun H locs hP hS => ?_)
    refine lv_if_eq (tgt := 138) hx hb dX0_parse_131 (by decide) (fun c6 => ?_) (fun c6 => ?_)
    · replace hF := it_t hF c6
      refine lv_iconst (v := 0) hx hb dX0_parse_138 (by decide) ?_
      cases hF
      exact W.zret hx hb hr rfl (fun t ht hW => ⟨rfl, by rw [ht]; exact hP, hS.F ht⟩) hS.2.2 dX0_parse_139 hlk
    · replace hF := it_f hF c6
      refine lv_iconst (v := 1) hx hb dX0_parse_134 (by decide) ?_
      refine lv_goto (tgt := 139) hx hb dX0_parse_135 (by decide) ?_
      cases hF
      exact W.zret hx hb hr rfl (fun t ht hW => ⟨rfl, by rw [ht]; exact hP, hS.F ht⟩) hS.2.2 dX0_parse_139 hlk
set_option maxHeartbeats 4000000 in
set_option maxRecDepth 100000 in
theorem nd_X0_parse_99 {p : Program} {l : Launch} {e : Env} {s : State} {m : MethodId} {args : Array Value} {below : List Frame} {meth : Method} {c : Code} {b0 : Nat} {D : va_G} {cy : Nat → ClassId} {M1 : Mm} {r : Int32} (CX : Cx yX0_parse cX0_parse 4 (some .boolean) wsX0_parse b0 D cy p s m args meth c) : ∀ (M : Mm) (x0 : Nat) (H : Heap) (locs : List Loc) (ls : Array Slot), f_X0_parse_J99 M x0 = some (M1, r) → Hp b0 D cy M H → va_S (BA b0) s.heap H locs → lv_has ls 4 [(0, .ref x0)] → W p l e rm_X0_parse s m args below meth c H locs 0 0 (MQ below (Qm b0 D cy M1 (some (.int r))) args s 0 0 (BA b0)) (F0 m 99 ls []) := by
  obtain ⟨hx, hb, hr, hml, hown0, hts, hlk, hK, hN, hb0, hnm⟩ := id CX
  have hown : s.vm.findClass RX0 = some m.cls := hown0
  intro M x0 H locs ls hF hP hS hl
  unfold f_X0_parse_J99 at hF
  refine lv_aload_n hx hb dX0_parse_99 rfl (lv_at hl 0 rfl) ?_
  refine xr_getI hx hb hts iw_X0_parse_0 hown hK hP hF 0 5 rfl (by decide) (by decide +kernel) ⟨rfl, rfl, rfl⟩ dX0_parse_100 (fun v1 hF => ?_)
  obtain ⟨v3, h2, hF⟩ := ob_some hF
  refine xr_call1 (va_runSN (As := [.int v1]) (rest := []) ⟨hx, hb, hml, hown, hts⟩ (ct_X10_endsInCheck l b0 D cy M v1 v3 h2) ⟨va_cnB 1 hts gX0_parse_X10_endsInCheck_n68 rfl rfl rfl (hN.1 (RX0, 68, yX10_endsInCheck, "HeaderLine") (by decide +kernel)) (hts (.initialized RX10) (by decide +kernel)) (by decide +kernel) ⟨Nat.le_of_ble_eq_true rfl, Nat.le_of_ble_eq_true rfl⟩, hts (.static yX10_endsInCheck) (by decide +kernel), trivial⟩ (xp_S hP hK hN hS hb0) rfl rfl hl.1 rfl (lv_room (Nat.le_of_ble_eq_true rfl)) dX0_parse_103 ⟨Nat.le_of_ble_eq_true rfl, Nat.le_of_ble_eq_true rfl⟩) hS (fun H locs hP hS => ?_)
  refine lv_if_ne (tgt := 120) hx hb dX0_parse_106 (by decide) (fun c4 => ?_) (fun c4 => ?_)
  · replace hF := it_f hF c4
    exact nd_X0_parse_120 CX _ _ _ _ _ hF hP hS (lv_sub hl [0] rfl)
  · replace hF := it_t hF c4
    refine lv_aload_n hx hb dX0_parse_109 rfl (lv_at hl 0 rfl) ?_
    refine lv_aload_n hx hb dX0_parse_110 rfl (lv_at hl 0 rfl) ?_
    refine lv_bipush (v := 8) hx hb dX0_parse_111 (by decide) ?_
    obtain ⟨M6, v7, h5, hF⟩ := ob2_some hF
    refine xr_call1 (va_runV (As := [.int 8]) (rest := [.ref x0]) ⟨hx, hb, hml, hown, hts⟩ (ct_X0_read l b0 D cy M x0 8 M6 v7 h5) (cwV 1 hts gX0_parse_X0_read rfl rfl rfl (by decide +kernel) ⟨Nat.le_of_ble_eq_true rfl, Nat.le_of_ble_eq_true rfl⟩) (xp_V hP hK hN hS hb0 0 rfl (gk_X0_read h5)) rfl rfl hl.1 rfl (lv_room (Nat.le_of_ble_eq_true rfl)) dX0_parse_113 ⟨Nat.le_of_ble_eq_true rfl, Nat.le_of_ble_eq_true rfl⟩) hS (fun H locs hP hS => ?_)
    refine lv_l2i hx hb dX0_parse_116 rfl ?_
    refine xr_putI hx hb hts iw_X0_parse_0 hown hK hP hS hF 0 8 rfl (by decide) tyX0 tyX0_ok nmX0 (by decide +kernel) (Or.inl rfl) rfl ⟨rfl, rfl, rfl⟩ dX0_parse_117 (fun M8 H locs hF hP hS => ?_)
    exact nd_X0_parse_120 CX _ _ _ _ _ hF hP hS (lv_sub hl [0] rfl)
set_option maxHeartbeats 4000000 in
set_option maxRecDepth 100000 in
theorem nd_X0_parse_79 {p : Program} {l : Launch} {e : Env} {s : State} {m : MethodId} {args : Array Value} {below : List Frame} {meth : Method} {c : Code} {b0 : Nat} {D : va_G} {cy : Nat → ClassId} {M1 : Mm} {r : Int32} (CX : Cx yX0_parse cX0_parse 4 (some .boolean) wsX0_parse b0 D cy p s m args meth c) : ∀ (fu : Nat), ∀ (M : Mm) (x0 : Nat) (x1 : Nat) (x3 : Int32) (H : Heap) (locs : List Loc) (ls : Array Slot), f_X0_parse_L79 fu M x0 x1 x3 = some (M1, r) → Hp b0 D cy M H → va_S (BA b0) s.heap H locs → lv_has ls 4 [(0, .ref x0), (1, .ref x1), (3, .int x3)] → W p l e rm_X0_parse s m args below meth c H locs 0 0 (MQ below (Qm b0 D cy M1 (some (.int r))) args s 0 0 (BA b0)) (F0 m 79 ls []) := by
  obtain ⟨hx, hb, hr, hml, hown0, hts, hlk, hK, hN, hb0, hnm⟩ := id CX
  have hown : s.vm.findClass RX0 = some m.cls := hown0
  intro fu
  induction fu with
  | zero =>
    intro M x0 x1 x3 H locs ls hF hP hS hl
    rw [f_X0_parse_L79] at hF
    cases hF
  | succ fu ih =>
    intro M x0 x1 x3 H locs ls hF hP hS hl
    rw [f_X0_parse_L79] at hF
    refine lv_iload_n hx hb dX0_parse_79 rfl (lv_at hl 2 rfl) ?_
    refine lv_aload_n hx hb dX0_parse_80 rfl (lv_at hl 1 rfl) ?_
    refine xr_getI hx hb hts iw_X0_parse_6 hown hK hP hF 6 4 rfl (by decide) (by decide +kernel) ⟨rfl, rfl, rfl⟩ dX0_parse_81 (fun v1 hF => ?_)
    refine lv_icmp_ge (tgt := 99) hx hb dX0_parse_84 (by decide) (fun c2 => ?_) (fun c2 => ?_)
    · replace hF := it_t hF c2
      exact nd_X0_parse_99 CX _ _ _ _ _ hF hP hS (lv_sub hl [0] rfl)
    · replace hF := it_f hF c2
      refine lv_aload_n hx hb dX0_parse_87 rfl (lv_at hl 0 rfl) ?_
      refine lv_aload_n hx hb dX0_parse_88 rfl (lv_at hl 1 rfl) ?_
      refine lv_iload_n hx hb dX0_parse_89 rfl (lv_at hl 2 rfl) ?_
      obtain ⟨M4, h3, hF⟩ := ob_some hF
      refine xr_call0 (va_runV (As := [.ref x1, .int x3]) (rest := []) ⟨hx, hb, hml, hown, hts⟩ (ct_X0_readField l b0 D cy M x0 x1 x3 M4 h3) (cwV 2 hts gX0_parse_X0_readField rfl rfl rfl (by decide +kernel) ⟨Nat.le_of_ble_eq_true rfl, Nat.le_of_ble_eq_true rfl⟩) (xp_V hP hK hN hS hb0 0 rfl (gk_X0_readField h3)) rfl rfl hl.1 rfl (lv_room (Nat.le_of_ble_eq_true rfl)) dX0_parse_90 ⟨Nat.le_of_ble_eq_true rfl, Nat.le_of_ble_eq_true rfl⟩) hS (fun H locs hP hS => ?_)
      refine lv_iinc (v := x3 + 1) (lv' := [(3, .int (x3 + 1)), (0, .ref x0), (1, .ref x1)]) hx hb dX0_parse_93 hl (k := 2) rfl (by rfl) (by decide) rfl (fun ls hl => ?_)
      refine lv_goto (tgt := 79) hx hb dX0_parse_96 (by decide) ?_
      exact ih _ _ _ _ _ _ _ hF hP hS (lv_sub hl [1, 2, 0] rfl)
theorem gk_X0_parse {M : Mm} {a0 : Nat} {a1 : Nat} {a2 : Nat} {r : (Mm × Int32)} (h : f_X0_parse M a0 a1 a2 = some r) : mK M a0 = 1 := by
  unfold f_X0_parse at h
  exact (if_some h).1
set_option maxHeartbeats 4000000 in
set_option maxRecDepth 100000 in
theorem ct_X0_parse (l : Launch) (b0 : Nat) (D : va_G) (cy : Nat → ClassId) (M : Mm) (a0 : Nat) (a1 : Nat) (a2 : Nat) (M1 : Mm) (r : Int32) (hF : f_X0_parse M a0 a1 a2 = some (M1, r)) : Met l yX0_parse wsX0_parse rm_X0_parse (va_Pc [.ref a0, .ref a1, .ref a2] (Pm b0 D cy M)) (Qm b0 D cy M1 (some (.int r))) 0 0 (BA b0) := by
  refine ct_of [.ref a0, .ref a1, .ref a2] (by decide) rfl ?_
  intro p e s m below meth c CX hP
  obtain ⟨hx, hb, hr, hml, hown0, hts, hlk, hK, hN, hb0, hnm⟩ := id CX
  have hown : s.vm.findClass RX0 = some m.cls := hown0
  have hS : va_S (BA b0) s.heap s.heap [] := va_S.rf
  have hl := lv_entry [.ref a0, .ref a1, .ref a2] (n := 4) (Nat.le_of_ble_eq_true rfl)
  generalize (lg_sl [.ref a0, .ref a1, .ref a2] ++ List.replicate (4 - (lg_sl [.ref a0, .ref a1, .ref a2]).length) Slot.unset).toArray = ls at hl ⊢
  have hl : lv_has ls 4 [(0, .ref a0), (1, .ref a1), (2, .ref a2)] := hl
  unfold f_X0_parse at hF
  replace hF := (if_some hF).2
  refine lv_aload_n hx hb dX0_parse_0 rfl (lv_at hl 0 rfl) ?_
  refine lv_aload_n hx hb dX0_parse_1 rfl (lv_at hl 2 rfl) ?_
  refine xr_putR hx hb hts iw_X0_parse_0 hown hK hP hS (v := (some a2)) hF 0 9 rfl (by decide) tyX0 tyX0_ok nmX0 (by decide +kernel) (Or.inl rfl) (Or.inr ⟨_, rfl⟩) ⟨rfl, rfl, rfl⟩ dX0_parse_2 (fun M1 H locs hF hP hS => ?_)
  refine lv_aload_n hx hb dX0_parse_5 rfl (lv_at hl 0 rfl) ?_
  refine lv_iconst (v := 0) hx hb dX0_parse_6 (by decide) ?_
  refine xr_putI hx hb hts iw_X0_parse_0 hown hK hP hS hF 0 10 rfl (by decide) tyX0 tyX0_ok nmX0 (by decide +kernel) (Or.inl rfl) rfl ⟨rfl, rfl, rfl⟩ dX0_parse_7 (fun M2 H locs hF hP hS => ?_)
  refine lv_aload_n hx hb dX0_parse_10 rfl (lv_at hl 0 rfl) ?_
  refine lv_iconst (v := 0) hx hb dX0_parse_11 (by decide) ?_
  refine xr_putZ hx hb hts iw_X0_parse_0 hown hK hP hS hF 0 11 rfl (by decide) tyX0 tyX0_ok nmX0 (by decide +kernel) (Or.inl rfl) rfl ⟨rfl, rfl, rfl⟩ dX0_parse_12 (fun M3 H locs hF hP hS => ?_)
  refine lv_aload_n hx hb dX0_parse_15 rfl (lv_at hl 0 rfl) ?_
  refine lv_aload_n hx hb dX0_parse_16 rfl (lv_at hl 0 rfl) ?_
  refine lv_iconst (v := 3) hx hb dX0_parse_17 (by decide) ?_
  obtain ⟨M5, v6, h4, hF⟩ := ob2_some hF
  refine xr_call1 (va_runV (As := [.int 3]) (rest := [.ref a0]) ⟨hx, hb, hml, hown, hts⟩ (ct_X0_read l b0 D cy M3 a0 3 M5 v6 h4) (cwV 1 hts gX0_parse_X0_read rfl rfl rfl (by decide +kernel) ⟨Nat.le_of_ble_eq_true rfl, Nat.le_of_ble_eq_true rfl⟩) (xp_V hP hK hN hS hb0 0 rfl (gk_X0_read h4)) rfl rfl hl.1 rfl (lv_room (Nat.le_of_ble_eq_true rfl)) dX0_parse_18 ⟨Nat.le_of_ble_eq_true rfl, Nat.le_of_ble_eq_true rfl⟩) hS (fun H locs hP hS => ?_)
  refine lv_l2i hx hb dX0_parse_21 rfl ?_
  refine xr_putI hx hb hts iw_X0_parse_0 hown hK hP hS hF 0 5 rfl (by decide) tyX0 tyX0_ok nmX0 (by decide +kernel) (Or.inl rfl) rfl ⟨rfl, rfl, rfl⟩ dX0_parse_22 (fun M7 H locs hF hP hS => ?_)
  refine lv_aload_n hx hb dX0_parse_25 rfl (lv_at hl 0 rfl) ?_
  refine lv_aload_n hx hb dX0_parse_26 rfl (lv_at hl 0 rfl) ?_
  refine lv_iconst (v := 3) hx hb dX0_parse_27 (by decide) ?_
  obtain ⟨M9, v10, h8, hF⟩ := ob2_some hF
  refine xr_call1 (va_runV (As := [.int 3]) (rest := [.ref a0]) ⟨hx, hb, hml, hown, hts⟩ (ct_X0_read l b0 D cy M7 a0 3 M9 v10 h8) (cwV 1 hts gX0_parse_X0_read rfl rfl rfl (by decide +kernel) ⟨Nat.le_of_ble_eq_true rfl, Nat.le_of_ble_eq_true rfl⟩) (xp_V hP hK hN hS hb0 0 rfl (gk_X0_read h8)) rfl rfl hl.1 rfl (lv_room (Nat.le_of_ble_eq_true rfl)) dX0_parse_28 ⟨Nat.le_of_ble_eq_true rfl, Nat.le_of_ble_eq_true rfl⟩) hS (fun H locs hP hS => ?_)
  refine lv_l2i hx hb dX0_parse_31 rfl ?_
  refine xr_putI hx hb hts iw_X0_parse_0 hown hK hP hS hF 0 6 rfl (by decide) tyX0 tyX0_ok nmX0 (by decide +kernel) (Or.inl rfl) rfl ⟨rfl, rfl, rfl⟩ dX0_parse_32 (fun M11 H locs hF hP hS => ?_)
  refine lv_aload_n hx hb dX0_parse_35 rfl (lv_at hl 0 rfl) ?_
  refine xr_getR hx hb hts iw_X0_parse_0 hown hK hP hF 0 0 rfl (by decide) (by decide +kernel) ⟨rfl, rfl, rfl⟩ dX0_parse_36 (fun v12 hF => ?_)
  refine lv_aload_n hx hb dX0_parse_39 rfl (lv_at hl 0 rfl) ?_
  refine lv_bipush (v := 16) hx hb dX0_parse_40 (by decide) ?_
  obtain ⟨M14, v15, h13, hF⟩ := ob2_some hF
  refine xr_call1 (va_runV (As := [.int 16]) (rest := [.ref v12]) ⟨hx, hb, hml, hown, hts⟩ (ct_X0_read l b0 D cy M11 a0 16 M14 v15 h13) (cwV 1 hts gX0_parse_X0_read rfl rfl rfl (by decide +kernel) ⟨Nat.le_of_ble_eq_true rfl, Nat.le_of_ble_eq_true rfl⟩) (xp_V hP hK hN hS hb0 0 rfl (gk_X0_read h13)) rfl rfl hl.1 rfl (lv_room (Nat.le_of_ble_eq_true rfl)) dX0_parse_42 ⟨Nat.le_of_ble_eq_true rfl, Nat.le_of_ble_eq_true rfl⟩) hS (fun H locs hP hS => ?_)
  refine lv_l2i hx hb dX0_parse_45 rfl ?_
  refine xr_putI hx hb hts iw_X0_parse_3 hown hK hP hS hF 3 1 rfl (by decide) tyX3 tyX3_ok nmX3 (by decide +kernel) (Or.inl rfl) rfl ⟨rfl, rfl, rfl⟩ dX0_parse_46 (fun M16 H locs hF hP hS => ?_)
  refine lv_aload_n hx hb dX0_parse_49 rfl (lv_at hl 0 rfl) ?_
  refine xr_getI hx hb hts iw_X0_parse_0 hown hK hP hF 0 5 rfl (by decide) (by decide +kernel) ⟨rfl, rfl, rfl⟩ dX0_parse_50 (fun v17 hF => ?_)
  refine lv_iconst (v := 5) hx hb dX0_parse_53 (by decide) ?_
  refine lv_icmp_le (tgt := 59) hx hb dX0_parse_54 (by decide) (fun c18 => ?_) (fun c18 => ?_)
  · replace hF := it_t hF c18
    refine lv_aload_n hx hb dX0_parse_59 rfl (lv_at hl 0 rfl) ?_
    refine xr_getI hx hb hts iw_X0_parse_0 hown hK hP hF 0 5 rfl (by decide) (by decide +kernel) ⟨rfl, rfl, rfl⟩ dX0_parse_60 (fun v19 hF => ?_)
    refine lv_iconst (v := 2) hx hb dX0_parse_63 (by decide) ?_
    refine lv_icmp_gt (tgt := 99) hx hb dX0_parse_64 (by decide) (fun c20 => ?_) (fun c20 => ?_)
    · replace hF := it_t hF c20
      exact nd_X0_parse_99 CX _ _ _ _ _ hF hP hS (lv_sub hl [0] rfl)
    · replace hF := it_f hF c20
      refine lv_aload_n hx hb dX0_parse_67 rfl (lv_at hl 0 rfl) ?_
      refine lv_aload_n hx hb dX0_parse_68 rfl (lv_at hl 0 rfl) ?_
      refine lv_iconst (v := 4) hx hb dX0_parse_69 (by decide) ?_
      obtain ⟨M22, v23, h21, hF⟩ := ob2_some hF
      refine xr_call1 (va_runV (As := [.int 4]) (rest := [.ref a0]) ⟨hx, hb, hml, hown, hts⟩ (ct_X0_read l b0 D cy M16 a0 4 M22 v23 h21) (cwV 1 hts gX0_parse_X0_read rfl rfl rfl (by decide +kernel) ⟨Nat.le_of_ble_eq_true rfl, Nat.le_of_ble_eq_true rfl⟩) (xp_V hP hK hN hS hb0 0 rfl (gk_X0_read h21)) rfl rfl hl.1 rfl (lv_room (Nat.le_of_ble_eq_true rfl)) dX0_parse_70 ⟨Nat.le_of_ble_eq_true rfl, Nat.le_of_ble_eq_true rfl⟩) hS (fun H locs hP hS => ?_)
      refine lv_l2i hx hb dX0_parse_73 rfl ?_
      refine xr_putI hx hb hts iw_X0_parse_0 hown hK hP hS hF 0 7 rfl (by decide) tyX0 tyX0_ok nmX0 (by decide +kernel) (Or.inl rfl) rfl ⟨rfl, rfl, rfl⟩ dX0_parse_74 (fun M24 H locs hF hP hS => ?_)
      refine lv_iconst (v := 0) hx hb dX0_parse_77 (by decide) ?_
      refine lv_istore_n (lv' := [(3, .int 0), (0, .ref a0), (1, .ref a1), (2, .ref a2)]) hx hb dX0_parse_78 rfl hl (by decide) (by first | rfl | simp [cat_rf]) (fun ls hl => ?_)
      exact nd_X0_parse_79 CX _ _ _ _ _ _ _ _ hF hP hS (lv_sub hl [1, 2, 0] rfl)
  · replace hF := it_f hF c18
    refine lv_iconst (v := 0) hx hb dX0_parse_57 (by decide) ?_
    cases hF
    exact W.zret hx hb hr rfl (fun t ht hW => ⟨rfl, by rw [ht]; exact hP, hS.F ht⟩) hS.2.2 dX0_parse_58 hlk
/-! X10_lowest -/
abbrev rm_X10_lowest : Room := { frames := 0, cells := 0, slots := 0, locals := 0 }
set_option maxHeartbeats 4000000 in
set_option maxRecDepth 100000 in
theorem ct_X10_lowest (l : Launch) (b0 : Nat) (D : va_G) (cy : Nat → ClassId) (M : Mm) (a0 : Int64) (a2 : Int32) (r : Int64) (hF : f_X10_lowest a0 a2 = some r) : Met l yX10_lowest wsX10_lowest rm_X10_lowest (va_Pc [.long a0, .int a2] (Pm b0 D cy M)) (Qm b0 D cy M (some (.long r))) 0 0 (BA b0) := by
  refine ct_of [.long a0, .int a2] (by decide) rfl ?_
  intro p e s m below meth c CX hP
  obtain ⟨hx, hb, hr, hml, hown0, hts, hlk, hK, hN, hb0, hnm⟩ := id CX
  have hown : s.vm.findClass RX10 = some m.cls := hown0
  have hS : va_S (BA b0) s.heap s.heap [] := va_S.rf
  have hl := lv_entry [.long a0, .int a2] (n := 3) (Nat.le_of_ble_eq_true rfl)
  generalize (lg_sl [.long a0, .int a2] ++ List.replicate (3 - (lg_sl [.long a0, .int a2]).length) Slot.unset).toArray = ls at hl ⊢
  have hl : lv_has ls 3 [(0, .long a0), (2, .int a2)] := hl
  unfold f_X10_lowest at hF
  refine lv_lload_n hx hb dX10_lowest_0 rfl (lv_at hl 0 rfl) ?_
  refine lv_lconst (v := 1) hx hb dX10_lowest_1 (by decide) ?_
  refine lv_iload_n hx hb dX10_lowest_2 rfl (lv_at hl 1 rfl) ?_
  refine lv_lshl hx hb dX10_lowest_3 rfl ?_
  refine lv_lconst (v := 1) hx hb dX10_lowest_4 (by decide) ?_
  refine lv_lsub hx hb dX10_lowest_5 ?_
  refine lv_land hx hb dX10_lowest_6 ?_
  cases hF
  exact W.lret hx hb hr (fun t ht hW => ⟨rfl, by rw [ht]; exact hP, hS.F ht⟩) hS.2.2 dX10_lowest_7 hlk
/-! X6_lowBits -/
theorem iw_X6_lowBits_6 : ∀ w ∈ u_ws RX6 TX6 5, w ∈ wsX6_lowBits := by decide +kernel
abbrev rm_X6_lowBits : Room := { frames := 1, cells := 0, slots := 0, locals := 22 }
theorem gk_X6_lowBits {M : Mm} {a0 : Nat} {a1 : Int32} {a2 : Int64} {r : Int64} (h : f_X6_lowBits M a0 a1 a2 = some r) : mK M a0 = 7 := by
  unfold f_X6_lowBits at h
  exact (if_some h).1
set_option maxHeartbeats 4000000 in
set_option maxRecDepth 100000 in
theorem ct_X6_lowBits (l : Launch) (b0 : Nat) (D : va_G) (cy : Nat → ClassId) (M : Mm) (a0 : Nat) (a1 : Int32) (a2 : Int64) (r : Int64) (hF : f_X6_lowBits M a0 a1 a2 = some r) : Met l yX6_lowBits wsX6_lowBits rm_X6_lowBits (va_Pc [.ref a0, .int a1, .long a2] (Pm b0 D cy M)) (Qm b0 D cy M (some (.long r))) 0 0 (BA b0) := by
  refine ct_of [.ref a0, .int a1, .long a2] (by decide) rfl ?_
  intro p e s m below meth c CX hP
  obtain ⟨hx, hb, hr, hml, hown0, hts, hlk, hK, hN, hb0, hnm⟩ := id CX
  have hown : s.vm.findClass RX6 = some m.cls := hown0
  have hS : va_S (BA b0) s.heap s.heap [] := va_S.rf
  have hl := lv_entry [.ref a0, .int a1, .long a2] (n := 4) (Nat.le_of_ble_eq_true rfl)
  generalize (lg_sl [.ref a0, .int a1, .long a2] ++ List.replicate (4 - (lg_sl [.ref a0, .int a1, .long a2]).length) Slot.unset).toArray = ls at hl ⊢
  have hl : lv_has ls 4 [(0, .ref a0), (1, .int a1), (2, .long a2)] := hl
  unfold f_X6_lowBits at hF
  replace hF := (if_some hF).2
  refine lv_lload_n hx hb dX6_lowBits_0 rfl (lv_at hl 2 rfl) ?_
  refine lv_aload_n hx hb dX6_lowBits_1 rfl (lv_at hl 0 rfl) ?_
  refine xr_getR hx hb hts iw_X6_lowBits_6 hown hK hP hF 6 1 rfl (by decide) (by decide +kernel) ⟨rfl, rfl, rfl⟩ dX6_lowBits_2 (fun v1 hF => ?_)
  refine lv_iload_n hx hb dX6_lowBits_5 rfl (lv_at hl 1 rfl) ?_
  refine xr_aI hx hb hK hP hF dX6_lowBits_6 (fun v2 hF => ?_)
  obtain ⟨v4, h3, hF⟩ := ob_some hF
  refine xr_call1 (va_runSN (As := [.long a2, .int v2]) (rest := []) ⟨hx, hb, hml, hown, hts⟩ (ct_X10_lowest l b0 D cy M a2 v2 v4 h3) ⟨va_cnB 2 hts gX6_lowBits_X10_lowest_n32 rfl rfl rfl (hN.1 (RX6, 32, yX10_lowest, "HeaderLine") (by decide +kernel)) (hts (.initialized RX10) (by decide +kernel)) (by decide +kernel) ⟨Nat.le_of_ble_eq_true rfl, Nat.le_of_ble_eq_true rfl⟩, hts (.static yX10_lowest) (by decide +kernel), trivial⟩ (xp_S hP hK hN hS hb0) rfl rfl hl.1 rfl (lv_room (Nat.le_of_ble_eq_true rfl)) dX6_lowBits_7 ⟨Nat.le_of_ble_eq_true rfl, Nat.le_of_ble_eq_true rfl⟩) hS (fun H locs hP hS => ?_)
  cases hF
  exact W.lret hx hb hr (fun t ht hW => ⟨rfl, by rw [ht]; exact hP, hS.F ht⟩) hS.2.2 dX6_lowBits_10 hlk
/-! X6_given -/
theorem iw_X6_given_3 : ∀ w ∈ u_ws RX3 TX3 2, w ∈ wsX6_given := by decide +kernel
theorem iw_X6_given_6 : ∀ w ∈ u_ws RX6 TX6 5, w ∈ wsX6_given := by decide +kernel
abbrev rm_X6_given : Room := { frames := 2, cells := 0, slots := 0, locals := 45 }
theorem gk_X6_given {M : Mm} {a0 : Nat} {a1 : Int32} {a2 : Nat} {a3 : Nat} {a4 : Nat} {r : Int64} (h : f_X6_given M a0 a1 a2 a3 a4 = some r) : mK M a0 = 7 := by
  unfold f_X6_given at h
  exact (if_some h).1
set_option maxHeartbeats 4000000 in
set_option maxRecDepth 100000 in
theorem ct_X6_given (l : Launch) (b0 : Nat) (D : va_G) (cy : Nat → ClassId) (M : Mm) (a0 : Nat) (a1 : Int32) (a2 : Nat) (a3 : Nat) (a4 : Nat) (r : Int64) (hF : f_X6_given M a0 a1 a2 a3 a4 = some r) : Met l yX6_given wsX6_given rm_X6_given (va_Pc [.ref a0, .int a1, .ref a2, .ref a3, .ref a4] (Pm b0 D cy M)) (Qm b0 D cy M (some (.long r))) 0 0 (BA b0) := by
  refine ct_of [.ref a0, .int a1, .ref a2, .ref a3, .ref a4] (by decide) rfl ?_
  intro p e s m below meth c CX hP
  obtain ⟨hx, hb, hr, hml, hown0, hts, hlk, hK, hN, hb0, hnm⟩ := id CX
  have hown : s.vm.findClass RX6 = some m.cls := hown0
  have hS : va_S (BA b0) s.heap s.heap [] := va_S.rf
  have hl := lv_entry [.ref a0, .int a1, .ref a2, .ref a3, .ref a4] (n := 7) (Nat.le_of_ble_eq_true rfl)
  generalize (lg_sl [.ref a0, .int a1, .ref a2, .ref a3, .ref a4] ++ List.replicate (7 - (lg_sl [.ref a0, .int a1, .ref a2, .ref a3, .ref a4]).length) Slot.unset).toArray = ls at hl ⊢
  have hl : lv_has ls 7 [(0, .ref a0), (1, .int a1), (2, .ref a2), (3, .ref a3), (4, .ref a4)] := hl
  unfold f_X6_given at hF
  replace hF := (if_some hF).2
  refine lv_aload hx hb dX6_given_0 (lv_at hl 4 rfl) ?_
  refine xr_getI hx hb hts iw_X6_given_3 hown hK hP hF 3 1 rfl (by decide) (by decide +kernel) ⟨rfl, rfl, rfl⟩ dX6_given_2 (fun v1 hF => ?_)
  refine lv_aload_n hx hb dX6_given_5 rfl (lv_at hl 2 rfl) ?_
  refine xr_getI hx hb hts iw_X6_given_3 hown hK hP hF 3 1 rfl (by decide) (by decide +kernel) ⟨rfl, rfl, rfl⟩ dX6_given_6 (fun v2 hF => ?_)
  refine lv_isub hx hb dX6_given_9 ?_
  refine lv_i2l hx hb dX6_given_10 rfl ?_
  refine lv_aload_n hx hb dX6_given_11 rfl (lv_at hl 3 rfl) ?_
  refine lv_iload_n hx hb dX6_given_12 rfl (lv_at hl 1 rfl) ?_
  refine xr_aI hx hb hK hP hF dX6_given_13 (fun v3 hF => ?_)
  refine lv_i2l hx hb dX6_given_14 rfl ?_
  refine lv_lmul hx hb dX6_given_15 ?_
  refine lv_lstore (lv' := [(5, .long (((v1 - v2).toInt64) * v3.toInt64)), (0, .ref a0), (1, .int a1), (2, .ref a2), (3, .ref a3), (4, .ref a4)]) hx hb dX6_given_16 hl (by decide) (by first | rfl | simp [cat_rf]) (fun ls hl => ?_)
  refine lv_aload_n hx hb dX6_given_18 rfl (lv_at hl 1 rfl) ?_
  refine xr_getR hx hb hts iw_X6_given_6 hown hK hP hF 6 0 rfl (by decide) (by decide +kernel) ⟨rfl, rfl, rfl⟩ dX6_given_19 (fun v4 hF => ?_)
  refine lv_iload_n hx hb dX6_given_22 rfl (lv_at hl 2 rfl) ?_
  refine xr_aI hx hb hK hP hF dX6_given_23 (fun v5 hF => ?_)
  by_cases c6 : v5 = 0
  · replace hF := it_t hF c6
    refine lv_tableIn (off := 32) (tgt := 56) hx hb dX6_given_24 (by rw [c6]; decide) (by rw [c6]; decide) (by rw [c6]; decide) (by decide) ?_
    refine lv_aload_n hx hb dX6_given_56 rfl (lv_at hl 3 rfl) ?_
    refine xr_getR hx hb hts iw_X6_given_3 hown hK hP hF 3 0 rfl (by decide) (by decide +kernel) ⟨rfl, rfl, rfl⟩ dX6_given_57 (fun v7 hF => ?_)
    refine lv_iload_n hx hb dX6_given_60 rfl (lv_at hl 2 rfl) ?_
    refine xr_aJ hx hb hK hP hF dX6_given_61 (fun v8 hF => ?_)
    cases hF
    exact W.lret hx hb hr (fun t ht hW => ⟨rfl, by rw [ht]; exact hP, hS.F ht⟩) hS.2.2 dX6_given_62 hlk
  replace hF := it_f hF c6
  by_cases c9 : v5 = 1
  · replace hF := it_t hF c9
    refine lv_tableIn (off := 39) (tgt := 63) hx hb dX6_given_24 (by rw [c9]; decide) (by rw [c9]; decide) (by rw [c9]; decide) (by decide) ?_
    refine lv_aload_n hx hb dX6_given_63 rfl (lv_at hl 1 rfl) ?_
    refine lv_iload_n hx hb dX6_given_64 rfl (lv_at hl 2 rfl) ?_
    refine lv_aload hx hb dX6_given_65 (lv_at hl 5 rfl) ?_
    refine xr_getR hx hb hts iw_X6_given_3 hown hK hP hF 3 0 rfl (by decide) (by decide +kernel) ⟨rfl, rfl, rfl⟩ dX6_given_67 (fun v10 hF => ?_)
    refine lv_aload_n hx hb dX6_given_70 rfl (lv_at hl 1 rfl) ?_
    refine xr_getR hx hb hts iw_X6_given_6 hown hK hP hF 6 2 rfl (by decide) (by decide +kernel) ⟨rfl, rfl, rfl⟩ dX6_given_71 (fun v11 hF => ?_)
    refine lv_iload_n hx hb dX6_given_74 rfl (lv_at hl 2 rfl) ?_
    refine xr_aI hx hb hK hP hF dX6_given_75 (fun v12 hF => ?_)
    refine xr_aJ hx hb hK hP hF dX6_given_76 (fun v13 hF => ?_)
    refine lv_aload_n hx hb dX6_given_77 rfl (lv_at hl 1 rfl) ?_
    refine xr_getR hx hb hts iw_X6_given_6 hown hK hP hF 6 3 rfl (by decide) (by decide +kernel) ⟨rfl, rfl, rfl⟩ dX6_given_78 (fun v14 hF => ?_)
    refine lv_iload_n hx hb dX6_given_81 rfl (lv_at hl 2 rfl) ?_
    refine xr_aI hx hb hK hP hF dX6_given_82 (fun v15 hF => ?_)
    refine lv_i2l hx hb dX6_given_83 rfl ?_
    refine lv_ladd hx hb dX6_given_84 ?_
    obtain ⟨v17, h16, hF⟩ := ob_some hF
    refine xr_call1 (va_runV (As := [.int a1, .long (v13 + v15.toInt64)]) (rest := []) ⟨hx, hb, hml, hown, hts⟩ (ct_X6_lowBits l b0 D cy M a0 a1 (v13 + v15.toInt64) v17 h16) (cwV 2 hts gX6_given_X6_lowBits rfl rfl rfl (by decide +kernel) ⟨Nat.le_of_ble_eq_true rfl, Nat.le_of_ble_eq_true rfl⟩) (xp_V hP hK hN hS hb0 6 rfl (gk_X6_lowBits h16)) rfl rfl hl.1 rfl (lv_room (Nat.le_of_ble_eq_true rfl)) dX6_given_85 ⟨Nat.le_of_ble_eq_true rfl, Nat.le_of_ble_eq_true rfl⟩) hS (fun H locs hP hS => ?_)
    cases hF
    exact W.lret hx hb hr (fun t ht hW => ⟨rfl, by rw [ht]; exact hP, hS.F ht⟩) hS.2.2 dX6_given_88 hlk
  replace hF := it_f hF c9
  by_cases c18 : v5 = 2
  · replace hF := it_t hF c18
    refine lv_tableIn (off := 65) (tgt := 89) hx hb dX6_given_24 (by rw [c18]; decide) (by rw [c18]; decide) (by rw [c18]; decide) (by decide) ?_
    refine lv_aload_n hx hb dX6_given_89 rfl (lv_at hl 1 rfl) ?_
    refine lv_iload_n hx hb dX6_given_90 rfl (lv_at hl 2 rfl) ?_
    refine lv_aload_n hx hb dX6_given_91 rfl (lv_at hl 3 rfl) ?_
    refine xr_getR hx hb hts iw_X6_given_3 hown hK hP hF 3 0 rfl (by decide) (by decide +kernel) ⟨rfl, rfl, rfl⟩ dX6_given_92 (fun v19 hF => ?_)
    refine lv_iload_n hx hb dX6_given_95 rfl (lv_at hl 2 rfl) ?_
    refine xr_aJ hx hb hK hP hF dX6_given_96 (fun v20 hF => ?_)
    refine lv_lload hx hb dX6_given_97 (lv_at hl 0 rfl) ?_
    refine lv_ladd hx hb dX6_given_99 ?_
    obtain ⟨v22, h21, hF⟩ := ob_some hF
    refine xr_call1 (va_runV (As := [.int a1, .long (v20 + (((v1 - v2).toInt64) * v3.toInt64))]) (rest := []) ⟨hx, hb, hml, hown, hts⟩ (ct_X6_lowBits l b0 D cy M a0 a1 (v20 + (((v1 - v2).toInt64) * v3.toInt64)) v22 h21) (cwV 2 hts gX6_given_X6_lowBits rfl rfl rfl (by decide +kernel) ⟨Nat.le_of_ble_eq_true rfl, Nat.le_of_ble_eq_true rfl⟩) (xp_V hP hK hN hS hb0 6 rfl (gk_X6_lowBits h21)) rfl rfl hl.1 rfl (lv_room (Nat.le_of_ble_eq_true rfl)) dX6_given_100 ⟨Nat.le_of_ble_eq_true rfl, Nat.le_of_ble_eq_true rfl⟩) hS (fun H locs hP hS => ?_)
    cases hF
    exact W.lret hx hb hr (fun t ht hW => ⟨rfl, by rw [ht]; exact hP, hS.F ht⟩) hS.2.2 dX6_given_103 hlk
  replace hF := it_f hF c18
  by_cases c23 : v5 = 3
  · replace hF := it_t hF c23
    refine lv_tableIn (off := 80) (tgt := 104) hx hb dX6_given_24 (by rw [c23]; decide) (by rw [c23]; decide) (by rw [c23]; decide) (by decide) ?_
    refine lv_aload_n hx hb dX6_given_104 rfl (lv_at hl 1 rfl) ?_
    refine lv_iload_n hx hb dX6_given_105 rfl (lv_at hl 2 rfl) ?_
    refine lv_aload_n hx hb dX6_given_106 rfl (lv_at hl 3 rfl) ?_
    refine xr_getR hx hb hts iw_X6_given_3 hown hK hP hF 3 0 rfl (by decide) (by decide +kernel) ⟨rfl, rfl, rfl⟩ dX6_given_107 (fun v24 hF => ?_)
    refine lv_iload_n hx hb dX6_given_110 rfl (lv_at hl 2 rfl) ?_
    refine xr_aJ hx hb hK hP hF dX6_given_111 (fun v25 hF => ?_)
    refine lv_lload hx hb dX6_given_112 (lv_at hl 0 rfl) ?_
    refine lv_aload_n hx hb dX6_given_114 rfl (lv_at hl 1 rfl) ?_
    refine xr_getR hx hb hts iw_X6_given_6 hown hK hP hF 6 3 rfl (by decide) (by decide +kernel) ⟨rfl, rfl, rfl⟩ dX6_given_115 (fun v26 hF => ?_)
    refine lv_iload_n hx hb dX6_given_118 rfl (lv_at hl 2 rfl) ?_
    refine xr_aI hx hb hK hP hF dX6_given_119 (fun v27 hF => ?_)
    refine lv_i2l hx hb dX6_given_120 rfl ?_
    refine lv_lmul hx hb dX6_given_121 ?_
    refine lv_ladd hx hb dX6_given_122 ?_
    obtain ⟨v29, h28, hF⟩ := ob_some hF
    refine xr_call1 (va_runV (As := [.int a1, .long (v25 + ((((v1 - v2).toInt64) * v3.toInt64) * v27.toInt64))]) (rest := []) ⟨hx, hb, hml, hown, hts⟩ (ct_X6_lowBits l b0 D cy M a0 a1 (v25 + ((((v1 - v2).toInt64) * v3.toInt64) * v27.toInt64)) v29 h28) (cwV 2 hts gX6_given_X6_lowBits rfl rfl rfl (by decide +kernel) ⟨Nat.le_of_ble_eq_true rfl, Nat.le_of_ble_eq_true rfl⟩) (xp_V hP hK hN hS hb0 6 rfl (gk_X6_lowBits h28)) rfl rfl hl.1 rfl (lv_room (Nat.le_of_ble_eq_true rfl)) dX6_given_123 ⟨Nat.le_of_ble_eq_true rfl, Nat.le_of_ble_eq_true rfl⟩) hS (fun H locs hP hS => ?_)
    cases hF
    exact W.lret hx hb hr (fun t ht hW => ⟨rfl, by rw [ht]; exact hP, hS.F ht⟩) hS.2.2 dX6_given_126 hlk
  replace hF := it_f hF c23
  refine lv_tableOut (tgt := 127) hx hb dX6_given_24 (by have := lv_neT c6 (by decide : (0 : Int32).toInt = 0); have := lv_neT c9 (by decide : (1 : Int32).toInt = 1); have := lv_neT c18 (by decide : (2 : Int32).toInt = 2); have := lv_neT c23 (by decide : (3 : Int32).toInt = 3); omega) (by decide) ?_
  refine lv_lconst (v := 0) hx hb dX6_given_127 (by decide) ?_
  cases hF
  exact W.lret hx hb hr (fun t ht hW => ⟨rfl, by rw [ht]; exact hP, hS.F ht⟩) hS.2.2 dX6_given_128 hlk
/-! X6_found -/
abbrev rm_X6_found : Room := { frames := 2, cells := 0, slots := 0, locals := 45 }
theorem gk_X6_found {M : Mm} {a0 : Nat} {a1 : Int32} {a2 : Int64} {a4 : Int32} {a5 : Int64} {r : Int64} (h : f_X6_found M a0 a1 a2 a4 a5 = some r) : mK M a0 = 7 := by
  unfold f_X6_found at h
  exact (if_some h).1
set_option maxHeartbeats 4000000 in
set_option maxRecDepth 100000 in
theorem ct_X6_found (l : Launch) (b0 : Nat) (D : va_G) (cy : Nat → ClassId) (M : Mm) (a0 : Nat) (a1 : Int32) (a2 : Int64) (a4 : Int32) (a5 : Int64) (r : Int64) (hF : f_X6_found M a0 a1 a2 a4 a5 = some r) : Met l yX6_found wsX6_found rm_X6_found (va_Pc [.ref a0, .int a1, .long a2, .int a4, .long a5] (Pm b0 D cy M)) (Qm b0 D cy M (some (.long r))) 0 0 (BA b0) := by
  refine ct_of [.ref a0, .int a1, .long a2, .int a4, .long a5] (by decide) rfl ?_
  intro p e s m below meth c CX hP
  obtain ⟨hx, hb, hr, hml, hown0, hts, hlk, hK, hN, hb0, hnm⟩ := id CX
  have hown : s.vm.findClass RX6 = some m.cls := hown0
  have hS : va_S (BA b0) s.heap s.heap [] := va_S.rf
  have hl := lv_entry [.ref a0, .int a1, .long a2, .int a4, .long a5] (n := 9) (Nat.le_of_ble_eq_true rfl)
  generalize (lg_sl [.ref a0, .int a1, .long a2, .int a4, .long a5] ++ List.replicate (9 - (lg_sl [.ref a0, .int a1, .long a2, .int a4, .long a5]).length) Slot.unset).toArray = ls at hl ⊢
  have hl : lv_has ls 9 [(0, .ref a0), (1, .int a1), (2, .long a2), (4, .int a4), (5, .long a5)] := hl
  unfold f_X6_found at hF
  replace hF := (if_some hF).2
  refine lv_iload hx hb dX6_found_0 (lv_at hl 3 rfl) ?_
  refine lv_iconst (v := 1) hx hb dX6_found_2 (by decide) ?_
  refine lv_icmp_ge (tgt := 8) hx hb dX6_found_3 (by decide) (fun c1 => ?_) (fun c1 => ?_)
  · replace hF := it_t hF c1
    refine lv_lload_n hx hb dX6_found_8 rfl (lv_at hl 2 rfl) ?_
    refine lv_lconst (v := 1) hx hb dX6_found_9 (by decide) ?_
    refine lv_iload hx hb dX6_found_10 (lv_at hl 3 rfl) ?_
    refine lv_iconst (v := 1) hx hb dX6_found_12 (by decide) ?_
    refine lv_isub hx hb dX6_found_13 ?_
    refine lv_lshl hx hb dX6_found_14 rfl ?_
    refine lv_lsub hx hb dX6_found_15 ?_
    refine lv_lstore (lv' := [(7, .long (a2 - ((1 : Int64) <<< ((a4 - 1).toInt64 &&& 63)))), (0, .ref a0), (1, .int a1), (2, .long a2), (4, .int a4), (5, .long a5)]) hx hb dX6_found_16 hl (by decide) (by first | rfl | simp [cat_rf]) (fun ls hl => ?_)
    refine lv_aload_n hx hb dX6_found_18 rfl (lv_at hl 1 rfl) ?_
    refine lv_iload_n hx hb dX6_found_19 rfl (lv_at hl 2 rfl) ?_
    refine lv_lload hx hb dX6_found_20 (lv_at hl 0 rfl) ?_
    refine lv_lload hx hb dX6_found_22 (lv_at hl 5 rfl) ?_
    refine lv_lload hx hb dX6_found_24 (lv_at hl 0 rfl) ?_
    refine lv_lsub hx hb dX6_found_26 ?_
    refine lv_iload hx hb dX6_found_27 (lv_at hl 4 rfl) ?_
    obtain ⟨v3, h2, hF⟩ := ob_some hF
    refine xr_call1 (va_runSN (As := [.long (a5 - (a2 - ((1 : Int64) <<< ((a4 - 1).toInt64 &&& 63)))), .int a4]) (rest := [.long (a2 - ((1 : Int64) <<< ((a4 - 1).toInt64 &&& 63))), .int a1, .ref a0]) ⟨hx, hb, hml, hown, hts⟩ (ct_X10_lowest l b0 D cy M (a5 - (a2 - ((1 : Int64) <<< ((a4 - 1).toInt64 &&& 63)))) a4 v3 h2) ⟨va_cnB 2 hts gX6_found_X10_lowest_n32 rfl rfl rfl (hN.1 (RX6, 32, yX10_lowest, "HeaderLine") (by decide +kernel)) (hts (.initialized RX10) (by decide +kernel)) (by decide +kernel) ⟨Nat.le_of_ble_eq_true rfl, Nat.le_of_ble_eq_true rfl⟩, hts (.static yX10_lowest) (by decide +kernel), trivial⟩ (xp_S hP hK hN hS hb0) rfl rfl hl.1 rfl (lv_room (Nat.le_of_ble_eq_true rfl)) dX6_found_29 ⟨Nat.le_of_ble_eq_true rfl, Nat.le_of_ble_eq_true rfl⟩) hS (fun H locs hP hS => ?_)
    refine lv_ladd hx hb dX6_found_32 ?_
    obtain ⟨v5, h4, hF⟩ := ob_some hF
    refine xr_call1 (va_runV (As := [.int a1, .long ((a2 - ((1 : Int64) <<< ((a4 - 1).toInt64 &&& 63))) + v3)]) (rest := []) ⟨hx, hb, hml, hown, hts⟩ (ct_X6_lowBits l b0 D cy M a0 a1 ((a2 - ((1 : Int64) <<< ((a4 - 1).toInt64 &&& 63))) + v3) v5 h4) (cwV 2 hts gX6_found_X6_lowBits rfl rfl rfl (by decide +kernel) ⟨Nat.le_of_ble_eq_true rfl, Nat.le_of_ble_eq_true rfl⟩) (xp_V hP hK hN hS hb0 6 rfl (gk_X6_lowBits h4)) rfl rfl hl.1 rfl (lv_room (Nat.le_of_ble_eq_true rfl)) dX6_found_33 ⟨Nat.le_of_ble_eq_true rfl, Nat.le_of_ble_eq_true rfl⟩) hS (fun H locs hP hS => ?_)
    cases hF
    exact W.lret hx hb hr (fun t ht hW => ⟨rfl, by rw [ht]; exact hP, hS.F ht⟩) hS.2.2 dX6_found_36 hlk
  · replace hF := it_f hF c1
    refine lv_lload_n hx hb dX6_found_6 rfl (lv_at hl 2 rfl) ?_
    cases hF
    exact W.lret hx hb hr (fun t ht hW => ⟨rfl, by rw [ht]; exact hP, hS.F ht⟩) hS.2.2 dX6_found_7 hlk
