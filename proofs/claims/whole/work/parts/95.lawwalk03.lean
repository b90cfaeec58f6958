set_option maxHeartbeats 4000000 in
set_option maxRecDepth 100000 in
theorem nd_L_law_492 {p : Program} {l : Launch} {e : Env} {s : State} {m : MethodId} {below : List Frame} {meth : Method} {c : Code} {b L : Nat} {xs : Nat → Int32} {D : va_G} {cy : Nat → ClassId} {M1 : Mm} {cells slots : Nat} {k28 : Mm → Nat → Nat → Int32 → Option (Mm × Int32)} (CX : CL p s m meth c b L xs D cy) (hk : ∀ (M : Mm) (x1 x2 : Nat) (x3 : Int32) (H : Heap) (locs : List Loc) (ls : Array Slot), k28 M x1 x2 x3 = some (M1, 1) → Hp s.heap.size D cy M H → va_S (BA s.heap.size) s.heap H locs → lv_has ls 4 [(0, .ref b), (1, .ref x1), (2, .ref x2), (3, .int x3)] → W p l e room_1 s m #[Value.ref b] below meth c H locs (cells + 5) (slots + 93) (lw_Z below #[Value.ref b] s) (F0 m 28 ls [])) (hc : cells + 5 ≤ 600000) (hs : slots + 93 ≤ 7302250) : ∀ (M : Mm) (x1 : Nat) (x2 : Nat) (x3 : Int32) (H : Heap) (locs : List Loc) (ls : Array Slot), f_L_law_J492 L xs k28 M x1 x2 x3 = some (M1, 1) → Hp s.heap.size D cy M H → va_S (BA s.heap.size) s.heap H locs → lv_has ls 4 [(0, .ref b), (1, .ref x1), (2, .ref x2), (3, .int x3)] → W p l e room_1 s m #[Value.ref b] below meth c H locs (cells) (slots) (lw_Z below #[Value.ref b] s) (F0 m 492 ls []) := by
  obtain ⟨hx, hb, hr, hml, hown, hts, hlocks, hK, hN, hX, hbl⟩ := id CX
  have hb0 : s.heap.size ≤ s.heap.size := Nat.le_refl _
  have hbA : ¬ BA s.heap.size b := Nat.not_le.mpr hbl
  intro M x1 x2 x3 H locs ls hF hP hS hl
  unfold f_L_law_J492 at hF
  refine lv_aload_n hx hb dL_law_492 rfl (lv_at hl 1 rfl) ?_
  refine lv_aload_n hx hb dL_law_493 rfl (lv_at hl 0 rfl) ?_
  refine lv_iload_n hx hb dL_law_494 rfl (lv_at hl 3 rfl) ?_
  refine lv_iconst (v := 1) hx hb dL_law_495 (by decide) ?_
  refine lv_iadd hx hb dL_law_496 ?_
  refine xs_ld hx hb hX hbl hbA hS hF dL_law_497 (fun v1 hF => ?_)
  refine lv_aload_n hx hb dL_law_498 rfl (lv_at hl 0 rfl) ?_
  refine lv_iload_n hx hb dL_law_499 rfl (lv_at hl 3 rfl) ?_
  refine lv_iconst (v := 2) hx hb dL_law_500 (by decide) ?_
  refine lv_iadd hx hb dL_law_501 ?_
  refine xs_ld hx hb hX hbl hbA hS hF dL_law_502 (fun v2 hF => ?_)
  refine lv_aload_n hx hb dL_law_503 rfl (lv_at hl 0 rfl) ?_
  refine lv_iload_n hx hb dL_law_504 rfl (lv_at hl 3 rfl) ?_
  refine lv_iconst (v := 3) hx hb dL_law_505 (by decide) ?_
  refine lv_iadd hx hb dL_law_506 ?_
  refine xs_ld hx hb hX hbl hbA hS hF dL_law_507 (fun v3 hF => ?_)
  obtain ⟨M5, v6, h4, hF⟩ := ob2_some hF
  refine xr_call1 (va_runV (As := [.int v1, .int v2, .int v3]) (rest := []) ⟨hx, hb, hml, hown, hts⟩ (ct_X10_bend l s.heap.size D cy M x1 v1 v2 v3 M5 v6 h4) (cwV 3 hts gL_law_X10_bend rfl rfl rfl (by decide +kernel) ⟨Nat.le_of_ble_eq_true rfl, Nat.le_of_ble_eq_true rfl⟩) (xp_V hP hK hN hS hb0 10 rfl (gk_X10_bend h4)) rfl rfl hl.1 rfl (lv_room (Nat.le_of_ble_eq_true rfl)) dL_law_508 ⟨(by show cells + 0 ≤ 600000; omega), (by show slots + 0 ≤ 7302250; omega)⟩) hS (fun H locs hP hS => ?_)
  refine lv_aload_n hx hb dL_law_511 rfl (lv_at hl 2 rfl) ?_
  refine lv_aload_n hx hb dL_law_512 rfl (lv_at hl 0 rfl) ?_
  refine lv_iload_n hx hb dL_law_513 rfl (lv_at hl 3 rfl) ?_
  refine lv_iconst (v := 1) hx hb dL_law_514 (by decide) ?_
  refine lv_iadd hx hb dL_law_515 ?_
  refine xs_ld hx hb hX hbl hbA hS hF dL_law_516 (fun v7 hF => ?_)
  refine lv_aload_n hx hb dL_law_517 rfl (lv_at hl 0 rfl) ?_
  refine lv_iload_n hx hb dL_law_518 rfl (lv_at hl 3 rfl) ?_
  refine lv_iconst (v := 2) hx hb dL_law_519 (by decide) ?_
  refine lv_iadd hx hb dL_law_520 ?_
  refine xs_ld hx hb hX hbl hbA hS hF dL_law_521 (fun v8 hF => ?_)
  refine lv_aload_n hx hb dL_law_522 rfl (lv_at hl 0 rfl) ?_
  refine lv_iload_n hx hb dL_law_523 rfl (lv_at hl 3 rfl) ?_
  refine lv_iconst (v := 3) hx hb dL_law_524 (by decide) ?_
  refine lv_iadd hx hb dL_law_525 ?_
  refine xs_ld hx hb hX hbl hbA hS hF dL_law_526 (fun v9 hF => ?_)
  obtain ⟨M11, v12, h10, hF⟩ := ob2_some hF
  refine xr_call1 (va_runV (As := [.int v7, .int v8, .int v9]) (rest := [.int v6]) ⟨hx, hb, hml, hown, hts⟩ (ct_X11_bend l s.heap.size D cy M5 x2 v7 v8 v9 M11 v12 h10) (cwV 3 hts gL_law_X11_bend rfl rfl rfl (by decide +kernel) ⟨Nat.le_of_ble_eq_true rfl, Nat.le_of_ble_eq_true rfl⟩) (xp_V hP hK hN hS hb0 11 rfl (gk_X11_bend h10)) rfl rfl hl.1 rfl (lv_room (Nat.le_of_ble_eq_true rfl)) dL_law_527 ⟨(by show cells + 0 + 0 ≤ 600000; omega), (by show slots + 0 + 0 ≤ 7302250; omega)⟩) hS (fun H locs hP hS => ?_)
  refine lv_icmp_eq (tgt := 1179) hx hb dL_law_530 (by decide) (fun c13 => ?_) (fun c13 => ?_)
  · replace hF := it_t hF c13
    refine lv_iinc (v := x3 + 6) (lv' := [(3, .int (x3 + 6)), (0, .ref b), (1, .ref x1), (2, .ref x2)]) hx hb dL_law_1179 hl (k := 3) rfl (by rfl) (by decide) rfl (fun ls hl => ?_)
    refine lv_goto (tgt := 28) hx hb dL_law_1182 (by decide) ?_
    refine W.widen (k := cells + 5) (n := slots + 93) (by omega) (by omega) ?_
    exact hk _ _ _ _ _ _ _ hF hP hS (lv_sub hl [1, 2, 3, 0] rfl)
  · replace hF := it_f hF c13
    refine lv_iconst (v := 0) hx hb dL_law_533 (by decide) ?_
    exact absurd hF (no_01 _ _)
set_option maxHeartbeats 4000000 in
set_option maxRecDepth 100000 in
theorem nd_L_law_469 {p : Program} {l : Launch} {e : Env} {s : State} {m : MethodId} {below : List Frame} {meth : Method} {c : Code} {b L : Nat} {xs : Nat → Int32} {D : va_G} {cy : Nat → ClassId} {M1 : Mm} {cells slots : Nat} {k28 : Mm → Nat → Nat → Int32 → Option (Mm × Int32)} (CX : CL p s m meth c b L xs D cy) (hk : ∀ (M : Mm) (x1 x2 : Nat) (x3 : Int32) (H : Heap) (locs : List Loc) (ls : Array Slot), k28 M x1 x2 x3 = some (M1, 1) → Hp s.heap.size D cy M H → va_S (BA s.heap.size) s.heap H locs → lv_has ls 4 [(0, .ref b), (1, .ref x1), (2, .ref x2), (3, .int x3)] → W p l e room_1 s m #[Value.ref b] below meth c H locs (cells + 5) (slots + 93) (lw_Z below #[Value.ref b] s) (F0 m 28 ls [])) (hc : cells + 5 ≤ 600000) (hs : slots + 93 ≤ 7302250) : ∀ (M : Mm) (x1 : Nat) (x2 : Nat) (x3 : Int32) (H : Heap) (locs : List Loc) (ls : Array Slot), f_L_law_J469 L xs k28 M x1 x2 x3 = some (M1, 1) → Hp s.heap.size D cy M H → va_S (BA s.heap.size) s.heap H locs → lv_has ls 4 [(0, .ref b), (1, .ref x1), (2, .ref x2), (3, .int x3)] → W p l e room_1 s m #[Value.ref b] below meth c H locs (cells) (slots) (lw_Z below #[Value.ref b] s) (F0 m 469 ls []) := by
  obtain ⟨hx, hb, hr, hml, hown, hts, hlocks, hK, hN, hX, hbl⟩ := id CX
  have hb0 : s.heap.size ≤ s.heap.size := Nat.le_refl _
  have hbA : ¬ BA s.heap.size b := Nat.not_le.mpr hbl
  intro M x1 x2 x3 H locs ls hF hP hS hl
  unfold f_L_law_J469 at hF
  refine lv_aload_n hx hb dL_law_469 rfl (lv_at hl 1 rfl) ?_
  refine lv_aload_n hx hb dL_law_470 rfl (lv_at hl 0 rfl) ?_
  refine lv_iload_n hx hb dL_law_471 rfl (lv_at hl 3 rfl) ?_
  refine lv_iconst (v := 1) hx hb dL_law_472 (by decide) ?_
  refine lv_iadd hx hb dL_law_473 ?_
  refine xs_ld hx hb hX hbl hbA hS hF dL_law_474 (fun v1 hF => ?_)
  obtain ⟨M3, v4, h2, hF⟩ := ob2_some hF
  refine xr_call1 (va_runV (As := [.int v1]) (rest := []) ⟨hx, hb, hml, hown, hts⟩ (ct_X10_twice l s.heap.size D cy M x1 v1 M3 v4 h2) (cwV 1 hts gL_law_X10_twice rfl rfl rfl (by decide +kernel) ⟨Nat.le_of_ble_eq_true rfl, Nat.le_of_ble_eq_true rfl⟩) (xp_V hP hK hN hS hb0 10 rfl (gk_X10_twice h2)) rfl rfl hl.1 rfl (lv_room (Nat.le_of_ble_eq_true rfl)) dL_law_475 ⟨(by show cells + 2 ≤ 600000; omega), (by show slots + 73 ≤ 7302250; omega)⟩) hS (fun H locs hP hS => ?_)
  refine lv_aload_n hx hb dL_law_478 rfl (lv_at hl 2 rfl) ?_
  refine lv_aload_n hx hb dL_law_479 rfl (lv_at hl 0 rfl) ?_
  refine lv_iload_n hx hb dL_law_480 rfl (lv_at hl 3 rfl) ?_
  refine lv_iconst (v := 1) hx hb dL_law_481 (by decide) ?_
  refine lv_iadd hx hb dL_law_482 ?_
  refine xs_ld hx hb hX hbl hbA hS hF dL_law_483 (fun v5 hF => ?_)
  obtain ⟨M7, v8, h6, hF⟩ := ob2_some hF
  refine xr_call1 (va_runV (As := [.int v5]) (rest := [.int v4]) ⟨hx, hb, hml, hown, hts⟩ (ct_X11_twice l s.heap.size D cy M3 x2 v5 M7 v8 h6) (cwV 1 hts gL_law_X11_twice rfl rfl rfl (by decide +kernel) ⟨Nat.le_of_ble_eq_true rfl, Nat.le_of_ble_eq_true rfl⟩) (xp_V hP hK hN hS hb0 11 rfl (gk_X11_twice h6)) rfl rfl hl.1 rfl (lv_room (Nat.le_of_ble_eq_true rfl)) dL_law_484 ⟨(by show cells + 2 + 0 ≤ 600000; omega), (by show slots + 73 + 0 ≤ 7302250; omega)⟩) hS (fun H locs hP hS => ?_)
  refine lv_icmp_eq (tgt := 1179) hx hb dL_law_487 (by decide) (fun c9 => ?_) (fun c9 => ?_)
  · replace hF := it_t hF c9
    refine lv_iinc (v := x3 + 6) (lv' := [(3, .int (x3 + 6)), (0, .ref b), (1, .ref x1), (2, .ref x2)]) hx hb dL_law_1179 hl (k := 3) rfl (by rfl) (by decide) rfl (fun ls hl => ?_)
    refine lv_goto (tgt := 28) hx hb dL_law_1182 (by decide) ?_
    refine W.widen (k := cells + 5) (n := slots + 93) (by omega) (by omega) ?_
    exact hk _ _ _ _ _ _ _ hF hP hS (lv_sub hl [1, 2, 3, 0] rfl)
  · replace hF := it_f hF c9
    refine lv_iconst (v := 0) hx hb dL_law_490 (by decide) ?_
    exact absurd hF (no_01 _ _)
set_option maxHeartbeats 4000000 in
set_option maxRecDepth 100000 in
theorem nd_L_law_446 {p : Program} {l : Launch} {e : Env} {s : State} {m : MethodId} {below : List Frame} {meth : Method} {c : Code} {b L : Nat} {xs : Nat → Int32} {D : va_G} {cy : Nat → ClassId} {M1 : Mm} {cells slots : Nat} {k28 : Mm → Nat → Nat → Int32 → Option (Mm × Int32)} (CX : CL p s m meth c b L xs D cy) (hk : ∀ (M : Mm) (x1 x2 : Nat) (x3 : Int32) (H : Heap) (locs : List Loc) (ls : Array Slot), k28 M x1 x2 x3 = some (M1, 1) → Hp s.heap.size D cy M H → va_S (BA s.heap.size) s.heap H locs → lv_has ls 4 [(0, .ref b), (1, .ref x1), (2, .ref x2), (3, .int x3)] → W p l e room_1 s m #[Value.ref b] below meth c H locs (cells + 5) (slots + 93) (lw_Z below #[Value.ref b] s) (F0 m 28 ls [])) (hc : cells + 5 ≤ 600000) (hs : slots + 93 ≤ 7302250) : ∀ (M : Mm) (x1 : Nat) (x2 : Nat) (x3 : Int32) (H : Heap) (locs : List Loc) (ls : Array Slot), f_L_law_J446 L xs k28 M x1 x2 x3 = some (M1, 1) → Hp s.heap.size D cy M H → va_S (BA s.heap.size) s.heap H locs → lv_has ls 4 [(0, .ref b), (1, .ref x1), (2, .ref x2), (3, .int x3)] → W p l e room_1 s m #[Value.ref b] below meth c H locs (cells) (slots) (lw_Z below #[Value.ref b] s) (F0 m 446 ls []) := by
  obtain ⟨hx, hb, hr, hml, hown, hts, hlocks, hK, hN, hX, hbl⟩ := id CX
  have hb0 : s.heap.size ≤ s.heap.size := Nat.le_refl _
  have hbA : ¬ BA s.heap.size b := Nat.not_le.mpr hbl
  intro M x1 x2 x3 H locs ls hF hP hS hl
  unfold f_L_law_J446 at hF
  refine lv_aload_n hx hb dL_law_446 rfl (lv_at hl 1 rfl) ?_
  refine lv_aload_n hx hb dL_law_447 rfl (lv_at hl 0 rfl) ?_
  refine lv_iload_n hx hb dL_law_448 rfl (lv_at hl 3 rfl) ?_
  refine lv_iconst (v := 1) hx hb dL_law_449 (by decide) ?_
  refine lv_iadd hx hb dL_law_450 ?_
  refine xs_ld hx hb hX hbl hbA hS hF dL_law_451 (fun v1 hF => ?_)
  obtain ⟨M3, v4, h2, hF⟩ := ob2_some hF
  refine xr_call1 (va_runV (As := [.int v1]) (rest := []) ⟨hx, hb, hml, hown, hts⟩ (ct_X10_lose l s.heap.size D cy M x1 v1 M3 v4 h2) (cwV 1 hts gL_law_X10_lose rfl rfl rfl (by decide +kernel) ⟨Nat.le_of_ble_eq_true rfl, Nat.le_of_ble_eq_true rfl⟩) (xp_V hP hK hN hS hb0 10 rfl (gk_X10_lose h2)) rfl rfl hl.1 rfl (lv_room (Nat.le_of_ble_eq_true rfl)) dL_law_452 ⟨(by show cells + 0 ≤ 600000; omega), (by show slots + 0 ≤ 7302250; omega)⟩) hS (fun H locs hP hS => ?_)
  refine lv_aload_n hx hb dL_law_455 rfl (lv_at hl 2 rfl) ?_
  refine lv_aload_n hx hb dL_law_456 rfl (lv_at hl 0 rfl) ?_
  refine lv_iload_n hx hb dL_law_457 rfl (lv_at hl 3 rfl) ?_
  refine lv_iconst (v := 1) hx hb dL_law_458 (by decide) ?_
  refine lv_iadd hx hb dL_law_459 ?_
  refine xs_ld hx hb hX hbl hbA hS hF dL_law_460 (fun v5 hF => ?_)
  obtain ⟨M7, v8, h6, hF⟩ := ob2_some hF
  refine xr_call1 (va_runV (As := [.int v5]) (rest := [.int v4]) ⟨hx, hb, hml, hown, hts⟩ (ct_X11_lose l s.heap.size D cy M3 x2 v5 M7 v8 h6) (cwV 1 hts gL_law_X11_lose rfl rfl rfl (by decide +kernel) ⟨Nat.le_of_ble_eq_true rfl, Nat.le_of_ble_eq_true rfl⟩) (xp_V hP hK hN hS hb0 11 rfl (gk_X11_lose h6)) rfl rfl hl.1 rfl (lv_room (Nat.le_of_ble_eq_true rfl)) dL_law_461 ⟨(by show cells + 0 + 0 ≤ 600000; omega), (by show slots + 0 + 0 ≤ 7302250; omega)⟩) hS (fun H locs hP hS => ?_)
  refine lv_icmp_eq (tgt := 1179) hx hb dL_law_464 (by decide) (fun c9 => ?_) (fun c9 => ?_)
  · replace hF := it_t hF c9
    refine lv_iinc (v := x3 + 6) (lv' := [(3, .int (x3 + 6)), (0, .ref b), (1, .ref x1), (2, .ref x2)]) hx hb dL_law_1179 hl (k := 3) rfl (by rfl) (by decide) rfl (fun ls hl => ?_)
    refine lv_goto (tgt := 28) hx hb dL_law_1182 (by decide) ?_
    refine W.widen (k := cells + 5) (n := slots + 93) (by omega) (by omega) ?_
    exact hk _ _ _ _ _ _ _ hF hP hS (lv_sub hl [1, 2, 3, 0] rfl)
  · replace hF := it_f hF c9
    refine lv_iconst (v := 0) hx hb dL_law_467 (by decide) ?_
    exact absurd hF (no_01 _ _)
set_option maxHeartbeats 4000000 in
set_option maxRecDepth 100000 in
theorem nd_L_law_423 {p : Program} {l : Launch} {e : Env} {s : State} {m : MethodId} {below : List Frame} {meth : Method} {c : Code} {b L : Nat} {xs : Nat → Int32} {D : va_G} {cy : Nat → ClassId} {M1 : Mm} {cells slots : Nat} {k28 : Mm → Nat → Nat → Int32 → Option (Mm × Int32)} (CX : CL p s m meth c b L xs D cy) (hk : ∀ (M : Mm) (x1 x2 : Nat) (x3 : Int32) (H : Heap) (locs : List Loc) (ls : Array Slot), k28 M x1 x2 x3 = some (M1, 1) → Hp s.heap.size D cy M H → va_S (BA s.heap.size) s.heap H locs → lv_has ls 4 [(0, .ref b), (1, .ref x1), (2, .ref x2), (3, .int x3)] → W p l e room_1 s m #[Value.ref b] below meth c H locs (cells + 5) (slots + 93) (lw_Z below #[Value.ref b] s) (F0 m 28 ls [])) (hc : cells + 5 ≤ 600000) (hs : slots + 93 ≤ 7302250) : ∀ (M : Mm) (x1 : Nat) (x2 : Nat) (x3 : Int32) (H : Heap) (locs : List Loc) (ls : Array Slot), f_L_law_J423 L xs k28 M x1 x2 x3 = some (M1, 1) → Hp s.heap.size D cy M H → va_S (BA s.heap.size) s.heap H locs → lv_has ls 4 [(0, .ref b), (1, .ref x1), (2, .ref x2), (3, .int x3)] → W p l e room_1 s m #[Value.ref b] below meth c H locs (cells) (slots) (lw_Z below #[Value.ref b] s) (F0 m 423 ls []) := by
  obtain ⟨hx, hb, hr, hml, hown, hts, hlocks, hK, hN, hX, hbl⟩ := id CX
  have hb0 : s.heap.size ≤ s.heap.size := Nat.le_refl _
  have hbA : ¬ BA s.heap.size b := Nat.not_le.mpr hbl
  intro M x1 x2 x3 H locs ls hF hP hS hl
  unfold f_L_law_J423 at hF
  refine lv_aload_n hx hb dL_law_423 rfl (lv_at hl 1 rfl) ?_
  refine lv_aload_n hx hb dL_law_424 rfl (lv_at hl 0 rfl) ?_
  refine lv_iload_n hx hb dL_law_425 rfl (lv_at hl 3 rfl) ?_
  refine lv_iconst (v := 1) hx hb dL_law_426 (by decide) ?_
  refine lv_iadd hx hb dL_law_427 ?_
  refine xs_ld hx hb hX hbl hbA hS hF dL_law_428 (fun v1 hF => ?_)
  obtain ⟨M3, v4, h2, hF⟩ := ob2_some hF
  refine xr_call1 (va_runV (As := [.int v1]) (rest := []) ⟨hx, hb, hml, hown, hts⟩ (ct_X10_deliver l s.heap.size D cy M x1 v1 M3 v4 h2) (cwV 1 hts gL_law_X10_deliver rfl rfl rfl (by decide +kernel) ⟨Nat.le_of_ble_eq_true rfl, Nat.le_of_ble_eq_true rfl⟩) (xp_V hP hK hN hS hb0 10 rfl (gk_X10_deliver h2)) rfl rfl hl.1 rfl (lv_room (Nat.le_of_ble_eq_true rfl)) dL_law_429 ⟨(by show cells + 0 ≤ 600000; omega), (by show slots + 0 ≤ 7302250; omega)⟩) hS (fun H locs hP hS => ?_)
  refine lv_aload_n hx hb dL_law_432 rfl (lv_at hl 2 rfl) ?_
  refine lv_aload_n hx hb dL_law_433 rfl (lv_at hl 0 rfl) ?_
  refine lv_iload_n hx hb dL_law_434 rfl (lv_at hl 3 rfl) ?_
  refine lv_iconst (v := 1) hx hb dL_law_435 (by decide) ?_
  refine lv_iadd hx hb dL_law_436 ?_
  refine xs_ld hx hb hX hbl hbA hS hF dL_law_437 (fun v5 hF => ?_)
  obtain ⟨M7, v8, h6, hF⟩ := ob2_some hF
  refine xr_call1 (va_runV (As := [.int v5]) (rest := [.int v4]) ⟨hx, hb, hml, hown, hts⟩ (ct_X11_deliver l s.heap.size D cy M3 x2 v5 M7 v8 h6) (cwV 1 hts gL_law_X11_deliver rfl rfl rfl (by decide +kernel) ⟨Nat.le_of_ble_eq_true rfl, Nat.le_of_ble_eq_true rfl⟩) (xp_V hP hK hN hS hb0 11 rfl (gk_X11_deliver h6)) rfl rfl hl.1 rfl (lv_room (Nat.le_of_ble_eq_true rfl)) dL_law_438 ⟨(by show cells + 0 + 0 ≤ 600000; omega), (by show slots + 0 + 0 ≤ 7302250; omega)⟩) hS (fun H locs hP hS => ?_)
  refine lv_icmp_eq (tgt := 1179) hx hb dL_law_441 (by decide) (fun c9 => ?_) (fun c9 => ?_)
  · replace hF := it_t hF c9
    refine lv_iinc (v := x3 + 6) (lv' := [(3, .int (x3 + 6)), (0, .ref b), (1, .ref x1), (2, .ref x2)]) hx hb dL_law_1179 hl (k := 3) rfl (by rfl) (by decide) rfl (fun ls hl => ?_)
    refine lv_goto (tgt := 28) hx hb dL_law_1182 (by decide) ?_
    refine W.widen (k := cells + 5) (n := slots + 93) (by omega) (by omega) ?_
    exact hk _ _ _ _ _ _ _ hF hP hS (lv_sub hl [1, 2, 3, 0] rfl)
  · replace hF := it_f hF c9
    refine lv_iconst (v := 0) hx hb dL_law_444 (by decide) ?_
    exact absurd hF (no_01 _ _)
set_option maxHeartbeats 4000000 in
set_option maxRecDepth 100000 in
theorem nd_L_law_400 {p : Program} {l : Launch} {e : Env} {s : State} {m : MethodId} {below : List Frame} {meth : Method} {c : Code} {b L : Nat} {xs : Nat → Int32} {D : va_G} {cy : Nat → ClassId} {M1 : Mm} {cells slots : Nat} {k28 : Mm → Nat → Nat → Int32 → Option (Mm × Int32)} (CX : CL p s m meth c b L xs D cy) (hk : ∀ (M : Mm) (x1 x2 : Nat) (x3 : Int32) (H : Heap) (locs : List Loc) (ls : Array Slot), k28 M x1 x2 x3 = some (M1, 1) → Hp s.heap.size D cy M H → va_S (BA s.heap.size) s.heap H locs → lv_has ls 4 [(0, .ref b), (1, .ref x1), (2, .ref x2), (3, .int x3)] → W p l e room_1 s m #[Value.ref b] below meth c H locs (cells + 5) (slots + 93) (lw_Z below #[Value.ref b] s) (F0 m 28 ls [])) (hc : cells + 5 ≤ 600000) (hs : slots + 93 ≤ 7302250) : ∀ (M : Mm) (x1 : Nat) (x2 : Nat) (x3 : Int32) (H : Heap) (locs : List Loc) (ls : Array Slot), f_L_law_J400 L xs k28 M x1 x2 x3 = some (M1, 1) → Hp s.heap.size D cy M H → va_S (BA s.heap.size) s.heap H locs → lv_has ls 4 [(0, .ref b), (1, .ref x1), (2, .ref x2), (3, .int x3)] → W p l e room_1 s m #[Value.ref b] below meth c H locs (cells) (slots) (lw_Z below #[Value.ref b] s) (F0 m 400 ls []) := by
  obtain ⟨hx, hb, hr, hml, hown, hts, hlocks, hK, hN, hX, hbl⟩ := id CX
  have hb0 : s.heap.size ≤ s.heap.size := Nat.le_refl _
  have hbA : ¬ BA s.heap.size b := Nat.not_le.mpr hbl
  intro M x1 x2 x3 H locs ls hF hP hS hl
  unfold f_L_law_J400 at hF
  refine lv_aload_n hx hb dL_law_400 rfl (lv_at hl 1 rfl) ?_
  refine lv_aload_n hx hb dL_law_401 rfl (lv_at hl 0 rfl) ?_
  refine lv_iload_n hx hb dL_law_402 rfl (lv_at hl 3 rfl) ?_
  refine lv_iconst (v := 1) hx hb dL_law_403 (by decide) ?_
  refine lv_iadd hx hb dL_law_404 ?_
  refine xs_ld hx hb hX hbl hbA hS hF dL_law_405 (fun v1 hF => ?_)
  obtain ⟨M3, v4, h2, hF⟩ := ob2_some hF
  refine xr_call1 (va_runV (As := [.int v1]) (rest := []) ⟨hx, hb, hml, hown, hts⟩ (ct_X10_nack l s.heap.size D cy M x1 v1 M3 v4 h2) (cwV 1 hts gL_law_X10_nack rfl rfl rfl (by decide +kernel) ⟨Nat.le_of_ble_eq_true rfl, Nat.le_of_ble_eq_true rfl⟩) (xp_V hP hK hN hS hb0 10 rfl (gk_X10_nack h2)) rfl rfl hl.1 rfl (lv_room (Nat.le_of_ble_eq_true rfl)) dL_law_406 ⟨(by show cells + 2 ≤ 600000; omega), (by show slots + 73 ≤ 7302250; omega)⟩) hS (fun H locs hP hS => ?_)
  refine lv_aload_n hx hb dL_law_409 rfl (lv_at hl 2 rfl) ?_
  refine lv_aload_n hx hb dL_law_410 rfl (lv_at hl 0 rfl) ?_
  refine lv_iload_n hx hb dL_law_411 rfl (lv_at hl 3 rfl) ?_
  refine lv_iconst (v := 1) hx hb dL_law_412 (by decide) ?_
  refine lv_iadd hx hb dL_law_413 ?_
  refine xs_ld hx hb hX hbl hbA hS hF dL_law_414 (fun v5 hF => ?_)
  obtain ⟨M7, v8, h6, hF⟩ := ob2_some hF
  refine xr_call1 (va_runV (As := [.int v5]) (rest := [.int v4]) ⟨hx, hb, hml, hown, hts⟩ (ct_X11_nack l s.heap.size D cy M3 x2 v5 M7 v8 h6) (cwV 1 hts gL_law_X11_nack rfl rfl rfl (by decide +kernel) ⟨Nat.le_of_ble_eq_true rfl, Nat.le_of_ble_eq_true rfl⟩) (xp_V hP hK hN hS hb0 11 rfl (gk_X11_nack h6)) rfl rfl hl.1 rfl (lv_room (Nat.le_of_ble_eq_true rfl)) dL_law_415 ⟨(by show cells + 2 + 0 ≤ 600000; omega), (by show slots + 73 + 0 ≤ 7302250; omega)⟩) hS (fun H locs hP hS => ?_)
  refine lv_icmp_eq (tgt := 1179) hx hb dL_law_418 (by decide) (fun c9 => ?_) (fun c9 => ?_)
  · replace hF := it_t hF c9
    refine lv_iinc (v := x3 + 6) (lv' := [(3, .int (x3 + 6)), (0, .ref b), (1, .ref x1), (2, .ref x2)]) hx hb dL_law_1179 hl (k := 3) rfl (by rfl) (by decide) rfl (fun ls hl => ?_)
    refine lv_goto (tgt := 28) hx hb dL_law_1182 (by decide) ?_
    refine W.widen (k := cells + 5) (n := slots + 93) (by omega) (by omega) ?_
    exact hk _ _ _ _ _ _ _ hF hP hS (lv_sub hl [1, 2, 3, 0] rfl)
  · replace hF := it_f hF c9
    refine lv_iconst (v := 0) hx hb dL_law_421 (by decide) ?_
    exact absurd hF (no_01 _ _)
set_option maxHeartbeats 4000000 in
set_option maxRecDepth 100000 in
theorem nd_L_law_377 {p : Program} {l : Launch} {e : Env} {s : State} {m : MethodId} {below : List Frame} {meth : Method} {c : Code} {b L : Nat} {xs : Nat → Int32} {D : va_G} {cy : Nat → ClassId} {M1 : Mm} {cells slots : Nat} {k28 : Mm → Nat → Nat → Int32 → Option (Mm × Int32)} (CX : CL p s m meth c b L xs D cy) (hk : ∀ (M : Mm) (x1 x2 : Nat) (x3 : Int32) (H : Heap) (locs : List Loc) (ls : Array Slot), k28 M x1 x2 x3 = some (M1, 1) → Hp s.heap.size D cy M H → va_S (BA s.heap.size) s.heap H locs → lv_has ls 4 [(0, .ref b), (1, .ref x1), (2, .ref x2), (3, .int x3)] → W p l e room_1 s m #[Value.ref b] below meth c H locs (cells + 5) (slots + 93) (lw_Z below #[Value.ref b] s) (F0 m 28 ls [])) (hc : cells + 5 ≤ 600000) (hs : slots + 93 ≤ 7302250) : ∀ (M : Mm) (x1 : Nat) (x2 : Nat) (x3 : Int32) (H : Heap) (locs : List Loc) (ls : Array Slot), f_L_law_J377 L xs k28 M x1 x2 x3 = some (M1, 1) → Hp s.heap.size D cy M H → va_S (BA s.heap.size) s.heap H locs → lv_has ls 4 [(0, .ref b), (1, .ref x1), (2, .ref x2), (3, .int x3)] → W p l e room_1 s m #[Value.ref b] below meth c H locs (cells) (slots) (lw_Z below #[Value.ref b] s) (F0 m 377 ls []) := by
  obtain ⟨hx, hb, hr, hml, hown, hts, hlocks, hK, hN, hX, hbl⟩ := id CX
  have hb0 : s.heap.size ≤ s.heap.size := Nat.le_refl _
  have hbA : ¬ BA s.heap.size b := Nat.not_le.mpr hbl
  intro M x1 x2 x3 H locs ls hF hP hS hl
  unfold f_L_law_J377 at hF
  refine lv_aload_n hx hb dL_law_377 rfl (lv_at hl 1 rfl) ?_
  refine lv_aload_n hx hb dL_law_378 rfl (lv_at hl 0 rfl) ?_
  refine lv_iload_n hx hb dL_law_379 rfl (lv_at hl 3 rfl) ?_
  refine lv_iconst (v := 1) hx hb dL_law_380 (by decide) ?_
  refine lv_iadd hx hb dL_law_381 ?_
  refine xs_ld hx hb hX hbl hbA hS hF dL_law_382 (fun v1 hF => ?_)
  obtain ⟨M3, v4, h2, hF⟩ := ob2_some hF
  refine xr_call1 (va_runV (As := [.int v1]) (rest := []) ⟨hx, hb, hml, hown, hts⟩ (ct_X10_ack l s.heap.size D cy M x1 v1 M3 v4 h2) (cwV 1 hts gL_law_X10_ack rfl rfl rfl (by decide +kernel) ⟨Nat.le_of_ble_eq_true rfl, Nat.le_of_ble_eq_true rfl⟩) (xp_V hP hK hN hS hb0 10 rfl (gk_X10_ack h2)) rfl rfl hl.1 rfl (lv_room (Nat.le_of_ble_eq_true rfl)) dL_law_383 ⟨(by show cells + 2 ≤ 600000; omega), (by show slots + 73 ≤ 7302250; omega)⟩) hS (fun H locs hP hS => ?_)
  refine lv_aload_n hx hb dL_law_386 rfl (lv_at hl 2 rfl) ?_
  refine lv_aload_n hx hb dL_law_387 rfl (lv_at hl 0 rfl) ?_
  refine lv_iload_n hx hb dL_law_388 rfl (lv_at hl 3 rfl) ?_
  refine lv_iconst (v := 1) hx hb dL_law_389 (by decide) ?_
  refine lv_iadd hx hb dL_law_390 ?_
  refine xs_ld hx hb hX hbl hbA hS hF dL_law_391 (fun v5 hF => ?_)
  obtain ⟨M7, v8, h6, hF⟩ := ob2_some hF
  refine xr_call1 (va_runV (As := [.int v5]) (rest := [.int v4]) ⟨hx, hb, hml, hown, hts⟩ (ct_X11_ack l s.heap.size D cy M3 x2 v5 M7 v8 h6) (cwV 1 hts gL_law_X11_ack rfl rfl rfl (by decide +kernel) ⟨Nat.le_of_ble_eq_true rfl, Nat.le_of_ble_eq_true rfl⟩) (xp_V hP hK hN hS hb0 11 rfl (gk_X11_ack h6)) rfl rfl hl.1 rfl (lv_room (Nat.le_of_ble_eq_true rfl)) dL_law_392 ⟨(by show cells + 2 + 0 ≤ 600000; omega), (by show slots + 73 + 0 ≤ 7302250; omega)⟩) hS (fun H locs hP hS => ?_)
  refine lv_icmp_eq (tgt := 1179) hx hb dL_law_395 (by decide) (fun c9 => ?_) (fun c9 => ?_)
  · replace hF := it_t hF c9
    refine lv_iinc (v := x3 + 6) (lv' := [(3, .int (x3 + 6)), (0, .ref b), (1, .ref x1), (2, .ref x2)]) hx hb dL_law_1179 hl (k := 3) rfl (by rfl) (by decide) rfl (fun ls hl => ?_)
    refine lv_goto (tgt := 28) hx hb dL_law_1182 (by decide) ?_
    refine W.widen (k := cells + 5) (n := slots + 93) (by omega) (by omega) ?_
    exact hk _ _ _ _ _ _ _ hF hP hS (lv_sub hl [1, 2, 3, 0] rfl)
  · replace hF := it_f hF c9
    refine lv_iconst (v := 0) hx hb dL_law_398 (by decide) ?_
    exact absurd hF (no_01 _ _)
set_option maxHeartbeats 4000000 in
set_option maxRecDepth 100000 in
theorem nd_L_law_369 {p : Program} {l : Launch} {e : Env} {s : State} {m : MethodId} {below : List Frame} {meth : Method} {c : Code} {b L : Nat} {xs : Nat → Int32} {D : va_G} {cy : Nat → ClassId} {M1 : Mm} {cells slots : Nat} {k28 : Mm → Nat → Nat → Int32 → Option (Mm × Int32)} (CX : CL p s m meth c b L xs D cy) (hk : ∀ (M : Mm) (x1 x2 : Nat) (x3 : Int32) (H : Heap) (locs : List Loc) (ls : Array Slot), k28 M x1 x2 x3 = some (M1, 1) → Hp s.heap.size D cy M H → va_S (BA s.heap.size) s.heap H locs → lv_has ls 4 [(0, .ref b), (1, .ref x1), (2, .ref x2), (3, .int x3)] → W p l e room_1 s m #[Value.ref b] below meth c H locs (cells + 5) (slots + 93) (lw_Z below #[Value.ref b] s) (F0 m 28 ls [])) (hc : cells + 5 ≤ 600000) (hs : slots + 93 ≤ 7302250) : ∀ (M : Mm) (x1 : Nat) (x2 : Nat) (x3 : Int32) (s0 : Int32) (s1 : Nat) (s2 : Int32) (s3 : Int32) (H : Heap) (locs : List Loc) (ls : Array Slot), f_L_law_J369 L xs k28 M x1 x2 x3 s0 s1 s2 s3 = some (M1, 1) → Hp s.heap.size D cy M H → va_S (BA s.heap.size) s.heap H locs → lv_has ls 4 [(0, .ref b), (1, .ref x1), (2, .ref x2), (3, .int x3)] → W p l e room_1 s m #[Value.ref b] below meth c H locs (cells + 5) (slots + 93) (lw_Z below #[Value.ref b] s) (F0 m 369 ls [.int s3, .int s2, .ref s1, .int s0]) := by
  obtain ⟨hx, hb, hr, hml, hown, hts, hlocks, hK, hN, hX, hbl⟩ := id CX
  have hb0 : s.heap.size ≤ s.heap.size := Nat.le_refl _
  have hbA : ¬ BA s.heap.size b := Nat.not_le.mpr hbl
  intro M x1 x2 x3 s0 s1 s2 s3 H locs ls hF hP hS hl
  unfold f_L_law_J369 at hF
  obtain ⟨M2, v3, h1, hF⟩ := ob2_some hF
  refine xr_call1 (va_runV (As := [.int s2, .int s3]) (rest := [.int s0]) ⟨hx, hb, hml, hown, hts⟩ (ct_X11_send l s.heap.size D cy M s1 s2 s3 M2 v3 h1) (cwV 2 hts gL_law_X11_send rfl rfl rfl (by decide +kernel) ⟨Nat.le_of_ble_eq_true rfl, Nat.le_of_ble_eq_true rfl⟩) (xp_V hP hK hN hS hb0 11 rfl (gk_X11_send h1)) rfl rfl hl.1 rfl (lv_room (Nat.le_of_ble_eq_true rfl)) dL_law_369 ⟨(by show cells + 5 + 0 ≤ 600000; omega), (by show slots + 93 + 0 ≤ 7302250; omega)⟩) hS (fun H locs hP hS => ?_)
  refine lv_icmp_eq (tgt := 1179) hx hb dL_law_372 (by decide) (fun c4 => ?_) (fun c4 => ?_)
  · replace hF := it_t hF c4
    refine lv_iinc (v := x3 + 6) (lv' := [(3, .int (x3 + 6)), (0, .ref b), (1, .ref x1), (2, .ref x2)]) hx hb dL_law_1179 hl (k := 3) rfl (by rfl) (by decide) rfl (fun ls hl => ?_)
    refine lv_goto (tgt := 28) hx hb dL_law_1182 (by decide) ?_
    refine W.widen (k := cells + 5) (n := slots + 93) (by omega) (by omega) ?_
    exact hk _ _ _ _ _ _ _ hF hP hS (lv_sub hl [1, 2, 3, 0] rfl)
  · replace hF := it_f hF c4
    refine lv_iconst (v := 0) hx hb dL_law_375 (by decide) ?_
    exact absurd hF (no_01 _ _)
set_option maxHeartbeats 4000000 in
set_option maxRecDepth 100000 in
theorem nd_L_law_347 {p : Program} {l : Launch} {e : Env} {s : State} {m : MethodId} {below : List Frame} {meth : Method} {c : Code} {b L : Nat} {xs : Nat → Int32} {D : va_G} {cy : Nat → ClassId} {M1 : Mm} {cells slots : Nat} {k28 : Mm → Nat → Nat → Int32 → Option (Mm × Int32)} (CX : CL p s m meth c b L xs D cy) (hk : ∀ (M : Mm) (x1 x2 : Nat) (x3 : Int32) (H : Heap) (locs : List Loc) (ls : Array Slot), k28 M x1 x2 x3 = some (M1, 1) → Hp s.heap.size D cy M H → va_S (BA s.heap.size) s.heap H locs → lv_has ls 4 [(0, .ref b), (1, .ref x1), (2, .ref x2), (3, .int x3)] → W p l e room_1 s m #[Value.ref b] below meth c H locs (cells + 5) (slots + 93) (lw_Z below #[Value.ref b] s) (F0 m 28 ls [])) (hc : cells + 5 ≤ 600000) (hs : slots + 93 ≤ 7302250) : ∀ (M : Mm) (x1 : Nat) (x2 : Nat) (x3 : Int32) (s0 : Nat) (s1 : Int32) (s2 : Int32) (H : Heap) (locs : List Loc) (ls : Array Slot), f_L_law_J347 L xs k28 M x1 x2 x3 s0 s1 s2 = some (M1, 1) → Hp s.heap.size D cy M H → va_S (BA s.heap.size) s.heap H locs → lv_has ls 4 [(0, .ref b), (1, .ref x1), (2, .ref x2), (3, .int x3)] → W p l e room_1 s m #[Value.ref b] below meth c H locs (cells) (slots) (lw_Z below #[Value.ref b] s) (F0 m 347 ls [.int s2, .int s1, .ref s0]) := by
  obtain ⟨hx, hb, hr, hml, hown, hts, hlocks, hK, hN, hX, hbl⟩ := id CX
  have hb0 : s.heap.size ≤ s.heap.size := Nat.le_refl _
  have hbA : ¬ BA s.heap.size b := Nat.not_le.mpr hbl
  intro M x1 x2 x3 s0 s1 s2 H locs ls hF hP hS hl
  unfold f_L_law_J347 at hF
  obtain ⟨M2, v3, h1, hF⟩ := ob2_some hF
  refine xr_call1 (va_runV (As := [.int s1, .int s2]) (rest := []) ⟨hx, hb, hml, hown, hts⟩ (ct_X10_send l s.heap.size D cy M s0 s1 s2 M2 v3 h1) (cwV 2 hts gL_law_X10_send rfl rfl rfl (by decide +kernel) ⟨Nat.le_of_ble_eq_true rfl, Nat.le_of_ble_eq_true rfl⟩) (xp_V hP hK hN hS hb0 10 rfl (gk_X10_send h1)) rfl rfl hl.1 rfl (lv_room (Nat.le_of_ble_eq_true rfl)) dL_law_347 ⟨(by show cells + 5 ≤ 600000; omega), (by show slots + 93 ≤ 7302250; omega)⟩) hS (fun H locs hP hS => ?_)
  refine lv_aload_n hx hb dL_law_350 rfl (lv_at hl 2 rfl) ?_
  refine lv_aload_n hx hb dL_law_351 rfl (lv_at hl 0 rfl) ?_
  refine lv_iload_n hx hb dL_law_352 rfl (lv_at hl 3 rfl) ?_
  refine lv_iconst (v := 1) hx hb dL_law_353 (by decide) ?_
  refine lv_iadd hx hb dL_law_354 ?_
  refine xs_ld hx hb hX hbl hbA hS hF dL_law_355 (fun v4 hF => ?_)
  refine lv_aload_n hx hb dL_law_356 rfl (lv_at hl 0 rfl) ?_
  refine lv_iload_n hx hb dL_law_357 rfl (lv_at hl 3 rfl) ?_
  refine lv_iconst (v := 2) hx hb dL_law_358 (by decide) ?_
  refine lv_iadd hx hb dL_law_359 ?_
  refine xs_ld hx hb hX hbl hbA hS hF dL_law_360 (fun v5 hF => ?_)
  refine lv_if_eq (tgt := 368) hx hb dL_law_361 (by decide) (fun c6 => ?_) (fun c6 => ?_)
  · replace hF := it_t hF c6
    refine lv_iconst (v := 0) hx hb dL_law_368 (by decide) ?_
    refine W.widen (k := cells + 5) (n := slots + 93) (by omega) (by omega) ?_
    exact nd_L_law_369 CX hk hc hs _ _ _ _ _ _ _ _ _ _ _ hF hP hS (lv_sub hl [0, 1, 2, 3] rfl)
  · replace hF := it_f hF c6
    refine lv_iconst (v := 1) hx hb dL_law_364 (by decide) ?_
    refine lv_goto (tgt := 369) hx hb dL_law_365 (by decide) ?_
    refine W.widen (k := cells + 5) (n := slots + 93) (by omega) (by omega) ?_
    exact nd_L_law_369 CX hk hc hs _ _ _ _ _ _ _ _ _ _ _ hF hP hS (lv_sub hl [0, 1, 2, 3] rfl)
set_option maxHeartbeats 4000000 in
set_option maxRecDepth 100000 in
theorem nd_L_law_328 {p : Program} {l : Launch} {e : Env} {s : State} {m : MethodId} {below : List Frame} {meth : Method} {c : Code} {b L : Nat} {xs : Nat → Int32} {D : va_G} {cy : Nat → ClassId} {M1 : Mm} {cells slots : Nat} {k28 : Mm → Nat → Nat → Int32 → Option (Mm × Int32)} (CX : CL p s m meth c b L xs D cy) (hk : ∀ (M : Mm) (x1 x2 : Nat) (x3 : Int32) (H : Heap) (locs : List Loc) (ls : Array Slot), k28 M x1 x2 x3 = some (M1, 1) → Hp s.heap.size D cy M H → va_S (BA s.heap.size) s.heap H locs → lv_has ls 4 [(0, .ref b), (1, .ref x1), (2, .ref x2), (3, .int x3)] → W p l e room_1 s m #[Value.ref b] below meth c H locs (cells + 5) (slots + 93) (lw_Z below #[Value.ref b] s) (F0 m 28 ls [])) (hc : cells + 5 ≤ 600000) (hs : slots + 93 ≤ 7302250) : ∀ (M : Mm) (x1 : Nat) (x2 : Nat) (x3 : Int32) (H : Heap) (locs : List Loc) (ls : Array Slot), f_L_law_J328 L xs k28 M x1 x2 x3 = some (M1, 1) → Hp s.heap.size D cy M H → va_S (BA s.heap.size) s.heap H locs → lv_has ls 4 [(0, .ref b), (1, .ref x1), (2, .ref x2), (3, .int x3)] → W p l e room_1 s m #[Value.ref b] below meth c H locs (cells) (slots) (lw_Z below #[Value.ref b] s) (F0 m 328 ls []) := by
  obtain ⟨hx, hb, hr, hml, hown, hts, hlocks, hK, hN, hX, hbl⟩ := id CX
  have hb0 : s.heap.size ≤ s.heap.size := Nat.le_refl _
  have hbA : ¬ BA s.heap.size b := Nat.not_le.mpr hbl
  intro M x1 x2 x3 H locs ls hF hP hS hl
  unfold f_L_law_J328 at hF
  refine lv_aload_n hx hb dL_law_328 rfl (lv_at hl 1 rfl) ?_
  refine lv_aload_n hx hb dL_law_329 rfl (lv_at hl 0 rfl) ?_
  refine lv_iload_n hx hb dL_law_330 rfl (lv_at hl 3 rfl) ?_
  refine lv_iconst (v := 1) hx hb dL_law_331 (by decide) ?_
  refine lv_iadd hx hb dL_law_332 ?_
  refine xs_ld hx hb hX hbl hbA hS hF dL_law_333 (fun v1 hF => ?_)
  refine lv_aload_n hx hb dL_law_334 rfl (lv_at hl 0 rfl) ?_
  refine lv_iload_n hx hb dL_law_335 rfl (lv_at hl 3 rfl) ?_
  refine lv_iconst (v := 2) hx hb dL_law_336 (by decide) ?_
  refine lv_iadd hx hb dL_law_337 ?_
  refine xs_ld hx hb hX hbl hbA hS hF dL_law_338 (fun v2 hF => ?_)
  refine lv_if_eq (tgt := 346) hx hb dL_law_339 (by decide) (fun c3 => ?_) (fun c3 => ?_)
  · replace hF := it_t hF c3
    refine lv_iconst (v := 0) hx hb dL_law_346 (by decide) ?_
    exact nd_L_law_347 CX hk hc hs _ _ _ _ _ _ _ _ _ _ hF hP hS (lv_sub hl [0, 1, 2, 3] rfl)
  · replace hF := it_f hF c3
    refine lv_iconst (v := 1) hx hb dL_law_342 (by decide) ?_
    refine lv_goto (tgt := 347) hx hb dL_law_343 (by decide) ?_
    exact nd_L_law_347 CX hk hc hs _ _ _ _ _ _ _ _ _ _ hF hP hS (lv_sub hl [0, 1, 2, 3] rfl)
set_option maxHeartbeats 4000000 in
set_option maxRecDepth 100000 in
theorem nd_L_law_285 {p : Program} {l : Launch} {e : Env} {s : State} {m : MethodId} {below : List Frame} {meth : Method} {c : Code} {b L : Nat} {xs : Nat → Int32} {D : va_G} {cy : Nat → ClassId} {M1 : Mm} {cells slots : Nat} {k28 : Mm → Nat → Nat → Int32 → Option (Mm × Int32)} (CX : CL p s m meth c b L xs D cy) (hk : ∀ (M : Mm) (x1 x2 : Nat) (x3 : Int32) (H : Heap) (locs : List Loc) (ls : Array Slot), k28 M x1 x2 x3 = some (M1, 1) → Hp s.heap.size D cy M H → va_S (BA s.heap.size) s.heap H locs → lv_has ls 4 [(0, .ref b), (1, .ref x1), (2, .ref x2), (3, .int x3)] → W p l e room_1 s m #[Value.ref b] below meth c H locs (cells + 5) (slots + 93) (lw_Z below #[Value.ref b] s) (F0 m 28 ls [])) (hc : cells + 5 ≤ 600000) (hs : slots + 93 ≤ 7302250) : ∀ (M : Mm) (x1 : Nat) (x2 : Nat) (x3 : Int32) (H : Heap) (locs : List Loc) (ls : Array Slot), f_L_law_J285 L xs k28 M x1 x2 x3 = some (M1, 1) → Hp s.heap.size D cy M H → va_S (BA s.heap.size) s.heap H locs → lv_has ls 4 [(0, .ref b), (1, .ref x1), (2, .ref x2), (3, .int x3)] → W p l e room_1 s m #[Value.ref b] below meth c H locs (cells) (slots) (lw_Z below #[Value.ref b] s) (F0 m 285 ls []) := by
  obtain ⟨hx, hb, hr, hml, hown, hts, hlocks, hK, hN, hX, hbl⟩ := id CX
  have hb0 : s.heap.size ≤ s.heap.size := Nat.le_refl _
  have hbA : ¬ BA s.heap.size b := Nat.not_le.mpr hbl
  intro M x1 x2 x3 H locs ls hF hP hS hl
  unfold f_L_law_J285 at hF
  refine lv_aload_n hx hb dL_law_285 rfl (lv_at hl 1 rfl) ?_
  refine lv_aload_n hx hb dL_law_286 rfl (lv_at hl 0 rfl) ?_
  refine lv_iload_n hx hb dL_law_287 rfl (lv_at hl 3 rfl) ?_
  refine lv_iconst (v := 1) hx hb dL_law_288 (by decide) ?_
  refine lv_iadd hx hb dL_law_289 ?_
  refine xs_ld hx hb hX hbl hbA hS hF dL_law_290 (fun v1 hF => ?_)
  refine lv_aload_n hx hb dL_law_291 rfl (lv_at hl 0 rfl) ?_
  refine lv_iload_n hx hb dL_law_292 rfl (lv_at hl 3 rfl) ?_
  refine lv_iconst (v := 2) hx hb dL_law_293 (by decide) ?_
  refine lv_iadd hx hb dL_law_294 ?_
  refine xs_ld hx hb hX hbl hbA hS hF dL_law_295 (fun v2 hF => ?_)
  refine lv_aload_n hx hb dL_law_296 rfl (lv_at hl 0 rfl) ?_
  refine lv_iload_n hx hb dL_law_297 rfl (lv_at hl 3 rfl) ?_
  refine lv_iconst (v := 3) hx hb dL_law_298 (by decide) ?_
  refine lv_iadd hx hb dL_law_299 ?_
  refine xs_ld hx hb hX hbl hbA hS hF dL_law_300 (fun v3 hF => ?_)
  obtain ⟨M5, v6, h4, hF⟩ := ob2_some hF
  refine xr_call1 (va_runV (As := [.int v1, .int v2, .int v3]) (rest := []) ⟨hx, hb, hml, hown, hts⟩ (ct_X10_stride l s.heap.size D cy M x1 v1 v2 v3 M5 v6 h4) (cwV 3 hts gL_law_X10_stride rfl rfl rfl (by decide +kernel) ⟨Nat.le_of_ble_eq_true rfl, Nat.le_of_ble_eq_true rfl⟩) (xp_V hP hK hN hS hb0 10 rfl (gk_X10_stride h4)) rfl rfl hl.1 rfl (lv_room (Nat.le_of_ble_eq_true rfl)) dL_law_301 ⟨(by show cells + 0 ≤ 600000; omega), (by show slots + 0 ≤ 7302250; omega)⟩) hS (fun H locs hP hS => ?_)
  refine lv_aload_n hx hb dL_law_304 rfl (lv_at hl 2 rfl) ?_
  refine lv_aload_n hx hb dL_law_305 rfl (lv_at hl 0 rfl) ?_
  refine lv_iload_n hx hb dL_law_306 rfl (lv_at hl 3 rfl) ?_
  refine lv_iconst (v := 1) hx hb dL_law_307 (by decide) ?_
  refine lv_iadd hx hb dL_law_308 ?_
  refine xs_ld hx hb hX hbl hbA hS hF dL_law_309 (fun v7 hF => ?_)
  refine lv_aload_n hx hb dL_law_310 rfl (lv_at hl 0 rfl) ?_
  refine lv_iload_n hx hb dL_law_311 rfl (lv_at hl 3 rfl) ?_
  refine lv_iconst (v := 2) hx hb dL_law_312 (by decide) ?_
  refine lv_iadd hx hb dL_law_313 ?_
  refine xs_ld hx hb hX hbl hbA hS hF dL_law_314 (fun v8 hF => ?_)
  refine lv_aload_n hx hb dL_law_315 rfl (lv_at hl 0 rfl) ?_
  refine lv_iload_n hx hb dL_law_316 rfl (lv_at hl 3 rfl) ?_
  refine lv_iconst (v := 3) hx hb dL_law_317 (by decide) ?_
  refine lv_iadd hx hb dL_law_318 ?_
  refine xs_ld hx hb hX hbl hbA hS hF dL_law_319 (fun v9 hF => ?_)
  obtain ⟨M11, v12, h10, hF⟩ := ob2_some hF
  refine xr_call1 (va_runV (As := [.int v7, .int v8, .int v9]) (rest := [.int v6]) ⟨hx, hb, hml, hown, hts⟩ (ct_X11_stride l s.heap.size D cy M5 x2 v7 v8 v9 M11 v12 h10) (cwV 3 hts gL_law_X11_stride rfl rfl rfl (by decide +kernel) ⟨Nat.le_of_ble_eq_true rfl, Nat.le_of_ble_eq_true rfl⟩) (xp_V hP hK hN hS hb0 11 rfl (gk_X11_stride h10)) rfl rfl hl.1 rfl (lv_room (Nat.le_of_ble_eq_true rfl)) dL_law_320 ⟨(by show cells + 0 + 0 ≤ 600000; omega), (by show slots + 0 + 0 ≤ 7302250; omega)⟩) hS (fun H locs hP hS => ?_)
  refine lv_icmp_eq (tgt := 1179) hx hb dL_law_323 (by decide) (fun c13 => ?_) (fun c13 => ?_)
  · replace hF := it_t hF c13
    refine lv_iinc (v := x3 + 6) (lv' := [(3, .int (x3 + 6)), (0, .ref b), (1, .ref x1), (2, .ref x2)]) hx hb dL_law_1179 hl (k := 3) rfl (by rfl) (by decide) rfl (fun ls hl => ?_)
    refine lv_goto (tgt := 28) hx hb dL_law_1182 (by decide) ?_
    refine W.widen (k := cells + 5) (n := slots + 93) (by omega) (by omega) ?_
    exact hk _ _ _ _ _ _ _ hF hP hS (lv_sub hl [1, 2, 3, 0] rfl)
  · replace hF := it_f hF c13
    refine lv_iconst (v := 0) hx hb dL_law_326 (by decide) ?_
    exact absurd hF (no_01 _ _)
set_option maxHeartbeats 4000000 in
set_option maxRecDepth 100000 in
theorem nd_L_law_221 {p : Program} {l : Launch} {e : Env} {s : State} {m : MethodId} {below : List Frame} {meth : Method} {c : Code} {b L : Nat} {xs : Nat → Int32} {D : va_G} {cy : Nat → ClassId} {M1 : Mm} {cells slots : Nat} {k28 : Mm → Nat → Nat → Int32 → Option (Mm × Int32)} (CX : CL p s m meth c b L xs D cy) (hk : ∀ (M : Mm) (x1 x2 : Nat) (x3 : Int32) (H : Heap) (locs : List Loc) (ls : Array Slot), k28 M x1 x2 x3 = some (M1, 1) → Hp s.heap.size D cy M H → va_S (BA s.heap.size) s.heap H locs → lv_has ls 4 [(0, .ref b), (1, .ref x1), (2, .ref x2), (3, .int x3)] → W p l e room_1 s m #[Value.ref b] below meth c H locs (cells + 5) (slots + 93) (lw_Z below #[Value.ref b] s) (F0 m 28 ls [])) (hc : cells + 5 ≤ 600000) (hs : slots + 93 ≤ 7302250) : ∀ (M : Mm) (x1 : Nat) (x2 : Nat) (x3 : Int32) (H : Heap) (locs : List Loc) (ls : Array Slot), f_L_law_J221 L xs k28 M x1 x2 x3 = some (M1, 1) → Hp s.heap.size D cy M H → va_S (BA s.heap.size) s.heap H locs → lv_has ls 4 [(0, .ref b), (1, .ref x1), (2, .ref x2), (3, .int x3)] → W p l e room_1 s m #[Value.ref b] below meth c H locs (cells) (slots) (lw_Z below #[Value.ref b] s) (F0 m 221 ls []) := by
  obtain ⟨hx, hb, hr, hml, hown, hts, hlocks, hK, hN, hX, hbl⟩ := id CX
  have hb0 : s.heap.size ≤ s.heap.size := Nat.le_refl _
  have hbA : ¬ BA s.heap.size b := Nat.not_le.mpr hbl
  intro M x1 x2 x3 H locs ls hF hP hS hl
  unfold f_L_law_J221 at hF
  refine lv_aload_n hx hb dL_law_221 rfl (lv_at hl 1 rfl) ?_
  refine lv_aload_n hx hb dL_law_222 rfl (lv_at hl 0 rfl) ?_
  refine lv_iload_n hx hb dL_law_223 rfl (lv_at hl 3 rfl) ?_
  refine lv_iconst (v := 1) hx hb dL_law_224 (by decide) ?_
  refine lv_iadd hx hb dL_law_225 ?_
  refine xs_ld hx hb hX hbl hbA hS hF dL_law_226 (fun v1 hF => ?_)
  refine lv_aload_n hx hb dL_law_227 rfl (lv_at hl 0 rfl) ?_
  refine lv_iload_n hx hb dL_law_228 rfl (lv_at hl 3 rfl) ?_
  refine lv_iconst (v := 2) hx hb dL_law_229 (by decide) ?_
  refine lv_iadd hx hb dL_law_230 ?_
  refine xs_ld hx hb hX hbl hbA hS hF dL_law_231 (fun v2 hF => ?_)
  refine lv_i2l hx hb dL_law_232 rfl ?_
  refine lv_bipush (v := 32) hx hb dL_law_233 (by decide) ?_
  refine lv_lshl hx hb dL_law_235 rfl ?_
  refine lv_aload_n hx hb dL_law_236 rfl (lv_at hl 0 rfl) ?_
  refine lv_iload_n hx hb dL_law_237 rfl (lv_at hl 3 rfl) ?_
  refine lv_iconst (v := 3) hx hb dL_law_238 (by decide) ?_
  refine lv_iadd hx hb dL_law_239 ?_
  refine xs_ld hx hb hX hbl hbA hS hF dL_law_240 (fun v3 hF => ?_)
  refine lv_i2l hx hb dL_law_241 rfl ?_
  refine lv_ldc2 (v := 4294967295) hx hb hown (hts (.constantLong RL 26 4294967295) (by decide +kernel)) dL_law_242 ?_
  refine lv_land hx hb dL_law_245 ?_
  refine lv_lor hx hb dL_law_246 ?_
  obtain ⟨M5, v6, h4, hF⟩ := ob2_some hF
  refine xr_call1 (va_runV (As := [.int v1, .long ((v2.toInt64 <<< ((32 : Int32).toInt64 &&& 63)) ||| (v3.toInt64 &&& 4294967295))]) (rest := []) ⟨hx, hb, hml, hown, hts⟩ (ct_X10_set l s.heap.size D cy M x1 v1 ((v2.toInt64 <<< ((32 : Int32).toInt64 &&& 63)) ||| (v3.toInt64 &&& 4294967295)) M5 v6 h4) (cwV 2 hts gL_law_X10_set rfl rfl rfl (by decide +kernel) ⟨Nat.le_of_ble_eq_true rfl, Nat.le_of_ble_eq_true rfl⟩) (xp_V hP hK hN hS hb0 10 rfl (gk_X10_set h4)) rfl rfl hl.1 rfl (lv_room (Nat.le_of_ble_eq_true rfl)) dL_law_247 ⟨(by show cells + 0 ≤ 600000; omega), (by show slots + 0 ≤ 7302250; omega)⟩) hS (fun H locs hP hS => ?_)
  refine lv_aload_n hx hb dL_law_250 rfl (lv_at hl 2 rfl) ?_
  refine lv_aload_n hx hb dL_law_251 rfl (lv_at hl 0 rfl) ?_
  refine lv_iload_n hx hb dL_law_252 rfl (lv_at hl 3 rfl) ?_
  refine lv_iconst (v := 1) hx hb dL_law_253 (by decide) ?_
  refine lv_iadd hx hb dL_law_254 ?_
  refine xs_ld hx hb hX hbl hbA hS hF dL_law_255 (fun v7 hF => ?_)
  refine lv_aload_n hx hb dL_law_256 rfl (lv_at hl 0 rfl) ?_
  refine lv_iload_n hx hb dL_law_257 rfl (lv_at hl 3 rfl) ?_
  refine lv_iconst (v := 2) hx hb dL_law_258 (by decide) ?_
  refine lv_iadd hx hb dL_law_259 ?_
  refine xs_ld hx hb hX hbl hbA hS hF dL_law_260 (fun v8 hF => ?_)
  refine lv_i2l hx hb dL_law_261 rfl ?_
  refine lv_bipush (v := 32) hx hb dL_law_262 (by decide) ?_
  refine lv_lshl hx hb dL_law_264 rfl ?_
  refine lv_aload_n hx hb dL_law_265 rfl (lv_at hl 0 rfl) ?_
  refine lv_iload_n hx hb dL_law_266 rfl (lv_at hl 3 rfl) ?_
  refine lv_iconst (v := 3) hx hb dL_law_267 (by decide) ?_
  refine lv_iadd hx hb dL_law_268 ?_
  refine xs_ld hx hb hX hbl hbA hS hF dL_law_269 (fun v9 hF => ?_)
  refine lv_i2l hx hb dL_law_270 rfl ?_
  refine lv_ldc2 (v := 4294967295) hx hb hown (hts (.constantLong RL 26 4294967295) (by decide +kernel)) dL_law_271 ?_
  refine lv_land hx hb dL_law_274 ?_
  refine lv_lor hx hb dL_law_275 ?_
  obtain ⟨M11, v12, h10, hF⟩ := ob2_some hF
  refine xr_call1 (va_runV (As := [.int v7, .long ((v8.toInt64 <<< ((32 : Int32).toInt64 &&& 63)) ||| (v9.toInt64 &&& 4294967295))]) (rest := [.long v6]) ⟨hx, hb, hml, hown, hts⟩ (ct_X11_set l s.heap.size D cy M5 x2 v7 ((v8.toInt64 <<< ((32 : Int32).toInt64 &&& 63)) ||| (v9.toInt64 &&& 4294967295)) M11 v12 h10) (cwV 2 hts gL_law_X11_set rfl rfl rfl (by decide +kernel) ⟨Nat.le_of_ble_eq_true rfl, Nat.le_of_ble_eq_true rfl⟩) (xp_V hP hK hN hS hb0 11 rfl (gk_X11_set h10)) rfl rfl hl.1 rfl (lv_room (Nat.le_of_ble_eq_true rfl)) dL_law_276 ⟨(by show cells + 0 + 0 ≤ 600000; omega), (by show slots + 0 + 0 ≤ 7302250; omega)⟩) hS (fun H locs hP hS => ?_)
  refine W.lcmp hx hb dL_law_279 ?_
  refine lv_if_eq (tgt := 1179) hx hb dL_law_280 (by decide) (fun c13 => ?_) (fun c13 => ?_)
  · replace hF := it_t hF c13
    refine lv_iinc (v := x3 + 6) (lv' := [(3, .int (x3 + 6)), (0, .ref b), (1, .ref x1), (2, .ref x2)]) hx hb dL_law_1179 hl (k := 3) rfl (by rfl) (by decide) rfl (fun ls hl => ?_)
    refine lv_goto (tgt := 28) hx hb dL_law_1182 (by decide) ?_
    refine W.widen (k := cells + 5) (n := slots + 93) (by omega) (by omega) ?_
    exact hk _ _ _ _ _ _ _ hF hP hS (lv_sub hl [1, 2, 3, 0] rfl)
  · replace hF := it_f hF c13
    refine lv_iconst (v := 0) hx hb dL_law_283 (by decide) ?_
    exact absurd hF (no_01 _ _)
