set_option maxHeartbeats 4000000 in
set_option maxRecDepth 100000 in
theorem nd_L_law_1156 {p : Program} {l : Launch} {e : Env} {s : State} {m : MethodId} {below : List Frame} {meth : Method} {c : Code} {b L : Nat} {xs : Nat → Int32} {D : va_G} {cy : Nat → ClassId} {M1 : Mm} {cells slots : Nat} {k28 : Mm → Nat → Nat → Int32 → Option (Mm × Int32)} (CX : CL p s m meth c b L xs D cy) (hk : ∀ (M : Mm) (x1 x2 : Nat) (x3 : Int32) (H : Heap) (locs : List Loc) (ls : Array Slot), k28 M x1 x2 x3 = some (M1, 1) → Hp s.heap.size D cy M H → va_S (BA s.heap.size) s.heap H locs → lv_has ls 4 [(0, .ref b), (1, .ref x1), (2, .ref x2), (3, .int x3)] → W p l e room_1 s m #[Value.ref b] below meth c H locs (cells + 5) (slots + 93) (lw_Z below #[Value.ref b] s) (F0 m 28 ls [])) (hc : cells + 5 ≤ 600000) (hs : slots + 93 ≤ 7302250) : ∀ (M : Mm) (x1 : Nat) (x2 : Nat) (x3 : Int32) (H : Heap) (locs : List Loc) (ls : Array Slot), f_L_law_J1156 L xs k28 M x1 x2 x3 = some (M1, 1) → Hp s.heap.size D cy M H → va_S (BA s.heap.size) s.heap H locs → lv_has ls 4 [(0, .ref b), (1, .ref x1), (2, .ref x2), (3, .int x3)] → W p l e room_1 s m #[Value.ref b] below meth c H locs (cells) (slots) (lw_Z below #[Value.ref b] s) (F0 m 1156 ls []) := by
  obtain ⟨hx, hb, hr, hml, hown, hts, hlocks, hK, hN, hX, hbl⟩ := id CX
  have hb0 : s.heap.size ≤ s.heap.size := Nat.le_refl _
  have hbA : ¬ BA s.heap.size b := Nat.not_le.mpr hbl
  intro M x1 x2 x3 H locs ls hF hP hS hl
  unfold f_L_law_J1156 at hF
  refine lv_aload_n hx hb dL_law_1156 rfl (lv_at hl 1 rfl) ?_
  refine lv_aload_n hx hb dL_law_1157 rfl (lv_at hl 0 rfl) ?_
  refine lv_iload_n hx hb dL_law_1158 rfl (lv_at hl 3 rfl) ?_
  refine lv_iconst (v := 1) hx hb dL_law_1159 (by decide) ?_
  refine lv_iadd hx hb dL_law_1160 ?_
  refine xs_ld hx hb hX hbl hbA hS hF dL_law_1161 (fun v1 hF => ?_)
  obtain ⟨v3, h2, hF⟩ := ob_some hF
  refine xr_call1 (va_runV (As := [.int v1]) (rest := []) ⟨hx, hb, hml, hown, hts⟩ (ct_X10_count l s.heap.size D cy M x1 v1 v3 h2) (cwV 1 hts gL_law_X10_count rfl rfl rfl (by decide +kernel) ⟨Nat.le_of_ble_eq_true rfl, Nat.le_of_ble_eq_true rfl⟩) (xp_V hP hK hN hS hb0 10 rfl (gk_X10_count h2)) rfl rfl hl.1 rfl (lv_room (Nat.le_of_ble_eq_true rfl)) dL_law_1162 ⟨(by show cells + 0 ≤ 600000; omega), (by show slots + 0 ≤ 7302250; omega)⟩) hS (fun H locs hP hS => ?_)
  refine lv_aload_n hx hb dL_law_1165 rfl (lv_at hl 2 rfl) ?_
  refine lv_aload_n hx hb dL_law_1166 rfl (lv_at hl 0 rfl) ?_
  refine lv_iload_n hx hb dL_law_1167 rfl (lv_at hl 3 rfl) ?_
  refine lv_iconst (v := 1) hx hb dL_law_1168 (by decide) ?_
  refine lv_iadd hx hb dL_law_1169 ?_
  refine xs_ld hx hb hX hbl hbA hS hF dL_law_1170 (fun v4 hF => ?_)
  obtain ⟨M6, v7, h5, hF⟩ := ob2_some hF
  refine xr_call1 (va_runV (As := [.int v4]) (rest := [.int v3]) ⟨hx, hb, hml, hown, hts⟩ (ct_X11_count l s.heap.size D cy M x2 v4 M6 v7 h5) (cwV 1 hts gL_law_X11_count rfl rfl rfl (by decide +kernel) ⟨Nat.le_of_ble_eq_true rfl, Nat.le_of_ble_eq_true rfl⟩) (xp_V hP hK hN hS hb0 11 rfl (gk_X11_count h5)) rfl rfl hl.1 rfl (lv_room (Nat.le_of_ble_eq_true rfl)) dL_law_1171 ⟨(by show cells + 0 + 0 ≤ 600000; omega), (by show slots + 0 + 0 ≤ 7302250; omega)⟩) hS (fun H locs hP hS => ?_)
  refine lv_icmp_eq (tgt := 1179) hx hb dL_law_1174 (by decide) (fun c8 => ?_) (fun c8 => ?_)
  · replace hF := it_t hF c8
    refine lv_iinc (v := x3 + 6) (lv' := [(3, .int (x3 + 6)), (0, .ref b), (1, .ref x1), (2, .ref x2)]) hx hb dL_law_1179 hl (k := 3) rfl (by rfl) (by decide) rfl (fun ls hl => ?_)
    refine lv_goto (tgt := 28) hx hb dL_law_1182 (by decide) ?_
    refine W.widen (k := cells + 5) (n := slots + 93) (by omega) (by omega) ?_
    exact hk _ _ _ _ _ _ _ hF hP hS (lv_sub hl [1, 2, 3, 0] rfl)
  · replace hF := it_f hF c8
    refine lv_iconst (v := 0) hx hb dL_law_1177 (by decide) ?_
    exact absurd hF (no_01 _ _)
set_option maxHeartbeats 4000000 in
set_option maxRecDepth 100000 in
theorem nd_L_law_1133 {p : Program} {l : Launch} {e : Env} {s : State} {m : MethodId} {below : List Frame} {meth : Method} {c : Code} {b L : Nat} {xs : Nat → Int32} {D : va_G} {cy : Nat → ClassId} {M1 : Mm} {cells slots : Nat} {k28 : Mm → Nat → Nat → Int32 → Option (Mm × Int32)} (CX : CL p s m meth c b L xs D cy) (hk : ∀ (M : Mm) (x1 x2 : Nat) (x3 : Int32) (H : Heap) (locs : List Loc) (ls : Array Slot), k28 M x1 x2 x3 = some (M1, 1) → Hp s.heap.size D cy M H → va_S (BA s.heap.size) s.heap H locs → lv_has ls 4 [(0, .ref b), (1, .ref x1), (2, .ref x2), (3, .int x3)] → W p l e room_1 s m #[Value.ref b] below meth c H locs (cells + 5) (slots + 93) (lw_Z below #[Value.ref b] s) (F0 m 28 ls [])) (hc : cells + 5 ≤ 600000) (hs : slots + 93 ≤ 7302250) : ∀ (M : Mm) (x1 : Nat) (x2 : Nat) (x3 : Int32) (H : Heap) (locs : List Loc) (ls : Array Slot), f_L_law_J1133 L xs k28 M x1 x2 x3 = some (M1, 1) → Hp s.heap.size D cy M H → va_S (BA s.heap.size) s.heap H locs → lv_has ls 4 [(0, .ref b), (1, .ref x1), (2, .ref x2), (3, .int x3)] → W p l e room_1 s m #[Value.ref b] below meth c H locs (cells) (slots) (lw_Z below #[Value.ref b] s) (F0 m 1133 ls []) := by
  obtain ⟨hx, hb, hr, hml, hown, hts, hlocks, hK, hN, hX, hbl⟩ := id CX
  have hb0 : s.heap.size ≤ s.heap.size := Nat.le_refl _
  have hbA : ¬ BA s.heap.size b := Nat.not_le.mpr hbl
  intro M x1 x2 x3 H locs ls hF hP hS hl
  unfold f_L_law_J1133 at hF
  refine lv_aload_n hx hb dL_law_1133 rfl (lv_at hl 1 rfl) ?_
  refine lv_aload_n hx hb dL_law_1134 rfl (lv_at hl 0 rfl) ?_
  refine lv_iload_n hx hb dL_law_1135 rfl (lv_at hl 3 rfl) ?_
  refine lv_iconst (v := 1) hx hb dL_law_1136 (by decide) ?_
  refine lv_iadd hx hb dL_law_1137 ?_
  refine xs_ld hx hb hX hbl hbA hS hF dL_law_1138 (fun v1 hF => ?_)
  obtain ⟨v3, h2, hF⟩ := ob_some hF
  refine xr_call1 (va_runV (As := [.int v1]) (rest := []) ⟨hx, hb, hml, hown, hts⟩ (ct_X10_toss l s.heap.size D cy M x1 v1 v3 h2) (cwV 1 hts gL_law_X10_toss rfl rfl rfl (by decide +kernel) ⟨Nat.le_of_ble_eq_true rfl, Nat.le_of_ble_eq_true rfl⟩) (xp_V hP hK hN hS hb0 10 rfl (gk_X10_toss h2)) rfl rfl hl.1 rfl (lv_room (Nat.le_of_ble_eq_true rfl)) dL_law_1139 ⟨(by show cells + 0 ≤ 600000; omega), (by show slots + 0 ≤ 7302250; omega)⟩) hS (fun H locs hP hS => ?_)
  refine lv_aload_n hx hb dL_law_1142 rfl (lv_at hl 2 rfl) ?_
  refine lv_aload_n hx hb dL_law_1143 rfl (lv_at hl 0 rfl) ?_
  refine lv_iload_n hx hb dL_law_1144 rfl (lv_at hl 3 rfl) ?_
  refine lv_iconst (v := 1) hx hb dL_law_1145 (by decide) ?_
  refine lv_iadd hx hb dL_law_1146 ?_
  refine xs_ld hx hb hX hbl hbA hS hF dL_law_1147 (fun v4 hF => ?_)
  obtain ⟨M6, v7, h5, hF⟩ := ob2_some hF
  refine xr_call1 (va_runV (As := [.int v4]) (rest := [.int v3]) ⟨hx, hb, hml, hown, hts⟩ (ct_X11_toss l s.heap.size D cy M x2 v4 M6 v7 h5) (cwV 1 hts gL_law_X11_toss rfl rfl rfl (by decide +kernel) ⟨Nat.le_of_ble_eq_true rfl, Nat.le_of_ble_eq_true rfl⟩) (xp_V hP hK hN hS hb0 11 rfl (gk_X11_toss h5)) rfl rfl hl.1 rfl (lv_room (Nat.le_of_ble_eq_true rfl)) dL_law_1148 ⟨(by show cells + 0 + 0 ≤ 600000; omega), (by show slots + 0 + 0 ≤ 7302250; omega)⟩) hS (fun H locs hP hS => ?_)
  refine lv_icmp_eq (tgt := 1179) hx hb dL_law_1151 (by decide) (fun c8 => ?_) (fun c8 => ?_)
  · replace hF := it_t hF c8
    refine lv_iinc (v := x3 + 6) (lv' := [(3, .int (x3 + 6)), (0, .ref b), (1, .ref x1), (2, .ref x2)]) hx hb dL_law_1179 hl (k := 3) rfl (by rfl) (by decide) rfl (fun ls hl => ?_)
    refine lv_goto (tgt := 28) hx hb dL_law_1182 (by decide) ?_
    refine W.widen (k := cells + 5) (n := slots + 93) (by omega) (by omega) ?_
    exact hk _ _ _ _ _ _ _ hF hP hS (lv_sub hl [1, 2, 3, 0] rfl)
  · replace hF := it_f hF c8
    refine lv_iconst (v := 0) hx hb dL_law_1154 (by decide) ?_
    exact absurd hF (no_01 _ _)
set_option maxHeartbeats 4000000 in
set_option maxRecDepth 100000 in
theorem nd_L_law_1110 {p : Program} {l : Launch} {e : Env} {s : State} {m : MethodId} {below : List Frame} {meth : Method} {c : Code} {b L : Nat} {xs : Nat → Int32} {D : va_G} {cy : Nat → ClassId} {M1 : Mm} {cells slots : Nat} {k28 : Mm → Nat → Nat → Int32 → Option (Mm × Int32)} (CX : CL p s m meth c b L xs D cy) (hk : ∀ (M : Mm) (x1 x2 : Nat) (x3 : Int32) (H : Heap) (locs : List Loc) (ls : Array Slot), k28 M x1 x2 x3 = some (M1, 1) → Hp s.heap.size D cy M H → va_S (BA s.heap.size) s.heap H locs → lv_has ls 4 [(0, .ref b), (1, .ref x1), (2, .ref x2), (3, .int x3)] → W p l e room_1 s m #[Value.ref b] below meth c H locs (cells + 5) (slots + 93) (lw_Z below #[Value.ref b] s) (F0 m 28 ls [])) (hc : cells + 5 ≤ 600000) (hs : slots + 93 ≤ 7302250) : ∀ (M : Mm) (x1 : Nat) (x2 : Nat) (x3 : Int32) (H : Heap) (locs : List Loc) (ls : Array Slot), f_L_law_J1110 L xs k28 M x1 x2 x3 = some (M1, 1) → Hp s.heap.size D cy M H → va_S (BA s.heap.size) s.heap H locs → lv_has ls 4 [(0, .ref b), (1, .ref x1), (2, .ref x2), (3, .int x3)] → W p l e room_1 s m #[Value.ref b] below meth c H locs (cells) (slots) (lw_Z below #[Value.ref b] s) (F0 m 1110 ls []) := by
  obtain ⟨hx, hb, hr, hml, hown, hts, hlocks, hK, hN, hX, hbl⟩ := id CX
  have hb0 : s.heap.size ≤ s.heap.size := Nat.le_refl _
  have hbA : ¬ BA s.heap.size b := Nat.not_le.mpr hbl
  intro M x1 x2 x3 H locs ls hF hP hS hl
  unfold f_L_law_J1110 at hF
  refine lv_aload_n hx hb dL_law_1110 rfl (lv_at hl 1 rfl) ?_
  refine lv_aload_n hx hb dL_law_1111 rfl (lv_at hl 0 rfl) ?_
  refine lv_iload_n hx hb dL_law_1112 rfl (lv_at hl 3 rfl) ?_
  refine lv_iconst (v := 1) hx hb dL_law_1113 (by decide) ?_
  refine lv_iadd hx hb dL_law_1114 ?_
  refine xs_ld hx hb hX hbl hbA hS hF dL_law_1115 (fun v1 hF => ?_)
  obtain ⟨v3, h2, hF⟩ := ob_some hF
  refine xr_call1 (va_runV (As := [.int v1]) (rest := []) ⟨hx, hb, hml, hown, hts⟩ (ct_X10_worth l s.heap.size D cy M x1 v1 v3 h2) (cwV 1 hts gL_law_X10_worth rfl rfl rfl (by decide +kernel) ⟨Nat.le_of_ble_eq_true rfl, Nat.le_of_ble_eq_true rfl⟩) (xp_V hP hK hN hS hb0 10 rfl (gk_X10_worth h2)) rfl rfl hl.1 rfl (lv_room (Nat.le_of_ble_eq_true rfl)) dL_law_1116 ⟨(by show cells + 0 ≤ 600000; omega), (by show slots + 0 ≤ 7302250; omega)⟩) hS (fun H locs hP hS => ?_)
  refine lv_aload_n hx hb dL_law_1119 rfl (lv_at hl 2 rfl) ?_
  refine lv_aload_n hx hb dL_law_1120 rfl (lv_at hl 0 rfl) ?_
  refine lv_iload_n hx hb dL_law_1121 rfl (lv_at hl 3 rfl) ?_
  refine lv_iconst (v := 1) hx hb dL_law_1122 (by decide) ?_
  refine lv_iadd hx hb dL_law_1123 ?_
  refine xs_ld hx hb hX hbl hbA hS hF dL_law_1124 (fun v4 hF => ?_)
  obtain ⟨M6, v7, h5, hF⟩ := ob2_some hF
  refine xr_call1 (va_runV (As := [.int v4]) (rest := [.int v3]) ⟨hx, hb, hml, hown, hts⟩ (ct_X11_worth l s.heap.size D cy M x2 v4 M6 v7 h5) (cwV 1 hts gL_law_X11_worth rfl rfl rfl (by decide +kernel) ⟨Nat.le_of_ble_eq_true rfl, Nat.le_of_ble_eq_true rfl⟩) (xp_V hP hK hN hS hb0 11 rfl (gk_X11_worth h5)) rfl rfl hl.1 rfl (lv_room (Nat.le_of_ble_eq_true rfl)) dL_law_1125 ⟨(by show cells + 0 + 0 ≤ 600000; omega), (by show slots + 0 + 0 ≤ 7302250; omega)⟩) hS (fun H locs hP hS => ?_)
  refine lv_icmp_eq (tgt := 1179) hx hb dL_law_1128 (by decide) (fun c8 => ?_) (fun c8 => ?_)
  · replace hF := it_t hF c8
    refine lv_iinc (v := x3 + 6) (lv' := [(3, .int (x3 + 6)), (0, .ref b), (1, .ref x1), (2, .ref x2)]) hx hb dL_law_1179 hl (k := 3) rfl (by rfl) (by decide) rfl (fun ls hl => ?_)
    refine lv_goto (tgt := 28) hx hb dL_law_1182 (by decide) ?_
    refine W.widen (k := cells + 5) (n := slots + 93) (by omega) (by omega) ?_
    exact hk _ _ _ _ _ _ _ hF hP hS (lv_sub hl [1, 2, 3, 0] rfl)
  · replace hF := it_f hF c8
    refine lv_iconst (v := 0) hx hb dL_law_1131 (by decide) ?_
    exact absurd hF (no_01 _ _)
set_option maxHeartbeats 4000000 in
set_option maxRecDepth 100000 in
theorem nd_L_law_1047 {p : Program} {l : Launch} {e : Env} {s : State} {m : MethodId} {below : List Frame} {meth : Method} {c : Code} {b L : Nat} {xs : Nat → Int32} {D : va_G} {cy : Nat → ClassId} {M1 : Mm} {cells slots : Nat} {k28 : Mm → Nat → Nat → Int32 → Option (Mm × Int32)} (CX : CL p s m meth c b L xs D cy) (hk : ∀ (M : Mm) (x1 x2 : Nat) (x3 : Int32) (H : Heap) (locs : List Loc) (ls : Array Slot), k28 M x1 x2 x3 = some (M1, 1) → Hp s.heap.size D cy M H → va_S (BA s.heap.size) s.heap H locs → lv_has ls 4 [(0, .ref b), (1, .ref x1), (2, .ref x2), (3, .int x3)] → W p l e room_1 s m #[Value.ref b] below meth c H locs (cells + 5) (slots + 93) (lw_Z below #[Value.ref b] s) (F0 m 28 ls [])) (hc : cells + 5 ≤ 600000) (hs : slots + 93 ≤ 7302250) : ∀ (M : Mm) (x1 : Nat) (x2 : Nat) (x3 : Int32) (H : Heap) (locs : List Loc) (ls : Array Slot), f_L_law_J1047 L xs k28 M x1 x2 x3 = some (M1, 1) → Hp s.heap.size D cy M H → va_S (BA s.heap.size) s.heap H locs → lv_has ls 4 [(0, .ref b), (1, .ref x1), (2, .ref x2), (3, .int x3)] → W p l e room_1 s m #[Value.ref b] below meth c H locs (cells) (slots) (lw_Z below #[Value.ref b] s) (F0 m 1047 ls []) := by
  obtain ⟨hx, hb, hr, hml, hown, hts, hlocks, hK, hN, hX, hbl⟩ := id CX
  have hb0 : s.heap.size ≤ s.heap.size := Nat.le_refl _
  have hbA : ¬ BA s.heap.size b := Nat.not_le.mpr hbl
  intro M x1 x2 x3 H locs ls hF hP hS hl
  unfold f_L_law_J1047 at hF
  refine lv_aload_n hx hb dL_law_1047 rfl (lv_at hl 1 rfl) ?_
  refine lv_aload_n hx hb dL_law_1048 rfl (lv_at hl 0 rfl) ?_
  refine lv_iload_n hx hb dL_law_1049 rfl (lv_at hl 3 rfl) ?_
  refine lv_iconst (v := 1) hx hb dL_law_1050 (by decide) ?_
  refine lv_iadd hx hb dL_law_1051 ?_
  refine xs_ld hx hb hX hbl hbA hS hF dL_law_1052 (fun v1 hF => ?_)
  refine lv_aload_n hx hb dL_law_1053 rfl (lv_at hl 0 rfl) ?_
  refine lv_iload_n hx hb dL_law_1054 rfl (lv_at hl 3 rfl) ?_
  refine lv_iconst (v := 2) hx hb dL_law_1055 (by decide) ?_
  refine lv_iadd hx hb dL_law_1056 ?_
  refine xs_ld hx hb hX hbl hbA hS hF dL_law_1057 (fun v2 hF => ?_)
  refine lv_aload_n hx hb dL_law_1058 rfl (lv_at hl 0 rfl) ?_
  refine lv_iload_n hx hb dL_law_1059 rfl (lv_at hl 3 rfl) ?_
  refine lv_iconst (v := 3) hx hb dL_law_1060 (by decide) ?_
  refine lv_iadd hx hb dL_law_1061 ?_
  refine xs_ld hx hb hX hbl hbA hS hF dL_law_1062 (fun v3 hF => ?_)
  refine lv_aload_n hx hb dL_law_1063 rfl (lv_at hl 0 rfl) ?_
  refine lv_iload_n hx hb dL_law_1064 rfl (lv_at hl 3 rfl) ?_
  refine lv_iconst (v := 4) hx hb dL_law_1065 (by decide) ?_
  refine lv_iadd hx hb dL_law_1066 ?_
  refine xs_ld hx hb hX hbl hbA hS hF dL_law_1067 (fun v4 hF => ?_)
  refine lv_aload_n hx hb dL_law_1068 rfl (lv_at hl 0 rfl) ?_
  refine lv_iload_n hx hb dL_law_1069 rfl (lv_at hl 3 rfl) ?_
  refine lv_iconst (v := 5) hx hb dL_law_1070 (by decide) ?_
  refine lv_iadd hx hb dL_law_1071 ?_
  refine xs_ld hx hb hX hbl hbA hS hF dL_law_1072 (fun v5 hF => ?_)
  obtain ⟨M7, v8, h6, hF⟩ := ob2_some hF
  refine xr_call1 (va_runV (As := [.int v1, .int v2, .int v3, .int v4, .int v5]) (rest := []) ⟨hx, hb, hml, hown, hts⟩ (ct_X10_copy l s.heap.size D cy M x1 v1 v2 v3 v4 v5 M7 v8 h6) (cwV 5 hts gL_law_X10_copy rfl rfl rfl (by decide +kernel) ⟨Nat.le_of_ble_eq_true rfl, Nat.le_of_ble_eq_true rfl⟩) (xp_V hP hK hN hS hb0 10 rfl (gk_X10_copy h6)) rfl rfl hl.1 rfl (lv_room (Nat.le_of_ble_eq_true rfl)) dL_law_1073 ⟨(by show cells + 0 ≤ 600000; omega), (by show slots + 0 ≤ 7302250; omega)⟩) hS (fun H locs hP hS => ?_)
  refine lv_aload_n hx hb dL_law_1076 rfl (lv_at hl 2 rfl) ?_
  refine lv_aload_n hx hb dL_law_1077 rfl (lv_at hl 0 rfl) ?_
  refine lv_iload_n hx hb dL_law_1078 rfl (lv_at hl 3 rfl) ?_
  refine lv_iconst (v := 1) hx hb dL_law_1079 (by decide) ?_
  refine lv_iadd hx hb dL_law_1080 ?_
  refine xs_ld hx hb hX hbl hbA hS hF dL_law_1081 (fun v9 hF => ?_)
  refine lv_aload_n hx hb dL_law_1082 rfl (lv_at hl 0 rfl) ?_
  refine lv_iload_n hx hb dL_law_1083 rfl (lv_at hl 3 rfl) ?_
  refine lv_iconst (v := 2) hx hb dL_law_1084 (by decide) ?_
  refine lv_iadd hx hb dL_law_1085 ?_
  refine xs_ld hx hb hX hbl hbA hS hF dL_law_1086 (fun v10 hF => ?_)
  refine lv_aload_n hx hb dL_law_1087 rfl (lv_at hl 0 rfl) ?_
  refine lv_iload_n hx hb dL_law_1088 rfl (lv_at hl 3 rfl) ?_
  refine lv_iconst (v := 3) hx hb dL_law_1089 (by decide) ?_
  refine lv_iadd hx hb dL_law_1090 ?_
  refine xs_ld hx hb hX hbl hbA hS hF dL_law_1091 (fun v11 hF => ?_)
  refine lv_aload_n hx hb dL_law_1092 rfl (lv_at hl 0 rfl) ?_
  refine lv_iload_n hx hb dL_law_1093 rfl (lv_at hl 3 rfl) ?_
  refine lv_iconst (v := 4) hx hb dL_law_1094 (by decide) ?_
  refine lv_iadd hx hb dL_law_1095 ?_
  refine xs_ld hx hb hX hbl hbA hS hF dL_law_1096 (fun v12 hF => ?_)
  refine lv_aload_n hx hb dL_law_1097 rfl (lv_at hl 0 rfl) ?_
  refine lv_iload_n hx hb dL_law_1098 rfl (lv_at hl 3 rfl) ?_
  refine lv_iconst (v := 5) hx hb dL_law_1099 (by decide) ?_
  refine lv_iadd hx hb dL_law_1100 ?_
  refine xs_ld hx hb hX hbl hbA hS hF dL_law_1101 (fun v13 hF => ?_)
  obtain ⟨M15, v16, h14, hF⟩ := ob2_some hF
  refine xr_call1 (va_runV (As := [.int v9, .int v10, .int v11, .int v12, .int v13]) (rest := [.int v8]) ⟨hx, hb, hml, hown, hts⟩ (ct_X11_copy l s.heap.size D cy M7 x2 v9 v10 v11 v12 v13 M15 v16 h14) (cwV 5 hts gL_law_X11_copy rfl rfl rfl (by decide +kernel) ⟨Nat.le_of_ble_eq_true rfl, Nat.le_of_ble_eq_true rfl⟩) (xp_V hP hK hN hS hb0 11 rfl (gk_X11_copy h14)) rfl rfl hl.1 rfl (lv_room (Nat.le_of_ble_eq_true rfl)) dL_law_1102 ⟨(by show cells + 0 + 0 ≤ 600000; omega), (by show slots + 0 + 0 ≤ 7302250; omega)⟩) hS (fun H locs hP hS => ?_)
  refine lv_icmp_eq (tgt := 1179) hx hb dL_law_1105 (by decide) (fun c17 => ?_) (fun c17 => ?_)
  · replace hF := it_t hF c17
    refine lv_iinc (v := x3 + 6) (lv' := [(3, .int (x3 + 6)), (0, .ref b), (1, .ref x1), (2, .ref x2)]) hx hb dL_law_1179 hl (k := 3) rfl (by rfl) (by decide) rfl (fun ls hl => ?_)
    refine lv_goto (tgt := 28) hx hb dL_law_1182 (by decide) ?_
    refine W.widen (k := cells + 5) (n := slots + 93) (by omega) (by omega) ?_
    exact hk _ _ _ _ _ _ _ hF hP hS (lv_sub hl [1, 2, 3, 0] rfl)
  · replace hF := it_f hF c17
    refine lv_iconst (v := 0) hx hb dL_law_1108 (by decide) ?_
    exact absurd hF (no_01 _ _)
set_option maxHeartbeats 4000000 in
set_option maxRecDepth 100000 in
theorem nd_L_law_1003 {p : Program} {l : Launch} {e : Env} {s : State} {m : MethodId} {below : List Frame} {meth : Method} {c : Code} {b L : Nat} {xs : Nat → Int32} {D : va_G} {cy : Nat → ClassId} {M1 : Mm} {cells slots : Nat} {k28 : Mm → Nat → Nat → Int32 → Option (Mm × Int32)} (CX : CL p s m meth c b L xs D cy) (hk : ∀ (M : Mm) (x1 x2 : Nat) (x3 : Int32) (H : Heap) (locs : List Loc) (ls : Array Slot), k28 M x1 x2 x3 = some (M1, 1) → Hp s.heap.size D cy M H → va_S (BA s.heap.size) s.heap H locs → lv_has ls 4 [(0, .ref b), (1, .ref x1), (2, .ref x2), (3, .int x3)] → W p l e room_1 s m #[Value.ref b] below meth c H locs (cells + 5) (slots + 93) (lw_Z below #[Value.ref b] s) (F0 m 28 ls [])) (hc : cells + 5 ≤ 600000) (hs : slots + 93 ≤ 7302250) : ∀ (M : Mm) (x1 : Nat) (x2 : Nat) (x3 : Int32) (H : Heap) (locs : List Loc) (ls : Array Slot), f_L_law_J1003 L xs k28 M x1 x2 x3 = some (M1, 1) → Hp s.heap.size D cy M H → va_S (BA s.heap.size) s.heap H locs → lv_has ls 4 [(0, .ref b), (1, .ref x1), (2, .ref x2), (3, .int x3)] → W p l e room_1 s m #[Value.ref b] below meth c H locs (cells) (slots) (lw_Z below #[Value.ref b] s) (F0 m 1003 ls []) := by
  obtain ⟨hx, hb, hr, hml, hown, hts, hlocks, hK, hN, hX, hbl⟩ := id CX
  have hb0 : s.heap.size ≤ s.heap.size := Nat.le_refl _
  have hbA : ¬ BA s.heap.size b := Nat.not_le.mpr hbl
  intro M x1 x2 x3 H locs ls hF hP hS hl
  unfold f_L_law_J1003 at hF
  refine lv_aload_n hx hb dL_law_1003 rfl (lv_at hl 1 rfl) ?_
  refine lv_aload_n hx hb dL_law_1004 rfl (lv_at hl 0 rfl) ?_
  refine lv_iload_n hx hb dL_law_1005 rfl (lv_at hl 3 rfl) ?_
  refine lv_iconst (v := 1) hx hb dL_law_1006 (by decide) ?_
  refine lv_iadd hx hb dL_law_1007 ?_
  refine xs_ld hx hb hX hbl hbA hS hF dL_law_1008 (fun v1 hF => ?_)
  refine lv_aload_n hx hb dL_law_1009 rfl (lv_at hl 0 rfl) ?_
  refine lv_iload_n hx hb dL_law_1010 rfl (lv_at hl 3 rfl) ?_
  refine lv_iconst (v := 2) hx hb dL_law_1011 (by decide) ?_
  refine lv_iadd hx hb dL_law_1012 ?_
  refine xs_ld hx hb hX hbl hbA hS hF dL_law_1013 (fun v2 hF => ?_)
  refine lv_aload_n hx hb dL_law_1014 rfl (lv_at hl 0 rfl) ?_
  refine lv_iload_n hx hb dL_law_1015 rfl (lv_at hl 3 rfl) ?_
  refine lv_iconst (v := 3) hx hb dL_law_1016 (by decide) ?_
  refine lv_iadd hx hb dL_law_1017 ?_
  refine xs_ld hx hb hX hbl hbA hS hF dL_law_1018 (fun v3 hF => ?_)
  obtain ⟨M5, v6, h4, hF⟩ := ob2_some hF
  refine xr_call1 (va_runV (As := [.int v1, .int v2, .int v3]) (rest := []) ⟨hx, hb, hml, hown, hts⟩ (ct_X10_put l s.heap.size D cy M x1 v1 v2 v3 M5 v6 h4) (cwV 3 hts gL_law_X10_put rfl rfl rfl (by decide +kernel) ⟨Nat.le_of_ble_eq_true rfl, Nat.le_of_ble_eq_true rfl⟩) (xp_V hP hK hN hS hb0 10 rfl (gk_X10_put h4)) rfl rfl hl.1 rfl (lv_room (Nat.le_of_ble_eq_true rfl)) dL_law_1019 ⟨(by show cells + 0 ≤ 600000; omega), (by show slots + 0 ≤ 7302250; omega)⟩) hS (fun H locs hP hS => ?_)
  refine lv_aload_n hx hb dL_law_1022 rfl (lv_at hl 2 rfl) ?_
  refine lv_aload_n hx hb dL_law_1023 rfl (lv_at hl 0 rfl) ?_
  refine lv_iload_n hx hb dL_law_1024 rfl (lv_at hl 3 rfl) ?_
  refine lv_iconst (v := 1) hx hb dL_law_1025 (by decide) ?_
  refine lv_iadd hx hb dL_law_1026 ?_
  refine xs_ld hx hb hX hbl hbA hS hF dL_law_1027 (fun v7 hF => ?_)
  refine lv_aload_n hx hb dL_law_1028 rfl (lv_at hl 0 rfl) ?_
  refine lv_iload_n hx hb dL_law_1029 rfl (lv_at hl 3 rfl) ?_
  refine lv_iconst (v := 2) hx hb dL_law_1030 (by decide) ?_
  refine lv_iadd hx hb dL_law_1031 ?_
  refine xs_ld hx hb hX hbl hbA hS hF dL_law_1032 (fun v8 hF => ?_)
  refine lv_aload_n hx hb dL_law_1033 rfl (lv_at hl 0 rfl) ?_
  refine lv_iload_n hx hb dL_law_1034 rfl (lv_at hl 3 rfl) ?_
  refine lv_iconst (v := 3) hx hb dL_law_1035 (by decide) ?_
  refine lv_iadd hx hb dL_law_1036 ?_
  refine xs_ld hx hb hX hbl hbA hS hF dL_law_1037 (fun v9 hF => ?_)
  obtain ⟨M11, v12, h10, hF⟩ := ob2_some hF
  refine xr_call1 (va_runV (As := [.int v7, .int v8, .int v9]) (rest := [.long v6]) ⟨hx, hb, hml, hown, hts⟩ (ct_X11_put l s.heap.size D cy M5 x2 v7 v8 v9 M11 v12 h10) (cwV 3 hts gL_law_X11_put rfl rfl rfl (by decide +kernel) ⟨Nat.le_of_ble_eq_true rfl, Nat.le_of_ble_eq_true rfl⟩) (xp_V hP hK hN hS hb0 11 rfl (gk_X11_put h10)) rfl rfl hl.1 rfl (lv_room (Nat.le_of_ble_eq_true rfl)) dL_law_1038 ⟨(by show cells + 0 + 0 ≤ 600000; omega), (by show slots + 0 + 0 ≤ 7302250; omega)⟩) hS (fun H locs hP hS => ?_)
  refine W.lcmp hx hb dL_law_1041 ?_
  refine lv_if_eq (tgt := 1179) hx hb dL_law_1042 (by decide) (fun c13 => ?_) (fun c13 => ?_)
  · replace hF := it_t hF c13
    refine lv_iinc (v := x3 + 6) (lv' := [(3, .int (x3 + 6)), (0, .ref b), (1, .ref x1), (2, .ref x2)]) hx hb dL_law_1179 hl (k := 3) rfl (by rfl) (by decide) rfl (fun ls hl => ?_)
    refine lv_goto (tgt := 28) hx hb dL_law_1182 (by decide) ?_
    refine W.widen (k := cells + 5) (n := slots + 93) (by omega) (by omega) ?_
    exact hk _ _ _ _ _ _ _ hF hP hS (lv_sub hl [1, 2, 3, 0] rfl)
  · replace hF := it_f hF c13
    refine lv_iconst (v := 0) hx hb dL_law_1045 (by decide) ?_
    exact absurd hF (no_01 _ _)
set_option maxHeartbeats 4000000 in
set_option maxRecDepth 100000 in
theorem nd_L_law_960 {p : Program} {l : Launch} {e : Env} {s : State} {m : MethodId} {below : List Frame} {meth : Method} {c : Code} {b L : Nat} {xs : Nat → Int32} {D : va_G} {cy : Nat → ClassId} {M1 : Mm} {cells slots : Nat} {k28 : Mm → Nat → Nat → Int32 → Option (Mm × Int32)} (CX : CL p s m meth c b L xs D cy) (hk : ∀ (M : Mm) (x1 x2 : Nat) (x3 : Int32) (H : Heap) (locs : List Loc) (ls : Array Slot), k28 M x1 x2 x3 = some (M1, 1) → Hp s.heap.size D cy M H → va_S (BA s.heap.size) s.heap H locs → lv_has ls 4 [(0, .ref b), (1, .ref x1), (2, .ref x2), (3, .int x3)] → W p l e room_1 s m #[Value.ref b] below meth c H locs (cells + 5) (slots + 93) (lw_Z below #[Value.ref b] s) (F0 m 28 ls [])) (hc : cells + 5 ≤ 600000) (hs : slots + 93 ≤ 7302250) : ∀ (M : Mm) (x1 : Nat) (x2 : Nat) (x3 : Int32) (H : Heap) (locs : List Loc) (ls : Array Slot), f_L_law_J960 L xs k28 M x1 x2 x3 = some (M1, 1) → Hp s.heap.size D cy M H → va_S (BA s.heap.size) s.heap H locs → lv_has ls 4 [(0, .ref b), (1, .ref x1), (2, .ref x2), (3, .int x3)] → W p l e room_1 s m #[Value.ref b] below meth c H locs (cells) (slots) (lw_Z below #[Value.ref b] s) (F0 m 960 ls []) := by
  obtain ⟨hx, hb, hr, hml, hown, hts, hlocks, hK, hN, hX, hbl⟩ := id CX
  have hb0 : s.heap.size ≤ s.heap.size := Nat.le_refl _
  have hbA : ¬ BA s.heap.size b := Nat.not_le.mpr hbl
  intro M x1 x2 x3 H locs ls hF hP hS hl
  unfold f_L_law_J960 at hF
  refine lv_aload_n hx hb dL_law_960 rfl (lv_at hl 1 rfl) ?_
  refine lv_aload_n hx hb dL_law_961 rfl (lv_at hl 0 rfl) ?_
  refine lv_iload_n hx hb dL_law_962 rfl (lv_at hl 3 rfl) ?_
  refine lv_iconst (v := 1) hx hb dL_law_963 (by decide) ?_
  refine lv_iadd hx hb dL_law_964 ?_
  refine xs_ld hx hb hX hbl hbA hS hF dL_law_965 (fun v1 hF => ?_)
  refine lv_aload_n hx hb dL_law_966 rfl (lv_at hl 0 rfl) ?_
  refine lv_iload_n hx hb dL_law_967 rfl (lv_at hl 3 rfl) ?_
  refine lv_iconst (v := 2) hx hb dL_law_968 (by decide) ?_
  refine lv_iadd hx hb dL_law_969 ?_
  refine xs_ld hx hb hX hbl hbA hS hF dL_law_970 (fun v2 hF => ?_)
  refine lv_aload_n hx hb dL_law_971 rfl (lv_at hl 0 rfl) ?_
  refine lv_iload_n hx hb dL_law_972 rfl (lv_at hl 3 rfl) ?_
  refine lv_iconst (v := 3) hx hb dL_law_973 (by decide) ?_
  refine lv_iadd hx hb dL_law_974 ?_
  refine xs_ld hx hb hX hbl hbA hS hF dL_law_975 (fun v3 hF => ?_)
  obtain ⟨M5, v6, h4, hF⟩ := ob2_some hF
  refine xr_call1 (va_runV (As := [.int v1, .int v2, .int v3]) (rest := []) ⟨hx, hb, hml, hown, hts⟩ (ct_X10_make l s.heap.size D cy M x1 v1 v2 v3 M5 v6 h4) (cwV 3 hts gL_law_X10_make rfl rfl rfl (by decide +kernel) ⟨Nat.le_of_ble_eq_true rfl, Nat.le_of_ble_eq_true rfl⟩) (xp_V hP hK hN hS hb0 10 rfl (gk_X10_make h4)) rfl rfl hl.1 rfl (lv_room (Nat.le_of_ble_eq_true rfl)) dL_law_976 ⟨(by show cells + 0 ≤ 600000; omega), (by show slots + 0 ≤ 7302250; omega)⟩) hS (fun H locs hP hS => ?_)
  refine lv_aload_n hx hb dL_law_979 rfl (lv_at hl 2 rfl) ?_
  refine lv_aload_n hx hb dL_law_980 rfl (lv_at hl 0 rfl) ?_
  refine lv_iload_n hx hb dL_law_981 rfl (lv_at hl 3 rfl) ?_
  refine lv_iconst (v := 1) hx hb dL_law_982 (by decide) ?_
  refine lv_iadd hx hb dL_law_983 ?_
  refine xs_ld hx hb hX hbl hbA hS hF dL_law_984 (fun v7 hF => ?_)
  refine lv_aload_n hx hb dL_law_985 rfl (lv_at hl 0 rfl) ?_
  refine lv_iload_n hx hb dL_law_986 rfl (lv_at hl 3 rfl) ?_
  refine lv_iconst (v := 2) hx hb dL_law_987 (by decide) ?_
  refine lv_iadd hx hb dL_law_988 ?_
  refine xs_ld hx hb hX hbl hbA hS hF dL_law_989 (fun v8 hF => ?_)
  refine lv_aload_n hx hb dL_law_990 rfl (lv_at hl 0 rfl) ?_
  refine lv_iload_n hx hb dL_law_991 rfl (lv_at hl 3 rfl) ?_
  refine lv_iconst (v := 3) hx hb dL_law_992 (by decide) ?_
  refine lv_iadd hx hb dL_law_993 ?_
  refine xs_ld hx hb hX hbl hbA hS hF dL_law_994 (fun v9 hF => ?_)
  obtain ⟨M11, v12, h10, hF⟩ := ob2_some hF
  refine xr_call1 (va_runV (As := [.int v7, .int v8, .int v9]) (rest := [.int v6]) ⟨hx, hb, hml, hown, hts⟩ (ct_X11_make l s.heap.size D cy M5 x2 v7 v8 v9 M11 v12 h10) (cwV 3 hts gL_law_X11_make rfl rfl rfl (by decide +kernel) ⟨Nat.le_of_ble_eq_true rfl, Nat.le_of_ble_eq_true rfl⟩) (xp_V hP hK hN hS hb0 11 rfl (gk_X11_make h10)) rfl rfl hl.1 rfl (lv_room (Nat.le_of_ble_eq_true rfl)) dL_law_995 ⟨(by show cells + 0 + 0 ≤ 600000; omega), (by show slots + 0 + 0 ≤ 7302250; omega)⟩) hS (fun H locs hP hS => ?_)
  refine lv_icmp_eq (tgt := 1179) hx hb dL_law_998 (by decide) (fun c13 => ?_) (fun c13 => ?_)
  · replace hF := it_t hF c13
    refine lv_iinc (v := x3 + 6) (lv' := [(3, .int (x3 + 6)), (0, .ref b), (1, .ref x1), (2, .ref x2)]) hx hb dL_law_1179 hl (k := 3) rfl (by rfl) (by decide) rfl (fun ls hl => ?_)
    refine lv_goto (tgt := 28) hx hb dL_law_1182 (by decide) ?_
    refine W.widen (k := cells + 5) (n := slots + 93) (by omega) (by omega) ?_
    exact hk _ _ _ _ _ _ _ hF hP hS (lv_sub hl [1, 2, 3, 0] rfl)
  · replace hF := it_f hF c13
    refine lv_iconst (v := 0) hx hb dL_law_1001 (by decide) ?_
    exact absurd hF (no_01 _ _)
set_option maxHeartbeats 4000000 in
set_option maxRecDepth 100000 in
theorem nd_L_law_917 {p : Program} {l : Launch} {e : Env} {s : State} {m : MethodId} {below : List Frame} {meth : Method} {c : Code} {b L : Nat} {xs : Nat → Int32} {D : va_G} {cy : Nat → ClassId} {M1 : Mm} {cells slots : Nat} {k28 : Mm → Nat → Nat → Int32 → Option (Mm × Int32)} (CX : CL p s m meth c b L xs D cy) (hk : ∀ (M : Mm) (x1 x2 : Nat) (x3 : Int32) (H : Heap) (locs : List Loc) (ls : Array Slot), k28 M x1 x2 x3 = some (M1, 1) → Hp s.heap.size D cy M H → va_S (BA s.heap.size) s.heap H locs → lv_has ls 4 [(0, .ref b), (1, .ref x1), (2, .ref x2), (3, .int x3)] → W p l e room_1 s m #[Value.ref b] below meth c H locs (cells + 5) (slots + 93) (lw_Z below #[Value.ref b] s) (F0 m 28 ls [])) (hc : cells + 5 ≤ 600000) (hs : slots + 93 ≤ 7302250) : ∀ (M : Mm) (x1 : Nat) (x2 : Nat) (x3 : Int32) (H : Heap) (locs : List Loc) (ls : Array Slot), f_L_law_J917 L xs k28 M x1 x2 x3 = some (M1, 1) → Hp s.heap.size D cy M H → va_S (BA s.heap.size) s.heap H locs → lv_has ls 4 [(0, .ref b), (1, .ref x1), (2, .ref x2), (3, .int x3)] → W p l e room_1 s m #[Value.ref b] below meth c H locs (cells) (slots) (lw_Z below #[Value.ref b] s) (F0 m 917 ls []) := by
  obtain ⟨hx, hb, hr, hml, hown, hts, hlocks, hK, hN, hX, hbl⟩ := id CX
  have hb0 : s.heap.size ≤ s.heap.size := Nat.le_refl _
  have hbA : ¬ BA s.heap.size b := Nat.not_le.mpr hbl
  intro M x1 x2 x3 H locs ls hF hP hS hl
  unfold f_L_law_J917 at hF
  refine lv_aload_n hx hb dL_law_917 rfl (lv_at hl 1 rfl) ?_
  refine lv_aload_n hx hb dL_law_918 rfl (lv_at hl 0 rfl) ?_
  refine lv_iload_n hx hb dL_law_919 rfl (lv_at hl 3 rfl) ?_
  refine lv_iconst (v := 1) hx hb dL_law_920 (by decide) ?_
  refine lv_iadd hx hb dL_law_921 ?_
  refine xs_ld hx hb hX hbl hbA hS hF dL_law_922 (fun v1 hF => ?_)
  refine lv_aload_n hx hb dL_law_923 rfl (lv_at hl 0 rfl) ?_
  refine lv_iload_n hx hb dL_law_924 rfl (lv_at hl 3 rfl) ?_
  refine lv_iconst (v := 2) hx hb dL_law_925 (by decide) ?_
  refine lv_iadd hx hb dL_law_926 ?_
  refine xs_ld hx hb hX hbl hbA hS hF dL_law_927 (fun v2 hF => ?_)
  refine lv_aload_n hx hb dL_law_928 rfl (lv_at hl 0 rfl) ?_
  refine lv_iload_n hx hb dL_law_929 rfl (lv_at hl 3 rfl) ?_
  refine lv_iconst (v := 3) hx hb dL_law_930 (by decide) ?_
  refine lv_iadd hx hb dL_law_931 ?_
  refine xs_ld hx hb hX hbl hbA hS hF dL_law_932 (fun v3 hF => ?_)
  obtain ⟨M5, v6, h4, hF⟩ := ob2_some hF
  refine xr_call1 (va_runV (As := [.int v1, .int v2, .int v3]) (rest := []) ⟨hx, hb, hml, hown, hts⟩ (ct_X10_keep l s.heap.size D cy M x1 v1 v2 v3 M5 v6 h4) (cwV 3 hts gL_law_X10_keep rfl rfl rfl (by decide +kernel) ⟨Nat.le_of_ble_eq_true rfl, Nat.le_of_ble_eq_true rfl⟩) (xp_V hP hK hN hS hb0 10 rfl (gk_X10_keep h4)) rfl rfl hl.1 rfl (lv_room (Nat.le_of_ble_eq_true rfl)) dL_law_933 ⟨(by show cells + 0 ≤ 600000; omega), (by show slots + 0 ≤ 7302250; omega)⟩) hS (fun H locs hP hS => ?_)
  refine lv_aload_n hx hb dL_law_936 rfl (lv_at hl 2 rfl) ?_
  refine lv_aload_n hx hb dL_law_937 rfl (lv_at hl 0 rfl) ?_
  refine lv_iload_n hx hb dL_law_938 rfl (lv_at hl 3 rfl) ?_
  refine lv_iconst (v := 1) hx hb dL_law_939 (by decide) ?_
  refine lv_iadd hx hb dL_law_940 ?_
  refine xs_ld hx hb hX hbl hbA hS hF dL_law_941 (fun v7 hF => ?_)
  refine lv_aload_n hx hb dL_law_942 rfl (lv_at hl 0 rfl) ?_
  refine lv_iload_n hx hb dL_law_943 rfl (lv_at hl 3 rfl) ?_
  refine lv_iconst (v := 2) hx hb dL_law_944 (by decide) ?_
  refine lv_iadd hx hb dL_law_945 ?_
  refine xs_ld hx hb hX hbl hbA hS hF dL_law_946 (fun v8 hF => ?_)
  refine lv_aload_n hx hb dL_law_947 rfl (lv_at hl 0 rfl) ?_
  refine lv_iload_n hx hb dL_law_948 rfl (lv_at hl 3 rfl) ?_
  refine lv_iconst (v := 3) hx hb dL_law_949 (by decide) ?_
  refine lv_iadd hx hb dL_law_950 ?_
  refine xs_ld hx hb hX hbl hbA hS hF dL_law_951 (fun v9 hF => ?_)
  obtain ⟨M11, v12, h10, hF⟩ := ob2_some hF
  refine xr_call1 (va_runV (As := [.int v7, .int v8, .int v9]) (rest := [.int v6]) ⟨hx, hb, hml, hown, hts⟩ (ct_X11_keep l s.heap.size D cy M5 x2 v7 v8 v9 M11 v12 h10) (cwV 3 hts gL_law_X11_keep rfl rfl rfl (by decide +kernel) ⟨Nat.le_of_ble_eq_true rfl, Nat.le_of_ble_eq_true rfl⟩) (xp_V hP hK hN hS hb0 11 rfl (gk_X11_keep h10)) rfl rfl hl.1 rfl (lv_room (Nat.le_of_ble_eq_true rfl)) dL_law_952 ⟨(by show cells + 0 + 0 ≤ 600000; omega), (by show slots + 0 + 0 ≤ 7302250; omega)⟩) hS (fun H locs hP hS => ?_)
  refine lv_icmp_eq (tgt := 1179) hx hb dL_law_955 (by decide) (fun c13 => ?_) (fun c13 => ?_)
  · replace hF := it_t hF c13
    refine lv_iinc (v := x3 + 6) (lv' := [(3, .int (x3 + 6)), (0, .ref b), (1, .ref x1), (2, .ref x2)]) hx hb dL_law_1179 hl (k := 3) rfl (by rfl) (by decide) rfl (fun ls hl => ?_)
    refine lv_goto (tgt := 28) hx hb dL_law_1182 (by decide) ?_
    refine W.widen (k := cells + 5) (n := slots + 93) (by omega) (by omega) ?_
    exact hk _ _ _ _ _ _ _ hF hP hS (lv_sub hl [1, 2, 3, 0] rfl)
  · replace hF := it_f hF c13
    refine lv_iconst (v := 0) hx hb dL_law_958 (by decide) ?_
    exact absurd hF (no_01 _ _)
set_option maxHeartbeats 4000000 in
set_option maxRecDepth 100000 in
theorem nd_L_law_873 {p : Program} {l : Launch} {e : Env} {s : State} {m : MethodId} {below : List Frame} {meth : Method} {c : Code} {b L : Nat} {xs : Nat → Int32} {D : va_G} {cy : Nat → ClassId} {M1 : Mm} {cells slots : Nat} {k28 : Mm → Nat → Nat → Int32 → Option (Mm × Int32)} (CX : CL p s m meth c b L xs D cy) (hk : ∀ (M : Mm) (x1 x2 : Nat) (x3 : Int32) (H : Heap) (locs : List Loc) (ls : Array Slot), k28 M x1 x2 x3 = some (M1, 1) → Hp s.heap.size D cy M H → va_S (BA s.heap.size) s.heap H locs → lv_has ls 4 [(0, .ref b), (1, .ref x1), (2, .ref x2), (3, .int x3)] → W p l e room_1 s m #[Value.ref b] below meth c H locs (cells + 5) (slots + 93) (lw_Z below #[Value.ref b] s) (F0 m 28 ls [])) (hc : cells + 5 ≤ 600000) (hs : slots + 93 ≤ 7302250) : ∀ (M : Mm) (x1 : Nat) (x2 : Nat) (x3 : Int32) (H : Heap) (locs : List Loc) (ls : Array Slot), f_L_law_J873 L xs k28 M x1 x2 x3 = some (M1, 1) → Hp s.heap.size D cy M H → va_S (BA s.heap.size) s.heap H locs → lv_has ls 4 [(0, .ref b), (1, .ref x1), (2, .ref x2), (3, .int x3)] → W p l e room_1 s m #[Value.ref b] below meth c H locs (cells) (slots) (lw_Z below #[Value.ref b] s) (F0 m 873 ls []) := by
  obtain ⟨hx, hb, hr, hml, hown, hts, hlocks, hK, hN, hX, hbl⟩ := id CX
  have hb0 : s.heap.size ≤ s.heap.size := Nat.le_refl _
  have hbA : ¬ BA s.heap.size b := Nat.not_le.mpr hbl
  intro M x1 x2 x3 H locs ls hF hP hS hl
  unfold f_L_law_J873 at hF
  refine lv_aload_n hx hb dL_law_873 rfl (lv_at hl 1 rfl) ?_
  refine lv_aload_n hx hb dL_law_874 rfl (lv_at hl 0 rfl) ?_
  refine lv_iload_n hx hb dL_law_875 rfl (lv_at hl 3 rfl) ?_
  refine lv_iconst (v := 1) hx hb dL_law_876 (by decide) ?_
  refine lv_iadd hx hb dL_law_877 ?_
  refine xs_ld hx hb hX hbl hbA hS hF dL_law_878 (fun v1 hF => ?_)
  refine lv_aload_n hx hb dL_law_879 rfl (lv_at hl 0 rfl) ?_
  refine lv_iload_n hx hb dL_law_880 rfl (lv_at hl 3 rfl) ?_
  refine lv_iconst (v := 2) hx hb dL_law_881 (by decide) ?_
  refine lv_iadd hx hb dL_law_882 ?_
  refine xs_ld hx hb hX hbl hbA hS hF dL_law_883 (fun v2 hF => ?_)
  refine lv_aload_n hx hb dL_law_884 rfl (lv_at hl 0 rfl) ?_
  refine lv_iload_n hx hb dL_law_885 rfl (lv_at hl 3 rfl) ?_
  refine lv_iconst (v := 3) hx hb dL_law_886 (by decide) ?_
  refine lv_iadd hx hb dL_law_887 ?_
  refine xs_ld hx hb hX hbl hbA hS hF dL_law_888 (fun v3 hF => ?_)
  obtain ⟨v5, h4, hF⟩ := ob_some hF
  refine xr_call1 (va_runV (As := [.int v1, .int v2, .int v3]) (rest := []) ⟨hx, hb, hml, hown, hts⟩ (ct_X10_spent l s.heap.size D cy M x1 v1 v2 v3 v5 h4) (cwV 3 hts gL_law_X10_spent rfl rfl rfl (by decide +kernel) ⟨Nat.le_of_ble_eq_true rfl, Nat.le_of_ble_eq_true rfl⟩) (xp_V hP hK hN hS hb0 10 rfl (gk_X10_spent h4)) rfl rfl hl.1 rfl (lv_room (Nat.le_of_ble_eq_true rfl)) dL_law_889 ⟨(by show cells + 0 ≤ 600000; omega), (by show slots + 0 ≤ 7302250; omega)⟩) hS (fun H locs hP hS => ?_)
  refine lv_aload_n hx hb dL_law_892 rfl (lv_at hl 2 rfl) ?_
  refine lv_aload_n hx hb dL_law_893 rfl (lv_at hl 0 rfl) ?_
  refine lv_iload_n hx hb dL_law_894 rfl (lv_at hl 3 rfl) ?_
  refine lv_iconst (v := 1) hx hb dL_law_895 (by decide) ?_
  refine lv_iadd hx hb dL_law_896 ?_
  refine xs_ld hx hb hX hbl hbA hS hF dL_law_897 (fun v6 hF => ?_)
  refine lv_aload_n hx hb dL_law_898 rfl (lv_at hl 0 rfl) ?_
  refine lv_iload_n hx hb dL_law_899 rfl (lv_at hl 3 rfl) ?_
  refine lv_iconst (v := 2) hx hb dL_law_900 (by decide) ?_
  refine lv_iadd hx hb dL_law_901 ?_
  refine xs_ld hx hb hX hbl hbA hS hF dL_law_902 (fun v7 hF => ?_)
  refine lv_aload_n hx hb dL_law_903 rfl (lv_at hl 0 rfl) ?_
  refine lv_iload_n hx hb dL_law_904 rfl (lv_at hl 3 rfl) ?_
  refine lv_iconst (v := 3) hx hb dL_law_905 (by decide) ?_
  refine lv_iadd hx hb dL_law_906 ?_
  refine xs_ld hx hb hX hbl hbA hS hF dL_law_907 (fun v8 hF => ?_)
  obtain ⟨M10, v11, h9, hF⟩ := ob2_some hF
  refine xr_call1 (va_runV (As := [.int v6, .int v7, .int v8]) (rest := [.long v5]) ⟨hx, hb, hml, hown, hts⟩ (ct_X11_spent l s.heap.size D cy M x2 v6 v7 v8 M10 v11 h9) (cwV 3 hts gL_law_X11_spent rfl rfl rfl (by decide +kernel) ⟨Nat.le_of_ble_eq_true rfl, Nat.le_of_ble_eq_true rfl⟩) (xp_V hP hK hN hS hb0 11 rfl (gk_X11_spent h9)) rfl rfl hl.1 rfl (lv_room (Nat.le_of_ble_eq_true rfl)) dL_law_908 ⟨(by show cells + 0 + 0 ≤ 600000; omega), (by show slots + 0 + 0 ≤ 7302250; omega)⟩) hS (fun H locs hP hS => ?_)
  refine W.lcmp hx hb dL_law_911 ?_
  refine lv_if_eq (tgt := 1179) hx hb dL_law_912 (by decide) (fun c12 => ?_) (fun c12 => ?_)
  · replace hF := it_t hF c12
    refine lv_iinc (v := x3 + 6) (lv' := [(3, .int (x3 + 6)), (0, .ref b), (1, .ref x1), (2, .ref x2)]) hx hb dL_law_1179 hl (k := 3) rfl (by rfl) (by decide) rfl (fun ls hl => ?_)
    refine lv_goto (tgt := 28) hx hb dL_law_1182 (by decide) ?_
    refine W.widen (k := cells + 5) (n := slots + 93) (by omega) (by omega) ?_
    exact hk _ _ _ _ _ _ _ hF hP hS (lv_sub hl [1, 2, 3, 0] rfl)
  · replace hF := it_f hF c12
    refine lv_iconst (v := 0) hx hb dL_law_915 (by decide) ?_
    exact absurd hF (no_01 _ _)
set_option maxHeartbeats 4000000 in
set_option maxRecDepth 100000 in
theorem nd_L_law_840 {p : Program} {l : Launch} {e : Env} {s : State} {m : MethodId} {below : List Frame} {meth : Method} {c : Code} {b L : Nat} {xs : Nat → Int32} {D : va_G} {cy : Nat → ClassId} {M1 : Mm} {cells slots : Nat} {k28 : Mm → Nat → Nat → Int32 → Option (Mm × Int32)} (CX : CL p s m meth c b L xs D cy) (hk : ∀ (M : Mm) (x1 x2 : Nat) (x3 : Int32) (H : Heap) (locs : List Loc) (ls : Array Slot), k28 M x1 x2 x3 = some (M1, 1) → Hp s.heap.size D cy M H → va_S (BA s.heap.size) s.heap H locs → lv_has ls 4 [(0, .ref b), (1, .ref x1), (2, .ref x2), (3, .int x3)] → W p l e room_1 s m #[Value.ref b] below meth c H locs (cells + 5) (slots + 93) (lw_Z below #[Value.ref b] s) (F0 m 28 ls [])) (hc : cells + 5 ≤ 600000) (hs : slots + 93 ≤ 7302250) : ∀ (M : Mm) (x1 : Nat) (x2 : Nat) (x3 : Int32) (H : Heap) (locs : List Loc) (ls : Array Slot), f_L_law_J840 L xs k28 M x1 x2 x3 = some (M1, 1) → Hp s.heap.size D cy M H → va_S (BA s.heap.size) s.heap H locs → lv_has ls 4 [(0, .ref b), (1, .ref x1), (2, .ref x2), (3, .int x3)] → W p l e room_1 s m #[Value.ref b] below meth c H locs (cells) (slots) (lw_Z below #[Value.ref b] s) (F0 m 840 ls []) := by
  obtain ⟨hx, hb, hr, hml, hown, hts, hlocks, hK, hN, hX, hbl⟩ := id CX
  have hb0 : s.heap.size ≤ s.heap.size := Nat.le_refl _
  have hbA : ¬ BA s.heap.size b := Nat.not_le.mpr hbl
  intro M x1 x2 x3 H locs ls hF hP hS hl
  unfold f_L_law_J840 at hF
  refine lv_aload_n hx hb dL_law_840 rfl (lv_at hl 1 rfl) ?_
  refine lv_aload_n hx hb dL_law_841 rfl (lv_at hl 0 rfl) ?_
  refine lv_iload_n hx hb dL_law_842 rfl (lv_at hl 3 rfl) ?_
  refine lv_iconst (v := 1) hx hb dL_law_843 (by decide) ?_
  refine lv_iadd hx hb dL_law_844 ?_
  refine xs_ld hx hb hX hbl hbA hS hF dL_law_845 (fun v1 hF => ?_)
  refine lv_aload_n hx hb dL_law_846 rfl (lv_at hl 0 rfl) ?_
  refine lv_iload_n hx hb dL_law_847 rfl (lv_at hl 3 rfl) ?_
  refine lv_iconst (v := 2) hx hb dL_law_848 (by decide) ?_
  refine lv_iadd hx hb dL_law_849 ?_
  refine xs_ld hx hb hX hbl hbA hS hF dL_law_850 (fun v2 hF => ?_)
  obtain ⟨M4, v5, h3, hF⟩ := ob2_some hF
  refine xr_call1 (va_runV (As := [.int v1, .int v2]) (rest := []) ⟨hx, hb, hml, hown, hts⟩ (ct_X10_forget l s.heap.size D cy M x1 v1 v2 M4 v5 h3) (cwV 2 hts gL_law_X10_forget rfl rfl rfl (by decide +kernel) ⟨Nat.le_of_ble_eq_true rfl, Nat.le_of_ble_eq_true rfl⟩) (xp_V hP hK hN hS hb0 10 rfl (gk_X10_forget h3)) rfl rfl hl.1 rfl (lv_room (Nat.le_of_ble_eq_true rfl)) dL_law_851 ⟨(by show cells + 0 ≤ 600000; omega), (by show slots + 0 ≤ 7302250; omega)⟩) hS (fun H locs hP hS => ?_)
  refine lv_aload_n hx hb dL_law_854 rfl (lv_at hl 2 rfl) ?_
  refine lv_aload_n hx hb dL_law_855 rfl (lv_at hl 0 rfl) ?_
  refine lv_iload_n hx hb dL_law_856 rfl (lv_at hl 3 rfl) ?_
  refine lv_iconst (v := 1) hx hb dL_law_857 (by decide) ?_
  refine lv_iadd hx hb dL_law_858 ?_
  refine xs_ld hx hb hX hbl hbA hS hF dL_law_859 (fun v6 hF => ?_)
  refine lv_aload_n hx hb dL_law_860 rfl (lv_at hl 0 rfl) ?_
  refine lv_iload_n hx hb dL_law_861 rfl (lv_at hl 3 rfl) ?_
  refine lv_iconst (v := 2) hx hb dL_law_862 (by decide) ?_
  refine lv_iadd hx hb dL_law_863 ?_
  refine xs_ld hx hb hX hbl hbA hS hF dL_law_864 (fun v7 hF => ?_)
  obtain ⟨M9, v10, h8, hF⟩ := ob2_some hF
  refine xr_call1 (va_runV (As := [.int v6, .int v7]) (rest := [.int v5]) ⟨hx, hb, hml, hown, hts⟩ (ct_X11_forget l s.heap.size D cy M4 x2 v6 v7 M9 v10 h8) (cwV 2 hts gL_law_X11_forget rfl rfl rfl (by decide +kernel) ⟨Nat.le_of_ble_eq_true rfl, Nat.le_of_ble_eq_true rfl⟩) (xp_V hP hK hN hS hb0 11 rfl (gk_X11_forget h8)) rfl rfl hl.1 rfl (lv_room (Nat.le_of_ble_eq_true rfl)) dL_law_865 ⟨(by show cells + 0 + 0 ≤ 600000; omega), (by show slots + 0 + 0 ≤ 7302250; omega)⟩) hS (fun H locs hP hS => ?_)
  refine lv_icmp_eq (tgt := 1179) hx hb dL_law_868 (by decide) (fun c11 => ?_) (fun c11 => ?_)
  · replace hF := it_t hF c11
    refine lv_iinc (v := x3 + 6) (lv' := [(3, .int (x3 + 6)), (0, .ref b), (1, .ref x1), (2, .ref x2)]) hx hb dL_law_1179 hl (k := 3) rfl (by rfl) (by decide) rfl (fun ls hl => ?_)
    refine lv_goto (tgt := 28) hx hb dL_law_1182 (by decide) ?_
    refine W.widen (k := cells + 5) (n := slots + 93) (by omega) (by omega) ?_
    exact hk _ _ _ _ _ _ _ hF hP hS (lv_sub hl [1, 2, 3, 0] rfl)
  · replace hF := it_f hF c11
    refine lv_iconst (v := 0) hx hb dL_law_871 (by decide) ?_
    exact absurd hF (no_01 _ _)
