set_option maxHeartbeats 4000000 in
set_option maxRecDepth 100000 in
theorem nd_L_law_168 {p : Program} {l : Launch} {e : Env} {s : State} {m : MethodId} {below : List Frame} {meth : Method} {c : Code} {b L : Nat} {xs : Nat → Int32} {D : va_G} {cy : Nat → ClassId} {M1 : Mm} {cells slots : Nat} {k28 : Mm → Nat → Nat → Int32 → Option (Mm × Int32)} (CX : CL p s m meth c b L xs D cy) (hk : ∀ (M : Mm) (x1 x2 : Nat) (x3 : Int32) (H : Heap) (locs : List Loc) (ls : Array Slot), k28 M x1 x2 x3 = some (M1, 1) → Hp s.heap.size D cy M H → va_S (BA s.heap.size) s.heap H locs → lv_has ls 4 [(0, .ref b), (1, .ref x1), (2, .ref x2), (3, .int x3)] → W p l e room_1 s m #[Value.ref b] below meth c H locs (cells + 5) (slots + 93) (lw_Z below #[Value.ref b] s) (F0 m 28 ls [])) (hc : cells + 5 ≤ 600000) (hs : slots + 93 ≤ 7302250) : ∀ (M : Mm) (x1 : Nat) (x2 : Nat) (x3 : Int32) (H : Heap) (locs : List Loc) (ls : Array Slot), f_L_law_J168 L xs k28 M x1 x2 x3 = some (M1, 1) → Hp s.heap.size D cy M H → va_S (BA s.heap.size) s.heap H locs → lv_has ls 4 [(0, .ref b), (1, .ref x1), (2, .ref x2), (3, .int x3)] → W p l e room_1 s m #[Value.ref b] below meth c H locs (cells) (slots) (lw_Z below #[Value.ref b] s) (F0 m 168 ls []) := by
  obtain ⟨hx, hb, hr, hml, hown, hts, hlocks, hK, hN, hX, hbl⟩ := id CX
  have hb0 : s.heap.size ≤ s.heap.size := Nat.le_refl _
  have hbA : ¬ BA s.heap.size b := Nat.not_le.mpr hbl
  intro M x1 x2 x3 H locs ls hF hP hS hl
  unfold f_L_law_J168 at hF
  refine lv_aload_n hx hb dL_law_168 rfl (lv_at hl 1 rfl) ?_
  refine lv_aload_n hx hb dL_law_169 rfl (lv_at hl 0 rfl) ?_
  refine lv_iload_n hx hb dL_law_170 rfl (lv_at hl 3 rfl) ?_
  refine lv_iconst (v := 1) hx hb dL_law_171 (by decide) ?_
  refine lv_iadd hx hb dL_law_172 ?_
  refine xs_ld hx hb hX hbl hbA hS hF dL_law_173 (fun v1 hF => ?_)
  refine lv_aload_n hx hb dL_law_174 rfl (lv_at hl 0 rfl) ?_
  refine lv_iload_n hx hb dL_law_175 rfl (lv_at hl 3 rfl) ?_
  refine lv_iconst (v := 2) hx hb dL_law_176 (by decide) ?_
  refine lv_iadd hx hb dL_law_177 ?_
  refine xs_ld hx hb hX hbl hbA hS hF dL_law_178 (fun v2 hF => ?_)
  refine lv_aload_n hx hb dL_law_179 rfl (lv_at hl 0 rfl) ?_
  refine lv_iload_n hx hb dL_law_180 rfl (lv_at hl 3 rfl) ?_
  refine lv_iconst (v := 3) hx hb dL_law_181 (by decide) ?_
  refine lv_iadd hx hb dL_law_182 ?_
  refine xs_ld hx hb hX hbl hbA hS hF dL_law_183 (fun v3 hF => ?_)
  refine lv_aload_n hx hb dL_law_184 rfl (lv_at hl 0 rfl) ?_
  refine lv_iload_n hx hb dL_law_185 rfl (lv_at hl 3 rfl) ?_
  refine lv_iconst (v := 4) hx hb dL_law_186 (by decide) ?_
  refine lv_iadd hx hb dL_law_187 ?_
  refine xs_ld hx hb hX hbl hbA hS hF dL_law_188 (fun v4 hF => ?_)
  obtain ⟨M6, v7, h5, hF⟩ := ob2_some hF
  refine xr_call1 (va_runV (As := [.int v1, .int v2, .int v3, .int v4]) (rest := []) ⟨hx, hb, hml, hown, hts⟩ (ct_X10_field l s.heap.size D cy M x1 v1 v2 v3 v4 M6 v7 h5) (cwV 4 hts gL_law_X10_field rfl rfl rfl (by decide +kernel) ⟨Nat.le_of_ble_eq_true rfl, Nat.le_of_ble_eq_true rfl⟩) (xp_V hP hK hN hS hb0 10 rfl (gk_X10_field h5)) rfl rfl hl.1 rfl (lv_room (Nat.le_of_ble_eq_true rfl)) dL_law_189 ⟨(by show cells + 0 ≤ 600000; omega), (by show slots + 0 ≤ 7302250; omega)⟩) hS (fun H locs hP hS => ?_)
  refine lv_aload_n hx hb dL_law_192 rfl (lv_at hl 2 rfl) ?_
  refine lv_aload_n hx hb dL_law_193 rfl (lv_at hl 0 rfl) ?_
  refine lv_iload_n hx hb dL_law_194 rfl (lv_at hl 3 rfl) ?_
  refine lv_iconst (v := 1) hx hb dL_law_195 (by decide) ?_
  refine lv_iadd hx hb dL_law_196 ?_
  refine xs_ld hx hb hX hbl hbA hS hF dL_law_197 (fun v8 hF => ?_)
  refine lv_aload_n hx hb dL_law_198 rfl (lv_at hl 0 rfl) ?_
  refine lv_iload_n hx hb dL_law_199 rfl (lv_at hl 3 rfl) ?_
  refine lv_iconst (v := 2) hx hb dL_law_200 (by decide) ?_
  refine lv_iadd hx hb dL_law_201 ?_
  refine xs_ld hx hb hX hbl hbA hS hF dL_law_202 (fun v9 hF => ?_)
  refine lv_aload_n hx hb dL_law_203 rfl (lv_at hl 0 rfl) ?_
  refine lv_iload_n hx hb dL_law_204 rfl (lv_at hl 3 rfl) ?_
  refine lv_iconst (v := 3) hx hb dL_law_205 (by decide) ?_
  refine lv_iadd hx hb dL_law_206 ?_
  refine xs_ld hx hb hX hbl hbA hS hF dL_law_207 (fun v10 hF => ?_)
  refine lv_aload_n hx hb dL_law_208 rfl (lv_at hl 0 rfl) ?_
  refine lv_iload_n hx hb dL_law_209 rfl (lv_at hl 3 rfl) ?_
  refine lv_iconst (v := 4) hx hb dL_law_210 (by decide) ?_
  refine lv_iadd hx hb dL_law_211 ?_
  refine xs_ld hx hb hX hbl hbA hS hF dL_law_212 (fun v11 hF => ?_)
  obtain ⟨M13, v14, h12, hF⟩ := ob2_some hF
  refine xr_call1 (va_runV (As := [.int v8, .int v9, .int v10, .int v11]) (rest := [.int v7]) ⟨hx, hb, hml, hown, hts⟩ (ct_X11_field l s.heap.size D cy M6 x2 v8 v9 v10 v11 M13 v14 h12) (cwV 4 hts gL_law_X11_field rfl rfl rfl (by decide +kernel) ⟨Nat.le_of_ble_eq_true rfl, Nat.le_of_ble_eq_true rfl⟩) (xp_V hP hK hN hS hb0 11 rfl (gk_X11_field h12)) rfl rfl hl.1 rfl (lv_room (Nat.le_of_ble_eq_true rfl)) dL_law_213 ⟨(by show cells + 0 + 0 ≤ 600000; omega), (by show slots + 0 + 0 ≤ 7302250; omega)⟩) hS (fun H locs hP hS => ?_)
  refine lv_icmp_eq (tgt := 1179) hx hb dL_law_216 (by decide) (fun c15 => ?_) (fun c15 => ?_)
  · replace hF := it_t hF c15
    refine lv_iinc (v := x3 + 6) (lv' := [(3, .int (x3 + 6)), (0, .ref b), (1, .ref x1), (2, .ref x2)]) hx hb dL_law_1179 hl (k := 3) rfl (by rfl) (by decide) rfl (fun ls hl => ?_)
    refine lv_goto (tgt := 28) hx hb dL_law_1182 (by decide) ?_
    refine W.widen (k := cells + 5) (n := slots + 93) (by omega) (by omega) ?_
    exact hk _ _ _ _ _ _ _ hF hP hS (lv_sub hl [1, 2, 3, 0] rfl)
  · replace hF := it_f hF c15
    refine lv_iconst (v := 0) hx hb dL_law_219 (by decide) ?_
    exact absurd hF (no_01 _ _)
