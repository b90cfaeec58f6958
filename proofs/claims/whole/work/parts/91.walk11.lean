/-! X11_takeFields -/
theorem iw_X11_takeFields_11 : ∀ w ∈ u_ws RX11 TX11 58, w ∈ wsX11_takeFields := by decide +kernel
abbrev rm_X11_takeFields : Room := { frames := 2, cells := 0, slots := 0, locals := 48 }
set_option maxHeartbeats 4000000 in
set_option maxRecDepth 100000 in
theorem nd_X11_takeFields_281 {p : Program} {l : Launch} {e : Env} {s : State} {m : MethodId} {args : Array Value} {below : List Frame} {meth : Method} {c : Code} {b0 : Nat} {D : va_G} {cy : Nat → ClassId} {M1 : Mm} (CX : Cx yX11_takeFields cX11_takeFields 5 none wsX11_takeFields b0 D cy p s m args meth c) : ∀ (M : Mm) (s0 : Nat) (s1 : Int32) (s2 : Int32) (H : Heap) (locs : List Loc) (ls : Array Slot), f_X11_takeFields_J281 M s0 s1 s2 = some M1 → Hp b0 D cy M H → va_S (BA b0) s.heap H locs → lv_has ls 5 [] → W p l e rm_X11_takeFields s m args below meth c H locs 0 0 (MQ below (Qm b0 D cy M1 none) args s 0 0 (BA b0)) (F0 m 281 ls [.int s2, .int s1, .ref s0]) := by
  obtain ⟨hx, hb, hr, hml, hown0, hts, hlk, hK, hN, hb0, hnm⟩ := id CX
  have hown : s.vm.findClass RX11 = some m.cls := hown0
  intro M s0 s1 s2 H locs ls hF hP hS hl
  unfold f_X11_takeFields_J281 at hF
  obtain ⟨M2, h1, hF⟩ := ob_some hF
  refine xr_call0 (va_runV (As := [.int s1, .int s2]) (rest := []) ⟨hx, hb, hml, hown, hts⟩ (ct_X11_takeEnd l b0 D cy M s0 s1 s2 M2 h1) (cwV 2 hts gX11_takeFields_X11_takeEnd rfl rfl rfl (by decide +kernel) ⟨Nat.le_of_ble_eq_true rfl, Nat.le_of_ble_eq_true rfl⟩) (xp_V hP hK hN hS hb0 11 rfl (gk_X11_takeEnd h1)) rfl rfl hl.1 rfl (lv_room (Nat.le_of_ble_eq_true rfl)) dX11_takeFields_281 ⟨Nat.le_of_ble_eq_true rfl, Nat.le_of_ble_eq_true rfl⟩) hS (fun H locs hP hS => ?_)
  cases hF
  exact W.vret hx hb hr (fun t ht hW => ⟨rfl, by rw [ht]; exact hP, hS.F ht⟩) hS.2.2 dX11_takeFields_284 hlk
set_option maxHeartbeats 4000000 in
set_option maxRecDepth 100000 in
theorem nd_X11_takeFields_267 {p : Program} {l : Launch} {e : Env} {s : State} {m : MethodId} {args : Array Value} {below : List Frame} {meth : Method} {c : Code} {b0 : Nat} {D : va_G} {cy : Nat → ClassId} {M1 : Mm} (CX : Cx yX11_takeFields cX11_takeFields 5 none wsX11_takeFields b0 D cy p s m args meth c) : ∀ (M : Mm) (x0 : Nat) (x1 : Int32) (x2 : Int32) (s0 : Nat) (s1 : Int64) (H : Heap) (locs : List Loc) (ls : Array Slot), f_X11_takeFields_J267 M x0 x1 x2 s0 s1 = some M1 → Hp b0 D cy M H → va_S (BA b0) s.heap H locs → lv_has ls 5 [(0, .ref x0), (1, .int x1), (2, .int x2)] → W p l e rm_X11_takeFields s m args below meth c H locs 0 0 (MQ below (Qm b0 D cy M1 none) args s 0 0 (BA b0)) (F0 m 267 ls [.long s1, .ref s0]) := by
  obtain ⟨hx, hb, hr, hml, hown0, hts, hlk, hK, hN, hb0, hnm⟩ := id CX
  have hown : s.vm.findClass RX11 = some m.cls := hown0
  intro M x0 x1 x2 s0 s1 H locs ls hF hP hS hl
  unfold f_X11_takeFields_J267 at hF
  refine xr_putJ hx hb hts iw_X11_takeFields_11 hown hK hP hS hF 11 51 rfl (by decide) tyX11 tyX11_ok nmX11 (by decide +kernel) (Or.inl rfl) rfl ⟨rfl, rfl, rfl⟩ dX11_takeFields_267 (fun M1 H locs hF hP hS => ?_)
  refine lv_aload_n hx hb dX11_takeFields_270 rfl (lv_at hl 0 rfl) ?_
  refine lv_iload_n hx hb dX11_takeFields_271 rfl (lv_at hl 1 rfl) ?_
  refine lv_iload_n hx hb dX11_takeFields_272 rfl (lv_at hl 2 rfl) ?_
  refine lv_if_ne (tgt := 280) hx hb dX11_takeFields_273 (by decide) (fun c2 => ?_) (fun c2 => ?_)
  · replace hF := it_f hF c2
    refine lv_iconst (v := 0) hx hb dX11_takeFields_280 (by decide) ?_
    exact nd_X11_takeFields_281 CX _ _ _ _ _ _ _ hF hP hS (lv_sub hl [] rfl)
  · replace hF := it_t hF c2
    refine lv_iconst (v := 1) hx hb dX11_takeFields_276 (by decide) ?_
    refine lv_goto (tgt := 281) hx hb dX11_takeFields_277 (by decide) ?_
    exact nd_X11_takeFields_281 CX _ _ _ _ _ _ _ hF hP hS (lv_sub hl [] rfl)
set_option maxHeartbeats 4000000 in
set_option maxRecDepth 100000 in
theorem nd_X11_takeFields_251 {p : Program} {l : Launch} {e : Env} {s : State} {m : MethodId} {args : Array Value} {below : List Frame} {meth : Method} {c : Code} {b0 : Nat} {D : va_G} {cy : Nat → ClassId} {M1 : Mm} (CX : Cx yX11_takeFields cX11_takeFields 5 none wsX11_takeFields b0 D cy p s m args meth c) : ∀ (M : Mm) (x0 : Nat) (x1 : Int32) (x2 : Int32) (H : Heap) (locs : List Loc) (ls : Array Slot), f_X11_takeFields_J251 M x0 x1 x2 = some M1 → Hp b0 D cy M H → va_S (BA b0) s.heap H locs → lv_has ls 5 [(0, .ref x0), (1, .int x1), (2, .int x2)] → W p l e rm_X11_takeFields s m args below meth c H locs 0 0 (MQ below (Qm b0 D cy M1 none) args s 0 0 (BA b0)) (F0 m 251 ls []) := by
  obtain ⟨hx, hb, hr, hml, hown0, hts, hlk, hK, hN, hb0, hnm⟩ := id CX
  have hown : s.vm.findClass RX11 = some m.cls := hown0
  intro M x0 x1 x2 H locs ls hF hP hS hl
  unfold f_X11_takeFields_J251 at hF
  refine lv_aload_n hx hb dX11_takeFields_251 rfl (lv_at hl 0 rfl) ?_
  refine lv_iload_n hx hb dX11_takeFields_252 rfl (lv_at hl 2 rfl) ?_
  refine lv_if_ne (tgt := 260) hx hb dX11_takeFields_253 (by decide) (fun c1 => ?_) (fun c1 => ?_)
  · replace hF := it_f hF c1
    refine lv_aload_n hx hb dX11_takeFields_260 rfl (lv_at hl 0 rfl) ?_
    refine lv_iload_n hx hb dX11_takeFields_261 rfl (lv_at hl 1 rfl) ?_
    refine lv_bipush (v := 8) hx hb dX11_takeFields_262 (by decide) ?_
    obtain ⟨M3, v4, h2, hF⟩ := ob2_some hF
    refine xr_call1 (va_runV (As := [.int x1, .int 8]) (rest := [.ref x0]) ⟨hx, hb, hml, hown, hts⟩ (ct_X11_take l b0 D cy M x0 x1 8 M3 v4 h2) (cwV 2 hts gX11_takeFields_X11_take rfl rfl rfl (by decide +kernel) ⟨Nat.le_of_ble_eq_true rfl, Nat.le_of_ble_eq_true rfl⟩) (xp_V hP hK hN hS hb0 11 rfl (gk_X11_take h2)) rfl rfl hl.1 rfl (lv_room (Nat.le_of_ble_eq_true rfl)) dX11_takeFields_264 ⟨Nat.le_of_ble_eq_true rfl, Nat.le_of_ble_eq_true rfl⟩) hS (fun H locs hP hS => ?_)
    exact nd_X11_takeFields_267 CX _ _ _ _ _ _ _ _ _ hF hP hS (lv_sub hl [0, 1, 2] rfl)
  · replace hF := it_t hF c1
    refine lv_lconst (v := 0) hx hb dX11_takeFields_256 (by decide) ?_
    refine lv_goto (tgt := 267) hx hb dX11_takeFields_257 (by decide) ?_
    exact nd_X11_takeFields_267 CX _ _ _ _ _ _ _ _ _ hF hP hS (lv_sub hl [0, 1, 2] rfl)
set_option maxHeartbeats 4000000 in
set_option maxRecDepth 100000 in
theorem nd_X11_takeFields_245 {p : Program} {l : Launch} {e : Env} {s : State} {m : MethodId} {args : Array Value} {below : List Frame} {meth : Method} {c : Code} {b0 : Nat} {D : va_G} {cy : Nat → ClassId} {M1 : Mm} (CX : Cx yX11_takeFields cX11_takeFields 5 none wsX11_takeFields b0 D cy p s m args meth c) (k13 : Mm → Nat → Int32 → Int32 → Int32 → Option Mm) (hk13 : ∀ (M : Mm) (x0 : Nat) (x1 : Int32) (x2 : Int32) (x3 : Int32) (H : Heap) (locs : List Loc) (ls : Array Slot), k13 M x0 x1 x2 x3 = some M1 → Hp b0 D cy M H → va_S (BA b0) s.heap H locs → lv_has ls 5 [(0, .ref x0), (1, .int x1), (2, .int x2), (3, .int x3)] → W p l e rm_X11_takeFields s m args below meth c H locs 0 0 (MQ below (Qm b0 D cy M1 none) args s 0 0 (BA b0)) (F0 m 13 ls [])) : ∀ (M : Mm) (x0 : Nat) (x1 : Int32) (x2 : Int32) (x3 : Int32) (H : Heap) (locs : List Loc) (ls : Array Slot), f_X11_takeFields_J245 k13 M x0 x1 x2 x3 = some M1 → Hp b0 D cy M H → va_S (BA b0) s.heap H locs → lv_has ls 5 [(0, .ref x0), (1, .int x1), (2, .int x2), (3, .int x3)] → W p l e rm_X11_takeFields s m args below meth c H locs 0 0 (MQ below (Qm b0 D cy M1 none) args s 0 0 (BA b0)) (F0 m 245 ls []) := by
  obtain ⟨hx, hb, hr, hml, hown0, hts, hlk, hK, hN, hb0, hnm⟩ := id CX
  have hown : s.vm.findClass RX11 = some m.cls := hown0
  intro M x0 x1 x2 x3 H locs ls hF hP hS hl
  unfold f_X11_takeFields_J245 at hF
  refine lv_iinc (v := x3 + 1) (lv' := [(3, .int (x3 + 1)), (0, .ref x0), (1, .int x1), (2, .int x2)]) hx hb dX11_takeFields_245 hl (k := 3) rfl (by rfl) (by decide) rfl (fun ls hl => ?_)
  refine lv_goto (tgt := 13) hx hb dX11_takeFields_248 (by decide) ?_
  exact hk13 _ _ _ _ _ _ _ _ hF hP hS (lv_sub hl [1, 2, 3, 0] rfl)
set_option maxHeartbeats 4000000 in
set_option maxRecDepth 100000 in
theorem nd_X11_takeFields_219 {p : Program} {l : Launch} {e : Env} {s : State} {m : MethodId} {args : Array Value} {below : List Frame} {meth : Method} {c : Code} {b0 : Nat} {D : va_G} {cy : Nat → ClassId} {M1 : Mm} (CX : Cx yX11_takeFields cX11_takeFields 5 none wsX11_takeFields b0 D cy p s m args meth c) (k13 : Mm → Nat → Int32 → Int32 → Int32 → Option Mm) (hk13 : ∀ (M : Mm) (x0 : Nat) (x1 : Int32) (x2 : Int32) (x3 : Int32) (H : Heap) (locs : List Loc) (ls : Array Slot), k13 M x0 x1 x2 x3 = some M1 → Hp b0 D cy M H → va_S (BA b0) s.heap H locs → lv_has ls 5 [(0, .ref x0), (1, .int x1), (2, .int x2), (3, .int x3)] → W p l e rm_X11_takeFields s m args below meth c H locs 0 0 (MQ below (Qm b0 D cy M1 none) args s 0 0 (BA b0)) (F0 m 13 ls [])) : ∀ (M : Mm) (x0 : Nat) (x1 : Int32) (x2 : Int32) (x3 : Int32) (H : Heap) (locs : List Loc) (ls : Array Slot), f_X11_takeFields_J219 k13 M x0 x1 x2 x3 = some M1 → Hp b0 D cy M H → va_S (BA b0) s.heap H locs → lv_has ls 5 [(0, .ref x0), (1, .int x1), (2, .int x2), (3, .int x3)] → W p l e rm_X11_takeFields s m args below meth c H locs 0 0 (MQ below (Qm b0 D cy M1 none) args s 0 0 (BA b0)) (F0 m 219 ls []) := by
  obtain ⟨hx, hb, hr, hml, hown0, hts, hlk, hK, hN, hb0, hnm⟩ := id CX
  have hown : s.vm.findClass RX11 = some m.cls := hown0
  intro M x0 x1 x2 x3 H locs ls hF hP hS hl
  unfold f_X11_takeFields_J219 at hF
  refine lv_iload_n hx hb dX11_takeFields_219 rfl (lv_at hl 2 rfl) ?_
  refine lv_if_ne (tgt := 245) hx hb dX11_takeFields_220 (by decide) (fun c1 => ?_) (fun c1 => ?_)
  · replace hF := it_f hF c1
    exact nd_X11_takeFields_245 CX k13 hk13 _ _ _ _ _ _ _ _ hF hP hS (lv_sub hl [0, 1, 2, 3] rfl)
  · replace hF := it_t hF c1
    refine lv_aload_n hx hb dX11_takeFields_223 rfl (lv_at hl 0 rfl) ?_
    refine lv_iload_n hx hb dX11_takeFields_224 rfl (lv_at hl 3 rfl) ?_
    obtain ⟨v3, h2, hF⟩ := ob_some hF
    refine xr_call1 (va_runV (As := [.int x3]) (rest := []) ⟨hx, hb, hml, hown, hts⟩ (ct_X11_runs l b0 D cy M x0 x3 v3 h2) (cwV 1 hts gX11_takeFields_X11_runs rfl rfl rfl (by decide +kernel) ⟨Nat.le_of_ble_eq_true rfl, Nat.le_of_ble_eq_true rfl⟩) (xp_V hP hK hN hS hb0 11 rfl (gk_X11_runs h2)) rfl rfl hl.1 rfl (lv_room (Nat.le_of_ble_eq_true rfl)) dX11_takeFields_225 ⟨Nat.le_of_ble_eq_true rfl, Nat.le_of_ble_eq_true rfl⟩) hS (fun H locs hP hS => ?_)
    refine lv_if_eq (tgt := 245) hx hb dX11_takeFields_228 (by decide) (fun c4 => ?_) (fun c4 => ?_)
    · replace hF := it_t hF c4
      exact nd_X11_takeFields_245 CX k13 hk13 _ _ _ _ _ _ _ _ hF hP hS (lv_sub hl [0, 1, 2, 3] rfl)
    · replace hF := it_f hF c4
      refine lv_aload_n hx hb dX11_takeFields_231 rfl (lv_at hl 0 rfl) ?_
      refine xr_getR hx hb hts iw_X11_takeFields_11 hown hK hP hF 11 49 rfl (by decide) (by decide +kernel) ⟨rfl, rfl, rfl⟩ dX11_takeFields_232 (fun v5 hF => ?_)
      refine lv_iload_n hx hb dX11_takeFields_235 rfl (lv_at hl 3 rfl) ?_
      refine lv_aload_n hx hb dX11_takeFields_236 rfl (lv_at hl 0 rfl) ?_
      refine lv_iload_n hx hb dX11_takeFields_237 rfl (lv_at hl 1 rfl) ?_
      refine lv_bipush (v := 8) hx hb dX11_takeFields_238 (by decide) ?_
      obtain ⟨M7, v8, h6, hF⟩ := ob2_some hF
      refine xr_call1 (va_runV (As := [.int x1, .int 8]) (rest := [.int x3, .ref v5]) ⟨hx, hb, hml, hown, hts⟩ (ct_X11_take l b0 D cy M x0 x1 8 M7 v8 h6) (cwV 2 hts gX11_takeFields_X11_take rfl rfl rfl (by decide +kernel) ⟨Nat.le_of_ble_eq_true rfl, Nat.le_of_ble_eq_true rfl⟩) (xp_V hP hK hN hS hb0 11 rfl (gk_X11_take h6)) rfl rfl hl.1 rfl (lv_room (Nat.le_of_ble_eq_true rfl)) dX11_takeFields_240 ⟨Nat.le_of_ble_eq_true rfl, Nat.le_of_ble_eq_true rfl⟩) hS (fun H locs hP hS => ?_)
      refine lv_l2i hx hb dX11_takeFields_243 rfl ?_
      refine xr_wI hx hb hK hP hS hF dX11_takeFields_244 (fun M9 H locs hF hP hS => ?_)
      exact nd_X11_takeFields_245 CX k13 hk13 _ _ _ _ _ _ _ _ hF hP hS (lv_sub hl [0, 1, 2, 3] rfl)
set_option maxHeartbeats 4000000 in
set_option maxRecDepth 100000 in
theorem nd_X11_takeFields_215 {p : Program} {l : Launch} {e : Env} {s : State} {m : MethodId} {args : Array Value} {below : List Frame} {meth : Method} {c : Code} {b0 : Nat} {D : va_G} {cy : Nat → ClassId} {M1 : Mm} (CX : Cx yX11_takeFields cX11_takeFields 5 none wsX11_takeFields b0 D cy p s m args meth c) (k13 : Mm → Nat → Int32 → Int32 → Int32 → Option Mm) (hk13 : ∀ (M : Mm) (x0 : Nat) (x1 : Int32) (x2 : Int32) (x3 : Int32) (H : Heap) (locs : List Loc) (ls : Array Slot), k13 M x0 x1 x2 x3 = some M1 → Hp b0 D cy M H → va_S (BA b0) s.heap H locs → lv_has ls 5 [(0, .ref x0), (1, .int x1), (2, .int x2), (3, .int x3)] → W p l e rm_X11_takeFields s m args below meth c H locs 0 0 (MQ below (Qm b0 D cy M1 none) args s 0 0 (BA b0)) (F0 m 13 ls [])) : ∀ (M : Mm) (x0 : Nat) (x1 : Int32) (x2 : Int32) (x3 : Int32) (s0 : Nat) (s1 : Int32) (s2 : Nat) (s3 : Int32) (s4 : Int32) (H : Heap) (locs : List Loc) (ls : Array Slot), f_X11_takeFields_J215 k13 M x0 x1 x2 x3 s0 s1 s2 s3 s4 = some M1 → Hp b0 D cy M H → va_S (BA b0) s.heap H locs → lv_has ls 5 [(0, .ref x0), (1, .int x1), (2, .int x2), (3, .int x3)] → W p l e rm_X11_takeFields s m args below meth c H locs 0 0 (MQ below (Qm b0 D cy M1 none) args s 0 0 (BA b0)) (F0 m 215 ls [.int s4, .int s3, .ref s2, .int s1, .ref s0]) := by
  obtain ⟨hx, hb, hr, hml, hown0, hts, hlk, hK, hN, hb0, hnm⟩ := id CX
  have hown : s.vm.findClass RX11 = some m.cls := hown0
  intro M x0 x1 x2 x3 s0 s1 s2 s3 s4 H locs ls hF hP hS hl
  unfold f_X11_takeFields_J215 at hF
  obtain ⟨M2, v3, h1, hF⟩ := ob2_some hF
  refine xr_call1 (va_runV (As := [.int s3, .int s4]) (rest := [.int s1, .ref s0]) ⟨hx, hb, hml, hown, hts⟩ (ct_X11_take l b0 D cy M s2 s3 s4 M2 v3 h1) (cwV 2 hts gX11_takeFields_X11_take rfl rfl rfl (by decide +kernel) ⟨Nat.le_of_ble_eq_true rfl, Nat.le_of_ble_eq_true rfl⟩) (xp_V hP hK hN hS hb0 11 rfl (gk_X11_take h1)) rfl rfl hl.1 rfl (lv_room (Nat.le_of_ble_eq_true rfl)) dX11_takeFields_215 ⟨Nat.le_of_ble_eq_true rfl, Nat.le_of_ble_eq_true rfl⟩) hS (fun H locs hP hS => ?_)
  refine xr_wJ hx hb hK hP hS hF dX11_takeFields_218 (fun M4 H locs hF hP hS => ?_)
  exact nd_X11_takeFields_219 CX k13 hk13 _ _ _ _ _ _ _ _ hF hP hS (lv_sub hl [0, 1, 2, 3] rfl)
set_option maxHeartbeats 4000000 in
set_option maxRecDepth 100000 in
theorem nd_X11_takeFields_167 {p : Program} {l : Launch} {e : Env} {s : State} {m : MethodId} {args : Array Value} {below : List Frame} {meth : Method} {c : Code} {b0 : Nat} {D : va_G} {cy : Nat → ClassId} {M1 : Mm} (CX : Cx yX11_takeFields cX11_takeFields 5 none wsX11_takeFields b0 D cy p s m args meth c) (k13 : Mm → Nat → Int32 → Int32 → Int32 → Option Mm) (hk13 : ∀ (M : Mm) (x0 : Nat) (x1 : Int32) (x2 : Int32) (x3 : Int32) (H : Heap) (locs : List Loc) (ls : Array Slot), k13 M x0 x1 x2 x3 = some M1 → Hp b0 D cy M H → va_S (BA b0) s.heap H locs → lv_has ls 5 [(0, .ref x0), (1, .int x1), (2, .int x2), (3, .int x3)] → W p l e rm_X11_takeFields s m args below meth c H locs 0 0 (MQ below (Qm b0 D cy M1 none) args s 0 0 (BA b0)) (F0 m 13 ls [])) : ∀ (M : Mm) (x0 : Nat) (x1 : Int32) (x2 : Int32) (x3 : Int32) (H : Heap) (locs : List Loc) (ls : Array Slot), f_X11_takeFields_J167 k13 M x0 x1 x2 x3 = some M1 → Hp b0 D cy M H → va_S (BA b0) s.heap H locs → lv_has ls 5 [(0, .ref x0), (1, .int x1), (2, .int x2), (3, .int x3)] → W p l e rm_X11_takeFields s m args below meth c H locs 0 0 (MQ below (Qm b0 D cy M1 none) args s 0 0 (BA b0)) (F0 m 167 ls []) := by
  obtain ⟨hx, hb, hr, hml, hown0, hts, hlk, hK, hN, hb0, hnm⟩ := id CX
  have hown : s.vm.findClass RX11 = some m.cls := hown0
  intro M x0 x1 x2 x3 H locs ls hF hP hS hl
  unfold f_X11_takeFields_J167 at hF
  refine lv_aload_n hx hb dX11_takeFields_167 rfl (lv_at hl 0 rfl) ?_
  refine xr_getR hx hb hts iw_X11_takeFields_11 hown hK hP hF 11 46 rfl (by decide) (by decide +kernel) ⟨rfl, rfl, rfl⟩ dX11_takeFields_168 (fun v1 hF => ?_)
  refine lv_iload_n hx hb dX11_takeFields_171 rfl (lv_at hl 3 rfl) ?_
  refine xr_aI hx hb hK hP hF dX11_takeFields_172 (fun v2 hF => ?_)
  refine lv_if_le (tgt := 219) hx hb dX11_takeFields_173 (by decide) (fun c3 => ?_) (fun c3 => ?_)
  · replace hF := it_t hF c3
    exact nd_X11_takeFields_219 CX k13 hk13 _ _ _ _ _ _ _ _ hF hP hS (lv_sub hl [0, 1, 2, 3] rfl)
  · replace hF := it_f hF c3
    refine lv_aload_n hx hb dX11_takeFields_176 rfl (lv_at hl 0 rfl) ?_
    refine xr_getI hx hb hts iw_X11_takeFields_11 hown hK hP hF 11 45 rfl (by decide) (by decide +kernel) ⟨rfl, rfl, rfl⟩ dX11_takeFields_177 (fun v4 hF => ?_)
    refine lv_if_ne (tgt := 219) hx hb dX11_takeFields_180 (by decide) (fun c5 => ?_) (fun c5 => ?_)
    · replace hF := it_f hF c5
      exact nd_X11_takeFields_219 CX k13 hk13 _ _ _ _ _ _ _ _ hF hP hS (lv_sub hl [0, 1, 2, 3] rfl)
    · replace hF := it_t hF c5
      refine lv_aload_n hx hb dX11_takeFields_183 rfl (lv_at hl 0 rfl) ?_
      refine xr_getR hx hb hts iw_X11_takeFields_11 hown hK hP hF 11 48 rfl (by decide) (by decide +kernel) ⟨rfl, rfl, rfl⟩ dX11_takeFields_184 (fun v6 hF => ?_)
      refine lv_iload_n hx hb dX11_takeFields_187 rfl (lv_at hl 3 rfl) ?_
      refine lv_aload_n hx hb dX11_takeFields_188 rfl (lv_at hl 0 rfl) ?_
      refine lv_iload_n hx hb dX11_takeFields_189 rfl (lv_at hl 1 rfl) ?_
      refine lv_aload_n hx hb dX11_takeFields_190 rfl (lv_at hl 0 rfl) ?_
      refine xr_getR hx hb hts iw_X11_takeFields_11 hown hK hP hF 11 46 rfl (by decide) (by decide +kernel) ⟨rfl, rfl, rfl⟩ dX11_takeFields_191 (fun v7 hF => ?_)
      refine lv_iload_n hx hb dX11_takeFields_194 rfl (lv_at hl 3 rfl) ?_
      refine xr_aI hx hb hK hP hF dX11_takeFields_195 (fun v8 hF => ?_)
      refine lv_iconst (v := 2) hx hb dX11_takeFields_196 (by decide) ?_
      refine lv_icmp_ne (tgt := 209) hx hb dX11_takeFields_197 (by decide) (fun c9 => ?_) (fun c9 => ?_)
      · replace hF := it_f hF c9
        refine lv_aload_n hx hb dX11_takeFields_209 rfl (lv_at hl 0 rfl) ?_
        refine xr_getR hx hb hts iw_X11_takeFields_11 hown hK hP hF 11 47 rfl (by decide) (by decide +kernel) ⟨rfl, rfl, rfl⟩ dX11_takeFields_210 (fun v10 hF => ?_)
        refine lv_iload_n hx hb dX11_takeFields_213 rfl (lv_at hl 3 rfl) ?_
        refine xr_aI hx hb hK hP hF dX11_takeFields_214 (fun v11 hF => ?_)
        exact nd_X11_takeFields_215 CX k13 hk13 _ _ _ _ _ _ _ _ _ _ _ _ _ hF hP hS (lv_sub hl [0, 1, 2, 3] rfl)
      · replace hF := it_t hF c9
        refine lv_aload_n hx hb dX11_takeFields_200 rfl (lv_at hl 0 rfl) ?_
        refine xr_getR hx hb hts iw_X11_takeFields_11 hown hK hP hF 11 3 rfl (by decide) (by decide +kernel) ⟨rfl, rfl, rfl⟩ dX11_takeFields_201 (fun v12 hF => ?_)
        refine lv_iload_n hx hb dX11_takeFields_204 rfl (lv_at hl 3 rfl) ?_
        refine xr_aI hx hb hK hP hF dX11_takeFields_205 (fun v13 hF => ?_)
        refine lv_goto (tgt := 215) hx hb dX11_takeFields_206 (by decide) ?_
        exact nd_X11_takeFields_215 CX k13 hk13 _ _ _ _ _ _ _ _ _ _ _ _ _ hF hP hS (lv_sub hl [0, 1, 2, 3] rfl)
set_option maxHeartbeats 4000000 in
set_option maxRecDepth 100000 in
theorem nd_X11_takeFields_164 {p : Program} {l : Launch} {e : Env} {s : State} {m : MethodId} {args : Array Value} {below : List Frame} {meth : Method} {c : Code} {b0 : Nat} {D : va_G} {cy : Nat → ClassId} {M1 : Mm} (CX : Cx yX11_takeFields cX11_takeFields 5 none wsX11_takeFields b0 D cy p s m args meth c) (k13 : Mm → Nat → Int32 → Int32 → Int32 → Option Mm) (hk13 : ∀ (M : Mm) (x0 : Nat) (x1 : Int32) (x2 : Int32) (x3 : Int32) (H : Heap) (locs : List Loc) (ls : Array Slot), k13 M x0 x1 x2 x3 = some M1 → Hp b0 D cy M H → va_S (BA b0) s.heap H locs → lv_has ls 5 [(0, .ref x0), (1, .int x1), (2, .int x2), (3, .int x3)] → W p l e rm_X11_takeFields s m args below meth c H locs 0 0 (MQ below (Qm b0 D cy M1 none) args s 0 0 (BA b0)) (F0 m 13 ls [])) : ∀ (M : Mm) (x0 : Nat) (x1 : Int32) (x2 : Int32) (x3 : Int32) (s0 : Nat) (s1 : Int32) (H : Heap) (locs : List Loc) (ls : Array Slot), f_X11_takeFields_J164 k13 M x0 x1 x2 x3 s0 s1 = some M1 → Hp b0 D cy M H → va_S (BA b0) s.heap H locs → lv_has ls 5 [(0, .ref x0), (1, .int x1), (2, .int x2), (3, .int x3)] → W p l e rm_X11_takeFields s m args below meth c H locs 0 0 (MQ below (Qm b0 D cy M1 none) args s 0 0 (BA b0)) (F0 m 164 ls [.int s1, .ref s0]) := by
  obtain ⟨hx, hb, hr, hml, hown0, hts, hlk, hK, hN, hb0, hnm⟩ := id CX
  have hown : s.vm.findClass RX11 = some m.cls := hown0
  intro M x0 x1 x2 x3 s0 s1 H locs ls hF hP hS hl
  unfold f_X11_takeFields_J164 at hF
  refine xr_putZ hx hb hts iw_X11_takeFields_11 hown hK hP hS hF 11 45 rfl (by decide) tyX11 tyX11_ok nmX11 (by decide +kernel) (Or.inl rfl) rfl ⟨rfl, rfl, rfl⟩ dX11_takeFields_164 (fun M1 H locs hF hP hS => ?_)
  exact nd_X11_takeFields_167 CX k13 hk13 _ _ _ _ _ _ _ _ hF hP hS (lv_sub hl [0, 1, 2, 3] rfl)
set_option maxHeartbeats 4000000 in
set_option maxRecDepth 100000 in
theorem nd_X11_takeFields_159 {p : Program} {l : Launch} {e : Env} {s : State} {m : MethodId} {args : Array Value} {below : List Frame} {meth : Method} {c : Code} {b0 : Nat} {D : va_G} {cy : Nat → ClassId} {M1 : Mm} (CX : Cx yX11_takeFields cX11_takeFields 5 none wsX11_takeFields b0 D cy p s m args meth c) (k13 : Mm → Nat → Int32 → Int32 → Int32 → Option Mm) (hk13 : ∀ (M : Mm) (x0 : Nat) (x1 : Int32) (x2 : Int32) (x3 : Int32) (H : Heap) (locs : List Loc) (ls : Array Slot), k13 M x0 x1 x2 x3 = some M1 → Hp b0 D cy M H → va_S (BA b0) s.heap H locs → lv_has ls 5 [(0, .ref x0), (1, .int x1), (2, .int x2), (3, .int x3)] → W p l e rm_X11_takeFields s m args below meth c H locs 0 0 (MQ below (Qm b0 D cy M1 none) args s 0 0 (BA b0)) (F0 m 13 ls [])) : ∀ (M : Mm) (x0 : Nat) (x1 : Int32) (x2 : Int32) (x3 : Int32) (s0 : Nat) (H : Heap) (locs : List Loc) (ls : Array Slot), f_X11_takeFields_J159 k13 M x0 x1 x2 x3 s0 = some M1 → Hp b0 D cy M H → va_S (BA b0) s.heap H locs → lv_has ls 5 [(0, .ref x0), (1, .int x1), (2, .int x2), (3, .int x3)] → W p l e rm_X11_takeFields s m args below meth c H locs 0 0 (MQ below (Qm b0 D cy M1 none) args s 0 0 (BA b0)) (F0 m 159 ls [.ref s0]) := by
  obtain ⟨hx, hb, hr, hml, hown0, hts, hlk, hK, hN, hb0, hnm⟩ := id CX
  have hown : s.vm.findClass RX11 = some m.cls := hown0
  intro M x0 x1 x2 x3 s0 H locs ls hF hP hS hl
  unfold f_X11_takeFields_J159 at hF
  refine lv_iconst (v := 1) hx hb dX11_takeFields_159 (by decide) ?_
  refine lv_goto (tgt := 164) hx hb dX11_takeFields_160 (by decide) ?_
  exact nd_X11_takeFields_164 CX k13 hk13 _ _ _ _ _ _ _ _ _ _ hF hP hS (lv_sub hl [0, 1, 2, 3] rfl)
set_option maxHeartbeats 4000000 in
set_option maxRecDepth 100000 in
theorem nd_X11_takeFields_111 {p : Program} {l : Launch} {e : Env} {s : State} {m : MethodId} {args : Array Value} {below : List Frame} {meth : Method} {c : Code} {b0 : Nat} {D : va_G} {cy : Nat → ClassId} {M1 : Mm} (CX : Cx yX11_takeFields cX11_takeFields 5 none wsX11_takeFields b0 D cy p s m args meth c) (k13 : Mm → Nat → Int32 → Int32 → Int32 → Option Mm) (hk13 : ∀ (M : Mm) (x0 : Nat) (x1 : Int32) (x2 : Int32) (x3 : Int32) (H : Heap) (locs : List Loc) (ls : Array Slot), k13 M x0 x1 x2 x3 = some M1 → Hp b0 D cy M H → va_S (BA b0) s.heap H locs → lv_has ls 5 [(0, .ref x0), (1, .int x1), (2, .int x2), (3, .int x3)] → W p l e rm_X11_takeFields s m args below meth c H locs 0 0 (MQ below (Qm b0 D cy M1 none) args s 0 0 (BA b0)) (F0 m 13 ls [])) : ∀ (M : Mm) (x0 : Nat) (x1 : Int32) (x2 : Int32) (x3 : Int32) (s0 : Nat) (s1 : Int32) (s2 : Int32) (H : Heap) (locs : List Loc) (ls : Array Slot), f_X11_takeFields_J111 k13 M x0 x1 x2 x3 s0 s1 s2 = some M1 → Hp b0 D cy M H → va_S (BA b0) s.heap H locs → lv_has ls 5 [(0, .ref x0), (1, .int x1), (2, .int x2), (3, .int x3)] → W p l e rm_X11_takeFields s m args below meth c H locs 0 0 (MQ below (Qm b0 D cy M1 none) args s 0 0 (BA b0)) (F0 m 111 ls [.int s2, .int s1, .ref s0]) := by
  obtain ⟨hx, hb, hr, hml, hown0, hts, hlk, hK, hN, hb0, hnm⟩ := id CX
  have hown : s.vm.findClass RX11 = some m.cls := hown0
  intro M x0 x1 x2 x3 s0 s1 s2 H locs ls hF hP hS hl
  unfold f_X11_takeFields_J111 at hF
  refine xr_wI hx hb hK hP hS hF dX11_takeFields_111 (fun M1 H locs hF hP hS => ?_)
  refine lv_aload_n hx hb dX11_takeFields_112 rfl (lv_at hl 0 rfl) ?_
  refine xr_getR hx hb hts iw_X11_takeFields_11 hown hK hP hF 11 46 rfl (by decide) (by decide +kernel) ⟨rfl, rfl, rfl⟩ dX11_takeFields_113 (fun v2 hF => ?_)
  refine lv_iload_n hx hb dX11_takeFields_116 rfl (lv_at hl 3 rfl) ?_
  refine xr_aI hx hb hK hP hF dX11_takeFields_117 (fun v3 hF => ?_)
  refine lv_iconst (v := 1) hx hb dX11_takeFields_118 (by decide) ?_
  refine lv_icmp_ne (tgt := 167) hx hb dX11_takeFields_119 (by decide) (fun c4 => ?_) (fun c4 => ?_)
  · replace hF := it_f hF c4
    exact nd_X11_takeFields_167 CX k13 hk13 _ _ _ _ _ _ _ _ hF hP hS (lv_sub hl [0, 1, 2, 3] rfl)
  · replace hF := it_t hF c4
    refine lv_aload_n hx hb dX11_takeFields_122 rfl (lv_at hl 0 rfl) ?_
    refine xr_getR hx hb hts iw_X11_takeFields_11 hown hK hP hF 11 47 rfl (by decide) (by decide +kernel) ⟨rfl, rfl, rfl⟩ dX11_takeFields_123 (fun v5 hF => ?_)
    refine lv_iload_n hx hb dX11_takeFields_126 rfl (lv_at hl 3 rfl) ?_
    refine lv_aload_n hx hb dX11_takeFields_127 rfl (lv_at hl 0 rfl) ?_
    refine lv_iload_n hx hb dX11_takeFields_128 rfl (lv_at hl 1 rfl) ?_
    refine lv_bipush (v := 6) hx hb dX11_takeFields_129 (by decide) ?_
    obtain ⟨M7, v8, h6, hF⟩ := ob2_some hF
    refine xr_call1 (va_runV (As := [.int x1, .int 6]) (rest := [.int x3, .ref v5]) ⟨hx, hb, hml, hown, hts⟩ (ct_X11_take l b0 D cy M1 x0 x1 6 M7 v8 h6) (cwV 2 hts gX11_takeFields_X11_take rfl rfl rfl (by decide +kernel) ⟨Nat.le_of_ble_eq_true rfl, Nat.le_of_ble_eq_true rfl⟩) (xp_V hP hK hN hS hb0 11 rfl (gk_X11_take h6)) rfl rfl hl.1 rfl (lv_room (Nat.le_of_ble_eq_true rfl)) dX11_takeFields_131 ⟨Nat.le_of_ble_eq_true rfl, Nat.le_of_ble_eq_true rfl⟩) hS (fun H locs hP hS => ?_)
    refine lv_l2i hx hb dX11_takeFields_134 rfl ?_
    refine xr_wI hx hb hK hP hS hF dX11_takeFields_135 (fun M9 H locs hF hP hS => ?_)
    refine lv_aload_n hx hb dX11_takeFields_136 rfl (lv_at hl 0 rfl) ?_
    refine lv_aload_n hx hb dX11_takeFields_137 rfl (lv_at hl 0 rfl) ?_
    refine xr_getI hx hb hts iw_X11_takeFields_11 hown hK hP hF 11 45 rfl (by decide) (by decide +kernel) ⟨rfl, rfl, rfl⟩ dX11_takeFields_138 (fun v10 hF => ?_)
    refine lv_if_ne (tgt := 159) hx hb dX11_takeFields_141 (by decide) (fun c11 => ?_) (fun c11 => ?_)
    · replace hF := it_f hF c11
      exact nd_X11_takeFields_159 CX k13 hk13 _ _ _ _ _ _ _ _ _ hF hP hS (lv_sub hl [0, 1, 2, 3] rfl)
    · replace hF := it_t hF c11
      refine lv_aload_n hx hb dX11_takeFields_144 rfl (lv_at hl 0 rfl) ?_
      refine xr_getR hx hb hts iw_X11_takeFields_11 hown hK hP hF 11 47 rfl (by decide) (by decide +kernel) ⟨rfl, rfl, rfl⟩ dX11_takeFields_145 (fun v12 hF => ?_)
      refine lv_iload_n hx hb dX11_takeFields_148 rfl (lv_at hl 3 rfl) ?_
      refine xr_aI hx hb hK hP hF dX11_takeFields_149 (fun v13 hF => ?_)
      refine lv_aload_n hx hb dX11_takeFields_150 rfl (lv_at hl 0 rfl) ?_
      refine xr_getR hx hb hts iw_X11_takeFields_11 hown hK hP hF 11 3 rfl (by decide) (by decide +kernel) ⟨rfl, rfl, rfl⟩ dX11_takeFields_151 (fun v14 hF => ?_)
      refine lv_iload_n hx hb dX11_takeFields_154 rfl (lv_at hl 3 rfl) ?_
      refine xr_aI hx hb hK hP hF dX11_takeFields_155 (fun v15 hF => ?_)
      refine lv_icmp_le (tgt := 163) hx hb dX11_takeFields_156 (by decide) (fun c16 => ?_) (fun c16 => ?_)
      · replace hF := it_t hF c16
        refine lv_iconst (v := 0) hx hb dX11_takeFields_163 (by decide) ?_
        exact nd_X11_takeFields_164 CX k13 hk13 _ _ _ _ _ _ _ _ _ _ hF hP hS (lv_sub hl [0, 1, 2, 3] rfl)
      · replace hF := it_f hF c16
        exact nd_X11_takeFields_159 CX k13 hk13 _ _ _ _ _ _ _ _ _ hF hP hS (lv_sub hl [0, 1, 2, 3] rfl)
set_option maxHeartbeats 4000000 in
set_option maxRecDepth 100000 in
theorem nd_X11_takeFields_110 {p : Program} {l : Launch} {e : Env} {s : State} {m : MethodId} {args : Array Value} {below : List Frame} {meth : Method} {c : Code} {b0 : Nat} {D : va_G} {cy : Nat → ClassId} {M1 : Mm} (CX : Cx yX11_takeFields cX11_takeFields 5 none wsX11_takeFields b0 D cy p s m args meth c) (k13 : Mm → Nat → Int32 → Int32 → Int32 → Option Mm) (hk13 : ∀ (M : Mm) (x0 : Nat) (x1 : Int32) (x2 : Int32) (x3 : Int32) (H : Heap) (locs : List Loc) (ls : Array Slot), k13 M x0 x1 x2 x3 = some M1 → Hp b0 D cy M H → va_S (BA b0) s.heap H locs → lv_has ls 5 [(0, .ref x0), (1, .int x1), (2, .int x2), (3, .int x3)] → W p l e rm_X11_takeFields s m args below meth c H locs 0 0 (MQ below (Qm b0 D cy M1 none) args s 0 0 (BA b0)) (F0 m 13 ls [])) : ∀ (M : Mm) (x0 : Nat) (x1 : Int32) (x2 : Int32) (x3 : Int32) (s0 : Nat) (s1 : Int32) (H : Heap) (locs : List Loc) (ls : Array Slot), f_X11_takeFields_J110 k13 M x0 x1 x2 x3 s0 s1 = some M1 → Hp b0 D cy M H → va_S (BA b0) s.heap H locs → lv_has ls 5 [(0, .ref x0), (1, .int x1), (2, .int x2), (3, .int x3)] → W p l e rm_X11_takeFields s m args below meth c H locs 0 0 (MQ below (Qm b0 D cy M1 none) args s 0 0 (BA b0)) (F0 m 110 ls [.int s1, .ref s0]) := by
  obtain ⟨hx, hb, hr, hml, hown0, hts, hlk, hK, hN, hb0, hnm⟩ := id CX
  have hown : s.vm.findClass RX11 = some m.cls := hown0
  intro M x0 x1 x2 x3 s0 s1 H locs ls hF hP hS hl
  unfold f_X11_takeFields_J110 at hF
  refine lv_iconst (v := 0) hx hb dX11_takeFields_110 (by decide) ?_
  exact nd_X11_takeFields_111 CX k13 hk13 _ _ _ _ _ _ _ _ _ _ _ hF hP hS (lv_sub hl [0, 1, 2, 3] rfl)
set_option maxHeartbeats 4000000 in
set_option maxRecDepth 100000 in
theorem nd_X11_takeFields_77 {p : Program} {l : Launch} {e : Env} {s : State} {m : MethodId} {args : Array Value} {below : List Frame} {meth : Method} {c : Code} {b0 : Nat} {D : va_G} {cy : Nat → ClassId} {M1 : Mm} (CX : Cx yX11_takeFields cX11_takeFields 5 none wsX11_takeFields b0 D cy p s m args meth c) (k13 : Mm → Nat → Int32 → Int32 → Int32 → Option Mm) (hk13 : ∀ (M : Mm) (x0 : Nat) (x1 : Int32) (x2 : Int32) (x3 : Int32) (H : Heap) (locs : List Loc) (ls : Array Slot), k13 M x0 x1 x2 x3 = some M1 → Hp b0 D cy M H → va_S (BA b0) s.heap H locs → lv_has ls 5 [(0, .ref x0), (1, .int x1), (2, .int x2), (3, .int x3)] → W p l e rm_X11_takeFields s m args below meth c H locs 0 0 (MQ below (Qm b0 D cy M1 none) args s 0 0 (BA b0)) (F0 m 13 ls [])) : ∀ (M : Mm) (x0 : Nat) (x1 : Int32) (x2 : Int32) (x3 : Int32) (s0 : Int32) (H : Heap) (locs : List Loc) (ls : Array Slot), f_X11_takeFields_J77 k13 M x0 x1 x2 x3 s0 = some M1 → Hp b0 D cy M H → va_S (BA b0) s.heap H locs → lv_has ls 5 [(0, .ref x0), (1, .int x1), (2, .int x2), (3, .int x3)] → W p l e rm_X11_takeFields s m args below meth c H locs 0 0 (MQ below (Qm b0 D cy M1 none) args s 0 0 (BA b0)) (F0 m 77 ls [.int s0]) := by
  obtain ⟨hx, hb, hr, hml, hown0, hts, hlk, hK, hN, hb0, hnm⟩ := id CX
  have hown : s.vm.findClass RX11 = some m.cls := hown0
  intro M x0 x1 x2 x3 s0 H locs ls hF hP hS hl
  unfold f_X11_takeFields_J77 at hF
  refine lv_istore (lv' := [(4, .int s0), (0, .ref x0), (1, .int x1), (2, .int x2), (3, .int x3)]) hx hb dX11_takeFields_77 hl (by decide) (by first | rfl | simp [cat_rf]) (fun ls hl => ?_)
  refine lv_aload_n hx hb dX11_takeFields_79 rfl (lv_at hl 1 rfl) ?_
  refine xr_getR hx hb hts iw_X11_takeFields_11 hown hK hP hF 11 46 rfl (by decide) (by decide +kernel) ⟨rfl, rfl, rfl⟩ dX11_takeFields_80 (fun v1 hF => ?_)
  refine lv_iload_n hx hb dX11_takeFields_83 rfl (lv_at hl 4 rfl) ?_
  refine lv_iload hx hb dX11_takeFields_84 (lv_at hl 0 rfl) ?_
  refine lv_if_eq (tgt := 93) hx hb dX11_takeFields_86 (by decide) (fun c2 => ?_) (fun c2 => ?_)
  · replace hF := it_t hF c2
    refine lv_iload_n hx hb dX11_takeFields_93 rfl (lv_at hl 3 rfl) ?_
    refine lv_iconst (v := 2) hx hb dX11_takeFields_94 (by decide) ?_
    refine lv_icmp_ne (tgt := 110) hx hb dX11_takeFields_95 (by decide) (fun c3 => ?_) (fun c3 => ?_)
    · replace hF := it_f hF c3
      exact nd_X11_takeFields_110 CX k13 hk13 _ _ _ _ _ _ _ _ _ _ hF hP hS (lv_sub hl [1, 2, 3, 4] rfl)
    · replace hF := it_t hF c3
      refine lv_aload_n hx hb dX11_takeFields_98 rfl (lv_at hl 1 rfl) ?_
      refine lv_iload_n hx hb dX11_takeFields_99 rfl (lv_at hl 4 rfl) ?_
      obtain ⟨v5, h4, hF⟩ := ob_some hF
      refine xr_call1 (va_runV (As := [.int x3]) (rest := [.int x3, .ref v1]) ⟨hx, hb, hml, hown, hts⟩ (ct_X11_runs l b0 D cy M x0 x3 v5 h4) (cwV 1 hts gX11_takeFields_X11_runs rfl rfl rfl (by decide +kernel) ⟨Nat.le_of_ble_eq_true rfl, Nat.le_of_ble_eq_true rfl⟩) (xp_V hP hK hN hS hb0 11 rfl (gk_X11_runs h4)) rfl rfl hl.1 rfl (lv_room (Nat.le_of_ble_eq_true rfl)) dX11_takeFields_100 ⟨Nat.le_of_ble_eq_true rfl, Nat.le_of_ble_eq_true rfl⟩) hS (fun H locs hP hS => ?_)
      refine lv_if_eq (tgt := 110) hx hb dX11_takeFields_103 (by decide) (fun c6 => ?_) (fun c6 => ?_)
      · replace hF := it_t hF c6
        exact nd_X11_takeFields_110 CX k13 hk13 _ _ _ _ _ _ _ _ _ _ hF hP hS (lv_sub hl [1, 2, 3, 4] rfl)
      · replace hF := it_f hF c6
        refine lv_iconst (v := 1) hx hb dX11_takeFields_106 (by decide) ?_
        refine lv_goto (tgt := 111) hx hb dX11_takeFields_107 (by decide) ?_
        exact nd_X11_takeFields_111 CX k13 hk13 _ _ _ _ _ _ _ _ _ _ _ hF hP hS (lv_sub hl [1, 2, 3, 4] rfl)
  · replace hF := it_f hF c2
    refine lv_iconst (v := 2) hx hb dX11_takeFields_89 (by decide) ?_
    refine lv_goto (tgt := 111) hx hb dX11_takeFields_90 (by decide) ?_
    exact nd_X11_takeFields_111 CX k13 hk13 _ _ _ _ _ _ _ _ _ _ _ hF hP hS (lv_sub hl [1, 2, 3, 4] rfl)
set_option maxHeartbeats 4000000 in
set_option maxRecDepth 100000 in
theorem nd_X11_takeFields_76 {p : Program} {l : Launch} {e : Env} {s : State} {m : MethodId} {args : Array Value} {below : List Frame} {meth : Method} {c : Code} {b0 : Nat} {D : va_G} {cy : Nat → ClassId} {M1 : Mm} (CX : Cx yX11_takeFields cX11_takeFields 5 none wsX11_takeFields b0 D cy p s m args meth c) (k13 : Mm → Nat → Int32 → Int32 → Int32 → Option Mm) (hk13 : ∀ (M : Mm) (x0 : Nat) (x1 : Int32) (x2 : Int32) (x3 : Int32) (H : Heap) (locs : List Loc) (ls : Array Slot), k13 M x0 x1 x2 x3 = some M1 → Hp b0 D cy M H → va_S (BA b0) s.heap H locs → lv_has ls 5 [(0, .ref x0), (1, .int x1), (2, .int x2), (3, .int x3)] → W p l e rm_X11_takeFields s m args below meth c H locs 0 0 (MQ below (Qm b0 D cy M1 none) args s 0 0 (BA b0)) (F0 m 13 ls [])) : ∀ (M : Mm) (x0 : Nat) (x1 : Int32) (x2 : Int32) (x3 : Int32) (H : Heap) (locs : List Loc) (ls : Array Slot), f_X11_takeFields_J76 k13 M x0 x1 x2 x3 = some M1 → Hp b0 D cy M H → va_S (BA b0) s.heap H locs → lv_has ls 5 [(0, .ref x0), (1, .int x1), (2, .int x2), (3, .int x3)] → W p l e rm_X11_takeFields s m args below meth c H locs 0 0 (MQ below (Qm b0 D cy M1 none) args s 0 0 (BA b0)) (F0 m 76 ls []) := by
  obtain ⟨hx, hb, hr, hml, hown0, hts, hlk, hK, hN, hb0, hnm⟩ := id CX
  have hown : s.vm.findClass RX11 = some m.cls := hown0
  intro M x0 x1 x2 x3 H locs ls hF hP hS hl
  unfold f_X11_takeFields_J76 at hF
  refine lv_iconst (v := 0) hx hb dX11_takeFields_76 (by decide) ?_
  exact nd_X11_takeFields_77 CX k13 hk13 _ _ _ _ _ _ _ _ _ hF hP hS (lv_sub hl [0, 1, 2, 3] rfl)
set_option maxHeartbeats 4000000 in
set_option maxRecDepth 100000 in
theorem nd_X11_takeFields_72 {p : Program} {l : Launch} {e : Env} {s : State} {m : MethodId} {args : Array Value} {below : List Frame} {meth : Method} {c : Code} {b0 : Nat} {D : va_G} {cy : Nat → ClassId} {M1 : Mm} (CX : Cx yX11_takeFields cX11_takeFields 5 none wsX11_takeFields b0 D cy p s m args meth c) (k13 : Mm → Nat → Int32 → Int32 → Int32 → Option Mm) (hk13 : ∀ (M : Mm) (x0 : Nat) (x1 : Int32) (x2 : Int32) (x3 : Int32) (H : Heap) (locs : List Loc) (ls : Array Slot), k13 M x0 x1 x2 x3 = some M1 → Hp b0 D cy M H → va_S (BA b0) s.heap H locs → lv_has ls 5 [(0, .ref x0), (1, .int x1), (2, .int x2), (3, .int x3)] → W p l e rm_X11_takeFields s m args below meth c H locs 0 0 (MQ below (Qm b0 D cy M1 none) args s 0 0 (BA b0)) (F0 m 13 ls [])) : ∀ (M : Mm) (x0 : Nat) (x1 : Int32) (x2 : Int32) (x3 : Int32) (H : Heap) (locs : List Loc) (ls : Array Slot), f_X11_takeFields_J72 k13 M x0 x1 x2 x3 = some M1 → Hp b0 D cy M H → va_S (BA b0) s.heap H locs → lv_has ls 5 [(0, .ref x0), (1, .int x1), (2, .int x2), (3, .int x3)] → W p l e rm_X11_takeFields s m args below meth c H locs 0 0 (MQ below (Qm b0 D cy M1 none) args s 0 0 (BA b0)) (F0 m 72 ls []) := by
  obtain ⟨hx, hb, hr, hml, hown0, hts, hlk, hK, hN, hb0, hnm⟩ := id CX
  have hown : s.vm.findClass RX11 = some m.cls := hown0
  intro M x0 x1 x2 x3 H locs ls hF hP hS hl
  unfold f_X11_takeFields_J72 at hF
  refine lv_iconst (v := 1) hx hb dX11_takeFields_72 (by decide) ?_
  refine lv_goto (tgt := 77) hx hb dX11_takeFields_73 (by decide) ?_
  exact nd_X11_takeFields_77 CX k13 hk13 _ _ _ _ _ _ _ _ _ hF hP hS (lv_sub hl [0, 1, 2, 3] rfl)
set_option maxHeartbeats 4000000 in
set_option maxRecDepth 100000 in
theorem nd_X11_takeFields_13 {p : Program} {l : Launch} {e : Env} {s : State} {m : MethodId} {args : Array Value} {below : List Frame} {meth : Method} {c : Code} {b0 : Nat} {D : va_G} {cy : Nat → ClassId} {M1 : Mm} (CX : Cx yX11_takeFields cX11_takeFields 5 none wsX11_takeFields b0 D cy p s m args meth c) : ∀ (fu : Nat), ∀ (M : Mm) (x0 : Nat) (x1 : Int32) (x2 : Int32) (x3 : Int32) (H : Heap) (locs : List Loc) (ls : Array Slot), f_X11_takeFields_L13 fu M x0 x1 x2 x3 = some M1 → Hp b0 D cy M H → va_S (BA b0) s.heap H locs → lv_has ls 5 [(0, .ref x0), (1, .int x1), (2, .int x2), (3, .int x3)] → W p l e rm_X11_takeFields s m args below meth c H locs 0 0 (MQ below (Qm b0 D cy M1 none) args s 0 0 (BA b0)) (F0 m 13 ls []) := by
  obtain ⟨hx, hb, hr, hml, hown0, hts, hlk, hK, hN, hb0, hnm⟩ := id CX
  have hown : s.vm.findClass RX11 = some m.cls := hown0
  intro fu
  induction fu with
  | zero =>
    intro M x0 x1 x2 x3 H locs ls hF hP hS hl
    rw [f_X11_takeFields_L13] at hF
    cases hF
  | succ fu ih =>
    intro M x0 x1 x2 x3 H locs ls hF hP hS hl
    rw [f_X11_takeFields_L13] at hF
    refine lv_iload_n hx hb dX11_takeFields_13 rfl (lv_at hl 3 rfl) ?_
    refine lv_aload_n hx hb dX11_takeFields_14 rfl (lv_at hl 0 rfl) ?_
    refine xr_getI hx hb hts iw_X11_takeFields_11 hown hK hP hF 11 1 rfl (by decide) (by decide +kernel) ⟨rfl, rfl, rfl⟩ dX11_takeFields_15 (fun v1 hF => ?_)
    refine lv_icmp_ge (tgt := 251) hx hb dX11_takeFields_18 (by decide) (fun c2 => ?_) (fun c2 => ?_)
    · replace hF := it_t hF c2
      exact nd_X11_takeFields_251 CX _ _ _ _ _ _ _ hF hP hS (lv_sub hl [0, 1, 2] rfl)
    · replace hF := it_f hF c2
      refine lv_aload_n hx hb dX11_takeFields_21 rfl (lv_at hl 0 rfl) ?_
      refine xr_getI hx hb hts iw_X11_takeFields_11 hown hK hP hF 11 45 rfl (by decide) (by decide +kernel) ⟨rfl, rfl, rfl⟩ dX11_takeFields_22 (fun v3 hF => ?_)
      refine lv_if_ne (tgt := 251) hx hb dX11_takeFields_25 (by decide) (fun c4 => ?_) (fun c4 => ?_)
      · replace hF := it_f hF c4
        exact nd_X11_takeFields_251 CX _ _ _ _ _ _ _ hF hP hS (lv_sub hl [0, 1, 2] rfl)
      · replace hF := it_t hF c4
        refine lv_aload_n hx hb dX11_takeFields_28 rfl (lv_at hl 0 rfl) ?_
        refine xr_getR hx hb hts iw_X11_takeFields_11 hown hK hP hF 11 49 rfl (by decide) (by decide +kernel) ⟨rfl, rfl, rfl⟩ dX11_takeFields_29 (fun v5 hF => ?_)
        refine lv_iload_n hx hb dX11_takeFields_32 rfl (lv_at hl 3 rfl) ?_
        refine lv_iconst (v := 1) hx hb dX11_takeFields_33 (by decide) ?_
        refine xr_wI hx hb hK hP hS hF dX11_takeFields_34 (fun M6 H locs hF hP hS => ?_)
        refine lv_aload_n hx hb dX11_takeFields_35 rfl (lv_at hl 0 rfl) ?_
        refine xr_getR hx hb hts iw_X11_takeFields_11 hown hK hP hF 11 47 rfl (by decide) (by decide +kernel) ⟨rfl, rfl, rfl⟩ dX11_takeFields_36 (fun v7 hF => ?_)
        refine lv_iload_n hx hb dX11_takeFields_39 rfl (lv_at hl 3 rfl) ?_
        refine lv_iconst (v := 0) hx hb dX11_takeFields_40 (by decide) ?_
        refine xr_wI hx hb hK hP hS hF dX11_takeFields_41 (fun M8 H locs hF hP hS => ?_)
        refine lv_iload_n hx hb dX11_takeFields_42 rfl (lv_at hl 2 rfl) ?_
        refine lv_if_eq (tgt := 72) hx hb dX11_takeFields_43 (by decide) (fun c9 => ?_) (fun c9 => ?_)
        · replace hF := it_t hF c9
          exact nd_X11_takeFields_72 CX (f_X11_takeFields_L13 fu) ih _ _ _ _ _ _ _ _ hF hP hS (lv_sub hl [0, 1, 2, 3] rfl)
        · replace hF := it_f hF c9
          refine lv_aload_n hx hb dX11_takeFields_46 rfl (lv_at hl 0 rfl) ?_
          refine xr_getR hx hb hts iw_X11_takeFields_11 hown hK hP hF 11 2 rfl (by decide) (by decide +kernel) ⟨rfl, rfl, rfl⟩ dX11_takeFields_47 (fun v10 hF => ?_)
          refine lv_iload_n hx hb dX11_takeFields_50 rfl (lv_at hl 3 rfl) ?_
          refine xr_aI hx hb hK hP hF dX11_takeFields_51 (fun v11 hF => ?_)
          refine lv_iconst (v := 4) hx hb dX11_takeFields_52 (by decide) ?_
          refine lv_icmp_eq (tgt := 72) hx hb dX11_takeFields_53 (by decide) (fun c12 => ?_) (fun c12 => ?_)
          · replace hF := it_t hF c12
            exact nd_X11_takeFields_72 CX (f_X11_takeFields_L13 fu) ih _ _ _ _ _ _ _ _ hF hP hS (lv_sub hl [0, 1, 2, 3] rfl)
          · replace hF := it_f hF c12
            refine lv_iload_n hx hb dX11_takeFields_56 rfl (lv_at hl 2 rfl) ?_
            refine lv_iconst (v := 1) hx hb dX11_takeFields_57 (by decide) ?_
            refine lv_icmp_ne (tgt := 76) hx hb dX11_takeFields_58 (by decide) (fun c13 => ?_) (fun c13 => ?_)
            · replace hF := it_f hF c13
              exact nd_X11_takeFields_76 CX (f_X11_takeFields_L13 fu) ih _ _ _ _ _ _ _ _ hF hP hS (lv_sub hl [0, 1, 2, 3] rfl)
            · replace hF := it_t hF c13
              refine lv_aload_n hx hb dX11_takeFields_61 rfl (lv_at hl 0 rfl) ?_
              refine lv_iload_n hx hb dX11_takeFields_62 rfl (lv_at hl 1 rfl) ?_
              refine lv_iconst (v := 1) hx hb dX11_takeFields_63 (by decide) ?_
              obtain ⟨M15, v16, h14, hF⟩ := ob2_some hF
              refine xr_call1 (va_runV (As := [.int x1, .int 1]) (rest := []) ⟨hx, hb, hml, hown, hts⟩ (ct_X11_take l b0 D cy M8 x0 x1 1 M15 v16 h14) (cwV 2 hts gX11_takeFields_X11_take rfl rfl rfl (by decide +kernel) ⟨Nat.le_of_ble_eq_true rfl, Nat.le_of_ble_eq_true rfl⟩) (xp_V hP hK hN hS hb0 11 rfl (gk_X11_take h14)) rfl rfl hl.1 rfl (lv_room (Nat.le_of_ble_eq_true rfl)) dX11_takeFields_64 ⟨Nat.le_of_ble_eq_true rfl, Nat.le_of_ble_eq_true rfl⟩) hS (fun H locs hP hS => ?_)
              refine lv_lconst (v := 1) hx hb dX11_takeFields_67 (by decide) ?_
              refine W.lcmp hx hb dX11_takeFields_68 ?_
              refine lv_if_ne (tgt := 76) hx hb dX11_takeFields_69 (by decide) (fun c17 => ?_) (fun c17 => ?_)
              · replace hF := it_f hF c17
                exact nd_X11_takeFields_76 CX (f_X11_takeFields_L13 fu) ih _ _ _ _ _ _ _ _ hF hP hS (lv_sub hl [0, 1, 2, 3] rfl)
              · replace hF := it_t hF c17
                exact nd_X11_takeFields_72 CX (f_X11_takeFields_L13 fu) ih _ _ _ _ _ _ _ _ hF hP hS (lv_sub hl [0, 1, 2, 3] rfl)
theorem gk_X11_takeFields {M : Mm} {a0 : Nat} {a1 : Int32} {a2 : Int32} {r : Mm} (h : f_X11_takeFields M a0 a1 a2 = some r) : mK M a0 = 12 := by
  unfold f_X11_takeFields at h
  exact (if_some h).1
set_option maxHeartbeats 4000000 in
set_option maxRecDepth 100000 in
theorem ct_X11_takeFields (l : Launch) (b0 : Nat) (D : va_G) (cy : Nat → ClassId) (M : Mm) (a0 : Nat) (a1 : Int32) (a2 : Int32) (M1 : Mm) (hF : f_X11_takeFields M a0 a1 a2 = some M1) : Met l yX11_takeFields wsX11_takeFields rm_X11_takeFields (va_Pc [.ref a0, .int a1, .int a2] (Pm b0 D cy M)) (Qm b0 D cy M1 none) 0 0 (BA b0) := by
  refine ct_of [.ref a0, .int a1, .int a2] (by decide) rfl ?_
  intro p e s m below meth c CX hP
  obtain ⟨hx, hb, hr, hml, hown0, hts, hlk, hK, hN, hb0, hnm⟩ := id CX
  have hown : s.vm.findClass RX11 = some m.cls := hown0
  have hS : va_S (BA b0) s.heap s.heap [] := va_S.rf
  have hl := lv_entry [.ref a0, .int a1, .int a2] (n := 5) (Nat.le_of_ble_eq_true rfl)
  generalize (lg_sl [.ref a0, .int a1, .int a2] ++ List.replicate (5 - (lg_sl [.ref a0, .int a1, .int a2]).length) Slot.unset).toArray = ls at hl ⊢
  have hl : lv_has ls 5 [(0, .ref a0), (1, .int a1), (2, .int a2)] := hl
  unfold f_X11_takeFields at hF
  replace hF := (if_some hF).2
  refine lv_aload_n hx hb dX11_takeFields_0 rfl (lv_at hl 0 rfl) ?_
  refine lv_aload_n hx hb dX11_takeFields_1 rfl (lv_at hl 0 rfl) ?_
  refine lv_iload_n hx hb dX11_takeFields_2 rfl (lv_at hl 1 rfl) ?_
  refine lv_iconst (v := 4) hx hb dX11_takeFields_3 (by decide) ?_
  obtain ⟨M2, v3, h1, hF⟩ := ob2_some hF
  refine xr_call1 (va_runV (As := [.int a1, .int 4]) (rest := [.ref a0]) ⟨hx, hb, hml, hown, hts⟩ (ct_X11_take l b0 D cy M a0 a1 4 M2 v3 h1) (cwV 2 hts gX11_takeFields_X11_take rfl rfl rfl (by decide +kernel) ⟨Nat.le_of_ble_eq_true rfl, Nat.le_of_ble_eq_true rfl⟩) (xp_V hP hK hN hS hb0 11 rfl (gk_X11_take h1)) rfl rfl hl.1 rfl (lv_room (Nat.le_of_ble_eq_true rfl)) dX11_takeFields_4 ⟨Nat.le_of_ble_eq_true rfl, Nat.le_of_ble_eq_true rfl⟩) hS (fun H locs hP hS => ?_)
  refine lv_l2i hx hb dX11_takeFields_7 rfl ?_
  refine xr_putI hx hb hts iw_X11_takeFields_11 hown hK hP hS hF 11 50 rfl (by decide) tyX11 tyX11_ok nmX11 (by decide +kernel) (Or.inl rfl) rfl ⟨rfl, rfl, rfl⟩ dX11_takeFields_8 (fun M4 H locs hF hP hS => ?_)
  refine lv_iconst (v := 0) hx hb dX11_takeFields_11 (by decide) ?_
  refine lv_istore_n (lv' := [(3, .int 0), (0, .ref a0), (1, .int a1), (2, .int a2)]) hx hb dX11_takeFields_12 rfl hl (by decide) (by first | rfl | simp [cat_rf]) (fun ls hl => ?_)
  exact nd_X11_takeFields_13 CX _ _ _ _ _ _ _ _ _ hF hP hS (lv_sub hl [1, 2, 3, 0] rfl)
/-! X11_found -/
abbrev rm_X11_found : Room := { frames := 1, cells := 0, slots := 0, locals := 23 }
theorem gk_X11_found {M : Mm} {a0 : Nat} {a1 : Int32} {a2 : Int64} {a4 : Int32} {a5 : Int64} {r : Int64} (h : f_X11_found M a0 a1 a2 a4 a5 = some r) : mK M a0 = 12 := by
  unfold f_X11_found at h
  exact (if_some h).1
set_option maxHeartbeats 4000000 in
set_option maxRecDepth 100000 in
theorem ct_X11_found (l : Launch) (b0 : Nat) (D : va_G) (cy : Nat → ClassId) (M : Mm) (a0 : Nat) (a1 : Int32) (a2 : Int64) (a4 : Int32) (a5 : Int64) (r : Int64) (hF : f_X11_found M a0 a1 a2 a4 a5 = some r) : Met l yX11_found wsX11_found rm_X11_found (va_Pc [.ref a0, .int a1, .long a2, .int a4, .long a5] (Pm b0 D cy M)) (Qm b0 D cy M (some (.long r))) 0 0 (BA b0) := by
  refine ct_of [.ref a0, .int a1, .long a2, .int a4, .long a5] (by decide) rfl ?_
  intro p e s m below meth c CX hP
  obtain ⟨hx, hb, hr, hml, hown0, hts, hlk, hK, hN, hb0, hnm⟩ := id CX
  have hown : s.vm.findClass RX11 = some m.cls := hown0
  have hS : va_S (BA b0) s.heap s.heap [] := va_S.rf
  have hl := lv_entry [.ref a0, .int a1, .long a2, .int a4, .long a5] (n := 11) (Nat.le_of_ble_eq_true rfl)
  generalize (lg_sl [.ref a0, .int a1, .long a2, .int a4, .long a5] ++ List.replicate (11 - (lg_sl [.ref a0, .int a1, .long a2, .int a4, .long a5]).length) Slot.unset).toArray = ls at hl ⊢
  have hl : lv_has ls 11 [(0, .ref a0), (1, .int a1), (2, .long a2), (4, .int a4), (5, .long a5)] := hl
  unfold f_X11_found at hF
  replace hF := (if_some hF).2
  refine lv_iload hx hb dX11_found_0 (lv_at hl 3 rfl) ?_
  refine lv_if_ne (tgt := 7) hx hb dX11_found_2 (by decide) (fun c1 => ?_) (fun c1 => ?_)
  · replace hF := it_f hF c1
    refine lv_aload_n hx hb dX11_found_7 rfl (lv_at hl 0 rfl) ?_
    refine lv_iload_n hx hb dX11_found_8 rfl (lv_at hl 1 rfl) ?_
    refine lv_lload_n hx hb dX11_found_9 rfl (lv_at hl 2 rfl) ?_
    refine lv_lconst (v := 1) hx hb dX11_found_10 (by decide) ?_
    refine lv_iload hx hb dX11_found_11 (lv_at hl 3 rfl) ?_
    refine lv_iconst (v := 1) hx hb dX11_found_13 (by decide) ?_
    refine lv_isub hx hb dX11_found_14 ?_
    refine lv_lshl hx hb dX11_found_15 rfl ?_
    refine lv_lsub hx hb dX11_found_16 ?_
    obtain ⟨v3, h2, hF⟩ := ob_some hF
    refine xr_call1 (va_runV (As := [.int a1, .long (a2 - ((1 : Int64) <<< ((a4 - 1).toInt64 &&& 63)))]) (rest := []) ⟨hx, hb, hml, hown, hts⟩ (ct_X11_cut l b0 D cy M a0 a1 (a2 - ((1 : Int64) <<< ((a4 - 1).toInt64 &&& 63))) v3 h2) (cwV 2 hts gX11_found_X11_cut rfl rfl rfl (by decide +kernel) ⟨Nat.le_of_ble_eq_true rfl, Nat.le_of_ble_eq_true rfl⟩) (xp_V hP hK hN hS hb0 11 rfl (gk_X11_cut h2)) rfl rfl hl.1 rfl (lv_room (Nat.le_of_ble_eq_true rfl)) dX11_found_17 ⟨Nat.le_of_ble_eq_true rfl, Nat.le_of_ble_eq_true rfl⟩) hS (fun H locs hP hS => ?_)
    refine lv_lstore (lv' := [(7, .long v3), (0, .ref a0), (1, .int a1), (2, .long a2), (4, .int a4), (5, .long a5)]) hx hb dX11_found_20 hl (by decide) (by first | rfl | simp [cat_rf]) (fun ls hl => ?_)
    refine lv_lload hx hb dX11_found_22 (lv_at hl 5 rfl) ?_
    refine lv_lload hx hb dX11_found_24 (lv_at hl 0 rfl) ?_
    refine lv_lsub hx hb dX11_found_26 ?_
    refine lv_lconst (v := 1) hx hb dX11_found_27 (by decide) ?_
    refine lv_iload hx hb dX11_found_28 (lv_at hl 4 rfl) ?_
    refine lv_lshl hx hb dX11_found_30 rfl ?_
    refine lv_lconst (v := 1) hx hb dX11_found_31 (by decide) ?_
    refine lv_lsub hx hb dX11_found_32 ?_
    refine lv_land hx hb dX11_found_33 ?_
    refine lv_lstore (lv' := [(9, .long ((a5 - v3) &&& (((1 : Int64) <<< (a4.toInt64 &&& 63)) - 1))), (7, .long v3), (0, .ref a0), (1, .int a1), (2, .long a2), (4, .int a4), (5, .long a5)]) hx hb dX11_found_34 hl (by decide) (by first | rfl | simp [cat_rf]) (fun ls hl => ?_)
    refine lv_aload_n hx hb dX11_found_36 rfl (lv_at hl 2 rfl) ?_
    refine lv_iload_n hx hb dX11_found_37 rfl (lv_at hl 3 rfl) ?_
    refine lv_lload hx hb dX11_found_38 (lv_at hl 1 rfl) ?_
    refine lv_lload hx hb dX11_found_40 (lv_at hl 0 rfl) ?_
    refine lv_ladd hx hb dX11_found_42 ?_
    obtain ⟨v5, h4, hF⟩ := ob_some hF
    refine xr_call1 (va_runV (As := [.int a1, .long (v3 + ((a5 - v3) &&& (((1 : Int64) <<< (a4.toInt64 &&& 63)) - 1)))]) (rest := []) ⟨hx, hb, hml, hown, hts⟩ (ct_X11_cut l b0 D cy M a0 a1 (v3 + ((a5 - v3) &&& (((1 : Int64) <<< (a4.toInt64 &&& 63)) - 1))) v5 h4) (cwV 2 hts gX11_found_X11_cut rfl rfl rfl (by decide +kernel) ⟨Nat.le_of_ble_eq_true rfl, Nat.le_of_ble_eq_true rfl⟩) (xp_V hP hK hN hS hb0 11 rfl (gk_X11_cut h4)) rfl rfl hl.1 rfl (lv_room (Nat.le_of_ble_eq_true rfl)) dX11_found_43 ⟨Nat.le_of_ble_eq_true rfl, Nat.le_of_ble_eq_true rfl⟩) hS (fun H locs hP hS => ?_)
    cases hF
    exact W.lret hx hb hr (fun t ht hW => ⟨rfl, by rw [ht]; exact hP, hS.F ht⟩) hS.2.2 dX11_found_46 hlk
  · replace hF := it_t hF c1
    refine lv_lload_n hx hb dX11_found_5 rfl (lv_at hl 2 rfl) ?_
    cases hF
    exact W.lret hx hb hr (fun t ht hW => ⟨rfl, by rw [ht]; exact hP, hS.F ht⟩) hS.2.2 dX11_found_6 hlk
/-! X11_open -/
theorem iw_X11_open_11 : ∀ w ∈ u_ws RX11 TX11 58, w ∈ wsX11_open := by decide +kernel
abbrev rm_X11_open : Room := { frames := 2, cells := 0, slots := 0, locals := 53 }
set_option maxHeartbeats 4000000 in
set_option maxRecDepth 100000 in
theorem nd_X11_open_141 {p : Program} {l : Launch} {e : Env} {s : State} {m : MethodId} {args : Array Value} {below : List Frame} {meth : Method} {c : Code} {b0 : Nat} {D : va_G} {cy : Nat → ClassId} {M1 : Mm} (CX : Cx yX11_open cX11_open 6 none wsX11_open b0 D cy p s m args meth c) (k2 : Mm → Nat → Int32 → Int32 → Int32 → Option Mm) (hk2 : ∀ (M : Mm) (x0 : Nat) (x1 : Int32) (x2 : Int32) (x3 : Int32) (H : Heap) (locs : List Loc) (ls : Array Slot), k2 M x0 x1 x2 x3 = some M1 → Hp b0 D cy M H → va_S (BA b0) s.heap H locs → lv_has ls 6 [(0, .ref x0), (1, .int x1), (2, .int x2), (3, .int x3)] → W p l e rm_X11_open s m args below meth c H locs 0 0 (MQ below (Qm b0 D cy M1 none) args s 0 0 (BA b0)) (F0 m 2 ls [])) : ∀ (M : Mm) (x0 : Nat) (x1 : Int32) (x2 : Int32) (x3 : Int32) (s0 : Nat) (s1 : Int32) (s2 : Int64) (H : Heap) (locs : List Loc) (ls : Array Slot), f_X11_open_J141 k2 M x0 x1 x2 x3 s0 s1 s2 = some M1 → Hp b0 D cy M H → va_S (BA b0) s.heap H locs → lv_has ls 6 [(0, .ref x0), (1, .int x1), (2, .int x2), (3, .int x3)] → W p l e rm_X11_open s m args below meth c H locs 0 0 (MQ below (Qm b0 D cy M1 none) args s 0 0 (BA b0)) (F0 m 141 ls [.long s2, .int s1, .ref s0]) := by
  obtain ⟨hx, hb, hr, hml, hown0, hts, hlk, hK, hN, hb0, hnm⟩ := id CX
  have hown : s.vm.findClass RX11 = some m.cls := hown0
  intro M x0 x1 x2 x3 s0 s1 s2 H locs ls hF hP hS hl
  unfold f_X11_open_J141 at hF
  refine xr_wJ hx hb hK hP hS hF dX11_open_141 (fun M1 H locs hF hP hS => ?_)
  refine lv_iinc (v := x3 + 1) (lv' := [(3, .int (x3 + 1)), (0, .ref x0), (1, .int x1), (2, .int x2)]) hx hb dX11_open_142 hl (k := 3) rfl (by rfl) (by decide) rfl (fun ls hl => ?_)
  refine lv_goto (tgt := 2) hx hb dX11_open_145 (by decide) ?_
  exact hk2 _ _ _ _ _ _ _ _ hF hP hS (lv_sub hl [1, 2, 3, 0] rfl)
set_option maxHeartbeats 4000000 in
set_option maxRecDepth 100000 in
theorem nd_X11_open_81 {p : Program} {l : Launch} {e : Env} {s : State} {m : MethodId} {args : Array Value} {below : List Frame} {meth : Method} {c : Code} {b0 : Nat} {D : va_G} {cy : Nat → ClassId} {M1 : Mm} (CX : Cx yX11_open cX11_open 6 none wsX11_open b0 D cy p s m args meth c) (k2 : Mm → Nat → Int32 → Int32 → Int32 → Option Mm) (hk2 : ∀ (M : Mm) (x0 : Nat) (x1 : Int32) (x2 : Int32) (x3 : Int32) (H : Heap) (locs : List Loc) (ls : Array Slot), k2 M x0 x1 x2 x3 = some M1 → Hp b0 D cy M H → va_S (BA b0) s.heap H locs → lv_has ls 6 [(0, .ref x0), (1, .int x1), (2, .int x2), (3, .int x3)] → W p l e rm_X11_open s m args below meth c H locs 0 0 (MQ below (Qm b0 D cy M1 none) args s 0 0 (BA b0)) (F0 m 2 ls [])) : ∀ (M : Mm) (x0 : Nat) (x1 : Int32) (x2 : Int32) (x3 : Int32) (s0 : Int64) (H : Heap) (locs : List Loc) (ls : Array Slot), f_X11_open_J81 k2 M x0 x1 x2 x3 s0 = some M1 → Hp b0 D cy M H → va_S (BA b0) s.heap H locs → lv_has ls 6 [(0, .ref x0), (1, .int x1), (2, .int x2), (3, .int x3)] → W p l e rm_X11_open s m args below meth c H locs 0 0 (MQ below (Qm b0 D cy M1 none) args s 0 0 (BA b0)) (F0 m 81 ls [.long s0]) := by
  obtain ⟨hx, hb, hr, hml, hown0, hts, hlk, hK, hN, hb0, hnm⟩ := id CX
  have hown : s.vm.findClass RX11 = some m.cls := hown0
  intro M x0 x1 x2 x3 s0 H locs ls hF hP hS hl
  unfold f_X11_open_J81 at hF
  refine lv_lstore (lv' := [(4, .long s0), (0, .ref x0), (1, .int x1), (2, .int x2), (3, .int x3)]) hx hb dX11_open_81 hl (by decide) (by first | rfl | simp [cat_rf]) (fun ls hl => ?_)
  refine lv_aload_n hx hb dX11_open_83 rfl (lv_at hl 1 rfl) ?_
  refine xr_getR hx hb hts iw_X11_open_11 hown hK hP hF 11 52 rfl (by decide) (by decide +kernel) ⟨rfl, rfl, rfl⟩ dX11_open_84 (fun v1 hF => ?_)
  refine lv_iload_n hx hb dX11_open_87 rfl (lv_at hl 4 rfl) ?_
  refine lv_aload_n hx hb dX11_open_88 rfl (lv_at hl 1 rfl) ?_
  refine xr_getR hx hb hts iw_X11_open_11 hown hK hP hF 11 46 rfl (by decide) (by decide +kernel) ⟨rfl, rfl, rfl⟩ dX11_open_89 (fun v2 hF => ?_)
  refine lv_iload_n hx hb dX11_open_92 rfl (lv_at hl 4 rfl) ?_
  refine xr_aI hx hb hK hP hF dX11_open_93 (fun v3 hF => ?_)
  refine lv_iconst (v := 2) hx hb dX11_open_94 (by decide) ?_
  refine lv_icmp_ne (tgt := 107) hx hb dX11_open_95 (by decide) (fun c4 => ?_) (fun c4 => ?_)
  · replace hF := it_f hF c4
    refine lv_aload_n hx hb dX11_open_107 rfl (lv_at hl 1 rfl) ?_
    refine xr_getR hx hb hts iw_X11_open_11 hown hK hP hF 11 46 rfl (by decide) (by decide +kernel) ⟨rfl, rfl, rfl⟩ dX11_open_108 (fun v5 hF => ?_)
    refine lv_iload_n hx hb dX11_open_111 rfl (lv_at hl 4 rfl) ?_
    refine xr_aI hx hb hK hP hF dX11_open_112 (fun v6 hF => ?_)
    refine lv_iconst (v := 1) hx hb dX11_open_113 (by decide) ?_
    refine lv_icmp_ne (tgt := 139) hx hb dX11_open_114 (by decide) (fun c7 => ?_) (fun c7 => ?_)
    · replace hF := it_f hF c7
      refine lv_lload hx hb dX11_open_139 (lv_at hl 0 rfl) ?_
      exact nd_X11_open_141 CX k2 hk2 _ _ _ _ _ _ _ _ _ _ _ hF hP hS (lv_sub hl [1, 2, 3, 4] rfl)
    · replace hF := it_t hF c7
      refine lv_aload_n hx hb dX11_open_117 rfl (lv_at hl 1 rfl) ?_
      refine lv_iload_n hx hb dX11_open_118 rfl (lv_at hl 4 rfl) ?_
      refine lv_lload hx hb dX11_open_119 (lv_at hl 0 rfl) ?_
      refine lv_aload_n hx hb dX11_open_121 rfl (lv_at hl 1 rfl) ?_
      refine xr_getR hx hb hts iw_X11_open_11 hown hK hP hF 11 47 rfl (by decide) (by decide +kernel) ⟨rfl, rfl, rfl⟩ dX11_open_122 (fun v8 hF => ?_)
      refine lv_iload_n hx hb dX11_open_125 rfl (lv_at hl 4 rfl) ?_
      refine xr_aI hx hb hK hP hF dX11_open_126 (fun v9 hF => ?_)
      refine lv_aload_n hx hb dX11_open_127 rfl (lv_at hl 1 rfl) ?_
      refine xr_getR hx hb hts iw_X11_open_11 hown hK hP hF 11 48 rfl (by decide) (by decide +kernel) ⟨rfl, rfl, rfl⟩ dX11_open_128 (fun v10 hF => ?_)
      refine lv_iload_n hx hb dX11_open_131 rfl (lv_at hl 4 rfl) ?_
      refine xr_aJ hx hb hK hP hF dX11_open_132 (fun v11 hF => ?_)
      obtain ⟨v13, h12, hF⟩ := ob_some hF
      refine xr_call1 (va_runV (As := [.int x3, .long s0, .int v9, .long v11]) (rest := [.int x3, .ref v1]) ⟨hx, hb, hml, hown, hts⟩ (ct_X11_found l b0 D cy M x0 x3 s0 v9 v11 v13 h12) (cwV 4 hts gX11_open_X11_found rfl rfl rfl (by decide +kernel) ⟨Nat.le_of_ble_eq_true rfl, Nat.le_of_ble_eq_true rfl⟩) (xp_V hP hK hN hS hb0 11 rfl (gk_X11_found h12)) rfl rfl hl.1 rfl (lv_room (Nat.le_of_ble_eq_true rfl)) dX11_open_133 ⟨Nat.le_of_ble_eq_true rfl, Nat.le_of_ble_eq_true rfl⟩) hS (fun H locs hP hS => ?_)
      refine lv_goto (tgt := 141) hx hb dX11_open_136 (by decide) ?_
      exact nd_X11_open_141 CX k2 hk2 _ _ _ _ _ _ _ _ _ _ _ hF hP hS (lv_sub hl [1, 2, 3, 4] rfl)
  · replace hF := it_t hF c4
    refine lv_aload_n hx hb dX11_open_98 rfl (lv_at hl 1 rfl) ?_
    refine xr_getR hx hb hts iw_X11_open_11 hown hK hP hF 11 48 rfl (by decide) (by decide +kernel) ⟨rfl, rfl, rfl⟩ dX11_open_99 (fun v14 hF => ?_)
    refine lv_iload_n hx hb dX11_open_102 rfl (lv_at hl 4 rfl) ?_
    refine xr_aJ hx hb hK hP hF dX11_open_103 (fun v15 hF => ?_)
    refine lv_goto (tgt := 141) hx hb dX11_open_104 (by decide) ?_
    exact nd_X11_open_141 CX k2 hk2 _ _ _ _ _ _ _ _ _ _ _ hF hP hS (lv_sub hl [1, 2, 3, 4] rfl)
set_option maxHeartbeats 4000000 in
set_option maxRecDepth 100000 in
theorem nd_X11_open_2 {p : Program} {l : Launch} {e : Env} {s : State} {m : MethodId} {args : Array Value} {below : List Frame} {meth : Method} {c : Code} {b0 : Nat} {D : va_G} {cy : Nat → ClassId} {M1 : Mm} (CX : Cx yX11_open cX11_open 6 none wsX11_open b0 D cy p s m args meth c) : ∀ (fu : Nat), ∀ (M : Mm) (x0 : Nat) (x1 : Int32) (x2 : Int32) (x3 : Int32) (H : Heap) (locs : List Loc) (ls : Array Slot), f_X11_open_L2 fu M x0 x1 x2 x3 = some M1 → Hp b0 D cy M H → va_S (BA b0) s.heap H locs → lv_has ls 6 [(0, .ref x0), (1, .int x1), (2, .int x2), (3, .int x3)] → W p l e rm_X11_open s m args below meth c H locs 0 0 (MQ below (Qm b0 D cy M1 none) args s 0 0 (BA b0)) (F0 m 2 ls []) := by
  obtain ⟨hx, hb, hr, hml, hown0, hts, hlk, hK, hN, hb0, hnm⟩ := id CX
  have hown : s.vm.findClass RX11 = some m.cls := hown0
  intro fu
  induction fu with
  | zero =>
    intro M x0 x1 x2 x3 H locs ls hF hP hS hl
    rw [f_X11_open_L2] at hF
    cases hF
  | succ fu ih =>
    intro M x0 x1 x2 x3 H locs ls hF hP hS hl
    rw [f_X11_open_L2] at hF
    refine lv_iload_n hx hb dX11_open_2 rfl (lv_at hl 3 rfl) ?_
    refine lv_aload_n hx hb dX11_open_3 rfl (lv_at hl 0 rfl) ?_
    refine xr_getI hx hb hts iw_X11_open_11 hown hK hP hF 11 1 rfl (by decide) (by decide +kernel) ⟨rfl, rfl, rfl⟩ dX11_open_4 (fun v1 hF => ?_)
    refine lv_icmp_ge (tgt := 148) hx hb dX11_open_7 (by decide) (fun c2 => ?_) (fun c2 => ?_)
    · replace hF := it_t hF c2
      cases hF
      exact W.vret hx hb hr (fun t ht hW => ⟨rfl, by rw [ht]; exact hP, hS.F ht⟩) hS.2.2 dX11_open_148 hlk
    · replace hF := it_f hF c2
      refine lv_aload_n hx hb dX11_open_10 rfl (lv_at hl 0 rfl) ?_
      refine xr_getR hx hb hts iw_X11_open_11 hown hK hP hF 11 2 rfl (by decide) (by decide +kernel) ⟨rfl, rfl, rfl⟩ dX11_open_11 (fun v3 hF => ?_)
      refine lv_iload_n hx hb dX11_open_14 rfl (lv_at hl 3 rfl) ?_
      refine xr_aI hx hb hK hP hF dX11_open_15 (fun v4 hF => ?_)
      refine lv_iconst (v := 1) hx hb dX11_open_16 (by decide) ?_
      refine lv_icmp_ne (tgt := 46) hx hb dX11_open_17 (by decide) (fun c5 => ?_) (fun c5 => ?_)
      · replace hF := it_f hF c5
        refine lv_aload_n hx hb dX11_open_46 rfl (lv_at hl 0 rfl) ?_
        refine lv_iload_n hx hb dX11_open_47 rfl (lv_at hl 3 rfl) ?_
        refine lv_aload_n hx hb dX11_open_48 rfl (lv_at hl 0 rfl) ?_
        refine xr_getR hx hb hts iw_X11_open_11 hown hK hP hF 11 34 rfl (by decide) (by decide +kernel) ⟨rfl, rfl, rfl⟩ dX11_open_49 (fun v6 hF => ?_)
        refine lv_bipush (v := 8) hx hb dX11_open_52 (by decide) ?_
        refine lv_iload_n hx hb dX11_open_54 rfl (lv_at hl 1 rfl) ?_
        refine lv_imul hx hb dX11_open_55 ?_
        refine lv_iload_n hx hb dX11_open_56 rfl (lv_at hl 3 rfl) ?_
        refine lv_iadd hx hb dX11_open_57 ?_
        refine xr_aJ hx hb hK hP hF dX11_open_58 (fun v7 hF => ?_)
        refine lv_iload_n hx hb dX11_open_59 rfl (lv_at hl 2 rfl) ?_
        refine lv_aload_n hx hb dX11_open_60 rfl (lv_at hl 0 rfl) ?_
        refine xr_getR hx hb hts iw_X11_open_11 hown hK hP hF 11 31 rfl (by decide) (by decide +kernel) ⟨rfl, rfl, rfl⟩ dX11_open_61 (fun v8 hF => ?_)
        refine lv_iload_n hx hb dX11_open_64 rfl (lv_at hl 1 rfl) ?_
        refine xr_aI hx hb hK hP hF dX11_open_65 (fun v9 hF => ?_)
        refine lv_isub hx hb dX11_open_66 ?_
        refine lv_aload_n hx hb dX11_open_67 rfl (lv_at hl 0 rfl) ?_
        refine xr_getR hx hb hts iw_X11_open_11 hown hK hP hF 11 33 rfl (by decide) (by decide +kernel) ⟨rfl, rfl, rfl⟩ dX11_open_68 (fun v10 hF => ?_)
        refine lv_bipush (v := 8) hx hb dX11_open_71 (by decide) ?_
        refine lv_iload_n hx hb dX11_open_73 rfl (lv_at hl 1 rfl) ?_
        refine lv_imul hx hb dX11_open_74 ?_
        refine lv_iload_n hx hb dX11_open_75 rfl (lv_at hl 3 rfl) ?_
        refine lv_iadd hx hb dX11_open_76 ?_
        refine xr_aI hx hb hK hP hF dX11_open_77 (fun v11 hF => ?_)
        obtain ⟨v13, h12, hF⟩ := ob_some hF
        refine xr_call1 (va_runV (As := [.int x3, .long v7, .int (x2 - v9), .int v11]) (rest := []) ⟨hx, hb, hml, hown, hts⟩ (ct_X11_onwards l b0 D cy M x0 x3 v7 (x2 - v9) v11 v13 h12) (cwV 4 hts gX11_open_X11_onwards rfl rfl rfl (by decide +kernel) ⟨Nat.le_of_ble_eq_true rfl, Nat.le_of_ble_eq_true rfl⟩) (xp_V hP hK hN hS hb0 11 rfl (gk_X11_onwards h12)) rfl rfl hl.1 rfl (lv_room (Nat.le_of_ble_eq_true rfl)) dX11_open_78 ⟨Nat.le_of_ble_eq_true rfl, Nat.le_of_ble_eq_true rfl⟩) hS (fun H locs hP hS => ?_)
        exact nd_X11_open_81 CX (f_X11_open_L2 fu) ih _ _ _ _ _ _ _ _ _ hF hP hS (lv_sub hl [0, 1, 2, 3] rfl)
      · replace hF := it_t hF c5
        refine lv_aload_n hx hb dX11_open_20 rfl (lv_at hl 0 rfl) ?_
        refine lv_iload_n hx hb dX11_open_21 rfl (lv_at hl 3 rfl) ?_
        refine lv_aload_n hx hb dX11_open_22 rfl (lv_at hl 0 rfl) ?_
        refine xr_getR hx hb hts iw_X11_open_11 hown hK hP hF 11 52 rfl (by decide) (by decide +kernel) ⟨rfl, rfl, rfl⟩ dX11_open_23 (fun v14 hF => ?_)
        refine lv_aload_n hx hb dX11_open_26 rfl (lv_at hl 0 rfl) ?_
        refine xr_getR hx hb hts iw_X11_open_11 hown hK hP hF 11 4 rfl (by decide) (by decide +kernel) ⟨rfl, rfl, rfl⟩ dX11_open_27 (fun v15 hF => ?_)
        refine lv_iload_n hx hb dX11_open_30 rfl (lv_at hl 3 rfl) ?_
        refine xr_aI hx hb hK hP hF dX11_open_31 (fun v16 hF => ?_)
        refine xr_aJ hx hb hK hP hF dX11_open_32 (fun v17 hF => ?_)
        refine lv_aload_n hx hb dX11_open_33 rfl (lv_at hl 0 rfl) ?_
        refine xr_getR hx hb hts iw_X11_open_11 hown hK hP hF 11 5 rfl (by decide) (by decide +kernel) ⟨rfl, rfl, rfl⟩ dX11_open_34 (fun v18 hF => ?_)
        refine lv_iload_n hx hb dX11_open_37 rfl (lv_at hl 3 rfl) ?_
        refine xr_aJ hx hb hK hP hF dX11_open_38 (fun v19 hF => ?_)
        refine lv_ladd hx hb dX11_open_39 ?_
        obtain ⟨v21, h20, hF⟩ := ob_some hF
        refine xr_call1 (va_runV (As := [.int x3, .long (v17 + v19)]) (rest := []) ⟨hx, hb, hml, hown, hts⟩ (ct_X11_cut l b0 D cy M x0 x3 (v17 + v19) v21 h20) (cwV 2 hts gX11_open_X11_cut rfl rfl rfl (by decide +kernel) ⟨Nat.le_of_ble_eq_true rfl, Nat.le_of_ble_eq_true rfl⟩) (xp_V hP hK hN hS hb0 11 rfl (gk_X11_cut h20)) rfl rfl hl.1 rfl (lv_room (Nat.le_of_ble_eq_true rfl)) dX11_open_40 ⟨Nat.le_of_ble_eq_true rfl, Nat.le_of_ble_eq_true rfl⟩) hS (fun H locs hP hS => ?_)
        refine lv_goto (tgt := 81) hx hb dX11_open_43 (by decide) ?_
        exact nd_X11_open_81 CX (f_X11_open_L2 fu) ih _ _ _ _ _ _ _ _ _ hF hP hS (lv_sub hl [0, 1, 2, 3] rfl)
theorem gk_X11_open {M : Mm} {a0 : Nat} {a1 : Int32} {a2 : Int32} {r : Mm} (h : f_X11_open M a0 a1 a2 = some r) : mK M a0 = 12 := by
  unfold f_X11_open at h
  exact (if_some h).1
set_option maxHeartbeats 4000000 in
set_option maxRecDepth 100000 in
theorem ct_X11_open (l : Launch) (b0 : Nat) (D : va_G) (cy : Nat → ClassId) (M : Mm) (a0 : Nat) (a1 : Int32) (a2 : Int32) (M1 : Mm) (hF : f_X11_open M a0 a1 a2 = some M1) : Met l yX11_open wsX11_open rm_X11_open (va_Pc [.ref a0, .int a1, .int a2] (Pm b0 D cy M)) (Qm b0 D cy M1 none) 0 0 (BA b0) := by
  refine ct_of [.ref a0, .int a1, .int a2] (by decide) rfl ?_
  intro p e s m below meth c CX hP
  obtain ⟨hx, hb, hr, hml, hown0, hts, hlk, hK, hN, hb0, hnm⟩ := id CX
  have hown : s.vm.findClass RX11 = some m.cls := hown0
  have hS : va_S (BA b0) s.heap s.heap [] := va_S.rf
  have hl := lv_entry [.ref a0, .int a1, .int a2] (n := 6) (Nat.le_of_ble_eq_true rfl)
  generalize (lg_sl [.ref a0, .int a1, .int a2] ++ List.replicate (6 - (lg_sl [.ref a0, .int a1, .int a2]).length) Slot.unset).toArray = ls at hl ⊢
  have hl : lv_has ls 6 [(0, .ref a0), (1, .int a1), (2, .int a2)] := hl
  unfold f_X11_open at hF
  replace hF := (if_some hF).2
  refine lv_iconst (v := 0) hx hb dX11_open_0 (by decide) ?_
  refine lv_istore_n (lv' := [(3, .int 0), (0, .ref a0), (1, .int a1), (2, .int a2)]) hx hb dX11_open_1 rfl hl (by decide) (by first | rfl | simp [cat_rf]) (fun ls hl => ?_)
  exact nd_X11_open_2 CX _ _ _ _ _ _ _ _ _ hF hP hS (lv_sub hl [1, 2, 3, 0] rfl)
/-! X11_isUnlike -/
theorem iw_X11_isUnlike_11 : ∀ w ∈ u_ws RX11 TX11 58, w ∈ wsX11_isUnlike := by decide +kernel
abbrev rm_X11_isUnlike : Room := { frames := 1, cells := 0, slots := 0, locals := 24 }
set_option maxHeartbeats 4000000 in
set_option maxRecDepth 100000 in
theorem nd_X11_isUnlike_5 {p : Program} {l : Launch} {e : Env} {s : State} {m : MethodId} {args : Array Value} {below : List Frame} {meth : Method} {c : Code} {b0 : Nat} {D : va_G} {cy : Nat → ClassId} {r : Int32} {M : Mm} (CX : Cx yX11_isUnlike cX11_isUnlike 3 (some .boolean) wsX11_isUnlike b0 D cy p s m args meth c) : ∀ (fu : Nat), ∀ (x0 : Nat) (x1 : Int32) (x2 : Int32) (H : Heap) (locs : List Loc) (ls : Array Slot), f_X11_isUnlike_L5 M fu x0 x1 x2 = some r → Hp b0 D cy M H → va_S (BA b0) s.heap H locs → lv_has ls 3 [(0, .ref x0), (1, .int x1), (2, .int x2)] → W p l e rm_X11_isUnlike s m args below meth c H locs 0 0 (MQ below (Qm b0 D cy M (some (.int r))) args s 0 0 (BA b0)) (F0 m 5 ls []) := by
  obtain ⟨hx, hb, hr, hml, hown0, hts, hlk, hK, hN, hb0, hnm⟩ := id CX
  have hown : s.vm.findClass RX11 = some m.cls := hown0
  intro fu
  induction fu with
  | zero =>
    intro x0 x1 x2 H locs ls hF hP hS hl
    rw [f_X11_isUnlike_L5] at hF
    cases hF
  | succ fu ih =>
    intro x0 x1 x2 H locs ls hF hP hS hl
    rw [f_X11_isUnlike_L5] at hF
    refine lv_iload_n hx hb dX11_isUnlike_5 rfl (lv_at hl 2 rfl) ?_
    refine lv_aload_n hx hb dX11_isUnlike_6 rfl (lv_at hl 0 rfl) ?_
    refine xr_getI hx hb hts iw_X11_isUnlike_11 hown hK hP hF 11 1 rfl (by decide) (by decide +kernel) ⟨rfl, rfl, rfl⟩ dX11_isUnlike_7 (fun v1 hF => ?_)
    refine lv_icmp_ge (tgt := 32) hx hb dX11_isUnlike_10 (by decide) (fun c2 => ?_) (fun c2 => ?_)
    · replace hF := it_t hF c2
      refine lv_iload_n hx hb dX11_isUnlike_32 rfl (lv_at hl 1 rfl) ?_
      refine lv_i2l hx hb dX11_isUnlike_33 rfl ?_
      refine lv_aload_n hx hb dX11_isUnlike_34 rfl (lv_at hl 0 rfl) ?_
      refine xr_getJ hx hb hts iw_X11_isUnlike_11 hown hK hP hF 11 51 rfl (by decide) (by decide +kernel) ⟨rfl, rfl, rfl⟩ dX11_isUnlike_35 (fun v3 hF => ?_)
      refine W.lcmp hx hb dX11_isUnlike_38 ?_
      refine lv_if_eq (tgt := 46) hx hb dX11_isUnlike_39 (by decide) (fun c4 => ?_) (fun c4 => ?_)
      · replace hF := it_t hF c4
        refine lv_iconst (v := 0) hx hb dX11_isUnlike_46 (by decide) ?_
        cases hF
        exact W.zret hx hb hr rfl (fun t ht hW => ⟨rfl, by rw [ht]; exact hP, hS.F ht⟩) hS.2.2 dX11_isUnlike_47 hlk
      · replace hF := it_f hF c4
        refine lv_iconst (v := 1) hx hb dX11_isUnlike_42 (by decide) ?_
        refine lv_goto (tgt := 47) hx hb dX11_isUnlike_43 (by decide) ?_
        cases hF
        exact W.zret hx hb hr rfl (fun t ht hW => ⟨rfl, by rw [ht]; exact hP, hS.F ht⟩) hS.2.2 dX11_isUnlike_47 hlk
    · replace hF := it_f hF c2
      refine lv_aload_n hx hb dX11_isUnlike_13 rfl (lv_at hl 0 rfl) ?_
      refine lv_iload_n hx hb dX11_isUnlike_14 rfl (lv_at hl 1 rfl) ?_
      refine lv_i2l hx hb dX11_isUnlike_15 rfl ?_
      refine lv_aload_n hx hb dX11_isUnlike_16 rfl (lv_at hl 0 rfl) ?_
      refine xr_getR hx hb hts iw_X11_isUnlike_11 hown hK hP hF 11 52 rfl (by decide) (by decide +kernel) ⟨rfl, rfl, rfl⟩ dX11_isUnlike_17 (fun v5 hF => ?_)
      refine lv_iload_n hx hb dX11_isUnlike_20 rfl (lv_at hl 2 rfl) ?_
      refine xr_aJ hx hb hK hP hF dX11_isUnlike_21 (fun v6 hF => ?_)
      obtain ⟨v8, h7, hF⟩ := ob_some hF
      refine xr_call1 (va_runV (As := [.long x1.toInt64, .long v6]) (rest := []) ⟨hx, hb, hml, hown, hts⟩ (ct_X11_sumOf l b0 D cy M x0 x1.toInt64 v6 v8 h7) (cwV 2 hts gX11_isUnlike_X11_sumOf rfl rfl rfl (by decide +kernel) ⟨Nat.le_of_ble_eq_true rfl, Nat.le_of_ble_eq_true rfl⟩) (xp_V hP hK hN hS hb0 11 rfl (gk_X11_sumOf h7)) rfl rfl hl.1 rfl (lv_room (Nat.le_of_ble_eq_true rfl)) dX11_isUnlike_22 ⟨Nat.le_of_ble_eq_true rfl, Nat.le_of_ble_eq_true rfl⟩) hS (fun H locs hP hS => ?_)
      refine lv_istore_n (lv' := [(1, .int v8), (0, .ref x0), (2, .int x2)]) hx hb dX11_isUnlike_25 rfl hl (by decide) (by first | rfl | simp [cat_rf]) (fun ls hl => ?_)
      refine lv_iinc (v := x2 + 1) (lv' := [(2, .int (x2 + 1)), (1, .int v8), (0, .ref x0)]) hx hb dX11_isUnlike_26 hl (k := 2) rfl (by rfl) (by decide) rfl (fun ls hl => ?_)
      refine lv_goto (tgt := 5) hx hb dX11_isUnlike_29 (by decide) ?_
      exact ih _ _ _ _ _ _ hF hP hS (lv_sub hl [2, 1, 0] rfl)
theorem gk_X11_isUnlike {M : Mm} {a0 : Nat} {r : Int32} (h : f_X11_isUnlike M a0 = some r) : mK M a0 = 12 := by
  unfold f_X11_isUnlike at h
  exact (if_some h).1
set_option maxHeartbeats 4000000 in
set_option maxRecDepth 100000 in
theorem ct_X11_isUnlike (l : Launch) (b0 : Nat) (D : va_G) (cy : Nat → ClassId) (M : Mm) (a0 : Nat) (r : Int32) (hF : f_X11_isUnlike M a0 = some r) : Met l yX11_isUnlike wsX11_isUnlike rm_X11_isUnlike (va_Pc [.ref a0] (Pm b0 D cy M)) (Qm b0 D cy M (some (.int r))) 0 0 (BA b0) := by
  refine ct_of [.ref a0] (by decide) rfl ?_
  intro p e s m below meth c CX hP
  obtain ⟨hx, hb, hr, hml, hown0, hts, hlk, hK, hN, hb0, hnm⟩ := id CX
  have hown : s.vm.findClass RX11 = some m.cls := hown0
  have hS : va_S (BA b0) s.heap s.heap [] := va_S.rf
  have hl := lv_entry [.ref a0] (n := 3) (Nat.le_of_ble_eq_true rfl)
  generalize (lg_sl [.ref a0] ++ List.replicate (3 - (lg_sl [.ref a0]).length) Slot.unset).toArray = ls at hl ⊢
  have hl : lv_has ls 3 [(0, .ref a0)] := hl
  unfold f_X11_isUnlike at hF
  replace hF := (if_some hF).2
  refine lv_bipush (v := 17) hx hb dX11_isUnlike_0 (by decide) ?_
  refine lv_istore_n (lv' := [(1, .int 17), (0, .ref a0)]) hx hb dX11_isUnlike_2 rfl hl (by decide) (by first | rfl | simp [cat_rf]) (fun ls hl => ?_)
  refine lv_iconst (v := 0) hx hb dX11_isUnlike_3 (by decide) ?_
  refine lv_istore_n (lv' := [(2, .int 0), (1, .int 17), (0, .ref a0)]) hx hb dX11_isUnlike_4 rfl hl (by decide) (by first | rfl | simp [cat_rf]) (fun ls hl => ?_)
  exact nd_X11_isUnlike_5 CX _ _ _ _ _ _ _ hF hP hS (lv_sub hl [2, 1, 0] rfl)
/-! X11_opened -/
theorem iw_X11_opened_11 : ∀ w ∈ u_ws RX11 TX11 58, w ∈ wsX11_opened := by decide +kernel
abbrev rm_X11_opened : Room := { frames := 3, cells := 0, slots := 0, locals := 78 }
set_option maxHeartbeats 4000000 in
set_option maxRecDepth 100000 in
theorem nd_X11_opened_257 {p : Program} {l : Launch} {e : Env} {s : State} {m : MethodId} {args : Array Value} {below : List Frame} {meth : Method} {c : Code} {b0 : Nat} {D : va_G} {cy : Nat → ClassId} {M1 : Mm} {r : Int32} (CX : Cx yX11_opened cX11_opened 6 (some .int) wsX11_opened b0 D cy p s m args meth c) (k164 : Mm → Nat → Int32 → Int32 → Int32 → Option (Mm × Int32)) (hk164 : ∀ (M : Mm) (x0 : Nat) (x2 : Int32) (x3 : Int32) (x5 : Int32) (H : Heap) (locs : List Loc) (ls : Array Slot), k164 M x0 x2 x3 x5 = some (M1, r) → Hp b0 D cy M H → va_S (BA b0) s.heap H locs → lv_has ls 6 [(0, .ref x0), (2, .int x2), (3, .int x3), (5, .int x5)] → W p l e rm_X11_opened s m args below meth c H locs 0 0 (MQ below (Qm b0 D cy M1 (some (.int r))) args s 0 0 (BA b0)) (F0 m 164 ls [])) : ∀ (M : Mm) (x0 : Nat) (x2 : Int32) (x3 : Int32) (x5 : Int32) (s0 : Nat) (s1 : Int32) (s2 : Int32) (H : Heap) (locs : List Loc) (ls : Array Slot), f_X11_opened_J257 k164 M x0 x2 x3 x5 s0 s1 s2 = some (M1, r) → Hp b0 D cy M H → va_S (BA b0) s.heap H locs → lv_has ls 6 [(0, .ref x0), (2, .int x2), (3, .int x3), (5, .int x5)] → W p l e rm_X11_opened s m args below meth c H locs 0 0 (MQ below (Qm b0 D cy M1 (some (.int r))) args s 0 0 (BA b0)) (F0 m 257 ls [.int s2, .int s1, .ref s0]) := by
  obtain ⟨hx, hb, hr, hml, hown0, hts, hlk, hK, hN, hb0, hnm⟩ := id CX
  have hown : s.vm.findClass RX11 = some m.cls := hown0
  intro M x0 x2 x3 x5 s0 s1 s2 H locs ls hF hP hS hl
  unfold f_X11_opened_J257 at hF
  refine xr_wI hx hb hK hP hS hF dX11_opened_257 (fun M1 H locs hF hP hS => ?_)
  refine lv_iinc (v := x5 + 1) (lv' := [(5, .int (x5 + 1)), (0, .ref x0), (2, .int x2), (3, .int x3)]) hx hb dX11_opened_258 hl (k := 3) rfl (by rfl) (by decide) rfl (fun ls hl => ?_)
  refine lv_goto (tgt := 164) hx hb dX11_opened_261 (by decide) ?_
  exact hk164 _ _ _ _ _ _ _ _ hF hP hS (lv_sub hl [1, 2, 3, 0] rfl)
set_option maxHeartbeats 4000000 in
set_option maxRecDepth 100000 in
theorem nd_X11_opened_164 {p : Program} {l : Launch} {e : Env} {s : State} {m : MethodId} {args : Array Value} {below : List Frame} {meth : Method} {c : Code} {b0 : Nat} {D : va_G} {cy : Nat → ClassId} {M1 : Mm} {r : Int32} (CX : Cx yX11_opened cX11_opened 6 (some .int) wsX11_opened b0 D cy p s m args meth c) : ∀ (fu : Nat), ∀ (M : Mm) (x0 : Nat) (x2 : Int32) (x3 : Int32) (x5 : Int32) (H : Heap) (locs : List Loc) (ls : Array Slot), f_X11_opened_L164 fu M x0 x2 x3 x5 = some (M1, r) → Hp b0 D cy M H → va_S (BA b0) s.heap H locs → lv_has ls 6 [(0, .ref x0), (2, .int x2), (3, .int x3), (5, .int x5)] → W p l e rm_X11_opened s m args below meth c H locs 0 0 (MQ below (Qm b0 D cy M1 (some (.int r))) args s 0 0 (BA b0)) (F0 m 164 ls []) := by
  obtain ⟨hx, hb, hr, hml, hown0, hts, hlk, hK, hN, hb0, hnm⟩ := id CX
  have hown : s.vm.findClass RX11 = some m.cls := hown0
  intro fu
  induction fu with
  | zero =>
    intro M x0 x2 x3 x5 H locs ls hF hP hS hl
    rw [f_X11_opened_L164] at hF
    cases hF
  | succ fu ih =>
    intro M x0 x2 x3 x5 H locs ls hF hP hS hl
    rw [f_X11_opened_L164] at hF
    refine lv_iload hx hb dX11_opened_164 (lv_at hl 3 rfl) ?_
    refine lv_aload_n hx hb dX11_opened_166 rfl (lv_at hl 0 rfl) ?_
    refine xr_getI hx hb hts iw_X11_opened_11 hown hK hP hF 11 1 rfl (by decide) (by decide +kernel) ⟨rfl, rfl, rfl⟩ dX11_opened_167 (fun v1 hF => ?_)
    refine lv_icmp_ge (tgt := 264) hx hb dX11_opened_170 (by decide) (fun c2 => ?_) (fun c2 => ?_)
    · replace hF := it_t hF c2
      refine lv_aload_n hx hb dX11_opened_264 rfl (lv_at hl 0 rfl) ?_
      refine xr_getR hx hb hts iw_X11_opened_11 hown hK hP hF 11 32 rfl (by decide) (by decide +kernel) ⟨rfl, rfl, rfl⟩ dX11_opened_265 (fun v3 hF => ?_)
      refine lv_iload_n hx hb dX11_opened_268 rfl (lv_at hl 2 rfl) ?_
      refine lv_aload_n hx hb dX11_opened_269 rfl (lv_at hl 0 rfl) ?_
      refine xr_getI hx hb hts iw_X11_opened_11 hown hK hP hF 11 50 rfl (by decide) (by decide +kernel) ⟨rfl, rfl, rfl⟩ dX11_opened_270 (fun v4 hF => ?_)
      refine xr_wI hx hb hK hP hS hF dX11_opened_273 (fun M5 H locs hF hP hS => ?_)
      refine lv_iconst (v := 0) hx hb dX11_opened_274 (by decide) ?_
      cases hF
      exact W.iret hx hb hr (fun t ht hW => ⟨rfl, by rw [ht]; exact hP, hS.F ht⟩) hS.2.2 dX11_opened_275 hlk
    · replace hF := it_f hF c2
      refine lv_aload_n hx hb dX11_opened_173 rfl (lv_at hl 0 rfl) ?_
      refine xr_getR hx hb hts iw_X11_opened_11 hown hK hP hF 11 39 rfl (by decide) (by decide +kernel) ⟨rfl, rfl, rfl⟩ dX11_opened_174 (fun v6 hF => ?_)
      refine lv_iload hx hb dX11_opened_177 (lv_at hl 3 rfl) ?_
      refine lv_aload_n hx hb dX11_opened_179 rfl (lv_at hl 0 rfl) ?_
      refine xr_getR hx hb hts iw_X11_opened_11 hown hK hP hF 11 52 rfl (by decide) (by decide +kernel) ⟨rfl, rfl, rfl⟩ dX11_opened_180 (fun v7 hF => ?_)
      refine lv_iload hx hb dX11_opened_183 (lv_at hl 3 rfl) ?_
      refine xr_aJ hx hb hK hP hF dX11_opened_185 (fun v8 hF => ?_)
      refine xr_wJ hx hb hK hP hS hF dX11_opened_186 (fun M9 H locs hF hP hS => ?_)
      refine lv_aload_n hx hb dX11_opened_187 rfl (lv_at hl 0 rfl) ?_
      refine xr_getR hx hb hts iw_X11_opened_11 hown hK hP hF 11 40 rfl (by decide) (by decide +kernel) ⟨rfl, rfl, rfl⟩ dX11_opened_188 (fun v10 hF => ?_)
      refine lv_iload hx hb dX11_opened_191 (lv_at hl 3 rfl) ?_
      refine lv_aload_n hx hb dX11_opened_193 rfl (lv_at hl 0 rfl) ?_
      refine xr_getR hx hb hts iw_X11_opened_11 hown hK hP hF 11 46 rfl (by decide) (by decide +kernel) ⟨rfl, rfl, rfl⟩ dX11_opened_194 (fun v11 hF => ?_)
      refine lv_iload hx hb dX11_opened_197 (lv_at hl 3 rfl) ?_
      refine xr_aI hx hb hK hP hF dX11_opened_199 (fun v12 hF => ?_)
      refine xr_wI hx hb hK hP hS hF dX11_opened_200 (fun M13 H locs hF hP hS => ?_)
      refine lv_aload_n hx hb dX11_opened_201 rfl (lv_at hl 0 rfl) ?_
      refine xr_getR hx hb hts iw_X11_opened_11 hown hK hP hF 11 34 rfl (by decide) (by decide +kernel) ⟨rfl, rfl, rfl⟩ dX11_opened_202 (fun v14 hF => ?_)
      refine lv_bipush (v := 8) hx hb dX11_opened_205 (by decide) ?_
      refine lv_iload_n hx hb dX11_opened_207 rfl (lv_at hl 2 rfl) ?_
      refine lv_imul hx hb dX11_opened_208 ?_
      refine lv_iload hx hb dX11_opened_209 (lv_at hl 3 rfl) ?_
      refine lv_iadd hx hb dX11_opened_211 ?_
      refine lv_aload_n hx hb dX11_opened_212 rfl (lv_at hl 0 rfl) ?_
      refine xr_getR hx hb hts iw_X11_opened_11 hown hK hP hF 11 52 rfl (by decide) (by decide +kernel) ⟨rfl, rfl, rfl⟩ dX11_opened_213 (fun v15 hF => ?_)
      refine lv_iload hx hb dX11_opened_216 (lv_at hl 3 rfl) ?_
      refine xr_aJ hx hb hK hP hF dX11_opened_218 (fun v16 hF => ?_)
      refine xr_wJ hx hb hK hP hS hF dX11_opened_219 (fun M17 H locs hF hP hS => ?_)
      refine lv_aload_n hx hb dX11_opened_220 rfl (lv_at hl 0 rfl) ?_
      refine xr_getR hx hb hts iw_X11_opened_11 hown hK hP hF 11 33 rfl (by decide) (by decide +kernel) ⟨rfl, rfl, rfl⟩ dX11_opened_221 (fun v18 hF => ?_)
      refine lv_bipush (v := 8) hx hb dX11_opened_224 (by decide) ?_
      refine lv_iload_n hx hb dX11_opened_226 rfl (lv_at hl 2 rfl) ?_
      refine lv_imul hx hb dX11_opened_227 ?_
      refine lv_iload hx hb dX11_opened_228 (lv_at hl 3 rfl) ?_
      refine lv_iadd hx hb dX11_opened_230 ?_
      refine lv_iload_n hx hb dX11_opened_231 rfl (lv_at hl 1 rfl) ?_
      refine lv_if_ne (tgt := 245) hx hb dX11_opened_232 (by decide) (fun c19 => ?_) (fun c19 => ?_)
      · replace hF := it_f hF c19
        refine lv_aload_n hx hb dX11_opened_245 rfl (lv_at hl 0 rfl) ?_
        refine xr_getR hx hb hts iw_X11_opened_11 hown hK hP hF 11 33 rfl (by decide) (by decide +kernel) ⟨rfl, rfl, rfl⟩ dX11_opened_246 (fun v20 hF => ?_)
        refine lv_bipush (v := 8) hx hb dX11_opened_249 (by decide) ?_
        refine lv_iload_n hx hb dX11_opened_251 rfl (lv_at hl 2 rfl) ?_
        refine lv_imul hx hb dX11_opened_252 ?_
        refine lv_iload hx hb dX11_opened_253 (lv_at hl 3 rfl) ?_
        refine lv_iadd hx hb dX11_opened_255 ?_
        refine xr_aI hx hb hK hP hF dX11_opened_256 (fun v21 hF => ?_)
        exact nd_X11_opened_257 CX (f_X11_opened_L164 fu) ih _ _ _ _ _ _ _ _ _ _ _ hF hP hS (lv_sub hl [0, 1, 2, 3] rfl)
      · replace hF := it_t hF c19
        refine lv_aload_n hx hb dX11_opened_235 rfl (lv_at hl 0 rfl) ?_
        refine xr_getR hx hb hts iw_X11_opened_11 hown hK hP hF 11 49 rfl (by decide) (by decide +kernel) ⟨rfl, rfl, rfl⟩ dX11_opened_236 (fun v22 hF => ?_)
        refine lv_iload hx hb dX11_opened_239 (lv_at hl 3 rfl) ?_
        refine xr_aI hx hb hK hP hF dX11_opened_241 (fun v23 hF => ?_)
        refine lv_goto (tgt := 257) hx hb dX11_opened_242 (by decide) ?_
        exact nd_X11_opened_257 CX (f_X11_opened_L164 fu) ih _ _ _ _ _ _ _ _ _ _ _ hF hP hS (lv_sub hl [0, 1, 2, 3] rfl)
set_option maxHeartbeats 4000000 in
set_option maxRecDepth 100000 in
theorem nd_X11_opened_122 {p : Program} {l : Launch} {e : Env} {s : State} {m : MethodId} {args : Array Value} {below : List Frame} {meth : Method} {c : Code} {b0 : Nat} {D : va_G} {cy : Nat → ClassId} {M1 : Mm} {r : Int32} (CX : Cx yX11_opened cX11_opened 6 (some .int) wsX11_opened b0 D cy p s m args meth c) : ∀ (M : Mm) (x0 : Nat) (x2 : Int32) (x3 : Int32) (x4 : Int32) (s0 : Nat) (s1 : Int32) (H : Heap) (locs : List Loc) (ls : Array Slot), f_X11_opened_J122 M x0 x2 x3 x4 s0 s1 = some (M1, r) → Hp b0 D cy M H → va_S (BA b0) s.heap H locs → lv_has ls 6 [(0, .ref x0), (2, .int x2), (3, .int x3), (4, .int x4)] → W p l e rm_X11_opened s m args below meth c H locs 0 0 (MQ below (Qm b0 D cy M1 (some (.int r))) args s 0 0 (BA b0)) (F0 m 122 ls [.int s1, .ref s0]) := by
  obtain ⟨hx, hb, hr, hml, hown0, hts, hlk, hK, hN, hb0, hnm⟩ := id CX
  have hown : s.vm.findClass RX11 = some m.cls := hown0
  intro M x0 x2 x3 x4 s0 s1 H locs ls hF hP hS hl
  unfold f_X11_opened_J122 at hF
  refine xr_putI hx hb hts iw_X11_opened_11 hown hK hP hS hF 11 38 rfl (by decide) tyX11 tyX11_ok nmX11 (by decide +kernel) (Or.inl rfl) rfl ⟨rfl, rfl, rfl⟩ dX11_opened_122 (fun M1 H locs hF hP hS => ?_)
  refine lv_aload_n hx hb dX11_opened_125 rfl (lv_at hl 0 rfl) ?_
  refine lv_iload_n hx hb dX11_opened_126 rfl (lv_at hl 2 rfl) ?_
  refine xr_putI hx hb hts iw_X11_opened_11 hown hK hP hS hF 11 36 rfl (by decide) tyX11 tyX11_ok nmX11 (by decide +kernel) (Or.inl rfl) rfl ⟨rfl, rfl, rfl⟩ dX11_opened_127 (fun M2 H locs hF hP hS => ?_)
  refine lv_aload_n hx hb dX11_opened_130 rfl (lv_at hl 0 rfl) ?_
  refine lv_iload hx hb dX11_opened_131 (lv_at hl 3 rfl) ?_
  refine xr_putI hx hb hts iw_X11_opened_11 hown hK hP hS hF 11 37 rfl (by decide) tyX11 tyX11_ok nmX11 (by decide +kernel) (Or.inl rfl) rfl ⟨rfl, rfl, rfl⟩ dX11_opened_133 (fun M3 H locs hF hP hS => ?_)
  refine lv_aload_n hx hb dX11_opened_136 rfl (lv_at hl 0 rfl) ?_
  refine lv_dup hx hb dX11_opened_137 rfl ?_
  refine xr_getI hx hb hts iw_X11_opened_11 hown hK hP hF 11 35 rfl (by decide) (by decide +kernel) ⟨rfl, rfl, rfl⟩ dX11_opened_138 (fun v4 hF => ?_)
  refine lv_iconst (v := 1) hx hb dX11_opened_141 (by decide) ?_
  refine lv_iadd hx hb dX11_opened_142 ?_
  refine xr_putI hx hb hts iw_X11_opened_11 hown hK hP hS hF 11 35 rfl (by decide) tyX11 tyX11_ok nmX11 (by decide +kernel) (Or.inl rfl) rfl ⟨rfl, rfl, rfl⟩ dX11_opened_143 (fun M5 H locs hF hP hS => ?_)
  refine lv_aload_n hx hb dX11_opened_146 rfl (lv_at hl 0 rfl) ?_
  refine xr_getR hx hb hts iw_X11_opened_11 hown hK hP hF 11 30 rfl (by decide) (by decide +kernel) ⟨rfl, rfl, rfl⟩ dX11_opened_147 (fun v6 hF => ?_)
  refine lv_iload_n hx hb dX11_opened_150 rfl (lv_at hl 2 rfl) ?_
  refine lv_iconst (v := 1) hx hb dX11_opened_151 (by decide) ?_
  refine xr_wZ hx hb hK hP hS hF dX11_opened_152 (fun M7 H locs hF hP hS => ?_)
  refine lv_aload_n hx hb dX11_opened_153 rfl (lv_at hl 0 rfl) ?_
  refine xr_getR hx hb hts iw_X11_opened_11 hown hK hP hF 11 31 rfl (by decide) (by decide +kernel) ⟨rfl, rfl, rfl⟩ dX11_opened_154 (fun v8 hF => ?_)
  refine lv_iload_n hx hb dX11_opened_157 rfl (lv_at hl 2 rfl) ?_
  refine lv_iload hx hb dX11_opened_158 (lv_at hl 3 rfl) ?_
  refine xr_wI hx hb hK hP hS hF dX11_opened_160 (fun M9 H locs hF hP hS => ?_)
  refine lv_iconst (v := 0) hx hb dX11_opened_161 (by decide) ?_
  refine lv_istore (lv' := [(5, .int 0), (0, .ref x0), (2, .int x2), (3, .int x3), (4, .int x4)]) hx hb dX11_opened_162 hl (by decide) (by first | rfl | simp [cat_rf]) (fun ls hl => ?_)
  exact nd_X11_opened_164 CX _ _ _ _ _ _ _ _ _ hF hP hS (lv_sub hl [1, 2, 3, 0] rfl)
set_option maxHeartbeats 4000000 in
set_option maxRecDepth 100000 in
theorem nd_X11_opened_107 {p : Program} {l : Launch} {e : Env} {s : State} {m : MethodId} {args : Array Value} {below : List Frame} {meth : Method} {c : Code} {b0 : Nat} {D : va_G} {cy : Nat → ClassId} {M1 : Mm} {r : Int32} (CX : Cx yX11_opened cX11_opened 6 (some .int) wsX11_opened b0 D cy p s m args meth c) : ∀ (M : Mm) (x0 : Nat) (x2 : Int32) (x3 : Int32) (x4 : Int32) (H : Heap) (locs : List Loc) (ls : Array Slot), f_X11_opened_J107 M x0 x2 x3 x4 = some (M1, r) → Hp b0 D cy M H → va_S (BA b0) s.heap H locs → lv_has ls 6 [(0, .ref x0), (2, .int x2), (3, .int x3), (4, .int x4)] → W p l e rm_X11_opened s m args below meth c H locs 0 0 (MQ below (Qm b0 D cy M1 (some (.int r))) args s 0 0 (BA b0)) (F0 m 107 ls []) := by
  obtain ⟨hx, hb, hr, hml, hown0, hts, hlk, hK, hN, hb0, hnm⟩ := id CX
  have hown : s.vm.findClass RX11 = some m.cls := hown0
  intro M x0 x2 x3 x4 H locs ls hF hP hS hl
  unfold f_X11_opened_J107 at hF
  refine lv_aload_n hx hb dX11_opened_107 rfl (lv_at hl 0 rfl) ?_
  refine lv_iload_n hx hb dX11_opened_108 rfl (lv_at hl 1 rfl) ?_
  refine lv_if_le (tgt := 121) hx hb dX11_opened_109 (by decide) (fun c1 => ?_) (fun c1 => ?_)
  · replace hF := it_t hF c1
    refine lv_iconst (v := (-1)) hx hb dX11_opened_121 (by decide) ?_
    exact nd_X11_opened_122 CX _ _ _ _ _ _ _ _ _ _ hF hP hS (lv_sub hl [0, 1, 2, 3] rfl)
  · replace hF := it_f hF c1
    refine lv_aload_n hx hb dX11_opened_112 rfl (lv_at hl 0 rfl) ?_
    refine xr_getR hx hb hts iw_X11_opened_11 hown hK hP hF 11 31 rfl (by decide) (by decide +kernel) ⟨rfl, rfl, rfl⟩ dX11_opened_113 (fun v2 hF => ?_)
    refine lv_iload_n hx hb dX11_opened_116 rfl (lv_at hl 2 rfl) ?_
    refine xr_aI hx hb hK hP hF dX11_opened_117 (fun v3 hF => ?_)
    refine lv_goto (tgt := 122) hx hb dX11_opened_118 (by decide) ?_
    exact nd_X11_opened_122 CX _ _ _ _ _ _ _ _ _ _ hF hP hS (lv_sub hl [0, 1, 2, 3] rfl)
set_option maxHeartbeats 4000000 in
set_option maxRecDepth 100000 in
theorem nd_X11_opened_87 {p : Program} {l : Launch} {e : Env} {s : State} {m : MethodId} {args : Array Value} {below : List Frame} {meth : Method} {c : Code} {b0 : Nat} {D : va_G} {cy : Nat → ClassId} {M1 : Mm} {r : Int32} (CX : Cx yX11_opened cX11_opened 6 (some .int) wsX11_opened b0 D cy p s m args meth c) : ∀ (M : Mm) (x0 : Nat) (x2 : Int32) (x3 : Int32) (x4 : Int32) (H : Heap) (locs : List Loc) (ls : Array Slot), f_X11_opened_J87 M x0 x2 x3 x4 = some (M1, r) → Hp b0 D cy M H → va_S (BA b0) s.heap H locs → lv_has ls 6 [(0, .ref x0), (2, .int x2), (3, .int x3), (4, .int x4)] → W p l e rm_X11_opened s m args below meth c H locs 0 0 (MQ below (Qm b0 D cy M1 (some (.int r))) args s 0 0 (BA b0)) (F0 m 87 ls []) := by
  obtain ⟨hx, hb, hr, hml, hown0, hts, hlk, hK, hN, hb0, hnm⟩ := id CX
  have hown : s.vm.findClass RX11 = some m.cls := hown0
  intro M x0 x2 x3 x4 H locs ls hF hP hS hl
  unfold f_X11_opened_J87 at hF
  refine lv_aload_n hx hb dX11_opened_87 rfl (lv_at hl 0 rfl) ?_
  refine lv_iload_n hx hb dX11_opened_88 rfl (lv_at hl 2 rfl) ?_
  refine lv_iload hx hb dX11_opened_89 (lv_at hl 3 rfl) ?_
  obtain ⟨M2, h1, hF⟩ := ob_some hF
  refine xr_call0 (va_runV (As := [.int x3, .int x4]) (rest := []) ⟨hx, hb, hml, hown, hts⟩ (ct_X11_open l b0 D cy M x0 x3 x4 M2 h1) (cwV 2 hts gX11_opened_X11_open rfl rfl rfl (by decide +kernel) ⟨Nat.le_of_ble_eq_true rfl, Nat.le_of_ble_eq_true rfl⟩) (xp_V hP hK hN hS hb0 11 rfl (gk_X11_open h1)) rfl rfl hl.1 rfl (lv_room (Nat.le_of_ble_eq_true rfl)) dX11_opened_91 ⟨Nat.le_of_ble_eq_true rfl, Nat.le_of_ble_eq_true rfl⟩) hS (fun H locs hP hS => ?_)
  refine lv_iload_n hx hb dX11_opened_94 rfl (lv_at hl 1 rfl) ?_
  refine lv_if_le (tgt := 107) hx hb dX11_opened_95 (by decide) (fun c3 => ?_) (fun c3 => ?_)
  · replace hF := it_t hF c3
    exact nd_X11_opened_107 CX _ _ _ _ _ _ _ _ hF hP hS (lv_sub hl [0, 1, 2, 3] rfl)
  · replace hF := it_f hF c3
    refine lv_aload_n hx hb dX11_opened_98 rfl (lv_at hl 0 rfl) ?_
    obtain ⟨v5, h4, hF⟩ := ob_some hF
    refine xr_call1 (va_runV (As := []) (rest := []) ⟨hx, hb, hml, hown, hts⟩ (ct_X11_isUnlike l b0 D cy M2 x0 v5 h4) (cwV 0 hts gX11_opened_X11_isUnlike rfl rfl rfl (by decide +kernel) ⟨Nat.le_of_ble_eq_true rfl, Nat.le_of_ble_eq_true rfl⟩) (xp_V hP hK hN hS hb0 11 rfl (gk_X11_isUnlike h4)) rfl rfl hl.1 rfl (lv_room (Nat.le_of_ble_eq_true rfl)) dX11_opened_99 ⟨Nat.le_of_ble_eq_true rfl, Nat.le_of_ble_eq_true rfl⟩) hS (fun H locs hP hS => ?_)
    refine lv_if_eq (tgt := 107) hx hb dX11_opened_102 (by decide) (fun c6 => ?_) (fun c6 => ?_)
    · replace hF := it_t hF c6
      exact nd_X11_opened_107 CX _ _ _ _ _ _ _ _ hF hP hS (lv_sub hl [0, 1, 2, 3] rfl)
    · replace hF := it_f hF c6
      refine lv_iconst (v := 4) hx hb dX11_opened_105 (by decide) ?_
      cases hF
      exact W.iret hx hb hr (fun t ht hW => ⟨rfl, by rw [ht]; exact hP, hS.F ht⟩) hS.2.2 dX11_opened_106 hlk
set_option maxHeartbeats 4000000 in
set_option maxRecDepth 100000 in
theorem nd_X11_opened_65 {p : Program} {l : Launch} {e : Env} {s : State} {m : MethodId} {args : Array Value} {below : List Frame} {meth : Method} {c : Code} {b0 : Nat} {D : va_G} {cy : Nat → ClassId} {M1 : Mm} {r : Int32} (CX : Cx yX11_opened cX11_opened 6 (some .int) wsX11_opened b0 D cy p s m args meth c) : ∀ (M : Mm) (x0 : Nat) (x2 : Int32) (x3 : Int32) (x4 : Int32) (H : Heap) (locs : List Loc) (ls : Array Slot), f_X11_opened_J65 M x0 x2 x3 x4 = some (M1, r) → Hp b0 D cy M H → va_S (BA b0) s.heap H locs → lv_has ls 6 [(0, .ref x0), (2, .int x2), (3, .int x3), (4, .int x4)] → W p l e rm_X11_opened s m args below meth c H locs 0 0 (MQ below (Qm b0 D cy M1 (some (.int r))) args s 0 0 (BA b0)) (F0 m 65 ls []) := by
  obtain ⟨hx, hb, hr, hml, hown0, hts, hlk, hK, hN, hb0, hnm⟩ := id CX
  have hown : s.vm.findClass RX11 = some m.cls := hown0
  intro M x0 x2 x3 x4 H locs ls hF hP hS hl
  unfold f_X11_opened_J65 at hF
  refine lv_iload_n hx hb dX11_opened_65 rfl (lv_at hl 1 rfl) ?_
  refine lv_if_le (tgt := 87) hx hb dX11_opened_66 (by decide) (fun c1 => ?_) (fun c1 => ?_)
  · replace hF := it_t hF c1
    exact nd_X11_opened_87 CX _ _ _ _ _ _ _ _ hF hP hS (lv_sub hl [0, 1, 2, 3] rfl)
  · replace hF := it_f hF c1
    refine lv_iload hx hb dX11_opened_69 (lv_at hl 3 rfl) ?_
    refine lv_aload_n hx hb dX11_opened_71 rfl (lv_at hl 0 rfl) ?_
    refine xr_getR hx hb hts iw_X11_opened_11 hown hK hP hF 11 31 rfl (by decide) (by decide +kernel) ⟨rfl, rfl, rfl⟩ dX11_opened_72 (fun v2 hF => ?_)
    refine lv_iload_n hx hb dX11_opened_75 rfl (lv_at hl 2 rfl) ?_
    refine xr_aI hx hb hK hP hF dX11_opened_76 (fun v3 hF => ?_)
    refine lv_aload_n hx hb dX11_opened_77 rfl (lv_at hl 0 rfl) ?_
    refine xr_getI hx hb hts iw_X11_opened_11 hown hK hP hF 11 7 rfl (by decide) (by decide +kernel) ⟨rfl, rfl, rfl⟩ dX11_opened_78 (fun v4 hF => ?_)
    refine lv_iadd hx hb dX11_opened_81 ?_
    refine lv_icmp_le (tgt := 87) hx hb dX11_opened_82 (by decide) (fun c5 => ?_) (fun c5 => ?_)
    · replace hF := it_t hF c5
      exact nd_X11_opened_87 CX _ _ _ _ _ _ _ _ hF hP hS (lv_sub hl [0, 1, 2, 3] rfl)
    · replace hF := it_f hF c5
      refine lv_iconst (v := 2) hx hb dX11_opened_85 (by decide) ?_
      cases hF
      exact W.iret hx hb hr (fun t ht hW => ⟨rfl, by rw [ht]; exact hP, hS.F ht⟩) hS.2.2 dX11_opened_86 hlk
set_option maxHeartbeats 4000000 in
set_option maxRecDepth 100000 in
theorem nd_X11_opened_43 {p : Program} {l : Launch} {e : Env} {s : State} {m : MethodId} {args : Array Value} {below : List Frame} {meth : Method} {c : Code} {b0 : Nat} {D : va_G} {cy : Nat → ClassId} {M1 : Mm} {r : Int32} (CX : Cx yX11_opened cX11_opened 6 (some .int) wsX11_opened b0 D cy p s m args meth c) : ∀ (M : Mm) (x0 : Nat) (x2 : Int32) (x3 : Int32) (x4 : Int32) (H : Heap) (locs : List Loc) (ls : Array Slot), f_X11_opened_J43 M x0 x2 x3 x4 = some (M1, r) → Hp b0 D cy M H → va_S (BA b0) s.heap H locs → lv_has ls 6 [(0, .ref x0), (2, .int x2), (3, .int x3), (4, .int x4)] → W p l e rm_X11_opened s m args below meth c H locs 0 0 (MQ below (Qm b0 D cy M1 (some (.int r))) args s 0 0 (BA b0)) (F0 m 43 ls []) := by
  obtain ⟨hx, hb, hr, hml, hown0, hts, hlk, hK, hN, hb0, hnm⟩ := id CX
  have hown : s.vm.findClass RX11 = some m.cls := hown0
  intro M x0 x2 x3 x4 H locs ls hF hP hS hl
  unfold f_X11_opened_J43 at hF
  refine lv_aload_n hx hb dX11_opened_43 rfl (lv_at hl 0 rfl) ?_
  refine xr_getR hx hb hts iw_X11_opened_11 hown hK hP hF 11 30 rfl (by decide) (by decide +kernel) ⟨rfl, rfl, rfl⟩ dX11_opened_44 (fun v1 hF => ?_)
  refine lv_iload_n hx hb dX11_opened_47 rfl (lv_at hl 2 rfl) ?_
  refine xr_aZ hx hb hK hP hF dX11_opened_48 (fun v2 hF => ?_)
  refine lv_if_eq (tgt := 65) hx hb dX11_opened_49 (by decide) (fun c3 => ?_) (fun c3 => ?_)
  · replace hF := it_t hF c3
    exact nd_X11_opened_65 CX _ _ _ _ _ _ _ _ hF hP hS (lv_sub hl [0, 1, 2, 3] rfl)
  · replace hF := it_f hF c3
    refine lv_iload hx hb dX11_opened_52 (lv_at hl 3 rfl) ?_
    refine lv_aload_n hx hb dX11_opened_54 rfl (lv_at hl 0 rfl) ?_
    refine xr_getR hx hb hts iw_X11_opened_11 hown hK hP hF 11 31 rfl (by decide) (by decide +kernel) ⟨rfl, rfl, rfl⟩ dX11_opened_55 (fun v4 hF => ?_)
    refine lv_iload_n hx hb dX11_opened_58 rfl (lv_at hl 2 rfl) ?_
    refine xr_aI hx hb hK hP hF dX11_opened_59 (fun v5 hF => ?_)
    refine lv_icmp_gt (tgt := 65) hx hb dX11_opened_60 (by decide) (fun c6 => ?_) (fun c6 => ?_)
    · replace hF := it_t hF c6
      exact nd_X11_opened_65 CX _ _ _ _ _ _ _ _ hF hP hS (lv_sub hl [0, 1, 2, 3] rfl)
    · replace hF := it_f hF c6
      refine lv_iconst (v := 1) hx hb dX11_opened_63 (by decide) ?_
      cases hF
      exact W.iret hx hb hr (fun t ht hW => ⟨rfl, by rw [ht]; exact hP, hS.F ht⟩) hS.2.2 dX11_opened_64 hlk
theorem gk_X11_opened {M : Mm} {a0 : Nat} {a1 : Int32} {a2 : Int32} {a3 : Int32} {a4 : Int32} {r : (Mm × Int32)} (h : f_X11_opened M a0 a1 a2 a3 a4 = some r) : mK M a0 = 12 := by
  unfold f_X11_opened at h
  exact (if_some h).1
set_option maxHeartbeats 4000000 in
set_option maxRecDepth 100000 in
theorem ct_X11_opened (l : Launch) (b0 : Nat) (D : va_G) (cy : Nat → ClassId) (M : Mm) (a0 : Nat) (a1 : Int32) (a2 : Int32) (a3 : Int32) (a4 : Int32) (M1 : Mm) (r : Int32) (hF : f_X11_opened M a0 a1 a2 a3 a4 = some (M1, r)) : Met l yX11_opened wsX11_opened rm_X11_opened (va_Pc [.ref a0, .int a1, .int a2, .int a3, .int a4] (Pm b0 D cy M)) (Qm b0 D cy M1 (some (.int r))) 0 0 (BA b0) := by
  refine ct_of [.ref a0, .int a1, .int a2, .int a3, .int a4] (by decide) rfl ?_
  intro p e s m below meth c CX hP
  obtain ⟨hx, hb, hr, hml, hown0, hts, hlk, hK, hN, hb0, hnm⟩ := id CX
  have hown : s.vm.findClass RX11 = some m.cls := hown0
  have hS : va_S (BA b0) s.heap s.heap [] := va_S.rf
  have hl := lv_entry [.ref a0, .int a1, .int a2, .int a3, .int a4] (n := 6) (Nat.le_of_ble_eq_true rfl)
  generalize (lg_sl [.ref a0, .int a1, .int a2, .int a3, .int a4] ++ List.replicate (6 - (lg_sl [.ref a0, .int a1, .int a2, .int a3, .int a4]).length) Slot.unset).toArray = ls at hl ⊢
  have hl : lv_has ls 6 [(0, .ref a0), (1, .int a1), (2, .int a2), (3, .int a3), (4, .int a4)] := hl
  unfold f_X11_opened at hF
  replace hF := (if_some hF).2
  refine lv_aload_n hx hb dX11_opened_0 rfl (lv_at hl 0 rfl) ?_
  refine lv_iload_n hx hb dX11_opened_1 rfl (lv_at hl 1 rfl) ?_
  refine lv_iload_n hx hb dX11_opened_2 rfl (lv_at hl 2 rfl) ?_
  obtain ⟨M2, h1, hF⟩ := ob_some hF
  refine xr_call0 (va_runV (As := [.int a1, .int a2]) (rest := []) ⟨hx, hb, hml, hown, hts⟩ (ct_X11_takeFields l b0 D cy M a0 a1 a2 M2 h1) (cwV 2 hts gX11_opened_X11_takeFields rfl rfl rfl (by decide +kernel) ⟨Nat.le_of_ble_eq_true rfl, Nat.le_of_ble_eq_true rfl⟩) (xp_V hP hK hN hS hb0 11 rfl (gk_X11_takeFields h1)) rfl rfl hl.1 rfl (lv_room (Nat.le_of_ble_eq_true rfl)) dX11_opened_3 ⟨Nat.le_of_ble_eq_true rfl, Nat.le_of_ble_eq_true rfl⟩) hS (fun H locs hP hS => ?_)
  refine lv_aload_n hx hb dX11_opened_6 rfl (lv_at hl 0 rfl) ?_
  refine xr_getI hx hb hts iw_X11_opened_11 hown hK hP hF 11 45 rfl (by decide) (by decide +kernel) ⟨rfl, rfl, rfl⟩ dX11_opened_7 (fun v3 hF => ?_)
  refine lv_if_eq (tgt := 15) hx hb dX11_opened_10 (by decide) (fun c4 => ?_) (fun c4 => ?_)
  · replace hF := it_t hF c4
    refine lv_iload_n hx hb dX11_opened_15 rfl (lv_at hl 2 rfl) ?_
    refine lv_if_le (tgt := 43) hx hb dX11_opened_16 (by decide) (fun c5 => ?_) (fun c5 => ?_)
    · replace hF := it_t hF c5
      exact nd_X11_opened_43 CX _ _ _ _ _ _ _ _ hF hP hS (lv_sub hl [0, 2, 3, 4] rfl)
    · replace hF := it_f hF c5
      refine lv_aload_n hx hb dX11_opened_19 rfl (lv_at hl 0 rfl) ?_
      refine xr_getR hx hb hts iw_X11_opened_11 hown hK hP hF 11 30 rfl (by decide) (by decide +kernel) ⟨rfl, rfl, rfl⟩ dX11_opened_20 (fun v6 hF => ?_)
      refine lv_iload_n hx hb dX11_opened_23 rfl (lv_at hl 3 rfl) ?_
      refine xr_aZ hx hb hK hP hF dX11_opened_24 (fun v7 hF => ?_)
      refine lv_if_eq (tgt := 41) hx hb dX11_opened_25 (by decide) (fun c8 => ?_) (fun c8 => ?_)
      · replace hF := it_t hF c8
        refine lv_iconst (v := 3) hx hb dX11_opened_41 (by decide) ?_
        cases hF
        exact W.iret hx hb hr (fun t ht hW => ⟨rfl, by rw [ht]; exact hP, hS.F ht⟩) hS.2.2 dX11_opened_42 hlk
      · replace hF := it_f hF c8
        refine lv_aload_n hx hb dX11_opened_28 rfl (lv_at hl 0 rfl) ?_
        refine xr_getR hx hb hts iw_X11_opened_11 hown hK hP hF 11 32 rfl (by decide) (by decide +kernel) ⟨rfl, rfl, rfl⟩ dX11_opened_29 (fun v9 hF => ?_)
        refine lv_iload_n hx hb dX11_opened_32 rfl (lv_at hl 3 rfl) ?_
        refine xr_aI hx hb hK hP hF dX11_opened_33 (fun v10 hF => ?_)
        refine lv_aload_n hx hb dX11_opened_34 rfl (lv_at hl 0 rfl) ?_
        refine xr_getI hx hb hts iw_X11_opened_11 hown hK hP hF 11 50 rfl (by decide) (by decide +kernel) ⟨rfl, rfl, rfl⟩ dX11_opened_35 (fun v11 hF => ?_)
        refine lv_icmp_eq (tgt := 43) hx hb dX11_opened_38 (by decide) (fun c12 => ?_) (fun c12 => ?_)
        · replace hF := it_t hF c12
          exact nd_X11_opened_43 CX _ _ _ _ _ _ _ _ hF hP hS (lv_sub hl [0, 2, 3, 4] rfl)
        · replace hF := it_f hF c12
          refine lv_iconst (v := 3) hx hb dX11_opened_41 (by decide) ?_
          cases hF
          exact W.iret hx hb hr (fun t ht hW => ⟨rfl, by rw [ht]; exact hP, hS.F ht⟩) hS.2.2 dX11_opened_42 hlk
  · replace hF := it_f hF c4
    refine lv_iconst (v := 5) hx hb dX11_opened_13 (by decide) ?_
    cases hF
    exact W.iret hx hb hr (fun t ht hW => ⟨rfl, by rw [ht]; exact hP, hS.F ht⟩) hS.2.2 dX11_opened_14 hlk
/-! X11_answered -/
theorem iw_X11_answered_11 : ∀ w ∈ u_ws RX11 TX11 58, w ∈ wsX11_answered := by decide +kernel
abbrev rm_X11_answered : Room := { frames := 2, cells := 0, slots := 0, locals := 48 }
set_option maxHeartbeats 4000000 in
set_option maxRecDepth 100000 in
theorem nd_X11_answered_51 {p : Program} {l : Launch} {e : Env} {s : State} {m : MethodId} {args : Array Value} {below : List Frame} {meth : Method} {c : Code} {b0 : Nat} {D : va_G} {cy : Nat → ClassId} {M1 : Mm} {r : Int32} (CX : Cx yX11_answered cX11_answered 6 (some .int) wsX11_answered b0 D cy p s m args meth c) : ∀ (fu : Nat), ∀ (M : Mm) (x0 : Nat) (x3 : Int32) (x4 : Int32) (x5 : Int32) (H : Heap) (locs : List Loc) (ls : Array Slot), f_X11_answered_L51 fu M x0 x3 x4 x5 = some (M1, r) → Hp b0 D cy M H → va_S (BA b0) s.heap H locs → lv_has ls 6 [(0, .ref x0), (3, .int x3), (4, .int x4), (5, .int x5)] → W p l e rm_X11_answered s m args below meth c H locs 0 0 (MQ below (Qm b0 D cy M1 (some (.int r))) args s 0 0 (BA b0)) (F0 m 51 ls []) := by
  obtain ⟨hx, hb, hr, hml, hown0, hts, hlk, hK, hN, hb0, hnm⟩ := id CX
  have hown : s.vm.findClass RX11 = some m.cls := hown0
  intro fu
  induction fu with
  | zero =>
    intro M x0 x3 x4 x5 H locs ls hF hP hS hl
    rw [f_X11_answered_L51] at hF
    cases hF
  | succ fu ih =>
    intro M x0 x3 x4 x5 H locs ls hF hP hS hl
    rw [f_X11_answered_L51] at hF
    refine lv_iload hx hb dX11_answered_51 (lv_at hl 3 rfl) ?_
    refine lv_aload_n hx hb dX11_answered_53 rfl (lv_at hl 0 rfl) ?_
    refine xr_getR hx hb hts iw_X11_answered_11 hown hK hP hF 11 13 rfl (by decide) (by decide +kernel) ⟨rfl, rfl, rfl⟩ dX11_answered_54 (fun v1 hF => ?_)
    refine lv_iload_n hx hb dX11_answered_57 rfl (lv_at hl 1 rfl) ?_
    refine xr_aI hx hb hK hP hF dX11_answered_58 (fun v2 hF => ?_)
    refine lv_icmp_ge (tgt := 98) hx hb dX11_answered_59 (by decide) (fun c3 => ?_) (fun c3 => ?_)
    · replace hF := it_t hF c3
      refine lv_bipush (v := 7) hx hb dX11_answered_98 (by decide) ?_
      cases hF
      exact W.iret hx hb hr (fun t ht hW => ⟨rfl, by rw [ht]; exact hP, hS.F ht⟩) hS.2.2 dX11_answered_100 hlk
    · replace hF := it_f hF c3
      refine lv_aload_n hx hb dX11_answered_62 rfl (lv_at hl 0 rfl) ?_
      refine xr_getR hx hb hts iw_X11_answered_11 hown hK hP hF 11 14 rfl (by decide) (by decide +kernel) ⟨rfl, rfl, rfl⟩ dX11_answered_63 (fun v4 hF => ?_)
      refine lv_bipush (v := 9) hx hb dX11_answered_66 (by decide) ?_
      refine lv_iload_n hx hb dX11_answered_68 rfl (lv_at hl 1 rfl) ?_
      refine lv_imul hx hb dX11_answered_69 ?_
      refine lv_iload hx hb dX11_answered_70 (lv_at hl 3 rfl) ?_
      refine lv_iadd hx hb dX11_answered_72 ?_
      refine xr_aI hx hb hK hP hF dX11_answered_73 (fun v5 hF => ?_)
      refine lv_ldc (v := 65536) hx hb hown (hts (.constant RX11 207 65536) (by decide +kernel)) dX11_answered_74 ?_
      refine lv_irem hx hb dX11_answered_76 (by decide) ?_
      refine lv_iload hx hb dX11_answered_77 (lv_at hl 2 rfl) ?_
      refine lv_icmp_ne (tgt := 92) hx hb dX11_answered_79 (by decide) (fun c6 => ?_) (fun c6 => ?_)
      · replace hF := it_f hF c6
        refine lv_iinc (v := x5 + 1) (lv' := [(5, .int (x5 + 1)), (0, .ref x0), (3, .int x3), (4, .int x4)]) hx hb dX11_answered_92 hl (k := 3) rfl (by rfl) (by decide) rfl (fun ls hl => ?_)
        refine lv_goto (tgt := 51) hx hb dX11_answered_95 (by decide) ?_
        exact ih _ _ _ _ _ _ _ _ hF hP hS (lv_sub hl [1, 2, 3, 0] rfl)
      · replace hF := it_t hF c6
        refine lv_aload_n hx hb dX11_answered_82 rfl (lv_at hl 0 rfl) ?_
        refine lv_iload_n hx hb dX11_answered_83 rfl (lv_at hl 1 rfl) ?_
        refine lv_iload hx hb dX11_answered_84 (lv_at hl 3 rfl) ?_
        obtain ⟨M8, h7, hF⟩ := ob_some hF
        refine xr_call0 (va_runV (As := [.int x3, .int x5]) (rest := []) ⟨hx, hb, hml, hown, hts⟩ (ct_X11_drop l b0 D cy M x0 x3 x5 M8 h7) (cwV 2 hts gX11_answered_X11_drop rfl rfl rfl (by decide +kernel) ⟨Nat.le_of_ble_eq_true rfl, Nat.le_of_ble_eq_true rfl⟩) (xp_V hP hK hN hS hb0 11 rfl (gk_X11_drop h7)) rfl rfl hl.1 rfl (lv_room (Nat.le_of_ble_eq_true rfl)) dX11_answered_86 ⟨Nat.le_of_ble_eq_true rfl, Nat.le_of_ble_eq_true rfl⟩) hS (fun H locs hP hS => ?_)
        refine lv_bipush (v := 6) hx hb dX11_answered_89 (by decide) ?_
        cases hF
        exact W.iret hx hb hr (fun t ht hW => ⟨rfl, by rw [ht]; exact hP, hS.F ht⟩) hS.2.2 dX11_answered_91 hlk
set_option maxHeartbeats 4000000 in
set_option maxRecDepth 100000 in
theorem nd_X11_answered_36 {p : Program} {l : Launch} {e : Env} {s : State} {m : MethodId} {args : Array Value} {below : List Frame} {meth : Method} {c : Code} {b0 : Nat} {D : va_G} {cy : Nat → ClassId} {M1 : Mm} {r : Int32} (CX : Cx yX11_answered cX11_answered 6 (some .int) wsX11_answered b0 D cy p s m args meth c) : ∀ (M : Mm) (x0 : Nat) (x3 : Int32) (s0 : Int32) (H : Heap) (locs : List Loc) (ls : Array Slot), f_X11_answered_J36 M x0 x3 s0 = some (M1, r) → Hp b0 D cy M H → va_S (BA b0) s.heap H locs → lv_has ls 6 [(0, .ref x0), (3, .int x3)] → W p l e rm_X11_answered s m args below meth c H locs 0 0 (MQ below (Qm b0 D cy M1 (some (.int r))) args s 0 0 (BA b0)) (F0 m 36 ls [.int s0]) := by
  obtain ⟨hx, hb, hr, hml, hown0, hts, hlk, hK, hN, hb0, hnm⟩ := id CX
  have hown : s.vm.findClass RX11 = some m.cls := hown0
  intro M x0 x3 s0 H locs ls hF hP hS hl
  unfold f_X11_answered_J36 at hF
  refine lv_istore (lv' := [(5, .int s0), (0, .ref x0), (3, .int x3)]) hx hb dX11_answered_36 hl (by decide) (by first | rfl | simp [cat_rf]) (fun ls hl => ?_)
  refine lv_aload_n hx hb dX11_answered_38 rfl (lv_at hl 1 rfl) ?_
  refine xr_getR hx hb hts iw_X11_answered_11 hown hK hP hF 11 12 rfl (by decide) (by decide +kernel) ⟨rfl, rfl, rfl⟩ dX11_answered_39 (fun v1 hF => ?_)
  refine lv_iload_n hx hb dX11_answered_42 rfl (lv_at hl 2 rfl) ?_
  refine lv_iconst (v := 1) hx hb dX11_answered_43 (by decide) ?_
  refine xr_wZ hx hb hK hP hS hF dX11_answered_44 (fun M2 H locs hF hP hS => ?_)
  refine lv_iload hx hb dX11_answered_45 (lv_at hl 0 rfl) ?_
  cases hF
  exact W.iret hx hb hr (fun t ht hW => ⟨rfl, by rw [ht]; exact hP, hS.F ht⟩) hS.2.2 dX11_answered_47 hlk
theorem gk_X11_answered {M : Mm} {a0 : Nat} {a1 : Int32} {a2 : Int32} {a3 : Int32} {a4 : Int32} {r : (Mm × Int32)} (h : f_X11_answered M a0 a1 a2 a3 a4 = some r) : mK M a0 = 12 := by
  unfold f_X11_answered at h
  exact (if_some h).1
set_option maxHeartbeats 4000000 in
set_option maxRecDepth 100000 in
theorem ct_X11_answered (l : Launch) (b0 : Nat) (D : va_G) (cy : Nat → ClassId) (M : Mm) (a0 : Nat) (a1 : Int32) (a2 : Int32) (a3 : Int32) (a4 : Int32) (M1 : Mm) (r : Int32) (hF : f_X11_answered M a0 a1 a2 a3 a4 = some (M1, r)) : Met l yX11_answered wsX11_answered rm_X11_answered (va_Pc [.ref a0, .int a1, .int a2, .int a3, .int a4] (Pm b0 D cy M)) (Qm b0 D cy M1 (some (.int r))) 0 0 (BA b0) := by
  refine ct_of [.ref a0, .int a1, .int a2, .int a3, .int a4] (by decide) rfl ?_
  intro p e s m below meth c CX hP
  obtain ⟨hx, hb, hr, hml, hown0, hts, hlk, hK, hN, hb0, hnm⟩ := id CX
  have hown : s.vm.findClass RX11 = some m.cls := hown0
  have hS : va_S (BA b0) s.heap s.heap [] := va_S.rf
  have hl := lv_entry [.ref a0, .int a1, .int a2, .int a3, .int a4] (n := 6) (Nat.le_of_ble_eq_true rfl)
  generalize (lg_sl [.ref a0, .int a1, .int a2, .int a3, .int a4] ++ List.replicate (6 - (lg_sl [.ref a0, .int a1, .int a2, .int a3, .int a4]).length) Slot.unset).toArray = ls at hl ⊢
  have hl : lv_has ls 6 [(0, .ref a0), (1, .int a1), (2, .int a2), (3, .int a3), (4, .int a4)] := hl
  unfold f_X11_answered at hF
  replace hF := (if_some hF).2
  refine lv_aload_n hx hb dX11_answered_0 rfl (lv_at hl 0 rfl) ?_
  refine lv_iload_n hx hb dX11_answered_1 rfl (lv_at hl 1 rfl) ?_
  refine lv_iconst (v := 1) hx hb dX11_answered_2 (by decide) ?_
  obtain ⟨M2, h1, hF⟩ := ob_some hF
  refine xr_call0 (va_runV (As := [.int a1, .int 1]) (rest := []) ⟨hx, hb, hml, hown, hts⟩ (ct_X11_takeEnd l b0 D cy M a0 a1 1 M2 h1) (cwV 2 hts gX11_answered_X11_takeEnd rfl rfl rfl (by decide +kernel) ⟨Nat.le_of_ble_eq_true rfl, Nat.le_of_ble_eq_true rfl⟩) (xp_V hP hK hN hS hb0 11 rfl (gk_X11_takeEnd h1)) rfl rfl hl.1 rfl (lv_room (Nat.le_of_ble_eq_true rfl)) dX11_answered_3 ⟨Nat.le_of_ble_eq_true rfl, Nat.le_of_ble_eq_true rfl⟩) hS (fun H locs hP hS => ?_)
  refine lv_aload_n hx hb dX11_answered_6 rfl (lv_at hl 0 rfl) ?_
  refine xr_getI hx hb hts iw_X11_answered_11 hown hK hP hF 11 45 rfl (by decide) (by decide +kernel) ⟨rfl, rfl, rfl⟩ dX11_answered_7 (fun v3 hF => ?_)
  refine lv_if_eq (tgt := 15) hx hb dX11_answered_10 (by decide) (fun c4 => ?_) (fun c4 => ?_)
  · replace hF := it_t hF c4
    refine lv_iload_n hx hb dX11_answered_15 rfl (lv_at hl 2 rfl) ?_
    refine lv_iconst (v := 3) hx hb dX11_answered_16 (by decide) ?_
    refine lv_icmp_le (tgt := 48) hx hb dX11_answered_17 (by decide) (fun c5 => ?_) (fun c5 => ?_)
    · replace hF := it_t hF c5
      refine lv_iconst (v := 0) hx hb dX11_answered_48 (by decide) ?_
      refine lv_istore (lv' := [(5, .int 0), (0, .ref a0), (1, .int a1), (2, .int a2), (3, .int a3), (4, .int a4)]) hx hb dX11_answered_49 hl (by decide) (by first | rfl | simp [cat_rf]) (fun ls hl => ?_)
      exact nd_X11_answered_51 CX _ _ _ _ _ _ _ _ _ hF hP hS (lv_sub hl [1, 4, 5, 0] rfl)
    · replace hF := it_f hF c5
      refine lv_aload_n hx hb dX11_answered_20 rfl (lv_at hl 0 rfl) ?_
      refine xr_getR hx hb hts iw_X11_answered_11 hown hK hP hF 11 12 rfl (by decide) (by decide +kernel) ⟨rfl, rfl, rfl⟩ dX11_answered_21 (fun v6 hF => ?_)
      refine lv_iload_n hx hb dX11_answered_24 rfl (lv_at hl 3 rfl) ?_
      refine xr_aZ hx hb hK hP hF dX11_answered_25 (fun v7 hF => ?_)
      refine lv_if_eq (tgt := 34) hx hb dX11_answered_26 (by decide) (fun c8 => ?_) (fun c8 => ?_)
      · replace hF := it_t hF c8
        refine lv_bipush (v := 6) hx hb dX11_answered_34 (by decide) ?_
        exact nd_X11_answered_36 CX _ _ _ _ _ _ _ hF hP hS (lv_sub hl [0, 3] rfl)
      · replace hF := it_f hF c8
        refine lv_bipush (v := 7) hx hb dX11_answered_29 (by decide) ?_
        refine lv_goto (tgt := 36) hx hb dX11_answered_31 (by decide) ?_
        exact nd_X11_answered_36 CX _ _ _ _ _ _ _ hF hP hS (lv_sub hl [0, 3] rfl)
  · replace hF := it_f hF c4
    refine lv_iconst (v := 5) hx hb dX11_answered_13 (by decide) ?_
    cases hF
    exact W.iret hx hb hr (fun t ht hW => ⟨rfl, by rw [ht]; exact hP, hS.F ht⟩) hS.2.2 dX11_answered_14 hlk
