/-! X11_send -/
theorem iw_X11_send_11 : ∀ w ∈ u_ws RX11 TX11 58, w ∈ wsX11_send := by decide +kernel
abbrev rm_X11_send : Room := { frames := 5, cells := 0, slots := 0, locals := 123 }
set_option maxHeartbeats 4000000 in
set_option maxRecDepth 100000 in
theorem nd_X11_send_184 {p : Program} {l : Launch} {e : Env} {s : State} {m : MethodId} {args : Array Value} {below : List Frame} {meth : Method} {c : Code} {b0 : Nat} {D : va_G} {cy : Nat → ClassId} {M1 : Mm} {r : Int32} (CX : Cx yX11_send cX11_send 7 (some .int) wsX11_send b0 D cy p s m args meth c) : ∀ (M : Mm) (x0 : Nat) (x1 : Int32) (x3 : Int32) (s0 : Int32) (H : Heap) (locs : List Loc) (ls : Array Slot), f_X11_send_J184 M x0 x1 x3 s0 = some (M1, r) → Hp b0 D cy M H → va_S (BA b0) s.heap H locs → lv_has ls 7 [(0, .ref x0), (1, .int x1), (3, .int x3)] → W p l e rm_X11_send s m args below meth c H locs 0 0 (MQ below (Qm b0 D cy M1 (some (.int r))) args s 0 0 (BA b0)) (F0 m 184 ls [.int s0]) := by
  obtain ⟨hx, hb, hr, hml, hown0, hts, hlk, hK, hN, hb0, hnm⟩ := id CX
  have hown : s.vm.findClass RX11 = some m.cls := hown0
  intro M x0 x1 x3 s0 H locs ls hF hP hS hl
  unfold f_X11_send_J184 at hF
  refine lv_istore (lv' := [(6, .int s0), (0, .ref x0), (1, .int x1), (3, .int x3)]) hx hb dX11_send_184 hl (by decide) (by first | rfl | simp [cat_rf]) (fun ls hl => ?_)
  refine lv_aload_n hx hb dX11_send_186 rfl (lv_at hl 1 rfl) ?_
  refine lv_iload_n hx hb dX11_send_187 rfl (lv_at hl 2 rfl) ?_
  refine lv_iload_n hx hb dX11_send_188 rfl (lv_at hl 3 rfl) ?_
  obtain ⟨M2, h1, hF⟩ := ob_some hF
  refine xr_call0 (va_runV (As := [.int x1, .int x3]) (rest := []) ⟨hx, hb, hml, hown, hts⟩ (ct_X11_refer l b0 D cy M x0 x1 x3 M2 h1) (cwV 2 hts gX11_send_X11_refer rfl rfl rfl (by decide +kernel) ⟨Nat.le_of_ble_eq_true rfl, Nat.le_of_ble_eq_true rfl⟩) (xp_V hP hK hN hS hb0 11 rfl (gk_X11_refer h1)) rfl rfl hl.1 rfl (lv_room (Nat.le_of_ble_eq_true rfl)) dX11_send_189 ⟨Nat.le_of_ble_eq_true rfl, Nat.le_of_ble_eq_true rfl⟩) hS (fun H locs hP hS => ?_)
  refine lv_iload hx hb dX11_send_192 (lv_at hl 0 rfl) ?_
  cases hF
  exact W.iret hx hb hr (fun t ht hW => ⟨rfl, by rw [ht]; exact hP, hS.F ht⟩) hS.2.2 dX11_send_194 hlk
set_option maxHeartbeats 4000000 in
set_option maxRecDepth 100000 in
theorem nd_X11_send_148 {p : Program} {l : Launch} {e : Env} {s : State} {m : MethodId} {args : Array Value} {below : List Frame} {meth : Method} {c : Code} {b0 : Nat} {D : va_G} {cy : Nat → ClassId} {M1 : Mm} {r : Int32} (CX : Cx yX11_send cX11_send 7 (some .int) wsX11_send b0 D cy p s m args meth c) : ∀ (M : Mm) (x0 : Nat) (x1 : Int32) (x3 : Int32) (x4 : Int32) (s0 : Int32) (H : Heap) (locs : List Loc) (ls : Array Slot), f_X11_send_J148 M x0 x1 x3 x4 s0 = some (M1, r) → Hp b0 D cy M H → va_S (BA b0) s.heap H locs → lv_has ls 7 [(0, .ref x0), (1, .int x1), (3, .int x3), (4, .int x4)] → W p l e rm_X11_send s m args below meth c H locs 0 0 (MQ below (Qm b0 D cy M1 (some (.int r))) args s 0 0 (BA b0)) (F0 m 148 ls [.int s0]) := by
  obtain ⟨hx, hb, hr, hml, hown0, hts, hlk, hK, hN, hb0, hnm⟩ := id CX
  have hown : s.vm.findClass RX11 = some m.cls := hown0
  intro M x0 x1 x3 x4 s0 H locs ls hF hP hS hl
  unfold f_X11_send_J148 at hF
  refine lv_istore (lv' := [(5, .int s0), (0, .ref x0), (1, .int x1), (3, .int x3), (4, .int x4)]) hx hb dX11_send_148 hl (by decide) (by first | rfl | simp [cat_rf]) (fun ls hl => ?_)
  refine lv_iload hx hb dX11_send_150 (lv_at hl 0 rfl) ?_
  refine lv_if_eq (tgt := 164) hx hb dX11_send_152 (by decide) (fun c1 => ?_) (fun c1 => ?_)
  · replace hF := it_t hF c1
    refine lv_iload hx hb dX11_send_164 (lv_at hl 4 rfl) ?_
    refine lv_if_eq (tgt := 178) hx hb dX11_send_166 (by decide) (fun c2 => ?_) (fun c2 => ?_)
    · replace hF := it_t hF c2
      refine lv_aload_n hx hb dX11_send_178 rfl (lv_at hl 1 rfl) ?_
      refine lv_iload_n hx hb dX11_send_179 rfl (lv_at hl 2 rfl) ?_
      refine lv_iload_n hx hb dX11_send_180 rfl (lv_at hl 3 rfl) ?_
      obtain ⟨M4, v5, h3, hF⟩ := ob2_some hF
      refine xr_call1 (va_runV (As := [.int x1, .int x3]) (rest := []) ⟨hx, hb, hml, hown, hts⟩ (ct_X11_sendPart l b0 D cy M x0 x1 x3 M4 v5 h3) (cwV 2 hts gX11_send_X11_sendPart rfl rfl rfl (by decide +kernel) ⟨Nat.le_of_ble_eq_true rfl, Nat.le_of_ble_eq_true rfl⟩) (xp_V hP hK hN hS hb0 11 rfl (gk_X11_sendPart h3)) rfl rfl hl.1 rfl (lv_room (Nat.le_of_ble_eq_true rfl)) dX11_send_181 ⟨Nat.le_of_ble_eq_true rfl, Nat.le_of_ble_eq_true rfl⟩) hS (fun H locs hP hS => ?_)
      exact nd_X11_send_184 CX _ _ _ _ _ _ _ _ hF hP hS (lv_sub hl [1, 2, 3] rfl)
    · replace hF := it_f hF c2
      refine lv_aload_n hx hb dX11_send_169 rfl (lv_at hl 1 rfl) ?_
      refine lv_iload_n hx hb dX11_send_170 rfl (lv_at hl 2 rfl) ?_
      refine lv_iload_n hx hb dX11_send_171 rfl (lv_at hl 3 rfl) ?_
      obtain ⟨M7, v8, h6, hF⟩ := ob2_some hF
      refine xr_call1 (va_runV (As := [.int x1, .int x3]) (rest := []) ⟨hx, hb, hml, hown, hts⟩ (ct_X11_sendShort l b0 D cy M x0 x1 x3 M7 v8 h6) (cwV 2 hts gX11_send_X11_sendShort rfl rfl rfl (by decide +kernel) ⟨Nat.le_of_ble_eq_true rfl, Nat.le_of_ble_eq_true rfl⟩) (xp_V hP hK hN hS hb0 11 rfl (gk_X11_sendShort h6)) rfl rfl hl.1 rfl (lv_room (Nat.le_of_ble_eq_true rfl)) dX11_send_172 ⟨Nat.le_of_ble_eq_true rfl, Nat.le_of_ble_eq_true rfl⟩) hS (fun H locs hP hS => ?_)
      refine lv_goto (tgt := 184) hx hb dX11_send_175 (by decide) ?_
      exact nd_X11_send_184 CX _ _ _ _ _ _ _ _ hF hP hS (lv_sub hl [1, 2, 3] rfl)
  · replace hF := it_f hF c1
    refine lv_aload_n hx hb dX11_send_155 rfl (lv_at hl 1 rfl) ?_
    refine lv_iload_n hx hb dX11_send_156 rfl (lv_at hl 2 rfl) ?_
    refine lv_iload_n hx hb dX11_send_157 rfl (lv_at hl 3 rfl) ?_
    obtain ⟨M10, v11, h9, hF⟩ := ob2_some hF
    refine xr_call1 (va_runV (As := [.int x1, .int x3]) (rest := []) ⟨hx, hb, hml, hown, hts⟩ (ct_X11_sendWhole l b0 D cy M x0 x1 x3 M10 v11 h9) (cwV 2 hts gX11_send_X11_sendWhole rfl rfl rfl (by decide +kernel) ⟨Nat.le_of_ble_eq_true rfl, Nat.le_of_ble_eq_true rfl⟩) (xp_V hP hK hN hS hb0 11 rfl (gk_X11_sendWhole h9)) rfl rfl hl.1 rfl (lv_room (Nat.le_of_ble_eq_true rfl)) dX11_send_158 ⟨Nat.le_of_ble_eq_true rfl, Nat.le_of_ble_eq_true rfl⟩) hS (fun H locs hP hS => ?_)
    refine lv_goto (tgt := 184) hx hb dX11_send_161 (by decide) ?_
    exact nd_X11_send_184 CX _ _ _ _ _ _ _ _ hF hP hS (lv_sub hl [1, 2, 3] rfl)
set_option maxHeartbeats 4000000 in
set_option maxRecDepth 100000 in
theorem nd_X11_send_143 {p : Program} {l : Launch} {e : Env} {s : State} {m : MethodId} {args : Array Value} {below : List Frame} {meth : Method} {c : Code} {b0 : Nat} {D : va_G} {cy : Nat → ClassId} {M1 : Mm} {r : Int32} (CX : Cx yX11_send cX11_send 7 (some .int) wsX11_send b0 D cy p s m args meth c) : ∀ (M : Mm) (x0 : Nat) (x1 : Int32) (x3 : Int32) (x4 : Int32) (H : Heap) (locs : List Loc) (ls : Array Slot), f_X11_send_J143 M x0 x1 x3 x4 = some (M1, r) → Hp b0 D cy M H → va_S (BA b0) s.heap H locs → lv_has ls 7 [(0, .ref x0), (1, .int x1), (3, .int x3), (4, .int x4)] → W p l e rm_X11_send s m args below meth c H locs 0 0 (MQ below (Qm b0 D cy M1 (some (.int r))) args s 0 0 (BA b0)) (F0 m 143 ls []) := by
  obtain ⟨hx, hb, hr, hml, hown0, hts, hlk, hK, hN, hb0, hnm⟩ := id CX
  have hown : s.vm.findClass RX11 = some m.cls := hown0
  intro M x0 x1 x3 x4 H locs ls hF hP hS hl
  unfold f_X11_send_J143 at hF
  refine lv_iconst (v := 1) hx hb dX11_send_143 (by decide) ?_
  refine lv_goto (tgt := 148) hx hb dX11_send_144 (by decide) ?_
  exact nd_X11_send_148 CX _ _ _ _ _ _ _ _ _ hF hP hS (lv_sub hl [0, 1, 2, 3] rfl)
set_option maxHeartbeats 4000000 in
set_option maxRecDepth 100000 in
theorem nd_X11_send_113 {p : Program} {l : Launch} {e : Env} {s : State} {m : MethodId} {args : Array Value} {below : List Frame} {meth : Method} {c : Code} {b0 : Nat} {D : va_G} {cy : Nat → ClassId} {M1 : Mm} {r : Int32} (CX : Cx yX11_send cX11_send 7 (some .int) wsX11_send b0 D cy p s m args meth c) (k72 : Mm → Nat → Int32 → Int32 → Int32 → Int32 → Int32 → Option (Mm × Int32)) (hk72 : ∀ (M : Mm) (x0 : Nat) (x1 : Int32) (x2 : Int32) (x3 : Int32) (x4 : Int32) (x5 : Int32) (H : Heap) (locs : List Loc) (ls : Array Slot), k72 M x0 x1 x2 x3 x4 x5 = some (M1, r) → Hp b0 D cy M H → va_S (BA b0) s.heap H locs → lv_has ls 7 [(0, .ref x0), (1, .int x1), (2, .int x2), (3, .int x3), (4, .int x4), (5, .int x5)] → W p l e rm_X11_send s m args below meth c H locs 0 0 (MQ below (Qm b0 D cy M1 (some (.int r))) args s 0 0 (BA b0)) (F0 m 72 ls [])) : ∀ (M : Mm) (x0 : Nat) (x1 : Int32) (x2 : Int32) (x3 : Int32) (x5 : Int32) (s0 : Int32) (H : Heap) (locs : List Loc) (ls : Array Slot), f_X11_send_J113 k72 M x0 x1 x2 x3 x5 s0 = some (M1, r) → Hp b0 D cy M H → va_S (BA b0) s.heap H locs → lv_has ls 7 [(0, .ref x0), (1, .int x1), (2, .int x2), (3, .int x3), (5, .int x5)] → W p l e rm_X11_send s m args below meth c H locs 0 0 (MQ below (Qm b0 D cy M1 (some (.int r))) args s 0 0 (BA b0)) (F0 m 113 ls [.int s0]) := by
  obtain ⟨hx, hb, hr, hml, hown0, hts, hlk, hK, hN, hb0, hnm⟩ := id CX
  have hown : s.vm.findClass RX11 = some m.cls := hown0
  intro M x0 x1 x2 x3 x5 s0 H locs ls hF hP hS hl
  unfold f_X11_send_J113 at hF
  refine lv_istore (lv' := [(4, .int s0), (0, .ref x0), (1, .int x1), (2, .int x2), (3, .int x3), (5, .int x5)]) hx hb dX11_send_113 hl (by decide) (by first | rfl | simp [cat_rf]) (fun ls hl => ?_)
  refine lv_iinc (v := x5 + 1) (lv' := [(5, .int (x5 + 1)), (4, .int s0), (0, .ref x0), (1, .int x1), (2, .int x2), (3, .int x3)]) hx hb dX11_send_115 hl (k := 5) rfl (by rfl) (by decide) rfl (fun ls hl => ?_)
  refine lv_goto (tgt := 72) hx hb dX11_send_118 (by decide) ?_
  exact hk72 _ _ _ _ _ _ _ _ _ _ hF hP hS (lv_sub hl [2, 3, 4, 5, 1, 0] rfl)
set_option maxHeartbeats 4000000 in
set_option maxRecDepth 100000 in
theorem nd_X11_send_112 {p : Program} {l : Launch} {e : Env} {s : State} {m : MethodId} {args : Array Value} {below : List Frame} {meth : Method} {c : Code} {b0 : Nat} {D : va_G} {cy : Nat → ClassId} {M1 : Mm} {r : Int32} (CX : Cx yX11_send cX11_send 7 (some .int) wsX11_send b0 D cy p s m args meth c) (k72 : Mm → Nat → Int32 → Int32 → Int32 → Int32 → Int32 → Option (Mm × Int32)) (hk72 : ∀ (M : Mm) (x0 : Nat) (x1 : Int32) (x2 : Int32) (x3 : Int32) (x4 : Int32) (x5 : Int32) (H : Heap) (locs : List Loc) (ls : Array Slot), k72 M x0 x1 x2 x3 x4 x5 = some (M1, r) → Hp b0 D cy M H → va_S (BA b0) s.heap H locs → lv_has ls 7 [(0, .ref x0), (1, .int x1), (2, .int x2), (3, .int x3), (4, .int x4), (5, .int x5)] → W p l e rm_X11_send s m args below meth c H locs 0 0 (MQ below (Qm b0 D cy M1 (some (.int r))) args s 0 0 (BA b0)) (F0 m 72 ls [])) : ∀ (M : Mm) (x0 : Nat) (x1 : Int32) (x2 : Int32) (x3 : Int32) (x5 : Int32) (H : Heap) (locs : List Loc) (ls : Array Slot), f_X11_send_J112 k72 M x0 x1 x2 x3 x5 = some (M1, r) → Hp b0 D cy M H → va_S (BA b0) s.heap H locs → lv_has ls 7 [(0, .ref x0), (1, .int x1), (2, .int x2), (3, .int x3), (5, .int x5)] → W p l e rm_X11_send s m args below meth c H locs 0 0 (MQ below (Qm b0 D cy M1 (some (.int r))) args s 0 0 (BA b0)) (F0 m 112 ls []) := by
  obtain ⟨hx, hb, hr, hml, hown0, hts, hlk, hK, hN, hb0, hnm⟩ := id CX
  have hown : s.vm.findClass RX11 = some m.cls := hown0
  intro M x0 x1 x2 x3 x5 H locs ls hF hP hS hl
  unfold f_X11_send_J112 at hF
  refine lv_iconst (v := 0) hx hb dX11_send_112 (by decide) ?_
  exact nd_X11_send_113 CX k72 hk72 _ _ _ _ _ _ _ _ _ _ hF hP hS (lv_sub hl [0, 1, 2, 3, 4] rfl)
set_option maxHeartbeats 4000000 in
set_option maxRecDepth 100000 in
theorem nd_X11_send_108 {p : Program} {l : Launch} {e : Env} {s : State} {m : MethodId} {args : Array Value} {below : List Frame} {meth : Method} {c : Code} {b0 : Nat} {D : va_G} {cy : Nat → ClassId} {M1 : Mm} {r : Int32} (CX : Cx yX11_send cX11_send 7 (some .int) wsX11_send b0 D cy p s m args meth c) (k72 : Mm → Nat → Int32 → Int32 → Int32 → Int32 → Int32 → Option (Mm × Int32)) (hk72 : ∀ (M : Mm) (x0 : Nat) (x1 : Int32) (x2 : Int32) (x3 : Int32) (x4 : Int32) (x5 : Int32) (H : Heap) (locs : List Loc) (ls : Array Slot), k72 M x0 x1 x2 x3 x4 x5 = some (M1, r) → Hp b0 D cy M H → va_S (BA b0) s.heap H locs → lv_has ls 7 [(0, .ref x0), (1, .int x1), (2, .int x2), (3, .int x3), (4, .int x4), (5, .int x5)] → W p l e rm_X11_send s m args below meth c H locs 0 0 (MQ below (Qm b0 D cy M1 (some (.int r))) args s 0 0 (BA b0)) (F0 m 72 ls [])) : ∀ (M : Mm) (x0 : Nat) (x1 : Int32) (x2 : Int32) (x3 : Int32) (x5 : Int32) (H : Heap) (locs : List Loc) (ls : Array Slot), f_X11_send_J108 k72 M x0 x1 x2 x3 x5 = some (M1, r) → Hp b0 D cy M H → va_S (BA b0) s.heap H locs → lv_has ls 7 [(0, .ref x0), (1, .int x1), (2, .int x2), (3, .int x3), (5, .int x5)] → W p l e rm_X11_send s m args below meth c H locs 0 0 (MQ below (Qm b0 D cy M1 (some (.int r))) args s 0 0 (BA b0)) (F0 m 108 ls []) := by
  obtain ⟨hx, hb, hr, hml, hown0, hts, hlk, hK, hN, hb0, hnm⟩ := id CX
  have hown : s.vm.findClass RX11 = some m.cls := hown0
  intro M x0 x1 x2 x3 x5 H locs ls hF hP hS hl
  unfold f_X11_send_J108 at hF
  refine lv_iconst (v := 1) hx hb dX11_send_108 (by decide) ?_
  refine lv_goto (tgt := 113) hx hb dX11_send_109 (by decide) ?_
  exact nd_X11_send_113 CX k72 hk72 _ _ _ _ _ _ _ _ _ _ hF hP hS (lv_sub hl [0, 1, 2, 3, 4] rfl)
set_option maxHeartbeats 4000000 in
set_option maxRecDepth 100000 in
theorem nd_X11_send_72 {p : Program} {l : Launch} {e : Env} {s : State} {m : MethodId} {args : Array Value} {below : List Frame} {meth : Method} {c : Code} {b0 : Nat} {D : va_G} {cy : Nat → ClassId} {M1 : Mm} {r : Int32} (CX : Cx yX11_send cX11_send 7 (some .int) wsX11_send b0 D cy p s m args meth c) : ∀ (fu : Nat), ∀ (M : Mm) (x0 : Nat) (x1 : Int32) (x2 : Int32) (x3 : Int32) (x4 : Int32) (x5 : Int32) (H : Heap) (locs : List Loc) (ls : Array Slot), f_X11_send_L72 fu M x0 x1 x2 x3 x4 x5 = some (M1, r) → Hp b0 D cy M H → va_S (BA b0) s.heap H locs → lv_has ls 7 [(0, .ref x0), (1, .int x1), (2, .int x2), (3, .int x3), (4, .int x4), (5, .int x5)] → W p l e rm_X11_send s m args below meth c H locs 0 0 (MQ below (Qm b0 D cy M1 (some (.int r))) args s 0 0 (BA b0)) (F0 m 72 ls []) := by
  obtain ⟨hx, hb, hr, hml, hown0, hts, hlk, hK, hN, hb0, hnm⟩ := id CX
  have hown : s.vm.findClass RX11 = some m.cls := hown0
  intro fu
  induction fu with
  | zero =>
    intro M x0 x1 x2 x3 x4 x5 H locs ls hF hP hS hl
    rw [f_X11_send_L72] at hF
    cases hF
  | succ fu ih =>
    intro M x0 x1 x2 x3 x4 x5 H locs ls hF hP hS hl
    rw [f_X11_send_L72] at hF
    refine lv_iload hx hb dX11_send_72 (lv_at hl 5 rfl) ?_
    refine lv_aload_n hx hb dX11_send_74 rfl (lv_at hl 0 rfl) ?_
    refine xr_getI hx hb hts iw_X11_send_11 hown hK hP hF 11 1 rfl (by decide) (by decide +kernel) ⟨rfl, rfl, rfl⟩ dX11_send_75 (fun v1 hF => ?_)
    refine lv_icmp_ge (tgt := 121) hx hb dX11_send_78 (by decide) (fun c2 => ?_) (fun c2 => ?_)
    · replace hF := it_t hF c2
      refine lv_iload_n hx hb dX11_send_121 rfl (lv_at hl 2 rfl) ?_
      refine lv_if_ne (tgt := 143) hx hb dX11_send_122 (by decide) (fun c3 => ?_) (fun c3 => ?_)
      · replace hF := it_f hF c3
        exact nd_X11_send_143 CX _ _ _ _ _ _ _ _ hF hP hS (lv_sub hl [0, 1, 3, 4] rfl)
      · replace hF := it_t hF c3
        refine lv_aload_n hx hb dX11_send_125 rfl (lv_at hl 0 rfl) ?_
        refine xr_getR hx hb hts iw_X11_send_11 hown hK hP hF 11 12 rfl (by decide) (by decide +kernel) ⟨rfl, rfl, rfl⟩ dX11_send_126 (fun v4 hF => ?_)
        refine lv_iload_n hx hb dX11_send_129 rfl (lv_at hl 1 rfl) ?_
        refine xr_aZ hx hb hK hP hF dX11_send_130 (fun v5 hF => ?_)
        refine lv_if_ne (tgt := 143) hx hb dX11_send_131 (by decide) (fun c6 => ?_) (fun c6 => ?_)
        · replace hF := it_f hF c6
          exact nd_X11_send_143 CX _ _ _ _ _ _ _ _ hF hP hS (lv_sub hl [0, 1, 3, 4] rfl)
        · replace hF := it_t hF c6
          refine lv_aload_n hx hb dX11_send_134 rfl (lv_at hl 0 rfl) ?_
          refine xr_getR hx hb hts iw_X11_send_11 hown hK hP hF 11 13 rfl (by decide) (by decide +kernel) ⟨rfl, rfl, rfl⟩ dX11_send_135 (fun v7 hF => ?_)
          refine lv_iload_n hx hb dX11_send_138 rfl (lv_at hl 1 rfl) ?_
          refine xr_aI hx hb hK hP hF dX11_send_139 (fun v8 hF => ?_)
          refine lv_if_ne (tgt := 147) hx hb dX11_send_140 (by decide) (fun c9 => ?_) (fun c9 => ?_)
          · replace hF := it_f hF c9
            refine lv_iconst (v := 0) hx hb dX11_send_147 (by decide) ?_
            exact nd_X11_send_148 CX _ _ _ _ _ _ _ _ _ hF hP hS (lv_sub hl [0, 1, 3, 4] rfl)
          · replace hF := it_t hF c9
            exact nd_X11_send_143 CX _ _ _ _ _ _ _ _ hF hP hS (lv_sub hl [0, 1, 3, 4] rfl)
    · replace hF := it_f hF c2
      refine lv_iload hx hb dX11_send_81 (lv_at hl 4 rfl) ?_
      refine lv_if_eq (tgt := 112) hx hb dX11_send_83 (by decide) (fun c10 => ?_) (fun c10 => ?_)
      · replace hF := it_t hF c10
        exact nd_X11_send_112 CX (f_X11_send_L72 fu) ih _ _ _ _ _ _ _ _ _ hF hP hS (lv_sub hl [0, 1, 2, 3, 5] rfl)
      · replace hF := it_f hF c10
        refine lv_aload_n hx hb dX11_send_86 rfl (lv_at hl 0 rfl) ?_
        refine xr_getR hx hb hts iw_X11_send_11 hown hK hP hF 11 2 rfl (by decide) (by decide +kernel) ⟨rfl, rfl, rfl⟩ dX11_send_87 (fun v11 hF => ?_)
        refine lv_iload hx hb dX11_send_90 (lv_at hl 5 rfl) ?_
        refine xr_aI hx hb hK hP hF dX11_send_92 (fun v12 hF => ?_)
        refine lv_iconst (v := 1) hx hb dX11_send_93 (by decide) ?_
        refine lv_icmp_gt (tgt := 108) hx hb dX11_send_94 (by decide) (fun c13 => ?_) (fun c13 => ?_)
        · replace hF := it_t hF c13
          exact nd_X11_send_108 CX (f_X11_send_L72 fu) ih _ _ _ _ _ _ _ _ _ hF hP hS (lv_sub hl [0, 1, 2, 3, 5] rfl)
        · replace hF := it_f hF c13
          refine lv_aload_n hx hb dX11_send_97 rfl (lv_at hl 0 rfl) ?_
          refine lv_iload_n hx hb dX11_send_98 rfl (lv_at hl 1 rfl) ?_
          refine lv_iload hx hb dX11_send_99 (lv_at hl 5 rfl) ?_
          refine lv_iload_n hx hb dX11_send_101 rfl (lv_at hl 3 rfl) ?_
          obtain ⟨v15, h14, hF⟩ := ob_some hF
          refine xr_call1 (va_runV (As := [.int x1, .int x5, .int x3]) (rest := []) ⟨hx, hb, hml, hown, hts⟩ (ct_X11_giveAll l b0 D cy M x0 x1 x5 x3 v15 h14) (cwV 3 hts gX11_send_X11_giveAll rfl rfl rfl (by decide +kernel) ⟨Nat.le_of_ble_eq_true rfl, Nat.le_of_ble_eq_true rfl⟩) (xp_V hP hK hN hS hb0 11 rfl (gk_X11_giveAll h14)) rfl rfl hl.1 rfl (lv_room (Nat.le_of_ble_eq_true rfl)) dX11_send_102 ⟨Nat.le_of_ble_eq_true rfl, Nat.le_of_ble_eq_true rfl⟩) hS (fun H locs hP hS => ?_)
          refine lv_if_eq (tgt := 112) hx hb dX11_send_105 (by decide) (fun c16 => ?_) (fun c16 => ?_)
          · replace hF := it_t hF c16
            exact nd_X11_send_112 CX (f_X11_send_L72 fu) ih _ _ _ _ _ _ _ _ _ hF hP hS (lv_sub hl [0, 1, 2, 3, 5] rfl)
          · replace hF := it_f hF c16
            exact nd_X11_send_108 CX (f_X11_send_L72 fu) ih _ _ _ _ _ _ _ _ _ hF hP hS (lv_sub hl [0, 1, 2, 3, 5] rfl)
set_option maxHeartbeats 4000000 in
set_option maxRecDepth 100000 in
theorem nd_X11_send_31 {p : Program} {l : Launch} {e : Env} {s : State} {m : MethodId} {args : Array Value} {below : List Frame} {meth : Method} {c : Code} {b0 : Nat} {D : va_G} {cy : Nat → ClassId} {M1 : Mm} {r : Int32} (CX : Cx yX11_send cX11_send 7 (some .int) wsX11_send b0 D cy p s m args meth c) : ∀ (M : Mm) (x0 : Nat) (H : Heap) (locs : List Loc) (ls : Array Slot), f_X11_send_J31 M x0 = some (M1, r) → Hp b0 D cy M H → va_S (BA b0) s.heap H locs → lv_has ls 7 [(0, .ref x0)] → W p l e rm_X11_send s m args below meth c H locs 0 0 (MQ below (Qm b0 D cy M1 (some (.int r))) args s 0 0 (BA b0)) (F0 m 31 ls []) := by
  obtain ⟨hx, hb, hr, hml, hown0, hts, hlk, hK, hN, hb0, hnm⟩ := id CX
  have hown : s.vm.findClass RX11 = some m.cls := hown0
  intro M x0 H locs ls hF hP hS hl
  unfold f_X11_send_J31 at hF
  refine lv_aload_n hx hb dX11_send_31 rfl (lv_at hl 0 rfl) ?_
  refine xr_getI hx hb hts iw_X11_send_11 hown hK hP hF 11 16 rfl (by decide) (by decide +kernel) ⟨rfl, rfl, rfl⟩ dX11_send_32 (fun v1 hF => ?_)
  refine lv_sipush (v := 200) hx hb dX11_send_35 (by decide) ?_
  refine lv_icmp_ne (tgt := 46) hx hb dX11_send_38 (by decide) (fun c2 => ?_) (fun c2 => ?_)
  · replace hF := it_f hF c2
    refine lv_bipush (v := (-3)) hx hb dX11_send_46 (by decide) ?_
    cases hF
    exact W.iret hx hb hr (fun t ht hW => ⟨rfl, by rw [ht]; exact hP, hS.F ht⟩) hS.2.2 dX11_send_48 hlk
  · replace hF := it_t hF c2
    refine lv_bipush (v := (-2)) hx hb dX11_send_41 (by decide) ?_
    refine lv_goto (tgt := 48) hx hb dX11_send_43 (by decide) ?_
    cases hF
    exact W.iret hx hb hr (fun t ht hW => ⟨rfl, by rw [ht]; exact hP, hS.F ht⟩) hS.2.2 dX11_send_48 hlk
theorem gk_X11_send {M : Mm} {a0 : Nat} {a1 : Int32} {a2 : Int32} {r : (Mm × Int32)} (h : f_X11_send M a0 a1 a2 = some r) : mK M a0 = 12 := by
  unfold f_X11_send at h
  exact (if_some h).1
set_option maxHeartbeats 4000000 in
set_option maxRecDepth 100000 in
theorem ct_X11_send (l : Launch) (b0 : Nat) (D : va_G) (cy : Nat → ClassId) (M : Mm) (a0 : Nat) (a1 : Int32) (a2 : Int32) (M1 : Mm) (r : Int32) (hF : f_X11_send M a0 a1 a2 = some (M1, r)) : Met l yX11_send wsX11_send rm_X11_send (va_Pc [.ref a0, .int a1, .int a2] (Pm b0 D cy M)) (Qm b0 D cy M1 (some (.int r))) 0 0 (BA b0) := by
  refine ct_of [.ref a0, .int a1, .int a2] (by decide) rfl ?_
  intro p e s m below meth c CX hP
  obtain ⟨hx, hb, hr, hml, hown0, hts, hlk, hK, hN, hb0, hnm⟩ := id CX
  have hown : s.vm.findClass RX11 = some m.cls := hown0
  have hS : va_S (BA b0) s.heap s.heap [] := va_S.rf
  have hl := lv_entry [.ref a0, .int a1, .int a2] (n := 7) (Nat.le_of_ble_eq_true rfl)
  generalize (lg_sl [.ref a0, .int a1, .int a2] ++ List.replicate (7 - (lg_sl [.ref a0, .int a1, .int a2]).length) Slot.unset).toArray = ls at hl ⊢
  have hl : lv_has ls 7 [(0, .ref a0), (1, .int a1), (2, .int a2)] := hl
  unfold f_X11_send at hF
  replace hF := (if_some hF).2
  refine lv_aload_n hx hb dX11_send_0 rfl (lv_at hl 0 rfl) ?_
  refine lv_iconst (v := 0) hx hb dX11_send_1 (by decide) ?_
  refine xr_putI hx hb hts iw_X11_send_11 hown hK hP hS hF 11 0 rfl (by decide) tyX11 tyX11_ok nmX11 (by decide +kernel) (Or.inl rfl) rfl ⟨rfl, rfl, rfl⟩ dX11_send_2 (fun M1 H locs hF hP hS => ?_)
  refine lv_iload_n hx hb dX11_send_5 rfl (lv_at hl 1 rfl) ?_
  obtain ⟨v3, h2, hF⟩ := ob_some hF
  refine xr_call1 (va_runS (As := [.int a1]) (rest := []) ⟨hx, hb, hml, hown, hts⟩ (ct_X11_isFlow l b0 D cy M1 a1 v3 h2) (va_cwS 1 hts gX11_send_X11_isFlow rfl rfl rfl (by decide +kernel) ⟨Nat.le_of_ble_eq_true rfl, Nat.le_of_ble_eq_true rfl⟩) (xp_S hP hK hN hS hb0) rfl rfl hl.1 rfl (lv_room (Nat.le_of_ble_eq_true rfl)) dX11_send_6 ⟨Nat.le_of_ble_eq_true rfl, Nat.le_of_ble_eq_true rfl⟩) hS (fun H locs hP hS => ?_)
  refine lv_if_ne (tgt := 14) hx hb dX11_send_9 (by decide) (fun c4 => ?_) (fun c4 => ?_)
  · replace hF := it_f hF c4
    refine lv_aload_n hx hb dX11_send_14 rfl (lv_at hl 0 rfl) ?_
    refine xr_getI hx hb hts iw_X11_send_11 hown hK hP hF 11 16 rfl (by decide) (by decide +kernel) ⟨rfl, rfl, rfl⟩ dX11_send_15 (fun v5 hF => ?_)
    refine lv_sipush (v := 200) hx hb dX11_send_18 (by decide) ?_
    refine lv_icmp_eq (tgt := 31) hx hb dX11_send_21 (by decide) (fun c6 => ?_) (fun c6 => ?_)
    · replace hF := it_t hF c6
      exact nd_X11_send_31 CX _ _ _ _ _ hF hP hS (lv_sub hl [0] rfl)
    · replace hF := it_f hF c6
      refine lv_aload_n hx hb dX11_send_24 rfl (lv_at hl 0 rfl) ?_
      refine xr_getI hx hb hts iw_X11_send_11 hown hK hP hF 11 1 rfl (by decide) (by decide +kernel) ⟨rfl, rfl, rfl⟩ dX11_send_25 (fun v7 hF => ?_)
      refine lv_if_ne (tgt := 49) hx hb dX11_send_28 (by decide) (fun c8 => ?_) (fun c8 => ?_)
      · replace hF := it_f hF c8
        refine lv_aload_n hx hb dX11_send_49 rfl (lv_at hl 0 rfl) ?_
        refine xr_getR hx hb hts iw_X11_send_11 hown hK hP hF 11 9 rfl (by decide) (by decide +kernel) ⟨rfl, rfl, rfl⟩ dX11_send_50 (fun v9 hF => ?_)
        refine lv_iload_n hx hb dX11_send_53 rfl (lv_at hl 1 rfl) ?_
        refine xr_aI hx hb hK hP hF dX11_send_54 (fun v10 hF => ?_)
        refine lv_istore_n (lv' := [(3, .int v10), (0, .ref a0), (1, .int a1), (2, .int a2)]) hx hb dX11_send_55 rfl hl (by decide) (by first | rfl | simp [cat_rf]) (fun ls hl => ?_)
        refine lv_aload_n hx hb dX11_send_56 rfl (lv_at hl 1 rfl) ?_
        refine xr_getR hx hb hts iw_X11_send_11 hown hK hP hF 11 9 rfl (by decide) (by decide +kernel) ⟨rfl, rfl, rfl⟩ dX11_send_57 (fun v11 hF => ?_)
        refine lv_iload_n hx hb dX11_send_60 rfl (lv_at hl 2 rfl) ?_
        refine lv_dup2_11 hx hb dX11_send_61 rfl rfl ?_
        refine xr_aI hx hb hK hP hF dX11_send_62 (fun v12 hF => ?_)
        refine lv_iconst (v := 1) hx hb dX11_send_63 (by decide) ?_
        refine lv_iadd hx hb dX11_send_64 ?_
        refine xr_wI hx hb hK hP hS hF dX11_send_65 (fun M13 H locs hF hP hS => ?_)
        refine lv_iconst (v := 1) hx hb dX11_send_66 (by decide) ?_
        refine lv_istore (lv' := [(4, .int 1), (3, .int v10), (0, .ref a0), (1, .int a1), (2, .int a2)]) hx hb dX11_send_67 hl (by decide) (by first | rfl | simp [cat_rf]) (fun ls hl => ?_)
        refine lv_iconst (v := 0) hx hb dX11_send_69 (by decide) ?_
        refine lv_istore (lv' := [(5, .int 0), (4, .int 1), (3, .int v10), (0, .ref a0), (1, .int a1), (2, .int a2)]) hx hb dX11_send_70 hl (by decide) (by first | rfl | simp [cat_rf]) (fun ls hl => ?_)
        exact nd_X11_send_72 CX _ _ _ _ _ _ _ _ _ _ _ hF hP hS (lv_sub hl [3, 4, 5, 2, 1, 0] rfl)
      · replace hF := it_t hF c8
        exact nd_X11_send_31 CX _ _ _ _ _ hF hP hS (lv_sub hl [0] rfl)
  · replace hF := it_t hF c4
    refine lv_iconst (v := (-1)) hx hb dX11_send_12 (by decide) ?_
    cases hF
    exact W.iret hx hb hr (fun t ht hW => ⟨rfl, by rw [ht]; exact hP, hS.F ht⟩) hS.2.2 dX11_send_13 hlk
/-! X11_ack -/
theorem iw_X11_ack_11 : ∀ w ∈ u_ws RX11 TX11 58, w ∈ wsX11_ack := by decide +kernel
abbrev rm_X11_ack : Room := { frames := 2, cells := 0, slots := 0, locals := 53 }
theorem gk_X11_ack {M : Mm} {a0 : Nat} {a1 : Int32} {r : (Mm × Int32)} (h : f_X11_ack M a0 a1 = some r) : mK M a0 = 12 := by
  unfold f_X11_ack at h
  exact (if_some h).1
set_option maxHeartbeats 4000000 in
set_option maxRecDepth 100000 in
theorem ct_X11_ack (l : Launch) (b0 : Nat) (D : va_G) (cy : Nat → ClassId) (M : Mm) (a0 : Nat) (a1 : Int32) (M1 : Mm) (r : Int32) (hF : f_X11_ack M a0 a1 = some (M1, r)) : Met l yX11_ack wsX11_ack rm_X11_ack (va_Pc [.ref a0, .int a1] (Pm b0 D cy M)) (Qm b0 D cy M1 (some (.int r))) 0 0 (BA b0) := by
  refine ct_of [.ref a0, .int a1] (by decide) rfl ?_
  intro p e s m below meth c CX hP
  obtain ⟨hx, hb, hr, hml, hown0, hts, hlk, hK, hN, hb0, hnm⟩ := id CX
  have hown : s.vm.findClass RX11 = some m.cls := hown0
  have hS : va_S (BA b0) s.heap s.heap [] := va_S.rf
  have hl := lv_entry [.ref a0, .int a1] (n := 2) (Nat.le_of_ble_eq_true rfl)
  generalize (lg_sl [.ref a0, .int a1] ++ List.replicate (2 - (lg_sl [.ref a0, .int a1]).length) Slot.unset).toArray = ls at hl ⊢
  have hl : lv_has ls 2 [(0, .ref a0), (1, .int a1)] := hl
  unfold f_X11_ack at hF
  replace hF := (if_some hF).2
  refine lv_aload_n hx hb dX11_ack_0 rfl (lv_at hl 0 rfl) ?_
  refine lv_iconst (v := 0) hx hb dX11_ack_1 (by decide) ?_
  refine xr_putI hx hb hts iw_X11_ack_11 hown hK hP hS hF 11 0 rfl (by decide) tyX11 tyX11_ok nmX11 (by decide +kernel) (Or.inl rfl) rfl ⟨rfl, rfl, rfl⟩ dX11_ack_2 (fun M1 H locs hF hP hS => ?_)
  refine lv_iload_n hx hb dX11_ack_5 rfl (lv_at hl 1 rfl) ?_
  obtain ⟨v3, h2, hF⟩ := ob_some hF
  refine xr_call1 (va_runS (As := [.int a1]) (rest := []) ⟨hx, hb, hml, hown, hts⟩ (ct_X11_isFlow l b0 D cy M1 a1 v3 h2) (va_cwS 1 hts gX11_ack_X11_isFlow rfl rfl rfl (by decide +kernel) ⟨Nat.le_of_ble_eq_true rfl, Nat.le_of_ble_eq_true rfl⟩) (xp_S hP hK hN hS hb0) rfl rfl hl.1 rfl (lv_room (Nat.le_of_ble_eq_true rfl)) dX11_ack_6 ⟨Nat.le_of_ble_eq_true rfl, Nat.le_of_ble_eq_true rfl⟩) hS (fun H locs hP hS => ?_)
  refine lv_if_ne (tgt := 14) hx hb dX11_ack_9 (by decide) (fun c4 => ?_) (fun c4 => ?_)
  · replace hF := it_f hF c4
    refine lv_aload_n hx hb dX11_ack_14 rfl (lv_at hl 0 rfl) ?_
    refine xr_getI hx hb hts iw_X11_ack_11 hown hK hP hF 11 16 rfl (by decide) (by decide +kernel) ⟨rfl, rfl, rfl⟩ dX11_ack_15 (fun v5 hF => ?_)
    refine lv_sipush (v := 200) hx hb dX11_ack_18 (by decide) ?_
    refine lv_icmp_ne (tgt := 27) hx hb dX11_ack_21 (by decide) (fun c6 => ?_) (fun c6 => ?_)
    · replace hF := it_f hF c6
      refine lv_aload_n hx hb dX11_ack_27 rfl (lv_at hl 0 rfl) ?_
      refine xr_getR hx hb hts iw_X11_ack_11 hown hK hP hF 11 30 rfl (by decide) (by decide +kernel) ⟨rfl, rfl, rfl⟩ dX11_ack_28 (fun v7 hF => ?_)
      refine lv_iload_n hx hb dX11_ack_31 rfl (lv_at hl 1 rfl) ?_
      refine xr_aZ hx hb hK hP hF dX11_ack_32 (fun v8 hF => ?_)
      refine lv_if_ne (tgt := 39) hx hb dX11_ack_33 (by decide) (fun c9 => ?_) (fun c9 => ?_)
      · replace hF := it_f hF c9
        refine lv_aload_n hx hb dX11_ack_39 rfl (lv_at hl 0 rfl) ?_
        refine lv_iconst (v := 3) hx hb dX11_ack_40 (by decide) ?_
        refine lv_iload_n hx hb dX11_ack_41 rfl (lv_at hl 1 rfl) ?_
        refine lv_aload_n hx hb dX11_ack_42 rfl (lv_at hl 0 rfl) ?_
        refine xr_getR hx hb hts iw_X11_ack_11 hown hK hP hF 11 31 rfl (by decide) (by decide +kernel) ⟨rfl, rfl, rfl⟩ dX11_ack_43 (fun v10 hF => ?_)
        refine lv_iload_n hx hb dX11_ack_46 rfl (lv_at hl 1 rfl) ?_
        refine xr_aI hx hb hK hP hF dX11_ack_47 (fun v11 hF => ?_)
        obtain ⟨M13, h12, hF⟩ := ob_some hF
        refine xr_call0 (va_runV (As := [.int 3, .int a1, .int v11]) (rest := []) ⟨hx, hb, hml, hown, hts⟩ (ct_X11_head l b0 D cy M1 a0 3 a1 v11 M13 h12) (cwV 3 hts gX11_ack_X11_head rfl rfl rfl (by decide +kernel) ⟨Nat.le_of_ble_eq_true rfl, Nat.le_of_ble_eq_true rfl⟩) (xp_V hP hK hN hS hb0 11 rfl (gk_X11_head h12)) rfl rfl hl.1 rfl (lv_room (Nat.le_of_ble_eq_true rfl)) dX11_ack_48 ⟨Nat.le_of_ble_eq_true rfl, Nat.le_of_ble_eq_true rfl⟩) hS (fun H locs hP hS => ?_)
        refine lv_aload_n hx hb dX11_ack_51 rfl (lv_at hl 0 rfl) ?_
        refine lv_iconst (v := 3) hx hb dX11_ack_52 (by decide) ?_
        refine lv_iload_n hx hb dX11_ack_53 rfl (lv_at hl 1 rfl) ?_
        refine lv_aload_n hx hb dX11_ack_54 rfl (lv_at hl 0 rfl) ?_
        refine xr_getR hx hb hts iw_X11_ack_11 hown hK hP hF 11 31 rfl (by decide) (by decide +kernel) ⟨rfl, rfl, rfl⟩ dX11_ack_55 (fun v14 hF => ?_)
        refine lv_iload_n hx hb dX11_ack_58 rfl (lv_at hl 1 rfl) ?_
        refine xr_aI hx hb hK hP hF dX11_ack_59 (fun v15 hF => ?_)
        refine lv_iconst (v := 1) hx hb dX11_ack_60 (by decide) ?_
        obtain ⟨M17, v18, h16, hF⟩ := ob2_some hF
        refine xr_call1 (va_runV (As := [.int 3, .int a1, .int v15, .int 1]) (rest := []) ⟨hx, hb, hml, hown, hts⟩ (ct_X11_laid l b0 D cy M13 a0 3 a1 v15 1 M17 v18 h16) (cwV 4 hts gX11_ack_X11_laid rfl rfl rfl (by decide +kernel) ⟨Nat.le_of_ble_eq_true rfl, Nat.le_of_ble_eq_true rfl⟩) (xp_V hP hK hN hS hb0 11 rfl (gk_X11_laid h16)) rfl rfl hl.1 rfl (lv_room (Nat.le_of_ble_eq_true rfl)) dX11_ack_61 ⟨Nat.le_of_ble_eq_true rfl, Nat.le_of_ble_eq_true rfl⟩) hS (fun H locs hP hS => ?_)
        cases hF
        exact W.iret hx hb hr (fun t ht hW => ⟨rfl, by rw [ht]; exact hP, hS.F ht⟩) hS.2.2 dX11_ack_64 hlk
      · replace hF := it_t hF c9
        refine lv_bipush (v := (-3)) hx hb dX11_ack_36 (by decide) ?_
        cases hF
        exact W.iret hx hb hr (fun t ht hW => ⟨rfl, by rw [ht]; exact hP, hS.F ht⟩) hS.2.2 dX11_ack_38 hlk
    · replace hF := it_t hF c6
      refine lv_bipush (v := (-2)) hx hb dX11_ack_24 (by decide) ?_
      cases hF
      exact W.iret hx hb hr (fun t ht hW => ⟨rfl, by rw [ht]; exact hP, hS.F ht⟩) hS.2.2 dX11_ack_26 hlk
  · replace hF := it_t hF c4
    refine lv_iconst (v := (-1)) hx hb dX11_ack_12 (by decide) ?_
    cases hF
    exact W.iret hx hb hr (fun t ht hW => ⟨rfl, by rw [ht]; exact hP, hS.F ht⟩) hS.2.2 dX11_ack_13 hlk
/-! X11_nack -/
theorem iw_X11_nack_11 : ∀ w ∈ u_ws RX11 TX11 58, w ∈ wsX11_nack := by decide +kernel
abbrev rm_X11_nack : Room := { frames := 2, cells := 0, slots := 0, locals := 53 }
set_option maxHeartbeats 4000000 in
set_option maxRecDepth 100000 in
theorem nd_X11_nack_63 {p : Program} {l : Launch} {e : Env} {s : State} {m : MethodId} {args : Array Value} {below : List Frame} {meth : Method} {c : Code} {b0 : Nat} {D : va_G} {cy : Nat → ClassId} {M1 : Mm} {r : Int32} (CX : Cx yX11_nack cX11_nack 4 (some .int) wsX11_nack b0 D cy p s m args meth c) : ∀ (M : Mm) (x0 : Nat) (x1 : Int32) (x2 : Int32) (s0 : Int32) (H : Heap) (locs : List Loc) (ls : Array Slot), f_X11_nack_J63 M x0 x1 x2 s0 = some (M1, r) → Hp b0 D cy M H → va_S (BA b0) s.heap H locs → lv_has ls 4 [(0, .ref x0), (1, .int x1), (2, .int x2)] → W p l e rm_X11_nack s m args below meth c H locs 0 0 (MQ below (Qm b0 D cy M1 (some (.int r))) args s 0 0 (BA b0)) (F0 m 63 ls [.int s0]) := by
  obtain ⟨hx, hb, hr, hml, hown0, hts, hlk, hK, hN, hb0, hnm⟩ := id CX
  have hown : s.vm.findClass RX11 = some m.cls := hown0
  intro M x0 x1 x2 s0 H locs ls hF hP hS hl
  unfold f_X11_nack_J63 at hF
  refine lv_istore_n (lv' := [(3, .int s0), (0, .ref x0), (1, .int x1), (2, .int x2)]) hx hb dX11_nack_63 rfl hl (by decide) (by first | rfl | simp [cat_rf]) (fun ls hl => ?_)
  refine lv_aload_n hx hb dX11_nack_64 rfl (lv_at hl 1 rfl) ?_
  refine lv_iload_n hx hb dX11_nack_65 rfl (lv_at hl 3 rfl) ?_
  refine lv_iload_n hx hb dX11_nack_66 rfl (lv_at hl 2 rfl) ?_
  refine lv_iload_n hx hb dX11_nack_67 rfl (lv_at hl 0 rfl) ?_
  obtain ⟨M2, h1, hF⟩ := ob_some hF
  refine xr_call0 (va_runV (As := [.int x2, .int x1, .int s0]) (rest := []) ⟨hx, hb, hml, hown, hts⟩ (ct_X11_head l b0 D cy M x0 x2 x1 s0 M2 h1) (cwV 3 hts gX11_nack_X11_head rfl rfl rfl (by decide +kernel) ⟨Nat.le_of_ble_eq_true rfl, Nat.le_of_ble_eq_true rfl⟩) (xp_V hP hK hN hS hb0 11 rfl (gk_X11_head h1)) rfl rfl hl.1 rfl (lv_room (Nat.le_of_ble_eq_true rfl)) dX11_nack_68 ⟨Nat.le_of_ble_eq_true rfl, Nat.le_of_ble_eq_true rfl⟩) hS (fun H locs hP hS => ?_)
  refine lv_aload_n hx hb dX11_nack_71 rfl (lv_at hl 1 rfl) ?_
  refine lv_iload_n hx hb dX11_nack_72 rfl (lv_at hl 3 rfl) ?_
  refine lv_iload_n hx hb dX11_nack_73 rfl (lv_at hl 2 rfl) ?_
  refine lv_iload_n hx hb dX11_nack_74 rfl (lv_at hl 0 rfl) ?_
  refine lv_iconst (v := 1) hx hb dX11_nack_75 (by decide) ?_
  obtain ⟨M4, v5, h3, hF⟩ := ob2_some hF
  refine xr_call1 (va_runV (As := [.int x2, .int x1, .int s0, .int 1]) (rest := []) ⟨hx, hb, hml, hown, hts⟩ (ct_X11_laid l b0 D cy M2 x0 x2 x1 s0 1 M4 v5 h3) (cwV 4 hts gX11_nack_X11_laid rfl rfl rfl (by decide +kernel) ⟨Nat.le_of_ble_eq_true rfl, Nat.le_of_ble_eq_true rfl⟩) (xp_V hP hK hN hS hb0 11 rfl (gk_X11_laid h3)) rfl rfl hl.1 rfl (lv_room (Nat.le_of_ble_eq_true rfl)) dX11_nack_76 ⟨Nat.le_of_ble_eq_true rfl, Nat.le_of_ble_eq_true rfl⟩) hS (fun H locs hP hS => ?_)
  cases hF
  exact W.iret hx hb hr (fun t ht hW => ⟨rfl, by rw [ht]; exact hP, hS.F ht⟩) hS.2.2 dX11_nack_79 hlk
set_option maxHeartbeats 4000000 in
set_option maxRecDepth 100000 in
theorem nd_X11_nack_41 {p : Program} {l : Launch} {e : Env} {s : State} {m : MethodId} {args : Array Value} {below : List Frame} {meth : Method} {c : Code} {b0 : Nat} {D : va_G} {cy : Nat → ClassId} {M1 : Mm} {r : Int32} (CX : Cx yX11_nack cX11_nack 4 (some .int) wsX11_nack b0 D cy p s m args meth c) : ∀ (M : Mm) (x0 : Nat) (x1 : Int32) (s0 : Int32) (H : Heap) (locs : List Loc) (ls : Array Slot), f_X11_nack_J41 M x0 x1 s0 = some (M1, r) → Hp b0 D cy M H → va_S (BA b0) s.heap H locs → lv_has ls 4 [(0, .ref x0), (1, .int x1)] → W p l e rm_X11_nack s m args below meth c H locs 0 0 (MQ below (Qm b0 D cy M1 (some (.int r))) args s 0 0 (BA b0)) (F0 m 41 ls [.int s0]) := by
  obtain ⟨hx, hb, hr, hml, hown0, hts, hlk, hK, hN, hb0, hnm⟩ := id CX
  have hown : s.vm.findClass RX11 = some m.cls := hown0
  intro M x0 x1 s0 H locs ls hF hP hS hl
  unfold f_X11_nack_J41 at hF
  refine lv_istore_n (lv' := [(2, .int s0), (0, .ref x0), (1, .int x1)]) hx hb dX11_nack_41 rfl hl (by decide) (by first | rfl | simp [cat_rf]) (fun ls hl => ?_)
  refine lv_aload_n hx hb dX11_nack_42 rfl (lv_at hl 1 rfl) ?_
  refine xr_getR hx hb hts iw_X11_nack_11 hown hK hP hF 11 30 rfl (by decide) (by decide +kernel) ⟨rfl, rfl, rfl⟩ dX11_nack_43 (fun v1 hF => ?_)
  refine lv_iload_n hx hb dX11_nack_46 rfl (lv_at hl 2 rfl) ?_
  refine xr_aZ hx hb hK hP hF dX11_nack_47 (fun v2 hF => ?_)
  refine lv_if_eq (tgt := 62) hx hb dX11_nack_48 (by decide) (fun c3 => ?_) (fun c3 => ?_)
  · replace hF := it_t hF c3
    refine lv_iconst (v := 0) hx hb dX11_nack_62 (by decide) ?_
    exact nd_X11_nack_63 CX _ _ _ _ _ _ _ _ hF hP hS (lv_sub hl [1, 2, 0] rfl)
  · replace hF := it_f hF c3
    refine lv_aload_n hx hb dX11_nack_51 rfl (lv_at hl 1 rfl) ?_
    refine xr_getR hx hb hts iw_X11_nack_11 hown hK hP hF 11 31 rfl (by decide) (by decide +kernel) ⟨rfl, rfl, rfl⟩ dX11_nack_52 (fun v4 hF => ?_)
    refine lv_iload_n hx hb dX11_nack_55 rfl (lv_at hl 2 rfl) ?_
    refine xr_aI hx hb hK hP hF dX11_nack_56 (fun v5 hF => ?_)
    refine lv_iconst (v := 1) hx hb dX11_nack_57 (by decide) ?_
    refine lv_iadd hx hb dX11_nack_58 ?_
    refine lv_goto (tgt := 63) hx hb dX11_nack_59 (by decide) ?_
    exact nd_X11_nack_63 CX _ _ _ _ _ _ _ _ hF hP hS (lv_sub hl [1, 2, 0] rfl)
theorem gk_X11_nack {M : Mm} {a0 : Nat} {a1 : Int32} {r : (Mm × Int32)} (h : f_X11_nack M a0 a1 = some r) : mK M a0 = 12 := by
  unfold f_X11_nack at h
  exact (if_some h).1
set_option maxHeartbeats 4000000 in
set_option maxRecDepth 100000 in
theorem ct_X11_nack (l : Launch) (b0 : Nat) (D : va_G) (cy : Nat → ClassId) (M : Mm) (a0 : Nat) (a1 : Int32) (M1 : Mm) (r : Int32) (hF : f_X11_nack M a0 a1 = some (M1, r)) : Met l yX11_nack wsX11_nack rm_X11_nack (va_Pc [.ref a0, .int a1] (Pm b0 D cy M)) (Qm b0 D cy M1 (some (.int r))) 0 0 (BA b0) := by
  refine ct_of [.ref a0, .int a1] (by decide) rfl ?_
  intro p e s m below meth c CX hP
  obtain ⟨hx, hb, hr, hml, hown0, hts, hlk, hK, hN, hb0, hnm⟩ := id CX
  have hown : s.vm.findClass RX11 = some m.cls := hown0
  have hS : va_S (BA b0) s.heap s.heap [] := va_S.rf
  have hl := lv_entry [.ref a0, .int a1] (n := 4) (Nat.le_of_ble_eq_true rfl)
  generalize (lg_sl [.ref a0, .int a1] ++ List.replicate (4 - (lg_sl [.ref a0, .int a1]).length) Slot.unset).toArray = ls at hl ⊢
  have hl : lv_has ls 4 [(0, .ref a0), (1, .int a1)] := hl
  unfold f_X11_nack at hF
  replace hF := (if_some hF).2
  refine lv_aload_n hx hb dX11_nack_0 rfl (lv_at hl 0 rfl) ?_
  refine lv_iconst (v := 0) hx hb dX11_nack_1 (by decide) ?_
  refine xr_putI hx hb hts iw_X11_nack_11 hown hK hP hS hF 11 0 rfl (by decide) tyX11 tyX11_ok nmX11 (by decide +kernel) (Or.inl rfl) rfl ⟨rfl, rfl, rfl⟩ dX11_nack_2 (fun M1 H locs hF hP hS => ?_)
  refine lv_iload_n hx hb dX11_nack_5 rfl (lv_at hl 1 rfl) ?_
  obtain ⟨v3, h2, hF⟩ := ob_some hF
  refine xr_call1 (va_runS (As := [.int a1]) (rest := []) ⟨hx, hb, hml, hown, hts⟩ (ct_X11_isFlow l b0 D cy M1 a1 v3 h2) (va_cwS 1 hts gX11_nack_X11_isFlow rfl rfl rfl (by decide +kernel) ⟨Nat.le_of_ble_eq_true rfl, Nat.le_of_ble_eq_true rfl⟩) (xp_S hP hK hN hS hb0) rfl rfl hl.1 rfl (lv_room (Nat.le_of_ble_eq_true rfl)) dX11_nack_6 ⟨Nat.le_of_ble_eq_true rfl, Nat.le_of_ble_eq_true rfl⟩) hS (fun H locs hP hS => ?_)
  refine lv_if_ne (tgt := 14) hx hb dX11_nack_9 (by decide) (fun c4 => ?_) (fun c4 => ?_)
  · replace hF := it_f hF c4
    refine lv_aload_n hx hb dX11_nack_14 rfl (lv_at hl 0 rfl) ?_
    refine xr_getI hx hb hts iw_X11_nack_11 hown hK hP hF 11 16 rfl (by decide) (by decide +kernel) ⟨rfl, rfl, rfl⟩ dX11_nack_15 (fun v5 hF => ?_)
    refine lv_sipush (v := 200) hx hb dX11_nack_18 (by decide) ?_
    refine lv_icmp_ne (tgt := 27) hx hb dX11_nack_21 (by decide) (fun c6 => ?_) (fun c6 => ?_)
    · replace hF := it_f hF c6
      refine lv_aload_n hx hb dX11_nack_27 rfl (lv_at hl 0 rfl) ?_
      refine xr_getR hx hb hts iw_X11_nack_11 hown hK hP hF 11 30 rfl (by decide) (by decide +kernel) ⟨rfl, rfl, rfl⟩ dX11_nack_28 (fun v7 hF => ?_)
      refine lv_iload_n hx hb dX11_nack_31 rfl (lv_at hl 1 rfl) ?_
      refine xr_aZ hx hb hK hP hF dX11_nack_32 (fun v8 hF => ?_)
      refine lv_if_eq (tgt := 40) hx hb dX11_nack_33 (by decide) (fun c9 => ?_) (fun c9 => ?_)
      · replace hF := it_t hF c9
        refine lv_iconst (v := 5) hx hb dX11_nack_40 (by decide) ?_
        exact nd_X11_nack_41 CX _ _ _ _ _ _ _ hF hP hS (lv_sub hl [0, 1] rfl)
      · replace hF := it_f hF c9
        refine lv_iconst (v := 4) hx hb dX11_nack_36 (by decide) ?_
        refine lv_goto (tgt := 41) hx hb dX11_nack_37 (by decide) ?_
        exact nd_X11_nack_41 CX _ _ _ _ _ _ _ hF hP hS (lv_sub hl [0, 1] rfl)
    · replace hF := it_t hF c6
      refine lv_bipush (v := (-2)) hx hb dX11_nack_24 (by decide) ?_
      cases hF
      exact W.iret hx hb hr (fun t ht hW => ⟨rfl, by rw [ht]; exact hP, hS.F ht⟩) hS.2.2 dX11_nack_26 hlk
  · replace hF := it_t hF c4
    refine lv_iconst (v := (-1)) hx hb dX11_nack_12 (by decide) ?_
    cases hF
    exact W.iret hx hb hr (fun t ht hW => ⟨rfl, by rw [ht]; exact hP, hS.F ht⟩) hS.2.2 dX11_nack_13 hlk
/-! X11_take -/
theorem iw_X11_take_11 : ∀ w ∈ u_ws RX11 TX11 58, w ∈ wsX11_take := by decide +kernel
abbrev rm_X11_take : Room := { frames := 0, cells := 0, slots := 0, locals := 0 }
set_option maxHeartbeats 4000000 in
set_option maxRecDepth 100000 in
theorem nd_X11_take_5 {p : Program} {l : Launch} {e : Env} {s : State} {m : MethodId} {args : Array Value} {below : List Frame} {meth : Method} {c : Code} {b0 : Nat} {D : va_G} {cy : Nat → ClassId} {M1 : Mm} {r : Int64} (CX : Cx yX11_take cX11_take 6 (some .long) wsX11_take b0 D cy p s m args meth c) : ∀ (fu : Nat), ∀ (M : Mm) (x0 : Nat) (x1 : Int32) (x2 : Int32) (x3 : Int64) (x5 : Int32) (H : Heap) (locs : List Loc) (ls : Array Slot), f_X11_take_L5 fu M x0 x1 x2 x3 x5 = some (M1, r) → Hp b0 D cy M H → va_S (BA b0) s.heap H locs → lv_has ls 6 [(0, .ref x0), (1, .int x1), (2, .int x2), (3, .long x3), (5, .int x5)] → W p l e rm_X11_take s m args below meth c H locs 0 0 (MQ below (Qm b0 D cy M1 (some (.long r))) args s 0 0 (BA b0)) (F0 m 5 ls []) := by
  obtain ⟨hx, hb, hr, hml, hown0, hts, hlk, hK, hN, hb0, hnm⟩ := id CX
  have hown : s.vm.findClass RX11 = some m.cls := hown0
  intro fu
  induction fu with
  | zero =>
    intro M x0 x1 x2 x3 x5 H locs ls hF hP hS hl
    rw [f_X11_take_L5] at hF
    cases hF
  | succ fu ih =>
    intro M x0 x1 x2 x3 x5 H locs ls hF hP hS hl
    rw [f_X11_take_L5] at hF
    refine lv_iload hx hb dX11_take_5 (lv_at hl 4 rfl) ?_
    refine lv_iload_n hx hb dX11_take_7 rfl (lv_at hl 2 rfl) ?_
    refine lv_icmp_ge (tgt := 83) hx hb dX11_take_8 (by decide) (fun c1 => ?_) (fun c1 => ?_)
    · replace hF := it_t hF c1
      refine lv_lload_n hx hb dX11_take_83 rfl (lv_at hl 3 rfl) ?_
      cases hF
      exact W.lret hx hb hr (fun t ht hW => ⟨rfl, by rw [ht]; exact hP, hS.F ht⟩) hS.2.2 dX11_take_84 hlk
    · replace hF := it_f hF c1
      refine lv_aload_n hx hb dX11_take_11 rfl (lv_at hl 0 rfl) ?_
      refine xr_getI hx hb hts iw_X11_take_11 hown hK hP hF 11 43 rfl (by decide) (by decide +kernel) ⟨rfl, rfl, rfl⟩ dX11_take_12 (fun v2 hF => ?_)
      refine lv_aload_n hx hb dX11_take_15 rfl (lv_at hl 0 rfl) ?_
      refine xr_getI hx hb hts iw_X11_take_11 hown hK hP hF 11 44 rfl (by decide) (by decide +kernel) ⟨rfl, rfl, rfl⟩ dX11_take_16 (fun v3 hF => ?_)
      refine lv_icmp_lt (tgt := 29) hx hb dX11_take_19 (by decide) (fun c4 => ?_) (fun c4 => ?_)
      · replace hF := it_t hF c4
        refine lv_ldc2 (v := 2) hx hb hown (hts (.constantLong RX11 265 2) (by decide +kernel)) dX11_take_29 ?_
        refine lv_lload_n hx hb dX11_take_32 rfl (lv_at hl 3 rfl) ?_
        refine lv_lmul hx hb dX11_take_33 ?_
        refine lv_aload_n hx hb dX11_take_34 rfl (lv_at hl 0 rfl) ?_
        refine xr_getR hx hb hts iw_X11_take_11 hown hK hP hF 11 18 rfl (by decide) (by decide +kernel) ⟨rfl, rfl, rfl⟩ dX11_take_35 (fun v5 hF => ?_)
        refine lv_bipush (v := 64) hx hb dX11_take_38 (by decide) ?_
        refine lv_iload_n hx hb dX11_take_40 rfl (lv_at hl 1 rfl) ?_
        refine lv_imul hx hb dX11_take_41 ?_
        refine lv_aload_n hx hb dX11_take_42 rfl (lv_at hl 0 rfl) ?_
        refine xr_getI hx hb hts iw_X11_take_11 hown hK hP hF 11 43 rfl (by decide) (by decide +kernel) ⟨rfl, rfl, rfl⟩ dX11_take_43 (fun v6 hF => ?_)
        refine lv_bipush (v := 8) hx hb dX11_take_46 (by decide) ?_
        refine lv_idiv hx hb dX11_take_48 (by decide) ?_
        refine lv_iadd hx hb dX11_take_49 ?_
        refine xr_aI hx hb hK hP hF dX11_take_50 (fun v7 hF => ?_)
        refine lv_bipush (v := 7) hx hb dX11_take_51 (by decide) ?_
        refine lv_aload_n hx hb dX11_take_53 rfl (lv_at hl 0 rfl) ?_
        refine xr_getI hx hb hts iw_X11_take_11 hown hK hP hF 11 43 rfl (by decide) (by decide +kernel) ⟨rfl, rfl, rfl⟩ dX11_take_54 (fun v8 hF => ?_)
        refine lv_bipush (v := 8) hx hb dX11_take_57 (by decide) ?_
        refine lv_irem hx hb dX11_take_59 (by decide) ?_
        refine lv_isub hx hb dX11_take_60 ?_
        refine lv_ishr hx hb dX11_take_61 ?_
        refine lv_iconst (v := 1) hx hb dX11_take_62 (by decide) ?_
        refine lv_iand hx hb dX11_take_63 ?_
        refine lv_i2l hx hb dX11_take_64 rfl ?_
        refine lv_ladd hx hb dX11_take_65 ?_
        refine lv_lstore_n (lv' := [(3, .long ((2 * x3) + (((v7 >>> ((7 - (v8 - v8 / 8 * 8)) &&& 31)) &&& 1).toInt64))), (0, .ref x0), (1, .int x1), (2, .int x2), (5, .int x5)]) hx hb dX11_take_66 rfl hl (by decide) (by first | rfl | simp [cat_rf]) (fun ls hl => ?_)
        refine lv_aload_n hx hb dX11_take_67 rfl (lv_at hl 1 rfl) ?_
        refine lv_dup hx hb dX11_take_68 rfl ?_
        refine xr_getI hx hb hts iw_X11_take_11 hown hK hP hF 11 43 rfl (by decide) (by decide +kernel) ⟨rfl, rfl, rfl⟩ dX11_take_69 (fun v9 hF => ?_)
        refine lv_iconst (v := 1) hx hb dX11_take_72 (by decide) ?_
        refine lv_iadd hx hb dX11_take_73 ?_
        refine xr_putI hx hb hts iw_X11_take_11 hown hK hP hS hF 11 43 rfl (by decide) tyX11 tyX11_ok nmX11 (by decide +kernel) (Or.inl rfl) rfl ⟨rfl, rfl, rfl⟩ dX11_take_74 (fun M10 H locs hF hP hS => ?_)
        refine lv_iinc (v := x5 + 1) (lv' := [(5, .int (x5 + 1)), (3, .long ((2 * x3) + (((v7 >>> ((7 - (v8 - v8 / 8 * 8)) &&& 31)) &&& 1).toInt64))), (0, .ref x0), (1, .int x1), (2, .int x2)]) hx hb dX11_take_77 hl (k := 4) rfl (by rfl) (by decide) rfl (fun ls hl => ?_)
        refine lv_goto (tgt := 5) hx hb dX11_take_80 (by decide) ?_
        exact ih _ _ _ _ _ _ _ _ _ hF hP hS (lv_sub hl [2, 3, 4, 1, 0] rfl)
      · replace hF := it_f hF c4
        refine lv_aload_n hx hb dX11_take_22 rfl (lv_at hl 0 rfl) ?_
        refine lv_iconst (v := 1) hx hb dX11_take_23 (by decide) ?_
        refine xr_putZ hx hb hts iw_X11_take_11 hown hK hP hS hF 11 45 rfl (by decide) tyX11 tyX11_ok nmX11 (by decide +kernel) (Or.inl rfl) rfl ⟨rfl, rfl, rfl⟩ dX11_take_24 (fun M11 H locs hF hP hS => ?_)
        refine lv_lconst (v := 0) hx hb dX11_take_27 (by decide) ?_
        cases hF
        exact W.lret hx hb hr (fun t ht hW => ⟨rfl, by rw [ht]; exact hP, hS.F ht⟩) hS.2.2 dX11_take_28 hlk
theorem gk_X11_take {M : Mm} {a0 : Nat} {a1 : Int32} {a2 : Int32} {r : (Mm × Int64)} (h : f_X11_take M a0 a1 a2 = some r) : mK M a0 = 12 := by
  unfold f_X11_take at h
  exact (if_some h).1
set_option maxHeartbeats 4000000 in
set_option maxRecDepth 100000 in
theorem ct_X11_take (l : Launch) (b0 : Nat) (D : va_G) (cy : Nat → ClassId) (M : Mm) (a0 : Nat) (a1 : Int32) (a2 : Int32) (M1 : Mm) (r : Int64) (hF : f_X11_take M a0 a1 a2 = some (M1, r)) : Met l yX11_take wsX11_take rm_X11_take (va_Pc [.ref a0, .int a1, .int a2] (Pm b0 D cy M)) (Qm b0 D cy M1 (some (.long r))) 0 0 (BA b0) := by
  refine ct_of [.ref a0, .int a1, .int a2] (by decide) rfl ?_
  intro p e s m below meth c CX hP
  obtain ⟨hx, hb, hr, hml, hown0, hts, hlk, hK, hN, hb0, hnm⟩ := id CX
  have hown : s.vm.findClass RX11 = some m.cls := hown0
  have hS : va_S (BA b0) s.heap s.heap [] := va_S.rf
  have hl := lv_entry [.ref a0, .int a1, .int a2] (n := 6) (Nat.le_of_ble_eq_true rfl)
  generalize (lg_sl [.ref a0, .int a1, .int a2] ++ List.replicate (6 - (lg_sl [.ref a0, .int a1, .int a2]).length) Slot.unset).toArray = ls at hl ⊢
  have hl : lv_has ls 6 [(0, .ref a0), (1, .int a1), (2, .int a2)] := hl
  unfold f_X11_take at hF
  replace hF := (if_some hF).2
  refine lv_lconst (v := 0) hx hb dX11_take_0 (by decide) ?_
  refine lv_lstore_n (lv' := [(3, .long 0), (0, .ref a0), (1, .int a1), (2, .int a2)]) hx hb dX11_take_1 rfl hl (by decide) (by first | rfl | simp [cat_rf]) (fun ls hl => ?_)
  refine lv_iconst (v := 0) hx hb dX11_take_2 (by decide) ?_
  refine lv_istore (lv' := [(5, .int 0), (3, .long 0), (0, .ref a0), (1, .int a1), (2, .int a2)]) hx hb dX11_take_3 hl (by decide) (by first | rfl | simp [cat_rf]) (fun ls hl => ?_)
  exact nd_X11_take_5 CX _ _ _ _ _ _ _ _ _ _ hF hP hS (lv_sub hl [2, 3, 4, 1, 0] rfl)
/-! X11_takeEnd -/
theorem iw_X11_takeEnd_11 : ∀ w ∈ u_ws RX11 TX11 58, w ∈ wsX11_takeEnd := by decide +kernel
abbrev rm_X11_takeEnd : Room := { frames := 1, cells := 0, slots := 0, locals := 25 }
set_option maxHeartbeats 4000000 in
set_option maxRecDepth 100000 in
theorem nd_X11_takeEnd_101 {p : Program} {l : Launch} {e : Env} {s : State} {m : MethodId} {args : Array Value} {below : List Frame} {meth : Method} {c : Code} {b0 : Nat} {D : va_G} {cy : Nat → ClassId} {M1 : Mm} (CX : Cx yX11_takeEnd cX11_takeEnd 4 none wsX11_takeEnd b0 D cy p s m args meth c) : ∀ (M : Mm) (x0 : Nat) (x1 : Int32) (x3 : Int32) (H : Heap) (locs : List Loc) (ls : Array Slot), f_X11_takeEnd_J101 M x0 x1 x3 = some M1 → Hp b0 D cy M H → va_S (BA b0) s.heap H locs → lv_has ls 4 [(0, .ref x0), (1, .int x1), (3, .int x3)] → W p l e rm_X11_takeEnd s m args below meth c H locs 0 0 (MQ below (Qm b0 D cy M1 none) args s 0 0 (BA b0)) (F0 m 101 ls []) := by
  obtain ⟨hx, hb, hr, hml, hown0, hts, hlk, hK, hN, hb0, hnm⟩ := id CX
  have hown : s.vm.findClass RX11 = some m.cls := hown0
  intro M x0 x1 x3 H locs ls hF hP hS hl
  unfold f_X11_takeEnd_J101 at hF
  refine lv_aload_n hx hb dX11_takeEnd_101 rfl (lv_at hl 0 rfl) ?_
  refine lv_aload_n hx hb dX11_takeEnd_102 rfl (lv_at hl 0 rfl) ?_
  refine xr_getI hx hb hts iw_X11_takeEnd_11 hown hK hP hF 11 45 rfl (by decide) (by decide +kernel) ⟨rfl, rfl, rfl⟩ dX11_takeEnd_103 (fun v1 hF => ?_)
  refine lv_if_ne (tgt := 119) hx hb dX11_takeEnd_106 (by decide) (fun c2 => ?_) (fun c2 => ?_)
  · replace hF := it_f hF c2
    refine lv_iconst (v := 1) hx hb dX11_takeEnd_119 (by decide) ?_
    refine lv_goto (tgt := 124) hx hb dX11_takeEnd_120 (by decide) ?_
    refine xr_putZ hx hb hts iw_X11_takeEnd_11 hown hK hP hS hF 11 45 rfl (by decide) tyX11 tyX11_ok nmX11 (by decide +kernel) (Or.inl rfl) rfl ⟨rfl, rfl, rfl⟩ dX11_takeEnd_124 (fun M3 H locs hF hP hS => ?_)
    cases hF
    exact W.vret hx hb hr (fun t ht hW => ⟨rfl, by rw [ht]; exact hP, hS.F ht⟩) hS.2.2 dX11_takeEnd_127 hlk
  · replace hF := it_t hF c2
    refine lv_iload_n hx hb dX11_takeEnd_109 rfl (lv_at hl 2 rfl) ?_
    refine lv_aload_n hx hb dX11_takeEnd_110 rfl (lv_at hl 0 rfl) ?_
    refine xr_getR hx hb hts iw_X11_takeEnd_11 hown hK hP hF 11 17 rfl (by decide) (by decide +kernel) ⟨rfl, rfl, rfl⟩ dX11_takeEnd_111 (fun v4 hF => ?_)
    refine lv_iload_n hx hb dX11_takeEnd_114 rfl (lv_at hl 1 rfl) ?_
    refine xr_aI hx hb hK hP hF dX11_takeEnd_115 (fun v5 hF => ?_)
    refine lv_icmp_eq (tgt := 123) hx hb dX11_takeEnd_116 (by decide) (fun c6 => ?_) (fun c6 => ?_)
    · replace hF := it_t hF c6
      refine lv_iconst (v := 0) hx hb dX11_takeEnd_123 (by decide) ?_
      refine xr_putZ hx hb hts iw_X11_takeEnd_11 hown hK hP hS hF 11 45 rfl (by decide) tyX11 tyX11_ok nmX11 (by decide +kernel) (Or.inl rfl) rfl ⟨rfl, rfl, rfl⟩ dX11_takeEnd_124 (fun M7 H locs hF hP hS => ?_)
      cases hF
      exact W.vret hx hb hr (fun t ht hW => ⟨rfl, by rw [ht]; exact hP, hS.F ht⟩) hS.2.2 dX11_takeEnd_127 hlk
    · replace hF := it_f hF c6
      refine lv_iconst (v := 1) hx hb dX11_takeEnd_119 (by decide) ?_
      refine lv_goto (tgt := 124) hx hb dX11_takeEnd_120 (by decide) ?_
      refine xr_putZ hx hb hts iw_X11_takeEnd_11 hown hK hP hS hF 11 45 rfl (by decide) tyX11 tyX11_ok nmX11 (by decide +kernel) (Or.inl rfl) rfl ⟨rfl, rfl, rfl⟩ dX11_takeEnd_124 (fun M8 H locs hF hP hS => ?_)
      cases hF
      exact W.vret hx hb hr (fun t ht hW => ⟨rfl, by rw [ht]; exact hP, hS.F ht⟩) hS.2.2 dX11_takeEnd_127 hlk
set_option maxHeartbeats 4000000 in
set_option maxRecDepth 100000 in
theorem nd_X11_takeEnd_95 {p : Program} {l : Launch} {e : Env} {s : State} {m : MethodId} {args : Array Value} {below : List Frame} {meth : Method} {c : Code} {b0 : Nat} {D : va_G} {cy : Nat → ClassId} {M1 : Mm} (CX : Cx yX11_takeEnd cX11_takeEnd 4 none wsX11_takeEnd b0 D cy p s m args meth c) : ∀ (M : Mm) (x0 : Nat) (x1 : Int32) (x3 : Int32) (s0 : Nat) (s1 : Int32) (H : Heap) (locs : List Loc) (ls : Array Slot), f_X11_takeEnd_J95 M x0 x1 x3 s0 s1 = some M1 → Hp b0 D cy M H → va_S (BA b0) s.heap H locs → lv_has ls 4 [(0, .ref x0), (1, .int x1), (3, .int x3)] → W p l e rm_X11_takeEnd s m args below meth c H locs 0 0 (MQ below (Qm b0 D cy M1 none) args s 0 0 (BA b0)) (F0 m 95 ls [.int s1, .ref s0]) := by
  obtain ⟨hx, hb, hr, hml, hown0, hts, hlk, hK, hN, hb0, hnm⟩ := id CX
  have hown : s.vm.findClass RX11 = some m.cls := hown0
  intro M x0 x1 x3 s0 s1 H locs ls hF hP hS hl
  unfold f_X11_takeEnd_J95 at hF
  refine xr_putZ hx hb hts iw_X11_takeEnd_11 hown hK hP hS hF 11 45 rfl (by decide) tyX11 tyX11_ok nmX11 (by decide +kernel) (Or.inl rfl) rfl ⟨rfl, rfl, rfl⟩ dX11_takeEnd_95 (fun M1 H locs hF hP hS => ?_)
  refine lv_iinc (v := x3 + 1) (lv' := [(3, .int (x3 + 1)), (0, .ref x0), (1, .int x1)]) hx hb dX11_takeEnd_98 hl (k := 2) rfl (by rfl) (by decide) rfl (fun ls hl => ?_)
  exact nd_X11_takeEnd_101 CX _ _ _ _ _ _ _ hF hP hS (lv_sub hl [1, 2, 0] rfl)
set_option maxHeartbeats 4000000 in
set_option maxRecDepth 100000 in
theorem nd_X11_takeEnd_90 {p : Program} {l : Launch} {e : Env} {s : State} {m : MethodId} {args : Array Value} {below : List Frame} {meth : Method} {c : Code} {b0 : Nat} {D : va_G} {cy : Nat → ClassId} {M1 : Mm} (CX : Cx yX11_takeEnd cX11_takeEnd 4 none wsX11_takeEnd b0 D cy p s m args meth c) : ∀ (M : Mm) (x0 : Nat) (x1 : Int32) (x3 : Int32) (s0 : Nat) (H : Heap) (locs : List Loc) (ls : Array Slot), f_X11_takeEnd_J90 M x0 x1 x3 s0 = some M1 → Hp b0 D cy M H → va_S (BA b0) s.heap H locs → lv_has ls 4 [(0, .ref x0), (1, .int x1), (3, .int x3)] → W p l e rm_X11_takeEnd s m args below meth c H locs 0 0 (MQ below (Qm b0 D cy M1 none) args s 0 0 (BA b0)) (F0 m 90 ls [.ref s0]) := by
  obtain ⟨hx, hb, hr, hml, hown0, hts, hlk, hK, hN, hb0, hnm⟩ := id CX
  have hown : s.vm.findClass RX11 = some m.cls := hown0
  intro M x0 x1 x3 s0 H locs ls hF hP hS hl
  unfold f_X11_takeEnd_J90 at hF
  refine lv_iconst (v := 1) hx hb dX11_takeEnd_90 (by decide) ?_
  refine lv_goto (tgt := 95) hx hb dX11_takeEnd_91 (by decide) ?_
  exact nd_X11_takeEnd_95 CX _ _ _ _ _ _ _ _ _ hF hP hS (lv_sub hl [0, 1, 2] rfl)
set_option maxHeartbeats 4000000 in
set_option maxRecDepth 100000 in
theorem nd_X11_takeEnd_40 {p : Program} {l : Launch} {e : Env} {s : State} {m : MethodId} {args : Array Value} {below : List Frame} {meth : Method} {c : Code} {b0 : Nat} {D : va_G} {cy : Nat → ClassId} {M1 : Mm} (CX : Cx yX11_takeEnd cX11_takeEnd 4 none wsX11_takeEnd b0 D cy p s m args meth c) : ∀ (M : Mm) (x0 : Nat) (x1 : Int32) (x2 : Int32) (H : Heap) (locs : List Loc) (ls : Array Slot), f_X11_takeEnd_J40 M x0 x1 x2 = some M1 → Hp b0 D cy M H → va_S (BA b0) s.heap H locs → lv_has ls 4 [(0, .ref x0), (1, .int x1), (2, .int x2)] → W p l e rm_X11_takeEnd s m args below meth c H locs 0 0 (MQ below (Qm b0 D cy M1 none) args s 0 0 (BA b0)) (F0 m 40 ls []) := by
  obtain ⟨hx, hb, hr, hml, hown0, hts, hlk, hK, hN, hb0, hnm⟩ := id CX
  have hown : s.vm.findClass RX11 = some m.cls := hown0
  intro M x0 x1 x2 H locs ls hF hP hS hl
  unfold f_X11_takeEnd_J40 at hF
  refine lv_aload_n hx hb dX11_takeEnd_40 rfl (lv_at hl 0 rfl) ?_
  refine xr_getI hx hb hts iw_X11_takeEnd_11 hown hK hP hF 11 43 rfl (by decide) (by decide +kernel) ⟨rfl, rfl, rfl⟩ dX11_takeEnd_41 (fun v1 hF => ?_)
  refine lv_bipush (v := 8) hx hb dX11_takeEnd_44 (by decide) ?_
  refine lv_idiv hx hb dX11_takeEnd_46 (by decide) ?_
  refine lv_istore_n (lv' := [(3, .int (v1 / 8)), (0, .ref x0), (1, .int x1), (2, .int x2)]) hx hb dX11_takeEnd_47 rfl hl (by decide) (by first | rfl | simp [cat_rf]) (fun ls hl => ?_)
  refine lv_iload_n hx hb dX11_takeEnd_48 rfl (lv_at hl 3 rfl) ?_
  refine lv_if_eq (tgt := 101) hx hb dX11_takeEnd_49 (by decide) (fun c2 => ?_) (fun c2 => ?_)
  · replace hF := it_t hF c2
    exact nd_X11_takeEnd_101 CX _ _ _ _ _ _ _ hF hP hS (lv_sub hl [1, 2, 0] rfl)
  · replace hF := it_f hF c2
    refine lv_aload_n hx hb dX11_takeEnd_52 rfl (lv_at hl 1 rfl) ?_
    refine xr_getI hx hb hts iw_X11_takeEnd_11 hown hK hP hF 11 45 rfl (by decide) (by decide +kernel) ⟨rfl, rfl, rfl⟩ dX11_takeEnd_53 (fun v3 hF => ?_)
    refine lv_if_ne (tgt := 101) hx hb dX11_takeEnd_56 (by decide) (fun c4 => ?_) (fun c4 => ?_)
    · replace hF := it_f hF c4
      exact nd_X11_takeEnd_101 CX _ _ _ _ _ _ _ hF hP hS (lv_sub hl [1, 2, 0] rfl)
    · replace hF := it_t hF c4
      refine lv_aload_n hx hb dX11_takeEnd_59 rfl (lv_at hl 1 rfl) ?_
      refine lv_iload_n hx hb dX11_takeEnd_60 rfl (lv_at hl 0 rfl) ?_
      refine lv_aload_n hx hb dX11_takeEnd_61 rfl (lv_at hl 1 rfl) ?_
      refine xr_getR hx hb hts iw_X11_takeEnd_11 hown hK hP hF 11 17 rfl (by decide) (by decide +kernel) ⟨rfl, rfl, rfl⟩ dX11_takeEnd_62 (fun v5 hF => ?_)
      refine lv_iload_n hx hb dX11_takeEnd_65 rfl (lv_at hl 2 rfl) ?_
      refine xr_aI hx hb hK hP hF dX11_takeEnd_66 (fun v6 hF => ?_)
      refine lv_icmp_ge (tgt := 90) hx hb dX11_takeEnd_67 (by decide) (fun c7 => ?_) (fun c7 => ?_)
      · replace hF := it_t hF c7
        exact nd_X11_takeEnd_90 CX _ _ _ _ _ _ _ _ hF hP hS (lv_sub hl [1, 2, 0] rfl)
      · replace hF := it_f hF c7
        refine lv_aload_n hx hb dX11_takeEnd_70 rfl (lv_at hl 1 rfl) ?_
        refine xr_getR hx hb hts iw_X11_takeEnd_11 hown hK hP hF 11 18 rfl (by decide) (by decide +kernel) ⟨rfl, rfl, rfl⟩ dX11_takeEnd_71 (fun v8 hF => ?_)
        refine lv_bipush (v := 64) hx hb dX11_takeEnd_74 (by decide) ?_
        refine lv_iload_n hx hb dX11_takeEnd_76 rfl (lv_at hl 2 rfl) ?_
        refine lv_imul hx hb dX11_takeEnd_77 ?_
        refine lv_iload_n hx hb dX11_takeEnd_78 rfl (lv_at hl 0 rfl) ?_
        refine lv_iadd hx hb dX11_takeEnd_79 ?_
        refine xr_aI hx hb hK hP hF dX11_takeEnd_80 (fun v9 hF => ?_)
        refine lv_aload_n hx hb dX11_takeEnd_81 rfl (lv_at hl 1 rfl) ?_
        refine lv_iload_n hx hb dX11_takeEnd_82 rfl (lv_at hl 2 rfl) ?_
        refine lv_iload_n hx hb dX11_takeEnd_83 rfl (lv_at hl 0 rfl) ?_
        obtain ⟨v11, h10, hF⟩ := ob_some hF
        refine xr_call1 (va_runV (As := [.int x1, .int (v1 / 8)]) (rest := [.int v9, .ref x0]) ⟨hx, hb, hml, hown, hts⟩ (ct_X11_checkOf l b0 D cy M x0 x1 (v1 / 8) v11 h10) (cwV 2 hts gX11_takeEnd_X11_checkOf rfl rfl rfl (by decide +kernel) ⟨Nat.le_of_ble_eq_true rfl, Nat.le_of_ble_eq_true rfl⟩) (xp_V hP hK hN hS hb0 11 rfl (gk_X11_checkOf h10)) rfl rfl hl.1 rfl (lv_room (Nat.le_of_ble_eq_true rfl)) dX11_takeEnd_84 ⟨Nat.le_of_ble_eq_true rfl, Nat.le_of_ble_eq_true rfl⟩) hS (fun H locs hP hS => ?_)
        refine lv_icmp_eq (tgt := 94) hx hb dX11_takeEnd_87 (by decide) (fun c12 => ?_) (fun c12 => ?_)
        · replace hF := it_t hF c12
          refine lv_iconst (v := 0) hx hb dX11_takeEnd_94 (by decide) ?_
          exact nd_X11_takeEnd_95 CX _ _ _ _ _ _ _ _ _ hF hP hS (lv_sub hl [1, 2, 0] rfl)
        · replace hF := it_f hF c12
          exact nd_X11_takeEnd_90 CX _ _ _ _ _ _ _ _ hF hP hS (lv_sub hl [1, 2, 0] rfl)
set_option maxHeartbeats 4000000 in
set_option maxRecDepth 100000 in
theorem nd_X11_takeEnd_34 {p : Program} {l : Launch} {e : Env} {s : State} {m : MethodId} {args : Array Value} {below : List Frame} {meth : Method} {c : Code} {b0 : Nat} {D : va_G} {cy : Nat → ClassId} {M1 : Mm} (CX : Cx yX11_takeEnd cX11_takeEnd 4 none wsX11_takeEnd b0 D cy p s m args meth c) (k0 : Mm → Nat → Int32 → Int32 → Option Mm) (hk0 : ∀ (M : Mm) (x0 : Nat) (x1 : Int32) (x2 : Int32) (H : Heap) (locs : List Loc) (ls : Array Slot), k0 M x0 x1 x2 = some M1 → Hp b0 D cy M H → va_S (BA b0) s.heap H locs → lv_has ls 4 [(0, .ref x0), (1, .int x1), (2, .int x2)] → W p l e rm_X11_takeEnd s m args below meth c H locs 0 0 (MQ below (Qm b0 D cy M1 none) args s 0 0 (BA b0)) (F0 m 0 ls [])) : ∀ (M : Mm) (x0 : Nat) (x1 : Int32) (x2 : Int32) (s0 : Nat) (s1 : Int32) (H : Heap) (locs : List Loc) (ls : Array Slot), f_X11_takeEnd_J34 k0 M x0 x1 x2 s0 s1 = some M1 → Hp b0 D cy M H → va_S (BA b0) s.heap H locs → lv_has ls 4 [(0, .ref x0), (1, .int x1), (2, .int x2)] → W p l e rm_X11_takeEnd s m args below meth c H locs 0 0 (MQ below (Qm b0 D cy M1 none) args s 0 0 (BA b0)) (F0 m 34 ls [.int s1, .ref s0]) := by
  obtain ⟨hx, hb, hr, hml, hown0, hts, hlk, hK, hN, hb0, hnm⟩ := id CX
  have hown : s.vm.findClass RX11 = some m.cls := hown0
  intro M x0 x1 x2 s0 s1 H locs ls hF hP hS hl
  unfold f_X11_takeEnd_J34 at hF
  refine xr_putZ hx hb hts iw_X11_takeEnd_11 hown hK hP hS hF 11 45 rfl (by decide) tyX11 tyX11_ok nmX11 (by decide +kernel) (Or.inl rfl) rfl ⟨rfl, rfl, rfl⟩ dX11_takeEnd_34 (fun M1 H locs hF hP hS => ?_)
  refine lv_goto (tgt := 0) hx hb dX11_takeEnd_37 (by decide) ?_
  exact hk0 _ _ _ _ _ _ _ hF hP hS (lv_sub hl [0, 1, 2] rfl)
set_option maxHeartbeats 4000000 in
set_option maxRecDepth 100000 in
theorem nd_X11_takeEnd_0 {p : Program} {l : Launch} {e : Env} {s : State} {m : MethodId} {args : Array Value} {below : List Frame} {meth : Method} {c : Code} {b0 : Nat} {D : va_G} {cy : Nat → ClassId} {M1 : Mm} (CX : Cx yX11_takeEnd cX11_takeEnd 4 none wsX11_takeEnd b0 D cy p s m args meth c) : ∀ (fu : Nat), ∀ (M : Mm) (x0 : Nat) (x1 : Int32) (x2 : Int32) (H : Heap) (locs : List Loc) (ls : Array Slot), f_X11_takeEnd_L0 fu M x0 x1 x2 = some M1 → Hp b0 D cy M H → va_S (BA b0) s.heap H locs → lv_has ls 4 [(0, .ref x0), (1, .int x1), (2, .int x2)] → W p l e rm_X11_takeEnd s m args below meth c H locs 0 0 (MQ below (Qm b0 D cy M1 none) args s 0 0 (BA b0)) (F0 m 0 ls []) := by
  obtain ⟨hx, hb, hr, hml, hown0, hts, hlk, hK, hN, hb0, hnm⟩ := id CX
  have hown : s.vm.findClass RX11 = some m.cls := hown0
  intro fu
  induction fu with
  | zero =>
    intro M x0 x1 x2 H locs ls hF hP hS hl
    rw [f_X11_takeEnd_L0] at hF
    cases hF
  | succ fu ih =>
    intro M x0 x1 x2 H locs ls hF hP hS hl
    rw [f_X11_takeEnd_L0] at hF
    refine lv_aload_n hx hb dX11_takeEnd_0 rfl (lv_at hl 0 rfl) ?_
    refine xr_getI hx hb hts iw_X11_takeEnd_11 hown hK hP hF 11 45 rfl (by decide) (by decide +kernel) ⟨rfl, rfl, rfl⟩ dX11_takeEnd_1 (fun v1 hF => ?_)
    refine lv_if_ne (tgt := 40) hx hb dX11_takeEnd_4 (by decide) (fun c2 => ?_) (fun c2 => ?_)
    · replace hF := it_f hF c2
      exact nd_X11_takeEnd_40 CX _ _ _ _ _ _ _ hF hP hS (lv_sub hl [0, 1, 2] rfl)
    · replace hF := it_t hF c2
      refine lv_aload_n hx hb dX11_takeEnd_7 rfl (lv_at hl 0 rfl) ?_
      refine xr_getI hx hb hts iw_X11_takeEnd_11 hown hK hP hF 11 43 rfl (by decide) (by decide +kernel) ⟨rfl, rfl, rfl⟩ dX11_takeEnd_8 (fun v3 hF => ?_)
      refine lv_bipush (v := 8) hx hb dX11_takeEnd_11 (by decide) ?_
      refine lv_irem hx hb dX11_takeEnd_13 (by decide) ?_
      refine lv_if_eq (tgt := 40) hx hb dX11_takeEnd_14 (by decide) (fun c4 => ?_) (fun c4 => ?_)
      · replace hF := it_t hF c4
        exact nd_X11_takeEnd_40 CX _ _ _ _ _ _ _ hF hP hS (lv_sub hl [0, 1, 2] rfl)
      · replace hF := it_f hF c4
        refine lv_aload_n hx hb dX11_takeEnd_17 rfl (lv_at hl 0 rfl) ?_
        refine lv_aload_n hx hb dX11_takeEnd_18 rfl (lv_at hl 0 rfl) ?_
        refine lv_iload_n hx hb dX11_takeEnd_19 rfl (lv_at hl 1 rfl) ?_
        refine lv_iconst (v := 1) hx hb dX11_takeEnd_20 (by decide) ?_
        obtain ⟨M6, v7, h5, hF⟩ := ob2_some hF
        refine xr_call1 (va_runV (As := [.int x1, .int 1]) (rest := [.ref x0]) ⟨hx, hb, hml, hown, hts⟩ (ct_X11_take l b0 D cy M x0 x1 1 M6 v7 h5) (cwV 2 hts gX11_takeEnd_X11_take rfl rfl rfl (by decide +kernel) ⟨Nat.le_of_ble_eq_true rfl, Nat.le_of_ble_eq_true rfl⟩) (xp_V hP hK hN hS hb0 11 rfl (gk_X11_take h5)) rfl rfl hl.1 rfl (lv_room (Nat.le_of_ble_eq_true rfl)) dX11_takeEnd_21 ⟨Nat.le_of_ble_eq_true rfl, Nat.le_of_ble_eq_true rfl⟩) hS (fun H locs hP hS => ?_)
        refine lv_lconst (v := 0) hx hb dX11_takeEnd_24 (by decide) ?_
        refine W.lcmp hx hb dX11_takeEnd_25 ?_
        refine lv_if_eq (tgt := 33) hx hb dX11_takeEnd_26 (by decide) (fun c8 => ?_) (fun c8 => ?_)
        · replace hF := it_t hF c8
          refine lv_iconst (v := 0) hx hb dX11_takeEnd_33 (by decide) ?_
          exact nd_X11_takeEnd_34 CX (f_X11_takeEnd_L0 fu) ih _ _ _ _ _ _ _ _ _ hF hP hS (lv_sub hl [0, 1, 2] rfl)
        · replace hF := it_f hF c8
          refine lv_iconst (v := 1) hx hb dX11_takeEnd_29 (by decide) ?_
          refine lv_goto (tgt := 34) hx hb dX11_takeEnd_30 (by decide) ?_
          exact nd_X11_takeEnd_34 CX (f_X11_takeEnd_L0 fu) ih _ _ _ _ _ _ _ _ _ hF hP hS (lv_sub hl [0, 1, 2] rfl)
theorem gk_X11_takeEnd {M : Mm} {a0 : Nat} {a1 : Int32} {a2 : Int32} {r : Mm} (h : f_X11_takeEnd M a0 a1 a2 = some r) : mK M a0 = 12 := by
  unfold f_X11_takeEnd at h
  exact (if_some h).1
set_option maxHeartbeats 4000000 in
set_option maxRecDepth 100000 in
theorem ct_X11_takeEnd (l : Launch) (b0 : Nat) (D : va_G) (cy : Nat → ClassId) (M : Mm) (a0 : Nat) (a1 : Int32) (a2 : Int32) (M1 : Mm) (hF : f_X11_takeEnd M a0 a1 a2 = some M1) : Met l yX11_takeEnd wsX11_takeEnd rm_X11_takeEnd (va_Pc [.ref a0, .int a1, .int a2] (Pm b0 D cy M)) (Qm b0 D cy M1 none) 0 0 (BA b0) := by
  refine ct_of [.ref a0, .int a1, .int a2] (by decide) rfl ?_
  intro p e s m below meth c CX hP
  obtain ⟨hx, hb, hr, hml, hown0, hts, hlk, hK, hN, hb0, hnm⟩ := id CX
  have hown : s.vm.findClass RX11 = some m.cls := hown0
  have hS : va_S (BA b0) s.heap s.heap [] := va_S.rf
  have hl := lv_entry [.ref a0, .int a1, .int a2] (n := 4) (Nat.le_of_ble_eq_true rfl)
  generalize (lg_sl [.ref a0, .int a1, .int a2] ++ List.replicate (4 - (lg_sl [.ref a0, .int a1, .int a2]).length) Slot.unset).toArray = ls at hl ⊢
  have hl : lv_has ls 4 [(0, .ref a0), (1, .int a1), (2, .int a2)] := hl
  unfold f_X11_takeEnd at hF
  replace hF := (if_some hF).2
  exact nd_X11_takeEnd_0 CX _ _ _ _ _ _ _ _ hF hP hS (lv_sub hl [0, 1, 2] rfl)
