/-! X11_count -/
theorem iw_X11_count_11 : ∀ w ∈ u_ws RX11 TX11 58, w ∈ wsX11_count := by decide +kernel
abbrev rm_X11_count : Room := { frames := 0, cells := 0, slots := 0, locals := 0 }
set_option maxHeartbeats 4000000 in
set_option maxRecDepth 100000 in
theorem nd_X11_count_32 {p : Program} {l : Launch} {e : Env} {s : State} {m : MethodId} {args : Array Value} {below : List Frame} {meth : Method} {c : Code} {b0 : Nat} {D : va_G} {cy : Nat → ClassId} {M1 : Mm} {r : Int32} (CX : Cx yX11_count cX11_count 4 (some .int) wsX11_count b0 D cy p s m args meth c) (k9 : Mm → Nat → Int32 → Int32 → Int32 → Option (Mm × Int32)) (hk9 : ∀ (M : Mm) (x0 : Nat) (x1 : Int32) (x2 : Int32) (x3 : Int32) (H : Heap) (locs : List Loc) (ls : Array Slot), k9 M x0 x1 x2 x3 = some (M1, r) → Hp b0 D cy M H → va_S (BA b0) s.heap H locs → lv_has ls 4 [(0, .ref x0), (1, .int x1), (2, .int x2), (3, .int x3)] → W p l e rm_X11_count s m args below meth c H locs 0 0 (MQ below (Qm b0 D cy M1 (some (.int r))) args s 0 0 (BA b0)) (F0 m 9 ls [])) : ∀ (M : Mm) (x0 : Nat) (x1 : Int32) (x3 : Int32) (s0 : Int32) (s1 : Int32) (H : Heap) (locs : List Loc) (ls : Array Slot), f_X11_count_J32 k9 M x0 x1 x3 s0 s1 = some (M1, r) → Hp b0 D cy M H → va_S (BA b0) s.heap H locs → lv_has ls 4 [(0, .ref x0), (1, .int x1), (3, .int x3)] → W p l e rm_X11_count s m args below meth c H locs 0 0 (MQ below (Qm b0 D cy M1 (some (.int r))) args s 0 0 (BA b0)) (F0 m 32 ls [.int s1, .int s0]) := by
  obtain ⟨hx, hb, hr, hml, hown0, hts, hlk, hK, hN, hb0, hnm⟩ := id CX
  have hown : s.vm.findClass RX11 = some m.cls := hown0
  intro M x0 x1 x3 s0 s1 H locs ls hF hP hS hl
  unfold f_X11_count_J32 at hF
  refine lv_iadd hx hb dX11_count_32 ?_
  refine lv_istore_n (lv' := [(2, .int (s0 + s1)), (0, .ref x0), (1, .int x1), (3, .int x3)]) hx hb dX11_count_33 rfl hl (by decide) (by first | rfl | simp [cat_rf]) (fun ls hl => ?_)
  refine lv_iinc (v := x3 + 1) (lv' := [(3, .int (x3 + 1)), (2, .int (s0 + s1)), (0, .ref x0), (1, .int x1)]) hx hb dX11_count_34 hl (k := 3) rfl (by rfl) (by decide) rfl (fun ls hl => ?_)
  refine lv_goto (tgt := 9) hx hb dX11_count_37 (by decide) ?_
  exact hk9 _ _ _ _ _ _ _ _ hF hP hS (lv_sub hl [2, 3, 1, 0] rfl)
set_option maxHeartbeats 4000000 in
set_option maxRecDepth 100000 in
theorem nd_X11_count_9 {p : Program} {l : Launch} {e : Env} {s : State} {m : MethodId} {args : Array Value} {below : List Frame} {meth : Method} {c : Code} {b0 : Nat} {D : va_G} {cy : Nat → ClassId} {M1 : Mm} {r : Int32} (CX : Cx yX11_count cX11_count 4 (some .int) wsX11_count b0 D cy p s m args meth c) : ∀ (fu : Nat), ∀ (M : Mm) (x0 : Nat) (x1 : Int32) (x2 : Int32) (x3 : Int32) (H : Heap) (locs : List Loc) (ls : Array Slot), f_X11_count_L9 fu M x0 x1 x2 x3 = some (M1, r) → Hp b0 D cy M H → va_S (BA b0) s.heap H locs → lv_has ls 4 [(0, .ref x0), (1, .int x1), (2, .int x2), (3, .int x3)] → W p l e rm_X11_count s m args below meth c H locs 0 0 (MQ below (Qm b0 D cy M1 (some (.int r))) args s 0 0 (BA b0)) (F0 m 9 ls []) := by
  obtain ⟨hx, hb, hr, hml, hown0, hts, hlk, hK, hN, hb0, hnm⟩ := id CX
  have hown : s.vm.findClass RX11 = some m.cls := hown0
  intro fu
  induction fu with
  | zero =>
    intro M x0 x1 x2 x3 H locs ls hF hP hS hl
    rw [f_X11_count_L9] at hF
    cases hF
  | succ fu ih =>
    intro M x0 x1 x2 x3 H locs ls hF hP hS hl
    rw [f_X11_count_L9] at hF
    refine lv_iload_n hx hb dX11_count_9 rfl (lv_at hl 3 rfl) ?_
    refine lv_aload_n hx hb dX11_count_10 rfl (lv_at hl 0 rfl) ?_
    refine xr_getI hx hb hts iw_X11_count_11 hown hK hP hF 11 16 rfl (by decide) (by decide +kernel) ⟨rfl, rfl, rfl⟩ dX11_count_11 (fun v1 hF => ?_)
    refine lv_icmp_ge (tgt := 40) hx hb dX11_count_14 (by decide) (fun c2 => ?_) (fun c2 => ?_)
    · replace hF := it_t hF c2
      refine lv_iload_n hx hb dX11_count_40 rfl (lv_at hl 1 rfl) ?_
      refine lv_if_ne (tgt := 51) hx hb dX11_count_41 (by decide) (fun c3 => ?_) (fun c3 => ?_)
      · replace hF := it_f hF c3
        refine lv_iload_n hx hb dX11_count_51 rfl (lv_at hl 1 rfl) ?_
        refine lv_iconst (v := 1) hx hb dX11_count_52 (by decide) ?_
        refine lv_icmp_ne (tgt := 63) hx hb dX11_count_53 (by decide) (fun c4 => ?_) (fun c4 => ?_)
        · replace hF := it_f hF c4
          refine lv_iload_n hx hb dX11_count_63 rfl (lv_at hl 1 rfl) ?_
          refine lv_iconst (v := 2) hx hb dX11_count_64 (by decide) ?_
          refine lv_icmp_ne (tgt := 75) hx hb dX11_count_65 (by decide) (fun c5 => ?_) (fun c5 => ?_)
          · replace hF := it_f hF c5
            refine lv_iload_n hx hb dX11_count_75 rfl (lv_at hl 1 rfl) ?_
            refine lv_iconst (v := 3) hx hb dX11_count_76 (by decide) ?_
            refine lv_icmp_ne (tgt := 84) hx hb dX11_count_77 (by decide) (fun c6 => ?_) (fun c6 => ?_)
            · replace hF := it_f hF c6
              refine lv_iconst (v := (-1)) hx hb dX11_count_84 (by decide) ?_
              cases hF
              exact W.iret hx hb hr (fun t ht hW => ⟨rfl, by rw [ht]; exact hP, hS.F ht⟩) hS.2.2 dX11_count_85 hlk
            · replace hF := it_t hF c6
              refine lv_iload_n hx hb dX11_count_80 rfl (lv_at hl 2 rfl) ?_
              refine lv_goto (tgt := 85) hx hb dX11_count_81 (by decide) ?_
              cases hF
              exact W.iret hx hb hr (fun t ht hW => ⟨rfl, by rw [ht]; exact hP, hS.F ht⟩) hS.2.2 dX11_count_85 hlk
          · replace hF := it_t hF c5
            refine lv_aload_n hx hb dX11_count_68 rfl (lv_at hl 0 rfl) ?_
            refine xr_getI hx hb hts iw_X11_count_11 hown hK hP hF 11 7 rfl (by decide) (by decide +kernel) ⟨rfl, rfl, rfl⟩ dX11_count_69 (fun v7 hF => ?_)
            refine lv_goto (tgt := 85) hx hb dX11_count_72 (by decide) ?_
            cases hF
            exact W.iret hx hb hr (fun t ht hW => ⟨rfl, by rw [ht]; exact hP, hS.F ht⟩) hS.2.2 dX11_count_85 hlk
        · replace hF := it_t hF c4
          refine lv_aload_n hx hb dX11_count_56 rfl (lv_at hl 0 rfl) ?_
          refine xr_getI hx hb hts iw_X11_count_11 hown hK hP hF 11 16 rfl (by decide) (by decide +kernel) ⟨rfl, rfl, rfl⟩ dX11_count_57 (fun v8 hF => ?_)
          refine lv_goto (tgt := 85) hx hb dX11_count_60 (by decide) ?_
          cases hF
          exact W.iret hx hb hr (fun t ht hW => ⟨rfl, by rw [ht]; exact hP, hS.F ht⟩) hS.2.2 dX11_count_85 hlk
      · replace hF := it_t hF c3
        refine lv_aload_n hx hb dX11_count_44 rfl (lv_at hl 0 rfl) ?_
        refine xr_getI hx hb hts iw_X11_count_11 hown hK hP hF 11 1 rfl (by decide) (by decide +kernel) ⟨rfl, rfl, rfl⟩ dX11_count_45 (fun v9 hF => ?_)
        refine lv_goto (tgt := 85) hx hb dX11_count_48 (by decide) ?_
        cases hF
        exact W.iret hx hb hr (fun t ht hW => ⟨rfl, by rw [ht]; exact hP, hS.F ht⟩) hS.2.2 dX11_count_85 hlk
    · replace hF := it_f hF c2
      refine lv_iload_n hx hb dX11_count_17 rfl (lv_at hl 2 rfl) ?_
      refine lv_aload_n hx hb dX11_count_18 rfl (lv_at hl 0 rfl) ?_
      refine xr_getR hx hb hts iw_X11_count_11 hown hK hP hF 11 24 rfl (by decide) (by decide +kernel) ⟨rfl, rfl, rfl⟩ dX11_count_19 (fun v10 hF => ?_)
      refine lv_iload_n hx hb dX11_count_22 rfl (lv_at hl 3 rfl) ?_
      refine xr_aZ hx hb hK hP hF dX11_count_23 (fun v11 hF => ?_)
      refine lv_if_eq (tgt := 31) hx hb dX11_count_24 (by decide) (fun c12 => ?_) (fun c12 => ?_)
      · replace hF := it_t hF c12
        refine lv_iconst (v := 0) hx hb dX11_count_31 (by decide) ?_
        exact nd_X11_count_32 CX (f_X11_count_L9 fu) ih _ _ _ _ _ _ _ _ _ hF hP hS (lv_sub hl [0, 1, 3] rfl)
      · replace hF := it_f hF c12
        refine lv_iconst (v := 1) hx hb dX11_count_27 (by decide) ?_
        refine lv_goto (tgt := 32) hx hb dX11_count_28 (by decide) ?_
        exact nd_X11_count_32 CX (f_X11_count_L9 fu) ih _ _ _ _ _ _ _ _ _ hF hP hS (lv_sub hl [0, 1, 3] rfl)
theorem gk_X11_count {M : Mm} {a0 : Nat} {a1 : Int32} {r : (Mm × Int32)} (h : f_X11_count M a0 a1 = some r) : mK M a0 = 12 := by
  unfold f_X11_count at h
  exact (if_some h).1
set_option maxHeartbeats 4000000 in
set_option maxRecDepth 100000 in
theorem ct_X11_count (l : Launch) (b0 : Nat) (D : va_G) (cy : Nat → ClassId) (M : Mm) (a0 : Nat) (a1 : Int32) (M1 : Mm) (r : Int32) (hF : f_X11_count M a0 a1 = some (M1, r)) : Met l yX11_count wsX11_count rm_X11_count (va_Pc [.ref a0, .int a1] (Pm b0 D cy M)) (Qm b0 D cy M1 (some (.int r))) 0 0 (BA b0) := by
  refine ct_of [.ref a0, .int a1] (by decide) rfl ?_
  intro p e s m below meth c CX hP
  obtain ⟨hx, hb, hr, hml, hown0, hts, hlk, hK, hN, hb0, hnm⟩ := id CX
  have hown : s.vm.findClass RX11 = some m.cls := hown0
  have hS : va_S (BA b0) s.heap s.heap [] := va_S.rf
  have hl := lv_entry [.ref a0, .int a1] (n := 4) (Nat.le_of_ble_eq_true rfl)
  generalize (lg_sl [.ref a0, .int a1] ++ List.replicate (4 - (lg_sl [.ref a0, .int a1]).length) Slot.unset).toArray = ls at hl ⊢
  have hl : lv_has ls 4 [(0, .ref a0), (1, .int a1)] := hl
  unfold f_X11_count at hF
  replace hF := (if_some hF).2
  refine lv_aload_n hx hb dX11_count_0 rfl (lv_at hl 0 rfl) ?_
  refine lv_iconst (v := 0) hx hb dX11_count_1 (by decide) ?_
  refine xr_putI hx hb hts iw_X11_count_11 hown hK hP hS hF 11 0 rfl (by decide) tyX11 tyX11_ok nmX11 (by decide +kernel) (Or.inl rfl) rfl ⟨rfl, rfl, rfl⟩ dX11_count_2 (fun M1 H locs hF hP hS => ?_)
  refine lv_iconst (v := 0) hx hb dX11_count_5 (by decide) ?_
  refine lv_istore_n (lv' := [(2, .int 0), (0, .ref a0), (1, .int a1)]) hx hb dX11_count_6 rfl hl (by decide) (by first | rfl | simp [cat_rf]) (fun ls hl => ?_)
  refine lv_iconst (v := 0) hx hb dX11_count_7 (by decide) ?_
  refine lv_istore_n (lv' := [(3, .int 0), (2, .int 0), (0, .ref a0), (1, .int a1)]) hx hb dX11_count_8 rfl hl (by decide) (by first | rfl | simp [cat_rf]) (fun ls hl => ?_)
  exact nd_X11_count_9 CX _ _ _ _ _ _ _ _ _ hF hP hS (lv_sub hl [2, 3, 1, 0] rfl)
