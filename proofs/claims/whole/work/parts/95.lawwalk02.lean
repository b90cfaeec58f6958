set_option maxHeartbeats 4000000 in
set_option maxRecDepth 100000 in
theorem nd_L_law_807 {p : Program} {l : Launch} {e : Env} {s : State} {m : MethodId} {below : List Frame} {meth : Method} {c : Code} {b L : Nat} {xs : Nat → Int32} {D : va_G} {cy : Nat → ClassId} {M1 : Mm} {cells slots : Nat} {k28 : Mm → Nat → Nat → Int32 → Option (Mm × Int32)} (CX : CL p s m meth c b L xs D cy) (hk : ∀ (M : Mm) (x1 x2 : Nat) (x3 : Int32) (H : Heap) (locs : List Loc) (ls : Array Slot), k28 M x1 x2 x3 = some (M1, 1) → Hp s.heap.size D cy M H → va_S (BA s.heap.size) s.heap H locs → lv_has ls 4 [(0, .ref b), (1, .ref x1), (2, .ref x2), (3, .int x3)] → W p l e room_1 s m #[Value.ref b] below meth c H locs (cells + 5) (slots + 93) (lw_Z below #[Value.ref b] s) (F0 m 28 ls [])) (hc : cells + 5 ≤ 600000) (hs : slots + 93 ≤ 7302250) : ∀ (M : Mm) (x1 : Nat) (x2 : Nat) (x3 : Int32) (H : Heap) (locs : List Loc) (ls : Array Slot), f_L_law_J807 L xs k28 M x1 x2 x3 = some (M1, 1) → Hp s.heap.size D cy M H → va_S (BA s.heap.size) s.heap H locs → lv_has ls 4 [(0, .ref b), (1, .ref x1), (2, .ref x2), (3, .int x3)] → W p l e room_1 s m #[Value.ref b] below meth c H locs (cells) (slots) (lw_Z below #[Value.ref b] s) (F0 m 807 ls []) := by
  obtain ⟨hx, hb, hr, hml, hown, hts, hlocks, hK, hN, hX, hbl⟩ := id CX
  have hb0 : s.heap.size ≤ s.heap.size := Nat.le_refl _
  have hbA : ¬ BA s.heap.size b := Nat.not_le.mpr hbl
  intro M x1 x2 x3 H locs ls hF hP hS hl
  unfold f_L_law_J807 at hF
  refine lv_aload_n hx hb dL_law_807 rfl (lv_at hl 1 rfl) ?_
  refine lv_aload_n hx hb dL_law_808 rfl (lv_at hl 0 rfl) ?_
  refine lv_iload_n hx hb dL_law_809 rfl (lv_at hl 3 rfl) ?_
  refine lv_iconst (v := 1) hx hb dL_law_810 (by decide) ?_
  refine lv_iadd hx hb dL_law_811 ?_
  refine xs_ld hx hb hX hbl hbA hS hF dL_law_812 (fun v1 hF => ?_)
  refine lv_aload_n hx hb dL_law_813 rfl (lv_at hl 0 rfl) ?_
  refine lv_iload_n hx hb dL_law_814 rfl (lv_at hl 3 rfl) ?_
  refine lv_iconst (v := 2) hx hb dL_law_815 (by decide) ?_
  refine lv_iadd hx hb dL_law_816 ?_
  refine xs_ld hx hb hX hbl hbA hS hF dL_law_817 (fun v2 hF => ?_)
  obtain ⟨v4, h3, hF⟩ := ob_some hF
  refine xr_call1 (va_runV (As := [.int v1, .int v2]) (rest := []) ⟨hx, hb, hml, hown, hts⟩ (ct_X10_squeezer l s.heap.size D cy M x1 v1 v2 v4 h3) (cwV 2 hts gL_law_X10_squeezer rfl rfl rfl (by decide +kernel) ⟨Nat.le_of_ble_eq_true rfl, Nat.le_of_ble_eq_true rfl⟩) (xp_V hP hK hN hS hb0 10 rfl (gk_X10_squeezer h3)) rfl rfl hl.1 rfl (lv_room (Nat.le_of_ble_eq_true rfl)) dL_law_818 ⟨(by show cells + 0 ≤ 600000; omega), (by show slots + 0 ≤ 7302250; omega)⟩) hS (fun H locs hP hS => ?_)
  refine lv_aload_n hx hb dL_law_821 rfl (lv_at hl 2 rfl) ?_
  refine lv_aload_n hx hb dL_law_822 rfl (lv_at hl 0 rfl) ?_
  refine lv_iload_n hx hb dL_law_823 rfl (lv_at hl 3 rfl) ?_
  refine lv_iconst (v := 1) hx hb dL_law_824 (by decide) ?_
  refine lv_iadd hx hb dL_law_825 ?_
  refine xs_ld hx hb hX hbl hbA hS hF dL_law_826 (fun v5 hF => ?_)
  refine lv_aload_n hx hb dL_law_827 rfl (lv_at hl 0 rfl) ?_
  refine lv_iload_n hx hb dL_law_828 rfl (lv_at hl 3 rfl) ?_
  refine lv_iconst (v := 2) hx hb dL_law_829 (by decide) ?_
  refine lv_iadd hx hb dL_law_830 ?_
  refine xs_ld hx hb hX hbl hbA hS hF dL_law_831 (fun v6 hF => ?_)
  obtain ⟨M8, v9, h7, hF⟩ := ob2_some hF
  refine xr_call1 (va_runV (As := [.int v5, .int v6]) (rest := [.int v4]) ⟨hx, hb, hml, hown, hts⟩ (ct_X11_squeezer l s.heap.size D cy M x2 v5 v6 M8 v9 h7) (cwV 2 hts gL_law_X11_squeezer rfl rfl rfl (by decide +kernel) ⟨Nat.le_of_ble_eq_true rfl, Nat.le_of_ble_eq_true rfl⟩) (xp_V hP hK hN hS hb0 11 rfl (gk_X11_squeezer h7)) rfl rfl hl.1 rfl (lv_room (Nat.le_of_ble_eq_true rfl)) dL_law_832 ⟨(by show cells + 0 + 0 ≤ 600000; omega), (by show slots + 0 + 0 ≤ 7302250; omega)⟩) hS (fun H locs hP hS => ?_)
  refine lv_icmp_eq (tgt := 1179) hx hb dL_law_835 (by decide) (fun c10 => ?_) (fun c10 => ?_)
  · replace hF := it_t hF c10
    refine lv_iinc (v := x3 + 6) (lv' := [(3, .int (x3 + 6)), (0, .ref b), (1, .ref x1), (2, .ref x2)]) hx hb dL_law_1179 hl (k := 3) rfl (by rfl) (by decide) rfl (fun ls hl => ?_)
    refine lv_goto (tgt := 28) hx hb dL_law_1182 (by decide) ?_
    refine W.widen (k := cells + 5) (n := slots + 93) (by omega) (by omega) ?_
    exact hk _ _ _ _ _ _ _ hF hP hS (lv_sub hl [1, 2, 3, 0] rfl)
  · replace hF := it_f hF c10
    refine lv_iconst (v := 0) hx hb dL_law_838 (by decide) ?_
    exact absurd hF (no_01 _ _)
set_option maxHeartbeats 4000000 in
set_option maxRecDepth 100000 in
theorem nd_L_law_798 {p : Program} {l : Launch} {e : Env} {s : State} {m : MethodId} {below : List Frame} {meth : Method} {c : Code} {b L : Nat} {xs : Nat → Int32} {D : va_G} {cy : Nat → ClassId} {M1 : Mm} {cells slots : Nat} {k28 : Mm → Nat → Nat → Int32 → Option (Mm × Int32)} (CX : CL p s m meth c b L xs D cy) (hk : ∀ (M : Mm) (x1 x2 : Nat) (x3 : Int32) (H : Heap) (locs : List Loc) (ls : Array Slot), k28 M x1 x2 x3 = some (M1, 1) → Hp s.heap.size D cy M H → va_S (BA s.heap.size) s.heap H locs → lv_has ls 4 [(0, .ref b), (1, .ref x1), (2, .ref x2), (3, .int x3)] → W p l e room_1 s m #[Value.ref b] below meth c H locs (cells + 5) (slots + 93) (lw_Z below #[Value.ref b] s) (F0 m 28 ls [])) (hc : cells + 5 ≤ 600000) (hs : slots + 93 ≤ 7302250) : ∀ (M : Mm) (x1 : Nat) (x2 : Nat) (x3 : Int32) (s0 : Int64) (s1 : Nat) (s2 : Int32) (s3 : Int32) (s4 : Int32) (H : Heap) (locs : List Loc) (ls : Array Slot), f_L_law_J798 L xs k28 M x1 x2 x3 s0 s1 s2 s3 s4 = some (M1, 1) → Hp s.heap.size D cy M H → va_S (BA s.heap.size) s.heap H locs → lv_has ls 4 [(0, .ref b), (1, .ref x1), (2, .ref x2), (3, .int x3)] → W p l e room_1 s m #[Value.ref b] below meth c H locs (cells) (slots) (lw_Z below #[Value.ref b] s) (F0 m 798 ls [.int s4, .int s3, .int s2, .ref s1, .long s0]) := by
  obtain ⟨hx, hb, hr, hml, hown, hts, hlocks, hK, hN, hX, hbl⟩ := id CX
  have hb0 : s.heap.size ≤ s.heap.size := Nat.le_refl _
  have hbA : ¬ BA s.heap.size b := Nat.not_le.mpr hbl
  intro M x1 x2 x3 s0 s1 s2 s3 s4 H locs ls hF hP hS hl
  unfold f_L_law_J798 at hF
  obtain ⟨M2, v3, h1, hF⟩ := ob2_some hF
  refine xr_call1 (va_runV (As := [.int s2, .int s3, .int s4]) (rest := [.long s0]) ⟨hx, hb, hml, hown, hts⟩ (ct_X11_known l s.heap.size D cy M s1 s2 s3 s4 M2 v3 h1) (cwV 3 hts gL_law_X11_known rfl rfl rfl (by decide +kernel) ⟨Nat.le_of_ble_eq_true rfl, Nat.le_of_ble_eq_true rfl⟩) (xp_V hP hK hN hS hb0 11 rfl (gk_X11_known h1)) rfl rfl hl.1 rfl (lv_room (Nat.le_of_ble_eq_true rfl)) dL_law_798 ⟨(by show cells + 0 ≤ 600000; omega), (by show slots + 0 ≤ 7302250; omega)⟩) hS (fun H locs hP hS => ?_)
  refine W.lcmp hx hb dL_law_801 ?_
  refine lv_if_eq (tgt := 1179) hx hb dL_law_802 (by decide) (fun c4 => ?_) (fun c4 => ?_)
  · replace hF := it_t hF c4
    refine lv_iinc (v := x3 + 6) (lv' := [(3, .int (x3 + 6)), (0, .ref b), (1, .ref x1), (2, .ref x2)]) hx hb dL_law_1179 hl (k := 3) rfl (by rfl) (by decide) rfl (fun ls hl => ?_)
    refine lv_goto (tgt := 28) hx hb dL_law_1182 (by decide) ?_
    refine W.widen (k := cells + 5) (n := slots + 93) (by omega) (by omega) ?_
    exact hk _ _ _ _ _ _ _ hF hP hS (lv_sub hl [1, 2, 3, 0] rfl)
  · replace hF := it_f hF c4
    refine lv_iconst (v := 0) hx hb dL_law_805 (by decide) ?_
    exact absurd hF (no_01 _ _)
set_option maxHeartbeats 4000000 in
set_option maxRecDepth 100000 in
theorem nd_L_law_771 {p : Program} {l : Launch} {e : Env} {s : State} {m : MethodId} {below : List Frame} {meth : Method} {c : Code} {b L : Nat} {xs : Nat → Int32} {D : va_G} {cy : Nat → ClassId} {M1 : Mm} {cells slots : Nat} {k28 : Mm → Nat → Nat → Int32 → Option (Mm × Int32)} (CX : CL p s m meth c b L xs D cy) (hk : ∀ (M : Mm) (x1 x2 : Nat) (x3 : Int32) (H : Heap) (locs : List Loc) (ls : Array Slot), k28 M x1 x2 x3 = some (M1, 1) → Hp s.heap.size D cy M H → va_S (BA s.heap.size) s.heap H locs → lv_has ls 4 [(0, .ref b), (1, .ref x1), (2, .ref x2), (3, .int x3)] → W p l e room_1 s m #[Value.ref b] below meth c H locs (cells + 5) (slots + 93) (lw_Z below #[Value.ref b] s) (F0 m 28 ls [])) (hc : cells + 5 ≤ 600000) (hs : slots + 93 ≤ 7302250) : ∀ (M : Mm) (x1 : Nat) (x2 : Nat) (x3 : Int32) (s0 : Nat) (s1 : Int32) (s2 : Int32) (s3 : Int32) (H : Heap) (locs : List Loc) (ls : Array Slot), f_L_law_J771 L xs k28 M x1 x2 x3 s0 s1 s2 s3 = some (M1, 1) → Hp s.heap.size D cy M H → va_S (BA s.heap.size) s.heap H locs → lv_has ls 4 [(0, .ref b), (1, .ref x1), (2, .ref x2), (3, .int x3)] → W p l e room_1 s m #[Value.ref b] below meth c H locs (cells) (slots) (lw_Z below #[Value.ref b] s) (F0 m 771 ls [.int s3, .int s2, .int s1, .ref s0]) := by
  obtain ⟨hx, hb, hr, hml, hown, hts, hlocks, hK, hN, hX, hbl⟩ := id CX
  have hb0 : s.heap.size ≤ s.heap.size := Nat.le_refl _
  have hbA : ¬ BA s.heap.size b := Nat.not_le.mpr hbl
  intro M x1 x2 x3 s0 s1 s2 s3 H locs ls hF hP hS hl
  unfold f_L_law_J771 at hF
  obtain ⟨v2, h1, hF⟩ := ob_some hF
  refine xr_call1 (va_runV (As := [.int s1, .int s2, .int s3]) (rest := []) ⟨hx, hb, hml, hown, hts⟩ (ct_X10_known l s.heap.size D cy M s0 s1 s2 s3 v2 h1) (cwV 3 hts gL_law_X10_known rfl rfl rfl (by decide +kernel) ⟨Nat.le_of_ble_eq_true rfl, Nat.le_of_ble_eq_true rfl⟩) (xp_V hP hK hN hS hb0 10 rfl (gk_X10_known h1)) rfl rfl hl.1 rfl (lv_room (Nat.le_of_ble_eq_true rfl)) dL_law_771 ⟨(by show cells + 0 ≤ 600000; omega), (by show slots + 0 ≤ 7302250; omega)⟩) hS (fun H locs hP hS => ?_)
  refine lv_aload_n hx hb dL_law_774 rfl (lv_at hl 2 rfl) ?_
  refine lv_aload_n hx hb dL_law_775 rfl (lv_at hl 0 rfl) ?_
  refine lv_iload_n hx hb dL_law_776 rfl (lv_at hl 3 rfl) ?_
  refine lv_iconst (v := 1) hx hb dL_law_777 (by decide) ?_
  refine lv_iadd hx hb dL_law_778 ?_
  refine xs_ld hx hb hX hbl hbA hS hF dL_law_779 (fun v3 hF => ?_)
  refine lv_aload_n hx hb dL_law_780 rfl (lv_at hl 0 rfl) ?_
  refine lv_iload_n hx hb dL_law_781 rfl (lv_at hl 3 rfl) ?_
  refine lv_iconst (v := 2) hx hb dL_law_782 (by decide) ?_
  refine lv_iadd hx hb dL_law_783 ?_
  refine xs_ld hx hb hX hbl hbA hS hF dL_law_784 (fun v4 hF => ?_)
  refine lv_aload_n hx hb dL_law_785 rfl (lv_at hl 0 rfl) ?_
  refine lv_iload_n hx hb dL_law_786 rfl (lv_at hl 3 rfl) ?_
  refine lv_iconst (v := 3) hx hb dL_law_787 (by decide) ?_
  refine lv_iadd hx hb dL_law_788 ?_
  refine xs_ld hx hb hX hbl hbA hS hF dL_law_789 (fun v5 hF => ?_)
  refine lv_if_eq (tgt := 797) hx hb dL_law_790 (by decide) (fun c6 => ?_) (fun c6 => ?_)
  · replace hF := it_t hF c6
    refine lv_iconst (v := 0) hx hb dL_law_797 (by decide) ?_
    refine W.widen (k := cells + 0) (n := slots + 0) (by omega) (by omega) ?_
    exact nd_L_law_798 CX hk hc hs _ _ _ _ _ _ _ _ _ _ _ _ hF hP hS (lv_sub hl [0, 1, 2, 3] rfl)
  · replace hF := it_f hF c6
    refine lv_iconst (v := 1) hx hb dL_law_793 (by decide) ?_
    refine lv_goto (tgt := 798) hx hb dL_law_794 (by decide) ?_
    refine W.widen (k := cells + 0) (n := slots + 0) (by omega) (by omega) ?_
    exact nd_L_law_798 CX hk hc hs _ _ _ _ _ _ _ _ _ _ _ _ hF hP hS (lv_sub hl [0, 1, 2, 3] rfl)
set_option maxHeartbeats 4000000 in
set_option maxRecDepth 100000 in
theorem nd_L_law_747 {p : Program} {l : Launch} {e : Env} {s : State} {m : MethodId} {below : List Frame} {meth : Method} {c : Code} {b L : Nat} {xs : Nat → Int32} {D : va_G} {cy : Nat → ClassId} {M1 : Mm} {cells slots : Nat} {k28 : Mm → Nat → Nat → Int32 → Option (Mm × Int32)} (CX : CL p s m meth c b L xs D cy) (hk : ∀ (M : Mm) (x1 x2 : Nat) (x3 : Int32) (H : Heap) (locs : List Loc) (ls : Array Slot), k28 M x1 x2 x3 = some (M1, 1) → Hp s.heap.size D cy M H → va_S (BA s.heap.size) s.heap H locs → lv_has ls 4 [(0, .ref b), (1, .ref x1), (2, .ref x2), (3, .int x3)] → W p l e room_1 s m #[Value.ref b] below meth c H locs (cells + 5) (slots + 93) (lw_Z below #[Value.ref b] s) (F0 m 28 ls [])) (hc : cells + 5 ≤ 600000) (hs : slots + 93 ≤ 7302250) : ∀ (M : Mm) (x1 : Nat) (x2 : Nat) (x3 : Int32) (H : Heap) (locs : List Loc) (ls : Array Slot), f_L_law_J747 L xs k28 M x1 x2 x3 = some (M1, 1) → Hp s.heap.size D cy M H → va_S (BA s.heap.size) s.heap H locs → lv_has ls 4 [(0, .ref b), (1, .ref x1), (2, .ref x2), (3, .int x3)] → W p l e room_1 s m #[Value.ref b] below meth c H locs (cells) (slots) (lw_Z below #[Value.ref b] s) (F0 m 747 ls []) := by
  obtain ⟨hx, hb, hr, hml, hown, hts, hlocks, hK, hN, hX, hbl⟩ := id CX
  have hb0 : s.heap.size ≤ s.heap.size := Nat.le_refl _
  have hbA : ¬ BA s.heap.size b := Nat.not_le.mpr hbl
  intro M x1 x2 x3 H locs ls hF hP hS hl
  unfold f_L_law_J747 at hF
  refine lv_aload_n hx hb dL_law_747 rfl (lv_at hl 1 rfl) ?_
  refine lv_aload_n hx hb dL_law_748 rfl (lv_at hl 0 rfl) ?_
  refine lv_iload_n hx hb dL_law_749 rfl (lv_at hl 3 rfl) ?_
  refine lv_iconst (v := 1) hx hb dL_law_750 (by decide) ?_
  refine lv_iadd hx hb dL_law_751 ?_
  refine xs_ld hx hb hX hbl hbA hS hF dL_law_752 (fun v1 hF => ?_)
  refine lv_aload_n hx hb dL_law_753 rfl (lv_at hl 0 rfl) ?_
  refine lv_iload_n hx hb dL_law_754 rfl (lv_at hl 3 rfl) ?_
  refine lv_iconst (v := 2) hx hb dL_law_755 (by decide) ?_
  refine lv_iadd hx hb dL_law_756 ?_
  refine xs_ld hx hb hX hbl hbA hS hF dL_law_757 (fun v2 hF => ?_)
  refine lv_aload_n hx hb dL_law_758 rfl (lv_at hl 0 rfl) ?_
  refine lv_iload_n hx hb dL_law_759 rfl (lv_at hl 3 rfl) ?_
  refine lv_iconst (v := 3) hx hb dL_law_760 (by decide) ?_
  refine lv_iadd hx hb dL_law_761 ?_
  refine xs_ld hx hb hX hbl hbA hS hF dL_law_762 (fun v3 hF => ?_)
  refine lv_if_eq (tgt := 770) hx hb dL_law_763 (by decide) (fun c4 => ?_) (fun c4 => ?_)
  · replace hF := it_t hF c4
    refine lv_iconst (v := 0) hx hb dL_law_770 (by decide) ?_
    exact nd_L_law_771 CX hk hc hs _ _ _ _ _ _ _ _ _ _ _ hF hP hS (lv_sub hl [0, 1, 2, 3] rfl)
  · replace hF := it_f hF c4
    refine lv_iconst (v := 1) hx hb dL_law_766 (by decide) ?_
    refine lv_goto (tgt := 771) hx hb dL_law_767 (by decide) ?_
    exact nd_L_law_771 CX hk hc hs _ _ _ _ _ _ _ _ _ _ _ hF hP hS (lv_sub hl [0, 1, 2, 3] rfl)
set_option maxHeartbeats 4000000 in
set_option maxRecDepth 100000 in
theorem nd_L_law_714 {p : Program} {l : Launch} {e : Env} {s : State} {m : MethodId} {below : List Frame} {meth : Method} {c : Code} {b L : Nat} {xs : Nat → Int32} {D : va_G} {cy : Nat → ClassId} {M1 : Mm} {cells slots : Nat} {k28 : Mm → Nat → Nat → Int32 → Option (Mm × Int32)} (CX : CL p s m meth c b L xs D cy) (hk : ∀ (M : Mm) (x1 x2 : Nat) (x3 : Int32) (H : Heap) (locs : List Loc) (ls : Array Slot), k28 M x1 x2 x3 = some (M1, 1) → Hp s.heap.size D cy M H → va_S (BA s.heap.size) s.heap H locs → lv_has ls 4 [(0, .ref b), (1, .ref x1), (2, .ref x2), (3, .int x3)] → W p l e room_1 s m #[Value.ref b] below meth c H locs (cells + 5) (slots + 93) (lw_Z below #[Value.ref b] s) (F0 m 28 ls [])) (hc : cells + 5 ≤ 600000) (hs : slots + 93 ≤ 7302250) : ∀ (M : Mm) (x1 : Nat) (x2 : Nat) (x3 : Int32) (H : Heap) (locs : List Loc) (ls : Array Slot), f_L_law_J714 L xs k28 M x1 x2 x3 = some (M1, 1) → Hp s.heap.size D cy M H → va_S (BA s.heap.size) s.heap H locs → lv_has ls 4 [(0, .ref b), (1, .ref x1), (2, .ref x2), (3, .int x3)] → W p l e room_1 s m #[Value.ref b] below meth c H locs (cells) (slots) (lw_Z below #[Value.ref b] s) (F0 m 714 ls []) := by
  obtain ⟨hx, hb, hr, hml, hown, hts, hlocks, hK, hN, hX, hbl⟩ := id CX
  have hb0 : s.heap.size ≤ s.heap.size := Nat.le_refl _
  have hbA : ¬ BA s.heap.size b := Nat.not_le.mpr hbl
  intro M x1 x2 x3 H locs ls hF hP hS hl
  unfold f_L_law_J714 at hF
  refine lv_aload_n hx hb dL_law_714 rfl (lv_at hl 1 rfl) ?_
  refine lv_aload_n hx hb dL_law_715 rfl (lv_at hl 0 rfl) ?_
  refine lv_iload_n hx hb dL_law_716 rfl (lv_at hl 3 rfl) ?_
  refine lv_iconst (v := 1) hx hb dL_law_717 (by decide) ?_
  refine lv_iadd hx hb dL_law_718 ?_
  refine xs_ld hx hb hX hbl hbA hS hF dL_law_719 (fun v1 hF => ?_)
  refine lv_aload_n hx hb dL_law_720 rfl (lv_at hl 0 rfl) ?_
  refine lv_iload_n hx hb dL_law_721 rfl (lv_at hl 3 rfl) ?_
  refine lv_iconst (v := 2) hx hb dL_law_722 (by decide) ?_
  refine lv_iadd hx hb dL_law_723 ?_
  refine xs_ld hx hb hX hbl hbA hS hF dL_law_724 (fun v2 hF => ?_)
  obtain ⟨v4, h3, hF⟩ := ob_some hF
  refine xr_call1 (va_runV (As := [.int v1, .int v2]) (rest := []) ⟨hx, hb, hml, hown, hts⟩ (ct_X10_context l s.heap.size D cy M x1 v1 v2 v4 h3) (cwV 2 hts gL_law_X10_context rfl rfl rfl (by decide +kernel) ⟨Nat.le_of_ble_eq_true rfl, Nat.le_of_ble_eq_true rfl⟩) (xp_V hP hK hN hS hb0 10 rfl (gk_X10_context h3)) rfl rfl hl.1 rfl (lv_room (Nat.le_of_ble_eq_true rfl)) dL_law_725 ⟨(by show cells + 0 ≤ 600000; omega), (by show slots + 0 ≤ 7302250; omega)⟩) hS (fun H locs hP hS => ?_)
  refine lv_aload_n hx hb dL_law_728 rfl (lv_at hl 2 rfl) ?_
  refine lv_aload_n hx hb dL_law_729 rfl (lv_at hl 0 rfl) ?_
  refine lv_iload_n hx hb dL_law_730 rfl (lv_at hl 3 rfl) ?_
  refine lv_iconst (v := 1) hx hb dL_law_731 (by decide) ?_
  refine lv_iadd hx hb dL_law_732 ?_
  refine xs_ld hx hb hX hbl hbA hS hF dL_law_733 (fun v5 hF => ?_)
  refine lv_aload_n hx hb dL_law_734 rfl (lv_at hl 0 rfl) ?_
  refine lv_iload_n hx hb dL_law_735 rfl (lv_at hl 3 rfl) ?_
  refine lv_iconst (v := 2) hx hb dL_law_736 (by decide) ?_
  refine lv_iadd hx hb dL_law_737 ?_
  refine xs_ld hx hb hX hbl hbA hS hF dL_law_738 (fun v6 hF => ?_)
  obtain ⟨M8, v9, h7, hF⟩ := ob2_some hF
  refine xr_call1 (va_runV (As := [.int v5, .int v6]) (rest := [.int v4]) ⟨hx, hb, hml, hown, hts⟩ (ct_X11_context l s.heap.size D cy M x2 v5 v6 M8 v9 h7) (cwV 2 hts gL_law_X11_context rfl rfl rfl (by decide +kernel) ⟨Nat.le_of_ble_eq_true rfl, Nat.le_of_ble_eq_true rfl⟩) (xp_V hP hK hN hS hb0 11 rfl (gk_X11_context h7)) rfl rfl hl.1 rfl (lv_room (Nat.le_of_ble_eq_true rfl)) dL_law_739 ⟨(by show cells + 0 + 0 ≤ 600000; omega), (by show slots + 0 + 0 ≤ 7302250; omega)⟩) hS (fun H locs hP hS => ?_)
  refine lv_icmp_eq (tgt := 1179) hx hb dL_law_742 (by decide) (fun c10 => ?_) (fun c10 => ?_)
  · replace hF := it_t hF c10
    refine lv_iinc (v := x3 + 6) (lv' := [(3, .int (x3 + 6)), (0, .ref b), (1, .ref x1), (2, .ref x2)]) hx hb dL_law_1179 hl (k := 3) rfl (by rfl) (by decide) rfl (fun ls hl => ?_)
    refine lv_goto (tgt := 28) hx hb dL_law_1182 (by decide) ?_
    refine W.widen (k := cells + 5) (n := slots + 93) (by omega) (by omega) ?_
    exact hk _ _ _ _ _ _ _ hF hP hS (lv_sub hl [1, 2, 3, 0] rfl)
  · replace hF := it_f hF c10
    refine lv_iconst (v := 0) hx hb dL_law_745 (by decide) ?_
    exact absurd hF (no_01 _ _)
set_option maxHeartbeats 4000000 in
set_option maxRecDepth 100000 in
theorem nd_L_law_691 {p : Program} {l : Launch} {e : Env} {s : State} {m : MethodId} {below : List Frame} {meth : Method} {c : Code} {b L : Nat} {xs : Nat → Int32} {D : va_G} {cy : Nat → ClassId} {M1 : Mm} {cells slots : Nat} {k28 : Mm → Nat → Nat → Int32 → Option (Mm × Int32)} (CX : CL p s m meth c b L xs D cy) (hk : ∀ (M : Mm) (x1 x2 : Nat) (x3 : Int32) (H : Heap) (locs : List Loc) (ls : Array Slot), k28 M x1 x2 x3 = some (M1, 1) → Hp s.heap.size D cy M H → va_S (BA s.heap.size) s.heap H locs → lv_has ls 4 [(0, .ref b), (1, .ref x1), (2, .ref x2), (3, .int x3)] → W p l e room_1 s m #[Value.ref b] below meth c H locs (cells + 5) (slots + 93) (lw_Z below #[Value.ref b] s) (F0 m 28 ls [])) (hc : cells + 5 ≤ 600000) (hs : slots + 93 ≤ 7302250) : ∀ (M : Mm) (x1 : Nat) (x2 : Nat) (x3 : Int32) (H : Heap) (locs : List Loc) (ls : Array Slot), f_L_law_J691 L xs k28 M x1 x2 x3 = some (M1, 1) → Hp s.heap.size D cy M H → va_S (BA s.heap.size) s.heap H locs → lv_has ls 4 [(0, .ref b), (1, .ref x1), (2, .ref x2), (3, .int x3)] → W p l e room_1 s m #[Value.ref b] below meth c H locs (cells) (slots) (lw_Z below #[Value.ref b] s) (F0 m 691 ls []) := by
  obtain ⟨hx, hb, hr, hml, hown, hts, hlocks, hK, hN, hX, hbl⟩ := id CX
  have hb0 : s.heap.size ≤ s.heap.size := Nat.le_refl _
  have hbA : ¬ BA s.heap.size b := Nat.not_le.mpr hbl
  intro M x1 x2 x3 H locs ls hF hP hS hl
  unfold f_L_law_J691 at hF
  refine lv_aload_n hx hb dL_law_691 rfl (lv_at hl 1 rfl) ?_
  refine lv_aload_n hx hb dL_law_692 rfl (lv_at hl 0 rfl) ?_
  refine lv_iload_n hx hb dL_law_693 rfl (lv_at hl 3 rfl) ?_
  refine lv_iconst (v := 1) hx hb dL_law_694 (by decide) ?_
  refine lv_iadd hx hb dL_law_695 ?_
  refine xs_ld hx hb hX hbl hbA hS hF dL_law_696 (fun v1 hF => ?_)
  obtain ⟨v3, h2, hF⟩ := ob_some hF
  refine xr_call1 (va_runV (As := [.int v1]) (rest := []) ⟨hx, hb, hml, hown, hts⟩ (ct_X10_hung l s.heap.size D cy M x1 v1 v3 h2) (cwV 1 hts gL_law_X10_hung rfl rfl rfl (by decide +kernel) ⟨Nat.le_of_ble_eq_true rfl, Nat.le_of_ble_eq_true rfl⟩) (xp_V hP hK hN hS hb0 10 rfl (gk_X10_hung h2)) rfl rfl hl.1 rfl (lv_room (Nat.le_of_ble_eq_true rfl)) dL_law_697 ⟨(by show cells + 0 ≤ 600000; omega), (by show slots + 0 ≤ 7302250; omega)⟩) hS (fun H locs hP hS => ?_)
  refine lv_aload_n hx hb dL_law_700 rfl (lv_at hl 2 rfl) ?_
  refine lv_aload_n hx hb dL_law_701 rfl (lv_at hl 0 rfl) ?_
  refine lv_iload_n hx hb dL_law_702 rfl (lv_at hl 3 rfl) ?_
  refine lv_iconst (v := 1) hx hb dL_law_703 (by decide) ?_
  refine lv_iadd hx hb dL_law_704 ?_
  refine xs_ld hx hb hX hbl hbA hS hF dL_law_705 (fun v4 hF => ?_)
  obtain ⟨M6, v7, h5, hF⟩ := ob2_some hF
  refine xr_call1 (va_runV (As := [.int v4]) (rest := [.int v3]) ⟨hx, hb, hml, hown, hts⟩ (ct_X11_hung l s.heap.size D cy M x2 v4 M6 v7 h5) (cwV 1 hts gL_law_X11_hung rfl rfl rfl (by decide +kernel) ⟨Nat.le_of_ble_eq_true rfl, Nat.le_of_ble_eq_true rfl⟩) (xp_V hP hK hN hS hb0 11 rfl (gk_X11_hung h5)) rfl rfl hl.1 rfl (lv_room (Nat.le_of_ble_eq_true rfl)) dL_law_706 ⟨(by show cells + 0 + 0 ≤ 600000; omega), (by show slots + 0 + 0 ≤ 7302250; omega)⟩) hS (fun H locs hP hS => ?_)
  refine lv_icmp_eq (tgt := 1179) hx hb dL_law_709 (by decide) (fun c8 => ?_) (fun c8 => ?_)
  · replace hF := it_t hF c8
    refine lv_iinc (v := x3 + 6) (lv' := [(3, .int (x3 + 6)), (0, .ref b), (1, .ref x1), (2, .ref x2)]) hx hb dL_law_1179 hl (k := 3) rfl (by rfl) (by decide) rfl (fun ls hl => ?_)
    refine lv_goto (tgt := 28) hx hb dL_law_1182 (by decide) ?_
    refine W.widen (k := cells + 5) (n := slots + 93) (by omega) (by omega) ?_
    exact hk _ _ _ _ _ _ _ hF hP hS (lv_sub hl [1, 2, 3, 0] rfl)
  · replace hF := it_f hF c8
    refine lv_iconst (v := 0) hx hb dL_law_712 (by decide) ?_
    exact absurd hF (no_01 _ _)
set_option maxHeartbeats 4000000 in
set_option maxRecDepth 100000 in
theorem nd_L_law_668 {p : Program} {l : Launch} {e : Env} {s : State} {m : MethodId} {below : List Frame} {meth : Method} {c : Code} {b L : Nat} {xs : Nat → Int32} {D : va_G} {cy : Nat → ClassId} {M1 : Mm} {cells slots : Nat} {k28 : Mm → Nat → Nat → Int32 → Option (Mm × Int32)} (CX : CL p s m meth c b L xs D cy) (hk : ∀ (M : Mm) (x1 x2 : Nat) (x3 : Int32) (H : Heap) (locs : List Loc) (ls : Array Slot), k28 M x1 x2 x3 = some (M1, 1) → Hp s.heap.size D cy M H → va_S (BA s.heap.size) s.heap H locs → lv_has ls 4 [(0, .ref b), (1, .ref x1), (2, .ref x2), (3, .int x3)] → W p l e room_1 s m #[Value.ref b] below meth c H locs (cells + 5) (slots + 93) (lw_Z below #[Value.ref b] s) (F0 m 28 ls [])) (hc : cells + 5 ≤ 600000) (hs : slots + 93 ≤ 7302250) : ∀ (M : Mm) (x1 : Nat) (x2 : Nat) (x3 : Int32) (H : Heap) (locs : List Loc) (ls : Array Slot), f_L_law_J668 L xs k28 M x1 x2 x3 = some (M1, 1) → Hp s.heap.size D cy M H → va_S (BA s.heap.size) s.heap H locs → lv_has ls 4 [(0, .ref b), (1, .ref x1), (2, .ref x2), (3, .int x3)] → W p l e room_1 s m #[Value.ref b] below meth c H locs (cells) (slots) (lw_Z below #[Value.ref b] s) (F0 m 668 ls []) := by
  obtain ⟨hx, hb, hr, hml, hown, hts, hlocks, hK, hN, hX, hbl⟩ := id CX
  have hb0 : s.heap.size ≤ s.heap.size := Nat.le_refl _
  have hbA : ¬ BA s.heap.size b := Nat.not_le.mpr hbl
  intro M x1 x2 x3 H locs ls hF hP hS hl
  unfold f_L_law_J668 at hF
  refine lv_aload_n hx hb dL_law_668 rfl (lv_at hl 1 rfl) ?_
  refine lv_aload_n hx hb dL_law_669 rfl (lv_at hl 0 rfl) ?_
  refine lv_iload_n hx hb dL_law_670 rfl (lv_at hl 3 rfl) ?_
  refine lv_iconst (v := 1) hx hb dL_law_671 (by decide) ?_
  refine lv_iadd hx hb dL_law_672 ?_
  refine xs_ld hx hb hX hbl hbA hS hF dL_law_673 (fun v1 hF => ?_)
  obtain ⟨v3, h2, hF⟩ := ob_some hF
  refine xr_call1 (va_runV (As := [.int v1]) (rest := []) ⟨hx, hb, hml, hown, hts⟩ (ct_X10_way l s.heap.size D cy M x1 v1 v3 h2) (cwV 1 hts gL_law_X10_way rfl rfl rfl (by decide +kernel) ⟨Nat.le_of_ble_eq_true rfl, Nat.le_of_ble_eq_true rfl⟩) (xp_V hP hK hN hS hb0 10 rfl (gk_X10_way h2)) rfl rfl hl.1 rfl (lv_room (Nat.le_of_ble_eq_true rfl)) dL_law_674 ⟨(by show cells + 0 ≤ 600000; omega), (by show slots + 0 ≤ 7302250; omega)⟩) hS (fun H locs hP hS => ?_)
  refine lv_aload_n hx hb dL_law_677 rfl (lv_at hl 2 rfl) ?_
  refine lv_aload_n hx hb dL_law_678 rfl (lv_at hl 0 rfl) ?_
  refine lv_iload_n hx hb dL_law_679 rfl (lv_at hl 3 rfl) ?_
  refine lv_iconst (v := 1) hx hb dL_law_680 (by decide) ?_
  refine lv_iadd hx hb dL_law_681 ?_
  refine xs_ld hx hb hX hbl hbA hS hF dL_law_682 (fun v4 hF => ?_)
  obtain ⟨M6, v7, h5, hF⟩ := ob2_some hF
  refine xr_call1 (va_runV (As := [.int v4]) (rest := [.int v3]) ⟨hx, hb, hml, hown, hts⟩ (ct_X11_way l s.heap.size D cy M x2 v4 M6 v7 h5) (cwV 1 hts gL_law_X11_way rfl rfl rfl (by decide +kernel) ⟨Nat.le_of_ble_eq_true rfl, Nat.le_of_ble_eq_true rfl⟩) (xp_V hP hK hN hS hb0 11 rfl (gk_X11_way h5)) rfl rfl hl.1 rfl (lv_room (Nat.le_of_ble_eq_true rfl)) dL_law_683 ⟨(by show cells + 0 + 0 ≤ 600000; omega), (by show slots + 0 + 0 ≤ 7302250; omega)⟩) hS (fun H locs hP hS => ?_)
  refine lv_icmp_eq (tgt := 1179) hx hb dL_law_686 (by decide) (fun c8 => ?_) (fun c8 => ?_)
  · replace hF := it_t hF c8
    refine lv_iinc (v := x3 + 6) (lv' := [(3, .int (x3 + 6)), (0, .ref b), (1, .ref x1), (2, .ref x2)]) hx hb dL_law_1179 hl (k := 3) rfl (by rfl) (by decide) rfl (fun ls hl => ?_)
    refine lv_goto (tgt := 28) hx hb dL_law_1182 (by decide) ?_
    refine W.widen (k := cells + 5) (n := slots + 93) (by omega) (by omega) ?_
    exact hk _ _ _ _ _ _ _ hF hP hS (lv_sub hl [1, 2, 3, 0] rfl)
  · replace hF := it_f hF c8
    refine lv_iconst (v := 0) hx hb dL_law_689 (by decide) ?_
    exact absurd hF (no_01 _ _)
set_option maxHeartbeats 4000000 in
set_option maxRecDepth 100000 in
theorem nd_L_law_644 {p : Program} {l : Launch} {e : Env} {s : State} {m : MethodId} {below : List Frame} {meth : Method} {c : Code} {b L : Nat} {xs : Nat → Int32} {D : va_G} {cy : Nat → ClassId} {M1 : Mm} {cells slots : Nat} {k28 : Mm → Nat → Nat → Int32 → Option (Mm × Int32)} (CX : CL p s m meth c b L xs D cy) (hk : ∀ (M : Mm) (x1 x2 : Nat) (x3 : Int32) (H : Heap) (locs : List Loc) (ls : Array Slot), k28 M x1 x2 x3 = some (M1, 1) → Hp s.heap.size D cy M H → va_S (BA s.heap.size) s.heap H locs → lv_has ls 4 [(0, .ref b), (1, .ref x1), (2, .ref x2), (3, .int x3)] → W p l e room_1 s m #[Value.ref b] below meth c H locs (cells + 5) (slots + 93) (lw_Z below #[Value.ref b] s) (F0 m 28 ls [])) (hc : cells + 5 ≤ 600000) (hs : slots + 93 ≤ 7302250) : ∀ (M : Mm) (x1 : Nat) (x2 : Nat) (x3 : Int32) (H : Heap) (locs : List Loc) (ls : Array Slot), f_L_law_J644 L xs k28 M x1 x2 x3 = some (M1, 1) → Hp s.heap.size D cy M H → va_S (BA s.heap.size) s.heap H locs → lv_has ls 4 [(0, .ref b), (1, .ref x1), (2, .ref x2), (3, .int x3)] → W p l e room_1 s m #[Value.ref b] below meth c H locs (cells) (slots) (lw_Z below #[Value.ref b] s) (F0 m 644 ls []) := by
  obtain ⟨hx, hb, hr, hml, hown, hts, hlocks, hK, hN, hX, hbl⟩ := id CX
  have hb0 : s.heap.size ≤ s.heap.size := Nat.le_refl _
  have hbA : ¬ BA s.heap.size b := Nat.not_le.mpr hbl
  intro M x1 x2 x3 H locs ls hF hP hS hl
  unfold f_L_law_J644 at hF
  refine lv_aload_n hx hb dL_law_644 rfl (lv_at hl 1 rfl) ?_
  refine lv_aload_n hx hb dL_law_645 rfl (lv_at hl 0 rfl) ?_
  refine lv_iload_n hx hb dL_law_646 rfl (lv_at hl 3 rfl) ?_
  refine lv_iconst (v := 1) hx hb dL_law_647 (by decide) ?_
  refine lv_iadd hx hb dL_law_648 ?_
  refine xs_ld hx hb hX hbl hbA hS hF dL_law_649 (fun v1 hF => ?_)
  obtain ⟨v3, h2, hF⟩ := ob_some hF
  refine xr_call1 (va_runV (As := [.int v1]) (rest := []) ⟨hx, hb, hml, hown, hts⟩ (ct_X10_got l s.heap.size D cy M x1 v1 v3 h2) (cwV 1 hts gL_law_X10_got rfl rfl rfl (by decide +kernel) ⟨Nat.le_of_ble_eq_true rfl, Nat.le_of_ble_eq_true rfl⟩) (xp_V hP hK hN hS hb0 10 rfl (gk_X10_got h2)) rfl rfl hl.1 rfl (lv_room (Nat.le_of_ble_eq_true rfl)) dL_law_650 ⟨(by show cells + 0 ≤ 600000; omega), (by show slots + 0 ≤ 7302250; omega)⟩) hS (fun H locs hP hS => ?_)
  refine lv_aload_n hx hb dL_law_653 rfl (lv_at hl 2 rfl) ?_
  refine lv_aload_n hx hb dL_law_654 rfl (lv_at hl 0 rfl) ?_
  refine lv_iload_n hx hb dL_law_655 rfl (lv_at hl 3 rfl) ?_
  refine lv_iconst (v := 1) hx hb dL_law_656 (by decide) ?_
  refine lv_iadd hx hb dL_law_657 ?_
  refine xs_ld hx hb hX hbl hbA hS hF dL_law_658 (fun v4 hF => ?_)
  obtain ⟨M6, v7, h5, hF⟩ := ob2_some hF
  refine xr_call1 (va_runV (As := [.int v4]) (rest := [.long v3]) ⟨hx, hb, hml, hown, hts⟩ (ct_X11_got l s.heap.size D cy M x2 v4 M6 v7 h5) (cwV 1 hts gL_law_X11_got rfl rfl rfl (by decide +kernel) ⟨Nat.le_of_ble_eq_true rfl, Nat.le_of_ble_eq_true rfl⟩) (xp_V hP hK hN hS hb0 11 rfl (gk_X11_got h5)) rfl rfl hl.1 rfl (lv_room (Nat.le_of_ble_eq_true rfl)) dL_law_659 ⟨(by show cells + 0 + 0 ≤ 600000; omega), (by show slots + 0 + 0 ≤ 7302250; omega)⟩) hS (fun H locs hP hS => ?_)
  refine W.lcmp hx hb dL_law_662 ?_
  refine lv_if_eq (tgt := 1179) hx hb dL_law_663 (by decide) (fun c8 => ?_) (fun c8 => ?_)
  · replace hF := it_t hF c8
    refine lv_iinc (v := x3 + 6) (lv' := [(3, .int (x3 + 6)), (0, .ref b), (1, .ref x1), (2, .ref x2)]) hx hb dL_law_1179 hl (k := 3) rfl (by rfl) (by decide) rfl (fun ls hl => ?_)
    refine lv_goto (tgt := 28) hx hb dL_law_1182 (by decide) ?_
    refine W.widen (k := cells + 5) (n := slots + 93) (by omega) (by omega) ?_
    exact hk _ _ _ _ _ _ _ hF hP hS (lv_sub hl [1, 2, 3, 0] rfl)
  · replace hF := it_f hF c8
    refine lv_iconst (v := 0) hx hb dL_law_666 (by decide) ?_
    exact absurd hF (no_01 _ _)
set_option maxHeartbeats 4000000 in
set_option maxRecDepth 100000 in
theorem nd_L_law_601 {p : Program} {l : Launch} {e : Env} {s : State} {m : MethodId} {below : List Frame} {meth : Method} {c : Code} {b L : Nat} {xs : Nat → Int32} {D : va_G} {cy : Nat → ClassId} {M1 : Mm} {cells slots : Nat} {k28 : Mm → Nat → Nat → Int32 → Option (Mm × Int32)} (CX : CL p s m meth c b L xs D cy) (hk : ∀ (M : Mm) (x1 x2 : Nat) (x3 : Int32) (H : Heap) (locs : List Loc) (ls : Array Slot), k28 M x1 x2 x3 = some (M1, 1) → Hp s.heap.size D cy M H → va_S (BA s.heap.size) s.heap H locs → lv_has ls 4 [(0, .ref b), (1, .ref x1), (2, .ref x2), (3, .int x3)] → W p l e room_1 s m #[Value.ref b] below meth c H locs (cells + 5) (slots + 93) (lw_Z below #[Value.ref b] s) (F0 m 28 ls [])) (hc : cells + 5 ≤ 600000) (hs : slots + 93 ≤ 7302250) : ∀ (M : Mm) (x1 : Nat) (x2 : Nat) (x3 : Int32) (H : Heap) (locs : List Loc) (ls : Array Slot), f_L_law_J601 L xs k28 M x1 x2 x3 = some (M1, 1) → Hp s.heap.size D cy M H → va_S (BA s.heap.size) s.heap H locs → lv_has ls 4 [(0, .ref b), (1, .ref x1), (2, .ref x2), (3, .int x3)] → W p l e room_1 s m #[Value.ref b] below meth c H locs (cells) (slots) (lw_Z below #[Value.ref b] s) (F0 m 601 ls []) := by
  obtain ⟨hx, hb, hr, hml, hown, hts, hlocks, hK, hN, hX, hbl⟩ := id CX
  have hb0 : s.heap.size ≤ s.heap.size := Nat.le_refl _
  have hbA : ¬ BA s.heap.size b := Nat.not_le.mpr hbl
  intro M x1 x2 x3 H locs ls hF hP hS hl
  unfold f_L_law_J601 at hF
  refine lv_aload_n hx hb dL_law_601 rfl (lv_at hl 1 rfl) ?_
  refine lv_aload_n hx hb dL_law_602 rfl (lv_at hl 0 rfl) ?_
  refine lv_iload_n hx hb dL_law_603 rfl (lv_at hl 3 rfl) ?_
  refine lv_iconst (v := 1) hx hb dL_law_604 (by decide) ?_
  refine lv_iadd hx hb dL_law_605 ?_
  refine xs_ld hx hb hX hbl hbA hS hF dL_law_606 (fun v1 hF => ?_)
  refine lv_aload_n hx hb dL_law_607 rfl (lv_at hl 0 rfl) ?_
  refine lv_iload_n hx hb dL_law_608 rfl (lv_at hl 3 rfl) ?_
  refine lv_iconst (v := 2) hx hb dL_law_609 (by decide) ?_
  refine lv_iadd hx hb dL_law_610 ?_
  refine xs_ld hx hb hX hbl hbA hS hF dL_law_611 (fun v2 hF => ?_)
  refine lv_aload_n hx hb dL_law_612 rfl (lv_at hl 0 rfl) ?_
  refine lv_iload_n hx hb dL_law_613 rfl (lv_at hl 3 rfl) ?_
  refine lv_iconst (v := 3) hx hb dL_law_614 (by decide) ?_
  refine lv_iadd hx hb dL_law_615 ?_
  refine xs_ld hx hb hX hbl hbA hS hF dL_law_616 (fun v3 hF => ?_)
  obtain ⟨v5, h4, hF⟩ := ob_some hF
  refine xr_call1 (va_runV (As := [.int v1, .int v2, .int v3]) (rest := []) ⟨hx, hb, hml, hown, hts⟩ (ct_X10_prove l s.heap.size D cy M x1 v1 v2 v3 v5 h4) (cwV 3 hts gL_law_X10_prove rfl rfl rfl (by decide +kernel) ⟨Nat.le_of_ble_eq_true rfl, Nat.le_of_ble_eq_true rfl⟩) (xp_V hP hK hN hS hb0 10 rfl (gk_X10_prove h4)) rfl rfl hl.1 rfl (lv_room (Nat.le_of_ble_eq_true rfl)) dL_law_617 ⟨(by show cells + 0 ≤ 600000; omega), (by show slots + 0 ≤ 7302250; omega)⟩) hS (fun H locs hP hS => ?_)
  refine lv_aload_n hx hb dL_law_620 rfl (lv_at hl 2 rfl) ?_
  refine lv_aload_n hx hb dL_law_621 rfl (lv_at hl 0 rfl) ?_
  refine lv_iload_n hx hb dL_law_622 rfl (lv_at hl 3 rfl) ?_
  refine lv_iconst (v := 1) hx hb dL_law_623 (by decide) ?_
  refine lv_iadd hx hb dL_law_624 ?_
  refine xs_ld hx hb hX hbl hbA hS hF dL_law_625 (fun v6 hF => ?_)
  refine lv_aload_n hx hb dL_law_626 rfl (lv_at hl 0 rfl) ?_
  refine lv_iload_n hx hb dL_law_627 rfl (lv_at hl 3 rfl) ?_
  refine lv_iconst (v := 2) hx hb dL_law_628 (by decide) ?_
  refine lv_iadd hx hb dL_law_629 ?_
  refine xs_ld hx hb hX hbl hbA hS hF dL_law_630 (fun v7 hF => ?_)
  refine lv_aload_n hx hb dL_law_631 rfl (lv_at hl 0 rfl) ?_
  refine lv_iload_n hx hb dL_law_632 rfl (lv_at hl 3 rfl) ?_
  refine lv_iconst (v := 3) hx hb dL_law_633 (by decide) ?_
  refine lv_iadd hx hb dL_law_634 ?_
  refine xs_ld hx hb hX hbl hbA hS hF dL_law_635 (fun v8 hF => ?_)
  obtain ⟨M10, v11, h9, hF⟩ := ob2_some hF
  refine xr_call1 (va_runV (As := [.int v6, .int v7, .int v8]) (rest := [.int v5]) ⟨hx, hb, hml, hown, hts⟩ (ct_X11_prove l s.heap.size D cy M x2 v6 v7 v8 M10 v11 h9) (cwV 3 hts gL_law_X11_prove rfl rfl rfl (by decide +kernel) ⟨Nat.le_of_ble_eq_true rfl, Nat.le_of_ble_eq_true rfl⟩) (xp_V hP hK hN hS hb0 11 rfl (gk_X11_prove h9)) rfl rfl hl.1 rfl (lv_room (Nat.le_of_ble_eq_true rfl)) dL_law_636 ⟨(by show cells + 0 + 0 ≤ 600000; omega), (by show slots + 0 + 0 ≤ 7302250; omega)⟩) hS (fun H locs hP hS => ?_)
  refine lv_icmp_eq (tgt := 1179) hx hb dL_law_639 (by decide) (fun c12 => ?_) (fun c12 => ?_)
  · replace hF := it_t hF c12
    refine lv_iinc (v := x3 + 6) (lv' := [(3, .int (x3 + 6)), (0, .ref b), (1, .ref x1), (2, .ref x2)]) hx hb dL_law_1179 hl (k := 3) rfl (by rfl) (by decide) rfl (fun ls hl => ?_)
    refine lv_goto (tgt := 28) hx hb dL_law_1182 (by decide) ?_
    refine W.widen (k := cells + 5) (n := slots + 93) (by omega) (by omega) ?_
    exact hk _ _ _ _ _ _ _ hF hP hS (lv_sub hl [1, 2, 3, 0] rfl)
  · replace hF := it_f hF c12
    refine lv_iconst (v := 0) hx hb dL_law_642 (by decide) ?_
    exact absurd hF (no_01 _ _)
set_option maxHeartbeats 4000000 in
set_option maxRecDepth 100000 in
theorem nd_L_law_568 {p : Program} {l : Launch} {e : Env} {s : State} {m : MethodId} {below : List Frame} {meth : Method} {c : Code} {b L : Nat} {xs : Nat → Int32} {D : va_G} {cy : Nat → ClassId} {M1 : Mm} {cells slots : Nat} {k28 : Mm → Nat → Nat → Int32 → Option (Mm × Int32)} (CX : CL p s m meth c b L xs D cy) (hk : ∀ (M : Mm) (x1 x2 : Nat) (x3 : Int32) (H : Heap) (locs : List Loc) (ls : Array Slot), k28 M x1 x2 x3 = some (M1, 1) → Hp s.heap.size D cy M H → va_S (BA s.heap.size) s.heap H locs → lv_has ls 4 [(0, .ref b), (1, .ref x1), (2, .ref x2), (3, .int x3)] → W p l e room_1 s m #[Value.ref b] below meth c H locs (cells + 5) (slots + 93) (lw_Z below #[Value.ref b] s) (F0 m 28 ls [])) (hc : cells + 5 ≤ 600000) (hs : slots + 93 ≤ 7302250) : ∀ (M : Mm) (x1 : Nat) (x2 : Nat) (x3 : Int32) (H : Heap) (locs : List Loc) (ls : Array Slot), f_L_law_J568 L xs k28 M x1 x2 x3 = some (M1, 1) → Hp s.heap.size D cy M H → va_S (BA s.heap.size) s.heap H locs → lv_has ls 4 [(0, .ref b), (1, .ref x1), (2, .ref x2), (3, .int x3)] → W p l e room_1 s m #[Value.ref b] below meth c H locs (cells) (slots) (lw_Z below #[Value.ref b] s) (F0 m 568 ls []) := by
  obtain ⟨hx, hb, hr, hml, hown, hts, hlocks, hK, hN, hX, hbl⟩ := id CX
  have hb0 : s.heap.size ≤ s.heap.size := Nat.le_refl _
  have hbA : ¬ BA s.heap.size b := Nat.not_le.mpr hbl
  intro M x1 x2 x3 H locs ls hF hP hS hl
  unfold f_L_law_J568 at hF
  refine lv_aload_n hx hb dL_law_568 rfl (lv_at hl 1 rfl) ?_
  refine lv_aload_n hx hb dL_law_569 rfl (lv_at hl 0 rfl) ?_
  refine lv_iload_n hx hb dL_law_570 rfl (lv_at hl 3 rfl) ?_
  refine lv_iconst (v := 1) hx hb dL_law_571 (by decide) ?_
  refine lv_iadd hx hb dL_law_572 ?_
  refine xs_ld hx hb hX hbl hbA hS hF dL_law_573 (fun v1 hF => ?_)
  refine lv_aload_n hx hb dL_law_574 rfl (lv_at hl 0 rfl) ?_
  refine lv_iload_n hx hb dL_law_575 rfl (lv_at hl 3 rfl) ?_
  refine lv_iconst (v := 2) hx hb dL_law_576 (by decide) ?_
  refine lv_iadd hx hb dL_law_577 ?_
  refine xs_ld hx hb hX hbl hbA hS hF dL_law_578 (fun v2 hF => ?_)
  obtain ⟨v4, h3, hF⟩ := ob_some hF
  refine xr_call1 (va_runV (As := [.int v1, .int v2]) (rest := []) ⟨hx, hb, hml, hown, hts⟩ (ct_X10_look l s.heap.size D cy M x1 v1 v2 v4 h3) (cwV 2 hts gL_law_X10_look rfl rfl rfl (by decide +kernel) ⟨Nat.le_of_ble_eq_true rfl, Nat.le_of_ble_eq_true rfl⟩) (xp_V hP hK hN hS hb0 10 rfl (gk_X10_look h3)) rfl rfl hl.1 rfl (lv_room (Nat.le_of_ble_eq_true rfl)) dL_law_579 ⟨(by show cells + 0 ≤ 600000; omega), (by show slots + 0 ≤ 7302250; omega)⟩) hS (fun H locs hP hS => ?_)
  refine lv_aload_n hx hb dL_law_582 rfl (lv_at hl 2 rfl) ?_
  refine lv_aload_n hx hb dL_law_583 rfl (lv_at hl 0 rfl) ?_
  refine lv_iload_n hx hb dL_law_584 rfl (lv_at hl 3 rfl) ?_
  refine lv_iconst (v := 1) hx hb dL_law_585 (by decide) ?_
  refine lv_iadd hx hb dL_law_586 ?_
  refine xs_ld hx hb hX hbl hbA hS hF dL_law_587 (fun v5 hF => ?_)
  refine lv_aload_n hx hb dL_law_588 rfl (lv_at hl 0 rfl) ?_
  refine lv_iload_n hx hb dL_law_589 rfl (lv_at hl 3 rfl) ?_
  refine lv_iconst (v := 2) hx hb dL_law_590 (by decide) ?_
  refine lv_iadd hx hb dL_law_591 ?_
  refine xs_ld hx hb hX hbl hbA hS hF dL_law_592 (fun v6 hF => ?_)
  obtain ⟨M8, v9, h7, hF⟩ := ob2_some hF
  refine xr_call1 (va_runV (As := [.int v5, .int v6]) (rest := [.int v4]) ⟨hx, hb, hml, hown, hts⟩ (ct_X11_look l s.heap.size D cy M x2 v5 v6 M8 v9 h7) (cwV 2 hts gL_law_X11_look rfl rfl rfl (by decide +kernel) ⟨Nat.le_of_ble_eq_true rfl, Nat.le_of_ble_eq_true rfl⟩) (xp_V hP hK hN hS hb0 11 rfl (gk_X11_look h7)) rfl rfl hl.1 rfl (lv_room (Nat.le_of_ble_eq_true rfl)) dL_law_593 ⟨(by show cells + 0 + 0 ≤ 600000; omega), (by show slots + 0 + 0 ≤ 7302250; omega)⟩) hS (fun H locs hP hS => ?_)
  refine lv_icmp_eq (tgt := 1179) hx hb dL_law_596 (by decide) (fun c10 => ?_) (fun c10 => ?_)
  · replace hF := it_t hF c10
    refine lv_iinc (v := x3 + 6) (lv' := [(3, .int (x3 + 6)), (0, .ref b), (1, .ref x1), (2, .ref x2)]) hx hb dL_law_1179 hl (k := 3) rfl (by rfl) (by decide) rfl (fun ls hl => ?_)
    refine lv_goto (tgt := 28) hx hb dL_law_1182 (by decide) ?_
    refine W.widen (k := cells + 5) (n := slots + 93) (by omega) (by omega) ?_
    exact hk _ _ _ _ _ _ _ hF hP hS (lv_sub hl [1, 2, 3, 0] rfl)
  · replace hF := it_f hF c10
    refine lv_iconst (v := 0) hx hb dL_law_599 (by decide) ?_
    exact absurd hF (no_01 _ _)
set_option maxHeartbeats 4000000 in
set_option maxRecDepth 100000 in
theorem nd_L_law_535 {p : Program} {l : Launch} {e : Env} {s : State} {m : MethodId} {below : List Frame} {meth : Method} {c : Code} {b L : Nat} {xs : Nat → Int32} {D : va_G} {cy : Nat → ClassId} {M1 : Mm} {cells slots : Nat} {k28 : Mm → Nat → Nat → Int32 → Option (Mm × Int32)} (CX : CL p s m meth c b L xs D cy) (hk : ∀ (M : Mm) (x1 x2 : Nat) (x3 : Int32) (H : Heap) (locs : List Loc) (ls : Array Slot), k28 M x1 x2 x3 = some (M1, 1) → Hp s.heap.size D cy M H → va_S (BA s.heap.size) s.heap H locs → lv_has ls 4 [(0, .ref b), (1, .ref x1), (2, .ref x2), (3, .int x3)] → W p l e room_1 s m #[Value.ref b] below meth c H locs (cells + 5) (slots + 93) (lw_Z below #[Value.ref b] s) (F0 m 28 ls [])) (hc : cells + 5 ≤ 600000) (hs : slots + 93 ≤ 7302250) : ∀ (M : Mm) (x1 : Nat) (x2 : Nat) (x3 : Int32) (H : Heap) (locs : List Loc) (ls : Array Slot), f_L_law_J535 L xs k28 M x1 x2 x3 = some (M1, 1) → Hp s.heap.size D cy M H → va_S (BA s.heap.size) s.heap H locs → lv_has ls 4 [(0, .ref b), (1, .ref x1), (2, .ref x2), (3, .int x3)] → W p l e room_1 s m #[Value.ref b] below meth c H locs (cells) (slots) (lw_Z below #[Value.ref b] s) (F0 m 535 ls []) := by
  obtain ⟨hx, hb, hr, hml, hown, hts, hlocks, hK, hN, hX, hbl⟩ := id CX
  have hb0 : s.heap.size ≤ s.heap.size := Nat.le_refl _
  have hbA : ¬ BA s.heap.size b := Nat.not_le.mpr hbl
  intro M x1 x2 x3 H locs ls hF hP hS hl
  unfold f_L_law_J535 at hF
  refine lv_aload_n hx hb dL_law_535 rfl (lv_at hl 1 rfl) ?_
  refine lv_aload_n hx hb dL_law_536 rfl (lv_at hl 0 rfl) ?_
  refine lv_iload_n hx hb dL_law_537 rfl (lv_at hl 3 rfl) ?_
  refine lv_iconst (v := 1) hx hb dL_law_538 (by decide) ?_
  refine lv_iadd hx hb dL_law_539 ?_
  refine xs_ld hx hb hX hbl hbA hS hF dL_law_540 (fun v1 hF => ?_)
  refine lv_aload_n hx hb dL_law_541 rfl (lv_at hl 0 rfl) ?_
  refine lv_iload_n hx hb dL_law_542 rfl (lv_at hl 3 rfl) ?_
  refine lv_iconst (v := 2) hx hb dL_law_543 (by decide) ?_
  refine lv_iadd hx hb dL_law_544 ?_
  refine xs_ld hx hb hX hbl hbA hS hF dL_law_545 (fun v2 hF => ?_)
  obtain ⟨v4, h3, hF⟩ := ob_some hF
  refine xr_call1 (va_runV (As := [.int v1, .int v2]) (rest := []) ⟨hx, hb, hml, hown, hts⟩ (ct_X10_octet l s.heap.size D cy M x1 v1 v2 v4 h3) (cwV 2 hts gL_law_X10_octet rfl rfl rfl (by decide +kernel) ⟨Nat.le_of_ble_eq_true rfl, Nat.le_of_ble_eq_true rfl⟩) (xp_V hP hK hN hS hb0 10 rfl (gk_X10_octet h3)) rfl rfl hl.1 rfl (lv_room (Nat.le_of_ble_eq_true rfl)) dL_law_546 ⟨(by show cells + 0 ≤ 600000; omega), (by show slots + 0 ≤ 7302250; omega)⟩) hS (fun H locs hP hS => ?_)
  refine lv_aload_n hx hb dL_law_549 rfl (lv_at hl 2 rfl) ?_
  refine lv_aload_n hx hb dL_law_550 rfl (lv_at hl 0 rfl) ?_
  refine lv_iload_n hx hb dL_law_551 rfl (lv_at hl 3 rfl) ?_
  refine lv_iconst (v := 1) hx hb dL_law_552 (by decide) ?_
  refine lv_iadd hx hb dL_law_553 ?_
  refine xs_ld hx hb hX hbl hbA hS hF dL_law_554 (fun v5 hF => ?_)
  refine lv_aload_n hx hb dL_law_555 rfl (lv_at hl 0 rfl) ?_
  refine lv_iload_n hx hb dL_law_556 rfl (lv_at hl 3 rfl) ?_
  refine lv_iconst (v := 2) hx hb dL_law_557 (by decide) ?_
  refine lv_iadd hx hb dL_law_558 ?_
  refine xs_ld hx hb hX hbl hbA hS hF dL_law_559 (fun v6 hF => ?_)
  obtain ⟨M8, v9, h7, hF⟩ := ob2_some hF
  refine xr_call1 (va_runV (As := [.int v5, .int v6]) (rest := [.int v4]) ⟨hx, hb, hml, hown, hts⟩ (ct_X11_octet l s.heap.size D cy M x2 v5 v6 M8 v9 h7) (cwV 2 hts gL_law_X11_octet rfl rfl rfl (by decide +kernel) ⟨Nat.le_of_ble_eq_true rfl, Nat.le_of_ble_eq_true rfl⟩) (xp_V hP hK hN hS hb0 11 rfl (gk_X11_octet h7)) rfl rfl hl.1 rfl (lv_room (Nat.le_of_ble_eq_true rfl)) dL_law_560 ⟨(by show cells + 0 + 0 ≤ 600000; omega), (by show slots + 0 + 0 ≤ 7302250; omega)⟩) hS (fun H locs hP hS => ?_)
  refine lv_icmp_eq (tgt := 1179) hx hb dL_law_563 (by decide) (fun c10 => ?_) (fun c10 => ?_)
  · replace hF := it_t hF c10
    refine lv_iinc (v := x3 + 6) (lv' := [(3, .int (x3 + 6)), (0, .ref b), (1, .ref x1), (2, .ref x2)]) hx hb dL_law_1179 hl (k := 3) rfl (by rfl) (by decide) rfl (fun ls hl => ?_)
    refine lv_goto (tgt := 28) hx hb dL_law_1182 (by decide) ?_
    refine W.widen (k := cells + 5) (n := slots + 93) (by omega) (by omega) ?_
    exact hk _ _ _ _ _ _ _ hF hP hS (lv_sub hl [1, 2, 3, 0] rfl)
  · replace hF := it_f hF c10
    refine lv_iconst (v := 0) hx hb dL_law_566 (by decide) ?_
    exact absurd hF (no_01 _ _)
