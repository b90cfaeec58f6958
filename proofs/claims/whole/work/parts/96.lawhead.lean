set_option maxHeartbeats 4000000 in
set_option maxRecDepth 100000 in
theorem nd_L_law_28 {p : Program} {l : Launch} {e : Env} {s : State} {m : MethodId} {below : List Frame} {meth : Method} {c : Code} {b L : Nat} {xs : Nat → Int32} {D : va_G} {cy : Nat → ClassId} {M1 : Mm} (CX : CL p s m meth c b L xs D cy) : ∀ (fu cells slots : Nat), cells + 5 * fu ≤ 600000 → slots + 93 * fu ≤ 7302250 → ∀ (M : Mm) (x1 x2 : Nat) (x3 : Int32) (H : Heap) (locs : List Loc) (ls : Array Slot), f_L_law_L28 L xs fu M x1 x2 x3 = some (M1, 1) → Hp s.heap.size D cy M H → va_S (BA s.heap.size) s.heap H locs → lv_has ls 4 [(0, .ref b), (1, .ref x1), (2, .ref x2), (3, .int x3)] → W p l e room_1 s m #[Value.ref b] below meth c H locs (cells) (slots) (lw_Z below #[Value.ref b] s) (F0 m 28 ls []) := by
  obtain ⟨hx, hb, hr, hml, hown, hts, hlocks, hK, hN, hX, hbl⟩ := id CX
  have hb0 : s.heap.size ≤ s.heap.size := Nat.le_refl _
  have hbA : ¬ BA s.heap.size b := Nat.not_le.mpr hbl
  intro fu
  induction fu with
  | zero =>
    intro cells slots hcf hsf M x1 x2 x3 H locs ls hF hP hS hl
    rw [f_L_law_L28] at hF
    cases hF
  | succ fu ih =>
    intro cells slots hcf hsf M x1 x2 x3 H locs ls hF hP hS hl
    rw [f_L_law_L28] at hF
    have hc : cells + 5 ≤ 600000 := by omega
    have hs : slots + 93 ≤ 7302250 := by omega
    refine lv_iload_n hx hb dL_law_28 rfl (lv_at hl 3 rfl) ?_
    refine lv_aload_n hx hb dL_law_29 rfl (lv_at hl 0 rfl) ?_
    refine xs_len hx hb hX hbl hbA hS dL_law_30 ?_
    refine lv_bipush (v := 6) hx hb dL_law_31 (by decide) ?_
    refine lv_isub hx hb dL_law_33 ?_
    refine lv_icmp_gt (tgt := 1185) hx hb dL_law_34 (by decide) (fun c1 => ?_) (fun c1 => ?_)
    · replace hF := it_t hF c1
      refine lv_iconst (v := 1) hx hb dL_law_1185 (by decide) ?_
      cases hF
      exact law_end hx hb hr hlocks hc hs hS dL_law_1186
    · replace hF := it_f hF c1
      refine lv_aload_n hx hb dL_law_37 rfl (lv_at hl 0 rfl) ?_
      refine lv_iload_n hx hb dL_law_38 rfl (lv_at hl 3 rfl) ?_
      refine xs_ld hx hb hX hbl hbA hS hF dL_law_39 (fun v2 hF => ?_)
      refine lv_bipush (v := 31) hx hb dL_law_40 (by decide) ?_
      refine lv_iand hx hb dL_law_42 ?_
      by_cases c3 : (v2 &&& 31) = 0
      · replace hF := it_t hF c3
        refine lv_tableIn (off := 125) (tgt := 168) hx hb dL_law_43 (by rw [c3]; decide) (by rw [c3]; decide) (by rw [c3]; decide) (by decide) ?_
        exact nd_L_law_168 CX (ih (cells + 5) (slots + 93) (by omega) (by omega)) hc hs _ _ _ _ _ _ _ hF hP hS (lv_sub hl [0, 1, 2, 3] rfl)
      replace hF := it_f hF c3
      by_cases c4 : (v2 &&& 31) = 1
      · replace hF := it_t hF c4
        refine lv_tableIn (off := 178) (tgt := 221) hx hb dL_law_43 (by rw [c4]; decide) (by rw [c4]; decide) (by rw [c4]; decide) (by decide) ?_
        exact nd_L_law_221 CX (ih (cells + 5) (slots + 93) (by omega) (by omega)) hc hs _ _ _ _ _ _ _ hF hP hS (lv_sub hl [0, 1, 2, 3] rfl)
      replace hF := it_f hF c4
      by_cases c5 : (v2 &&& 31) = 2
      · replace hF := it_t hF c5
        refine lv_tableIn (off := 242) (tgt := 285) hx hb dL_law_43 (by rw [c5]; decide) (by rw [c5]; decide) (by rw [c5]; decide) (by decide) ?_
        exact nd_L_law_285 CX (ih (cells + 5) (slots + 93) (by omega) (by omega)) hc hs _ _ _ _ _ _ _ hF hP hS (lv_sub hl [0, 1, 2, 3] rfl)
      replace hF := it_f hF c5
      by_cases c6 : (v2 &&& 31) = 3
      · replace hF := it_t hF c6
        refine lv_tableIn (off := 285) (tgt := 328) hx hb dL_law_43 (by rw [c6]; decide) (by rw [c6]; decide) (by rw [c6]; decide) (by decide) ?_
        exact nd_L_law_328 CX (ih (cells + 5) (slots + 93) (by omega) (by omega)) hc hs _ _ _ _ _ _ _ hF hP hS (lv_sub hl [0, 1, 2, 3] rfl)
      replace hF := it_f hF c6
      by_cases c7 : (v2 &&& 31) = 4
      · replace hF := it_t hF c7
        refine lv_tableIn (off := 334) (tgt := 377) hx hb dL_law_43 (by rw [c7]; decide) (by rw [c7]; decide) (by rw [c7]; decide) (by decide) ?_
        exact nd_L_law_377 CX (ih (cells + 5) (slots + 93) (by omega) (by omega)) hc hs _ _ _ _ _ _ _ hF hP hS (lv_sub hl [0, 1, 2, 3] rfl)
      replace hF := it_f hF c7
      by_cases c8 : (v2 &&& 31) = 5
      · replace hF := it_t hF c8
        refine lv_tableIn (off := 357) (tgt := 400) hx hb dL_law_43 (by rw [c8]; decide) (by rw [c8]; decide) (by rw [c8]; decide) (by decide) ?_
        exact nd_L_law_400 CX (ih (cells + 5) (slots + 93) (by omega) (by omega)) hc hs _ _ _ _ _ _ _ hF hP hS (lv_sub hl [0, 1, 2, 3] rfl)
      replace hF := it_f hF c8
      by_cases c9 : (v2 &&& 31) = 6
      · replace hF := it_t hF c9
        refine lv_tableIn (off := 380) (tgt := 423) hx hb dL_law_43 (by rw [c9]; decide) (by rw [c9]; decide) (by rw [c9]; decide) (by decide) ?_
        exact nd_L_law_423 CX (ih (cells + 5) (slots + 93) (by omega) (by omega)) hc hs _ _ _ _ _ _ _ hF hP hS (lv_sub hl [0, 1, 2, 3] rfl)
      replace hF := it_f hF c9
      by_cases c10 : (v2 &&& 31) = 7
      · replace hF := it_t hF c10
        refine lv_tableIn (off := 403) (tgt := 446) hx hb dL_law_43 (by rw [c10]; decide) (by rw [c10]; decide) (by rw [c10]; decide) (by decide) ?_
        exact nd_L_law_446 CX (ih (cells + 5) (slots + 93) (by omega) (by omega)) hc hs _ _ _ _ _ _ _ hF hP hS (lv_sub hl [0, 1, 2, 3] rfl)
      replace hF := it_f hF c10
      by_cases c11 : (v2 &&& 31) = 8
      · replace hF := it_t hF c11
        refine lv_tableIn (off := 426) (tgt := 469) hx hb dL_law_43 (by rw [c11]; decide) (by rw [c11]; decide) (by rw [c11]; decide) (by decide) ?_
        exact nd_L_law_469 CX (ih (cells + 5) (slots + 93) (by omega) (by omega)) hc hs _ _ _ _ _ _ _ hF hP hS (lv_sub hl [0, 1, 2, 3] rfl)
      replace hF := it_f hF c11
      by_cases c12 : (v2 &&& 31) = 9
      · replace hF := it_t hF c12
        refine lv_tableIn (off := 449) (tgt := 492) hx hb dL_law_43 (by rw [c12]; decide) (by rw [c12]; decide) (by rw [c12]; decide) (by decide) ?_
        exact nd_L_law_492 CX (ih (cells + 5) (slots + 93) (by omega) (by omega)) hc hs _ _ _ _ _ _ _ hF hP hS (lv_sub hl [0, 1, 2, 3] rfl)
      replace hF := it_f hF c12
      by_cases c13 : (v2 &&& 31) = 10
      · replace hF := it_t hF c13
        refine lv_tableIn (off := 492) (tgt := 535) hx hb dL_law_43 (by rw [c13]; decide) (by rw [c13]; decide) (by rw [c13]; decide) (by decide) ?_
        exact nd_L_law_535 CX (ih (cells + 5) (slots + 93) (by omega) (by omega)) hc hs _ _ _ _ _ _ _ hF hP hS (lv_sub hl [0, 1, 2, 3] rfl)
      replace hF := it_f hF c13
      by_cases c14 : (v2 &&& 31) = 11
      · replace hF := it_t hF c14
        refine lv_tableIn (off := 525) (tgt := 568) hx hb dL_law_43 (by rw [c14]; decide) (by rw [c14]; decide) (by rw [c14]; decide) (by decide) ?_
        exact nd_L_law_568 CX (ih (cells + 5) (slots + 93) (by omega) (by omega)) hc hs _ _ _ _ _ _ _ hF hP hS (lv_sub hl [0, 1, 2, 3] rfl)
      replace hF := it_f hF c14
      by_cases c15 : (v2 &&& 31) = 12
      · replace hF := it_t hF c15
        refine lv_tableIn (off := 558) (tgt := 601) hx hb dL_law_43 (by rw [c15]; decide) (by rw [c15]; decide) (by rw [c15]; decide) (by decide) ?_
        exact nd_L_law_601 CX (ih (cells + 5) (slots + 93) (by omega) (by omega)) hc hs _ _ _ _ _ _ _ hF hP hS (lv_sub hl [0, 1, 2, 3] rfl)
      replace hF := it_f hF c15
      by_cases c16 : (v2 &&& 31) = 13
      · replace hF := it_t hF c16
        refine lv_tableIn (off := 601) (tgt := 644) hx hb dL_law_43 (by rw [c16]; decide) (by rw [c16]; decide) (by rw [c16]; decide) (by decide) ?_
        exact nd_L_law_644 CX (ih (cells + 5) (slots + 93) (by omega) (by omega)) hc hs _ _ _ _ _ _ _ hF hP hS (lv_sub hl [0, 1, 2, 3] rfl)
      replace hF := it_f hF c16
      by_cases c17 : (v2 &&& 31) = 14
      · replace hF := it_t hF c17
        refine lv_tableIn (off := 625) (tgt := 668) hx hb dL_law_43 (by rw [c17]; decide) (by rw [c17]; decide) (by rw [c17]; decide) (by decide) ?_
        exact nd_L_law_668 CX (ih (cells + 5) (slots + 93) (by omega) (by omega)) hc hs _ _ _ _ _ _ _ hF hP hS (lv_sub hl [0, 1, 2, 3] rfl)
      replace hF := it_f hF c17
      by_cases c18 : (v2 &&& 31) = 15
      · replace hF := it_t hF c18
        refine lv_tableIn (off := 648) (tgt := 691) hx hb dL_law_43 (by rw [c18]; decide) (by rw [c18]; decide) (by rw [c18]; decide) (by decide) ?_
        exact nd_L_law_691 CX (ih (cells + 5) (slots + 93) (by omega) (by omega)) hc hs _ _ _ _ _ _ _ hF hP hS (lv_sub hl [0, 1, 2, 3] rfl)
      replace hF := it_f hF c18
      by_cases c19 : (v2 &&& 31) = 16
      · replace hF := it_t hF c19
        refine lv_tableIn (off := 671) (tgt := 714) hx hb dL_law_43 (by rw [c19]; decide) (by rw [c19]; decide) (by rw [c19]; decide) (by decide) ?_
        exact nd_L_law_714 CX (ih (cells + 5) (slots + 93) (by omega) (by omega)) hc hs _ _ _ _ _ _ _ hF hP hS (lv_sub hl [0, 1, 2, 3] rfl)
      replace hF := it_f hF c19
      by_cases c20 : (v2 &&& 31) = 17
      · replace hF := it_t hF c20
        refine lv_tableIn (off := 704) (tgt := 747) hx hb dL_law_43 (by rw [c20]; decide) (by rw [c20]; decide) (by rw [c20]; decide) (by decide) ?_
        exact nd_L_law_747 CX (ih (cells + 5) (slots + 93) (by omega) (by omega)) hc hs _ _ _ _ _ _ _ hF hP hS (lv_sub hl [0, 1, 2, 3] rfl)
      replace hF := it_f hF c20
      by_cases c21 : (v2 &&& 31) = 18
      · replace hF := it_t hF c21
        refine lv_tableIn (off := 764) (tgt := 807) hx hb dL_law_43 (by rw [c21]; decide) (by rw [c21]; decide) (by rw [c21]; decide) (by decide) ?_
        exact nd_L_law_807 CX (ih (cells + 5) (slots + 93) (by omega) (by omega)) hc hs _ _ _ _ _ _ _ hF hP hS (lv_sub hl [0, 1, 2, 3] rfl)
      replace hF := it_f hF c21
      by_cases c22 : (v2 &&& 31) = 19
      · replace hF := it_t hF c22
        refine lv_tableIn (off := 797) (tgt := 840) hx hb dL_law_43 (by rw [c22]; decide) (by rw [c22]; decide) (by rw [c22]; decide) (by decide) ?_
        exact nd_L_law_840 CX (ih (cells + 5) (slots + 93) (by omega) (by omega)) hc hs _ _ _ _ _ _ _ hF hP hS (lv_sub hl [0, 1, 2, 3] rfl)
      replace hF := it_f hF c22
      by_cases c23 : (v2 &&& 31) = 20
      · replace hF := it_t hF c23
        refine lv_tableIn (off := 830) (tgt := 873) hx hb dL_law_43 (by rw [c23]; decide) (by rw [c23]; decide) (by rw [c23]; decide) (by decide) ?_
        exact nd_L_law_873 CX (ih (cells + 5) (slots + 93) (by omega) (by omega)) hc hs _ _ _ _ _ _ _ hF hP hS (lv_sub hl [0, 1, 2, 3] rfl)
      replace hF := it_f hF c23
      by_cases c24 : (v2 &&& 31) = 21
      · replace hF := it_t hF c24
        refine lv_tableIn (off := 874) (tgt := 917) hx hb dL_law_43 (by rw [c24]; decide) (by rw [c24]; decide) (by rw [c24]; decide) (by decide) ?_
        exact nd_L_law_917 CX (ih (cells + 5) (slots + 93) (by omega) (by omega)) hc hs _ _ _ _ _ _ _ hF hP hS (lv_sub hl [0, 1, 2, 3] rfl)
      replace hF := it_f hF c24
      by_cases c25 : (v2 &&& 31) = 22
      · replace hF := it_t hF c25
        refine lv_tableIn (off := 917) (tgt := 960) hx hb dL_law_43 (by rw [c25]; decide) (by rw [c25]; decide) (by rw [c25]; decide) (by decide) ?_
        exact nd_L_law_960 CX (ih (cells + 5) (slots + 93) (by omega) (by omega)) hc hs _ _ _ _ _ _ _ hF hP hS (lv_sub hl [0, 1, 2, 3] rfl)
      replace hF := it_f hF c25
      by_cases c26 : (v2 &&& 31) = 23
      · replace hF := it_t hF c26
        refine lv_tableIn (off := 960) (tgt := 1003) hx hb dL_law_43 (by rw [c26]; decide) (by rw [c26]; decide) (by rw [c26]; decide) (by decide) ?_
        exact nd_L_law_1003 CX (ih (cells + 5) (slots + 93) (by omega) (by omega)) hc hs _ _ _ _ _ _ _ hF hP hS (lv_sub hl [0, 1, 2, 3] rfl)
      replace hF := it_f hF c26
      by_cases c27 : (v2 &&& 31) = 24
      · replace hF := it_t hF c27
        refine lv_tableIn (off := 1004) (tgt := 1047) hx hb dL_law_43 (by rw [c27]; decide) (by rw [c27]; decide) (by rw [c27]; decide) (by decide) ?_
        exact nd_L_law_1047 CX (ih (cells + 5) (slots + 93) (by omega) (by omega)) hc hs _ _ _ _ _ _ _ hF hP hS (lv_sub hl [0, 1, 2, 3] rfl)
      replace hF := it_f hF c27
      by_cases c28 : (v2 &&& 31) = 25
      · replace hF := it_t hF c28
        refine lv_tableIn (off := 1067) (tgt := 1110) hx hb dL_law_43 (by rw [c28]; decide) (by rw [c28]; decide) (by rw [c28]; decide) (by decide) ?_
        exact nd_L_law_1110 CX (ih (cells + 5) (slots + 93) (by omega) (by omega)) hc hs _ _ _ _ _ _ _ hF hP hS (lv_sub hl [0, 1, 2, 3] rfl)
      replace hF := it_f hF c28
      by_cases c29 : (v2 &&& 31) = 26
      · replace hF := it_t hF c29
        refine lv_tableIn (off := 1090) (tgt := 1133) hx hb dL_law_43 (by rw [c29]; decide) (by rw [c29]; decide) (by rw [c29]; decide) (by decide) ?_
        exact nd_L_law_1133 CX (ih (cells + 5) (slots + 93) (by omega) (by omega)) hc hs _ _ _ _ _ _ _ hF hP hS (lv_sub hl [0, 1, 2, 3] rfl)
      replace hF := it_f hF c29
      by_cases c30 : (v2 &&& 31) = 27
      · replace hF := it_t hF c30
        refine lv_tableIn (off := 1113) (tgt := 1156) hx hb dL_law_43 (by rw [c30]; decide) (by rw [c30]; decide) (by rw [c30]; decide) (by decide) ?_
        exact nd_L_law_1156 CX (ih (cells + 5) (slots + 93) (by omega) (by omega)) hc hs _ _ _ _ _ _ _ hF hP hS (lv_sub hl [0, 1, 2, 3] rfl)
      replace hF := it_f hF c30
      refine lv_tableOut (tgt := 1179) hx hb dL_law_43 (by have := lv_neT c3 (by decide : (0 : Int32).toInt = 0); have := lv_neT c4 (by decide : (1 : Int32).toInt = 1); have := lv_neT c5 (by decide : (2 : Int32).toInt = 2); have := lv_neT c6 (by decide : (3 : Int32).toInt = 3); have := lv_neT c7 (by decide : (4 : Int32).toInt = 4); have := lv_neT c8 (by decide : (5 : Int32).toInt = 5); have := lv_neT c9 (by decide : (6 : Int32).toInt = 6); have := lv_neT c10 (by decide : (7 : Int32).toInt = 7); have := lv_neT c11 (by decide : (8 : Int32).toInt = 8); have := lv_neT c12 (by decide : (9 : Int32).toInt = 9); have := lv_neT c13 (by decide : (10 : Int32).toInt = 10); have := lv_neT c14 (by decide : (11 : Int32).toInt = 11); have := lv_neT c15 (by decide : (12 : Int32).toInt = 12); have := lv_neT c16 (by decide : (13 : Int32).toInt = 13); have := lv_neT c17 (by decide : (14 : Int32).toInt = 14); have := lv_neT c18 (by decide : (15 : Int32).toInt = 15); have := lv_neT c19 (by decide : (16 : Int32).toInt = 16); have := lv_neT c20 (by decide : (17 : Int32).toInt = 17); have := lv_neT c21 (by decide : (18 : Int32).toInt = 18); have := lv_neT c22 (by decide : (19 : Int32).toInt = 19); have := lv_neT c23 (by decide : (20 : Int32).toInt = 20); have := lv_neT c24 (by decide : (21 : Int32).toInt = 21); have := lv_neT c25 (by decide : (22 : Int32).toInt = 22); have := lv_neT c26 (by decide : (23 : Int32).toInt = 23); have := lv_neT c27 (by decide : (24 : Int32).toInt = 24); have := lv_neT c28 (by decide : (25 : Int32).toInt = 25); have := lv_neT c29 (by decide : (26 : Int32).toInt = 26); have := lv_neT c30 (by decide : (27 : Int32).toInt = 27); omega) (by decide) ?_
      refine lv_iinc (v := x3 + 6) (lv' := [(3, .int (x3 + 6)), (0, .ref b), (1, .ref x1), (2, .ref x2)]) hx hb dL_law_1179 hl (k := 3) rfl (by rfl) (by decide) rfl (fun ls hl => ?_)
      refine lv_goto (tgt := 28) hx hb dL_law_1182 (by decide) ?_
      refine W.widen (k := cells + 5) (n := slots + 93) (by omega) (by omega) ?_
      exact ih (cells + 5) (slots + 93) (by omega) (by omega) _ _ _ _ _ _ _ hF hP hS (lv_sub hl [1, 2, 3, 0] rfl)
set_option maxHeartbeats 4000000 in
set_option maxRecDepth 100000 in
theorem nd_L_law_0 {p : Program} {l : Launch} {e : Env} {s : State} {m : MethodId} {below : List Frame} {meth : Method} {c : Code} {b L : Nat} {xs : Nat → Int32} {D : va_G} {cy : Nat → ClassId} {M1 : Mm} {M : Mm} (CX : CL p s m meth c b L xs D cy) (hF : f_L_law L xs M = some (M1, 1)) (hP : Hp s.heap.size D cy M s.heap) : W p l e room_1 s m #[Value.ref b] below meth c s.heap [] 0 0 (lw_Z below #[Value.ref b] s) (entryFrame m ([Value.ref b] : List Value).toArray 4) := by
  obtain ⟨hx, hb, hr, hml, hown, hts, hlocks, hK, hN, hX, hbl⟩ := id CX
  have hb0 : s.heap.size ≤ s.heap.size := Nat.le_refl _
  have hbA : ¬ BA s.heap.size b := Nat.not_le.mpr hbl
  have hS : va_S (BA s.heap.size) s.heap s.heap [] := va_S.rf
  have hl := lv_entry [.ref b] (n := 4) (Nat.le_of_ble_eq_true rfl)
  rw [lg_entry_eq]
  generalize (lg_sl ([.ref b]) ++ List.replicate (4 - (lg_sl ([.ref b])).length) Slot.unset).toArray = ls at hl ⊢
  have hl : lv_has ls 4 [(0, .ref b)] := hl
  unfold f_L_law at hF
  refine xr_new hx hb hts inlX10 hown hK hP hS hb0 10 rfl tyX10 tyX10_ok df_10 (by decide +kernel) (by decide +kernel) (by decide +kernel) (Nat.le_of_ble_eq_true rfl) (Nat.le_of_ble_eq_true rfl) dL_law_0 (kd := 11) rfl (fun H hP hS => ?_)
  refine W.cs (cells' := 1) (slots' := 12) rfl rfl ?_
  refine lv_dup hx hb dL_law_3 rfl ?_
  refine lv_aload_n hx hb dL_law_4 rfl (lv_at hl 0 rfl) ?_
  refine lv_iconst (v := 0) hx hb dL_law_5 (by decide) ?_
  refine xr_call1 (va_runS (As := [.ref b, .int 0]) (rest := [.ref (mS M), .ref (mS M)]) ⟨hx, hb, hml, hown, hts⟩ (ct_L_cell l s.heap.size D cy (nO M 11) L xs b) (va_cwS 2 hts gL_law_L_cell rfl rfl rfl (by decide +kernel) ⟨Nat.le_of_ble_eq_true rfl, Nat.le_of_ble_eq_true rfl⟩) (xp_C hP hK hN hS hX hbl) rfl rfl hl.1 rfl (lv_room (Nat.le_of_ble_eq_true rfl)) dL_law_6 ⟨Nat.le_of_ble_eq_true rfl, Nat.le_of_ble_eq_true rfl⟩) hS (fun H locs hP hS => ?_)
  refine W.cs (cells' := 1) (slots' := 12) rfl rfl ?_
  obtain ⟨M3, h2, hF⟩ := ob_some hF
  refine xr_call0 (va_runI (As := [.int (f_L_cell L xs 0)]) (rest := [.ref (mS M)]) ⟨hx, hb, hml, hown, hts⟩ (ct_X10_init l s.heap.size D cy (nO M 11) (mS M) (f_L_cell L xs 0) M3 h2) (cwI 1 hts gL_law_X10_init rfl rfl rfl (hts (.initialized RX10) (by decide +kernel)) (hts (.methodLink RL 15 yX10_init) (by decide +kernel)) (hts (.instanceMethod yX10_init) (by decide +kernel)) rfl (by decide +kernel) ⟨Nat.le_of_ble_eq_true rfl, Nat.le_of_ble_eq_true rfl⟩) (xp_S hP hK hN hS hb0) rfl rfl hl.1 rfl (lv_room (Nat.le_of_ble_eq_true rfl)) dL_law_9 ⟨Nat.le_of_ble_eq_true rfl, Nat.le_of_ble_eq_true rfl⟩) hS (fun H locs hP hS => ?_)
  refine W.cs (cells' := 226) (slots' := 1942) rfl rfl ?_
  refine lv_astore_n (lv' := [(1, .ref (mS M)), (0, .ref b)]) hx hb dL_law_12 rfl hl (by decide) (by first | rfl | simp [cat_rf]) (fun ls hl => ?_)
  refine xr_new hx hb hts inlX11 hown hK hP hS hb0 11 rfl tyX11 tyX11_ok df_11 (by decide +kernel) (by decide +kernel) (by decide +kernel) (Nat.le_of_ble_eq_true rfl) (Nat.le_of_ble_eq_true rfl) dL_law_13 (kd := 12) rfl (fun H hP hS => ?_)
  refine W.cs (cells' := 227) (slots' := 2000) rfl rfl ?_
  refine lv_dup hx hb dL_law_16 rfl ?_
  refine lv_aload_n hx hb dL_law_17 rfl (lv_at hl 1 rfl) ?_
  refine lv_iconst (v := 0) hx hb dL_law_18 (by decide) ?_
  refine xr_call1 (va_runS (As := [.ref b, .int 0]) (rest := [.ref (mS M3), .ref (mS M3)]) ⟨hx, hb, hml, hown, hts⟩ (ct_L_cell l s.heap.size D cy (nO M3 12) L xs b) (va_cwS 2 hts gL_law_L_cell rfl rfl rfl (by decide +kernel) ⟨Nat.le_of_ble_eq_true rfl, Nat.le_of_ble_eq_true rfl⟩) (xp_C hP hK hN hS hX hbl) rfl rfl hl.1 rfl (lv_room (Nat.le_of_ble_eq_true rfl)) dL_law_19 ⟨Nat.le_of_ble_eq_true rfl, Nat.le_of_ble_eq_true rfl⟩) hS (fun H locs hP hS => ?_)
  refine W.cs (cells' := 227) (slots' := 2000) rfl rfl ?_
  obtain ⟨M6, h5, hF⟩ := ob_some hF
  refine xr_call0 (va_runI (As := [.int (f_L_cell L xs 0)]) (rest := [.ref (mS M3)]) ⟨hx, hb, hml, hown, hts⟩ (ct_X11_init l s.heap.size D cy (nO M3 12) (mS M3) (f_L_cell L xs 0) M6 h5) (cwI 1 hts gL_law_X11_init rfl rfl rfl (hts (.initialized RX11) (by decide +kernel)) (hts (.methodLink RL 20 yX11_init) (by decide +kernel)) (hts (.instanceMethod yX11_init) (by decide +kernel)) rfl (by decide +kernel) ⟨Nat.le_of_ble_eq_true rfl, Nat.le_of_ble_eq_true rfl⟩) (xp_S hP hK hN hS hb0) rfl rfl hl.1 rfl (lv_room (Nat.le_of_ble_eq_true rfl)) dL_law_22 ⟨Nat.le_of_ble_eq_true rfl, Nat.le_of_ble_eq_true rfl⟩) hS (fun H locs hP hS => ?_)
  refine W.cs (cells' := 270) (slots' := 22192) rfl rfl ?_
  refine lv_astore_n (lv' := [(2, .ref (mS M3)), (1, .ref (mS M)), (0, .ref b)]) hx hb dL_law_25 rfl hl (by decide) (by first | rfl | simp [cat_rf]) (fun ls hl => ?_)
  refine lv_iconst (v := 1) hx hb dL_law_26 (by decide) ?_
  refine lv_istore_n (lv' := [(3, .int 1), (2, .ref (mS M3)), (1, .ref (mS M)), (0, .ref b)]) hx hb dL_law_27 rfl hl (by decide) (by first | rfl | simp [cat_rf]) (fun ls hl => ?_)
  exact nd_L_law_28 CX 1000 270 22192 (by decide) (by decide) _ _ _ _ _ _ _ hF hP hS (lv_sub hl [3, 2, 1, 0] rfl)
