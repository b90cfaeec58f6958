/-! Every answer of the pure law is alike on both sides, so it ends with 1. -/
theorem ob2e {α β : Type} (M : Mm) (v : α) (f : Mm → α → Option β) : ob2 (some (M, v)) f = f M v := rfl
def E5 (L : Nat) (xs : Nat → Int32) (x a1 a2 a3 a4 a5 : Int32) : Prop := sx L xs (x + 1) = some a1 ∧ sx L xs (x + 2) = some a2 ∧ sx L xs (x + 3) = some a3 ∧ sx L xs (x + 4) = some a4 ∧ sx L xs (x + 5) = some a5
theorem lc_168 {L : Nat} {xs : Nat → Int32} {k : Mm → Nat → Nat → Int32 → Option (Mm × Int32)} {M : Mm} {X p n w : Nat} {z : Nat → Nat} {x a1 a2 a3 a4 a5 : Int32} (H : Inv M X p n w z) (E : E5 L xs x a1 a2 a3 a4 a5) : ∃ M2 p1 n1 w1 z1, Inv M2 X p1 n1 w1 z1 ∧ f_L_law_J168 L xs k M X (X + 226) x = k M2 X (X + 226) (x + 6) := by
  obtain ⟨e1, e2, e3, e4, e5⟩ := E
  obtain ⟨M1, M2, r, p1, g1, g2, HI⟩ := op_field H a1 a2 a3 a4
  refine ⟨M2, p1, n, w, z, HI, ?_⟩
  unfold f_L_law_J168
  rw [e1, ob_eq, e2, ob_eq, e3, ob_eq, e4, ob_eq, g1, ob2e, ob_eq, ob_eq, ob_eq, ob_eq, g2, ob2e, if_pos rfl]
theorem lc_221 {L : Nat} {xs : Nat → Int32} {k : Mm → Nat → Nat → Int32 → Option (Mm × Int32)} {M : Mm} {X p n w : Nat} {z : Nat → Nat} {x a1 a2 a3 a4 a5 : Int32} (H : Inv M X p n w z) (E : E5 L xs x a1 a2 a3 a4 a5) : ∃ M2 p1 n1 w1 z1, Inv M2 X p1 n1 w1 z1 ∧ f_L_law_J221 L xs k M X (X + 226) x = k M2 X (X + 226) (x + 6) := by
  obtain ⟨e1, e2, e3, e4, e5⟩ := E
  obtain ⟨M1, M2, r, g1, g2, HI⟩ := op_set H a1 ((a2.toInt64 <<< ((32 : Int32).toInt64 &&& 63)) ||| (a3.toInt64 &&& 4294967295))
  refine ⟨M2, p, n, w, z, HI, ?_⟩
  unfold f_L_law_J221
  rw [e1, ob_eq, e2, ob_eq, e3, ob_eq, g1, ob2e, ob_eq, ob_eq, ob_eq, g2, ob2e, if_pos ((lgc_eq r r).2 rfl)]
theorem lc_285 {L : Nat} {xs : Nat → Int32} {k : Mm → Nat → Nat → Int32 → Option (Mm × Int32)} {M : Mm} {X p n w : Nat} {z : Nat → Nat} {x a1 a2 a3 a4 a5 : Int32} (H : Inv M X p n w z) (E : E5 L xs x a1 a2 a3 a4 a5) : ∃ M2 p1 n1 w1 z1, Inv M2 X p1 n1 w1 z1 ∧ f_L_law_J285 L xs k M X (X + 226) x = k M2 X (X + 226) (x + 6) := by
  obtain ⟨e1, e2, e3, e4, e5⟩ := E
  obtain ⟨M1, M2, r, g1, g2, HI⟩ := op_stride H a1 a2 a3
  refine ⟨M2, p, n, w, z, HI, ?_⟩
  unfold f_L_law_J285
  rw [e1, ob_eq, e2, ob_eq, e3, ob_eq, g1, ob2e, ob_eq, ob_eq, ob_eq, g2, ob2e, if_pos rfl]
theorem lc_328 {L : Nat} {xs : Nat → Int32} {k : Mm → Nat → Nat → Int32 → Option (Mm × Int32)} {M : Mm} {X p n w : Nat} {z : Nat → Nat} {x a1 a2 a3 a4 a5 : Int32} (H : Inv M X p n w z) (E : E5 L xs x a1 a2 a3 a4 a5) : ∃ M2 p1 n1 w1 z1, Inv M2 X p1 n1 w1 z1 ∧ f_L_law_J328 L xs k M X (X + 226) x = k M2 X (X + 226) (x + 6) := by
  obtain ⟨e1, e2, e3, e4, e5⟩ := E
  by_cases h : a2 = 0
  · obtain ⟨M1, M2, r, n1, z1, g1, g2, HI, -⟩ := op_send H a1 0
    refine ⟨M2, p, n1, w, z1, HI, ?_⟩
    unfold f_L_law_J328
    rw [e1, ob_eq, e2, ob_eq, if_pos h]
    unfold f_L_law_J347
    rw [g1, ob2e, e1, ob_eq, e2, ob_eq, if_pos h]
    unfold f_L_law_J369
    rw [g2, ob2e, if_pos rfl]
  · obtain ⟨M1, M2, r, n1, z1, g1, g2, HI, -⟩ := op_send H a1 1
    refine ⟨M2, p, n1, w, z1, HI, ?_⟩
    unfold f_L_law_J328
    rw [e1, ob_eq, e2, ob_eq, if_neg h]
    unfold f_L_law_J347
    rw [g1, ob2e, e1, ob_eq, e2, ob_eq, if_neg h]
    unfold f_L_law_J369
    rw [g2, ob2e, if_pos rfl]
theorem lc_377 {L : Nat} {xs : Nat → Int32} {k : Mm → Nat → Nat → Int32 → Option (Mm × Int32)} {M : Mm} {X p n w : Nat} {z : Nat → Nat} {x a1 a2 a3 a4 a5 : Int32} (H : Inv M X p n w z) (E : E5 L xs x a1 a2 a3 a4 a5) : ∃ M2 p1 n1 w1 z1, Inv M2 X p1 n1 w1 z1 ∧ f_L_law_J377 L xs k M X (X + 226) x = k M2 X (X + 226) (x + 6) := by
  obtain ⟨e1, e2, e3, e4, e5⟩ := E
  obtain ⟨M1, M2, r, n1, z1, g1, g2, HI, -⟩ := op_ack H a1
  refine ⟨M2, p, n1, w, z1, HI, ?_⟩
  unfold f_L_law_J377
  rw [e1, ob_eq, g1, ob2e, ob_eq, g2, ob2e, if_pos rfl]
theorem lc_400 {L : Nat} {xs : Nat → Int32} {k : Mm → Nat → Nat → Int32 → Option (Mm × Int32)} {M : Mm} {X p n w : Nat} {z : Nat → Nat} {x a1 a2 a3 a4 a5 : Int32} (H : Inv M X p n w z) (E : E5 L xs x a1 a2 a3 a4 a5) : ∃ M2 p1 n1 w1 z1, Inv M2 X p1 n1 w1 z1 ∧ f_L_law_J400 L xs k M X (X + 226) x = k M2 X (X + 226) (x + 6) := by
  obtain ⟨e1, e2, e3, e4, e5⟩ := E
  obtain ⟨M1, M2, r, n1, z1, g1, g2, HI, -⟩ := op_nack H a1
  refine ⟨M2, p, n1, w, z1, HI, ?_⟩
  unfold f_L_law_J400
  rw [e1, ob_eq, g1, ob2e, ob_eq, g2, ob2e, if_pos rfl]
theorem lc_423 {L : Nat} {xs : Nat → Int32} {k : Mm → Nat → Nat → Int32 → Option (Mm × Int32)} {M : Mm} {X p n w : Nat} {z : Nat → Nat} {x a1 a2 a3 a4 a5 : Int32} (H : Inv M X p n w z) (E : E5 L xs x a1 a2 a3 a4 a5) : ∃ M2 p1 n1 w1 z1, Inv M2 X p1 n1 w1 z1 ∧ f_L_law_J423 L xs k M X (X + 226) x = k M2 X (X + 226) (x + 6) := by
  obtain ⟨e1, e2, e3, e4, e5⟩ := E
  obtain ⟨M1, M2, r, g1, g2, HI⟩ := op_deliver H a1
  refine ⟨M2, p, n, w, z, HI, ?_⟩
  unfold f_L_law_J423
  rw [e1, ob_eq, g1, ob2e, ob_eq, g2, ob2e, if_pos rfl]
theorem lc_446 {L : Nat} {xs : Nat → Int32} {k : Mm → Nat → Nat → Int32 → Option (Mm × Int32)} {M : Mm} {X p n w : Nat} {z : Nat → Nat} {x a1 a2 a3 a4 a5 : Int32} (H : Inv M X p n w z) (E : E5 L xs x a1 a2 a3 a4 a5) : ∃ M2 p1 n1 w1 z1, Inv M2 X p1 n1 w1 z1 ∧ f_L_law_J446 L xs k M X (X + 226) x = k M2 X (X + 226) (x + 6) := by
  obtain ⟨e1, e2, e3, e4, e5⟩ := E
  obtain ⟨M1, M2, r, g1, g2, HI⟩ := op_lose H a1
  refine ⟨M2, p, n, w, z, HI, ?_⟩
  unfold f_L_law_J446
  rw [e1, ob_eq, g1, ob2e, ob_eq, g2, ob2e, if_pos rfl]
theorem lc_469 {L : Nat} {xs : Nat → Int32} {k : Mm → Nat → Nat → Int32 → Option (Mm × Int32)} {M : Mm} {X p n w : Nat} {z : Nat → Nat} {x a1 a2 a3 a4 a5 : Int32} (H : Inv M X p n w z) (E : E5 L xs x a1 a2 a3 a4 a5) : ∃ M2 p1 n1 w1 z1, Inv M2 X p1 n1 w1 z1 ∧ f_L_law_J469 L xs k M X (X + 226) x = k M2 X (X + 226) (x + 6) := by
  obtain ⟨e1, e2, e3, e4, e5⟩ := E
  obtain ⟨M1, M2, r, n1, z1, g1, g2, HI, -⟩ := op_twice H a1
  refine ⟨M2, p, n1, w, z1, HI, ?_⟩
  unfold f_L_law_J469
  rw [e1, ob_eq, g1, ob2e, ob_eq, g2, ob2e, if_pos rfl]
theorem lc_492 {L : Nat} {xs : Nat → Int32} {k : Mm → Nat → Nat → Int32 → Option (Mm × Int32)} {M : Mm} {X p n w : Nat} {z : Nat → Nat} {x a1 a2 a3 a4 a5 : Int32} (H : Inv M X p n w z) (E : E5 L xs x a1 a2 a3 a4 a5) : ∃ M2 p1 n1 w1 z1, Inv M2 X p1 n1 w1 z1 ∧ f_L_law_J492 L xs k M X (X + 226) x = k M2 X (X + 226) (x + 6) := by
  obtain ⟨e1, e2, e3, e4, e5⟩ := E
  obtain ⟨M1, M2, r, g1, g2, HI⟩ := op_bend H a1 a2 a3
  refine ⟨M2, p, n, w, z, HI, ?_⟩
  unfold f_L_law_J492
  rw [e1, ob_eq, e2, ob_eq, e3, ob_eq, g1, ob2e, ob_eq, ob_eq, ob_eq, g2, ob2e, if_pos rfl]
theorem lc_535 {L : Nat} {xs : Nat → Int32} {k : Mm → Nat → Nat → Int32 → Option (Mm × Int32)} {M : Mm} {X p n w : Nat} {z : Nat → Nat} {x a1 a2 a3 a4 a5 : Int32} (H : Inv M X p n w z) (E : E5 L xs x a1 a2 a3 a4 a5) : ∃ M2 p1 n1 w1 z1, Inv M2 X p1 n1 w1 z1 ∧ f_L_law_J535 L xs k M X (X + 226) x = k M2 X (X + 226) (x + 6) := by
  obtain ⟨e1, e2, e3, e4, e5⟩ := E
  obtain ⟨r, g1, g2⟩ := op_octet H a1 a2
  refine ⟨sI M 1100 (X + 226) 0, p, n, w, z, inv_thr H, ?_⟩
  unfold f_L_law_J535
  rw [e1, ob_eq, e2, ob_eq, g1, ob_eq, ob_eq, ob_eq, g2, ob2e, if_pos rfl]
theorem lc_568 {L : Nat} {xs : Nat → Int32} {k : Mm → Nat → Nat → Int32 → Option (Mm × Int32)} {M : Mm} {X p n w : Nat} {z : Nat → Nat} {x a1 a2 a3 a4 a5 : Int32} (H : Inv M X p n w z) (E : E5 L xs x a1 a2 a3 a4 a5) : ∃ M2 p1 n1 w1 z1, Inv M2 X p1 n1 w1 z1 ∧ f_L_law_J568 L xs k M X (X + 226) x = k M2 X (X + 226) (x + 6) := by
  obtain ⟨e1, e2, e3, e4, e5⟩ := E
  obtain ⟨r, g1, g2⟩ := op_look H a1 a2
  refine ⟨sI M 1100 (X + 226) 0, p, n, w, z, inv_thr H, ?_⟩
  unfold f_L_law_J568
  rw [e1, ob_eq, e2, ob_eq, g1, ob_eq, ob_eq, ob_eq, g2, ob2e, if_pos rfl]
theorem lc_601 {L : Nat} {xs : Nat → Int32} {k : Mm → Nat → Nat → Int32 → Option (Mm × Int32)} {M : Mm} {X p n w : Nat} {z : Nat → Nat} {x a1 a2 a3 a4 a5 : Int32} (H : Inv M X p n w z) (E : E5 L xs x a1 a2 a3 a4 a5) : ∃ M2 p1 n1 w1 z1, Inv M2 X p1 n1 w1 z1 ∧ f_L_law_J601 L xs k M X (X + 226) x = k M2 X (X + 226) (x + 6) := by
  obtain ⟨e1, e2, e3, e4, e5⟩ := E
  obtain ⟨r, g1, g2⟩ := op_prove H a1 a2 a3
  refine ⟨sI M 1100 (X + 226) 0, p, n, w, z, inv_thr H, ?_⟩
  unfold f_L_law_J601
  rw [e1, ob_eq, e2, ob_eq, e3, ob_eq, g1, ob_eq, ob_eq, ob_eq, ob_eq, g2, ob2e, if_pos rfl]
theorem lc_644 {L : Nat} {xs : Nat → Int32} {k : Mm → Nat → Nat → Int32 → Option (Mm × Int32)} {M : Mm} {X p n w : Nat} {z : Nat → Nat} {x a1 a2 a3 a4 a5 : Int32} (H : Inv M X p n w z) (E : E5 L xs x a1 a2 a3 a4 a5) : ∃ M2 p1 n1 w1 z1, Inv M2 X p1 n1 w1 z1 ∧ f_L_law_J644 L xs k M X (X + 226) x = k M2 X (X + 226) (x + 6) := by
  obtain ⟨e1, e2, e3, e4, e5⟩ := E
  obtain ⟨r, g1, g2⟩ := op_got H a1
  refine ⟨sI M 1100 (X + 226) 0, p, n, w, z, inv_thr H, ?_⟩
  unfold f_L_law_J644
  rw [e1, ob_eq, g1, ob_eq, ob_eq, g2, ob2e, if_pos ((lgc_eq r r).2 rfl)]
theorem lc_668 {L : Nat} {xs : Nat → Int32} {k : Mm → Nat → Nat → Int32 → Option (Mm × Int32)} {M : Mm} {X p n w : Nat} {z : Nat → Nat} {x a1 a2 a3 a4 a5 : Int32} (H : Inv M X p n w z) (E : E5 L xs x a1 a2 a3 a4 a5) : ∃ M2 p1 n1 w1 z1, Inv M2 X p1 n1 w1 z1 ∧ f_L_law_J668 L xs k M X (X + 226) x = k M2 X (X + 226) (x + 6) := by
  obtain ⟨e1, e2, e3, e4, e5⟩ := E
  obtain ⟨r, g1, g2⟩ := op_way H a1
  refine ⟨sI M 1100 (X + 226) 0, p, n, w, z, inv_thr H, ?_⟩
  unfold f_L_law_J668
  rw [e1, ob_eq, g1, ob_eq, ob_eq, g2, ob2e, if_pos rfl]
theorem lc_691 {L : Nat} {xs : Nat → Int32} {k : Mm → Nat → Nat → Int32 → Option (Mm × Int32)} {M : Mm} {X p n w : Nat} {z : Nat → Nat} {x a1 a2 a3 a4 a5 : Int32} (H : Inv M X p n w z) (E : E5 L xs x a1 a2 a3 a4 a5) : ∃ M2 p1 n1 w1 z1, Inv M2 X p1 n1 w1 z1 ∧ f_L_law_J691 L xs k M X (X + 226) x = k M2 X (X + 226) (x + 6) := by
  obtain ⟨e1, e2, e3, e4, e5⟩ := E
  obtain ⟨r, g1, g2⟩ := op_hung H a1
  refine ⟨sI M 1100 (X + 226) 0, p, n, w, z, inv_thr H, ?_⟩
  unfold f_L_law_J691
  rw [e1, ob_eq, g1, ob_eq, ob_eq, g2, ob2e, if_pos rfl]
theorem lc_714 {L : Nat} {xs : Nat → Int32} {k : Mm → Nat → Nat → Int32 → Option (Mm × Int32)} {M : Mm} {X p n w : Nat} {z : Nat → Nat} {x a1 a2 a3 a4 a5 : Int32} (H : Inv M X p n w z) (E : E5 L xs x a1 a2 a3 a4 a5) : ∃ M2 p1 n1 w1 z1, Inv M2 X p1 n1 w1 z1 ∧ f_L_law_J714 L xs k M X (X + 226) x = k M2 X (X + 226) (x + 6) := by
  obtain ⟨e1, e2, e3, e4, e5⟩ := E
  obtain ⟨r, g1, g2⟩ := op_context H a1 a2
  refine ⟨sI M 1100 (X + 226) 0, p, n, w, z, inv_thr H, ?_⟩
  unfold f_L_law_J714
  rw [e1, ob_eq, e2, ob_eq, g1, ob_eq, ob_eq, ob_eq, g2, ob2e, if_pos rfl]
theorem lc_747 {L : Nat} {xs : Nat → Int32} {k : Mm → Nat → Nat → Int32 → Option (Mm × Int32)} {M : Mm} {X p n w : Nat} {z : Nat → Nat} {x a1 a2 a3 a4 a5 : Int32} (H : Inv M X p n w z) (E : E5 L xs x a1 a2 a3 a4 a5) : ∃ M2 p1 n1 w1 z1, Inv M2 X p1 n1 w1 z1 ∧ f_L_law_J747 L xs k M X (X + 226) x = k M2 X (X + 226) (x + 6) := by
  obtain ⟨e1, e2, e3, e4, e5⟩ := E
  by_cases h : a3 = 0
  · obtain ⟨r, g1, g2⟩ := op_known H a1 a2 0
    refine ⟨sI M 1100 (X + 226) 0, p, n, w, z, inv_thr H, ?_⟩
    unfold f_L_law_J747
    rw [e1, ob_eq, e2, ob_eq, e3, ob_eq, if_pos h]
    unfold f_L_law_J771
    rw [g1, ob_eq, e1, ob_eq, e2, ob_eq, e3, ob_eq, if_pos h]
    unfold f_L_law_J798
    rw [g2, ob2e, if_pos ((lgc_eq r r).2 rfl)]
  · obtain ⟨r, g1, g2⟩ := op_known H a1 a2 1
    refine ⟨sI M 1100 (X + 226) 0, p, n, w, z, inv_thr H, ?_⟩
    unfold f_L_law_J747
    rw [e1, ob_eq, e2, ob_eq, e3, ob_eq, if_neg h]
    unfold f_L_law_J771
    rw [g1, ob_eq, e1, ob_eq, e2, ob_eq, e3, ob_eq, if_neg h]
    unfold f_L_law_J798
    rw [g2, ob2e, if_pos ((lgc_eq r r).2 rfl)]
theorem lc_807 {L : Nat} {xs : Nat → Int32} {k : Mm → Nat → Nat → Int32 → Option (Mm × Int32)} {M : Mm} {X p n w : Nat} {z : Nat → Nat} {x a1 a2 a3 a4 a5 : Int32} (H : Inv M X p n w z) (E : E5 L xs x a1 a2 a3 a4 a5) : ∃ M2 p1 n1 w1 z1, Inv M2 X p1 n1 w1 z1 ∧ f_L_law_J807 L xs k M X (X + 226) x = k M2 X (X + 226) (x + 6) := by
  obtain ⟨e1, e2, e3, e4, e5⟩ := E
  obtain ⟨r, g1, g2⟩ := op_squeezer H a1 a2
  refine ⟨sI M 1100 (X + 226) 0, p, n, w, z, inv_thr H, ?_⟩
  unfold f_L_law_J807
  rw [e1, ob_eq, e2, ob_eq, g1, ob_eq, ob_eq, ob_eq, g2, ob2e, if_pos rfl]
theorem lc_840 {L : Nat} {xs : Nat → Int32} {k : Mm → Nat → Nat → Int32 → Option (Mm × Int32)} {M : Mm} {X p n w : Nat} {z : Nat → Nat} {x a1 a2 a3 a4 a5 : Int32} (H : Inv M X p n w z) (E : E5 L xs x a1 a2 a3 a4 a5) : ∃ M2 p1 n1 w1 z1, Inv M2 X p1 n1 w1 z1 ∧ f_L_law_J840 L xs k M X (X + 226) x = k M2 X (X + 226) (x + 6) := by
  obtain ⟨e1, e2, e3, e4, e5⟩ := E
  obtain ⟨M1, M2, r, g1, g2, HI⟩ := op_forget H a1 a2
  refine ⟨M2, p, n, w, z, HI, ?_⟩
  unfold f_L_law_J840
  rw [e1, ob_eq, e2, ob_eq, g1, ob2e, ob_eq, ob_eq, g2, ob2e, if_pos rfl]
theorem lc_873 {L : Nat} {xs : Nat → Int32} {k : Mm → Nat → Nat → Int32 → Option (Mm × Int32)} {M : Mm} {X p n w : Nat} {z : Nat → Nat} {x a1 a2 a3 a4 a5 : Int32} (H : Inv M X p n w z) (E : E5 L xs x a1 a2 a3 a4 a5) : ∃ M2 p1 n1 w1 z1, Inv M2 X p1 n1 w1 z1 ∧ f_L_law_J873 L xs k M X (X + 226) x = k M2 X (X + 226) (x + 6) := by
  obtain ⟨e1, e2, e3, e4, e5⟩ := E
  obtain ⟨r, g1, g2⟩ := op_spent H a1 a2 a3
  refine ⟨sI M 1100 (X + 226) 0, p, n, w, z, inv_thr H, ?_⟩
  unfold f_L_law_J873
  rw [e1, ob_eq, e2, ob_eq, e3, ob_eq, g1, ob_eq, ob_eq, ob_eq, ob_eq, g2, ob2e, if_pos ((lgc_eq r r).2 rfl)]
theorem lc_917 {L : Nat} {xs : Nat → Int32} {k : Mm → Nat → Nat → Int32 → Option (Mm × Int32)} {M : Mm} {X p n w : Nat} {z : Nat → Nat} {x a1 a2 a3 a4 a5 : Int32} (H : Inv M X p n w z) (E : E5 L xs x a1 a2 a3 a4 a5) : ∃ M2 p1 n1 w1 z1, Inv M2 X p1 n1 w1 z1 ∧ f_L_law_J917 L xs k M X (X + 226) x = k M2 X (X + 226) (x + 6) := by
  obtain ⟨e1, e2, e3, e4, e5⟩ := E
  obtain ⟨M1, M2, r, g1, g2, HI⟩ := op_keep H a1 a2 a3
  refine ⟨M2, p, n, w, z, HI, ?_⟩
  unfold f_L_law_J917
  rw [e1, ob_eq, e2, ob_eq, e3, ob_eq, g1, ob2e, ob_eq, ob_eq, ob_eq, g2, ob2e, if_pos rfl]
theorem lc_960 {L : Nat} {xs : Nat → Int32} {k : Mm → Nat → Nat → Int32 → Option (Mm × Int32)} {M : Mm} {X p n w : Nat} {z : Nat → Nat} {x a1 a2 a3 a4 a5 : Int32} (H : Inv M X p n w z) (E : E5 L xs x a1 a2 a3 a4 a5) : ∃ M2 p1 n1 w1 z1, Inv M2 X p1 n1 w1 z1 ∧ f_L_law_J960 L xs k M X (X + 226) x = k M2 X (X + 226) (x + 6) := by
  obtain ⟨e1, e2, e3, e4, e5⟩ := E
  obtain ⟨M1, M2, r, g1, g2, HI⟩ := op_make H a1 a2 a3
  refine ⟨M2, p, n, w, z, HI, ?_⟩
  unfold f_L_law_J960
  rw [e1, ob_eq, e2, ob_eq, e3, ob_eq, g1, ob2e, ob_eq, ob_eq, ob_eq, g2, ob2e, if_pos rfl]
theorem lc_1003 {L : Nat} {xs : Nat → Int32} {k : Mm → Nat → Nat → Int32 → Option (Mm × Int32)} {M : Mm} {X p n w : Nat} {z : Nat → Nat} {x a1 a2 a3 a4 a5 : Int32} (H : Inv M X p n w z) (E : E5 L xs x a1 a2 a3 a4 a5) : ∃ M2 p1 n1 w1 z1, Inv M2 X p1 n1 w1 z1 ∧ f_L_law_J1003 L xs k M X (X + 226) x = k M2 X (X + 226) (x + 6) := by
  obtain ⟨e1, e2, e3, e4, e5⟩ := E
  obtain ⟨M1, M2, r, g1, g2, HI⟩ := op_put H a1 a2 a3
  refine ⟨M2, p, n, w, z, HI, ?_⟩
  unfold f_L_law_J1003
  rw [e1, ob_eq, e2, ob_eq, e3, ob_eq, g1, ob2e, ob_eq, ob_eq, ob_eq, g2, ob2e, if_pos ((lgc_eq r r).2 rfl)]
theorem lc_1047 {L : Nat} {xs : Nat → Int32} {k : Mm → Nat → Nat → Int32 → Option (Mm × Int32)} {M : Mm} {X p n w : Nat} {z : Nat → Nat} {x a1 a2 a3 a4 a5 : Int32} (H : Inv M X p n w z) (E : E5 L xs x a1 a2 a3 a4 a5) : ∃ M2 p1 n1 w1 z1, Inv M2 X p1 n1 w1 z1 ∧ f_L_law_J1047 L xs k M X (X + 226) x = k M2 X (X + 226) (x + 6) := by
  obtain ⟨e1, e2, e3, e4, e5⟩ := E
  obtain ⟨M1, M2, r, g1, g2, HI⟩ := op_copy H a1 a2 a3 a4 a5
  refine ⟨M2, p, n, w, z, HI, ?_⟩
  unfold f_L_law_J1047
  rw [e1, ob_eq, e2, ob_eq, e3, ob_eq, e4, ob_eq, e5, ob_eq, g1, ob2e, ob_eq, ob_eq, ob_eq, ob_eq, ob_eq, g2, ob2e, if_pos rfl]
theorem lc_1110 {L : Nat} {xs : Nat → Int32} {k : Mm → Nat → Nat → Int32 → Option (Mm × Int32)} {M : Mm} {X p n w : Nat} {z : Nat → Nat} {x a1 a2 a3 a4 a5 : Int32} (H : Inv M X p n w z) (E : E5 L xs x a1 a2 a3 a4 a5) : ∃ M2 p1 n1 w1 z1, Inv M2 X p1 n1 w1 z1 ∧ f_L_law_J1110 L xs k M X (X + 226) x = k M2 X (X + 226) (x + 6) := by
  obtain ⟨e1, e2, e3, e4, e5⟩ := E
  obtain ⟨r, g1, g2⟩ := op_worth H a1
  refine ⟨sI M 1100 (X + 226) 0, p, n, w, z, inv_thr H, ?_⟩
  unfold f_L_law_J1110
  rw [e1, ob_eq, g1, ob_eq, ob_eq, g2, ob2e, if_pos rfl]
theorem lc_1133 {L : Nat} {xs : Nat → Int32} {k : Mm → Nat → Nat → Int32 → Option (Mm × Int32)} {M : Mm} {X p n w : Nat} {z : Nat → Nat} {x a1 a2 a3 a4 a5 : Int32} (H : Inv M X p n w z) (E : E5 L xs x a1 a2 a3 a4 a5) : ∃ M2 p1 n1 w1 z1, Inv M2 X p1 n1 w1 z1 ∧ f_L_law_J1133 L xs k M X (X + 226) x = k M2 X (X + 226) (x + 6) := by
  obtain ⟨e1, e2, e3, e4, e5⟩ := E
  obtain ⟨r, g1, g2⟩ := op_toss H a1
  refine ⟨sI M 1100 (X + 226) 0, p, n, w, z, inv_thr H, ?_⟩
  unfold f_L_law_J1133
  rw [e1, ob_eq, g1, ob_eq, ob_eq, g2, ob2e, if_pos rfl]
theorem lc_1156 {L : Nat} {xs : Nat → Int32} {k : Mm → Nat → Nat → Int32 → Option (Mm × Int32)} {M : Mm} {X p n w : Nat} {z : Nat → Nat} {x a1 a2 a3 a4 a5 : Int32} (H : Inv M X p n w z) (E : E5 L xs x a1 a2 a3 a4 a5) : ∃ M2 p1 n1 w1 z1, Inv M2 X p1 n1 w1 z1 ∧ f_L_law_J1156 L xs k M X (X + 226) x = k M2 X (X + 226) (x + 6) := by
  obtain ⟨e1, e2, e3, e4, e5⟩ := E
  obtain ⟨r, g1, g2⟩ := op_count H a1
  refine ⟨sI M 1100 (X + 226) 0, p, n, w, z, inv_thr H, ?_⟩
  unfold f_L_law_J1156
  rw [e1, ob_eq, g1, ob_eq, ob_eq, g2, ob2e, if_pos rfl]
theorem sx_at {L i k : Nat} {xs : Nat → Int32} (hL : L ≤ 3073) (h : i + k < L) : sx L xs (nI i + nI k) = some (xs (i + k)) := by
  unfold sx
  rw [nI_add, if_pos (vin_nI h (by omega)), ix_nI (by omega)]
theorem law_cmp {L j : Nat} (hL : L ≤ 3073) (hj : j ≤ 3073) : (nI L - 6 < nI (1 + 6 * j)) ↔ L < 6 * j + 7 := by
  rw [Int32.lt_iff_toInt_lt, show (6 : Int32) = nI 6 from by decide, pk_sub_toInt (by omega) (by omega), nI_toInt (by omega)]
  omega
set_option maxRecDepth 20000 in
theorem law_loop {L X : Nat} {xs : Nat → Int32} (hL : L ≤ 3073) : ∀ (fu : Nat) (M : Mm) (p n w : Nat) (z : Nat → Nat) (j : Nat) (x : Int32), x = nI (1 + 6 * j) → Inv M X p n w z → j ≤ 3073 → L < 6 * (j + fu) + 7 → ∃ M1, f_L_law_L28 L xs (fu + 1) M X (X + 226) x = some (M1, 1) := by
  intro fu
  induction fu with
  | zero =>
    intro M p n w z j x hx H hj h
    subst hx
    rw [f_L_law_L28, if_pos ((law_cmp hL hj).2 (by omega))]
    exact ⟨M, rfl⟩
  | succ fu ih =>
    intro M p n w z j x hx H hj h
    subst hx
    rw [f_L_law_L28]
    by_cases hc : L < 6 * j + 7
    · rw [if_pos ((law_cmp hL hj).2 hc)]
      exact ⟨M, rfl⟩
    rw [if_neg (fun q => hc ((law_cmp hL hj).1 q))]
    have e0 : sx L xs (nI (1 + 6 * j)) = some (xs (1 + 6 * j)) := by
      unfold sx
      rw [if_pos (vin_nI (by omega) (by omega)), ix_nI (by omega)]
    have E : E5 L xs (nI (1 + 6 * j)) (xs (1 + 6 * j + 1)) (xs (1 + 6 * j + 2)) (xs (1 + 6 * j + 3)) (xs (1 + 6 * j + 4)) (xs (1 + 6 * j + 5)) := ⟨sx_at (k := 1) hL (by omega), sx_at (k := 2) hL (by omega), sx_at (k := 3) hL (by omega), sx_at (k := 4) hL (by omega), sx_at (k := 5) hL (by omega)⟩
    have K : ∀ M2 p1 n1 w1 z1, Inv M2 X p1 n1 w1 z1 → ∃ M1, f_L_law_L28 L xs (fu + 1) M2 X (X + 226) (nI (1 + 6 * j) + 6) = some (M1, 1) := fun M2 p1 n1 w1 z1 HI => ih M2 p1 n1 w1 z1 (j + 1) _ (by rw [show (6 : Int32) = nI 6 from by decide, nI_add, show 1 + 6 * j + 6 = 1 + 6 * (j + 1) from by omega]) HI (by omega) (by omega)
    rw [e0, ob_eq]
    by_cases c0 : (xs (1 + 6 * j) &&& 31) = 0
    · obtain ⟨M2, p1, n1, w1, z1, HI, e⟩ := lc_168 (k := f_L_law_L28 L xs (fu + 1)) H E
      rw [if_pos c0, e]
      exact K M2 p1 n1 w1 z1 HI
    rw [if_neg c0]
    by_cases c1 : (xs (1 + 6 * j) &&& 31) = 1
    · obtain ⟨M2, p1, n1, w1, z1, HI, e⟩ := lc_221 (k := f_L_law_L28 L xs (fu + 1)) H E
      rw [if_pos c1, e]
      exact K M2 p1 n1 w1 z1 HI
    rw [if_neg c1]
    by_cases c2 : (xs (1 + 6 * j) &&& 31) = 2
    · obtain ⟨M2, p1, n1, w1, z1, HI, e⟩ := lc_285 (k := f_L_law_L28 L xs (fu + 1)) H E
      rw [if_pos c2, e]
      exact K M2 p1 n1 w1 z1 HI
    rw [if_neg c2]
    by_cases c3 : (xs (1 + 6 * j) &&& 31) = 3
    · obtain ⟨M2, p1, n1, w1, z1, HI, e⟩ := lc_328 (k := f_L_law_L28 L xs (fu + 1)) H E
      rw [if_pos c3, e]
      exact K M2 p1 n1 w1 z1 HI
    rw [if_neg c3]
    by_cases c4 : (xs (1 + 6 * j) &&& 31) = 4
    · obtain ⟨M2, p1, n1, w1, z1, HI, e⟩ := lc_377 (k := f_L_law_L28 L xs (fu + 1)) H E
      rw [if_pos c4, e]
      exact K M2 p1 n1 w1 z1 HI
    rw [if_neg c4]
    by_cases c5 : (xs (1 + 6 * j) &&& 31) = 5
    · obtain ⟨M2, p1, n1, w1, z1, HI, e⟩ := lc_400 (k := f_L_law_L28 L xs (fu + 1)) H E
      rw [if_pos c5, e]
      exact K M2 p1 n1 w1 z1 HI
    rw [if_neg c5]
    by_cases c6 : (xs (1 + 6 * j) &&& 31) = 6
    · obtain ⟨M2, p1, n1, w1, z1, HI, e⟩ := lc_423 (k := f_L_law_L28 L xs (fu + 1)) H E
      rw [if_pos c6, e]
      exact K M2 p1 n1 w1 z1 HI
    rw [if_neg c6]
    by_cases c7 : (xs (1 + 6 * j) &&& 31) = 7
    · obtain ⟨M2, p1, n1, w1, z1, HI, e⟩ := lc_446 (k := f_L_law_L28 L xs (fu + 1)) H E
      rw [if_pos c7, e]
      exact K M2 p1 n1 w1 z1 HI
    rw [if_neg c7]
    by_cases c8 : (xs (1 + 6 * j) &&& 31) = 8
    · obtain ⟨M2, p1, n1, w1, z1, HI, e⟩ := lc_469 (k := f_L_law_L28 L xs (fu + 1)) H E
      rw [if_pos c8, e]
      exact K M2 p1 n1 w1 z1 HI
    rw [if_neg c8]
    by_cases c9 : (xs (1 + 6 * j) &&& 31) = 9
    · obtain ⟨M2, p1, n1, w1, z1, HI, e⟩ := lc_492 (k := f_L_law_L28 L xs (fu + 1)) H E
      rw [if_pos c9, e]
      exact K M2 p1 n1 w1 z1 HI
    rw [if_neg c9]
    by_cases c10 : (xs (1 + 6 * j) &&& 31) = 10
    · obtain ⟨M2, p1, n1, w1, z1, HI, e⟩ := lc_535 (k := f_L_law_L28 L xs (fu + 1)) H E
      rw [if_pos c10, e]
      exact K M2 p1 n1 w1 z1 HI
    rw [if_neg c10]
    by_cases c11 : (xs (1 + 6 * j) &&& 31) = 11
    · obtain ⟨M2, p1, n1, w1, z1, HI, e⟩ := lc_568 (k := f_L_law_L28 L xs (fu + 1)) H E
      rw [if_pos c11, e]
      exact K M2 p1 n1 w1 z1 HI
    rw [if_neg c11]
    by_cases c12 : (xs (1 + 6 * j) &&& 31) = 12
    · obtain ⟨M2, p1, n1, w1, z1, HI, e⟩ := lc_601 (k := f_L_law_L28 L xs (fu + 1)) H E
      rw [if_pos c12, e]
      exact K M2 p1 n1 w1 z1 HI
    rw [if_neg c12]
    by_cases c13 : (xs (1 + 6 * j) &&& 31) = 13
    · obtain ⟨M2, p1, n1, w1, z1, HI, e⟩ := lc_644 (k := f_L_law_L28 L xs (fu + 1)) H E
      rw [if_pos c13, e]
      exact K M2 p1 n1 w1 z1 HI
    rw [if_neg c13]
    by_cases c14 : (xs (1 + 6 * j) &&& 31) = 14
    · obtain ⟨M2, p1, n1, w1, z1, HI, e⟩ := lc_668 (k := f_L_law_L28 L xs (fu + 1)) H E
      rw [if_pos c14, e]
      exact K M2 p1 n1 w1 z1 HI
    rw [if_neg c14]
    by_cases c15 : (xs (1 + 6 * j) &&& 31) = 15
    · obtain ⟨M2, p1, n1, w1, z1, HI, e⟩ := lc_691 (k := f_L_law_L28 L xs (fu + 1)) H E
      rw [if_pos c15, e]
      exact K M2 p1 n1 w1 z1 HI
    rw [if_neg c15]
    by_cases c16 : (xs (1 + 6 * j) &&& 31) = 16
    · obtain ⟨M2, p1, n1, w1, z1, HI, e⟩ := lc_714 (k := f_L_law_L28 L xs (fu + 1)) H E
      rw [if_pos c16, e]
      exact K M2 p1 n1 w1 z1 HI
    rw [if_neg c16]
    by_cases c17 : (xs (1 + 6 * j) &&& 31) = 17
    · obtain ⟨M2, p1, n1, w1, z1, HI, e⟩ := lc_747 (k := f_L_law_L28 L xs (fu + 1)) H E
      rw [if_pos c17, e]
      exact K M2 p1 n1 w1 z1 HI
    rw [if_neg c17]
    by_cases c18 : (xs (1 + 6 * j) &&& 31) = 18
    · obtain ⟨M2, p1, n1, w1, z1, HI, e⟩ := lc_807 (k := f_L_law_L28 L xs (fu + 1)) H E
      rw [if_pos c18, e]
      exact K M2 p1 n1 w1 z1 HI
    rw [if_neg c18]
    by_cases c19 : (xs (1 + 6 * j) &&& 31) = 19
    · obtain ⟨M2, p1, n1, w1, z1, HI, e⟩ := lc_840 (k := f_L_law_L28 L xs (fu + 1)) H E
      rw [if_pos c19, e]
      exact K M2 p1 n1 w1 z1 HI
    rw [if_neg c19]
    by_cases c20 : (xs (1 + 6 * j) &&& 31) = 20
    · obtain ⟨M2, p1, n1, w1, z1, HI, e⟩ := lc_873 (k := f_L_law_L28 L xs (fu + 1)) H E
      rw [if_pos c20, e]
      exact K M2 p1 n1 w1 z1 HI
    rw [if_neg c20]
    by_cases c21 : (xs (1 + 6 * j) &&& 31) = 21
    · obtain ⟨M2, p1, n1, w1, z1, HI, e⟩ := lc_917 (k := f_L_law_L28 L xs (fu + 1)) H E
      rw [if_pos c21, e]
      exact K M2 p1 n1 w1 z1 HI
    rw [if_neg c21]
    by_cases c22 : (xs (1 + 6 * j) &&& 31) = 22
    · obtain ⟨M2, p1, n1, w1, z1, HI, e⟩ := lc_960 (k := f_L_law_L28 L xs (fu + 1)) H E
      rw [if_pos c22, e]
      exact K M2 p1 n1 w1 z1 HI
    rw [if_neg c22]
    by_cases c23 : (xs (1 + 6 * j) &&& 31) = 23
    · obtain ⟨M2, p1, n1, w1, z1, HI, e⟩ := lc_1003 (k := f_L_law_L28 L xs (fu + 1)) H E
      rw [if_pos c23, e]
      exact K M2 p1 n1 w1 z1 HI
    rw [if_neg c23]
    by_cases c24 : (xs (1 + 6 * j) &&& 31) = 24
    · obtain ⟨M2, p1, n1, w1, z1, HI, e⟩ := lc_1047 (k := f_L_law_L28 L xs (fu + 1)) H E
      rw [if_pos c24, e]
      exact K M2 p1 n1 w1 z1 HI
    rw [if_neg c24]
    by_cases c25 : (xs (1 + 6 * j) &&& 31) = 25
    · obtain ⟨M2, p1, n1, w1, z1, HI, e⟩ := lc_1110 (k := f_L_law_L28 L xs (fu + 1)) H E
      rw [if_pos c25, e]
      exact K M2 p1 n1 w1 z1 HI
    rw [if_neg c25]
    by_cases c26 : (xs (1 + 6 * j) &&& 31) = 26
    · obtain ⟨M2, p1, n1, w1, z1, HI, e⟩ := lc_1133 (k := f_L_law_L28 L xs (fu + 1)) H E
      rw [if_pos c26, e]
      exact K M2 p1 n1 w1 z1 HI
    rw [if_neg c26]
    by_cases c27 : (xs (1 + 6 * j) &&& 31) = 27
    · obtain ⟨M2, p1, n1, w1, z1, HI, e⟩ := lc_1156 (k := f_L_law_L28 L xs (fu + 1)) H E
      rw [if_pos c27, e]
      exact K M2 p1 n1 w1 z1 HI
    rw [if_neg c27]
    exact K M p n w z H
theorem law_true {L : Nat} {xs : Nat → Int32} {M : Mm} {X : Nat} (hL : L ≤ 3073) (h0 : M = ov M X T00) : ∃ M1, f_L_law L xs M = some (M1, 1) := by
  have hs : mS M = X := (congrArg mS h0).trans (Nat.add_zero X)
  obtain ⟨w, M1, T2, g1, s1, g2, HI, -⟩ := start h0 (f_L_cell L xs 0)
  unfold f_L_law
  rw [hs, g1, ob_eq, s1, g2, ob_eq]
  exact law_loop hL 999 _ 0 0 w _ 0 1 (by decide) HI (by omega) (by omega)
