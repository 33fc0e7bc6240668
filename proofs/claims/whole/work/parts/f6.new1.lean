/-! what a new object holds: the parts of the class -/
section NEW1
variable {Z : rx_Z} {d : Nat} {h : Nat → Option rx_E} {ι : Nat → Nat → Int32} {w : Nat × Nat}
theorem nw_tape {a s : Nat} (hz : Z.2.1 ≤ a) (e : h a = some (.inr (9, rx_df 9))) : ∃ h' ι', rz_f Z (d + 1) 87 [.ref a] (rz_mk h ι, (a + 1, s)) = some (.inl none, (rz_mk h' ι', (a + 2, s + 600))) ∧ oTp h' a ∧ ι' a 5 = 0 ∧ ι' a 6 = -1 ∧ ι' (a + 1) = (fun _ => 0) ∧ ∀ x, (x < a ∨ a + 2 ≤ x) → h' x = h x ∧ ι' x = ι x := by
  obtain ⟨p1, P1⟩ : ∃ y, y = rx_up h (a + 1) (.inl (0, 600, fun _ => .int 0)) := ⟨_, rfl⟩
  obtain ⟨q1, Q1⟩ : ∃ y, y = rz_hs p1 a 0 (.ref (a + 1)) := ⟨_, rfl⟩
  obtain ⟨j1, J1⟩ : ∃ y, y = rz_z ι (a + 1) := ⟨_, rfl⟩
  have ap1 : p1 a = some (.inr (9, [.null, .int 0, .int 0, .int 0, .int 0, .int 0, .int 0])) := by rw [P1, up_ne (by omega), e]; rfl
  have aq1 : q1 a = some (.inr (9, [.ref (a + 1), .int 0, .int 0, .int 0, .int 0, .int 0, .int 0])) := by rw [Q1, hs_s ap1]; rfl
  have b1 : q1 (a + 1) = some (.inl (0, 600, fun _ => .int 0)) := by rw [Q1, hs_ne (by omega), P1]; exact rx_up_self _ _ _
  have ok : oTp q1 a := ⟨aq1, b1⟩
  refine ⟨q1, rz_up (rz_up (rz_up (rz_up (rz_up (rz_up j1 a 1 0) a 2 0) a 3 0) a 4 0) a 5 0) a 6 (-1), ?_, ok, by rw [rz_up_s, rz_u_n (by omega), rz_up_s, rz_u_s], by rw [rz_up_s, rz_u_s], by rw [rz_up_n (by omega), rz_up_n (by omega), rz_up_n (by omega), rz_up_n (by omega), rz_up_n (by omega), rz_up_n (by omega), J1]; unfold rz_z; rw [if_pos rfl], fun x hx => ⟨by rw [Q1, hs_ne (by omega), P1, up_ne (by omega)], by rw [rz_up_n (by omega), rz_up_n (by omega), rz_up_n (by omega), rz_up_n (by omega), rz_up_n (by omega), rz_up_n (by omega), J1, zz_ne (by omega)]⟩⟩
  rw [e87]
  simp (decide := true) (maxDischargeDepth := 4) only [g87_0, g87_1, g87_4, g87_5, g87_8, g87_10, g87_13, g87_14, g87_15, g87_18, g87_19, g87_20, g87_23, g87_24, g87_25, g87_28, g87_29, g87_30, g87_33, g87_34, g87_35, g87_38, g87_39, g87_40, g87_43, rz_k_inl, rz_k_inr, Option.toList_some, Option.toList_none, List.cons_append, List.nil_append, List.append_nil, rz_up_s, rz_u_s, rz_up_n, rz_u_n, ne_eq, not_false_eq_true, not_true_eq_false, Nat.add_assoc, Nat.reduceAdd, reduceIte, Nat.add_eq_left, Nat.left_eq_add, Nat.add_left_cancel_iff, Nat.reduceEqDiff, Nat.add_right_cancel_iff, rz_nb0, rz_nb1, rz_nbb, rz_nbi, rz_isr, rz_zle, if_true, if_false, rz_bi0, rz_bi1, Bool.not_eq_true, Bool.not_eq_false, Bool.true_eq_false, Bool.false_eq_true, rz_ix_lit, cl_lit, Nat.reduceLT, bi_t, bi_f, decide_true, decide_false, Bool.not_false, Bool.not_true, Bool.and_true, Bool.true_and, Bool.and_false, Bool.false_and, ← P1, ← Q1, ← J1, g87_10 (⟨_, _, ap1, rfl, rfl⟩ : rz_fR p1 a 9 0) isr_r hz, (show rz_fI q1 a 9 1 from ⟨_, _, aq1, rfl⟩), (show rz_fI q1 a 9 2 from ⟨_, _, aq1, rfl⟩), (show rz_fI q1 a 9 3 from ⟨_, _, aq1, rfl⟩), (show rz_fI q1 a 9 4 from ⟨_, _, aq1, rfl⟩), (show rz_fI q1 a 9 5 from ⟨_, _, aq1, rfl⟩), (show rz_fI q1 a 9 6 from ⟨_, _, aq1, rfl⟩), hz, isr_r, Nat.add_zero]
theorem nw_court {a s : Nat} (hz : Z.2.1 ≤ a) (e : h a = some (.inr (2, rx_df 2))) : ∃ h' ι', rz_f Z (d + 1) 9 [.ref a] (rz_mk h ι, (a + 1, s)) = some (.inl none, (rz_mk h' ι', (a + 7, s + 2144))) ∧ oCt h' a ∧ ∀ x, (x < a ∨ a + 7 ≤ x) → h' x = h x ∧ ι' x = ι x := by
  obtain ⟨p1, P1⟩ : ∃ y, y = rx_up h (a + 1) (.inl (0, 64, fun _ => .int 0)) := ⟨_, rfl⟩
  obtain ⟨q1, Q1⟩ : ∃ y, y = rz_hs p1 a 0 (.ref (a + 1)) := ⟨_, rfl⟩
  obtain ⟨j1, J1⟩ : ∃ y, y = rz_z ι (a + 1) := ⟨_, rfl⟩
  have ap1 : p1 a = some (.inr (2, [.null, .null, .null, .null, .null, .null])) := by rw [P1, up_ne (by omega), e]; rfl
  have aq1 : q1 a = some (.inr (2, [.ref (a + 1), .null, .null, .null, .null, .null])) := by rw [Q1, hs_s ap1]; rfl
  obtain ⟨p2, P2⟩ : ∃ y, y = rx_up q1 (a + 2) (.inl (0, 2048, fun _ => .int 0)) := ⟨_, rfl⟩
  obtain ⟨q2, Q2⟩ : ∃ y, y = rz_hs p2 a 1 (.ref (a + 2)) := ⟨_, rfl⟩
  obtain ⟨j2, J2⟩ : ∃ y, y = rz_z j1 (a + 2) := ⟨_, rfl⟩
  have ap2 : p2 a = some (.inr (2, [.ref (a + 1), .null, .null, .null, .null, .null])) := by rw [P2, up_ne (by omega), aq1]
  have aq2 : q2 a = some (.inr (2, [.ref (a + 1), .ref (a + 2), .null, .null, .null, .null])) := by rw [Q2, hs_s ap2]; rfl
  obtain ⟨p3, P3⟩ : ∃ y, y = rx_up q2 (a + 3) (.inl (0, 8, fun _ => .int 0)) := ⟨_, rfl⟩
  obtain ⟨q3, Q3⟩ : ∃ y, y = rz_hs p3 a 2 (.ref (a + 3)) := ⟨_, rfl⟩
  obtain ⟨j3, J3⟩ : ∃ y, y = rz_z j2 (a + 3) := ⟨_, rfl⟩
  have ap3 : p3 a = some (.inr (2, [.ref (a + 1), .ref (a + 2), .null, .null, .null, .null])) := by rw [P3, up_ne (by omega), aq2]
  have aq3 : q3 a = some (.inr (2, [.ref (a + 1), .ref (a + 2), .ref (a + 3), .null, .null, .null])) := by rw [Q3, hs_s ap3]; rfl
  obtain ⟨p4, P4⟩ : ∃ y, y = rx_up q3 (a + 4) (.inl (0, 8, fun _ => .int 0)) := ⟨_, rfl⟩
  obtain ⟨q4, Q4⟩ : ∃ y, y = rz_hs p4 a 3 (.ref (a + 4)) := ⟨_, rfl⟩
  obtain ⟨j4, J4⟩ : ∃ y, y = rz_z j3 (a + 4) := ⟨_, rfl⟩
  have ap4 : p4 a = some (.inr (2, [.ref (a + 1), .ref (a + 2), .ref (a + 3), .null, .null, .null])) := by rw [P4, up_ne (by omega), aq3]
  have aq4 : q4 a = some (.inr (2, [.ref (a + 1), .ref (a + 2), .ref (a + 3), .ref (a + 4), .null, .null])) := by rw [Q4, hs_s ap4]; rfl
  obtain ⟨p5, P5⟩ : ∃ y, y = rx_up q4 (a + 5) (.inl (0, 8, fun _ => .int 0)) := ⟨_, rfl⟩
  obtain ⟨q5, Q5⟩ : ∃ y, y = rz_hs p5 a 4 (.ref (a + 5)) := ⟨_, rfl⟩
  obtain ⟨j5, J5⟩ : ∃ y, y = rz_z j4 (a + 5) := ⟨_, rfl⟩
  have ap5 : p5 a = some (.inr (2, [.ref (a + 1), .ref (a + 2), .ref (a + 3), .ref (a + 4), .null, .null])) := by rw [P5, up_ne (by omega), aq4]
  have aq5 : q5 a = some (.inr (2, [.ref (a + 1), .ref (a + 2), .ref (a + 3), .ref (a + 4), .ref (a + 5), .null])) := by rw [Q5, hs_s ap5]; rfl
  obtain ⟨p6, P6⟩ : ∃ y, y = rx_up q5 (a + 6) (.inl (0, 8, fun _ => .int 0)) := ⟨_, rfl⟩
  obtain ⟨q6, Q6⟩ : ∃ y, y = rz_hs p6 a 5 (.ref (a + 6)) := ⟨_, rfl⟩
  obtain ⟨j6, J6⟩ : ∃ y, y = rz_z j5 (a + 6) := ⟨_, rfl⟩
  have ap6 : p6 a = some (.inr (2, [.ref (a + 1), .ref (a + 2), .ref (a + 3), .ref (a + 4), .ref (a + 5), .null])) := by rw [P6, up_ne (by omega), aq5]
  have aq6 : q6 a = some (.inr (2, [.ref (a + 1), .ref (a + 2), .ref (a + 3), .ref (a + 4), .ref (a + 5), .ref (a + 6)])) := by rw [Q6, hs_s ap6]; rfl
  have b1 : q6 (a + 1) = some (.inl (0, 64, fun _ => .int 0)) := by rw [Q6, hs_ne (by omega), P6, up_ne (by omega), Q5, hs_ne (by omega), P5, up_ne (by omega), Q4, hs_ne (by omega), P4, up_ne (by omega), Q3, hs_ne (by omega), P3, up_ne (by omega), Q2, hs_ne (by omega), P2, up_ne (by omega), Q1, hs_ne (by omega), P1]; exact rx_up_self _ _ _
  have b2 : q6 (a + 2) = some (.inl (0, 2048, fun _ => .int 0)) := by rw [Q6, hs_ne (by omega), P6, up_ne (by omega), Q5, hs_ne (by omega), P5, up_ne (by omega), Q4, hs_ne (by omega), P4, up_ne (by omega), Q3, hs_ne (by omega), P3, up_ne (by omega), Q2, hs_ne (by omega), P2]; exact rx_up_self _ _ _
  have b3 : q6 (a + 3) = some (.inl (0, 8, fun _ => .int 0)) := by rw [Q6, hs_ne (by omega), P6, up_ne (by omega), Q5, hs_ne (by omega), P5, up_ne (by omega), Q4, hs_ne (by omega), P4, up_ne (by omega), Q3, hs_ne (by omega), P3]; exact rx_up_self _ _ _
  have b4 : q6 (a + 4) = some (.inl (0, 8, fun _ => .int 0)) := by rw [Q6, hs_ne (by omega), P6, up_ne (by omega), Q5, hs_ne (by omega), P5, up_ne (by omega), Q4, hs_ne (by omega), P4]; exact rx_up_self _ _ _
  have b5 : q6 (a + 5) = some (.inl (0, 8, fun _ => .int 0)) := by rw [Q6, hs_ne (by omega), P6, up_ne (by omega), Q5, hs_ne (by omega), P5]; exact rx_up_self _ _ _
  have b6 : q6 (a + 6) = some (.inl (0, 8, fun _ => .int 0)) := by rw [Q6, hs_ne (by omega), P6]; exact rx_up_self _ _ _
  have ok : oCt q6 a := ⟨aq6, b1, b2, b3, b4, b5, b6⟩
  refine ⟨q6, j6, ?_, ok, fun x hx => ⟨by rw [Q6, hs_ne (by omega), P6, up_ne (by omega), Q5, hs_ne (by omega), P5, up_ne (by omega), Q4, hs_ne (by omega), P4, up_ne (by omega), Q3, hs_ne (by omega), P3, up_ne (by omega), Q2, hs_ne (by omega), P2, up_ne (by omega), Q1, hs_ne (by omega), P1, up_ne (by omega)], by rw [J6, zz_ne (by omega), J5, zz_ne (by omega), J4, zz_ne (by omega), J3, zz_ne (by omega), J2, zz_ne (by omega), J1, zz_ne (by omega)]⟩⟩
  rw [e9]
  simp (decide := true) (maxDischargeDepth := 4) only [g9_0, g9_1, g9_4, g9_5, g9_7, g9_9, g9_12, g9_13, g9_16, g9_18, g9_21, g9_22, g9_24, g9_26, g9_29, g9_30, g9_32, g9_34, g9_37, g9_38, g9_40, g9_42, g9_45, g9_46, g9_48, g9_50, g9_53, rz_k_inl, rz_k_inr, Option.toList_some, Option.toList_none, List.cons_append, List.nil_append, List.append_nil, rz_up_s, rz_u_s, rz_up_n, rz_u_n, ne_eq, not_false_eq_true, not_true_eq_false, Nat.add_assoc, Nat.reduceAdd, reduceIte, Nat.add_eq_left, Nat.left_eq_add, Nat.add_left_cancel_iff, Nat.reduceEqDiff, Nat.add_right_cancel_iff, rz_nb0, rz_nb1, rz_nbb, rz_nbi, rz_isr, rz_zle, if_true, if_false, rz_bi0, rz_bi1, Bool.not_eq_true, Bool.not_eq_false, Bool.true_eq_false, Bool.false_eq_true, rz_ix_lit, cl_lit, Nat.reduceLT, bi_t, bi_f, decide_true, decide_false, Bool.not_false, Bool.not_true, Bool.and_true, Bool.true_and, Bool.and_false, Bool.false_and, ← P1, ← Q1, ← P2, ← Q2, ← P3, ← Q3, ← P4, ← Q4, ← P5, ← Q5, ← P6, ← Q6, ← J1, ← J2, ← J3, ← J4, ← J5, ← J6, g9_9 (⟨_, _, ap1, rfl, rfl⟩ : rz_fR p1 a 2 0) isr_r hz, g9_18 (⟨_, _, ap2, rfl, rfl⟩ : rz_fR p2 a 2 1) isr_r hz, g9_26 (⟨_, _, ap3, rfl, rfl⟩ : rz_fR p3 a 2 2) isr_r hz, g9_34 (⟨_, _, ap4, rfl, rfl⟩ : rz_fR p4 a 2 3) isr_r hz, g9_42 (⟨_, _, ap5, rfl, rfl⟩ : rz_fR p5 a 2 4) isr_r hz, g9_50 (⟨_, _, ap6, rfl, rfl⟩ : rz_fR p6 a 2 5) isr_r hz, hz, isr_r, Nat.add_zero]
theorem nw_guess {a s : Nat} (hz : Z.2.1 ≤ a) (e : h a = some (.inr (4, rx_df 4))) : ∃ h' ι', rz_f Z (d + 1) 28 [.ref a] (rz_mk h ι, (a + 1, s)) = some (.inl none, (rz_mk h' ι', (a + 4, s + 1130))) ∧ oGs h' a ∧ ∀ x, (x < a ∨ a + 4 ≤ x) → h' x = h x ∧ ι' x = ι x := by
  obtain ⟨p1, P1⟩ : ∃ y, y = rx_up h (a + 1) (.inl (0, 100, fun _ => .int 0)) := ⟨_, rfl⟩
  obtain ⟨q1, Q1⟩ : ∃ y, y = rz_hs p1 a 0 (.ref (a + 1)) := ⟨_, rfl⟩
  obtain ⟨j1, J1⟩ : ∃ y, y = rz_z ι (a + 1) := ⟨_, rfl⟩
  have ap1 : p1 a = some (.inr (4, [.null, .null, .null, .int 0, .int 0, .int 0])) := by rw [P1, up_ne (by omega), e]; rfl
  have aq1 : q1 a = some (.inr (4, [.ref (a + 1), .null, .null, .int 0, .int 0, .int 0])) := by rw [Q1, hs_s ap1]; rfl
  obtain ⟨p2, P2⟩ : ∃ y, y = rx_up q1 (a + 2) (.inl (0, 30, fun _ => .int 0)) := ⟨_, rfl⟩
  obtain ⟨q2, Q2⟩ : ∃ y, y = rz_hs p2 a 1 (.ref (a + 2)) := ⟨_, rfl⟩
  obtain ⟨j2, J2⟩ : ∃ y, y = rz_z j1 (a + 2) := ⟨_, rfl⟩
  have ap2 : p2 a = some (.inr (4, [.ref (a + 1), .null, .null, .int 0, .int 0, .int 0])) := by rw [P2, up_ne (by omega), aq1]
  have aq2 : q2 a = some (.inr (4, [.ref (a + 1), .ref (a + 2), .null, .int 0, .int 0, .int 0])) := by rw [Q2, hs_s ap2]; rfl
  obtain ⟨p3, P3⟩ : ∃ y, y = rx_up q2 (a + 3) (.inl (0, 1000, fun _ => .int 0)) := ⟨_, rfl⟩
  obtain ⟨q3, Q3⟩ : ∃ y, y = rz_hs p3 a 2 (.ref (a + 3)) := ⟨_, rfl⟩
  obtain ⟨j3, J3⟩ : ∃ y, y = rz_z j2 (a + 3) := ⟨_, rfl⟩
  have ap3 : p3 a = some (.inr (4, [.ref (a + 1), .ref (a + 2), .null, .int 0, .int 0, .int 0])) := by rw [P3, up_ne (by omega), aq2]
  have aq3 : q3 a = some (.inr (4, [.ref (a + 1), .ref (a + 2), .ref (a + 3), .int 0, .int 0, .int 0])) := by rw [Q3, hs_s ap3]; rfl
  have b1 : q3 (a + 1) = some (.inl (0, 100, fun _ => .int 0)) := by rw [Q3, hs_ne (by omega), P3, up_ne (by omega), Q2, hs_ne (by omega), P2, up_ne (by omega), Q1, hs_ne (by omega), P1]; exact rx_up_self _ _ _
  have b2 : q3 (a + 2) = some (.inl (0, 30, fun _ => .int 0)) := by rw [Q3, hs_ne (by omega), P3, up_ne (by omega), Q2, hs_ne (by omega), P2]; exact rx_up_self _ _ _
  have b3 : q3 (a + 3) = some (.inl (0, 1000, fun _ => .int 0)) := by rw [Q3, hs_ne (by omega), P3]; exact rx_up_self _ _ _
  have ok : oGs q3 a := ⟨aq3, b1, b2, b3⟩
  refine ⟨q3, rz_up (rz_up (rz_up j3 a 3 0) a 4 (-1)) a 5 (-1), ?_, ok, fun x hx => ⟨by rw [Q3, hs_ne (by omega), P3, up_ne (by omega), Q2, hs_ne (by omega), P2, up_ne (by omega), Q1, hs_ne (by omega), P1, up_ne (by omega)], by rw [rz_up_n (by omega), rz_up_n (by omega), rz_up_n (by omega), J3, zz_ne (by omega), J2, zz_ne (by omega), J1, zz_ne (by omega)]⟩⟩
  rw [e28]
  simp (decide := true) (maxDischargeDepth := 4) only [g28_0, g28_1, g28_4, g28_5, g28_7, g28_9, g28_12, g28_13, g28_15, g28_17, g28_20, g28_21, g28_24, g28_26, g28_29, g28_30, g28_31, g28_34, g28_35, g28_36, g28_39, g28_40, g28_41, g28_44, rz_k_inl, rz_k_inr, Option.toList_some, Option.toList_none, List.cons_append, List.nil_append, List.append_nil, rz_up_s, rz_u_s, rz_up_n, rz_u_n, ne_eq, not_false_eq_true, not_true_eq_false, Nat.add_assoc, Nat.reduceAdd, reduceIte, Nat.add_eq_left, Nat.left_eq_add, Nat.add_left_cancel_iff, Nat.reduceEqDiff, Nat.add_right_cancel_iff, rz_nb0, rz_nb1, rz_nbb, rz_nbi, rz_isr, rz_zle, if_true, if_false, rz_bi0, rz_bi1, Bool.not_eq_true, Bool.not_eq_false, Bool.true_eq_false, Bool.false_eq_true, rz_ix_lit, cl_lit, Nat.reduceLT, bi_t, bi_f, decide_true, decide_false, Bool.not_false, Bool.not_true, Bool.and_true, Bool.true_and, Bool.and_false, Bool.false_and, ← P1, ← Q1, ← P2, ← Q2, ← P3, ← Q3, ← J1, ← J2, ← J3, g28_9 (⟨_, _, ap1, rfl, rfl⟩ : rz_fR p1 a 4 0) isr_r hz, g28_17 (⟨_, _, ap2, rfl, rfl⟩ : rz_fR p2 a 4 1) isr_r hz, g28_26 (⟨_, _, ap3, rfl, rfl⟩ : rz_fR p3 a 4 2) isr_r hz, (show rz_fI q3 a 4 3 from ⟨_, _, aq3, rfl⟩), (show rz_fI q3 a 4 4 from ⟨_, _, aq3, rfl⟩), (show rz_fI q3 a 4 5 from ⟨_, _, aq3, rfl⟩), hz, isr_r, Nat.add_zero]
theorem nw_chron {a s : Nat} (hz : Z.2.1 ≤ a) (e : h a = some (.inr (1, rx_df 1))) : ∃ h' ι', rz_f Z (d + 1) 6 [.ref a] (rz_mk h ι, (a + 1, s)) = some (.inl none, (rz_mk h' ι', (a + 1, s + 0))) ∧ oCh h' a ∧ ∀ x, (x < a ∨ a + 1 ≤ x) → h' x = h x ∧ ι' x = ι x := by
  have e' : h a = some (.inr (1, [.int 0])) := by rw [e]; rfl
  have ok : oCh h a := e'
  refine ⟨h, rz_up ι a 0 0, ?_, ok, fun x hx => ⟨rfl, by rw [rz_up_n (by omega)]⟩⟩
  rw [e6]
  simp (decide := true) (maxDischargeDepth := 4) only [g6_0, g6_1, g6_4, g6_5, g6_6, g6_9, rz_k_inl, rz_k_inr, Option.toList_some, Option.toList_none, List.cons_append, List.nil_append, List.append_nil, rz_up_s, rz_u_s, rz_up_n, rz_u_n, ne_eq, not_false_eq_true, not_true_eq_false, Nat.add_assoc, Nat.reduceAdd, reduceIte, Nat.add_eq_left, Nat.left_eq_add, Nat.add_left_cancel_iff, Nat.reduceEqDiff, Nat.add_right_cancel_iff, rz_nb0, rz_nb1, rz_nbb, rz_nbi, rz_isr, rz_zle, if_true, if_false, rz_bi0, rz_bi1, Bool.not_eq_true, Bool.not_eq_false, Bool.true_eq_false, Bool.false_eq_true, rz_ix_lit, cl_lit, Nat.reduceLT, bi_t, bi_f, decide_true, decide_false, Bool.not_false, Bool.not_true, Bool.and_true, Bool.true_and, Bool.and_false, Bool.false_and, (show rz_fI h a 1 0 from ⟨_, _, e', rfl⟩), hz, isr_r, Nat.add_zero]
theorem nw_duk {a s t : Nat} (hz : Z.2.1 ≤ a) (e : h a = some (.inr (3, rx_df 3))) : ∃ h' ι', rz_f Z (d + 1) 21 [.ref a, .ref t] (rz_mk h ι, (a + 1, s)) = some (.inl none, (rz_mk h' ι', (a + 1, s + 0))) ∧ oDk h' a t ∧ ∀ x, (x < a ∨ a + 1 ≤ x) → h' x = h x ∧ ι' x = ι x := by
  obtain ⟨qt, Qt⟩ : ∃ y, y = rz_hs h a 0 (.ref t) := ⟨_, rfl⟩
  have e' : h a = some (.inr (3, [.null, .int 0, .int 0, .int 0])) := by rw [e]; rfl
  have aqt : qt a = some (.inr (3, [.ref t, .int 0, .int 0, .int 0])) := by rw [Qt, hs_s e']; rfl
  have ok : oDk qt a t := aqt
  refine ⟨qt, rz_up (rz_up (rz_up ι a 1 0) a 2 0) a 3 10, ?_, ok, fun x hx => ⟨by rw [Qt, hs_ne (by omega)], by rw [rz_up_n (by omega), rz_up_n (by omega), rz_up_n (by omega)]⟩⟩
  rw [e21]
  simp (decide := true) (maxDischargeDepth := 4) only [g21_0, g21_1, g21_4, g21_5, g21_6, g21_9, g21_10, g21_11, g21_14, g21_15, g21_17, g21_20, g21_21, g21_22, g21_25, rz_k_inl, rz_k_inr, Option.toList_some, Option.toList_none, List.cons_append, List.nil_append, List.append_nil, rz_up_s, rz_u_s, rz_up_n, rz_u_n, ne_eq, not_false_eq_true, not_true_eq_false, Nat.add_assoc, Nat.reduceAdd, reduceIte, Nat.add_eq_left, Nat.left_eq_add, Nat.add_left_cancel_iff, Nat.reduceEqDiff, Nat.add_right_cancel_iff, rz_nb0, rz_nb1, rz_nbb, rz_nbi, rz_isr, rz_zle, if_true, if_false, rz_bi0, rz_bi1, Bool.not_eq_true, Bool.not_eq_false, Bool.true_eq_false, Bool.false_eq_true, rz_ix_lit, cl_lit, Nat.reduceLT, bi_t, bi_f, decide_true, decide_false, Bool.not_false, Bool.not_true, Bool.and_true, Bool.true_and, Bool.and_false, Bool.false_and, ← Qt, (show rz_fI h a 3 1 from ⟨_, _, e', rfl⟩), (show rz_fI h a 3 2 from ⟨_, _, e', rfl⟩), (show rz_fI h a 3 3 from ⟨_, _, e', rfl⟩), g21_22 (⟨_, _, e', rfl, rfl⟩ : rz_fR h a 3 0) isr_r hz, hz, isr_r, Nat.add_zero]
theorem nw_work {a s t : Nat} (hz : Z.2.1 ≤ a) (e : h a = some (.inr (10, rx_df 10))) : ∃ h' ι', rz_f Z (d + 1) 102 [.ref a, .ref t] (rz_mk h ι, (a + 1, s)) = some (.inl none, (rz_mk h' ι', (a + 4, s + 160))) ∧ oWt h' a t ∧ ∀ x, (x < a ∨ a + 4 ≤ x) → h' x = h x ∧ ι' x = ι x := by
  obtain ⟨p1, P1⟩ : ∃ y, y = rx_up h (a + 1) (.inl (0, 148, fun _ => .int 0)) := ⟨_, rfl⟩
  obtain ⟨q1, Q1⟩ : ∃ y, y = rz_hs p1 a 1 (.ref (a + 1)) := ⟨_, rfl⟩
  obtain ⟨j1, J1⟩ : ∃ y, y = rz_z ι (a + 1) := ⟨_, rfl⟩
  have ap1 : p1 a = some (.inr (10, [.null, .null, .null, .null, .int 0, .int 0, .int 0, .int 0, .int 0])) := by rw [P1, up_ne (by omega), e]; rfl
  have aq1 : q1 a = some (.inr (10, [.null, .ref (a + 1), .null, .null, .int 0, .int 0, .int 0, .int 0, .int 0])) := by rw [Q1, hs_s ap1]; rfl
  obtain ⟨p2, P2⟩ : ∃ y, y = rx_up q1 (a + 2) (.inl (0, 6, fun _ => .int 0)) := ⟨_, rfl⟩
  obtain ⟨q2, Q2⟩ : ∃ y, y = rz_hs p2 a 2 (.ref (a + 2)) := ⟨_, rfl⟩
  obtain ⟨j2, J2⟩ : ∃ y, y = rz_z j1 (a + 2) := ⟨_, rfl⟩
  have ap2 : p2 a = some (.inr (10, [.null, .ref (a + 1), .null, .null, .int 0, .int 0, .int 0, .int 0, .int 0])) := by rw [P2, up_ne (by omega), aq1]
  have aq2 : q2 a = some (.inr (10, [.null, .ref (a + 1), .ref (a + 2), .null, .int 0, .int 0, .int 0, .int 0, .int 0])) := by rw [Q2, hs_s ap2]; rfl
  obtain ⟨p3, P3⟩ : ∃ y, y = rx_up q2 (a + 3) (.inl (0, 6, fun _ => .int 0)) := ⟨_, rfl⟩
  obtain ⟨q3, Q3⟩ : ∃ y, y = rz_hs p3 a 3 (.ref (a + 3)) := ⟨_, rfl⟩
  obtain ⟨j3, J3⟩ : ∃ y, y = rz_z j2 (a + 3) := ⟨_, rfl⟩
  have ap3 : p3 a = some (.inr (10, [.null, .ref (a + 1), .ref (a + 2), .null, .int 0, .int 0, .int 0, .int 0, .int 0])) := by rw [P3, up_ne (by omega), aq2]
  have aq3 : q3 a = some (.inr (10, [.null, .ref (a + 1), .ref (a + 2), .ref (a + 3), .int 0, .int 0, .int 0, .int 0, .int 0])) := by rw [Q3, hs_s ap3]; rfl
  obtain ⟨qt, Qt⟩ : ∃ y, y = rz_hs q3 a 0 (.ref t) := ⟨_, rfl⟩
  have aqt : qt a = some (.inr (10, [.ref t, .ref (a + 1), .ref (a + 2), .ref (a + 3), .int 0, .int 0, .int 0, .int 0, .int 0])) := by rw [Qt, hs_s aq3]; rfl
  have b1 : qt (a + 1) = some (.inl (0, 148, fun _ => .int 0)) := by rw [Qt, hs_ne (by omega), Q3, hs_ne (by omega), P3, up_ne (by omega), Q2, hs_ne (by omega), P2, up_ne (by omega), Q1, hs_ne (by omega), P1]; exact rx_up_self _ _ _
  have b2 : qt (a + 2) = some (.inl (0, 6, fun _ => .int 0)) := by rw [Qt, hs_ne (by omega), Q3, hs_ne (by omega), P3, up_ne (by omega), Q2, hs_ne (by omega), P2]; exact rx_up_self _ _ _
  have b3 : qt (a + 3) = some (.inl (0, 6, fun _ => .int 0)) := by rw [Qt, hs_ne (by omega), Q3, hs_ne (by omega), P3]; exact rx_up_self _ _ _
  have ok : oWt qt a t := ⟨aqt, b1, b2, b3⟩
  refine ⟨qt, rz_up (rz_up (rz_up (rz_up (rz_up j3 a 4 0) a 5 0) a 6 0) a 7 0) a 8 0, ?_, ok, fun x hx => ⟨by rw [Qt, hs_ne (by omega), Q3, hs_ne (by omega), P3, up_ne (by omega), Q2, hs_ne (by omega), P2, up_ne (by omega), Q1, hs_ne (by omega), P1, up_ne (by omega)], by rw [rz_up_n (by omega), rz_up_n (by omega), rz_up_n (by omega), rz_up_n (by omega), rz_up_n (by omega), J3, zz_ne (by omega), J2, zz_ne (by omega), J1, zz_ne (by omega)]⟩⟩
  rw [e102]
  simp (decide := true) (maxDischargeDepth := 4) only [g102_0, g102_1, g102_4, g102_5, g102_8, g102_10, g102_13, g102_14, g102_16, g102_18, g102_21, g102_22, g102_24, g102_26, g102_29, g102_30, g102_31, g102_34, g102_35, g102_36, g102_39, g102_40, g102_41, g102_44, g102_45, g102_46, g102_49, g102_50, g102_51, g102_54, g102_55, g102_56, g102_59, rz_k_inl, rz_k_inr, Option.toList_some, Option.toList_none, List.cons_append, List.nil_append, List.append_nil, rz_up_s, rz_u_s, rz_up_n, rz_u_n, ne_eq, not_false_eq_true, not_true_eq_false, Nat.add_assoc, Nat.reduceAdd, reduceIte, Nat.add_eq_left, Nat.left_eq_add, Nat.add_left_cancel_iff, Nat.reduceEqDiff, Nat.add_right_cancel_iff, rz_nb0, rz_nb1, rz_nbb, rz_nbi, rz_isr, rz_zle, if_true, if_false, rz_bi0, rz_bi1, Bool.not_eq_true, Bool.not_eq_false, Bool.true_eq_false, Bool.false_eq_true, rz_ix_lit, cl_lit, Nat.reduceLT, bi_t, bi_f, decide_true, decide_false, Bool.not_false, Bool.not_true, Bool.and_true, Bool.true_and, Bool.and_false, Bool.false_and, ← P1, ← Q1, ← P2, ← Q2, ← P3, ← Q3, ← Qt, ← J1, ← J2, ← J3, g102_10 (⟨_, _, ap1, rfl, rfl⟩ : rz_fR p1 a 10 1) isr_r hz, g102_18 (⟨_, _, ap2, rfl, rfl⟩ : rz_fR p2 a 10 2) isr_r hz, g102_26 (⟨_, _, ap3, rfl, rfl⟩ : rz_fR p3 a 10 3) isr_r hz, (show rz_fI q3 a 10 4 from ⟨_, _, aq3, rfl⟩), (show rz_fI q3 a 10 5 from ⟨_, _, aq3, rfl⟩), (show rz_fI q3 a 10 6 from ⟨_, _, aq3, rfl⟩), (show rz_fI q3 a 10 7 from ⟨_, _, aq3, rfl⟩), (show rz_fI q3 a 10 8 from ⟨_, _, aq3, rfl⟩), g102_56 (⟨_, _, aq3, rfl, rfl⟩ : rz_fR q3 a 10 0) isr_r hz, hz, isr_r, Nat.add_zero]
end NEW1
