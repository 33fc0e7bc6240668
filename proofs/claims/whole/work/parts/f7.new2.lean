/-! what a new object holds: book, law, the law's reader -/
section NEW2
variable {Z : rx_Z} {d : Nat} {h : Nat → Option rx_E} {ι : Nat → Nat → Int32} {w : Nat × Nat}
theorem nw_book {a s : Nat} (hz : Z.2.1 ≤ a) (e : h a = some (.inr (0, rx_df 0))) : ∃ h' ι', rz_f Z (d + 2) 0 [.ref a] (rz_mk h ι, (a + 1, s)) = some (.inl none, (rz_mk h' ι', (a + 3, s + 16))) ∧ oBk h' a ∧ (∀ q, q < 8 → ι' (a + 1) q = -1) ∧ ι' a 2 = 0 ∧ ∀ x, (x < a ∨ a + 3 ≤ x) → h' x = h x ∧ ι' x = ι x := by
  obtain ⟨p1, P1⟩ : ∃ y, y = rx_up h (a + 1) (.inl (0, 8, fun _ => .int 0)) := ⟨_, rfl⟩
  obtain ⟨q1, Q1⟩ : ∃ y, y = rz_hs p1 a 0 (.ref (a + 1)) := ⟨_, rfl⟩
  obtain ⟨j1, J1⟩ : ∃ y, y = rz_z ι (a + 1) := ⟨_, rfl⟩
  have ap1 : p1 a = some (.inr (0, [.null, .null, .int 0])) := by rw [P1, up_ne (by omega), e]; rfl
  have aq1 : q1 a = some (.inr (0, [.ref (a + 1), .null, .int 0])) := by rw [Q1, hs_s ap1]; rfl
  obtain ⟨p2, P2⟩ : ∃ y, y = rx_up q1 (a + 2) (.inl (0, 8, fun _ => .int 0)) := ⟨_, rfl⟩
  obtain ⟨q2, Q2⟩ : ∃ y, y = rz_hs p2 a 1 (.ref (a + 2)) := ⟨_, rfl⟩
  obtain ⟨j2, J2⟩ : ∃ y, y = rz_z j1 (a + 2) := ⟨_, rfl⟩
  have ap2 : p2 a = some (.inr (0, [.ref (a + 1), .null, .int 0])) := by rw [P2, up_ne (by omega), aq1]
  have aq2 : q2 a = some (.inr (0, [.ref (a + 1), .ref (a + 2), .int 0])) := by rw [Q2, hs_s ap2]; rfl
  have b1 : q2 (a + 1) = some (.inl (0, 8, fun _ => .int 0)) := by rw [Q2, hs_ne (by omega), P2, up_ne (by omega), Q1, hs_ne (by omega), P1]; exact rx_up_self _ _ _
  have b2 : q2 (a + 2) = some (.inl (0, 8, fun _ => .int 0)) := by rw [Q2, hs_ne (by omega), P2]; exact rx_up_self _ _ _
  have ok : oBk q2 a := ⟨aq2, b1, b2⟩
  obtain ⟨ι', z1, z2, z3, z4⟩ := bk_empty (Z := Z) (d := d) (ι := rz_up j2 a 2 0) (w := (a + 3, s + 16)) ok hz
  refine ⟨q2, ι', ?_, ok, z2, z3, fun x hx => ⟨by rw [Q2, hs_ne (by omega), P2, up_ne (by omega), Q1, hs_ne (by omega), P1, up_ne (by omega)], by rw [z4 x (by omega) (by omega), rz_up_n (by omega), J2, zz_ne (by omega), J1, zz_ne (by omega)]⟩⟩
  rw [e0]
  simp (decide := true) (maxDischargeDepth := 4) only [g0_0, g0_1, g0_4, g0_5, g0_7, g0_9, g0_12, g0_13, g0_15, g0_17, g0_20, g0_21, g0_22, g0_25, g0_26, g0_29, rz_k_inl, rz_k_inr, Option.toList_some, Option.toList_none, List.cons_append, List.nil_append, List.append_nil, rz_up_s, rz_u_s, rz_up_n, rz_u_n, ne_eq, not_false_eq_true, not_true_eq_false, Nat.add_assoc, Nat.reduceAdd, reduceIte, Nat.add_eq_left, Nat.left_eq_add, Nat.add_left_cancel_iff, Nat.reduceEqDiff, Nat.add_right_cancel_iff, rz_nb0, rz_nb1, rz_nbb, rz_nbi, rz_isr, rz_zle, if_true, if_false, rz_bi0, rz_bi1, Bool.not_eq_true, Bool.not_eq_false, Bool.true_eq_false, Bool.false_eq_true, rz_ix_lit, cl_lit, Nat.reduceLT, bi_t, bi_f, decide_true, decide_false, Bool.not_false, Bool.not_true, Bool.and_true, Bool.true_and, Bool.and_false, Bool.false_and, ← P1, ← Q1, ← P2, ← Q2, ← J1, ← J2, g0_9 (⟨_, _, ap1, rfl, rfl⟩ : rz_fR p1 a 0 0) isr_r hz, g0_17 (⟨_, _, ap2, rfl, rfl⟩ : rz_fR p2 a 0 1) isr_r hz, oBk_c ok, oBk_f0 ok, oBk_v0 ok, oBk_f1 ok, oBk_v1 ok, oBk_i2 ok, oBk_a1 ok, oBk_n1 ok, oBk_a2 ok, oBk_n2 ok, hz, z1]
theorem nw_law {a s : Nat} (hz : Z.2.1 ≤ a) (e : h a = some (.inr (5, rx_df 5))) (ho : olI Z h ι) : ∃ h' ι', rz_f Z (d + 2) 40 [.ref a] (rz_mk h ι, (a + 1, s)) = some (.inl none, (rz_mk h' ι', (a + 4, s + 179))) ∧ oLw h' a ∧ lwIs ι' a usL ∧ ∀ x, (x < a ∨ a + 4 ≤ x) → h' x = h x ∧ ι' x = ι x := by
  obtain ⟨p1, P1⟩ : ∃ y, y = rx_up h (a + 1) (.inl (0, 150, fun _ => .int 0)) := ⟨_, rfl⟩
  obtain ⟨q1, Q1⟩ : ∃ y, y = rz_hs p1 a 0 (.ref (a + 1)) := ⟨_, rfl⟩
  obtain ⟨j1, J1⟩ : ∃ y, y = rz_z ι (a + 1) := ⟨_, rfl⟩
  have ap1 : p1 a = some (.inr (5, [.null, .null, .null, .int 0])) := by rw [P1, up_ne (by omega), e]; rfl
  have aq1 : q1 a = some (.inr (5, [.ref (a + 1), .null, .null, .int 0])) := by rw [Q1, hs_s ap1]; rfl
  obtain ⟨p2, P2⟩ : ∃ y, y = rx_up q1 (a + 2) (.inl (0, 21, fun _ => .int 0)) := ⟨_, rfl⟩
  obtain ⟨q2, Q2⟩ : ∃ y, y = rz_hs p2 a 1 (.ref (a + 2)) := ⟨_, rfl⟩
  obtain ⟨j2, J2⟩ : ∃ y, y = rz_z j1 (a + 2) := ⟨_, rfl⟩
  have ap2 : p2 a = some (.inr (5, [.ref (a + 1), .null, .null, .int 0])) := by rw [P2, up_ne (by omega), aq1]
  have aq2 : q2 a = some (.inr (5, [.ref (a + 1), .ref (a + 2), .null, .int 0])) := by rw [Q2, hs_s ap2]; rfl
  obtain ⟨p3, P3'⟩ : ∃ y, y = rx_up q2 (a + 3) (.inl (0, 8, fun _ => .int 0)) := ⟨_, rfl⟩
  obtain ⟨q3, Q3⟩ : ∃ y, y = rz_hs p3 a 2 (.ref (a + 3)) := ⟨_, rfl⟩
  obtain ⟨j3, J3⟩ : ∃ y, y = rz_z j2 (a + 3) := ⟨_, rfl⟩
  have ap3 : p3 a = some (.inr (5, [.ref (a + 1), .ref (a + 2), .null, .int 0])) := by rw [P3', up_ne (by omega), aq2]
  have aq3 : q3 a = some (.inr (5, [.ref (a + 1), .ref (a + 2), .ref (a + 3), .int 0])) := by rw [Q3, hs_s ap3]; rfl
  have b1 : q3 (a + 1) = some (.inl (0, 150, fun _ => .int 0)) := by rw [Q3, hs_ne (by omega), P3', up_ne (by omega), Q2, hs_ne (by omega), P2, up_ne (by omega), Q1, hs_ne (by omega), P1]; exact rx_up_self _ _ _
  have b2 : q3 (a + 2) = some (.inl (0, 21, fun _ => .int 0)) := by rw [Q3, hs_ne (by omega), P3', up_ne (by omega), Q2, hs_ne (by omega), P2]; exact rx_up_self _ _ _
  have b3 : q3 (a + 3) = some (.inl (0, 8, fun _ => .int 0)) := by rw [Q3, hs_ne (by omega), P3']; exact rx_up_self _ _ _
  have ok : oLw q3 a := ⟨aq3, b1, b2, b3⟩
  have fr3 : ∀ x, (x < a ∨ a + 4 ≤ x) → q3 x = h x ∧ rz_up j3 a 3 0 x = ι x := fun x hx => ⟨by rw [Q3, hs_ne (by omega), P3', up_ne (by omega), Q2, hs_ne (by omega), P2, up_ne (by omega), Q1, hs_ne (by omega), P1, up_ne (by omega)], by rw [rz_up_n (by omega), J3, zz_ne (by omega), J2, zz_ne (by omega), J1, zz_ne (by omega)]⟩
  obtain ⟨ι', z1, z2, z3⟩ := lw_usual (Z := Z) (d := d) (ι := rz_up j3 a 3 0) (w := (a + 4, s + 179)) ok hz (ho.ag (fun x hx => fr3 x (by omega)))
  refine ⟨q3, ι', ?_, ok, z2, fun x hx => ⟨(fr3 x hx).1, (z3 x (by omega) (by omega)).trans (fr3 x hx).2⟩⟩
  rw [e40]
  simp (decide := true) (maxDischargeDepth := 4) only [g40_0, g40_1, g40_4, g40_5, g40_8, g40_10, g40_13, g40_14, g40_16, g40_18, g40_21, g40_22, g40_24, g40_26, g40_29, g40_30, g40_31, g40_34, g40_35, g40_38, rz_k_inl, rz_k_inr, Option.toList_some, Option.toList_none, List.cons_append, List.nil_append, List.append_nil, rz_up_s, rz_u_s, rz_up_n, rz_u_n, ne_eq, not_false_eq_true, not_true_eq_false, Nat.add_assoc, Nat.reduceAdd, reduceIte, Nat.add_eq_left, Nat.left_eq_add, Nat.add_left_cancel_iff, Nat.reduceEqDiff, Nat.add_right_cancel_iff, rz_nb0, rz_nb1, rz_nbb, rz_nbi, rz_isr, rz_zle, if_true, if_false, rz_bi0, rz_bi1, Bool.not_eq_true, Bool.not_eq_false, Bool.true_eq_false, Bool.false_eq_true, rz_ix_lit, cl_lit, Nat.reduceLT, bi_t, bi_f, decide_true, decide_false, Bool.not_false, Bool.not_true, Bool.and_true, Bool.true_and, Bool.and_false, Bool.false_and, ← P1, ← Q1, ← P2, ← Q2, ← P3', ← Q3, ← J1, ← J2, ← J3, g40_10 (⟨_, _, ap1, rfl, rfl⟩ : rz_fR p1 a 5 0) isr_r hz, g40_18 (⟨_, _, ap2, rfl, rfl⟩ : rz_fR p2 a 5 1) isr_r hz, g40_26 (⟨_, _, ap3, rfl, rfl⟩ : rz_fR p3 a 5 2) isr_r hz, oLw_c ok, oLw_f0 ok, oLw_v0 ok, oLw_f1 ok, oLw_v1 ok, oLw_f2 ok, oLw_v2 ok, oLw_i3 ok, oLw_a1 ok, oLw_n1 ok, oLw_a2 ok, oLw_n2 ok, oLw_a3 ok, oLw_n3 ok, hz, z1]
theorem nw_lawText {a s t : Nat} (hz : Z.2.1 ≤ a) (e : h a = some (.inr (6, rx_df 6))) (ho : olI Z h ι) : ∃ h' ι', rz_f Z (d + 3) 53 [.ref a, .ref t] (rz_mk h ι, (a + 1, s)) = some (.inl none, (rz_mk h' ι', (a + 5, s + 183))) ∧ oLt h' a t (a + 1) ∧ oLw h' (a + 1) ∧ ∀ x, (x < a ∨ a + 5 ≤ x) → h' x = h x ∧ ι' x = ι x := by
  obtain ⟨p1, P1⟩ : ∃ y, y = rx_up h (a + 1) (.inr (5, rx_df 5)) := ⟨_, rfl⟩
  obtain ⟨j1, J1⟩ : ∃ y, y = rz_z ι (a + 1) := ⟨_, rfl⟩
  obtain ⟨h2, ι2, z1, z2, -, z4⟩ := nw_law (Z := Z) (d := d) (h := p1) (ι := j1) (a := a + 1) (s := s + 4) (by omega) (by rw [P1]; exact rx_up_self _ _ _) (ho.ag (fun x hx => ⟨by rw [P1, up_ne (by omega)], by rw [J1, zz_ne (by omega)]⟩))
  have a2 : h2 a = some (.inr (6, [.null, .null])) := by rw [(z4 a (by omega)).1, P1, up_ne (by omega), e]; rfl
  obtain ⟨h3, Q3⟩ : ∃ y, y = rz_hs h2 a 1 (.ref (a + 1)) := ⟨_, rfl⟩
  have a3 : h3 a = some (.inr (6, [.null, .ref (a + 1)])) := by rw [Q3, hs_s a2]; rfl
  obtain ⟨h4, Q4⟩ : ∃ y, y = rz_hs h3 a 0 (.ref t) := ⟨_, rfl⟩
  have a4 : h4 a = some (.inr (6, [.ref t, .ref (a + 1)])) := by rw [Q4, hs_s a3]; rfl
  have hh : ∀ x, x ≠ a → h4 x = h2 x := fun x hx => by rw [Q4, hs_ne hx, Q3, hs_ne hx]
  have ok : oLw h4 (a + 1) := by
    obtain ⟨o1, o2, o3, o4⟩ := z2
    exact ⟨by rw [hh _ (by omega)]; exact o1, by rw [hh _ (by omega)]; exact o2, by rw [hh _ (by omega)]; exact o3, by rw [hh _ (by omega)]; exact o4⟩
  refine ⟨h4, ι2, ?_, a4, ok, fun x hx => ⟨by rw [hh x (by omega), (z4 x (by omega)).1, P1, up_ne (by omega)], by rw [(z4 x (by omega)).2, J1, zz_ne (by omega)]⟩⟩
  rw [e53]
  simp (decide := true) (maxDischargeDepth := 4) only [g53_0, g53_1, g53_4, g53_5, g53_8, g53_9, g53_12, g53_15, g53_16, g53_17, g53_20, rz_k_inl, rz_k_inr, Option.toList_some, Option.toList_none, List.cons_append, List.nil_append, List.append_nil, rz_up_s, rz_u_s, rz_up_n, rz_u_n, ne_eq, not_false_eq_true, not_true_eq_false, Nat.add_assoc, Nat.reduceAdd, reduceIte, Nat.add_eq_left, Nat.left_eq_add, Nat.add_left_cancel_iff, Nat.reduceEqDiff, Nat.add_right_cancel_iff, rz_nb0, rz_nb1, rz_nbb, rz_nbi, rz_isr, rz_zle, if_true, if_false, rz_bi0, rz_bi1, Bool.not_eq_true, Bool.not_eq_false, Bool.true_eq_false, Bool.false_eq_true, rz_ix_lit, cl_lit, Nat.reduceLT, bi_t, bi_f, decide_true, decide_false, Bool.not_false, Bool.not_true, Bool.and_true, Bool.true_and, Bool.and_false, Bool.false_and, ← P1, ← J1, z1, g53_12 (⟨_, _, a2, rfl, rfl⟩ : rz_fR h2 a 6 1) isr_r hz, ← Q3, g53_17 (⟨_, _, a3, rfl, rfl⟩ : rz_fR h3 a 6 0) isr_r hz, ← Q4, hz]
end NEW2
