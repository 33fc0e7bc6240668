/-! the reference: after -/
theorem ddk_62 {C : List (Nat × Nat)} {R : Nat → Int32} {m i : Nat} (hi : 62 ≤ i) : ddk C R m i = R i := by
  unfold ddk
  split
  · rfl
  · unfold burR
    split
    · split
      · show crnR (kilR R _) _ i = R i
        unfold crnR kilR
        rw [rz_u_n (by omega), rz_u_n (by omega), rz_u_n (by omega), rz_u_n (by omega)]
      · show kilR R _ i = R i
        unfold kilR
        rw [rz_u_n (by omega)]
    · rfl
theorem ddN_62 {C : List (Nat × Nat)} {R : Nat → Int32} {m i : Nat} (hi : 62 ≤ i) : ∀ n, ddN C R m n i = R i
  | 0 => rfl
  | n + 1 => (ddk_62 hi).trans (ddN_62 hi n)
theorem ddN_stay {C : List (Nat × Nat)} {R : Nat → Int32} {m n : Nat} (h : ddN C R m n 58 = -1) : ∀ j, ddN C R m (n + j) = ddN C R m n
  | 0 => rfl
  | j + 1 => by
    have ih := ddN_stay h j
    show ddk C (ddN C R m (n + j)) m = _
    rw [ih]
    unfold ddk
    rw [if_pos h]
section REF15
variable {Z : rx_Z} {d : Nat} {h : Nat → Option rx_E} {ι : Nat → Nat → Int32} {w : Nat × Nat} {b m lv : Nat} {C : List (Nat × Nat)} {R : Nat → Int32} {dk : Option Nat}
theorem mo_after (q : QM Z h ι b C R m dk lv) (tr : trM ι b) {n : Nat} (hn : n ≤ 8) (hnx : inB (nI n) 8 = true) : ansM Z (d + 11) h ι w b 242 [.int (nI n)] (ddN (efL C) R m n 58) := by
  obtain ⟨ι0, e0, q0, f0, t0⟩ := mpre q
  obtain ⟨b1, b2, b3, b4⟩ := mbad (Z := Z) (d := d + 9) (w := w) q e0 t0
  have hm8 := q.2.2.2.2.2.1
  have hz := q.1
  have tr0 := tr.fr f0
  have hnx : (!decide (nI n < 0) && !decide ((8 : Int32) < nI n)) = true := hnx
  obtain ⟨cp, cf⟩ := md_trial (Z := Z) (d := d + 9) (w := w) q0 tr0
  have ht := oMd.tri q.2.1
  have h0 : ∀ i, 62 ≤ i → R i = 0 := q.2.2.2.2.2.2.2.2.2.2.2.2.2.1
  have cn : (nI n < nI n) = False := by rw [nI_lt2 (by omega) (by omega)]; simp
  have H : ∀ (k i : Nat) (ι1 : Nat → Nat → Int32), i + k = n → frM b ι ι1 → ι1 b 0 = 0 → ι1 (b + 447) = ddN (efL C) R m i → ∃ ι2, rg Z (d + 10) rx_m242 44 [some (.ref b), some (.int (nI n)), some (.int (nI i))] [] (rz_mk h ι1, w) = some (.inl (some (.int (ddN (efL C) R m n 58))), (rz_mk h ι2, w)) ∧ frM b ι ι2 ∧ ι2 b 0 = 0 := by
    intro k
    induction k with
    | zero =>
      intro i ι1 hi hf hq hw
      have : i = n := by omega
      subst this
      refine ⟨ι1, ?_, hf, hq⟩
      rw [g242_44]
      simp (decide := true) (maxDischargeDepth := 4) only [g242_0, g242_1, g242_2, g242_5, g242_6, g242_7, g242_8, g242_10, g242_13, g242_16, g242_17, g242_20, g242_21, g242_22, g242_23, g242_26, g242_29, g242_30, g242_31, g242_32, g242_35, g242_36, g242_39, g242_42, g242_43, g242_45, g242_46, g242_49, g242_50, g242_53, g242_55, g242_56, g242_57, g242_60, g242_61, g242_62, g242_65, g242_66, g242_69, g242_71, g242_72, g242_75, g242_76, g242_79, g242_82, g242_83, g242_86, g242_88, g242_89, rz_k_inl, rz_k_inr, Option.toList_some, Option.toList_none, List.cons_append, List.nil_append, List.append_nil, rz_up_s, rz_u_s, rz_up_n, rz_u_n, ne_eq, not_false_eq_true, not_true_eq_false, Nat.add_assoc, Nat.reduceAdd, reduceIte, Nat.add_eq_left, Nat.left_eq_add, Nat.add_left_cancel_iff, Nat.reduceEqDiff, Nat.add_right_cancel_iff, rz_nb0, rz_nb1, rz_nbb, rz_nbi, rz_isr, rz_zle, if_true, if_false, rz_bi0, rz_bi1, Bool.not_eq_true, Bool.not_eq_false, Bool.true_eq_false, Bool.false_eq_true, rz_ix_lit, cl_lit, Nat.reduceLT, bi_t, bi_f, decide_true, decide_false, Bool.not_false, Bool.not_true, Bool.and_true, Bool.true_and, Bool.and_false, Bool.false_and, oMd_c, oMd_i0, oMd_i1, oMd_i2, oMd_i3, oMd_i4, oMd_i5, oMd_i6, oMd_i7, oMd_i8, oMd_f9, oMd_v9, oMd_f10, oMd_v10, oMd_f11, oMd_v11, oMd_f12, oMd_v12, oMd_f13, oMd_v13, oMd_f14, oMd_v14, oMd_i15, oMd_i16, oMd_f17, oMd_v17, oMd_f18, oMd_v18, oMd_f19, oMd_v19, oMd_f20, oMd_v20, oMd_f21, oMd_v21, oMd_f22, oMd_v22, oMd_f23, oMd_v23, oMd_i24, oMd_f25, oMd_v25, oMd_f26, oMd_v26, oMd_f27, oMd_v27, oMd_f28, oMd_v28, oMd_i29, oMd_i30, oMd_i31, oMd_i32, oMd_i33, oMd_i34, oMd_i35, oMd_f36, oMd_v36, oMd_f37, oMd_v37, oMd_f38, oMd_v38, oMd_i39, oMd_f40, oMd_v40, oMd_f41, oMd_v41, oMd_i42, oMd_f43, oMd_v43, oMd_i44, oMd_a1, oMd_n1, oMd_a2, oMd_n2, oMd_a3, oMd_n3, oMd_a4, oMd_n4, oMd_a363, oMd_n363, oMd_a364, oMd_n364, oMd_a446, oMd_n446, oMd_a447, oMd_n447, oMd_a469, oMd_n469, oMd_a470, oMd_n470, oMd_a471, oMd_n471, oMd_a472, oMd_n472, oMd_a473, oMd_n473, oMd_a5, oMd_n5, oMd_e5, oMd_ra5, oMd_rn5, oMd_a14, oMd_n14, oMd_e14, oMd_ra14, oMd_rn14, oMd_a23, oMd_n23, oMd_e23, oMd_ra23, oMd_rn23, oMd_a184, oMd_n184, oMd_e184, oMd_ra184, oMd_rn184, oMd_a345, oMd_n345, oMd_e345, oMd_ra345, oMd_rn345, oMd_a354, oMd_n354, oMd_e354, oMd_ra354, oMd_rn354, oMd_a365, oMd_n365, oMd_e365, oMd_ra365, oMd_rn365, oMd_a448, oMd_n448, oMd_e448, oMd_ra448, oMd_rn448, oMd_a465, oMd_n465, oMd_e465, oMd_ra465, oMd_rn465, q.2.1, ht.1, ht.2, cn, hw]
    | succ k ih =>
      intro i ι1 hi hf hq hw
      have c1 : (nI i < nI n) = True := by rw [nI_lt2 (by omega) (by omega)]; simp; omega
      obtain ⟨dk1, d1, d2, d3⟩ := ddN_58 (C := efL C) (R := R) (m := m) hm8 q.2.2.2.2.2.2.1 q.2.2.2.2.d8 i
      have e58 : ι1 (b + 447) 58 = oN dk1 := by rw [hw]; exact d1
      cases dk1 with
      | none =>
        refine ⟨ι1, ?_, hf, hq⟩
        have e58 : ι1 (b + 447) 58 = -1 := e58
        have st := ddN_stay (C := efL C) (R := R) (m := m) (n := i) d1 (k + 1)
        rw [hi] at st
        rw [st, d1, g242_44]
        simp (decide := true) (maxDischargeDepth := 4) only [g242_0, g242_1, g242_2, g242_5, g242_6, g242_7, g242_8, g242_10, g242_13, g242_16, g242_17, g242_20, g242_21, g242_22, g242_23, g242_26, g242_29, g242_30, g242_31, g242_32, g242_35, g242_36, g242_39, g242_42, g242_43, g242_45, g242_46, g242_49, g242_50, g242_53, g242_55, g242_56, g242_57, g242_60, g242_61, g242_62, g242_65, g242_66, g242_69, g242_71, g242_72, g242_75, g242_76, g242_79, g242_82, g242_83, g242_86, g242_88, g242_89, rz_k_inl, rz_k_inr, Option.toList_some, Option.toList_none, List.cons_append, List.nil_append, List.append_nil, rz_up_s, rz_u_s, rz_up_n, rz_u_n, ne_eq, not_false_eq_true, not_true_eq_false, Nat.add_assoc, Nat.reduceAdd, reduceIte, Nat.add_eq_left, Nat.left_eq_add, Nat.add_left_cancel_iff, Nat.reduceEqDiff, Nat.add_right_cancel_iff, rz_nb0, rz_nb1, rz_nbb, rz_nbi, rz_isr, rz_zle, if_true, if_false, rz_bi0, rz_bi1, Bool.not_eq_true, Bool.not_eq_false, Bool.true_eq_false, Bool.false_eq_true, rz_ix_lit, cl_lit, Nat.reduceLT, bi_t, bi_f, decide_true, decide_false, Bool.not_false, Bool.not_true, Bool.and_true, Bool.true_and, Bool.and_false, Bool.false_and, oMd_c, oMd_i0, oMd_i1, oMd_i2, oMd_i3, oMd_i4, oMd_i5, oMd_i6, oMd_i7, oMd_i8, oMd_f9, oMd_v9, oMd_f10, oMd_v10, oMd_f11, oMd_v11, oMd_f12, oMd_v12, oMd_f13, oMd_v13, oMd_f14, oMd_v14, oMd_i15, oMd_i16, oMd_f17, oMd_v17, oMd_f18, oMd_v18, oMd_f19, oMd_v19, oMd_f20, oMd_v20, oMd_f21, oMd_v21, oMd_f22, oMd_v22, oMd_f23, oMd_v23, oMd_i24, oMd_f25, oMd_v25, oMd_f26, oMd_v26, oMd_f27, oMd_v27, oMd_f28, oMd_v28, oMd_i29, oMd_i30, oMd_i31, oMd_i32, oMd_i33, oMd_i34, oMd_i35, oMd_f36, oMd_v36, oMd_f37, oMd_v37, oMd_f38, oMd_v38, oMd_i39, oMd_f40, oMd_v40, oMd_f41, oMd_v41, oMd_i42, oMd_f43, oMd_v43, oMd_i44, oMd_a1, oMd_n1, oMd_a2, oMd_n2, oMd_a3, oMd_n3, oMd_a4, oMd_n4, oMd_a363, oMd_n363, oMd_a364, oMd_n364, oMd_a446, oMd_n446, oMd_a447, oMd_n447, oMd_a469, oMd_n469, oMd_a470, oMd_n470, oMd_a471, oMd_n471, oMd_a472, oMd_n472, oMd_a473, oMd_n473, oMd_a5, oMd_n5, oMd_e5, oMd_ra5, oMd_rn5, oMd_a14, oMd_n14, oMd_e14, oMd_ra14, oMd_rn14, oMd_a23, oMd_n23, oMd_e23, oMd_ra23, oMd_rn23, oMd_a184, oMd_n184, oMd_e184, oMd_ra184, oMd_rn184, oMd_a345, oMd_n345, oMd_e345, oMd_ra345, oMd_rn345, oMd_a354, oMd_n354, oMd_e354, oMd_ra354, oMd_rn354, oMd_a365, oMd_n365, oMd_e365, oMd_ra365, oMd_rn365, oMd_a448, oMd_n448, oMd_e448, oMd_ra448, oMd_rn448, oMd_a465, oMd_n465, oMd_e465, oMd_ra465, oMd_rn465, q.2.1, ht.1, ht.2, c1, e58]
        rfl
      | some p =>
        have hp := d2 p rfl
        have q1 := q.fr hf
        have cu : (nI p = -1) = False := nI_m1 (by omega)
        have e58 : ι1 (b + 447) 58 = nI p := e58
        obtain ⟨ι2, g1, g2, g3⟩ := md_dies (Z := Z) (d := d) (w := w) (rw := b + 447) q1.2.1 q1.1 q1.2.2.1 ht (by omega) (by unfold mdS; omega) (m := m) (by rw [hw, d3]; exact q.2.2.2.2.1) hm8 (dk := some p) (by rw [hw]; exact d1) d2 hp
        rw [hw] at g1 g2
        have w2 : ι2 (b + 447) = ddN (efL C) R m (i + 1) := by
          rw [g2]
          show _ = ddk (efL C) (ddN (efL C) R m i) m
          unfold ddk
          rw [if_neg (by rw [d1, oN, nI_m1 (by omega)]; exact fun z => z), d1, oN, nI_cl (by omega)]
        have f2 : frM b ι1 ι2 := ⟨fun a h1 h2 => g3 a (fun z => h2 (z.elim (fun e => Or.inr (Or.inl e)) (fun e => Or.inl e))), fun j _ => by rw [g3 b (by unfold mdW mdS; omega)], fun j hj => by rw [w2, hw, ddN_62 hj, ddN_62 hj]⟩
        obtain ⟨ι3, g, gf⟩ := ih (i + 1) ι2 (by omega) (hf.trans f2) (by rw [g3 b (by unfold mdW mdS; omega)]; exact hq) w2
        refine ⟨ι3, ?_, gf⟩
        rw [g242_44]
        simp (decide := true) (maxDischargeDepth := 4) only [g242_45, g242_46, g242_49, g242_50, g242_53, g242_55, g242_56, g242_57, g242_60, g242_61, g242_62, g242_65, g242_66, g242_69, g242_71, g242_72, g242_75, g242_76, g242_79, rz_k_inl, rz_k_inr, Option.toList_some, Option.toList_none, List.cons_append, List.nil_append, List.append_nil, rz_up_s, rz_u_s, rz_up_n, rz_u_n, ne_eq, not_false_eq_true, not_true_eq_false, Nat.add_assoc, Nat.reduceAdd, reduceIte, Nat.add_eq_left, Nat.left_eq_add, Nat.add_left_cancel_iff, Nat.reduceEqDiff, Nat.add_right_cancel_iff, rz_nb0, rz_nb1, rz_nbb, rz_nbi, rz_isr, rz_zle, if_true, if_false, rz_bi0, rz_bi1, Bool.not_eq_true, Bool.not_eq_false, Bool.true_eq_false, Bool.false_eq_true, rz_ix_lit, cl_lit, Nat.reduceLT, bi_t, bi_f, decide_true, decide_false, Bool.not_false, Bool.not_true, Bool.and_true, Bool.true_and, Bool.and_false, Bool.false_and, oMd_c, oMd_i0, oMd_i1, oMd_i2, oMd_i3, oMd_i4, oMd_i5, oMd_i6, oMd_i7, oMd_i8, oMd_f9, oMd_v9, oMd_f10, oMd_v10, oMd_f11, oMd_v11, oMd_f12, oMd_v12, oMd_f13, oMd_v13, oMd_f14, oMd_v14, oMd_i15, oMd_i16, oMd_f17, oMd_v17, oMd_f18, oMd_v18, oMd_f19, oMd_v19, oMd_f20, oMd_v20, oMd_f21, oMd_v21, oMd_f22, oMd_v22, oMd_f23, oMd_v23, oMd_i24, oMd_f25, oMd_v25, oMd_f26, oMd_v26, oMd_f27, oMd_v27, oMd_f28, oMd_v28, oMd_i29, oMd_i30, oMd_i31, oMd_i32, oMd_i33, oMd_i34, oMd_i35, oMd_f36, oMd_v36, oMd_f37, oMd_v37, oMd_f38, oMd_v38, oMd_i39, oMd_f40, oMd_v40, oMd_f41, oMd_v41, oMd_i42, oMd_f43, oMd_v43, oMd_i44, oMd_a1, oMd_n1, oMd_a2, oMd_n2, oMd_a3, oMd_n3, oMd_a4, oMd_n4, oMd_a363, oMd_n363, oMd_a364, oMd_n364, oMd_a446, oMd_n446, oMd_a447, oMd_n447, oMd_a469, oMd_n469, oMd_a470, oMd_n470, oMd_a471, oMd_n471, oMd_a472, oMd_n472, oMd_a473, oMd_n473, oMd_a5, oMd_n5, oMd_e5, oMd_ra5, oMd_rn5, oMd_a14, oMd_n14, oMd_e14, oMd_ra14, oMd_rn14, oMd_a23, oMd_n23, oMd_e23, oMd_ra23, oMd_rn23, oMd_a184, oMd_n184, oMd_e184, oMd_ra184, oMd_rn184, oMd_a345, oMd_n345, oMd_e345, oMd_ra345, oMd_rn345, oMd_a354, oMd_n354, oMd_e354, oMd_ra354, oMd_rn354, oMd_a365, oMd_n365, oMd_e365, oMd_ra365, oMd_rn365, oMd_a448, oMd_n448, oMd_e448, oMd_ra448, oMd_rn448, oMd_a465, oMd_n465, oMd_e465, oMd_ra465, oMd_rn465, q.2.1, ht.1, ht.2, c1, e58, cu, g1, nI_1]
        exact g
  obtain ⟨ι2, g, gf⟩ := H n 0 (rz_rw ι0 (b + 447) R) (by omega) (f0.trans cf) (by rw [rz_rw_n (show b ≠ b + 447 by omega)]; exact t0) (rz_rw_s _ _ _)
  rw [show nI 0 = 0 from rfl] at g
  refine ⟨ι2, ?_, gf⟩
  rw [e242]
  simp (decide := true) (maxDischargeDepth := 4) only [g242_0, g242_1, g242_2, g242_5, g242_6, g242_7, g242_8, g242_10, g242_13, g242_16, g242_17, g242_20, g242_21, g242_22, g242_23, g242_26, g242_29, g242_30, g242_31, g242_32, g242_35, g242_36, g242_39, g242_42, g242_43, g242_45, g242_46, g242_49, g242_50, g242_53, g242_55, g242_56, g242_57, g242_60, g242_61, g242_62, g242_65, g242_66, g242_69, g242_71, g242_72, g242_75, g242_76, g242_79, g242_82, g242_83, g242_86, g242_88, g242_89, rz_k_inl, rz_k_inr, Option.toList_some, Option.toList_none, List.cons_append, List.nil_append, List.append_nil, rz_up_s, rz_u_s, rz_up_n, rz_u_n, ne_eq, not_false_eq_true, not_true_eq_false, Nat.add_assoc, Nat.reduceAdd, reduceIte, Nat.add_eq_left, Nat.left_eq_add, Nat.add_left_cancel_iff, Nat.reduceEqDiff, Nat.add_right_cancel_iff, rz_nb0, rz_nb1, rz_nbb, rz_nbi, rz_isr, rz_zle, if_true, if_false, rz_bi0, rz_bi1, Bool.not_eq_true, Bool.not_eq_false, Bool.true_eq_false, Bool.false_eq_true, rz_ix_lit, cl_lit, Nat.reduceLT, bi_t, bi_f, decide_true, decide_false, Bool.not_false, Bool.not_true, Bool.and_true, Bool.true_and, Bool.and_false, Bool.false_and, oMd_c, oMd_i0, oMd_i1, oMd_i2, oMd_i3, oMd_i4, oMd_i5, oMd_i6, oMd_i7, oMd_i8, oMd_f9, oMd_v9, oMd_f10, oMd_v10, oMd_f11, oMd_v11, oMd_f12, oMd_v12, oMd_f13, oMd_v13, oMd_f14, oMd_v14, oMd_i15, oMd_i16, oMd_f17, oMd_v17, oMd_f18, oMd_v18, oMd_f19, oMd_v19, oMd_f20, oMd_v20, oMd_f21, oMd_v21, oMd_f22, oMd_v22, oMd_f23, oMd_v23, oMd_i24, oMd_f25, oMd_v25, oMd_f26, oMd_v26, oMd_f27, oMd_v27, oMd_f28, oMd_v28, oMd_i29, oMd_i30, oMd_i31, oMd_i32, oMd_i33, oMd_i34, oMd_i35, oMd_f36, oMd_v36, oMd_f37, oMd_v37, oMd_f38, oMd_v38, oMd_i39, oMd_f40, oMd_v40, oMd_f41, oMd_v41, oMd_i42, oMd_f43, oMd_v43, oMd_i44, oMd_a1, oMd_n1, oMd_a2, oMd_n2, oMd_a3, oMd_n3, oMd_a4, oMd_n4, oMd_a363, oMd_n363, oMd_a364, oMd_n364, oMd_a446, oMd_n446, oMd_a447, oMd_n447, oMd_a469, oMd_n469, oMd_a470, oMd_n470, oMd_a471, oMd_n471, oMd_a472, oMd_n472, oMd_a473, oMd_n473, oMd_a5, oMd_n5, oMd_e5, oMd_ra5, oMd_rn5, oMd_a14, oMd_n14, oMd_e14, oMd_ra14, oMd_rn14, oMd_a23, oMd_n23, oMd_e23, oMd_ra23, oMd_rn23, oMd_a184, oMd_n184, oMd_e184, oMd_ra184, oMd_rn184, oMd_a345, oMd_n345, oMd_e345, oMd_ra345, oMd_rn345, oMd_a354, oMd_n354, oMd_e354, oMd_ra354, oMd_rn354, oMd_a365, oMd_n365, oMd_e365, oMd_ra365, oMd_rn365, oMd_a448, oMd_n448, oMd_e448, oMd_ra448, oMd_rn448, oMd_a465, oMd_n465, oMd_e465, oMd_ra465, oMd_rn465, q.2.1, q.1, e0, md_in, hnx, b4, cp]
  exact g
end REF15
