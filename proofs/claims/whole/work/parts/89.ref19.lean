/-! the reference: a century -/
section REF19
variable {Z : rx_Z} {d : Nat} {h : Nat → Option rx_E} {ι : Nat → Nat → Int32} {w : Nat × Nat} {b m lv : Nat} {C : List (Nat × Nat)} {R : Nat → Int32} {dk : Option Nat}
theorem md_cyear (q : QM Z h ι b C R m dk lv) {s z nn : Int32} {i : Nat} (c1 : (nI i < nn) = True) {x : Int32 × (Nat → Int32)} {m1 : Nat} {dk1 : Option Nat} (hw : wkR x.2 m1 dk1) {a : Nat → Nat → Int32} (hf : frM b ι a) (ht : a b 0 = 0) (hs : a b 44 = x.1) (hr : a (b + 447) = x.2) (l5 : Option Value) : ∃ a' l5', rg Z (d + 10) rx_m279 19 [some (.ref b), some (.int s), some (.int nn), some (.int z), some (.int (nI i)), l5] [] (rz_mk h a, w) = rg Z (d + 10) rx_m279 19 [some (.ref b), some (.int s), some (.int nn), some (.int z), some (.int (nI (i + 1))), l5'] [] (rz_mk h a', w) ∧ frM b ι a' ∧ a' b 0 = 0 ∧ a' b 44 = (cyY (efL C) z x).1 ∧ a' (b + 447) = (cyY (efL C) z x).2 := by
  have hz := q.1
  have tri := oMd.tri q.2.1
  have d1 := md_draw8 (Z := Z) (d := d + 9) (w := w) (ι := a) q.2.1 hz
  rw [hs] at d1
  obtain ⟨f1, t1, s1, r1⟩ := fr44 hf ht (lcg x.1)
  generalize rz_up a b 44 (lcg x.1) = a1 at d1 f1 t1 s1 r1
  have d2 := md_draw8 (Z := Z) (d := d + 9) (w := w) (ι := a1) q.2.1 hz
  rw [s1] at d2
  obtain ⟨f2, t2, s2, r2⟩ := fr44 f1 t1 (lcg (lcg x.1))
  generalize rz_up a1 b 44 (lcg (lcg x.1)) = a2 at d2 f2 t2 s2 r2
  have w2 : a2 (b + 447) = x.2 := by rw [r2, r1]; exact hr
  have bi1 := md_births (Z := Z) (d := d + 7) (w := w) (ι := a2) (rw := b + 447) tri (by omega) (m := m1) (by rw [w2]; exact hw.1) hw.2.1 (by rw [w2]; exact hw.2.2.2.2) (show vN (lcg x.1) % 8 < 8 from Nat.mod_lt _ (by decide)) (show vN (lcg (lcg x.1)) % 8 < 8 from Nat.mod_lt _ (by decide))
  have hB : (berR x.2 m1 (vN (lcg x.1) % 8) (vN (lcg (lcg x.1)) % 8)).getD x.2 = cyB x := by unfold cyB; rw [hw.mo]
  obtain ⟨m2, hw2, -⟩ := hw.ber (vN (lcg x.1) % 8) (vN (lcg (lcg x.1)) % 8)
  rw [hB] at hw2
  rw [w2, hB] at bi1
  obtain ⟨f3, t3, s3, r3⟩ := frT f2 t2 (f := cyB x) (fun i hi => by rw [w2, ← hB]; exact berR_62 hi)
  generalize rz_rw a2 (b + 447) (cyB x) = a3 at bi1 f3 t3 s3 r3
  have d3 := md_draw16 (Z := Z) (d := d + 9) (w := w) (ι := a3) q.2.1 hz
  rw [s3, s2] at d3
  obtain ⟨f4, t4, s4, r4⟩ := fr44 f3 t3 (lcg (lcg (lcg x.1)))
  generalize rz_up a3 b 44 (lcg (lcg (lcg x.1))) = a4 at d3 f4 t4 s4 r4
  have w4 : a4 (b + 447) = cyB x := by rw [r4]; exact r3
  by_cases hc : nI (vN (lcg (lcg (lcg x.1))) % 16) < z
  · have d4 := md_draw8 (Z := Z) (d := d + 9) (w := w) (ι := a4) q.2.1 hz
    rw [s4] at d4
    obtain ⟨f5, t5, s5, r5⟩ := fr44 f4 t4 (lcg (lcg (lcg (lcg x.1))))
    generalize rz_up a4 b 44 (lcg (lcg (lcg (lcg x.1)))) = a5 at d4 f5 t5 s5 r5
    have w5 : a5 (b + 447) = cyB x := by rw [r5]; exact w4
    have q5 := q.fr f5
    obtain ⟨a6, g1, g2, g3⟩ := md_dies (Z := Z) (d := d) (w := w) (rw := b + 447) q5.2.1 q5.1 q5.2.2.1 tri (by omega) (by unfold mdS; omega) (m := m2) (by rw [w5]; exact hw2.1) hw2.2.1 (by rw [w5]; exact hw2.2.2.1) hw2.2.2.2.1 (show vN (lcg (lcg (lcg (lcg x.1)))) % 8 < 8 from Nat.mod_lt _ (by decide))
    rw [w5] at g1 g2
    have e6 : a6 b = a5 b := g3 b (by unfold mdW mdS; omega)
    have f6 : frM b ι a6 := f5.trans ⟨fun y h1 h2 => g3 y (fun z => h2 (z.elim (fun e => Or.inr (Or.inl e)) (fun e => Or.inl e))), fun j _ => by rw [e6], fun j hj => by rw [g2, w5]; exact burR_62 hj⟩
    obtain ⟨dk3, hw3⟩ := hw2.bur (efL C) (p := vN (lcg (lcg (lcg (lcg x.1)))) % 8) (Nat.mod_lt _ (by decide))
    have ye := md_yearEnds (Z := Z) (d := d + 7) (w := w) (ι := a6) tri (by omega) (m := m2) (by rw [g2]; exact hw3.1) hw3.2.1
    rw [g2] at ye
    obtain ⟨f7, t7, s7, r7⟩ := frT f6 (by rw [e6]; exact t5) (f := yerR ((burR (efL C) (cyB x) m2 (vN (lcg (lcg (lcg (lcg x.1)))) % 8)).getD (cyB x)) m2) (fun i hi => by rw [g2]; exact yerR_n hw3.2.1 (Or.inr ⟨by omega, by omega, by omega⟩))
    refine ⟨_, some (.int (nI (vN (lcg x.1) % 8))), ?_, f7, t7, by rw [s7, e6, s5, cyY, if_pos hc], by rw [r7, cyY, if_pos hc, hw2.mo]⟩
    rw [g279_19]
    simp (decide := true) (maxDischargeDepth := 4) only [g279_0, g279_1, g279_4, g279_5, g279_8, g279_11, g279_12, g279_13, g279_16, g279_17, g279_21, g279_22, g279_25, g279_26, g279_28, g279_31, g279_33, g279_34, g279_37, g279_39, g279_40, g279_42, g279_45, g279_48, g279_49, g279_50, g279_52, g279_55, g279_56, g279_59, g279_60, g279_61, g279_64, g279_65, g279_67, g279_70, g279_73, g279_74, g279_75, g279_78, g279_81, g279_84, g279_87, rz_k_inl, rz_k_inr, Option.toList_some, Option.toList_none, List.cons_append, List.nil_append, List.append_nil, rz_up_s, rz_u_s, rz_up_n, rz_u_n, ne_eq, not_false_eq_true, not_true_eq_false, Nat.add_assoc, Nat.reduceAdd, reduceIte, Nat.add_eq_left, Nat.left_eq_add, Nat.add_left_cancel_iff, Nat.reduceEqDiff, Nat.add_right_cancel_iff, rz_nb0, rz_nb1, rz_nbb, rz_nbi, rz_isr, rz_zle, if_true, if_false, rz_bi0, rz_bi1, Bool.not_eq_true, Bool.not_eq_false, Bool.true_eq_false, Bool.false_eq_true, rz_ix_lit, cl_lit, Nat.reduceLT, bi_t, bi_f, decide_true, decide_false, Bool.not_false, Bool.not_true, Bool.and_true, Bool.true_and, Bool.and_false, Bool.false_and, oMd_c, oMd_i0, oMd_i1, oMd_i2, oMd_i3, oMd_i4, oMd_i5, oMd_i6, oMd_i7, oMd_i8, oMd_f9, oMd_v9, oMd_f10, oMd_v10, oMd_f11, oMd_v11, oMd_f12, oMd_v12, oMd_f13, oMd_v13, oMd_f14, oMd_v14, oMd_i15, oMd_i16, oMd_f17, oMd_v17, oMd_f18, oMd_v18, oMd_f19, oMd_v19, oMd_f20, oMd_v20, oMd_f21, oMd_v21, oMd_f22, oMd_v22, oMd_f23, oMd_v23, oMd_i24, oMd_f25, oMd_v25, oMd_f26, oMd_v26, oMd_f27, oMd_v27, oMd_f28, oMd_v28, oMd_i29, oMd_i30, oMd_i31, oMd_i32, oMd_i33, oMd_i34, oMd_i35, oMd_f36, oMd_v36, oMd_f37, oMd_v37, oMd_f38, oMd_v38, oMd_i39, oMd_f40, oMd_v40, oMd_f41, oMd_v41, oMd_i42, oMd_f43, oMd_v43, oMd_i44, oMd_a1, oMd_n1, oMd_a2, oMd_n2, oMd_a3, oMd_n3, oMd_a4, oMd_n4, oMd_a363, oMd_n363, oMd_a364, oMd_n364, oMd_a446, oMd_n446, oMd_a447, oMd_n447, oMd_a469, oMd_n469, oMd_a470, oMd_n470, oMd_a471, oMd_n471, oMd_a472, oMd_n472, oMd_a473, oMd_n473, oMd_a5, oMd_n5, oMd_e5, oMd_ra5, oMd_rn5, oMd_a14, oMd_n14, oMd_e14, oMd_ra14, oMd_rn14, oMd_a23, oMd_n23, oMd_e23, oMd_ra23, oMd_rn23, oMd_a184, oMd_n184, oMd_e184, oMd_ra184, oMd_rn184, oMd_a345, oMd_n345, oMd_e345, oMd_ra345, oMd_rn345, oMd_a354, oMd_n354, oMd_e354, oMd_ra354, oMd_rn354, oMd_a365, oMd_n365, oMd_e365, oMd_ra365, oMd_rn365, oMd_a448, oMd_n448, oMd_e448, oMd_ra448, oMd_rn448, oMd_a465, oMd_n465, oMd_e465, oMd_ra465, oMd_rn465, q.2.1, c1, d1, d2, bi1, d3, hc, d4, g1, ye, nI_1]
  · have ye := md_yearEnds (Z := Z) (d := d + 7) (w := w) (ι := a4) tri (by omega) (m := m2) (by rw [w4]; exact hw2.1) hw2.2.1
    rw [w4] at ye
    obtain ⟨f7, t7, s7, r7⟩ := frT f4 t4 (f := yerR (cyB x) m2) (fun i hi => by rw [w4]; exact yerR_n hw2.2.1 (Or.inr ⟨by omega, by omega, by omega⟩))
    refine ⟨_, some (.int (nI (vN (lcg x.1) % 8))), ?_, f7, t7, by rw [s7, s4, cyY, if_neg hc], by rw [r7, cyY, if_neg hc, hw2.mo]⟩
    rw [g279_19]
    simp (decide := true) (maxDischargeDepth := 4) only [g279_0, g279_1, g279_4, g279_5, g279_8, g279_11, g279_12, g279_13, g279_16, g279_17, g279_21, g279_22, g279_25, g279_26, g279_28, g279_31, g279_33, g279_34, g279_37, g279_39, g279_40, g279_42, g279_45, g279_48, g279_49, g279_50, g279_52, g279_55, g279_56, g279_59, g279_60, g279_61, g279_64, g279_65, g279_67, g279_70, g279_73, g279_74, g279_75, g279_78, g279_81, g279_84, g279_87, rz_k_inl, rz_k_inr, Option.toList_some, Option.toList_none, List.cons_append, List.nil_append, List.append_nil, rz_up_s, rz_u_s, rz_up_n, rz_u_n, ne_eq, not_false_eq_true, not_true_eq_false, Nat.add_assoc, Nat.reduceAdd, reduceIte, Nat.add_eq_left, Nat.left_eq_add, Nat.add_left_cancel_iff, Nat.reduceEqDiff, Nat.add_right_cancel_iff, rz_nb0, rz_nb1, rz_nbb, rz_nbi, rz_isr, rz_zle, if_true, if_false, rz_bi0, rz_bi1, Bool.not_eq_true, Bool.not_eq_false, Bool.true_eq_false, Bool.false_eq_true, rz_ix_lit, cl_lit, Nat.reduceLT, bi_t, bi_f, decide_true, decide_false, Bool.not_false, Bool.not_true, Bool.and_true, Bool.true_and, Bool.and_false, Bool.false_and, oMd_c, oMd_i0, oMd_i1, oMd_i2, oMd_i3, oMd_i4, oMd_i5, oMd_i6, oMd_i7, oMd_i8, oMd_f9, oMd_v9, oMd_f10, oMd_v10, oMd_f11, oMd_v11, oMd_f12, oMd_v12, oMd_f13, oMd_v13, oMd_f14, oMd_v14, oMd_i15, oMd_i16, oMd_f17, oMd_v17, oMd_f18, oMd_v18, oMd_f19, oMd_v19, oMd_f20, oMd_v20, oMd_f21, oMd_v21, oMd_f22, oMd_v22, oMd_f23, oMd_v23, oMd_i24, oMd_f25, oMd_v25, oMd_f26, oMd_v26, oMd_f27, oMd_v27, oMd_f28, oMd_v28, oMd_i29, oMd_i30, oMd_i31, oMd_i32, oMd_i33, oMd_i34, oMd_i35, oMd_f36, oMd_v36, oMd_f37, oMd_v37, oMd_f38, oMd_v38, oMd_i39, oMd_f40, oMd_v40, oMd_f41, oMd_v41, oMd_i42, oMd_f43, oMd_v43, oMd_i44, oMd_a1, oMd_n1, oMd_a2, oMd_n2, oMd_a3, oMd_n3, oMd_a4, oMd_n4, oMd_a363, oMd_n363, oMd_a364, oMd_n364, oMd_a446, oMd_n446, oMd_a447, oMd_n447, oMd_a469, oMd_n469, oMd_a470, oMd_n470, oMd_a471, oMd_n471, oMd_a472, oMd_n472, oMd_a473, oMd_n473, oMd_a5, oMd_n5, oMd_e5, oMd_ra5, oMd_rn5, oMd_a14, oMd_n14, oMd_e14, oMd_ra14, oMd_rn14, oMd_a23, oMd_n23, oMd_e23, oMd_ra23, oMd_rn23, oMd_a184, oMd_n184, oMd_e184, oMd_ra184, oMd_rn184, oMd_a345, oMd_n345, oMd_e345, oMd_ra345, oMd_rn345, oMd_a354, oMd_n354, oMd_e354, oMd_ra354, oMd_rn354, oMd_a365, oMd_n365, oMd_e365, oMd_ra365, oMd_rn365, oMd_a448, oMd_n448, oMd_e448, oMd_ra448, oMd_rn448, oMd_a465, oMd_n465, oMd_e465, oMd_ra465, oMd_rn465, q.2.1, c1, d1, d2, bi1, d3, hc, ye, nI_1]
end REF19
