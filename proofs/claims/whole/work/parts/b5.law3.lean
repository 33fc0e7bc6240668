/-! the class reads a LAW: words, products, sums -/
theorem nmN_sk (B : Nat → Int32) (e : Nat) (m : Int32) (p : Nat) : nmN B e m (sk B e p) = nmN B e m p := by
  unfold nmN nmP
  rw [sk_sk]
theorem lwE_0 (n : Nat) : lwE (0, n) = nI (100 + n) := rfl
theorem lwE_1 (n : Nat) : lwE (1, n) = nI (10 + n) := rfl
section LAW3
variable {Z : rx_Z} {d : Nat} {h : Nat → Option rx_E} {ι ι0 : Nat → Nat → Int32} {w : Nat × Nat} {t a l : Nat}
theorem lq_seen {e q r : Nat} {v6 v7 v8 v9 v10 v11 v12 v13 : Nat} (s6 : oSt h (Z.2.2.2 7) v6 (WD 6)) (s7 : oSt h (Z.2.2.2 8) v7 (WD 7)) (s8 : oSt h (Z.2.2.2 9) v8 (WD 8)) (s9 : oSt h (Z.2.2.2 10) v9 (WD 9)) (s10 : oSt h (Z.2.2.2 11) v10 (WD 10)) (s11 : oSt h (Z.2.2.2 12) v11 (WD 11)) (s12 : oSt h (Z.2.2.2 13) v12 (WD 12)) (s13 : oSt h (Z.2.2.2 14) v13 (WD 13)) (O : lqO Z h t a l) (he : ι t 1 = nI e) (hp : ι t 2 = nI r) (h3 : ι t 3 = nI q) (hqr : q ≤ r) (hre : r ≤ e) (he6 : e ≤ 600) (c4 : wdIs (ι (t + 1)) q r (WD 4) = false) (c5 : wdIs (ι (t + 1)) q r (WD 5) = false) : rz_f Z (d + 6) 63 [.ref a] (rz_mk h ι, w) = some (.inl (some (.int (if lwW (ι (t + 1)) q r = 0 then -1 else nI (lwW (ι (t + 1)) q r - 10)))), (rz_mk h ι, w)) := by
  obtain ⟨o1, o2, o3, o4, o5⟩ := O
  have W6 := tp_wordIs (Z := Z) (d := d) (w := w) o2 s6 he hp h3 hqr hre he6
  have a6 : rz_ar h (Z.2.2.2 7) 9 := ⟨_, _, s6.1⟩
  have W7 := tp_wordIs (Z := Z) (d := d) (w := w) o2 s7 he hp h3 hqr hre he6
  have a7 : rz_ar h (Z.2.2.2 8) 9 := ⟨_, _, s7.1⟩
  have W8 := tp_wordIs (Z := Z) (d := d) (w := w) o2 s8 he hp h3 hqr hre he6
  have a8 : rz_ar h (Z.2.2.2 9) 9 := ⟨_, _, s8.1⟩
  have W9 := tp_wordIs (Z := Z) (d := d) (w := w) o2 s9 he hp h3 hqr hre he6
  have a9 : rz_ar h (Z.2.2.2 10) 9 := ⟨_, _, s9.1⟩
  have W10 := tp_wordIs (Z := Z) (d := d) (w := w) o2 s10 he hp h3 hqr hre he6
  have a10 : rz_ar h (Z.2.2.2 11) 9 := ⟨_, _, s10.1⟩
  have W11 := tp_wordIs (Z := Z) (d := d) (w := w) o2 s11 he hp h3 hqr hre he6
  have a11 : rz_ar h (Z.2.2.2 12) 9 := ⟨_, _, s11.1⟩
  have W12 := tp_wordIs (Z := Z) (d := d) (w := w) o2 s12 he hp h3 hqr hre he6
  have a12 : rz_ar h (Z.2.2.2 13) 9 := ⟨_, _, s12.1⟩
  have W13 := tp_wordIs (Z := Z) (d := d) (w := w) o2 s13 he hp h3 hqr hre he6
  have a13 : rz_ar h (Z.2.2.2 14) 9 := ⟨_, _, s13.1⟩
  cases c6 : wdIs (ι (t + 1)) q r (WD 6) with
  | true =>
    rw [c6] at W6
    have lw : lwW (ι (t + 1)) q r = 10 := by unfold lwW; rw [c4, c5, c6]; rfl
    rw [lw, if_neg (by decide), show nI (10 - 10) = 0 from rfl, e63]
    simp (decide := true) (maxDischargeDepth := 4) only [g63_0, g63_1, g63_4, g63_6, g63_9, g63_12, g63_13, g63_14, g63_15, g63_18, g63_20, g63_23, g63_26, g63_27, g63_28, g63_29, g63_32, g63_34, g63_37, g63_40, g63_41, g63_42, g63_43, g63_46, g63_48, g63_51, g63_54, g63_55, g63_56, g63_57, g63_60, g63_62, g63_65, g63_68, g63_69, g63_70, g63_71, g63_74, g63_76, g63_79, g63_82, g63_83, g63_84, g63_85, g63_88, g63_90, g63_93, g63_96, g63_98, g63_99, g63_100, g63_103, g63_105, g63_108, g63_111, g63_113, g63_116, g63_117, rz_k_inl, rz_k_inr, Option.toList_some, Option.toList_none, List.cons_append, List.nil_append, List.append_nil, rz_up_s, rz_u_s, rz_up_n, rz_u_n, ne_eq, not_false_eq_true, not_true_eq_false, Nat.add_assoc, Nat.reduceAdd, reduceIte, Nat.add_eq_left, Nat.left_eq_add, Nat.add_left_cancel_iff, Nat.reduceEqDiff, Nat.add_right_cancel_iff, rz_nb0, rz_nb1, rz_nbb, rz_nbi, rz_isr, rz_zle, if_true, if_false, rz_bi0, rz_bi1, Bool.not_eq_true, Bool.not_eq_false, Bool.true_eq_false, Bool.false_eq_true, rz_ix_lit, cl_lit, Nat.reduceLT, bi_t, bi_f, decide_true, decide_false, Bool.not_false, Bool.not_true, Bool.and_true, Bool.true_and, Bool.and_false, Bool.false_and, oLt_c o1, oLt_f0 o1, oLt_v0 o1, oLt_f1 o1, oLt_v1 o1, oTp_c, oTp_f0, oTp_v0, oTp_i1, oTp_i2, oTp_i3, oTp_i4, oTp_i5, oTp_i6, oTp_a1, oTp_n1, o1, o2, W6, a6]
  | false =>
    rw [c6] at W6
    cases c7 : wdIs (ι (t + 1)) q r (WD 7) with
    | true =>
      rw [c7] at W7
      have lw : lwW (ι (t + 1)) q r = 11 := by unfold lwW; rw [c4, c5, c6, c7]; rfl
      rw [lw, if_neg (by decide), show nI (11 - 10) = 1 from rfl, e63]
      simp (decide := true) (maxDischargeDepth := 4) only [g63_0, g63_1, g63_4, g63_6, g63_9, g63_12, g63_13, g63_14, g63_15, g63_18, g63_20, g63_23, g63_26, g63_27, g63_28, g63_29, g63_32, g63_34, g63_37, g63_40, g63_41, g63_42, g63_43, g63_46, g63_48, g63_51, g63_54, g63_55, g63_56, g63_57, g63_60, g63_62, g63_65, g63_68, g63_69, g63_70, g63_71, g63_74, g63_76, g63_79, g63_82, g63_83, g63_84, g63_85, g63_88, g63_90, g63_93, g63_96, g63_98, g63_99, g63_100, g63_103, g63_105, g63_108, g63_111, g63_113, g63_116, g63_117, rz_k_inl, rz_k_inr, Option.toList_some, Option.toList_none, List.cons_append, List.nil_append, List.append_nil, rz_up_s, rz_u_s, rz_up_n, rz_u_n, ne_eq, not_false_eq_true, not_true_eq_false, Nat.add_assoc, Nat.reduceAdd, reduceIte, Nat.add_eq_left, Nat.left_eq_add, Nat.add_left_cancel_iff, Nat.reduceEqDiff, Nat.add_right_cancel_iff, rz_nb0, rz_nb1, rz_nbb, rz_nbi, rz_isr, rz_zle, if_true, if_false, rz_bi0, rz_bi1, Bool.not_eq_true, Bool.not_eq_false, Bool.true_eq_false, Bool.false_eq_true, rz_ix_lit, cl_lit, Nat.reduceLT, bi_t, bi_f, decide_true, decide_false, Bool.not_false, Bool.not_true, Bool.and_true, Bool.true_and, Bool.and_false, Bool.false_and, oLt_c o1, oLt_f0 o1, oLt_v0 o1, oLt_f1 o1, oLt_v1 o1, oTp_c, oTp_f0, oTp_v0, oTp_i1, oTp_i2, oTp_i3, oTp_i4, oTp_i5, oTp_i6, oTp_a1, oTp_n1, o1, o2, W6, a6, W7, a7]
    | false =>
      rw [c7] at W7
      cases c8 : wdIs (ι (t + 1)) q r (WD 8) with
      | true =>
        rw [c8] at W8
        have lw : lwW (ι (t + 1)) q r = 12 := by unfold lwW; rw [c4, c5, c6, c7, c8]; rfl
        rw [lw, if_neg (by decide), show nI (12 - 10) = 2 from rfl, e63]
        simp (decide := true) (maxDischargeDepth := 4) only [g63_0, g63_1, g63_4, g63_6, g63_9, g63_12, g63_13, g63_14, g63_15, g63_18, g63_20, g63_23, g63_26, g63_27, g63_28, g63_29, g63_32, g63_34, g63_37, g63_40, g63_41, g63_42, g63_43, g63_46, g63_48, g63_51, g63_54, g63_55, g63_56, g63_57, g63_60, g63_62, g63_65, g63_68, g63_69, g63_70, g63_71, g63_74, g63_76, g63_79, g63_82, g63_83, g63_84, g63_85, g63_88, g63_90, g63_93, g63_96, g63_98, g63_99, g63_100, g63_103, g63_105, g63_108, g63_111, g63_113, g63_116, g63_117, rz_k_inl, rz_k_inr, Option.toList_some, Option.toList_none, List.cons_append, List.nil_append, List.append_nil, rz_up_s, rz_u_s, rz_up_n, rz_u_n, ne_eq, not_false_eq_true, not_true_eq_false, Nat.add_assoc, Nat.reduceAdd, reduceIte, Nat.add_eq_left, Nat.left_eq_add, Nat.add_left_cancel_iff, Nat.reduceEqDiff, Nat.add_right_cancel_iff, rz_nb0, rz_nb1, rz_nbb, rz_nbi, rz_isr, rz_zle, if_true, if_false, rz_bi0, rz_bi1, Bool.not_eq_true, Bool.not_eq_false, Bool.true_eq_false, Bool.false_eq_true, rz_ix_lit, cl_lit, Nat.reduceLT, bi_t, bi_f, decide_true, decide_false, Bool.not_false, Bool.not_true, Bool.and_true, Bool.true_and, Bool.and_false, Bool.false_and, oLt_c o1, oLt_f0 o1, oLt_v0 o1, oLt_f1 o1, oLt_v1 o1, oTp_c, oTp_f0, oTp_v0, oTp_i1, oTp_i2, oTp_i3, oTp_i4, oTp_i5, oTp_i6, oTp_a1, oTp_n1, o1, o2, W6, a6, W7, a7, W8, a8]
      | false =>
        rw [c8] at W8
        cases c9 : wdIs (ι (t + 1)) q r (WD 9) with
        | true =>
          rw [c9] at W9
          have lw : lwW (ι (t + 1)) q r = 13 := by unfold lwW; rw [c4, c5, c6, c7, c8, c9]; rfl
          rw [lw, if_neg (by decide), show nI (13 - 10) = 3 from rfl, e63]
          simp (decide := true) (maxDischargeDepth := 4) only [g63_0, g63_1, g63_4, g63_6, g63_9, g63_12, g63_13, g63_14, g63_15, g63_18, g63_20, g63_23, g63_26, g63_27, g63_28, g63_29, g63_32, g63_34, g63_37, g63_40, g63_41, g63_42, g63_43, g63_46, g63_48, g63_51, g63_54, g63_55, g63_56, g63_57, g63_60, g63_62, g63_65, g63_68, g63_69, g63_70, g63_71, g63_74, g63_76, g63_79, g63_82, g63_83, g63_84, g63_85, g63_88, g63_90, g63_93, g63_96, g63_98, g63_99, g63_100, g63_103, g63_105, g63_108, g63_111, g63_113, g63_116, g63_117, rz_k_inl, rz_k_inr, Option.toList_some, Option.toList_none, List.cons_append, List.nil_append, List.append_nil, rz_up_s, rz_u_s, rz_up_n, rz_u_n, ne_eq, not_false_eq_true, not_true_eq_false, Nat.add_assoc, Nat.reduceAdd, reduceIte, Nat.add_eq_left, Nat.left_eq_add, Nat.add_left_cancel_iff, Nat.reduceEqDiff, Nat.add_right_cancel_iff, rz_nb0, rz_nb1, rz_nbb, rz_nbi, rz_isr, rz_zle, if_true, if_false, rz_bi0, rz_bi1, Bool.not_eq_true, Bool.not_eq_false, Bool.true_eq_false, Bool.false_eq_true, rz_ix_lit, cl_lit, Nat.reduceLT, bi_t, bi_f, decide_true, decide_false, Bool.not_false, Bool.not_true, Bool.and_true, Bool.true_and, Bool.and_false, Bool.false_and, oLt_c o1, oLt_f0 o1, oLt_v0 o1, oLt_f1 o1, oLt_v1 o1, oTp_c, oTp_f0, oTp_v0, oTp_i1, oTp_i2, oTp_i3, oTp_i4, oTp_i5, oTp_i6, oTp_a1, oTp_n1, o1, o2, W6, a6, W7, a7, W8, a8, W9, a9]
        | false =>
          rw [c9] at W9
          cases c10 : wdIs (ι (t + 1)) q r (WD 10) with
          | true =>
            rw [c10] at W10
            have lw : lwW (ι (t + 1)) q r = 14 := by unfold lwW; rw [c4, c5, c6, c7, c8, c9, c10]; rfl
            rw [lw, if_neg (by decide), show nI (14 - 10) = 4 from rfl, e63]
            simp (decide := true) (maxDischargeDepth := 4) only [g63_0, g63_1, g63_4, g63_6, g63_9, g63_12, g63_13, g63_14, g63_15, g63_18, g63_20, g63_23, g63_26, g63_27, g63_28, g63_29, g63_32, g63_34, g63_37, g63_40, g63_41, g63_42, g63_43, g63_46, g63_48, g63_51, g63_54, g63_55, g63_56, g63_57, g63_60, g63_62, g63_65, g63_68, g63_69, g63_70, g63_71, g63_74, g63_76, g63_79, g63_82, g63_83, g63_84, g63_85, g63_88, g63_90, g63_93, g63_96, g63_98, g63_99, g63_100, g63_103, g63_105, g63_108, g63_111, g63_113, g63_116, g63_117, rz_k_inl, rz_k_inr, Option.toList_some, Option.toList_none, List.cons_append, List.nil_append, List.append_nil, rz_up_s, rz_u_s, rz_up_n, rz_u_n, ne_eq, not_false_eq_true, not_true_eq_false, Nat.add_assoc, Nat.reduceAdd, reduceIte, Nat.add_eq_left, Nat.left_eq_add, Nat.add_left_cancel_iff, Nat.reduceEqDiff, Nat.add_right_cancel_iff, rz_nb0, rz_nb1, rz_nbb, rz_nbi, rz_isr, rz_zle, if_true, if_false, rz_bi0, rz_bi1, Bool.not_eq_true, Bool.not_eq_false, Bool.true_eq_false, Bool.false_eq_true, rz_ix_lit, cl_lit, Nat.reduceLT, bi_t, bi_f, decide_true, decide_false, Bool.not_false, Bool.not_true, Bool.and_true, Bool.true_and, Bool.and_false, Bool.false_and, oLt_c o1, oLt_f0 o1, oLt_v0 o1, oLt_f1 o1, oLt_v1 o1, oTp_c, oTp_f0, oTp_v0, oTp_i1, oTp_i2, oTp_i3, oTp_i4, oTp_i5, oTp_i6, oTp_a1, oTp_n1, o1, o2, W6, a6, W7, a7, W8, a8, W9, a9, W10, a10]
          | false =>
            rw [c10] at W10
            cases c11 : wdIs (ι (t + 1)) q r (WD 11) with
            | true =>
              rw [c11] at W11
              have lw : lwW (ι (t + 1)) q r = 15 := by unfold lwW; rw [c4, c5, c6, c7, c8, c9, c10, c11]; rfl
              rw [lw, if_neg (by decide), show nI (15 - 10) = 5 from rfl, e63]
              simp (decide := true) (maxDischargeDepth := 4) only [g63_0, g63_1, g63_4, g63_6, g63_9, g63_12, g63_13, g63_14, g63_15, g63_18, g63_20, g63_23, g63_26, g63_27, g63_28, g63_29, g63_32, g63_34, g63_37, g63_40, g63_41, g63_42, g63_43, g63_46, g63_48, g63_51, g63_54, g63_55, g63_56, g63_57, g63_60, g63_62, g63_65, g63_68, g63_69, g63_70, g63_71, g63_74, g63_76, g63_79, g63_82, g63_83, g63_84, g63_85, g63_88, g63_90, g63_93, g63_96, g63_98, g63_99, g63_100, g63_103, g63_105, g63_108, g63_111, g63_113, g63_116, g63_117, rz_k_inl, rz_k_inr, Option.toList_some, Option.toList_none, List.cons_append, List.nil_append, List.append_nil, rz_up_s, rz_u_s, rz_up_n, rz_u_n, ne_eq, not_false_eq_true, not_true_eq_false, Nat.add_assoc, Nat.reduceAdd, reduceIte, Nat.add_eq_left, Nat.left_eq_add, Nat.add_left_cancel_iff, Nat.reduceEqDiff, Nat.add_right_cancel_iff, rz_nb0, rz_nb1, rz_nbb, rz_nbi, rz_isr, rz_zle, if_true, if_false, rz_bi0, rz_bi1, Bool.not_eq_true, Bool.not_eq_false, Bool.true_eq_false, Bool.false_eq_true, rz_ix_lit, cl_lit, Nat.reduceLT, bi_t, bi_f, decide_true, decide_false, Bool.not_false, Bool.not_true, Bool.and_true, Bool.true_and, Bool.and_false, Bool.false_and, oLt_c o1, oLt_f0 o1, oLt_v0 o1, oLt_f1 o1, oLt_v1 o1, oTp_c, oTp_f0, oTp_v0, oTp_i1, oTp_i2, oTp_i3, oTp_i4, oTp_i5, oTp_i6, oTp_a1, oTp_n1, o1, o2, W6, a6, W7, a7, W8, a8, W9, a9, W10, a10, W11, a11]
            | false =>
              rw [c11] at W11
              cases c12 : wdIs (ι (t + 1)) q r (WD 12) with
              | true =>
                rw [c12] at W12
                have lw : lwW (ι (t + 1)) q r = 16 := by unfold lwW; rw [c4, c5, c6, c7, c8, c9, c10, c11, c12]; rfl
                rw [lw, if_neg (by decide), show nI (16 - 10) = 6 from rfl, e63]
                simp (decide := true) (maxDischargeDepth := 4) only [g63_0, g63_1, g63_4, g63_6, g63_9, g63_12, g63_13, g63_14, g63_15, g63_18, g63_20, g63_23, g63_26, g63_27, g63_28, g63_29, g63_32, g63_34, g63_37, g63_40, g63_41, g63_42, g63_43, g63_46, g63_48, g63_51, g63_54, g63_55, g63_56, g63_57, g63_60, g63_62, g63_65, g63_68, g63_69, g63_70, g63_71, g63_74, g63_76, g63_79, g63_82, g63_83, g63_84, g63_85, g63_88, g63_90, g63_93, g63_96, g63_98, g63_99, g63_100, g63_103, g63_105, g63_108, g63_111, g63_113, g63_116, g63_117, rz_k_inl, rz_k_inr, Option.toList_some, Option.toList_none, List.cons_append, List.nil_append, List.append_nil, rz_up_s, rz_u_s, rz_up_n, rz_u_n, ne_eq, not_false_eq_true, not_true_eq_false, Nat.add_assoc, Nat.reduceAdd, reduceIte, Nat.add_eq_left, Nat.left_eq_add, Nat.add_left_cancel_iff, Nat.reduceEqDiff, Nat.add_right_cancel_iff, rz_nb0, rz_nb1, rz_nbb, rz_nbi, rz_isr, rz_zle, if_true, if_false, rz_bi0, rz_bi1, Bool.not_eq_true, Bool.not_eq_false, Bool.true_eq_false, Bool.false_eq_true, rz_ix_lit, cl_lit, Nat.reduceLT, bi_t, bi_f, decide_true, decide_false, Bool.not_false, Bool.not_true, Bool.and_true, Bool.true_and, Bool.and_false, Bool.false_and, oLt_c o1, oLt_f0 o1, oLt_v0 o1, oLt_f1 o1, oLt_v1 o1, oTp_c, oTp_f0, oTp_v0, oTp_i1, oTp_i2, oTp_i3, oTp_i4, oTp_i5, oTp_i6, oTp_a1, oTp_n1, o1, o2, W6, a6, W7, a7, W8, a8, W9, a9, W10, a10, W11, a11, W12, a12]
              | false =>
                rw [c12] at W12
                cases c13 : wdIs (ι (t + 1)) q r (WD 13) with
                | true =>
                  rw [c13] at W13
                  have lw : lwW (ι (t + 1)) q r = 17 := by unfold lwW; rw [c4, c5, c6, c7, c8, c9, c10, c11, c12, c13]; rfl
                  rw [lw, if_neg (by decide), show nI (17 - 10) = 7 from rfl, e63]
                  simp (decide := true) (maxDischargeDepth := 4) only [g63_0, g63_1, g63_4, g63_6, g63_9, g63_12, g63_13, g63_14, g63_15, g63_18, g63_20, g63_23, g63_26, g63_27, g63_28, g63_29, g63_32, g63_34, g63_37, g63_40, g63_41, g63_42, g63_43, g63_46, g63_48, g63_51, g63_54, g63_55, g63_56, g63_57, g63_60, g63_62, g63_65, g63_68, g63_69, g63_70, g63_71, g63_74, g63_76, g63_79, g63_82, g63_83, g63_84, g63_85, g63_88, g63_90, g63_93, g63_96, g63_98, g63_99, g63_100, g63_103, g63_105, g63_108, g63_111, g63_113, g63_116, g63_117, rz_k_inl, rz_k_inr, Option.toList_some, Option.toList_none, List.cons_append, List.nil_append, List.append_nil, rz_up_s, rz_u_s, rz_up_n, rz_u_n, ne_eq, not_false_eq_true, not_true_eq_false, Nat.add_assoc, Nat.reduceAdd, reduceIte, Nat.add_eq_left, Nat.left_eq_add, Nat.add_left_cancel_iff, Nat.reduceEqDiff, Nat.add_right_cancel_iff, rz_nb0, rz_nb1, rz_nbb, rz_nbi, rz_isr, rz_zle, if_true, if_false, rz_bi0, rz_bi1, Bool.not_eq_true, Bool.not_eq_false, Bool.true_eq_false, Bool.false_eq_true, rz_ix_lit, cl_lit, Nat.reduceLT, bi_t, bi_f, decide_true, decide_false, Bool.not_false, Bool.not_true, Bool.and_true, Bool.true_and, Bool.and_false, Bool.false_and, oLt_c o1, oLt_f0 o1, oLt_v0 o1, oLt_f1 o1, oLt_v1 o1, oTp_c, oTp_f0, oTp_v0, oTp_i1, oTp_i2, oTp_i3, oTp_i4, oTp_i5, oTp_i6, oTp_a1, oTp_n1, o1, o2, W6, a6, W7, a7, W8, a8, W9, a9, W10, a10, W11, a11, W12, a12, W13, a13]
                | false =>
                  rw [c13] at W13
                  have lw : lwW (ι (t + 1)) q r = 0 := by unfold lwW; rw [c4, c5, c6, c7, c8, c9, c10, c11, c12, c13]; rfl
                  rw [lw, if_pos rfl, e63]
                  simp (decide := true) (maxDischargeDepth := 4) only [g63_0, g63_1, g63_4, g63_6, g63_9, g63_12, g63_13, g63_14, g63_15, g63_18, g63_20, g63_23, g63_26, g63_27, g63_28, g63_29, g63_32, g63_34, g63_37, g63_40, g63_41, g63_42, g63_43, g63_46, g63_48, g63_51, g63_54, g63_55, g63_56, g63_57, g63_60, g63_62, g63_65, g63_68, g63_69, g63_70, g63_71, g63_74, g63_76, g63_79, g63_82, g63_83, g63_84, g63_85, g63_88, g63_90, g63_93, g63_96, g63_98, g63_99, g63_100, g63_103, g63_105, g63_108, g63_111, g63_113, g63_116, g63_117, rz_k_inl, rz_k_inr, Option.toList_some, Option.toList_none, List.cons_append, List.nil_append, List.append_nil, rz_up_s, rz_u_s, rz_up_n, rz_u_n, ne_eq, not_false_eq_true, not_true_eq_false, Nat.add_assoc, Nat.reduceAdd, reduceIte, Nat.add_eq_left, Nat.left_eq_add, Nat.add_left_cancel_iff, Nat.reduceEqDiff, Nat.add_right_cancel_iff, rz_nb0, rz_nb1, rz_nbb, rz_nbi, rz_isr, rz_zle, if_true, if_false, rz_bi0, rz_bi1, Bool.not_eq_true, Bool.not_eq_false, Bool.true_eq_false, Bool.false_eq_true, rz_ix_lit, cl_lit, Nat.reduceLT, bi_t, bi_f, decide_true, decide_false, Bool.not_false, Bool.not_true, Bool.and_true, Bool.true_and, Bool.and_false, Bool.false_and, oLt_c o1, oLt_f0 o1, oLt_v0 o1, oLt_f1 o1, oLt_v1 o1, oTp_c, oTp_f0, oTp_v0, oTp_i1, oTp_i2, oTp_i3, oTp_i4, oTp_i5, oTp_i6, oTp_a1, oTp_n1, o1, o2, W6, a6, W7, a7, W8, a8, W9, a9, W10, a10, W11, a11, W12, a12, W13, a13]
theorem lq_unit {e n o p : Nat} {C : List (Nat × Nat)} (hst : stH Z h) (O : lqO Z h t a l) (he : ι0 t 1 = nI e) (he6 : e ≤ 150) (HS : lqH Z h w t a l e ι0 n 0 56 3 10) (ho : o ≤ 6) (hpe : p ≤ e) (hC : C.length ≤ p) (hn : 4 * (e - p) + 1 < n + 1) (hd : 4 * (6 - o) + 8 ≤ d + 8) (i : lqI t l ι0 ι C p) : lqC Z h w t l ι0 (d + 8) 58 [.ref a, .int (nI o)] ι (lwO (ι0 (t + 1)) e (lwP (ι0 (t + 1)) e n) o C p) := by
  have OO := O
  obtain ⟨o1, o2, o3, o4, o5⟩ := O
  have hsk := sk_le (B := ι0 (t + 1)) hpe
  have hge := sk_ge (ι0 (t + 1)) e p
  have e1 : ι t 1 = nI e := i.1.2.1.trans he
  have eB := i.by OO
  have nn := tp_nextIsNumber (Z := Z) (d := d + 5) (w := w) o2 o4 e1 i.2.2.2.1 hpe (by omega)
  rw [eB] at nn
  have i1 : lqI t l ι0 (rz_up ι t 2 (nI (sk (ι0 (t + 1)) e p))) C (sk (ι0 (t + 1)) e p) := i.tp OO ⟨⟨fun x hx => by rw [rz_up_n hx], by rw [rz_up_s, rz_u_n (by omega)], by rw [rz_up_s, rz_u_n (by omega)]⟩, by rw [rz_up_s, rz_u_n (by omega)], by rw [rz_up_s, rz_u_n (by omega)], by rw [rz_up_s, rz_u_s]⟩
  generalize rz_up ι t 2 (nI (sk (ι0 (t + 1)) e p)) = ι1 at nn i1
  have e11 : ι1 t 1 = nI e := i1.1.2.1.trans he
  have eB1 := i1.by OO
  unfold lwO
  cases hD : isD (sg (ι0 (t + 1)) e (sk (ι0 (t + 1)) e p)) with
  | true =>
    rw [hD] at nn
    rw [if_pos rfl]
    cases n1 : nmN (ι0 (t + 1)) e 999 p with
    | inr f =>
      obtain ⟨ι2, k1, k2⟩ := tp_num_no (Z := Z) (d := d + 4) (w := w) o2 o4 e11 i1.2.2.2.1 hsk (by omega) (m := 999) (by rw [eB1]; exact nmN_no (by rw [nmN_sk]; exact n1))
      refine ⟨ι2, ?_, i1.no k2⟩
      rw [e58]
      simp (decide := true) (maxDischargeDepth := 4) only [g58_0, g58_1, g58_4, g58_7, g58_10, g58_11, g58_14, g58_17, g58_20, g58_21, g58_22, g58_23, g58_26, g58_27, g58_29, g58_30, g58_31, g58_34, g58_37, g58_38, g58_41, g58_42, g58_43, g58_44, g58_47, g58_50, g58_51, g58_54, g58_56, g58_59, g58_62, g58_63, g58_64, g58_67, g58_68, g58_69, g58_72, g58_74, g58_77, g58_80, g58_81, g58_82, g58_83, g58_86, g58_87, g58_88, g58_91, g58_93, g58_96, g58_99, g58_100, g58_101, g58_103, g58_106, g58_107, g58_108, g58_111, g58_112, g58_113, g58_114, g58_117, g58_118, g58_121, g58_122, g58_125, g58_128, g58_129, g58_131, g58_132, g58_133, g58_136, rz_k_inl, rz_k_inr, Option.toList_some, Option.toList_none, List.cons_append, List.nil_append, List.append_nil, rz_up_s, rz_u_s, rz_up_n, rz_u_n, ne_eq, not_false_eq_true, not_true_eq_false, Nat.add_assoc, Nat.reduceAdd, reduceIte, Nat.add_eq_left, Nat.left_eq_add, Nat.add_left_cancel_iff, Nat.reduceEqDiff, Nat.add_right_cancel_iff, rz_nb0, rz_nb1, rz_nbb, rz_nbi, rz_isr, rz_zle, if_true, if_false, rz_bi0, rz_bi1, Bool.not_eq_true, Bool.not_eq_false, Bool.true_eq_false, Bool.false_eq_true, rz_ix_lit, cl_lit, Nat.reduceLT, bi_t, bi_f, decide_true, decide_false, Bool.not_false, Bool.not_true, Bool.and_true, Bool.true_and, Bool.and_false, Bool.false_and, oLt_c o1, oLt_f0 o1, oLt_v0 o1, oLt_f1 o1, oLt_v1 o1, oTp_c, oTp_f0, oTp_v0, oTp_i1, oTp_i2, oTp_i3, oTp_i4, oTp_i5, oTp_i6, oTp_a1, oTp_n1, o1, o2, nn, k1]
    | inl x =>
      obtain ⟨x1, x2, x3⟩ := nmN_le (k := 999) hpe (by decide) n1
      obtain ⟨b1, -, -, -, -⟩ := nmN_ok hsk (show nmN (ι0 (t + 1)) e 999 (sk (ι0 (t + 1)) e p) = .inl (x.1, x.2) by rw [nmN_sk]; exact n1)
      obtain ⟨ι2, k1, k2⟩ := tp_num_ok (Z := Z) (d := d + 4) (w := w) o2 o4 e11 i1.2.2.2.1 hsk (by omega) (by rw [eB1]; exact b1)
      obtain ⟨ι3, l1, l2⟩ := lq_put (Z := Z) (d := d + 5) (w := w) (q := (0, x.1)) OO (i1.tp OO k2) (by omega)
      rw [lwE_0] at l1
      have m1 := nI_m1 (show x.1 < 2147483648 by omega)
      refine ⟨ι3, ?_, l2⟩
      rw [e58]
      simp (decide := true) (maxDischargeDepth := 4) only [g58_0, g58_1, g58_4, g58_7, g58_10, g58_11, g58_14, g58_17, g58_20, g58_21, g58_22, g58_23, g58_26, g58_27, g58_29, g58_30, g58_31, g58_34, g58_37, g58_38, g58_41, g58_42, g58_43, g58_44, g58_47, g58_50, g58_51, g58_54, g58_56, g58_59, g58_62, g58_63, g58_64, g58_67, g58_68, g58_69, g58_72, g58_74, g58_77, g58_80, g58_81, g58_82, g58_83, g58_86, g58_87, g58_88, g58_91, g58_93, g58_96, g58_99, g58_100, g58_101, g58_103, g58_106, g58_107, g58_108, g58_111, g58_112, g58_113, g58_114, g58_117, g58_118, g58_121, g58_122, g58_125, g58_128, g58_129, g58_131, g58_132, g58_133, g58_136, rz_k_inl, rz_k_inr, Option.toList_some, Option.toList_none, List.cons_append, List.nil_append, List.append_nil, rz_up_s, rz_u_s, rz_up_n, rz_u_n, ne_eq, not_false_eq_true, not_true_eq_false, Nat.add_assoc, Nat.reduceAdd, reduceIte, Nat.add_eq_left, Nat.left_eq_add, Nat.add_left_cancel_iff, Nat.reduceEqDiff, Nat.add_right_cancel_iff, rz_nb0, rz_nb1, rz_nbb, rz_nbi, rz_isr, rz_zle, if_true, if_false, rz_bi0, rz_bi1, Bool.not_eq_true, Bool.not_eq_false, Bool.true_eq_false, Bool.false_eq_true, rz_ix_lit, cl_lit, Nat.reduceLT, bi_t, bi_f, decide_true, decide_false, Bool.not_false, Bool.not_true, Bool.and_true, Bool.true_and, Bool.and_false, Bool.false_and, oLt_c o1, oLt_f0 o1, oLt_v0 o1, oLt_f1 o1, oLt_v1 o1, oTp_c, oTp_f0, oTp_v0, oTp_i1, oTp_i2, oTp_i3, oTp_i4, oTp_i5, oTp_i6, oTp_a1, oTp_n1, o1, o2, nn, k1, m1, nI_La, l1]
  | false =>
    rw [hD] at nn
    rw [if_neg (by decide)]
    obtain ⟨ι2, k1, k2, k3⟩ := tq_word (Z := Z) (d := d + 5) (w := w) o2 o4 e11 i1.2.2.2.1 hsk (by omega)
    rw [eB1, wdR_sk] at k2
    rw [eB1, sk_sk] at k3
    have i2 := i1.tp OO k2
    have e12 : ι2 t 1 = nI e := i2.1.2.1.trans he
    have eB2 := i2.by OO
    obtain ⟨w1, w2⟩ := wdR_le (B := ι0 (t + 1)) hpe
    obtain ⟨v3, s3⟩ : ∃ v, oSt h (Z.2.2.2 4) v (WD 3) := hst 3 (by omega)
    obtain ⟨v4, s4⟩ : ∃ v, oSt h (Z.2.2.2 5) v (WD 4) := hst 4 (by omega)
    obtain ⟨v5, s5⟩ : ∃ v, oSt h (Z.2.2.2 6) v (WD 5) := hst 5 (by omega)
    obtain ⟨v6, s6⟩ : ∃ v, oSt h (Z.2.2.2 7) v (WD 6) := hst 6 (by omega)
    obtain ⟨v7, s7⟩ : ∃ v, oSt h (Z.2.2.2 8) v (WD 7) := hst 7 (by omega)
    obtain ⟨v8, s8⟩ : ∃ v, oSt h (Z.2.2.2 9) v (WD 8) := hst 8 (by omega)
    obtain ⟨v9, s9⟩ : ∃ v, oSt h (Z.2.2.2 10) v (WD 9) := hst 9 (by omega)
    obtain ⟨v10, s10⟩ : ∃ v, oSt h (Z.2.2.2 11) v (WD 10) := hst 10 (by omega)
    obtain ⟨v11, s11⟩ : ∃ v, oSt h (Z.2.2.2 12) v (WD 11) := hst 11 (by omega)
    obtain ⟨v12, s12⟩ : ∃ v, oSt h (Z.2.2.2 13) v (WD 12) := hst 12 (by omega)
    obtain ⟨v13, s13⟩ : ∃ v, oSt h (Z.2.2.2 14) v (WD 13) := hst 13 (by omega)
    have W3 := tp_wordIs (Z := Z) (d := d + 2) (w := w) o2 s3 e12 i2.2.2.2.1 k3 w1 w2 (by omega)
    have a3 : rz_ar h (Z.2.2.2 4) 9 := ⟨_, _, s3.1⟩
    rw [eB2] at W3
    have W4 := tp_wordIs (Z := Z) (d := d + 2) (w := w) o2 s4 e12 i2.2.2.2.1 k3 w1 w2 (by omega)
    have a4 : rz_ar h (Z.2.2.2 5) 9 := ⟨_, _, s4.1⟩
    rw [eB2] at W4
    have W5 := tp_wordIs (Z := Z) (d := d + 2) (w := w) o2 s5 e12 i2.2.2.2.1 k3 w1 w2 (by omega)
    have a5 : rz_ar h (Z.2.2.2 6) 9 := ⟨_, _, s5.1⟩
    rw [eB2] at W5
    cases c3 : wdIs (ι0 (t + 1)) (sk (ι0 (t + 1)) e p) (wdR (ι0 (t + 1)) e p) (WD 3) with
    | true =>
      rw [c3] at W3
      rw [if_pos rfl]
      have weq : wdR (ι0 (t + 1)) e p = sk (ι0 (t + 1)) e p := by
        unfold wdIs at c3
        split at c3
        · rename_i hl
          have hl : wdR (ι0 (t + 1)) e p - sk (ι0 (t + 1)) e p = 0 := hl
          omega
        · cases c3
      rw [weq] at i2
      have Bq := lq_bracket (Z := Z) (d := d) (w := w) OO he he6 HS ho hpe hC hn hd i2 k3
      revert Bq
      generalize lwI1 (ι0 (t + 1)) e (lwP (ι0 (t + 1)) e n) o C p = X
      intro Bq
      cases X with
      | inl s =>
        obtain ⟨ι3, l1, l2⟩ := Bq
        refine ⟨ι3, ?_, l2⟩
        rw [e58]
        simp (decide := true) (maxDischargeDepth := 4) only [g58_0, g58_1, g58_4, g58_7, g58_10, g58_11, g58_14, g58_17, g58_20, g58_21, g58_22, g58_23, g58_26, g58_27, g58_29, g58_30, g58_31, g58_34, g58_37, g58_38, g58_41, g58_42, g58_43, g58_44, g58_47, g58_50, g58_51, g58_54, g58_56, g58_59, g58_62, g58_63, g58_64, g58_67, g58_68, g58_69, g58_72, g58_74, g58_77, g58_80, g58_81, g58_82, g58_83, g58_86, g58_87, g58_88, g58_91, g58_93, g58_96, g58_99, g58_100, g58_101, g58_103, g58_106, g58_107, g58_108, g58_111, g58_112, g58_113, g58_114, g58_117, g58_118, g58_121, g58_122, g58_125, g58_128, g58_129, g58_131, g58_132, g58_133, g58_136, rz_k_inl, rz_k_inr, Option.toList_some, Option.toList_none, List.cons_append, List.nil_append, List.append_nil, rz_up_s, rz_u_s, rz_up_n, rz_u_n, ne_eq, not_false_eq_true, not_true_eq_false, Nat.add_assoc, Nat.reduceAdd, reduceIte, Nat.add_eq_left, Nat.left_eq_add, Nat.add_left_cancel_iff, Nat.reduceEqDiff, Nat.add_right_cancel_iff, rz_nb0, rz_nb1, rz_nbb, rz_nbi, rz_isr, rz_zle, if_true, if_false, rz_bi0, rz_bi1, Bool.not_eq_true, Bool.not_eq_false, Bool.true_eq_false, Bool.false_eq_true, rz_ix_lit, cl_lit, Nat.reduceLT, bi_t, bi_f, decide_true, decide_false, Bool.not_false, Bool.not_true, Bool.and_true, Bool.true_and, Bool.and_false, Bool.false_and, oLt_c o1, oLt_f0 o1, oLt_v0 o1, oLt_f1 o1, oLt_v1 o1, oTp_c, oTp_f0, oTp_v0, oTp_i1, oTp_i2, oTp_i3, oTp_i4, oTp_i5, oTp_i6, oTp_a1, oTp_n1, o1, o2, nn, k1, W3, a3, l1]
      | inr f =>
        obtain ⟨ι3, l1, l2⟩ := Bq
        refine ⟨ι3, ?_, l2⟩
        rw [e58]
        simp (decide := true) (maxDischargeDepth := 4) only [g58_0, g58_1, g58_4, g58_7, g58_10, g58_11, g58_14, g58_17, g58_20, g58_21, g58_22, g58_23, g58_26, g58_27, g58_29, g58_30, g58_31, g58_34, g58_37, g58_38, g58_41, g58_42, g58_43, g58_44, g58_47, g58_50, g58_51, g58_54, g58_56, g58_59, g58_62, g58_63, g58_64, g58_67, g58_68, g58_69, g58_72, g58_74, g58_77, g58_80, g58_81, g58_82, g58_83, g58_86, g58_87, g58_88, g58_91, g58_93, g58_96, g58_99, g58_100, g58_101, g58_103, g58_106, g58_107, g58_108, g58_111, g58_112, g58_113, g58_114, g58_117, g58_118, g58_121, g58_122, g58_125, g58_128, g58_129, g58_131, g58_132, g58_133, g58_136, rz_k_inl, rz_k_inr, Option.toList_some, Option.toList_none, List.cons_append, List.nil_append, List.append_nil, rz_up_s, rz_u_s, rz_up_n, rz_u_n, ne_eq, not_false_eq_true, not_true_eq_false, Nat.add_assoc, Nat.reduceAdd, reduceIte, Nat.add_eq_left, Nat.left_eq_add, Nat.add_left_cancel_iff, Nat.reduceEqDiff, Nat.add_right_cancel_iff, rz_nb0, rz_nb1, rz_nbb, rz_nbi, rz_isr, rz_zle, if_true, if_false, rz_bi0, rz_bi1, Bool.not_eq_true, Bool.not_eq_false, Bool.true_eq_false, Bool.false_eq_true, rz_ix_lit, cl_lit, Nat.reduceLT, bi_t, bi_f, decide_true, decide_false, Bool.not_false, Bool.not_true, Bool.and_true, Bool.true_and, Bool.and_false, Bool.false_and, oLt_c o1, oLt_f0 o1, oLt_v0 o1, oLt_f1 o1, oLt_v1 o1, oTp_c, oTp_f0, oTp_v0, oTp_i1, oTp_i2, oTp_i3, oTp_i4, oTp_i5, oTp_i6, oTp_a1, oTp_n1, o1, o2, nn, k1, W3, a3, l1]
    | false =>
      rw [c3] at W3
      rw [if_neg (by decide)]
      have hlt : sk (ι0 (t + 1)) e p < wdR (ι0 (t + 1)) e p := wd_ne w1 (by rw [c3]; decide)
      cases c4 : wdIs (ι0 (t + 1)) (sk (ι0 (t + 1)) e p) (wdR (ι0 (t + 1)) e p) (WD 4) with
      | true =>
        rw [c4] at W4
        have lw : lwW (ι0 (t + 1)) (sk (ι0 (t + 1)) e p) (wdR (ι0 (t + 1)) e p) = 7 := by unfold lwW; rw [c4]; rfl
        rw [lw, if_pos (by decide)]
        have Bq := lq_chosen (Z := Z) (d := d) (w := w) (j := 7) OO he he6 HS ho hpe hC hn hd (by omega) hlt i2 k3
        rw [show lwE (7, 0) = 5 from rfl] at Bq
        revert Bq
        generalize lwI2 (ι0 (t + 1)) e (lwP (ι0 (t + 1)) e n) o C p 7 = X
        intro Bq
        cases X with
        | inl s =>
          obtain ⟨ι3, l1, l2⟩ := Bq
          refine ⟨ι3, ?_, l2⟩
          rw [e58]
          simp (decide := true) (maxDischargeDepth := 4) only [g58_0, g58_1, g58_4, g58_7, g58_10, g58_11, g58_14, g58_17, g58_20, g58_21, g58_22, g58_23, g58_26, g58_27, g58_29, g58_30, g58_31, g58_34, g58_37, g58_38, g58_41, g58_42, g58_43, g58_44, g58_47, g58_50, g58_51, g58_54, g58_56, g58_59, g58_62, g58_63, g58_64, g58_67, g58_68, g58_69, g58_72, g58_74, g58_77, g58_80, g58_81, g58_82, g58_83, g58_86, g58_87, g58_88, g58_91, g58_93, g58_96, g58_99, g58_100, g58_101, g58_103, g58_106, g58_107, g58_108, g58_111, g58_112, g58_113, g58_114, g58_117, g58_118, g58_121, g58_122, g58_125, g58_128, g58_129, g58_131, g58_132, g58_133, g58_136, rz_k_inl, rz_k_inr, Option.toList_some, Option.toList_none, List.cons_append, List.nil_append, List.append_nil, rz_up_s, rz_u_s, rz_up_n, rz_u_n, ne_eq, not_false_eq_true, not_true_eq_false, Nat.add_assoc, Nat.reduceAdd, reduceIte, Nat.add_eq_left, Nat.left_eq_add, Nat.add_left_cancel_iff, Nat.reduceEqDiff, Nat.add_right_cancel_iff, rz_nb0, rz_nb1, rz_nbb, rz_nbi, rz_isr, rz_zle, if_true, if_false, rz_bi0, rz_bi1, Bool.not_eq_true, Bool.not_eq_false, Bool.true_eq_false, Bool.false_eq_true, rz_ix_lit, cl_lit, Nat.reduceLT, bi_t, bi_f, decide_true, decide_false, Bool.not_false, Bool.not_true, Bool.and_true, Bool.true_and, Bool.and_false, Bool.false_and, oLt_c o1, oLt_f0 o1, oLt_v0 o1, oLt_f1 o1, oLt_v1 o1, oTp_c, oTp_f0, oTp_v0, oTp_i1, oTp_i2, oTp_i3, oTp_i4, oTp_i5, oTp_i6, oTp_a1, oTp_n1, o1, o2, nn, k1, W3, a3, W4, a4, l1]
        | inr f =>
          obtain ⟨ι3, l1, l2⟩ := Bq
          refine ⟨ι3, ?_, l2⟩
          rw [e58]
          simp (decide := true) (maxDischargeDepth := 4) only [g58_0, g58_1, g58_4, g58_7, g58_10, g58_11, g58_14, g58_17, g58_20, g58_21, g58_22, g58_23, g58_26, g58_27, g58_29, g58_30, g58_31, g58_34, g58_37, g58_38, g58_41, g58_42, g58_43, g58_44, g58_47, g58_50, g58_51, g58_54, g58_56, g58_59, g58_62, g58_63, g58_64, g58_67, g58_68, g58_69, g58_72, g58_74, g58_77, g58_80, g58_81, g58_82, g58_83, g58_86, g58_87, g58_88, g58_91, g58_93, g58_96, g58_99, g58_100, g58_101, g58_103, g58_106, g58_107, g58_108, g58_111, g58_112, g58_113, g58_114, g58_117, g58_118, g58_121, g58_122, g58_125, g58_128, g58_129, g58_131, g58_132, g58_133, g58_136, rz_k_inl, rz_k_inr, Option.toList_some, Option.toList_none, List.cons_append, List.nil_append, List.append_nil, rz_up_s, rz_u_s, rz_up_n, rz_u_n, ne_eq, not_false_eq_true, not_true_eq_false, Nat.add_assoc, Nat.reduceAdd, reduceIte, Nat.add_eq_left, Nat.left_eq_add, Nat.add_left_cancel_iff, Nat.reduceEqDiff, Nat.add_right_cancel_iff, rz_nb0, rz_nb1, rz_nbb, rz_nbi, rz_isr, rz_zle, if_true, if_false, rz_bi0, rz_bi1, Bool.not_eq_true, Bool.not_eq_false, Bool.true_eq_false, Bool.false_eq_true, rz_ix_lit, cl_lit, Nat.reduceLT, bi_t, bi_f, decide_true, decide_false, Bool.not_false, Bool.not_true, Bool.and_true, Bool.true_and, Bool.and_false, Bool.false_and, oLt_c o1, oLt_f0 o1, oLt_v0 o1, oLt_f1 o1, oLt_v1 o1, oTp_c, oTp_f0, oTp_v0, oTp_i1, oTp_i2, oTp_i3, oTp_i4, oTp_i5, oTp_i6, oTp_a1, oTp_n1, o1, o2, nn, k1, W3, a3, W4, a4, l1]
      | false =>
        rw [c4] at W4
        cases c5 : wdIs (ι0 (t + 1)) (sk (ι0 (t + 1)) e p) (wdR (ι0 (t + 1)) e p) (WD 5) with
        | true =>
          rw [c5] at W5
          have lw : lwW (ι0 (t + 1)) (sk (ι0 (t + 1)) e p) (wdR (ι0 (t + 1)) e p) = 8 := by unfold lwW; rw [c4, c5]; rfl
          rw [lw, if_pos (by decide)]
          have Bq := lq_chosen (Z := Z) (d := d) (w := w) (j := 8) OO he he6 HS ho hpe hC hn hd (by omega) hlt i2 k3
          rw [show lwE (8, 0) = 6 from rfl] at Bq
          revert Bq
          generalize lwI2 (ι0 (t + 1)) e (lwP (ι0 (t + 1)) e n) o C p 8 = X
          intro Bq
          cases X with
          | inl s =>
            obtain ⟨ι3, l1, l2⟩ := Bq
            refine ⟨ι3, ?_, l2⟩
            rw [e58]
            simp (decide := true) (maxDischargeDepth := 4) only [g58_0, g58_1, g58_4, g58_7, g58_10, g58_11, g58_14, g58_17, g58_20, g58_21, g58_22, g58_23, g58_26, g58_27, g58_29, g58_30, g58_31, g58_34, g58_37, g58_38, g58_41, g58_42, g58_43, g58_44, g58_47, g58_50, g58_51, g58_54, g58_56, g58_59, g58_62, g58_63, g58_64, g58_67, g58_68, g58_69, g58_72, g58_74, g58_77, g58_80, g58_81, g58_82, g58_83, g58_86, g58_87, g58_88, g58_91, g58_93, g58_96, g58_99, g58_100, g58_101, g58_103, g58_106, g58_107, g58_108, g58_111, g58_112, g58_113, g58_114, g58_117, g58_118, g58_121, g58_122, g58_125, g58_128, g58_129, g58_131, g58_132, g58_133, g58_136, rz_k_inl, rz_k_inr, Option.toList_some, Option.toList_none, List.cons_append, List.nil_append, List.append_nil, rz_up_s, rz_u_s, rz_up_n, rz_u_n, ne_eq, not_false_eq_true, not_true_eq_false, Nat.add_assoc, Nat.reduceAdd, reduceIte, Nat.add_eq_left, Nat.left_eq_add, Nat.add_left_cancel_iff, Nat.reduceEqDiff, Nat.add_right_cancel_iff, rz_nb0, rz_nb1, rz_nbb, rz_nbi, rz_isr, rz_zle, if_true, if_false, rz_bi0, rz_bi1, Bool.not_eq_true, Bool.not_eq_false, Bool.true_eq_false, Bool.false_eq_true, rz_ix_lit, cl_lit, Nat.reduceLT, bi_t, bi_f, decide_true, decide_false, Bool.not_false, Bool.not_true, Bool.and_true, Bool.true_and, Bool.and_false, Bool.false_and, oLt_c o1, oLt_f0 o1, oLt_v0 o1, oLt_f1 o1, oLt_v1 o1, oTp_c, oTp_f0, oTp_v0, oTp_i1, oTp_i2, oTp_i3, oTp_i4, oTp_i5, oTp_i6, oTp_a1, oTp_n1, o1, o2, nn, k1, W3, a3, W4, a4, W5, a5, l1]
          | inr f =>
            obtain ⟨ι3, l1, l2⟩ := Bq
            refine ⟨ι3, ?_, l2⟩
            rw [e58]
            simp (decide := true) (maxDischargeDepth := 4) only [g58_0, g58_1, g58_4, g58_7, g58_10, g58_11, g58_14, g58_17, g58_20, g58_21, g58_22, g58_23, g58_26, g58_27, g58_29, g58_30, g58_31, g58_34, g58_37, g58_38, g58_41, g58_42, g58_43, g58_44, g58_47, g58_50, g58_51, g58_54, g58_56, g58_59, g58_62, g58_63, g58_64, g58_67, g58_68, g58_69, g58_72, g58_74, g58_77, g58_80, g58_81, g58_82, g58_83, g58_86, g58_87, g58_88, g58_91, g58_93, g58_96, g58_99, g58_100, g58_101, g58_103, g58_106, g58_107, g58_108, g58_111, g58_112, g58_113, g58_114, g58_117, g58_118, g58_121, g58_122, g58_125, g58_128, g58_129, g58_131, g58_132, g58_133, g58_136, rz_k_inl, rz_k_inr, Option.toList_some, Option.toList_none, List.cons_append, List.nil_append, List.append_nil, rz_up_s, rz_u_s, rz_up_n, rz_u_n, ne_eq, not_false_eq_true, not_true_eq_false, Nat.add_assoc, Nat.reduceAdd, reduceIte, Nat.add_eq_left, Nat.left_eq_add, Nat.add_left_cancel_iff, Nat.reduceEqDiff, Nat.add_right_cancel_iff, rz_nb0, rz_nb1, rz_nbb, rz_nbi, rz_isr, rz_zle, if_true, if_false, rz_bi0, rz_bi1, Bool.not_eq_true, Bool.not_eq_false, Bool.true_eq_false, Bool.false_eq_true, rz_ix_lit, cl_lit, Nat.reduceLT, bi_t, bi_f, decide_true, decide_false, Bool.not_false, Bool.not_true, Bool.and_true, Bool.true_and, Bool.and_false, Bool.false_and, oLt_c o1, oLt_f0 o1, oLt_v0 o1, oLt_f1 o1, oLt_v1 o1, oTp_c, oTp_f0, oTp_v0, oTp_i1, oTp_i2, oTp_i3, oTp_i4, oTp_i5, oTp_i6, oTp_a1, oTp_n1, o1, o2, nn, k1, W3, a3, W4, a4, W5, a5, l1]
        | false =>
          rw [c5] at W5
          have sn := lq_seen (Z := Z) (d := d + 1) (w := w) s6 s7 s8 s9 s10 s11 s12 s13 OO e12 i2.2.2.2.1 k3 w1 w2 (by omega) (by rw [eB2]; exact c4) (by rw [eB2]; exact c5)
          rw [eB2] at sn
          have hcs := lwW_c (ι0 (t + 1)) (sk (ι0 (t + 1)) e p) (wdR (ι0 (t + 1)) e p)
          have n7 : lwW (ι0 (t + 1)) (sk (ι0 (t + 1)) e p) (wdR (ι0 (t + 1)) e p) ≠ 7 ∧ lwW (ι0 (t + 1)) (sk (ι0 (t + 1)) e p) (wdR (ι0 (t + 1)) e p) ≠ 8 := by
            unfold lwW
            rw [c4, c5, if_neg (by decide), if_neg (by decide)]
            constructor <;> (repeat' split) <;> omega
          generalize lwW (ι0 (t + 1)) (sk (ι0 (t + 1)) e p) (wdR (ι0 (t + 1)) e p) = v at sn hcs n7
          rw [if_neg (by omega)]
          by_cases h0 : v = 0
          · rw [if_pos h0]
            rw [if_pos h0] at sn
            obtain ⟨ι3, m1, m2⟩ := tq_blameT (Z := Z) (d := d + 6) (w := w) (f := 1) o2 o4 k3
            rw [show nI 1 = 1 from rfl] at m1
            refine ⟨ι3, ?_, i2.no m2⟩
            rw [e58]
            simp (decide := true) (maxDischargeDepth := 4) only [g58_0, g58_1, g58_4, g58_7, g58_10, g58_11, g58_14, g58_17, g58_20, g58_21, g58_22, g58_23, g58_26, g58_27, g58_29, g58_30, g58_31, g58_34, g58_37, g58_38, g58_41, g58_42, g58_43, g58_44, g58_47, g58_50, g58_51, g58_54, g58_56, g58_59, g58_62, g58_63, g58_64, g58_67, g58_68, g58_69, g58_72, g58_74, g58_77, g58_80, g58_81, g58_82, g58_83, g58_86, g58_87, g58_88, g58_91, g58_93, g58_96, g58_99, g58_100, g58_101, g58_103, g58_106, g58_107, g58_108, g58_111, g58_112, g58_113, g58_114, g58_117, g58_118, g58_121, g58_122, g58_125, g58_128, g58_129, g58_131, g58_132, g58_133, g58_136, rz_k_inl, rz_k_inr, Option.toList_some, Option.toList_none, List.cons_append, List.nil_append, List.append_nil, rz_up_s, rz_u_s, rz_up_n, rz_u_n, ne_eq, not_false_eq_true, not_true_eq_false, Nat.add_assoc, Nat.reduceAdd, reduceIte, Nat.add_eq_left, Nat.left_eq_add, Nat.add_left_cancel_iff, Nat.reduceEqDiff, Nat.add_right_cancel_iff, rz_nb0, rz_nb1, rz_nbb, rz_nbi, rz_isr, rz_zle, if_true, if_false, rz_bi0, rz_bi1, Bool.not_eq_true, Bool.not_eq_false, Bool.true_eq_false, Bool.false_eq_true, rz_ix_lit, cl_lit, Nat.reduceLT, bi_t, bi_f, decide_true, decide_false, Bool.not_false, Bool.not_true, Bool.and_true, Bool.true_and, Bool.and_false, Bool.false_and, oLt_c o1, oLt_f0 o1, oLt_v0 o1, oLt_f1 o1, oLt_v1 o1, oTp_c, oTp_f0, oTp_v0, oTp_i1, oTp_i2, oTp_i3, oTp_i4, oTp_i5, oTp_i6, oTp_a1, oTp_n1, o1, o2, nn, k1, W3, a3, W4, a4, W5, a5, sn, m1]
          · rw [if_neg h0]
            rw [if_neg h0] at sn
            obtain ⟨ι3, m1, m2⟩ := lq_put (Z := Z) (d := d + 5) (w := w) (q := (1, v - 10)) OO i2 (by omega)
            rw [lwE_1] at m1
            have q1 := nI_m1 (show v - 10 < 2147483648 by omega)
            refine ⟨ι3, ?_, m2⟩
            rw [e58]
            simp (decide := true) (maxDischargeDepth := 4) only [g58_0, g58_1, g58_4, g58_7, g58_10, g58_11, g58_14, g58_17, g58_20, g58_21, g58_22, g58_23, g58_26, g58_27, g58_29, g58_30, g58_31, g58_34, g58_37, g58_38, g58_41, g58_42, g58_43, g58_44, g58_47, g58_50, g58_51, g58_54, g58_56, g58_59, g58_62, g58_63, g58_64, g58_67, g58_68, g58_69, g58_72, g58_74, g58_77, g58_80, g58_81, g58_82, g58_83, g58_86, g58_87, g58_88, g58_91, g58_93, g58_96, g58_99, g58_100, g58_101, g58_103, g58_106, g58_107, g58_108, g58_111, g58_112, g58_113, g58_114, g58_117, g58_118, g58_121, g58_122, g58_125, g58_128, g58_129, g58_131, g58_132, g58_133, g58_136, rz_k_inl, rz_k_inr, Option.toList_some, Option.toList_none, List.cons_append, List.nil_append, List.append_nil, rz_up_s, rz_u_s, rz_up_n, rz_u_n, ne_eq, not_false_eq_true, not_true_eq_false, Nat.add_assoc, Nat.reduceAdd, reduceIte, Nat.add_eq_left, Nat.left_eq_add, Nat.add_left_cancel_iff, Nat.reduceEqDiff, Nat.add_right_cancel_iff, rz_nb0, rz_nb1, rz_nbb, rz_nbi, rz_isr, rz_zle, if_true, if_false, rz_bi0, rz_bi1, Bool.not_eq_true, Bool.not_eq_false, Bool.true_eq_false, Bool.false_eq_true, rz_ix_lit, cl_lit, Nat.reduceLT, bi_t, bi_f, decide_true, decide_false, Bool.not_false, Bool.not_true, Bool.and_true, Bool.true_and, Bool.and_false, Bool.false_and, oLt_c o1, oLt_f0 o1, oLt_v0 o1, oLt_f1 o1, oLt_v1 o1, oTp_c, oTp_f0, oTp_v0, oTp_i1, oTp_i2, oTp_i3, oTp_i4, oTp_i5, oTp_i6, oTp_a1, oTp_n1, o1, o2, nn, k1, W3, a3, W4, a4, W5, a5, sn, q1, nI_La, m1]
end LAW3
