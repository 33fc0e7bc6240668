/-! the class does WORK -/
theorem wkR.same {R R' : Nat → Int32} {m : Nat} {dk : Option Nat} (h : wkR R m dk) (h56 : R' 56 = R 56) (h57 : R' 57 = R 57) (h58 : R' 58 = R 58) : wkR R' m dk := by
  obtain ⟨a1, a2, a3, a4, a5⟩ := h
  refine ⟨h57.trans a1, a2, h58.trans a3, a4, fun p hp hl => a5 p hp ?_⟩
  unfold rLv at hl ⊢
  rw [h56] at hl
  exact hl
theorem shIs_hi {R : Nat → Int32} {p i : Nat} (hp : p < 8) (hi : 48 ≤ i) : shIs R p i = R i := by
  unfold shIs
  rw [if_neg (by omega)]
theorem wkR.dos {C : List (Nat × Nat)} {R : Nat → Int32} {m : Nat} {dk : Option Nat} {q : TK} (h : wkR R m dk) (hq : plK q) : ∃ m' dk', wkR ((doR C R q).getD R) m' dk' := by
  have hm := h.mo
  unfold plK at hq
  unfold doR
  by_cases q0 : q.1 = 0
  · rw [if_pos q0]
    unfold fgnR
    split
    · exact ⟨m, dk, h.same (rz_u_n (by omega)) (rz_u_n (by omega)) (rz_u_n (by omega))⟩
    · exact ⟨m, dk, h⟩
  · rw [if_neg q0]
    by_cases q1 : q.1 = 1
    · rw [if_pos q1]
      unfold drpR
      split
      · exact ⟨m, dk, h.same (shIs_hi (by omega) (by omega)) (shIs_hi (by omega) (by omega)) (shIs_hi (by omega) (by omega))⟩
      · exact ⟨m, dk, h⟩
    · rw [if_neg q1]
      by_cases q2 : q.1 = 2
      · rw [if_pos q2, hm]
        obtain ⟨m', a1, -⟩ := h.ber q.2.1 q.2.2.1
        exact ⟨m', dk, a1⟩
      · rw [if_neg q2]
        by_cases q3 : q.1 = 3
        · rw [if_pos q3, hm]
          obtain ⟨dk', a1⟩ := h.bur C (p := q.2.1) (by omega)
          exact ⟨m, dk', a1⟩
        · rw [if_neg q3, hm]
          split
          · exact ⟨m, dk, h.yer⟩
          · exact ⟨m, dk, h⟩
section WORK10
variable {Z : rx_Z} {d : Nat} {h : Nat → Option rx_E} {ι ι0 : Nat → Nat → Int32} {w : Nat × Nat} {t a r l : Nat}
theorem rn_part (o1 : oWt h a t) {i k : Nat} (hi : i < 37) (hk : k < 4) : rz_f Z (d + 2) 113 [.ref a, .int (nI i), .int (nI k)] (rz_mk h ι, w) = some (.inl (some (.int (ι (a + 1) (i * 4 + k)))), (rz_mk h ι, w)) := by
  have c1 : (nI i < 0) = False := nI_nn (by omega)
  have c2 : (nI i < 37) = True := by rw [nI_ltL (by omega) (by decide)]; simp [hi]
  have c3 : (!decide (nI k < 0) && !decide ((3 : Int32) < nI k)) = true := by
    have a1 := nI_nn (show k < 2147483648 by omega)
    have a2 : ((3 : Int32) < nI k) = False := by rw [nI_Llt (by omega) (by decide)]; simp; omega
    simp [a1, a2]
  have ix : rz_ix (nI (i * 4 + k)) 148 := rz_ix_nat (by omega) (by omega)
  rw [e113]
  simp (decide := true) (maxDischargeDepth := 4) only [g113_0, g113_1, g113_4, g113_5, g113_7, g113_10, g113_11, g113_12, g113_13, g113_16, g113_19, g113_20, g113_23, g113_24, g113_25, g113_26, g113_27, g113_28, g113_29, g113_32, g113_33, rz_k_inl, rz_k_inr, Option.toList_some, Option.toList_none, List.cons_append, List.nil_append, List.append_nil, rz_up_s, rz_u_s, rz_up_n, rz_u_n, ne_eq, not_false_eq_true, not_true_eq_false, Nat.add_assoc, Nat.reduceAdd, reduceIte, Nat.add_eq_left, Nat.left_eq_add, Nat.add_left_cancel_iff, Nat.reduceEqDiff, Nat.add_right_cancel_iff, rz_nb0, rz_nb1, rz_nbb, rz_nbi, rz_isr, rz_zle, if_true, if_false, rz_bi0, rz_bi1, Bool.not_eq_true, Bool.not_eq_false, Bool.true_eq_false, Bool.false_eq_true, rz_ix_lit, cl_lit, Nat.reduceLT, bi_t, bi_f, decide_true, decide_false, Bool.not_false, Bool.not_true, Bool.and_true, Bool.true_and, Bool.and_false, Bool.false_and, oWt_c o1, oWt_f0 o1, oWt_v0 o1, oWt_f1 o1, oWt_v1 o1, oWt_f2 o1, oWt_v2 o1, oWt_f3 o1, oWt_v3 o1, oWt_i4 o1, oWt_i5 o1, oWt_i6 o1, oWt_i7 o1, oWt_i8 o1, oWt_a1 o1, oWt_n1 o1, oWt_a2 o1, oWt_n2 o1, oWt_a3 o1, oWt_n3 o1, o1, c1, c2, hr_within, c3, nI_mL, nI_add, ix, nI_cl (show i * 4 + k < 2147483648 by omega)]
theorem rn_does {C : List (Nat × Nat)} {m i : Nat} {dk : Option Nat} {q : TK} (o1 : oWt h a t) (hr : oRl h r) (hzr : Z.2.1 ≤ r) (hl : oLw h l) (hzl : Z.2.1 ≤ l) (hlr : l + 4 ≤ r) (hC : lwIs ι l C) (hW : wkR (rl ι r) m dk) (hq : plK q) (hi : i < 37) (ht : tkI ι a i q) : ∃ ι', rz_f Z (d + 6) 118 [.ref a, .ref r, .ref l, .int (nI i), .int (nI q.1)] (rz_mk h ι, w) = some (.inl (some (.int (bi (doR C (rl ι r) q).isSome))), (rz_mk h ι', w)) ∧ rl ι' r = (doR C (rl ι r) q).getD (rl ι r) ∧ fr (rlW r l) ι ι' := by
  have p1 := rn_part (Z := Z) (d := d + 3) (w := w) (ι := ι) (k := 1) o1 hi (by omega)
  have p2 := rn_part (Z := Z) (d := d + 3) (w := w) (ι := ι) (k := 2) o1 hi (by omega)
  have p3 := rn_part (Z := Z) (d := d + 3) (w := w) (ι := ι) (k := 3) o1 hi (by omega)
  rw [show nI 1 = 1 from rfl, ht.2.1] at p1
  rw [show nI 2 = 2 from rfl, ht.2.2.1] at p2
  rw [show nI 3 = 3 from rfl, ht.2.2.2] at p3
  have hm := hW.mo
  have h57 := hW.1
  have hm8 := hW.2.1
  have mono : ∀ J, fr (rlP r) ι J → fr (rlW r l) ι J := fun J f => f.mono (fun x hx => Or.inl hx)
  unfold doR
  rcases hq with ⟨e, b1, b2, b3⟩ | ⟨e, b1⟩ | ⟨e, b1, b2⟩ | ⟨e, b1⟩ | e
  · obtain ⟨ι', s1, s2, s3⟩ := rm_pretend (Z := Z) (d := d + 3) (w := w) (ι := ι) (p := q.2.1) (t := q.2.2.1) hr hzr (by omega) (by omega) (nI q.2.2.2)
    rw [if_pos e, e, show nI 0 = 0 from rfl]
    refine ⟨ι', ?_, s2, mono _ s3⟩
    rw [e118]
    simp (decide := true) (maxDischargeDepth := 4) only [g118_0, g118_1, g118_2, g118_3, g118_6, g118_8, g118_10, g118_40, g118_41, g118_43, g118_44, g118_45, g118_46, g118_49, g118_50, g118_51, g118_52, g118_55, g118_58, g118_59, g118_60, g118_62, g118_65, g118_66, g118_67, g118_69, g118_70, g118_71, g118_72, g118_75, g118_78, g118_79, g118_80, g118_82, g118_83, g118_86, g118_87, g118_88, g118_91, rz_k_inl, rz_k_inr, Option.toList_some, Option.toList_none, List.cons_append, List.nil_append, List.append_nil, rz_up_s, rz_u_s, rz_up_n, rz_u_n, ne_eq, not_false_eq_true, not_true_eq_false, Nat.add_assoc, Nat.reduceAdd, reduceIte, Nat.add_eq_left, Nat.left_eq_add, Nat.add_left_cancel_iff, Nat.reduceEqDiff, Nat.add_right_cancel_iff, rz_nb0, rz_nb1, rz_nbb, rz_nbi, rz_isr, rz_zle, if_true, if_false, rz_bi0, rz_bi1, Bool.not_eq_true, Bool.not_eq_false, Bool.true_eq_false, Bool.false_eq_true, rz_ix_lit, cl_lit, Nat.reduceLT, bi_t, bi_f, decide_true, decide_false, Bool.not_false, Bool.not_true, Bool.and_true, Bool.true_and, Bool.and_false, Bool.false_and, oWt_c o1, oWt_f0 o1, oWt_v0 o1, oWt_f1 o1, oWt_v1 o1, oWt_f2 o1, oWt_v2 o1, oWt_f3 o1, oWt_v3 o1, oWt_i4 o1, oWt_i5 o1, oWt_i6 o1, oWt_i7 o1, oWt_i8 o1, oWt_a1 o1, oWt_n1 o1, oWt_a2 o1, oWt_n2 o1, oWt_a3 o1, oWt_n3 o1, oRl_c, oRl_f0, oRl_v0, oRl_f1, oRl_v1, oRl_f2, oRl_v2, oRl_i3, oRl_i4, oRl_i5, oRl_i6, oRl_i7, oRl_i8, oRl_a1, oRl_n1, oRl_a2, oRl_n2, oRl_a3, oRl_n3, o1, hr, p1, p2, p3, s1]
  · obtain ⟨ι', s1, s2, s3⟩ := rm_unmask (Z := Z) (d := d + 2) (w := w) (ι := ι) (p := q.2.1) hr hzr h57 hm8 (by omega)
    rw [if_neg (by omega), if_pos e, e, hm, show nI 1 = 1 from rfl]
    refine ⟨ι', ?_, s2, mono _ s3⟩
    rw [e118]
    simp (decide := true) (maxDischargeDepth := 4) only [g118_0, g118_1, g118_2, g118_3, g118_6, g118_8, g118_10, g118_40, g118_41, g118_43, g118_44, g118_45, g118_46, g118_49, g118_50, g118_51, g118_52, g118_55, g118_58, g118_59, g118_60, g118_62, g118_65, g118_66, g118_67, g118_69, g118_70, g118_71, g118_72, g118_75, g118_78, g118_79, g118_80, g118_82, g118_83, g118_86, g118_87, g118_88, g118_91, rz_k_inl, rz_k_inr, Option.toList_some, Option.toList_none, List.cons_append, List.nil_append, List.append_nil, rz_up_s, rz_u_s, rz_up_n, rz_u_n, ne_eq, not_false_eq_true, not_true_eq_false, Nat.add_assoc, Nat.reduceAdd, reduceIte, Nat.add_eq_left, Nat.left_eq_add, Nat.add_left_cancel_iff, Nat.reduceEqDiff, Nat.add_right_cancel_iff, rz_nb0, rz_nb1, rz_nbb, rz_nbi, rz_isr, rz_zle, if_true, if_false, rz_bi0, rz_bi1, Bool.not_eq_true, Bool.not_eq_false, Bool.true_eq_false, Bool.false_eq_true, rz_ix_lit, cl_lit, Nat.reduceLT, bi_t, bi_f, decide_true, decide_false, Bool.not_false, Bool.not_true, Bool.and_true, Bool.true_and, Bool.and_false, Bool.false_and, oWt_c o1, oWt_f0 o1, oWt_v0 o1, oWt_f1 o1, oWt_v1 o1, oWt_f2 o1, oWt_v2 o1, oWt_f3 o1, oWt_v3 o1, oWt_i4 o1, oWt_i5 o1, oWt_i6 o1, oWt_i7 o1, oWt_i8 o1, oWt_a1 o1, oWt_n1 o1, oWt_a2 o1, oWt_n2 o1, oWt_a3 o1, oWt_n3 o1, oRl_c, oRl_f0, oRl_v0, oRl_f1, oRl_v1, oRl_f2, oRl_v2, oRl_i3, oRl_i4, oRl_i5, oRl_i6, oRl_i7, oRl_i8, oRl_a1, oRl_n1, oRl_a2, oRl_n2, oRl_a3, oRl_n3, o1, hr, p1, s1, show ¬ ((1 : Int32) = 0) by decide]
  · obtain ⟨ι', s1, s2, s3⟩ := rm_bear (Z := Z) (d := d + 2) (w := w) (ι := ι) (a := q.2.1) (b := q.2.2.1) hr hzr h57 hm8 (by omega) (by omega)
    rw [if_neg (by omega), if_neg (by omega), if_pos e, e, hm, show nI 2 = 2 from rfl]
    refine ⟨ι', ?_, s2, mono _ s3⟩
    rw [e118]
    simp (decide := true) (maxDischargeDepth := 4) only [g118_0, g118_1, g118_2, g118_3, g118_6, g118_8, g118_10, g118_40, g118_41, g118_43, g118_44, g118_45, g118_46, g118_49, g118_50, g118_51, g118_52, g118_55, g118_58, g118_59, g118_60, g118_62, g118_65, g118_66, g118_67, g118_69, g118_70, g118_71, g118_72, g118_75, g118_78, g118_79, g118_80, g118_82, g118_83, g118_86, g118_87, g118_88, g118_91, rz_k_inl, rz_k_inr, Option.toList_some, Option.toList_none, List.cons_append, List.nil_append, List.append_nil, rz_up_s, rz_u_s, rz_up_n, rz_u_n, ne_eq, not_false_eq_true, not_true_eq_false, Nat.add_assoc, Nat.reduceAdd, reduceIte, Nat.add_eq_left, Nat.left_eq_add, Nat.add_left_cancel_iff, Nat.reduceEqDiff, Nat.add_right_cancel_iff, rz_nb0, rz_nb1, rz_nbb, rz_nbi, rz_isr, rz_zle, if_true, if_false, rz_bi0, rz_bi1, Bool.not_eq_true, Bool.not_eq_false, Bool.true_eq_false, Bool.false_eq_true, rz_ix_lit, cl_lit, Nat.reduceLT, bi_t, bi_f, decide_true, decide_false, Bool.not_false, Bool.not_true, Bool.and_true, Bool.true_and, Bool.and_false, Bool.false_and, oWt_c o1, oWt_f0 o1, oWt_v0 o1, oWt_f1 o1, oWt_v1 o1, oWt_f2 o1, oWt_v2 o1, oWt_f3 o1, oWt_v3 o1, oWt_i4 o1, oWt_i5 o1, oWt_i6 o1, oWt_i7 o1, oWt_i8 o1, oWt_a1 o1, oWt_n1 o1, oWt_a2 o1, oWt_n2 o1, oWt_a3 o1, oWt_n3 o1, oRl_c, oRl_f0, oRl_v0, oRl_f1, oRl_v1, oRl_f2, oRl_v2, oRl_i3, oRl_i4, oRl_i5, oRl_i6, oRl_i7, oRl_i8, oRl_a1, oRl_n1, oRl_a2, oRl_n2, oRl_a3, oRl_n3, o1, hr, p1, p2, s1, show ¬ ((2 : Int32) = 0) by decide, show ¬ ((2 : Int32) = 1) by decide]
  · obtain ⟨ι', s1, s2, s3⟩ := rm_bury (Z := Z) (d := d) (w := w) (ι := ι) (p := q.2.1) hr hzr hl hzl (Or.inr hlr) hC h57 hm8 (by omega)
    rw [if_neg (by omega), if_neg (by omega), if_neg (by omega), if_pos e, e, hm, show nI 3 = 3 from rfl]
    refine ⟨ι', ?_, s2, s3⟩
    rw [e118]
    simp (decide := true) (maxDischargeDepth := 4) only [g118_0, g118_1, g118_2, g118_3, g118_6, g118_8, g118_10, g118_40, g118_41, g118_43, g118_44, g118_45, g118_46, g118_49, g118_50, g118_51, g118_52, g118_55, g118_58, g118_59, g118_60, g118_62, g118_65, g118_66, g118_67, g118_69, g118_70, g118_71, g118_72, g118_75, g118_78, g118_79, g118_80, g118_82, g118_83, g118_86, g118_87, g118_88, g118_91, rz_k_inl, rz_k_inr, Option.toList_some, Option.toList_none, List.cons_append, List.nil_append, List.append_nil, rz_up_s, rz_u_s, rz_up_n, rz_u_n, ne_eq, not_false_eq_true, not_true_eq_false, Nat.add_assoc, Nat.reduceAdd, reduceIte, Nat.add_eq_left, Nat.left_eq_add, Nat.add_left_cancel_iff, Nat.reduceEqDiff, Nat.add_right_cancel_iff, rz_nb0, rz_nb1, rz_nbb, rz_nbi, rz_isr, rz_zle, if_true, if_false, rz_bi0, rz_bi1, Bool.not_eq_true, Bool.not_eq_false, Bool.true_eq_false, Bool.false_eq_true, rz_ix_lit, cl_lit, Nat.reduceLT, bi_t, bi_f, decide_true, decide_false, Bool.not_false, Bool.not_true, Bool.and_true, Bool.true_and, Bool.and_false, Bool.false_and, oWt_c o1, oWt_f0 o1, oWt_v0 o1, oWt_f1 o1, oWt_v1 o1, oWt_f2 o1, oWt_v2 o1, oWt_f3 o1, oWt_v3 o1, oWt_i4 o1, oWt_i5 o1, oWt_i6 o1, oWt_i7 o1, oWt_i8 o1, oWt_a1 o1, oWt_n1 o1, oWt_a2 o1, oWt_n2 o1, oWt_a3 o1, oWt_n3 o1, oRl_c, oRl_f0, oRl_v0, oRl_f1, oRl_v1, oRl_f2, oRl_v2, oRl_i3, oRl_i4, oRl_i5, oRl_i6, oRl_i7, oRl_i8, oRl_a1, oRl_n1, oRl_a2, oRl_n2, oRl_a3, oRl_n3, o1, hr, p1, s1, show ¬ ((3 : Int32) = 0) by decide, show ¬ ((3 : Int32) = 1) by decide, show ¬ ((3 : Int32) = 2) by decide]
  · obtain ⟨ι', s1, s2, s3⟩ := rm_stepYear (Z := Z) (d := d + 2) (w := w) (ι := ι) hr hzr h57 hm8
    rw [if_neg (by omega), if_neg (by omega), if_neg (by omega), if_neg (by omega), e, hm, show nI 4 = 4 from rfl]
    by_cases y : rl ι r 61 < 900
    · rw [if_pos y] at s1 s2
      refine ⟨ι', ?_, by rw [if_pos y]; exact s2, mono _ s3⟩
      rw [if_pos y, e118]
      simp (decide := true) (maxDischargeDepth := 4) only [g118_0, g118_1, g118_2, g118_3, g118_6, g118_8, g118_10, g118_40, g118_41, g118_43, g118_44, g118_45, g118_46, g118_49, g118_50, g118_51, g118_52, g118_55, g118_58, g118_59, g118_60, g118_62, g118_65, g118_66, g118_67, g118_69, g118_70, g118_71, g118_72, g118_75, g118_78, g118_79, g118_80, g118_82, g118_83, g118_86, g118_87, g118_88, g118_91, rz_k_inl, rz_k_inr, Option.toList_some, Option.toList_none, List.cons_append, List.nil_append, List.append_nil, rz_up_s, rz_u_s, rz_up_n, rz_u_n, ne_eq, not_false_eq_true, not_true_eq_false, Nat.add_assoc, Nat.reduceAdd, reduceIte, Nat.add_eq_left, Nat.left_eq_add, Nat.add_left_cancel_iff, Nat.reduceEqDiff, Nat.add_right_cancel_iff, rz_nb0, rz_nb1, rz_nbb, rz_nbi, rz_isr, rz_zle, if_true, if_false, rz_bi0, rz_bi1, Bool.not_eq_true, Bool.not_eq_false, Bool.true_eq_false, Bool.false_eq_true, rz_ix_lit, cl_lit, Nat.reduceLT, bi_t, bi_f, decide_true, decide_false, Bool.not_false, Bool.not_true, Bool.and_true, Bool.true_and, Bool.and_false, Bool.false_and, oWt_c o1, oWt_f0 o1, oWt_v0 o1, oWt_f1 o1, oWt_v1 o1, oWt_f2 o1, oWt_v2 o1, oWt_f3 o1, oWt_v3 o1, oWt_i4 o1, oWt_i5 o1, oWt_i6 o1, oWt_i7 o1, oWt_i8 o1, oWt_a1 o1, oWt_n1 o1, oWt_a2 o1, oWt_n2 o1, oWt_a3 o1, oWt_n3 o1, oRl_c, oRl_f0, oRl_v0, oRl_f1, oRl_v1, oRl_f2, oRl_v2, oRl_i3, oRl_i4, oRl_i5, oRl_i6, oRl_i7, oRl_i8, oRl_a1, oRl_n1, oRl_a2, oRl_n2, oRl_a3, oRl_n3, o1, hr, p1, s1, Option.isSome_some, show ¬ ((4 : Int32) = 0) by decide, show ¬ ((4 : Int32) = 1) by decide, show ¬ ((4 : Int32) = 2) by decide, show ¬ ((4 : Int32) = 3) by decide]
    · rw [if_neg y] at s1 s2
      refine ⟨ι', ?_, by rw [if_neg y]; exact s2, mono _ s3⟩
      rw [if_neg y, e118]
      simp (decide := true) (maxDischargeDepth := 4) only [g118_0, g118_1, g118_2, g118_3, g118_6, g118_8, g118_10, g118_40, g118_41, g118_43, g118_44, g118_45, g118_46, g118_49, g118_50, g118_51, g118_52, g118_55, g118_58, g118_59, g118_60, g118_62, g118_65, g118_66, g118_67, g118_69, g118_70, g118_71, g118_72, g118_75, g118_78, g118_79, g118_80, g118_82, g118_83, g118_86, g118_87, g118_88, g118_91, rz_k_inl, rz_k_inr, Option.toList_some, Option.toList_none, List.cons_append, List.nil_append, List.append_nil, rz_up_s, rz_u_s, rz_up_n, rz_u_n, ne_eq, not_false_eq_true, not_true_eq_false, Nat.add_assoc, Nat.reduceAdd, reduceIte, Nat.add_eq_left, Nat.left_eq_add, Nat.add_left_cancel_iff, Nat.reduceEqDiff, Nat.add_right_cancel_iff, rz_nb0, rz_nb1, rz_nbb, rz_nbi, rz_isr, rz_zle, if_true, if_false, rz_bi0, rz_bi1, Bool.not_eq_true, Bool.not_eq_false, Bool.true_eq_false, Bool.false_eq_true, rz_ix_lit, cl_lit, Nat.reduceLT, bi_t, bi_f, decide_true, decide_false, Bool.not_false, Bool.not_true, Bool.and_true, Bool.true_and, Bool.and_false, Bool.false_and, oWt_c o1, oWt_f0 o1, oWt_v0 o1, oWt_f1 o1, oWt_v1 o1, oWt_f2 o1, oWt_v2 o1, oWt_f3 o1, oWt_v3 o1, oWt_i4 o1, oWt_i5 o1, oWt_i6 o1, oWt_i7 o1, oWt_i8 o1, oWt_a1 o1, oWt_n1 o1, oWt_a2 o1, oWt_n2 o1, oWt_a3 o1, oWt_n3 o1, oRl_c, oRl_f0, oRl_v0, oRl_f1, oRl_v1, oRl_f2, oRl_v2, oRl_i3, oRl_i4, oRl_i5, oRl_i6, oRl_i7, oRl_i8, oRl_a1, oRl_n1, oRl_a2, oRl_n2, oRl_a3, oRl_n3, o1, hr, p1, s1, Option.isSome_none, show ¬ ((4 : Int32) = 0) by decide, show ¬ ((4 : Int32) = 1) by decide, show ¬ ((4 : Int32) = 2) by decide, show ¬ ((4 : Int32) = 3) by decide]
theorem rn_tally (o1 : oWt h a t) (hza : Z.2.1 ≤ a) {dn rf : Nat} (h7 : ι a 7 = nI dn) (h8 : ι a 8 = nI rf) (x : Bool) : rz_f Z (d + 1) 115 [.ref a, .int (bi x)] (rz_mk h ι, w) = some (.inl none, (rz_mk h (rz_up (rz_up ι a 7 (nI (if x = true then dn + 1 else dn))) a 8 (nI (if x = true then rf else rf + 1))), w)) := by
  rw [e115]
  cases x with
  | true =>
    rw [if_pos rfl, if_pos rfl]
    simp (decide := true) (maxDischargeDepth := 4) only [g115_0, g115_1, g115_2, g115_5, g115_6, g115_9, g115_10, g115_13, g115_14, g115_15, g115_18, g115_19, g115_20, g115_23, g115_24, g115_27, g115_28, g115_31, g115_32, g115_33, g115_36, rz_k_inl, rz_k_inr, Option.toList_some, Option.toList_none, List.cons_append, List.nil_append, List.append_nil, rz_up_s, rz_u_s, rz_up_n, rz_u_n, ne_eq, not_false_eq_true, not_true_eq_false, Nat.add_assoc, Nat.reduceAdd, reduceIte, Nat.add_eq_left, Nat.left_eq_add, Nat.add_left_cancel_iff, Nat.reduceEqDiff, Nat.add_right_cancel_iff, rz_nb0, rz_nb1, rz_nbb, rz_nbi, rz_isr, rz_zle, if_true, if_false, rz_bi0, rz_bi1, Bool.not_eq_true, Bool.not_eq_false, Bool.true_eq_false, Bool.false_eq_true, rz_ix_lit, cl_lit, Nat.reduceLT, bi_t, bi_f, decide_true, decide_false, Bool.not_false, Bool.not_true, Bool.and_true, Bool.true_and, Bool.and_false, Bool.false_and, oWt_c o1, oWt_f0 o1, oWt_v0 o1, oWt_f1 o1, oWt_v1 o1, oWt_f2 o1, oWt_v2 o1, oWt_f3 o1, oWt_v3 o1, oWt_i4 o1, oWt_i5 o1, oWt_i6 o1, oWt_i7 o1, oWt_i8 o1, oWt_a1 o1, oWt_n1 o1, oWt_a2 o1, oWt_n2 o1, oWt_a3 o1, oWt_n3 o1, o1, hza, h7, h8, nI_1, Int32.add_zero, show ¬ ((1 : Int32) = 0) by decide]
  | false =>
    rw [if_neg (by decide), if_neg (by decide)]
    simp (decide := true) (maxDischargeDepth := 4) only [g115_0, g115_1, g115_2, g115_5, g115_6, g115_9, g115_10, g115_13, g115_14, g115_15, g115_18, g115_19, g115_20, g115_23, g115_24, g115_27, g115_28, g115_31, g115_32, g115_33, g115_36, rz_k_inl, rz_k_inr, Option.toList_some, Option.toList_none, List.cons_append, List.nil_append, List.append_nil, rz_up_s, rz_u_s, rz_up_n, rz_u_n, ne_eq, not_false_eq_true, not_true_eq_false, Nat.add_assoc, Nat.reduceAdd, reduceIte, Nat.add_eq_left, Nat.left_eq_add, Nat.add_left_cancel_iff, Nat.reduceEqDiff, Nat.add_right_cancel_iff, rz_nb0, rz_nb1, rz_nbb, rz_nbi, rz_isr, rz_zle, if_true, if_false, rz_bi0, rz_bi1, Bool.not_eq_true, Bool.not_eq_false, Bool.true_eq_false, Bool.false_eq_true, rz_ix_lit, cl_lit, Nat.reduceLT, bi_t, bi_f, decide_true, decide_false, Bool.not_false, Bool.not_true, Bool.and_true, Bool.true_and, Bool.and_false, Bool.false_and, oWt_c o1, oWt_f0 o1, oWt_v0 o1, oWt_f1 o1, oWt_v1 o1, oWt_f2 o1, oWt_v2 o1, oWt_f3 o1, oWt_v3 o1, oWt_i4 o1, oWt_i5 o1, oWt_i6 o1, oWt_i7 o1, oWt_i8 o1, oWt_a1 o1, oWt_n1 o1, oWt_a2 o1, oWt_n2 o1, oWt_a3 o1, oWt_n3 o1, o1, hza, h7, h8, nI_1, Int32.add_zero]
def lfI (ι : Nat → Nat → Int32) (a : Nat) (V : List Nat) : Prop := ι a 5 = nI V.length ∧ ∀ j, j < V.length → ι (a + 3) (V.length - 1 - j) = nI (V.getD j 0)
theorem rn_closed {T : Nat → TK} {i v : Nat} {V : List Nat} (o1 : oWt h a t) (hza : Z.2.1 ≤ a) (hi : i < 37) (hV : V.length < 6) (hv : 1 ≤ v) (hv6 : v ≤ 60) (ht : tkI ι a i (T i)) (hl : lfI ι a (v :: V)) : ∃ ι', rz_f Z (d + 3) 117 [.ref a, .int (nI i)] (rz_mk h ι, w) = some (.inl (some (.int (nI (if 1 < v then (T i).2.1 + 1 else i + 1)))), (rz_mk h ι', w)) ∧ lfI ι' a (if 1 < v then (v - 1) :: V else V) ∧ (∀ x, x ≠ a → x ≠ a + 3 → ι' x = ι x) ∧ ∀ k, k ≠ 5 → ι' a k = ι a k := by
  obtain ⟨l1, l2⟩ := hl
  have l1 : ι a 5 = nI (V.length + 1) := l1
  have l0 : ι (a + 3) V.length = nI v := by
    have := l2 0 (by show 0 < V.length + 1; omega)
    rw [show (v :: V).length - 1 - 0 = V.length from rfl] at this
    exact this
  have c0 : (nI V.length < 0) = False := nI_nn (by omega)
  have c6 : (nI V.length < 6) = True := by rw [nI_ltL (by omega) (by decide)]; simp [hV]
  have ix : rz_ix (nI V.length) 6 := rz_ix_nat hV (by omega)
  have cv : nI v - 1 = nI (v - 1) := by show nI v - nI 1 = _; rw [pk_sub (by omega)]
  have p1 := rn_part (Z := Z) (d := d) (w := w) (ι := rz_up ι (a + 3) V.length (nI (v - 1))) (k := 1) o1 hi (by omega)
  rw [rz_up_n (show a + 1 ≠ a + 3 by omega), show nI 1 = 1 from rfl, ht.2.1] at p1
  have n3 : ∀ J, rz_up J (a + 3) V.length (nI (v - 1)) (a + 3) V.length = nI (v - 1) := fun J => by rw [rz_up_s, rz_u_s]
  by_cases h1 : 1 < v
  · have pos : ((0 : Int32) < nI (v - 1)) = True := nI_0lt (by omega) (by omega)
    rw [if_pos h1, if_pos h1]
    refine ⟨rz_up ι (a + 3) V.length (nI (v - 1)), ?_, ⟨?_, fun j hj => ?_⟩, fun x _ hx => rz_up_n hx, fun k _ => by rw [rz_up_n (by omega)]⟩
    · rw [e117]
      simp (decide := true) (maxDischargeDepth := 4) only [g117_0, g117_1, g117_4, g117_5, g117_6, g117_7, g117_8, g117_11, g117_12, g117_14, g117_17, g117_18, g117_19, g117_20, g117_21, g117_22, g117_25, g117_26, g117_27, g117_28, g117_29, g117_30, g117_31, g117_32, g117_35, g117_36, g117_37, g117_40, g117_41, g117_42, g117_43, g117_46, g117_47, g117_48, g117_49, g117_50, g117_51, g117_54, g117_55, g117_56, g117_57, rz_k_inl, rz_k_inr, Option.toList_some, Option.toList_none, List.cons_append, List.nil_append, List.append_nil, rz_up_s, rz_u_s, rz_up_n, rz_u_n, ne_eq, not_false_eq_true, not_true_eq_false, Nat.add_assoc, Nat.reduceAdd, reduceIte, Nat.add_eq_left, Nat.left_eq_add, Nat.add_left_cancel_iff, Nat.reduceEqDiff, Nat.add_right_cancel_iff, rz_nb0, rz_nb1, rz_nbb, rz_nbi, rz_isr, rz_zle, if_true, if_false, rz_bi0, rz_bi1, Bool.not_eq_true, Bool.not_eq_false, Bool.true_eq_false, Bool.false_eq_true, rz_ix_lit, cl_lit, Nat.reduceLT, bi_t, bi_f, decide_true, decide_false, Bool.not_false, Bool.not_true, Bool.and_true, Bool.true_and, Bool.and_false, Bool.false_and, oWt_c o1, oWt_f0 o1, oWt_v0 o1, oWt_f1 o1, oWt_v1 o1, oWt_f2 o1, oWt_v2 o1, oWt_f3 o1, oWt_v3 o1, oWt_i4 o1, oWt_i5 o1, oWt_i6 o1, oWt_i7 o1, oWt_i8 o1, oWt_a1 o1, oWt_n1 o1, oWt_a2 o1, oWt_n2 o1, oWt_a3 o1, oWt_n3 o1, o1, hza, l1, nI_prd, c0, c6, ix, nI_cl (show V.length < 2147483648 by omega), l0, cv, pos, p1, nI_1]
    · rw [rz_up_n (by omega)]; exact l1
    · rw [rz_up_s]
      cases j with
      | zero => rw [show ((v - 1) :: V).length - 1 - 0 = V.length from rfl, rz_u_s]; rfl
      | succ j =>
        have hj : j + 1 < V.length + 1 := hj
        have := l2 (j + 1) hj
        rw [rz_u_n (by show V.length + 1 - 1 - (j + 1) ≠ V.length; omega)]
        exact this
  · have ev : v = 1 := by omega
    have pos : ((0 : Int32) < nI (v - 1)) = False := by rw [ev]; simp; decide
    rw [if_neg h1, if_neg h1]
    refine ⟨rz_up (rz_up ι (a + 3) V.length (nI (v - 1))) a 5 (nI V.length), ?_, ⟨by rw [rz_up_s, rz_u_s], fun j hj => ?_⟩, fun x h2 hx => by rw [rz_up_n h2, rz_up_n hx], fun k hk => by rw [rz_up_s, rz_u_n hk, rz_up_n (by omega)]⟩
    · rw [e117]
      simp (decide := true) (maxDischargeDepth := 4) only [g117_0, g117_1, g117_4, g117_5, g117_6, g117_7, g117_8, g117_11, g117_12, g117_14, g117_17, g117_18, g117_19, g117_20, g117_21, g117_22, g117_25, g117_26, g117_27, g117_28, g117_29, g117_30, g117_31, g117_32, g117_35, g117_36, g117_37, g117_40, g117_41, g117_42, g117_43, g117_46, g117_47, g117_48, g117_49, g117_50, g117_51, g117_54, g117_55, g117_56, g117_57, rz_k_inl, rz_k_inr, Option.toList_some, Option.toList_none, List.cons_append, List.nil_append, List.append_nil, rz_up_s, rz_u_s, rz_up_n, rz_u_n, ne_eq, not_false_eq_true, not_true_eq_false, Nat.add_assoc, Nat.reduceAdd, reduceIte, Nat.add_eq_left, Nat.left_eq_add, Nat.add_left_cancel_iff, Nat.reduceEqDiff, Nat.add_right_cancel_iff, rz_nb0, rz_nb1, rz_nbb, rz_nbi, rz_isr, rz_zle, if_true, if_false, rz_bi0, rz_bi1, Bool.not_eq_true, Bool.not_eq_false, Bool.true_eq_false, Bool.false_eq_true, rz_ix_lit, cl_lit, Nat.reduceLT, bi_t, bi_f, decide_true, decide_false, Bool.not_false, Bool.not_true, Bool.and_true, Bool.true_and, Bool.and_false, Bool.false_and, oWt_c o1, oWt_f0 o1, oWt_v0 o1, oWt_f1 o1, oWt_v1 o1, oWt_f2 o1, oWt_v2 o1, oWt_f3 o1, oWt_v3 o1, oWt_i4 o1, oWt_i5 o1, oWt_i6 o1, oWt_i7 o1, oWt_i8 o1, oWt_a1 o1, oWt_n1 o1, oWt_a2 o1, oWt_n2 o1, oWt_a3 o1, oWt_n3 o1, o1, hza, l1, nI_prd, c0, c6, ix, nI_cl (show V.length < 2147483648 by omega), l0, cv, pos, nI_1]
    · rw [rz_up_n (by omega), rz_up_s, rz_u_n (by omega)]
      have := l2 (j + 1) (by show j + 1 < V.length + 1; omega)
      rw [show (v :: V).length - 1 - (j + 1) = V.length - 1 - j by show V.length + 1 - 1 - (j + 1) = _; omega] at this
      exact this
theorem rn_entered {T : Nat → TK} {i : Nat} {V : List Nat} (o1 : oWt h a t) (hza : Z.2.1 ≤ a) (hi : i < 37) (hV : V.length ≤ 6) (hv6 : (T i).2.1 ≤ 60) (ht : tkI ι a i (T i)) (hl : lfI ι a V) : ∃ ι', rz_f Z (d + 3) 116 [.ref a, .int (nI i)] (rz_mk h ι, w) = some (.inl (some (.int (nI (if (T i).2.1 = 0 ∨ 6 ≤ V.length then (T i).2.2.1 + 1 else i + 1)))), (rz_mk h ι', w)) ∧ lfI ι' a (if (T i).2.1 = 0 ∨ 6 ≤ V.length then V else (T i).2.1 :: V) ∧ (∀ x, x ≠ a → x ≠ a + 3 → ι' x = ι x) ∧ ∀ k, k ≠ 5 → ι' a k = ι a k := by
  obtain ⟨l1, l2⟩ := hl
  have p1 := rn_part (Z := Z) (d := d) (w := w) (ι := ι) (k := 1) o1 hi (by omega)
  have p2 := rn_part (Z := Z) (d := d) (w := w) (ι := ι) (k := 2) o1 hi (by omega)
  rw [show nI 1 = 1 from rfl, ht.2.1] at p1
  rw [show nI 2 = 2 from rfl, ht.2.2.1] at p2
  have c0 : (nI (T i).2.1 = 0) = ((T i).2.1 = 0) := nI_eqL (by omega) (by decide)
  have c6 : (nI V.length < 6) = (V.length < 6) := nI_ltL (by omega) (by decide)
  by_cases h0 : (T i).2.1 = 0
  · have h0' : ((T i).2.1 = 0) = True := by simp [h0]
    rw [if_pos (Or.inl h0), if_pos (Or.inl h0)]
    refine ⟨ι, ?_, ⟨l1, l2⟩, fun _ _ _ => rfl, fun _ _ => rfl⟩
    rw [e116]
    simp (decide := true) (maxDischargeDepth := 4) only [g116_0, g116_1, g116_2, g116_3, g116_6, g116_7, g116_8, g116_11, g116_12, g116_15, g116_17, g116_20, g116_21, g116_22, g116_23, g116_26, g116_27, g116_28, g116_29, g116_30, g116_33, g116_34, g116_37, g116_38, g116_39, g116_40, g116_41, g116_44, g116_45, g116_46, g116_49, g116_50, g116_51, g116_52, rz_k_inl, rz_k_inr, Option.toList_some, Option.toList_none, List.cons_append, List.nil_append, List.append_nil, rz_up_s, rz_u_s, rz_up_n, rz_u_n, ne_eq, not_false_eq_true, not_true_eq_false, Nat.add_assoc, Nat.reduceAdd, reduceIte, Nat.add_eq_left, Nat.left_eq_add, Nat.add_left_cancel_iff, Nat.reduceEqDiff, Nat.add_right_cancel_iff, rz_nb0, rz_nb1, rz_nbb, rz_nbi, rz_isr, rz_zle, if_true, if_false, rz_bi0, rz_bi1, Bool.not_eq_true, Bool.not_eq_false, Bool.true_eq_false, Bool.false_eq_true, rz_ix_lit, cl_lit, Nat.reduceLT, bi_t, bi_f, decide_true, decide_false, Bool.not_false, Bool.not_true, Bool.and_true, Bool.true_and, Bool.and_false, Bool.false_and, oWt_c o1, oWt_f0 o1, oWt_v0 o1, oWt_f1 o1, oWt_v1 o1, oWt_f2 o1, oWt_v2 o1, oWt_f3 o1, oWt_v3 o1, oWt_i4 o1, oWt_i5 o1, oWt_i6 o1, oWt_i7 o1, oWt_i8 o1, oWt_a1 o1, oWt_n1 o1, oWt_a2 o1, oWt_n2 o1, oWt_a3 o1, oWt_n3 o1, o1, p1, p2, c0, h0', nI_1]
  · have h0' : ((T i).2.1 = 0) = False := by simp [h0]
    by_cases h6 : 6 ≤ V.length
    · have h6' : (V.length < 6) = False := by simp; omega
      rw [if_pos (Or.inr h6), if_pos (Or.inr h6)]
      refine ⟨ι, ?_, ⟨l1, l2⟩, fun _ _ _ => rfl, fun _ _ => rfl⟩
      rw [e116]
      simp (decide := true) (maxDischargeDepth := 4) only [g116_0, g116_1, g116_2, g116_3, g116_6, g116_7, g116_8, g116_11, g116_12, g116_15, g116_17, g116_20, g116_21, g116_22, g116_23, g116_26, g116_27, g116_28, g116_29, g116_30, g116_33, g116_34, g116_37, g116_38, g116_39, g116_40, g116_41, g116_44, g116_45, g116_46, g116_49, g116_50, g116_51, g116_52, rz_k_inl, rz_k_inr, Option.toList_some, Option.toList_none, List.cons_append, List.nil_append, List.append_nil, rz_up_s, rz_u_s, rz_up_n, rz_u_n, ne_eq, not_false_eq_true, not_true_eq_false, Nat.add_assoc, Nat.reduceAdd, reduceIte, Nat.add_eq_left, Nat.left_eq_add, Nat.add_left_cancel_iff, Nat.reduceEqDiff, Nat.add_right_cancel_iff, rz_nb0, rz_nb1, rz_nbb, rz_nbi, rz_isr, rz_zle, if_true, if_false, rz_bi0, rz_bi1, Bool.not_eq_true, Bool.not_eq_false, Bool.true_eq_false, Bool.false_eq_true, rz_ix_lit, cl_lit, Nat.reduceLT, bi_t, bi_f, decide_true, decide_false, Bool.not_false, Bool.not_true, Bool.and_true, Bool.true_and, Bool.and_false, Bool.false_and, oWt_c o1, oWt_f0 o1, oWt_v0 o1, oWt_f1 o1, oWt_v1 o1, oWt_f2 o1, oWt_v2 o1, oWt_f3 o1, oWt_v3 o1, oWt_i4 o1, oWt_i5 o1, oWt_i6 o1, oWt_i7 o1, oWt_i8 o1, oWt_a1 o1, oWt_n1 o1, oWt_a2 o1, oWt_n2 o1, oWt_a3 o1, oWt_n3 o1, o1, p1, p2, c0, h0', l1, c6, h6', nI_1]
    · have h6' : (V.length < 6) = True := by simp; omega
      have ix : rz_ix (nI V.length) 6 := rz_ix_nat (by omega) (by omega)
      rw [if_neg (by omega), if_neg (by omega)]
      refine ⟨rz_up (rz_up ι (a + 3) V.length (nI (T i).2.1)) a 5 (nI (V.length + 1)), ?_, ⟨by rw [rz_up_s, rz_u_s]; rfl, fun j hj => ?_⟩, fun x h2 hx => by rw [rz_up_n h2, rz_up_n hx], fun k hk => by rw [rz_up_s, rz_u_n hk, rz_up_n (by omega)]⟩
      · rw [e116]
        simp (decide := true) (maxDischargeDepth := 4) only [g116_0, g116_1, g116_2, g116_3, g116_6, g116_7, g116_8, g116_11, g116_12, g116_15, g116_17, g116_20, g116_21, g116_22, g116_23, g116_26, g116_27, g116_28, g116_29, g116_30, g116_33, g116_34, g116_37, g116_38, g116_39, g116_40, g116_41, g116_44, g116_45, g116_46, g116_49, g116_50, g116_51, g116_52, rz_k_inl, rz_k_inr, Option.toList_some, Option.toList_none, List.cons_append, List.nil_append, List.append_nil, rz_up_s, rz_u_s, rz_up_n, rz_u_n, ne_eq, not_false_eq_true, not_true_eq_false, Nat.add_assoc, Nat.reduceAdd, reduceIte, Nat.add_eq_left, Nat.left_eq_add, Nat.add_left_cancel_iff, Nat.reduceEqDiff, Nat.add_right_cancel_iff, rz_nb0, rz_nb1, rz_nbb, rz_nbi, rz_isr, rz_zle, if_true, if_false, rz_bi0, rz_bi1, Bool.not_eq_true, Bool.not_eq_false, Bool.true_eq_false, Bool.false_eq_true, rz_ix_lit, cl_lit, Nat.reduceLT, bi_t, bi_f, decide_true, decide_false, Bool.not_false, Bool.not_true, Bool.and_true, Bool.true_and, Bool.and_false, Bool.false_and, oWt_c o1, oWt_f0 o1, oWt_v0 o1, oWt_f1 o1, oWt_v1 o1, oWt_f2 o1, oWt_v2 o1, oWt_f3 o1, oWt_v3 o1, oWt_i4 o1, oWt_i5 o1, oWt_i6 o1, oWt_i7 o1, oWt_i8 o1, oWt_a1 o1, oWt_n1 o1, oWt_a2 o1, oWt_n2 o1, oWt_a3 o1, oWt_n3 o1, o1, hza, p1, p2, c0, h0', l1, c6, h6', ix, nI_cl (show V.length < 2147483648 by omega), nI_1]
      · rw [rz_up_n (by omega), rz_up_s]
        cases j with
        | zero => rw [show ((T i).2.1 :: V).length - 1 - 0 = V.length from rfl, rz_u_s]; rfl
        | succ j =>
          have hj : j + 1 < V.length + 1 := hj
          rw [rz_u_n (by show V.length + 1 - 1 - (j + 1) ≠ V.length; omega), show ((T i).2.1 :: V).length - 1 - (j + 1) = V.length - 1 - j by show V.length + 1 - 1 - (j + 1) = _; omega, l2 j (by omega)]
          rfl
end WORK10
