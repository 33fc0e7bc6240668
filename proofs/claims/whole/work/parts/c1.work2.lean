/-! the class reads WORK: steps, loops, to its end -/
theorem rB_assoc {α β γ φ : Type} (x : α ⊕ φ) (f : α → β ⊕ φ) (g : β → γ ⊕ φ) : rB (rB x f) g = rB x (fun a => rB (f a) g) := by
  cases x <;> rfl
section WORK2
variable {Z : rx_Z} {d : Nat} {h : Nat → Option rx_E} {ι ι0 : Nat → Nat → Int32} {w : Nat × Nat} {t a : Nat}
theorem wc_plain {e m p : Nat} {K : List Nat} {T : Nat → TK} (hst : stH Z h) (O : wcO Z h t a) (he : ι0 t 1 = nI e) (he6 : e ≤ 600) (hpe : p ≤ e) (hm : m < 37) (i : wcI t a ι0 ι K T m (wdR (ι0 (t + 1)) e p)) (h3 : ι t 3 = nI (sk (ι0 (t + 1)) e p)) : wcC Z h w t a ι0 (d + 6) 106 [.ref a] ι (rB (wtP (ι0 (t + 1)) e p) (fun x => .inl (K, upT T m x.1, m + 1, x.2))) := by
  have OO := O
  obtain ⟨o1, o2, o4, o5⟩ := O
  obtain ⟨w1, w2⟩ := wdR_le (B := ι0 (t + 1)) hpe
  have e1 : ι t 1 = nI e := i.1.2.1.trans he
  have eB := i.by OO
  obtain ⟨v15, s15⟩ : ∃ v, oSt h (Z.2.2.2 16) v (WD 15) := hst 15 (by omega)
  obtain ⟨v16, s16⟩ : ∃ v, oSt h (Z.2.2.2 17) v (WD 16) := hst 16 (by omega)
  obtain ⟨v17, s17⟩ : ∃ v, oSt h (Z.2.2.2 18) v (WD 17) := hst 17 (by omega)
  obtain ⟨v18, s18⟩ : ∃ v, oSt h (Z.2.2.2 19) v (WD 18) := hst 18 (by omega)
  obtain ⟨v19, s19⟩ : ∃ v, oSt h (Z.2.2.2 20) v (WD 19) := hst 19 (by omega)
  have W15 := tp_wordIs (Z := Z) (d := d) (w := w) o2 s15 e1 i.2.2.2.1 h3 w1 w2 he6
  have W16 := tp_wordIs (Z := Z) (d := d) (w := w) o2 s16 e1 i.2.2.2.1 h3 w1 w2 he6
  have W17 := tp_wordIs (Z := Z) (d := d) (w := w) o2 s17 e1 i.2.2.2.1 h3 w1 w2 he6
  have W18 := tp_wordIs (Z := Z) (d := d) (w := w) o2 s18 e1 i.2.2.2.1 h3 w1 w2 he6
  have W19 := tp_wordIs (Z := Z) (d := d) (w := w) o2 s19 e1 i.2.2.2.1 h3 w1 w2 he6
  rw [eB] at W15 W16 W17 W18 W19
  have a15 : rz_ar h (Z.2.2.2 16) 9 := ⟨_, _, s15.1⟩
  have a16 : rz_ar h (Z.2.2.2 17) 9 := ⟨_, _, s16.1⟩
  have a17 : rz_ar h (Z.2.2.2 18) 9 := ⟨_, _, s17.1⟩
  have a18 : rz_ar h (Z.2.2.2 19) 9 := ⟨_, _, s18.1⟩
  have a19 : rz_ar h (Z.2.2.2 20) 9 := ⟨_, _, s19.1⟩
  unfold wtP
  cases c15 : wdIs (ι0 (t + 1)) (sk (ι0 (t + 1)) e p) (wdR (ι0 (t + 1)) e p) (WD 15) with
  | true =>
    rw [c15] at W15
    rw [if_pos rfl]
    simp only [rB_assoc, rB_l]
    have F := wc_feign (Z := Z) (d := d + 1) (w := w) OO he he6 w2 hm i
    revert F
    generalize rB (nmN (ι0 (t + 1)) e 7 (wdR (ι0 (t + 1)) e p)) (fun x => rB (nmN (ι0 (t + 1)) e 2 x.2) (fun y => rB (nmN (ι0 (t + 1)) e 9 y.2) (fun z => (.inl (K, upT T m (0, x.1, y.1, z.1), m + 1, z.2) : WtS ⊕ (Nat × Nat))))) = X
    intro F
    cases X with
    | inl s =>
      obtain ⟨ι1, f1, f2⟩ := F
      refine ⟨ι1, ?_, f2⟩
      rw [e106]
      simp (decide := true) (maxDischargeDepth := 4) only [g106_0, g106_1, g106_4, g106_6, g106_9, g106_12, g106_13, g106_16, g106_17, g106_18, g106_21, g106_23, g106_26, g106_29, g106_30, g106_31, g106_34, g106_35, g106_36, g106_39, g106_41, g106_44, g106_47, g106_48, g106_51, g106_52, g106_53, g106_56, g106_58, g106_61, g106_64, g106_65, g106_66, g106_69, g106_70, g106_71, g106_74, g106_76, g106_79, g106_82, g106_83, g106_84, g106_85, g106_86, g106_87, g106_90, g106_93, g106_94, g106_97, g106_98, g106_101, rz_k_inl, rz_k_inr, Option.toList_some, Option.toList_none, List.cons_append, List.nil_append, List.append_nil, rz_up_s, rz_u_s, rz_up_n, rz_u_n, ne_eq, not_false_eq_true, not_true_eq_false, Nat.add_assoc, Nat.reduceAdd, reduceIte, Nat.add_eq_left, Nat.left_eq_add, Nat.add_left_cancel_iff, Nat.reduceEqDiff, Nat.add_right_cancel_iff, rz_nb0, rz_nb1, rz_nbb, rz_nbi, rz_isr, rz_zle, if_true, if_false, rz_bi0, rz_bi1, Bool.not_eq_true, Bool.not_eq_false, Bool.true_eq_false, Bool.false_eq_true, rz_ix_lit, cl_lit, Nat.reduceLT, bi_t, bi_f, decide_true, decide_false, Bool.not_false, Bool.not_true, Bool.and_true, Bool.true_and, Bool.and_false, Bool.false_and, oWt_c o1, oWt_f0 o1, oWt_v0 o1, oWt_f1 o1, oWt_v1 o1, oWt_f2 o1, oWt_v2 o1, oWt_f3 o1, oWt_v3 o1, oWt_i4 o1, oWt_i5 o1, oWt_i6 o1, oWt_i7 o1, oWt_i8 o1, oWt_a1 o1, oWt_n1 o1, oWt_a2 o1, oWt_n2 o1, oWt_a3 o1, oWt_n3 o1, oTp_c, oTp_f0, oTp_v0, oTp_i1, oTp_i2, oTp_i3, oTp_i4, oTp_i5, oTp_i6, oTp_a1, oTp_n1, o1, o2, W15, a15, f1]
    | inr f =>
      obtain ⟨ι1, f1, f2⟩ := F
      refine ⟨ι1, ?_, f2⟩
      rw [e106]
      simp (decide := true) (maxDischargeDepth := 4) only [g106_0, g106_1, g106_4, g106_6, g106_9, g106_12, g106_13, g106_16, g106_17, g106_18, g106_21, g106_23, g106_26, g106_29, g106_30, g106_31, g106_34, g106_35, g106_36, g106_39, g106_41, g106_44, g106_47, g106_48, g106_51, g106_52, g106_53, g106_56, g106_58, g106_61, g106_64, g106_65, g106_66, g106_69, g106_70, g106_71, g106_74, g106_76, g106_79, g106_82, g106_83, g106_84, g106_85, g106_86, g106_87, g106_90, g106_93, g106_94, g106_97, g106_98, g106_101, rz_k_inl, rz_k_inr, Option.toList_some, Option.toList_none, List.cons_append, List.nil_append, List.append_nil, rz_up_s, rz_u_s, rz_up_n, rz_u_n, ne_eq, not_false_eq_true, not_true_eq_false, Nat.add_assoc, Nat.reduceAdd, reduceIte, Nat.add_eq_left, Nat.left_eq_add, Nat.add_left_cancel_iff, Nat.reduceEqDiff, Nat.add_right_cancel_iff, rz_nb0, rz_nb1, rz_nbb, rz_nbi, rz_isr, rz_zle, if_true, if_false, rz_bi0, rz_bi1, Bool.not_eq_true, Bool.not_eq_false, Bool.true_eq_false, Bool.false_eq_true, rz_ix_lit, cl_lit, Nat.reduceLT, bi_t, bi_f, decide_true, decide_false, Bool.not_false, Bool.not_true, Bool.and_true, Bool.true_and, Bool.and_false, Bool.false_and, oWt_c o1, oWt_f0 o1, oWt_v0 o1, oWt_f1 o1, oWt_v1 o1, oWt_f2 o1, oWt_v2 o1, oWt_f3 o1, oWt_v3 o1, oWt_i4 o1, oWt_i5 o1, oWt_i6 o1, oWt_i7 o1, oWt_i8 o1, oWt_a1 o1, oWt_n1 o1, oWt_a2 o1, oWt_n2 o1, oWt_a3 o1, oWt_n3 o1, oTp_c, oTp_f0, oTp_v0, oTp_i1, oTp_i2, oTp_i3, oTp_i4, oTp_i5, oTp_i6, oTp_a1, oTp_n1, o1, o2, W15, a15, f1]
  | false =>
    rw [c15] at W15
    rw [if_neg (by decide)]
    cases c16 : wdIs (ι0 (t + 1)) (sk (ι0 (t + 1)) e p) (wdR (ι0 (t + 1)) e p) (WD 16) with
    | true =>
      rw [c16] at W16
      rw [if_pos rfl]
      simp only [rB_assoc, rB_l]
      have F := wc_one (Z := Z) (d := d + 1) (w := w) (op := 1) OO he he6 w2 hm i
      rw [show nI 1 = 1 from rfl] at F
      revert F
      generalize rB (nmN (ι0 (t + 1)) e 7 (wdR (ι0 (t + 1)) e p)) (fun x => (.inl (K, upT T m (1, x.1, 0, 0), m + 1, x.2) : WtS ⊕ (Nat × Nat))) = X
      intro F
      cases X with
      | inl s =>
        obtain ⟨ι1, f1, f2⟩ := F
        refine ⟨ι1, ?_, f2⟩
        rw [e106]
        simp (decide := true) (maxDischargeDepth := 4) only [g106_0, g106_1, g106_4, g106_6, g106_9, g106_12, g106_13, g106_16, g106_17, g106_18, g106_21, g106_23, g106_26, g106_29, g106_30, g106_31, g106_34, g106_35, g106_36, g106_39, g106_41, g106_44, g106_47, g106_48, g106_51, g106_52, g106_53, g106_56, g106_58, g106_61, g106_64, g106_65, g106_66, g106_69, g106_70, g106_71, g106_74, g106_76, g106_79, g106_82, g106_83, g106_84, g106_85, g106_86, g106_87, g106_90, g106_93, g106_94, g106_97, g106_98, g106_101, rz_k_inl, rz_k_inr, Option.toList_some, Option.toList_none, List.cons_append, List.nil_append, List.append_nil, rz_up_s, rz_u_s, rz_up_n, rz_u_n, ne_eq, not_false_eq_true, not_true_eq_false, Nat.add_assoc, Nat.reduceAdd, reduceIte, Nat.add_eq_left, Nat.left_eq_add, Nat.add_left_cancel_iff, Nat.reduceEqDiff, Nat.add_right_cancel_iff, rz_nb0, rz_nb1, rz_nbb, rz_nbi, rz_isr, rz_zle, if_true, if_false, rz_bi0, rz_bi1, Bool.not_eq_true, Bool.not_eq_false, Bool.true_eq_false, Bool.false_eq_true, rz_ix_lit, cl_lit, Nat.reduceLT, bi_t, bi_f, decide_true, decide_false, Bool.not_false, Bool.not_true, Bool.and_true, Bool.true_and, Bool.and_false, Bool.false_and, oWt_c o1, oWt_f0 o1, oWt_v0 o1, oWt_f1 o1, oWt_v1 o1, oWt_f2 o1, oWt_v2 o1, oWt_f3 o1, oWt_v3 o1, oWt_i4 o1, oWt_i5 o1, oWt_i6 o1, oWt_i7 o1, oWt_i8 o1, oWt_a1 o1, oWt_n1 o1, oWt_a2 o1, oWt_n2 o1, oWt_a3 o1, oWt_n3 o1, oTp_c, oTp_f0, oTp_v0, oTp_i1, oTp_i2, oTp_i3, oTp_i4, oTp_i5, oTp_i6, oTp_a1, oTp_n1, o1, o2, W15, a15, W16, a16, f1]
      | inr f =>
        obtain ⟨ι1, f1, f2⟩ := F
        refine ⟨ι1, ?_, f2⟩
        rw [e106]
        simp (decide := true) (maxDischargeDepth := 4) only [g106_0, g106_1, g106_4, g106_6, g106_9, g106_12, g106_13, g106_16, g106_17, g106_18, g106_21, g106_23, g106_26, g106_29, g106_30, g106_31, g106_34, g106_35, g106_36, g106_39, g106_41, g106_44, g106_47, g106_48, g106_51, g106_52, g106_53, g106_56, g106_58, g106_61, g106_64, g106_65, g106_66, g106_69, g106_70, g106_71, g106_74, g106_76, g106_79, g106_82, g106_83, g106_84, g106_85, g106_86, g106_87, g106_90, g106_93, g106_94, g106_97, g106_98, g106_101, rz_k_inl, rz_k_inr, Option.toList_some, Option.toList_none, List.cons_append, List.nil_append, List.append_nil, rz_up_s, rz_u_s, rz_up_n, rz_u_n, ne_eq, not_false_eq_true, not_true_eq_false, Nat.add_assoc, Nat.reduceAdd, reduceIte, Nat.add_eq_left, Nat.left_eq_add, Nat.add_left_cancel_iff, Nat.reduceEqDiff, Nat.add_right_cancel_iff, rz_nb0, rz_nb1, rz_nbb, rz_nbi, rz_isr, rz_zle, if_true, if_false, rz_bi0, rz_bi1, Bool.not_eq_true, Bool.not_eq_false, Bool.true_eq_false, Bool.false_eq_true, rz_ix_lit, cl_lit, Nat.reduceLT, bi_t, bi_f, decide_true, decide_false, Bool.not_false, Bool.not_true, Bool.and_true, Bool.true_and, Bool.and_false, Bool.false_and, oWt_c o1, oWt_f0 o1, oWt_v0 o1, oWt_f1 o1, oWt_v1 o1, oWt_f2 o1, oWt_v2 o1, oWt_f3 o1, oWt_v3 o1, oWt_i4 o1, oWt_i5 o1, oWt_i6 o1, oWt_i7 o1, oWt_i8 o1, oWt_a1 o1, oWt_n1 o1, oWt_a2 o1, oWt_n2 o1, oWt_a3 o1, oWt_n3 o1, oTp_c, oTp_f0, oTp_v0, oTp_i1, oTp_i2, oTp_i3, oTp_i4, oTp_i5, oTp_i6, oTp_a1, oTp_n1, o1, o2, W15, a15, W16, a16, f1]
    | false =>
      rw [c16] at W16
      rw [if_neg (by decide)]
      cases c17 : wdIs (ι0 (t + 1)) (sk (ι0 (t + 1)) e p) (wdR (ι0 (t + 1)) e p) (WD 17) with
      | true =>
        rw [c17] at W17
        rw [if_pos rfl]
        simp only [rB_assoc, rB_l]
        have F := wc_birth (Z := Z) (d := d + 1) (w := w) OO he he6 w2 hm i
        revert F
        generalize rB (nmN (ι0 (t + 1)) e 7 (wdR (ι0 (t + 1)) e p)) (fun x => rB (nmN (ι0 (t + 1)) e 7 x.2) (fun y => (.inl (K, upT T m (2, x.1, y.1, 0), m + 1, y.2) : WtS ⊕ (Nat × Nat)))) = X
        intro F
        cases X with
        | inl s =>
          obtain ⟨ι1, f1, f2⟩ := F
          refine ⟨ι1, ?_, f2⟩
          rw [e106]
          simp (decide := true) (maxDischargeDepth := 4) only [g106_0, g106_1, g106_4, g106_6, g106_9, g106_12, g106_13, g106_16, g106_17, g106_18, g106_21, g106_23, g106_26, g106_29, g106_30, g106_31, g106_34, g106_35, g106_36, g106_39, g106_41, g106_44, g106_47, g106_48, g106_51, g106_52, g106_53, g106_56, g106_58, g106_61, g106_64, g106_65, g106_66, g106_69, g106_70, g106_71, g106_74, g106_76, g106_79, g106_82, g106_83, g106_84, g106_85, g106_86, g106_87, g106_90, g106_93, g106_94, g106_97, g106_98, g106_101, rz_k_inl, rz_k_inr, Option.toList_some, Option.toList_none, List.cons_append, List.nil_append, List.append_nil, rz_up_s, rz_u_s, rz_up_n, rz_u_n, ne_eq, not_false_eq_true, not_true_eq_false, Nat.add_assoc, Nat.reduceAdd, reduceIte, Nat.add_eq_left, Nat.left_eq_add, Nat.add_left_cancel_iff, Nat.reduceEqDiff, Nat.add_right_cancel_iff, rz_nb0, rz_nb1, rz_nbb, rz_nbi, rz_isr, rz_zle, if_true, if_false, rz_bi0, rz_bi1, Bool.not_eq_true, Bool.not_eq_false, Bool.true_eq_false, Bool.false_eq_true, rz_ix_lit, cl_lit, Nat.reduceLT, bi_t, bi_f, decide_true, decide_false, Bool.not_false, Bool.not_true, Bool.and_true, Bool.true_and, Bool.and_false, Bool.false_and, oWt_c o1, oWt_f0 o1, oWt_v0 o1, oWt_f1 o1, oWt_v1 o1, oWt_f2 o1, oWt_v2 o1, oWt_f3 o1, oWt_v3 o1, oWt_i4 o1, oWt_i5 o1, oWt_i6 o1, oWt_i7 o1, oWt_i8 o1, oWt_a1 o1, oWt_n1 o1, oWt_a2 o1, oWt_n2 o1, oWt_a3 o1, oWt_n3 o1, oTp_c, oTp_f0, oTp_v0, oTp_i1, oTp_i2, oTp_i3, oTp_i4, oTp_i5, oTp_i6, oTp_a1, oTp_n1, o1, o2, W15, a15, W16, a16, W17, a17, f1]
        | inr f =>
          obtain ⟨ι1, f1, f2⟩ := F
          refine ⟨ι1, ?_, f2⟩
          rw [e106]
          simp (decide := true) (maxDischargeDepth := 4) only [g106_0, g106_1, g106_4, g106_6, g106_9, g106_12, g106_13, g106_16, g106_17, g106_18, g106_21, g106_23, g106_26, g106_29, g106_30, g106_31, g106_34, g106_35, g106_36, g106_39, g106_41, g106_44, g106_47, g106_48, g106_51, g106_52, g106_53, g106_56, g106_58, g106_61, g106_64, g106_65, g106_66, g106_69, g106_70, g106_71, g106_74, g106_76, g106_79, g106_82, g106_83, g106_84, g106_85, g106_86, g106_87, g106_90, g106_93, g106_94, g106_97, g106_98, g106_101, rz_k_inl, rz_k_inr, Option.toList_some, Option.toList_none, List.cons_append, List.nil_append, List.append_nil, rz_up_s, rz_u_s, rz_up_n, rz_u_n, ne_eq, not_false_eq_true, not_true_eq_false, Nat.add_assoc, Nat.reduceAdd, reduceIte, Nat.add_eq_left, Nat.left_eq_add, Nat.add_left_cancel_iff, Nat.reduceEqDiff, Nat.add_right_cancel_iff, rz_nb0, rz_nb1, rz_nbb, rz_nbi, rz_isr, rz_zle, if_true, if_false, rz_bi0, rz_bi1, Bool.not_eq_true, Bool.not_eq_false, Bool.true_eq_false, Bool.false_eq_true, rz_ix_lit, cl_lit, Nat.reduceLT, bi_t, bi_f, decide_true, decide_false, Bool.not_false, Bool.not_true, Bool.and_true, Bool.true_and, Bool.and_false, Bool.false_and, oWt_c o1, oWt_f0 o1, oWt_v0 o1, oWt_f1 o1, oWt_v1 o1, oWt_f2 o1, oWt_v2 o1, oWt_f3 o1, oWt_v3 o1, oWt_i4 o1, oWt_i5 o1, oWt_i6 o1, oWt_i7 o1, oWt_i8 o1, oWt_a1 o1, oWt_n1 o1, oWt_a2 o1, oWt_n2 o1, oWt_a3 o1, oWt_n3 o1, oTp_c, oTp_f0, oTp_v0, oTp_i1, oTp_i2, oTp_i3, oTp_i4, oTp_i5, oTp_i6, oTp_a1, oTp_n1, o1, o2, W15, a15, W16, a16, W17, a17, f1]
      | false =>
        rw [c17] at W17
        rw [if_neg (by decide)]
        cases c18 : wdIs (ι0 (t + 1)) (sk (ι0 (t + 1)) e p) (wdR (ι0 (t + 1)) e p) (WD 18) with
        | true =>
          rw [c18] at W18
          rw [if_pos rfl]
          simp only [rB_assoc, rB_l]
          have F := wc_one (Z := Z) (d := d + 1) (w := w) (op := 3) OO he he6 w2 hm i
          rw [show nI 3 = 3 from rfl] at F
          revert F
          generalize rB (nmN (ι0 (t + 1)) e 7 (wdR (ι0 (t + 1)) e p)) (fun x => (.inl (K, upT T m (3, x.1, 0, 0), m + 1, x.2) : WtS ⊕ (Nat × Nat))) = X
          intro F
          cases X with
          | inl s =>
            obtain ⟨ι1, f1, f2⟩ := F
            refine ⟨ι1, ?_, f2⟩
            rw [e106]
            simp (decide := true) (maxDischargeDepth := 4) only [g106_0, g106_1, g106_4, g106_6, g106_9, g106_12, g106_13, g106_16, g106_17, g106_18, g106_21, g106_23, g106_26, g106_29, g106_30, g106_31, g106_34, g106_35, g106_36, g106_39, g106_41, g106_44, g106_47, g106_48, g106_51, g106_52, g106_53, g106_56, g106_58, g106_61, g106_64, g106_65, g106_66, g106_69, g106_70, g106_71, g106_74, g106_76, g106_79, g106_82, g106_83, g106_84, g106_85, g106_86, g106_87, g106_90, g106_93, g106_94, g106_97, g106_98, g106_101, rz_k_inl, rz_k_inr, Option.toList_some, Option.toList_none, List.cons_append, List.nil_append, List.append_nil, rz_up_s, rz_u_s, rz_up_n, rz_u_n, ne_eq, not_false_eq_true, not_true_eq_false, Nat.add_assoc, Nat.reduceAdd, reduceIte, Nat.add_eq_left, Nat.left_eq_add, Nat.add_left_cancel_iff, Nat.reduceEqDiff, Nat.add_right_cancel_iff, rz_nb0, rz_nb1, rz_nbb, rz_nbi, rz_isr, rz_zle, if_true, if_false, rz_bi0, rz_bi1, Bool.not_eq_true, Bool.not_eq_false, Bool.true_eq_false, Bool.false_eq_true, rz_ix_lit, cl_lit, Nat.reduceLT, bi_t, bi_f, decide_true, decide_false, Bool.not_false, Bool.not_true, Bool.and_true, Bool.true_and, Bool.and_false, Bool.false_and, oWt_c o1, oWt_f0 o1, oWt_v0 o1, oWt_f1 o1, oWt_v1 o1, oWt_f2 o1, oWt_v2 o1, oWt_f3 o1, oWt_v3 o1, oWt_i4 o1, oWt_i5 o1, oWt_i6 o1, oWt_i7 o1, oWt_i8 o1, oWt_a1 o1, oWt_n1 o1, oWt_a2 o1, oWt_n2 o1, oWt_a3 o1, oWt_n3 o1, oTp_c, oTp_f0, oTp_v0, oTp_i1, oTp_i2, oTp_i3, oTp_i4, oTp_i5, oTp_i6, oTp_a1, oTp_n1, o1, o2, W15, a15, W16, a16, W17, a17, W18, a18, f1]
          | inr f =>
            obtain ⟨ι1, f1, f2⟩ := F
            refine ⟨ι1, ?_, f2⟩
            rw [e106]
            simp (decide := true) (maxDischargeDepth := 4) only [g106_0, g106_1, g106_4, g106_6, g106_9, g106_12, g106_13, g106_16, g106_17, g106_18, g106_21, g106_23, g106_26, g106_29, g106_30, g106_31, g106_34, g106_35, g106_36, g106_39, g106_41, g106_44, g106_47, g106_48, g106_51, g106_52, g106_53, g106_56, g106_58, g106_61, g106_64, g106_65, g106_66, g106_69, g106_70, g106_71, g106_74, g106_76, g106_79, g106_82, g106_83, g106_84, g106_85, g106_86, g106_87, g106_90, g106_93, g106_94, g106_97, g106_98, g106_101, rz_k_inl, rz_k_inr, Option.toList_some, Option.toList_none, List.cons_append, List.nil_append, List.append_nil, rz_up_s, rz_u_s, rz_up_n, rz_u_n, ne_eq, not_false_eq_true, not_true_eq_false, Nat.add_assoc, Nat.reduceAdd, reduceIte, Nat.add_eq_left, Nat.left_eq_add, Nat.add_left_cancel_iff, Nat.reduceEqDiff, Nat.add_right_cancel_iff, rz_nb0, rz_nb1, rz_nbb, rz_nbi, rz_isr, rz_zle, if_true, if_false, rz_bi0, rz_bi1, Bool.not_eq_true, Bool.not_eq_false, Bool.true_eq_false, Bool.false_eq_true, rz_ix_lit, cl_lit, Nat.reduceLT, bi_t, bi_f, decide_true, decide_false, Bool.not_false, Bool.not_true, Bool.and_true, Bool.true_and, Bool.and_false, Bool.false_and, oWt_c o1, oWt_f0 o1, oWt_v0 o1, oWt_f1 o1, oWt_v1 o1, oWt_f2 o1, oWt_v2 o1, oWt_f3 o1, oWt_v3 o1, oWt_i4 o1, oWt_i5 o1, oWt_i6 o1, oWt_i7 o1, oWt_i8 o1, oWt_a1 o1, oWt_n1 o1, oWt_a2 o1, oWt_n2 o1, oWt_a3 o1, oWt_n3 o1, oTp_c, oTp_f0, oTp_v0, oTp_i1, oTp_i2, oTp_i3, oTp_i4, oTp_i5, oTp_i6, oTp_a1, oTp_n1, o1, o2, W15, a15, W16, a16, W17, a17, W18, a18, f1]
        | false =>
          rw [c18] at W18
          rw [if_neg (by decide)]
          cases c19 : wdIs (ι0 (t + 1)) (sk (ι0 (t + 1)) e p) (wdR (ι0 (t + 1)) e p) (WD 19) with
          | true =>
            rw [c19] at W19
            rw [if_pos rfl]
            obtain ⟨ι1, f1, f2, -⟩ := wc_put (Z := Z) (d := d + 2) (w := w) OO i hm (4, 0, 0, 0)
            rw [show nI 0 = 0 from rfl, show nI 4 = 4 from rfl] at f1
            refine ⟨ι1, ?_, f2⟩
            rw [e106]
            simp (decide := true) (maxDischargeDepth := 4) only [g106_0, g106_1, g106_4, g106_6, g106_9, g106_12, g106_13, g106_16, g106_17, g106_18, g106_21, g106_23, g106_26, g106_29, g106_30, g106_31, g106_34, g106_35, g106_36, g106_39, g106_41, g106_44, g106_47, g106_48, g106_51, g106_52, g106_53, g106_56, g106_58, g106_61, g106_64, g106_65, g106_66, g106_69, g106_70, g106_71, g106_74, g106_76, g106_79, g106_82, g106_83, g106_84, g106_85, g106_86, g106_87, g106_90, g106_93, g106_94, g106_97, g106_98, g106_101, rz_k_inl, rz_k_inr, Option.toList_some, Option.toList_none, List.cons_append, List.nil_append, List.append_nil, rz_up_s, rz_u_s, rz_up_n, rz_u_n, ne_eq, not_false_eq_true, not_true_eq_false, Nat.add_assoc, Nat.reduceAdd, reduceIte, Nat.add_eq_left, Nat.left_eq_add, Nat.add_left_cancel_iff, Nat.reduceEqDiff, Nat.add_right_cancel_iff, rz_nb0, rz_nb1, rz_nbb, rz_nbi, rz_isr, rz_zle, if_true, if_false, rz_bi0, rz_bi1, Bool.not_eq_true, Bool.not_eq_false, Bool.true_eq_false, Bool.false_eq_true, rz_ix_lit, cl_lit, Nat.reduceLT, bi_t, bi_f, decide_true, decide_false, Bool.not_false, Bool.not_true, Bool.and_true, Bool.true_and, Bool.and_false, Bool.false_and, oWt_c o1, oWt_f0 o1, oWt_v0 o1, oWt_f1 o1, oWt_v1 o1, oWt_f2 o1, oWt_v2 o1, oWt_f3 o1, oWt_v3 o1, oWt_i4 o1, oWt_i5 o1, oWt_i6 o1, oWt_i7 o1, oWt_i8 o1, oWt_a1 o1, oWt_n1 o1, oWt_a2 o1, oWt_n2 o1, oWt_a3 o1, oWt_n3 o1, oTp_c, oTp_f0, oTp_v0, oTp_i1, oTp_i2, oTp_i3, oTp_i4, oTp_i5, oTp_i6, oTp_a1, oTp_n1, o1, o2, W15, a15, W16, a16, W17, a17, W18, a18, W19, a19, f1]
          | false =>
            rw [c19] at W19
            rw [if_neg (by decide)]
            obtain ⟨ι1, f1, f2⟩ := tq_blameT (Z := Z) (d := d + 4) (w := w) (f := 1) o2 o4 h3
            rw [show nI 1 = 1 from rfl] at f1
            refine ⟨ι1, ?_, i.no f2⟩
            rw [e106]
            simp (decide := true) (maxDischargeDepth := 4) only [g106_0, g106_1, g106_4, g106_6, g106_9, g106_12, g106_13, g106_16, g106_17, g106_18, g106_21, g106_23, g106_26, g106_29, g106_30, g106_31, g106_34, g106_35, g106_36, g106_39, g106_41, g106_44, g106_47, g106_48, g106_51, g106_52, g106_53, g106_56, g106_58, g106_61, g106_64, g106_65, g106_66, g106_69, g106_70, g106_71, g106_74, g106_76, g106_79, g106_82, g106_83, g106_84, g106_85, g106_86, g106_87, g106_90, g106_93, g106_94, g106_97, g106_98, g106_101, rz_k_inl, rz_k_inr, Option.toList_some, Option.toList_none, List.cons_append, List.nil_append, List.append_nil, rz_up_s, rz_u_s, rz_up_n, rz_u_n, ne_eq, not_false_eq_true, not_true_eq_false, Nat.add_assoc, Nat.reduceAdd, reduceIte, Nat.add_eq_left, Nat.left_eq_add, Nat.add_left_cancel_iff, Nat.reduceEqDiff, Nat.add_right_cancel_iff, rz_nb0, rz_nb1, rz_nbb, rz_nbi, rz_isr, rz_zle, if_true, if_false, rz_bi0, rz_bi1, Bool.not_eq_true, Bool.not_eq_false, Bool.true_eq_false, Bool.false_eq_true, rz_ix_lit, cl_lit, Nat.reduceLT, bi_t, bi_f, decide_true, decide_false, Bool.not_false, Bool.not_true, Bool.and_true, Bool.true_and, Bool.and_false, Bool.false_and, oWt_c o1, oWt_f0 o1, oWt_v0 o1, oWt_f1 o1, oWt_v1 o1, oWt_f2 o1, oWt_v2 o1, oWt_f3 o1, oWt_v3 o1, oWt_i4 o1, oWt_i5 o1, oWt_i6 o1, oWt_i7 o1, oWt_i8 o1, oWt_a1 o1, oWt_n1 o1, oWt_a2 o1, oWt_n2 o1, oWt_a3 o1, oWt_n3 o1, oTp_c, oTp_f0, oTp_v0, oTp_i1, oTp_i2, oTp_i3, oTp_i4, oTp_i5, oTp_i6, oTp_a1, oTp_n1, o1, o2, W15, a15, W16, a16, W17, a17, W18, a18, W19, a19, f1]
theorem wc_again {e m p : Nat} {K : List Nat} {T : Nat → TK} (O : wcO Z h t a) (he : ι0 t 1 = nI e) (he6 : e ≤ 600) (hpe : p ≤ e) (hm : m < 37) (hK : K.length ≤ 6) (i : wcI t a ι0 ι K T m (wdR (ι0 (t + 1)) e p)) (h3 : ι t 3 = nI (sk (ι0 (t + 1)) e p)) : wcC Z h w t a ι0 (d + 4) 107 [.ref a] ι (if K.length < 6 then rB (nmN (ι0 (t + 1)) e 60 (wdR (ι0 (t + 1)) e p)) (fun x => rB (smP (ι0 (t + 1)) e 91 x.2) (fun q => .inl (m :: K, upT T m (5, x.1, 0, 0), m + 1, q))) else .inr (3, sk (ι0 (t + 1)) e p)) := by
  have OO := O
  obtain ⟨o1, o2, o4, o5⟩ := O
  obtain ⟨w1, w2⟩ := wdR_le (B := ι0 (t + 1)) hpe
  have hza : Z.2.1 ≤ a := by omega
  have e1 : ι t 1 = nI e := i.1.2.1.trans he
  have eB := i.by OO
  have h5 := i.2.2.2.2.2.1
  have cc : (nI K.length < 6) = (K.length < 6) := nI_ltL (by omega) (by decide)
  by_cases h6 : K.length < 6
  · have h6' : (K.length < 6) = True := by simp [h6]
    rw [if_pos h6]
    cases n1 : nmN (ι0 (t + 1)) e 60 (wdR (ι0 (t + 1)) e p) with
    | inr f =>
      obtain ⟨ι1, g1, g2⟩ := tp_num_no (Z := Z) (d := d) (w := w) o2 o4 e1 i.2.2.2.1 w2 he6 (by rw [eB]; exact nmN_no n1)
      refine ⟨ι1, ?_, i.no g2⟩
      rw [e107]
      simp (decide := true) (maxDischargeDepth := 4) only [g107_0, g107_1, g107_4, g107_6, g107_9, g107_10, g107_13, g107_14, g107_17, g107_18, g107_19, g107_22, g107_24, g107_27, g107_28, g107_29, g107_30, g107_33, g107_34, g107_37, g107_39, g107_42, g107_45, g107_46, g107_47, g107_48, g107_51, g107_52, g107_55, g107_56, g107_59, g107_60, g107_61, g107_62, g107_65, g107_66, g107_67, g107_70, g107_71, g107_72, g107_73, g107_74, g107_75, g107_78, rz_k_inl, rz_k_inr, Option.toList_some, Option.toList_none, List.cons_append, List.nil_append, List.append_nil, rz_up_s, rz_u_s, rz_up_n, rz_u_n, ne_eq, not_false_eq_true, not_true_eq_false, Nat.add_assoc, Nat.reduceAdd, reduceIte, Nat.add_eq_left, Nat.left_eq_add, Nat.add_left_cancel_iff, Nat.reduceEqDiff, Nat.add_right_cancel_iff, rz_nb0, rz_nb1, rz_nbb, rz_nbi, rz_isr, rz_zle, if_true, if_false, rz_bi0, rz_bi1, Bool.not_eq_true, Bool.not_eq_false, Bool.true_eq_false, Bool.false_eq_true, rz_ix_lit, cl_lit, Nat.reduceLT, bi_t, bi_f, decide_true, decide_false, Bool.not_false, Bool.not_true, Bool.and_true, Bool.true_and, Bool.and_false, Bool.false_and, oWt_c o1, oWt_f0 o1, oWt_v0 o1, oWt_f1 o1, oWt_v1 o1, oWt_f2 o1, oWt_v2 o1, oWt_f3 o1, oWt_v3 o1, oWt_i4 o1, oWt_i5 o1, oWt_i6 o1, oWt_i7 o1, oWt_i8 o1, oWt_a1 o1, oWt_n1 o1, oWt_a2 o1, oWt_n2 o1, oWt_a3 o1, oWt_n3 o1, oTp_c, oTp_f0, oTp_v0, oTp_i1, oTp_i2, oTp_i3, oTp_i4, oTp_i5, oTp_i6, oTp_a1, oTp_n1, o1, o2, h5, cc, h6', g1]
    | inl x =>
      obtain ⟨a1, a2, a3, a4, a5⟩ := nmN_ok w2 n1
      obtain ⟨ι1, g1, g2⟩ := tp_num_ok (Z := Z) (d := d) (w := w) o2 o4 e1 i.2.2.2.1 w2 he6 (by rw [eB]; exact a1)
      have i1 := i.tp OO g2
      have e11 : ι1 t 1 = nI e := i1.1.2.1.trans he
      have eB1 := i1.by OO
      have x1 := nI_m1 (show x.1 < 2147483648 by omega)
      rw [rB_l]
      cases n2 : smP (ι0 (t + 1)) e 91 x.2 with
      | inr f =>
        obtain ⟨ι2, k1, k2⟩ := tq_needs_no (Z := Z) (d := d + 1) (w := w) o2 o4 e11 i1.2.2.2.1 a5 he6 (c := 91) (by rw [eB1]; exact n2)
        refine ⟨ι2, ?_, i1.no k2⟩
        rw [e107]
        simp (decide := true) (maxDischargeDepth := 4) only [g107_0, g107_1, g107_4, g107_6, g107_9, g107_10, g107_13, g107_14, g107_17, g107_18, g107_19, g107_22, g107_24, g107_27, g107_28, g107_29, g107_30, g107_33, g107_34, g107_37, g107_39, g107_42, g107_45, g107_46, g107_47, g107_48, g107_51, g107_52, g107_55, g107_56, g107_59, g107_60, g107_61, g107_62, g107_65, g107_66, g107_67, g107_70, g107_71, g107_72, g107_73, g107_74, g107_75, g107_78, rz_k_inl, rz_k_inr, Option.toList_some, Option.toList_none, List.cons_append, List.nil_append, List.append_nil, rz_up_s, rz_u_s, rz_up_n, rz_u_n, ne_eq, not_false_eq_true, not_true_eq_false, Nat.add_assoc, Nat.reduceAdd, reduceIte, Nat.add_eq_left, Nat.left_eq_add, Nat.add_left_cancel_iff, Nat.reduceEqDiff, Nat.add_right_cancel_iff, rz_nb0, rz_nb1, rz_nbb, rz_nbi, rz_isr, rz_zle, if_true, if_false, rz_bi0, rz_bi1, Bool.not_eq_true, Bool.not_eq_false, Bool.true_eq_false, Bool.false_eq_true, rz_ix_lit, cl_lit, Nat.reduceLT, bi_t, bi_f, decide_true, decide_false, Bool.not_false, Bool.not_true, Bool.and_true, Bool.true_and, Bool.and_false, Bool.false_and, oWt_c o1, oWt_f0 o1, oWt_v0 o1, oWt_f1 o1, oWt_v1 o1, oWt_f2 o1, oWt_v2 o1, oWt_f3 o1, oWt_v3 o1, oWt_i4 o1, oWt_i5 o1, oWt_i6 o1, oWt_i7 o1, oWt_i8 o1, oWt_a1 o1, oWt_n1 o1, oWt_a2 o1, oWt_n2 o1, oWt_a3 o1, oWt_n3 o1, oTp_c, oTp_f0, oTp_v0, oTp_i1, oTp_i2, oTp_i3, oTp_i4, oTp_i5, oTp_i6, oTp_a1, oTp_n1, o1, o2, h5, cc, h6', g1, x1, k1]
      | inl q =>
        obtain ⟨ι2, k1, k2⟩ := tq_needs_ok (Z := Z) (d := d + 1) (w := w) o2 o4 e11 i1.2.2.2.1 a5 he6 (c := 91) (by decide) (by rw [eB1]; exact n2)
        have i2 := i1.tp OO k2
        have h42 := i2.2.2.2.2.1
        have h52 := i2.2.2.2.2.2.1
        have i3 : wcI t a ι0 (rz_up (rz_up ι2 (a + 2) K.length (nI m)) a 5 (nI (K.length + 1))) (m :: K) T m q := by
          obtain ⟨j1, j2, j3, j4, j5, j6, j7, j8⟩ := i2
          refine ⟨(j1.up (by unfold wcQ; omega) (by omega)).up (by unfold wcQ; omega) (by omega), by rw [rz_up_n (by omega), rz_up_n (by omega)]; exact j2, by rw [rz_up_n (by omega), rz_up_n (by omega)]; exact j3, by rw [rz_up_n (by omega), rz_up_n (by omega)]; exact j4, by rw [rz_up_s, rz_u_n (by omega), rz_up_n (by omega)]; exact j5, by rw [rz_up_s, rz_u_s]; rfl, fun j hj => ?_, fun j hj => ?_⟩
          · unfold tkI
            rw [rz_up_n (by omega), rz_up_n (by omega)]
            exact j7 j hj
          · have hj : j < K.length + 1 := hj
            rw [rz_up_n (by omega), rz_up_s]
            show rz_u (ι2 (a + 2)) K.length (nI m) (K.length + 1 - 1 - j) = nI ((m :: K).getD j 0)
            cases j with
            | zero => rw [show K.length + 1 - 1 - 0 = K.length by omega, rz_u_s]; rfl
            | succ j =>
              rw [rz_u_n (by omega), show K.length + 1 - 1 - (j + 1) = K.length - 1 - j by omega, j8 j (by omega)]
              rfl
        obtain ⟨ι4, l1, l2, -⟩ := wc_put (Z := Z) (d := d) (w := w) OO i3 hm (5, x.1, 0, 0)
        rw [show nI 0 = 0 from rfl, show nI 5 = 5 from rfl] at l1
        have ix : rz_ix (nI K.length) 6 := rz_ix_nat h6 (by omega)
        refine ⟨ι4, ?_, l2⟩
        rw [e107]
        simp (decide := true) (maxDischargeDepth := 4) only [g107_0, g107_1, g107_4, g107_6, g107_9, g107_10, g107_13, g107_14, g107_17, g107_18, g107_19, g107_22, g107_24, g107_27, g107_28, g107_29, g107_30, g107_33, g107_34, g107_37, g107_39, g107_42, g107_45, g107_46, g107_47, g107_48, g107_51, g107_52, g107_55, g107_56, g107_59, g107_60, g107_61, g107_62, g107_65, g107_66, g107_67, g107_70, g107_71, g107_72, g107_73, g107_74, g107_75, g107_78, rz_k_inl, rz_k_inr, Option.toList_some, Option.toList_none, List.cons_append, List.nil_append, List.append_nil, rz_up_s, rz_u_s, rz_up_n, rz_u_n, ne_eq, not_false_eq_true, not_true_eq_false, Nat.add_assoc, Nat.reduceAdd, reduceIte, Nat.add_eq_left, Nat.left_eq_add, Nat.add_left_cancel_iff, Nat.reduceEqDiff, Nat.add_right_cancel_iff, rz_nb0, rz_nb1, rz_nbb, rz_nbi, rz_isr, rz_zle, if_true, if_false, rz_bi0, rz_bi1, Bool.not_eq_true, Bool.not_eq_false, Bool.true_eq_false, Bool.false_eq_true, rz_ix_lit, cl_lit, Nat.reduceLT, bi_t, bi_f, decide_true, decide_false, Bool.not_false, Bool.not_true, Bool.and_true, Bool.true_and, Bool.and_false, Bool.false_and, oWt_c o1, oWt_f0 o1, oWt_v0 o1, oWt_f1 o1, oWt_v1 o1, oWt_f2 o1, oWt_v2 o1, oWt_f3 o1, oWt_v3 o1, oWt_i4 o1, oWt_i5 o1, oWt_i6 o1, oWt_i7 o1, oWt_i8 o1, oWt_a1 o1, oWt_n1 o1, oWt_a2 o1, oWt_n2 o1, oWt_a3 o1, oWt_n3 o1, oTp_c, oTp_f0, oTp_v0, oTp_i1, oTp_i2, oTp_i3, oTp_i4, oTp_i5, oTp_i6, oTp_a1, oTp_n1, o1, o2, hza, h5, cc, h6', g1, x1, k1, h42, h52, ix, nI_cl (show K.length < 2147483648 by omega), nI_1, l1, show ¬ ((1 : Int32) = 0) by decide]
  · have h6' : (K.length < 6) = False := by simp [h6]
    rw [if_neg h6]
    obtain ⟨ι1, f1, f2⟩ := tq_blameT (Z := Z) (d := d + 2) (w := w) (f := 3) o2 o4 h3
    rw [show nI 3 = 3 from rfl] at f1
    refine ⟨ι1, ?_, i.no f2⟩
    rw [e107]
    simp (decide := true) (maxDischargeDepth := 4) only [g107_0, g107_1, g107_4, g107_6, g107_9, g107_10, g107_13, g107_14, g107_17, g107_18, g107_19, g107_22, g107_24, g107_27, g107_28, g107_29, g107_30, g107_33, g107_34, g107_37, g107_39, g107_42, g107_45, g107_46, g107_47, g107_48, g107_51, g107_52, g107_55, g107_56, g107_59, g107_60, g107_61, g107_62, g107_65, g107_66, g107_67, g107_70, g107_71, g107_72, g107_73, g107_74, g107_75, g107_78, rz_k_inl, rz_k_inr, Option.toList_some, Option.toList_none, List.cons_append, List.nil_append, List.append_nil, rz_up_s, rz_u_s, rz_up_n, rz_u_n, ne_eq, not_false_eq_true, not_true_eq_false, Nat.add_assoc, Nat.reduceAdd, reduceIte, Nat.add_eq_left, Nat.left_eq_add, Nat.add_left_cancel_iff, Nat.reduceEqDiff, Nat.add_right_cancel_iff, rz_nb0, rz_nb1, rz_nbb, rz_nbi, rz_isr, rz_zle, if_true, if_false, rz_bi0, rz_bi1, Bool.not_eq_true, Bool.not_eq_false, Bool.true_eq_false, Bool.false_eq_true, rz_ix_lit, cl_lit, Nat.reduceLT, bi_t, bi_f, decide_true, decide_false, Bool.not_false, Bool.not_true, Bool.and_true, Bool.true_and, Bool.and_false, Bool.false_and, oWt_c o1, oWt_f0 o1, oWt_v0 o1, oWt_f1 o1, oWt_v1 o1, oWt_f2 o1, oWt_v2 o1, oWt_f3 o1, oWt_v3 o1, oWt_i4 o1, oWt_i5 o1, oWt_i6 o1, oWt_i7 o1, oWt_i8 o1, oWt_a1 o1, oWt_n1 o1, oWt_a2 o1, oWt_n2 o1, oWt_a3 o1, oWt_n3 o1, oTp_c, oTp_f0, oTp_v0, oTp_i1, oTp_i2, oTp_i3, oTp_i4, oTp_i5, oTp_i6, oTp_a1, oTp_n1, o1, o2, h5, cc, h6', f1]
theorem wc_step {e m p : Nat} {K : List Nat} {T : Nat → TK} (hst : stH Z h) (O : wcO Z h t a) (he : ι0 t 1 = nI e) (he6 : e ≤ 600) (hpe : p ≤ e) (hm : m < 37) (hK : K.length ≤ 6) (i : wcI t a ι0 ι K T m (sk (ι0 (t + 1)) e p)) : wcC Z h w t a ι0 (d + 7) 105 [.ref a] ι (if wdIs (ι0 (t + 1)) (sk (ι0 (t + 1)) e p) (wdR (ι0 (t + 1)) e p) (WD 14) = true then (if K.length < 6 then rB (nmN (ι0 (t + 1)) e 60 (wdR (ι0 (t + 1)) e p)) (fun x => rB (smP (ι0 (t + 1)) e 91 x.2) (fun q => .inl (m :: K, upT T m (5, x.1, 0, 0), m + 1, q))) else .inr (3, sk (ι0 (t + 1)) e p)) else rB (wtP (ι0 (t + 1)) e p) (fun x => rB (smP (ι0 (t + 1)) e 59 x.2) (fun q => .inl (K, upT T m x.1, m + 1, q)))) := by
  have OO := O
  obtain ⟨o1, o2, o4, o5⟩ := O
  have hsk := sk_le (B := ι0 (t + 1)) hpe
  obtain ⟨w1, w2⟩ := wdR_le (B := ι0 (t + 1)) hpe
  have e1 : ι t 1 = nI e := i.1.2.1.trans he
  have eB := i.by OO
  obtain ⟨ι2, k1, k2, k3⟩ := tq_word (Z := Z) (d := d + 4) (w := w) o2 o4 e1 i.2.2.2.1 hsk he6
  rw [eB, wdR_sk] at k2
  rw [eB, sk_sk] at k3
  have i2 := i.tp OO k2
  have e12 : ι2 t 1 = nI e := i2.1.2.1.trans he
  have eB2 := i2.by OO
  obtain ⟨v14, s14⟩ : ∃ v, oSt h (Z.2.2.2 15) v (WD 14) := hst 14 (by omega)
  have W14 := tp_wordIs (Z := Z) (d := d + 1) (w := w) o2 s14 e12 i2.2.2.2.1 k3 w1 w2 he6
  rw [eB2] at W14
  have a14 : rz_ar h (Z.2.2.2 15) 9 := ⟨_, _, s14.1⟩
  cases c14 : wdIs (ι0 (t + 1)) (sk (ι0 (t + 1)) e p) (wdR (ι0 (t + 1)) e p) (WD 14) with
  | true =>
    rw [c14] at W14
    rw [if_pos rfl]
    have F := wc_again (Z := Z) (d := d + 2) (w := w) OO he he6 hpe hm hK i2 k3
    revert F
    generalize (if K.length < 6 then rB (nmN (ι0 (t + 1)) e 60 (wdR (ι0 (t + 1)) e p)) (fun x => rB (smP (ι0 (t + 1)) e 91 x.2) (fun q => (.inl (m :: K, upT T m (5, x.1, 0, 0), m + 1, q) : WtS ⊕ (Nat × Nat)))) else .inr (3, sk (ι0 (t + 1)) e p)) = X
    intro F
    cases X with
    | inl s =>
      obtain ⟨ι3, f1, f2⟩ := F
      refine ⟨ι3, ?_, f2⟩
      rw [e105]
      simp (decide := true) (maxDischargeDepth := 4) only [g105_0, g105_1, g105_4, g105_7, g105_8, g105_11, g105_13, g105_16, g105_19, g105_20, g105_23, g105_24, g105_25, g105_28, g105_31, g105_32, g105_35, g105_37, g105_40, g105_43, g105_44, g105_47, g105_48, rz_k_inl, rz_k_inr, Option.toList_some, Option.toList_none, List.cons_append, List.nil_append, List.append_nil, rz_up_s, rz_u_s, rz_up_n, rz_u_n, ne_eq, not_false_eq_true, not_true_eq_false, Nat.add_assoc, Nat.reduceAdd, reduceIte, Nat.add_eq_left, Nat.left_eq_add, Nat.add_left_cancel_iff, Nat.reduceEqDiff, Nat.add_right_cancel_iff, rz_nb0, rz_nb1, rz_nbb, rz_nbi, rz_isr, rz_zle, if_true, if_false, rz_bi0, rz_bi1, Bool.not_eq_true, Bool.not_eq_false, Bool.true_eq_false, Bool.false_eq_true, rz_ix_lit, cl_lit, Nat.reduceLT, bi_t, bi_f, decide_true, decide_false, Bool.not_false, Bool.not_true, Bool.and_true, Bool.true_and, Bool.and_false, Bool.false_and, oWt_c o1, oWt_f0 o1, oWt_v0 o1, oWt_f1 o1, oWt_v1 o1, oWt_f2 o1, oWt_v2 o1, oWt_f3 o1, oWt_v3 o1, oWt_i4 o1, oWt_i5 o1, oWt_i6 o1, oWt_i7 o1, oWt_i8 o1, oWt_a1 o1, oWt_n1 o1, oWt_a2 o1, oWt_n2 o1, oWt_a3 o1, oWt_n3 o1, oTp_c, oTp_f0, oTp_v0, oTp_i1, oTp_i2, oTp_i3, oTp_i4, oTp_i5, oTp_i6, oTp_a1, oTp_n1, o1, o2, k1, W14, a14, f1]
    | inr f =>
      obtain ⟨ι3, f1, f2⟩ := F
      refine ⟨ι3, ?_, f2⟩
      rw [e105]
      simp (decide := true) (maxDischargeDepth := 4) only [g105_0, g105_1, g105_4, g105_7, g105_8, g105_11, g105_13, g105_16, g105_19, g105_20, g105_23, g105_24, g105_25, g105_28, g105_31, g105_32, g105_35, g105_37, g105_40, g105_43, g105_44, g105_47, g105_48, rz_k_inl, rz_k_inr, Option.toList_some, Option.toList_none, List.cons_append, List.nil_append, List.append_nil, rz_up_s, rz_u_s, rz_up_n, rz_u_n, ne_eq, not_false_eq_true, not_true_eq_false, Nat.add_assoc, Nat.reduceAdd, reduceIte, Nat.add_eq_left, Nat.left_eq_add, Nat.add_left_cancel_iff, Nat.reduceEqDiff, Nat.add_right_cancel_iff, rz_nb0, rz_nb1, rz_nbb, rz_nbi, rz_isr, rz_zle, if_true, if_false, rz_bi0, rz_bi1, Bool.not_eq_true, Bool.not_eq_false, Bool.true_eq_false, Bool.false_eq_true, rz_ix_lit, cl_lit, Nat.reduceLT, bi_t, bi_f, decide_true, decide_false, Bool.not_false, Bool.not_true, Bool.and_true, Bool.true_and, Bool.and_false, Bool.false_and, oWt_c o1, oWt_f0 o1, oWt_v0 o1, oWt_f1 o1, oWt_v1 o1, oWt_f2 o1, oWt_v2 o1, oWt_f3 o1, oWt_v3 o1, oWt_i4 o1, oWt_i5 o1, oWt_i6 o1, oWt_i7 o1, oWt_i8 o1, oWt_a1 o1, oWt_n1 o1, oWt_a2 o1, oWt_n2 o1, oWt_a3 o1, oWt_n3 o1, oTp_c, oTp_f0, oTp_v0, oTp_i1, oTp_i2, oTp_i3, oTp_i4, oTp_i5, oTp_i6, oTp_a1, oTp_n1, o1, o2, k1, W14, a14, f1]
  | false =>
    rw [c14] at W14
    rw [if_neg (by decide)]
    have F := wc_plain (Z := Z) (d := d) (w := w) hst OO he he6 hpe hm i2 k3
    cases x0 : wtP (ι0 (t + 1)) e p with
    | inr f =>
      rw [x0] at F
      obtain ⟨ι3, f1, f2⟩ := F
      refine ⟨ι3, ?_, f2⟩
      rw [e105]
      simp (decide := true) (maxDischargeDepth := 4) only [g105_0, g105_1, g105_4, g105_7, g105_8, g105_11, g105_13, g105_16, g105_19, g105_20, g105_23, g105_24, g105_25, g105_28, g105_31, g105_32, g105_35, g105_37, g105_40, g105_43, g105_44, g105_47, g105_48, rz_k_inl, rz_k_inr, Option.toList_some, Option.toList_none, List.cons_append, List.nil_append, List.append_nil, rz_up_s, rz_u_s, rz_up_n, rz_u_n, ne_eq, not_false_eq_true, not_true_eq_false, Nat.add_assoc, Nat.reduceAdd, reduceIte, Nat.add_eq_left, Nat.left_eq_add, Nat.add_left_cancel_iff, Nat.reduceEqDiff, Nat.add_right_cancel_iff, rz_nb0, rz_nb1, rz_nbb, rz_nbi, rz_isr, rz_zle, if_true, if_false, rz_bi0, rz_bi1, Bool.not_eq_true, Bool.not_eq_false, Bool.true_eq_false, Bool.false_eq_true, rz_ix_lit, cl_lit, Nat.reduceLT, bi_t, bi_f, decide_true, decide_false, Bool.not_false, Bool.not_true, Bool.and_true, Bool.true_and, Bool.and_false, Bool.false_and, oWt_c o1, oWt_f0 o1, oWt_v0 o1, oWt_f1 o1, oWt_v1 o1, oWt_f2 o1, oWt_v2 o1, oWt_f3 o1, oWt_v3 o1, oWt_i4 o1, oWt_i5 o1, oWt_i6 o1, oWt_i7 o1, oWt_i8 o1, oWt_a1 o1, oWt_n1 o1, oWt_a2 o1, oWt_n2 o1, oWt_a3 o1, oWt_n3 o1, oTp_c, oTp_f0, oTp_v0, oTp_i1, oTp_i2, oTp_i3, oTp_i4, oTp_i5, oTp_i6, oTp_a1, oTp_n1, o1, o2, k1, W14, a14, f1]
    | inl x =>
      rw [x0] at F
      obtain ⟨ι3, f1, i3⟩ := F
      obtain ⟨p1, p2⟩ := wtP_pr hpe x0
      have e13 : ι3 t 1 = nI e := i3.1.2.1.trans he
      have eB3 := i3.by OO
      rw [rB_l]
      cases n2 : smP (ι0 (t + 1)) e 59 x.2 with
      | inr f =>
        obtain ⟨ι4, l1, l2⟩ := tq_needs_no (Z := Z) (d := d + 4) (w := w) o2 o4 e13 i3.2.2.2.1 p2 he6 (c := 59) (by rw [eB3]; exact n2)
        refine ⟨ι4, ?_, i3.no l2⟩
        rw [e105]
        simp (decide := true) (maxDischargeDepth := 4) only [g105_0, g105_1, g105_4, g105_7, g105_8, g105_11, g105_13, g105_16, g105_19, g105_20, g105_23, g105_24, g105_25, g105_28, g105_31, g105_32, g105_35, g105_37, g105_40, g105_43, g105_44, g105_47, g105_48, rz_k_inl, rz_k_inr, Option.toList_some, Option.toList_none, List.cons_append, List.nil_append, List.append_nil, rz_up_s, rz_u_s, rz_up_n, rz_u_n, ne_eq, not_false_eq_true, not_true_eq_false, Nat.add_assoc, Nat.reduceAdd, reduceIte, Nat.add_eq_left, Nat.left_eq_add, Nat.add_left_cancel_iff, Nat.reduceEqDiff, Nat.add_right_cancel_iff, rz_nb0, rz_nb1, rz_nbb, rz_nbi, rz_isr, rz_zle, if_true, if_false, rz_bi0, rz_bi1, Bool.not_eq_true, Bool.not_eq_false, Bool.true_eq_false, Bool.false_eq_true, rz_ix_lit, cl_lit, Nat.reduceLT, bi_t, bi_f, decide_true, decide_false, Bool.not_false, Bool.not_true, Bool.and_true, Bool.true_and, Bool.and_false, Bool.false_and, oWt_c o1, oWt_f0 o1, oWt_v0 o1, oWt_f1 o1, oWt_v1 o1, oWt_f2 o1, oWt_v2 o1, oWt_f3 o1, oWt_v3 o1, oWt_i4 o1, oWt_i5 o1, oWt_i6 o1, oWt_i7 o1, oWt_i8 o1, oWt_a1 o1, oWt_n1 o1, oWt_a2 o1, oWt_n2 o1, oWt_a3 o1, oWt_n3 o1, oTp_c, oTp_f0, oTp_v0, oTp_i1, oTp_i2, oTp_i3, oTp_i4, oTp_i5, oTp_i6, oTp_a1, oTp_n1, o1, o2, k1, W14, a14, f1, l1, show ¬ ((1 : Int32) = 0) by decide]
      | inl q =>
        obtain ⟨ι4, l1, l2⟩ := tq_needs_ok (Z := Z) (d := d + 4) (w := w) o2 o4 e13 i3.2.2.2.1 p2 he6 (c := 59) (by decide) (by rw [eB3]; exact n2)
        refine ⟨ι4, ?_, i3.tp OO l2⟩
        rw [e105]
        simp (decide := true) (maxDischargeDepth := 4) only [g105_0, g105_1, g105_4, g105_7, g105_8, g105_11, g105_13, g105_16, g105_19, g105_20, g105_23, g105_24, g105_25, g105_28, g105_31, g105_32, g105_35, g105_37, g105_40, g105_43, g105_44, g105_47, g105_48, rz_k_inl, rz_k_inr, Option.toList_some, Option.toList_none, List.cons_append, List.nil_append, List.append_nil, rz_up_s, rz_u_s, rz_up_n, rz_u_n, ne_eq, not_false_eq_true, not_true_eq_false, Nat.add_assoc, Nat.reduceAdd, reduceIte, Nat.add_eq_left, Nat.left_eq_add, Nat.add_left_cancel_iff, Nat.reduceEqDiff, Nat.add_right_cancel_iff, rz_nb0, rz_nb1, rz_nbb, rz_nbi, rz_isr, rz_zle, if_true, if_false, rz_bi0, rz_bi1, Bool.not_eq_true, Bool.not_eq_false, Bool.true_eq_false, Bool.false_eq_true, rz_ix_lit, cl_lit, Nat.reduceLT, bi_t, bi_f, decide_true, decide_false, Bool.not_false, Bool.not_true, Bool.and_true, Bool.true_and, Bool.and_false, Bool.false_and, oWt_c o1, oWt_f0 o1, oWt_v0 o1, oWt_f1 o1, oWt_v1 o1, oWt_f2 o1, oWt_v2 o1, oWt_f3 o1, oWt_v3 o1, oWt_i4 o1, oWt_i5 o1, oWt_i6 o1, oWt_i7 o1, oWt_i8 o1, oWt_a1 o1, oWt_n1 o1, oWt_a2 o1, oWt_n2 o1, oWt_a3 o1, oWt_n3 o1, oTp_c, oTp_f0, oTp_v0, oTp_i1, oTp_i2, oTp_i3, oTp_i4, oTp_i5, oTp_i6, oTp_a1, oTp_n1, o1, o2, k1, W14, a14, f1, l1, show ¬ ((1 : Int32) = 0) by decide]
theorem wc_closing {e m p k : Nat} {K : List Nat} {T : Nat → TK} (O : wcO Z h t a) (he : ι0 t 1 = nI e) (he6 : e ≤ 600) (hpe : p ≤ e) (hm : m < 37) (hK : K.length < 6) (hk : k < m) (hs : sg (ι0 (t + 1)) e (sk (ι0 (t + 1)) e p) = 93) (i : wcI t a ι0 ι (k :: K) T m (sk (ι0 (t + 1)) e p)) : wcC Z h w t a ι0 (d + 4) 104 [.ref a] ι (rB (smP (ι0 (t + 1)) e 59 (sk (ι0 (t + 1)) e p + 1)) (fun q => .inl (K, wtC k T m, m + 1, q))) := by
  have OO := O
  obtain ⟨o1, o2, o4, o5⟩ := O
  have hza : Z.2.1 ≤ a := by omega
  have hsk := sk_le (B := ι0 (t + 1)) hpe
  have hlt := sg_lt (by decide) hs
  obtain ⟨j1, j2, j3, j4, j5, j6, j7, j8⟩ := i
  have h5 : ι a 5 = nI (K.length + 1) := j6
  have o0 : ι (a + 2) K.length = nI k := by
    have := j8 0 (by show 0 < K.length + 1; omega)
    rw [show (k :: K).length - 1 - 0 = K.length from rfl] at this
    exact this
  have pt := fun J => wc_part (Z := Z) (d := d + 1) (w := w) (ι := J) (i := k) (k := 2) OO (by omega) (by omega) (nI m)
  rw [show nI 2 = 2 from rfl] at pt
  have i1 : wcI t a ι0 (rz_up (rz_up ι a 5 (nI K.length)) (a + 1) (k * 4 + 2) (nI m)) K (upT T k ((T k).1, (T k).2.1, m, (T k).2.2.2)) m (sk (ι0 (t + 1)) e p) := by
    refine ⟨(j1.up (by unfold wcQ; omega) (by omega)).up (by unfold wcQ; omega) (by omega), by rw [rz_up_n (by omega), rz_up_n (by omega)]; exact j2, by rw [rz_up_n (by omega), rz_up_n (by omega)]; exact j3, by rw [rz_up_n (by omega), rz_up_n (by omega)]; exact j4, by rw [rz_up_n (by omega), rz_up_s, rz_u_n (by omega)]; exact j5, by rw [rz_up_n (by omega), rz_up_s, rz_u_s], fun j hj => ?_, fun j hj => ?_⟩
    · obtain ⟨k0, k1, k2, k3⟩ := j7 j hj
      unfold tkI
      rw [rz_up_s, rz_up_n (show a + 1 ≠ a by omega)]
      by_cases ej : j = k
      · subst ej
        rw [upT_s]
        exact ⟨by rw [rz_u_n (by omega)]; exact k0, by rw [rz_u_n (by omega)]; exact k1, by rw [rz_u_s], by rw [rz_u_n (by omega)]; exact k3⟩
      · rw [upT_n ej]
        exact ⟨by rw [rz_u_n (by omega)]; exact k0, by rw [rz_u_n (by omega)]; exact k1, by rw [rz_u_n (by omega)]; exact k2, by rw [rz_u_n (by omega)]; exact k3⟩
    · have := j8 (j + 1) (by show j + 1 < K.length + 1; omega)
      rw [rz_up_n (by omega), rz_up_n (by omega), show K.length - 1 - j = (k :: K).length - 1 - (j + 1) by show K.length - 1 - j = K.length + 1 - 1 - (j + 1); omega, this]
      rfl
  have h4 := i1.2.2.2.2.1
  obtain ⟨ι2, l1, i2, l3⟩ := wc_put (Z := Z) (d := d) (w := w) OO i1 hm (6, k, 0, 0)
  rw [show nI 0 = 0 from rfl, show nI 6 = 6 from rfl] at l1
  have e12 : ι2 t 1 = nI e := i2.1.2.1.trans he
  have eB2 := i2.by OO
  obtain ⟨ι3, m1, m2⟩ := tq_needs_ok (Z := Z) (d := d + 1) (w := w) o2 o4 e12 i2.2.2.2.1 hsk he6 (c := 93) (by decide) (by rw [eB2]; exact smP_sk hs)
  have i3 := i2.tp OO m2
  have e13 : ι3 t 1 = nI e := i3.1.2.1.trans he
  have eB3 := i3.by OO
  have c0 : (nI K.length < 0) = False := nI_nn (by omega)
  have c6 : (nI K.length < 6) = True := by rw [nI_ltL (by omega) (by decide)]; simp [hK]
  have ix : rz_ix (nI K.length) 6 := rz_ix_nat hK (by omega)
  have h40 : ι a 4 = nI m := j5
  have z1 : ¬ ((1 : Int32) = 0) := by decide
  cases n2 : smP (ι0 (t + 1)) e 59 (sk (ι0 (t + 1)) e p + 1) with
  | inr f =>
    obtain ⟨ι4, q1, q2⟩ := tq_needs_no (Z := Z) (d := d + 1) (w := w) o2 o4 e13 i3.2.2.2.1 (by omega) he6 (c := 59) (by rw [eB3]; exact n2)
    refine ⟨ι4, ?_, i3.no q2⟩
    rw [e104]
    simp (decide := true) (maxDischargeDepth := 4) only [g104_0, g104_1, g104_2, g104_5, g104_6, g104_7, g104_10, g104_11, g104_14, g104_17, g104_18, g104_21, g104_23, g104_26, g104_27, g104_30, g104_31, g104_34, g104_35, g104_38, g104_39, g104_40, g104_41, g104_42, g104_43, g104_44, g104_47, g104_50, g104_51, g104_53, g104_54, g104_55, g104_56, g104_59, g104_60, g104_61, g104_64, g104_66, g104_69, g104_72, g104_73, g104_76, g104_78, g104_81, g104_84, g104_85, g104_88, g104_89, rz_k_inl, rz_k_inr, Option.toList_some, Option.toList_none, List.cons_append, List.nil_append, List.append_nil, rz_up_s, rz_u_s, rz_up_n, rz_u_n, ne_eq, not_false_eq_true, not_true_eq_false, Nat.add_assoc, Nat.reduceAdd, reduceIte, Nat.add_eq_left, Nat.left_eq_add, Nat.add_left_cancel_iff, Nat.reduceEqDiff, Nat.add_right_cancel_iff, rz_nb0, rz_nb1, rz_nbb, rz_nbi, rz_isr, rz_zle, if_true, if_false, rz_bi0, rz_bi1, Bool.not_eq_true, Bool.not_eq_false, Bool.true_eq_false, Bool.false_eq_true, rz_ix_lit, cl_lit, Nat.reduceLT, bi_t, bi_f, decide_true, decide_false, Bool.not_false, Bool.not_true, Bool.and_true, Bool.true_and, Bool.and_false, Bool.false_and, oWt_c o1, oWt_f0 o1, oWt_v0 o1, oWt_f1 o1, oWt_v1 o1, oWt_f2 o1, oWt_v2 o1, oWt_f3 o1, oWt_v3 o1, oWt_i4 o1, oWt_i5 o1, oWt_i6 o1, oWt_i7 o1, oWt_i8 o1, oWt_a1 o1, oWt_n1 o1, oWt_a2 o1, oWt_n2 o1, oWt_a3 o1, oWt_n3 o1, oTp_c, oTp_f0, oTp_v0, oTp_i1, oTp_i2, oTp_i3, oTp_i4, oTp_i5, oTp_i6, oTp_a1, oTp_n1, o1, o2, hza, h5, nI_prd, c0, c6, ix, nI_cl (show K.length < 2147483648 by omega), o0, h40, pt, l1, m1, q1, z1]
  | inl q =>
    obtain ⟨ι4, q1, q2⟩ := tq_needs_ok (Z := Z) (d := d + 1) (w := w) o2 o4 e13 i3.2.2.2.1 (by omega) he6 (c := 59) (by decide) (by rw [eB3]; exact n2)
    refine ⟨ι4, ?_, i3.tp OO q2⟩
    rw [e104]
    simp (decide := true) (maxDischargeDepth := 4) only [g104_0, g104_1, g104_2, g104_5, g104_6, g104_7, g104_10, g104_11, g104_14, g104_17, g104_18, g104_21, g104_23, g104_26, g104_27, g104_30, g104_31, g104_34, g104_35, g104_38, g104_39, g104_40, g104_41, g104_42, g104_43, g104_44, g104_47, g104_50, g104_51, g104_53, g104_54, g104_55, g104_56, g104_59, g104_60, g104_61, g104_64, g104_66, g104_69, g104_72, g104_73, g104_76, g104_78, g104_81, g104_84, g104_85, g104_88, g104_89, rz_k_inl, rz_k_inr, Option.toList_some, Option.toList_none, List.cons_append, List.nil_append, List.append_nil, rz_up_s, rz_u_s, rz_up_n, rz_u_n, ne_eq, not_false_eq_true, not_true_eq_false, Nat.add_assoc, Nat.reduceAdd, reduceIte, Nat.add_eq_left, Nat.left_eq_add, Nat.add_left_cancel_iff, Nat.reduceEqDiff, Nat.add_right_cancel_iff, rz_nb0, rz_nb1, rz_nbb, rz_nbi, rz_isr, rz_zle, if_true, if_false, rz_bi0, rz_bi1, Bool.not_eq_true, Bool.not_eq_false, Bool.true_eq_false, Bool.false_eq_true, rz_ix_lit, cl_lit, Nat.reduceLT, bi_t, bi_f, decide_true, decide_false, Bool.not_false, Bool.not_true, Bool.and_true, Bool.true_and, Bool.and_false, Bool.false_and, oWt_c o1, oWt_f0 o1, oWt_v0 o1, oWt_f1 o1, oWt_v1 o1, oWt_f2 o1, oWt_v2 o1, oWt_f3 o1, oWt_v3 o1, oWt_i4 o1, oWt_i5 o1, oWt_i6 o1, oWt_i7 o1, oWt_i8 o1, oWt_a1 o1, oWt_n1 o1, oWt_a2 o1, oWt_n2 o1, oWt_a3 o1, oWt_n3 o1, oTp_c, oTp_f0, oTp_v0, oTp_i1, oTp_i2, oTp_i3, oTp_i4, oTp_i5, oTp_i6, oTp_a1, oTp_n1, o1, o2, hza, h5, nI_prd, c0, c6, ix, nI_cl (show K.length < 2147483648 by omega), o0, h40, pt, l1, m1, q1, z1]
end WORK2
