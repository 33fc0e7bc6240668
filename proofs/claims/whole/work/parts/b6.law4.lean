/-! the class reads a LAW: products and sums, to its end -/
theorem op1_0 {c : Int32} (h : op1 c = 0) : ¬ c = 43 ∧ ¬ c = 45 := by
  unfold op1 at h
  split at h
  · cases h
  · split at h
    · cases h
    · exact ⟨by assumption, by assumption⟩
theorem op3_0 {c : Int32} (h : op3 c = 0) : ¬ c = 42 ∧ ¬ c = 47 ∧ ¬ c = 37 := by
  unfold op3 at h
  split at h
  · cases h
  · split at h
    · cases h
    · split at h
      · cases h
      · exact ⟨by assumption, by assumption, by assumption⟩
section LAW4
variable {Z : rx_Z} {h : Nat → Option rx_E} {ι ι0 : Nat → Nat → Int32} {w : Nat × Nat} {t a l : Nat}
def lqR (Z : rx_Z) (h : Nat → Option rx_E) (w : Nat × Nat) (t a l : Nat) (ι0 : Nat → Nat → Int32) (D : Nat) (row : rx_M) (o i : Nat) (ι : Nat → Nat → Int32) (X : LwR) : Prop := match X with
  | .inl s => ∃ ι', rg Z D row 8 [some (.ref a), some (.int (nI o)), some (.int 1), some (.int (nI i))] [] (rz_mk h ι, w) = some (.inl (some (.int 1)), (rz_mk h ι', w)) ∧ lqI t l ι0 ι' s.1 s.2
  | .inr f => ∃ ι', rg Z D row 8 [some (.ref a), some (.int (nI o)), some (.int 1), some (.int (nI i))] [] (rz_mk h ι, w) = some (.inl (some (.int 0)), (rz_mk h ι', w)) ∧ lqN t l ι0 ι' f
def lqHR (Z : rx_Z) (h : Nat → Option rx_E) (w : Nat × Nat) (t a l e : Nat) (ι0 : Nat → Nat → Int32) (n m : Nat) (row : rx_M) (k dd : Nat) : Prop := ∀ (o : Nat) (C : List (Nat × Nat)) (p : Nat) (ι : Nat → Nat → Int32) (D i : Nat), o ≤ 6 → p ≤ e → C.length ≤ p → i ≤ p → 4 * (e - p) + k < n → 4 * (6 - o) + dd ≤ D → lqI t l ι0 ι C p → lqR Z h w t a l ι0 D row o i ι (lwP (ι0 (t + 1)) e n m o C p)
theorem lq_rest3 {e n : Nat} (O : lqO Z h t a l) (he : ι0 t 1 = nI e) (he6 : e ≤ 150) (HU : lqH Z h w t a l e ι0 n 4 58 1 8) (HR : lqHR Z h w t a l e ι0 n 3 rx_m57 4 8) {o p i D : Nat} {C : List (Nat × Nat)} (ho : o ≤ 6) (hpe : p ≤ e) (hC : C.length ≤ p) (hip : i ≤ p) (hn : 4 * (e - p) + 4 < n + 1) (hd : 4 * (6 - o) + 8 ≤ D) (ii : lqI t l ι0 ι C p) : lqR Z h w t a l ι0 D rx_m57 o i ι (lwH (ι0 (t + 1)) e (lwP (ι0 (t + 1)) e n) o C p) := by
  have OO := O
  obtain ⟨o1, o2, o3, o4, o5⟩ := O
  obtain ⟨d, rfl⟩ : ∃ d, D = d + 8 := ⟨D - 8, by omega⟩
  have hsk := sk_le (B := ι0 (t + 1)) hpe
  have hge := sk_ge (ι0 (t + 1)) e p
  have e1 : ι t 1 = nI e := ii.1.2.1.trans he
  have eB := ii.by OO
  have z1 : ¬ ((1 : Int32) = 0) := by decide
  unfold lwH
  by_cases hi : i < 150
  · have ci : (nI i < 150) = True := by rw [nI_ltL (by omega) (by decide)]; simp [hi]
    rcases op3_c (sg (ι0 (t + 1)) e (sk (ι0 (t + 1)) e p)) with hop | ⟨hop, hc⟩ | ⟨hop, hc⟩ | ⟨hop, hc⟩
    · obtain ⟨c0, c1, c2⟩ := op3_0 hop
      rw [if_pos hop]
      obtain ⟨ι1, t0, u0⟩ := tq_takes_n (Z := Z) (d := d + 6) (w := w) o2 o4 e1 ii.2.2.2.1 hpe (by omega) (c := 42) (by rw [eB]; exact c0)
      rw [eB] at u0
      have i1 := ii.tp OO u0
      obtain ⟨ι2, t1, u1⟩ := tq_takes_n (Z := Z) (d := d + 6) (w := w) o2 o4 (i1.1.2.1.trans he) i1.2.2.2.1 hsk (by omega) (c := 47) (by rw [i1.by OO, sk_sk]; exact c1)
      rw [i1.by OO, sk_sk] at u1
      have i2 := i1.tp OO u1
      obtain ⟨ι3, t2, u2⟩ := tq_takes_n (Z := Z) (d := d + 6) (w := w) o2 o4 (i2.1.2.1.trans he) i2.2.2.2.1 hsk (by omega) (c := 37) (by rw [i2.by OO, sk_sk]; exact c2)
      rw [i2.by OO, sk_sk] at u2
      have i3 := i2.tp OO u2
      refine ⟨ι3, ?_, i3⟩
      rw [g57_8]
      simp (decide := true) (maxDischargeDepth := 4) only [g57_0, g57_1, g57_2, g57_5, g57_6, g57_7, g57_9, g57_12, g57_13, g57_16, g57_19, g57_20, g57_23, g57_25, g57_28, g57_31, g57_32, g57_33, g57_36, g57_39, g57_40, g57_41, g57_44, g57_47, g57_48, g57_51, g57_52, g57_53, g57_56, g57_57, g57_60, g57_62, g57_65, g57_68, g57_69, g57_70, g57_73, g57_76, g57_77, g57_78, g57_81, g57_84, g57_85, g57_88, g57_89, g57_90, g57_93, g57_94, g57_97, g57_99, g57_102, g57_105, g57_106, g57_107, g57_110, g57_113, g57_114, g57_115, g57_118, g57_121, g57_122, g57_125, g57_126, g57_127, g57_130, g57_133, g57_134, rz_k_inl, rz_k_inr, Option.toList_some, Option.toList_none, List.cons_append, List.nil_append, List.append_nil, rz_up_s, rz_u_s, rz_up_n, rz_u_n, ne_eq, not_false_eq_true, not_true_eq_false, Nat.add_assoc, Nat.reduceAdd, reduceIte, Nat.add_eq_left, Nat.left_eq_add, Nat.add_left_cancel_iff, Nat.reduceEqDiff, Nat.add_right_cancel_iff, rz_nb0, rz_nb1, rz_nbb, rz_nbi, rz_isr, rz_zle, if_true, if_false, rz_bi0, rz_bi1, Bool.not_eq_true, Bool.not_eq_false, Bool.true_eq_false, Bool.false_eq_true, rz_ix_lit, cl_lit, Nat.reduceLT, bi_t, bi_f, decide_true, decide_false, Bool.not_false, Bool.not_true, Bool.and_true, Bool.true_and, Bool.and_false, Bool.false_and, oLt_c o1, oLt_f0 o1, oLt_v0 o1, oLt_f1 o1, oLt_v1 o1, oTp_c, oTp_f0, oTp_v0, oTp_i1, oTp_i2, oTp_i3, oTp_i4, oTp_i5, oTp_i6, oTp_a1, oTp_n1, o1, o2, ci, z1, t0, t1, t2]
    · rw [if_neg (by rw [hop]; decide), hop]
      have hlt : sk (ι0 (t + 1)) e p < e := sg_lt (by decide) hc
      obtain ⟨ι1, t0, u0⟩ := tq_takes_y (Z := Z) (d := d + 6) (w := w) o2 o4 e1 ii.2.2.2.1 hpe (by omega) (c := 42) (by rw [eB]; exact hc)
      rw [eB] at u0
      have i1 := ii.tp OO u0
      have U := HU o C (sk (ι0 (t + 1)) e p + 1) ι1 (d + 8) ho (by omega) (by omega) (by omega) (by omega) i1
      cases x0 : lwP (ι0 (t + 1)) e n 4 o C (sk (ι0 (t + 1)) e p + 1) with
      | inr f =>
        rw [x0] at U
        obtain ⟨ι8, q1, q2⟩ := U
        refine ⟨ι8, ?_, q2⟩
        rw [g57_8]
        simp (decide := true) (maxDischargeDepth := 4) only [g57_0, g57_1, g57_2, g57_5, g57_6, g57_7, g57_9, g57_12, g57_13, g57_16, g57_19, g57_20, g57_23, g57_25, g57_28, g57_31, g57_32, g57_33, g57_36, g57_39, g57_40, g57_41, g57_44, g57_47, g57_48, g57_51, g57_52, g57_53, g57_56, g57_57, g57_60, g57_62, g57_65, g57_68, g57_69, g57_70, g57_73, g57_76, g57_77, g57_78, g57_81, g57_84, g57_85, g57_88, g57_89, g57_90, g57_93, g57_94, g57_97, g57_99, g57_102, g57_105, g57_106, g57_107, g57_110, g57_113, g57_114, g57_115, g57_118, g57_121, g57_122, g57_125, g57_126, g57_127, g57_130, g57_133, g57_134, rz_k_inl, rz_k_inr, Option.toList_some, Option.toList_none, List.cons_append, List.nil_append, List.append_nil, rz_up_s, rz_u_s, rz_up_n, rz_u_n, ne_eq, not_false_eq_true, not_true_eq_false, Nat.add_assoc, Nat.reduceAdd, reduceIte, Nat.add_eq_left, Nat.left_eq_add, Nat.add_left_cancel_iff, Nat.reduceEqDiff, Nat.add_right_cancel_iff, rz_nb0, rz_nb1, rz_nbb, rz_nbi, rz_isr, rz_zle, if_true, if_false, rz_bi0, rz_bi1, Bool.not_eq_true, Bool.not_eq_false, Bool.true_eq_false, Bool.false_eq_true, rz_ix_lit, cl_lit, Nat.reduceLT, bi_t, bi_f, decide_true, decide_false, Bool.not_false, Bool.not_true, Bool.and_true, Bool.true_and, Bool.and_false, Bool.false_and, oLt_c o1, oLt_f0 o1, oLt_v0 o1, oLt_f1 o1, oLt_v1 o1, oTp_c, oTp_f0, oTp_v0, oTp_i1, oTp_i2, oTp_i3, oTp_i4, oTp_i5, oTp_i6, oTp_a1, oTp_n1, o1, o2, ci, z1, t0, q1]
        rw [g57_8]
        simp (decide := true) (maxDischargeDepth := 4) only [g57_0, g57_1, g57_2, g57_5, g57_6, g57_7, g57_9, g57_12, g57_13, g57_16, g57_19, g57_20, g57_23, g57_25, g57_28, g57_31, g57_32, g57_33, g57_36, g57_39, g57_40, g57_41, g57_44, g57_47, g57_48, g57_51, g57_52, g57_53, g57_56, g57_57, g57_60, g57_62, g57_65, g57_68, g57_69, g57_70, g57_73, g57_76, g57_77, g57_78, g57_81, g57_84, g57_85, g57_88, g57_89, g57_90, g57_93, g57_94, g57_97, g57_99, g57_102, g57_105, g57_106, g57_107, g57_110, g57_113, g57_114, g57_115, g57_118, g57_121, g57_122, g57_125, g57_126, g57_127, g57_130, g57_133, g57_134, rz_k_inl, rz_k_inr, Option.toList_some, Option.toList_none, List.cons_append, List.nil_append, List.append_nil, rz_up_s, rz_u_s, rz_up_n, rz_u_n, ne_eq, not_false_eq_true, not_true_eq_false, Nat.add_assoc, Nat.reduceAdd, reduceIte, Nat.add_eq_left, Nat.left_eq_add, Nat.add_left_cancel_iff, Nat.reduceEqDiff, Nat.add_right_cancel_iff, rz_nb0, rz_nb1, rz_nbb, rz_nbi, rz_isr, rz_zle, if_true, if_false, rz_bi0, rz_bi1, Bool.not_eq_true, Bool.not_eq_false, Bool.true_eq_false, Bool.false_eq_true, rz_ix_lit, cl_lit, Nat.reduceLT, bi_t, bi_f, decide_true, decide_false, Bool.not_false, Bool.not_true, Bool.and_true, Bool.true_and, Bool.and_false, Bool.false_and]
      | inl s =>
        rw [x0] at U
        obtain ⟨ι8, q1, i8⟩ := U
        obtain ⟨⟨r1, r2, r3⟩, r4⟩ := lwP_pr _ _ _ _ _ _ (by omega) x0
        have r4 := r4 (by omega) (by omega)
        obtain ⟨ι9, p1, i9⟩ := lq_put (Z := Z) (d := d + 6) (w := w) (q := (4, 0)) OO i8 (by omega)
        rw [show lwE (4, 0) = 2 from rfl] at p1
        have N := HR o (s.1 ++ [(4, 0)]) s.2 ι9 (d + 8) (i + 1) ho r2 (by rw [List.length_append]; show s.1.length + 1 ≤ s.2; omega) (by omega) (by omega) (by omega) i9
        rw [rB_l]
        have step : rg Z (d + 8) rx_m57 8 [some (.ref a), some (.int (nI o)), some (.int 1), some (.int (nI i))] [] (rz_mk h ι, w) = rg Z (d + 8) rx_m57 8 [some (.ref a), some (.int (nI o)), some (.int 1), some (.int (nI (i + 1)))] [] (rz_mk h ι9, w) := by
          rw [g57_8]
          simp (decide := true) (maxDischargeDepth := 4) only [g57_0, g57_1, g57_2, g57_5, g57_6, g57_7, g57_9, g57_12, g57_13, g57_16, g57_19, g57_20, g57_23, g57_25, g57_28, g57_31, g57_32, g57_33, g57_36, g57_39, g57_40, g57_41, g57_44, g57_47, g57_48, g57_51, g57_52, g57_53, g57_56, g57_57, g57_60, g57_62, g57_65, g57_68, g57_69, g57_70, g57_73, g57_76, g57_77, g57_78, g57_81, g57_84, g57_85, g57_88, g57_89, g57_90, g57_93, g57_94, g57_97, g57_99, g57_102, g57_105, g57_106, g57_107, g57_110, g57_113, g57_114, g57_115, g57_118, g57_121, g57_122, g57_125, g57_126, g57_127, g57_130, g57_133, g57_134, rz_k_inl, rz_k_inr, Option.toList_some, Option.toList_none, List.cons_append, List.nil_append, List.append_nil, rz_up_s, rz_u_s, rz_up_n, rz_u_n, ne_eq, not_false_eq_true, not_true_eq_false, Nat.add_assoc, Nat.reduceAdd, reduceIte, Nat.add_eq_left, Nat.left_eq_add, Nat.add_left_cancel_iff, Nat.reduceEqDiff, Nat.add_right_cancel_iff, rz_nb0, rz_nb1, rz_nbb, rz_nbi, rz_isr, rz_zle, if_true, if_false, rz_bi0, rz_bi1, Bool.not_eq_true, Bool.not_eq_false, Bool.true_eq_false, Bool.false_eq_true, rz_ix_lit, cl_lit, Nat.reduceLT, bi_t, bi_f, decide_true, decide_false, Bool.not_false, Bool.not_true, Bool.and_true, Bool.true_and, Bool.and_false, Bool.false_and, oLt_c o1, oLt_f0 o1, oLt_v0 o1, oLt_f1 o1, oLt_v1 o1, oTp_c, oTp_f0, oTp_v0, oTp_i1, oTp_i2, oTp_i3, oTp_i4, oTp_i5, oTp_i6, oTp_a1, oTp_n1, o1, o2, ci, z1, t0, q1, p1, nI_1]
        revert N
        generalize lwP (ι0 (t + 1)) e n 3 o (s.1 ++ [(4, 0)]) s.2 = X
        intro N
        cases X with
        | inl s' => obtain ⟨ι7, y1, y2⟩ := N; exact ⟨ι7, step.trans y1, y2⟩
        | inr f => obtain ⟨ι7, y1, y2⟩ := N; exact ⟨ι7, step.trans y1, y2⟩
    · rw [if_neg (by rw [hop]; decide), hop]
      have hlt : sk (ι0 (t + 1)) e p < e := sg_lt (by decide) hc
      obtain ⟨ι1, t0, u0⟩ := tq_takes_n (Z := Z) (d := d + 6) (w := w) o2 o4 e1 ii.2.2.2.1 hpe (by omega) (c := 42) (by rw [eB, hc]; decide)
      rw [eB] at u0
      have i1 := ii.tp OO u0
      obtain ⟨ι2, t1, u1⟩ := tq_takes_y (Z := Z) (d := d + 6) (w := w) o2 o4 (i1.1.2.1.trans he) i1.2.2.2.1 hsk (by omega) (c := 47) (by rw [i1.by OO, sk_sk]; exact hc)
      rw [i1.by OO, sk_sk] at u1
      have i2 := i1.tp OO u1
      have U := HU o C (sk (ι0 (t + 1)) e p + 1) ι2 (d + 8) ho (by omega) (by omega) (by omega) (by omega) i2
      cases x0 : lwP (ι0 (t + 1)) e n 4 o C (sk (ι0 (t + 1)) e p + 1) with
      | inr f =>
        rw [x0] at U
        obtain ⟨ι8, q1, q2⟩ := U
        refine ⟨ι8, ?_, q2⟩
        rw [g57_8]
        simp (decide := true) (maxDischargeDepth := 4) only [g57_0, g57_1, g57_2, g57_5, g57_6, g57_7, g57_9, g57_12, g57_13, g57_16, g57_19, g57_20, g57_23, g57_25, g57_28, g57_31, g57_32, g57_33, g57_36, g57_39, g57_40, g57_41, g57_44, g57_47, g57_48, g57_51, g57_52, g57_53, g57_56, g57_57, g57_60, g57_62, g57_65, g57_68, g57_69, g57_70, g57_73, g57_76, g57_77, g57_78, g57_81, g57_84, g57_85, g57_88, g57_89, g57_90, g57_93, g57_94, g57_97, g57_99, g57_102, g57_105, g57_106, g57_107, g57_110, g57_113, g57_114, g57_115, g57_118, g57_121, g57_122, g57_125, g57_126, g57_127, g57_130, g57_133, g57_134, rz_k_inl, rz_k_inr, Option.toList_some, Option.toList_none, List.cons_append, List.nil_append, List.append_nil, rz_up_s, rz_u_s, rz_up_n, rz_u_n, ne_eq, not_false_eq_true, not_true_eq_false, Nat.add_assoc, Nat.reduceAdd, reduceIte, Nat.add_eq_left, Nat.left_eq_add, Nat.add_left_cancel_iff, Nat.reduceEqDiff, Nat.add_right_cancel_iff, rz_nb0, rz_nb1, rz_nbb, rz_nbi, rz_isr, rz_zle, if_true, if_false, rz_bi0, rz_bi1, Bool.not_eq_true, Bool.not_eq_false, Bool.true_eq_false, Bool.false_eq_true, rz_ix_lit, cl_lit, Nat.reduceLT, bi_t, bi_f, decide_true, decide_false, Bool.not_false, Bool.not_true, Bool.and_true, Bool.true_and, Bool.and_false, Bool.false_and, oLt_c o1, oLt_f0 o1, oLt_v0 o1, oLt_f1 o1, oLt_v1 o1, oTp_c, oTp_f0, oTp_v0, oTp_i1, oTp_i2, oTp_i3, oTp_i4, oTp_i5, oTp_i6, oTp_a1, oTp_n1, o1, o2, ci, z1, t0, t1, q1]
        rw [g57_8]
        simp (decide := true) (maxDischargeDepth := 4) only [g57_0, g57_1, g57_2, g57_5, g57_6, g57_7, g57_9, g57_12, g57_13, g57_16, g57_19, g57_20, g57_23, g57_25, g57_28, g57_31, g57_32, g57_33, g57_36, g57_39, g57_40, g57_41, g57_44, g57_47, g57_48, g57_51, g57_52, g57_53, g57_56, g57_57, g57_60, g57_62, g57_65, g57_68, g57_69, g57_70, g57_73, g57_76, g57_77, g57_78, g57_81, g57_84, g57_85, g57_88, g57_89, g57_90, g57_93, g57_94, g57_97, g57_99, g57_102, g57_105, g57_106, g57_107, g57_110, g57_113, g57_114, g57_115, g57_118, g57_121, g57_122, g57_125, g57_126, g57_127, g57_130, g57_133, g57_134, rz_k_inl, rz_k_inr, Option.toList_some, Option.toList_none, List.cons_append, List.nil_append, List.append_nil, rz_up_s, rz_u_s, rz_up_n, rz_u_n, ne_eq, not_false_eq_true, not_true_eq_false, Nat.add_assoc, Nat.reduceAdd, reduceIte, Nat.add_eq_left, Nat.left_eq_add, Nat.add_left_cancel_iff, Nat.reduceEqDiff, Nat.add_right_cancel_iff, rz_nb0, rz_nb1, rz_nbb, rz_nbi, rz_isr, rz_zle, if_true, if_false, rz_bi0, rz_bi1, Bool.not_eq_true, Bool.not_eq_false, Bool.true_eq_false, Bool.false_eq_true, rz_ix_lit, cl_lit, Nat.reduceLT, bi_t, bi_f, decide_true, decide_false, Bool.not_false, Bool.not_true, Bool.and_true, Bool.true_and, Bool.and_false, Bool.false_and]
      | inl s =>
        rw [x0] at U
        obtain ⟨ι8, q1, i8⟩ := U
        obtain ⟨⟨r1, r2, r3⟩, r4⟩ := lwP_pr _ _ _ _ _ _ (by omega) x0
        have r4 := r4 (by omega) (by omega)
        obtain ⟨ι9, p1, i9⟩ := lq_put (Z := Z) (d := d + 6) (w := w) (q := (5, 0)) OO i8 (by omega)
        rw [show lwE (5, 0) = 3 from rfl] at p1
        have N := HR o (s.1 ++ [(5, 0)]) s.2 ι9 (d + 8) (i + 1) ho r2 (by rw [List.length_append]; show s.1.length + 1 ≤ s.2; omega) (by omega) (by omega) (by omega) i9
        rw [rB_l]
        have step : rg Z (d + 8) rx_m57 8 [some (.ref a), some (.int (nI o)), some (.int 1), some (.int (nI i))] [] (rz_mk h ι, w) = rg Z (d + 8) rx_m57 8 [some (.ref a), some (.int (nI o)), some (.int 1), some (.int (nI (i + 1)))] [] (rz_mk h ι9, w) := by
          rw [g57_8]
          simp (decide := true) (maxDischargeDepth := 4) only [g57_0, g57_1, g57_2, g57_5, g57_6, g57_7, g57_9, g57_12, g57_13, g57_16, g57_19, g57_20, g57_23, g57_25, g57_28, g57_31, g57_32, g57_33, g57_36, g57_39, g57_40, g57_41, g57_44, g57_47, g57_48, g57_51, g57_52, g57_53, g57_56, g57_57, g57_60, g57_62, g57_65, g57_68, g57_69, g57_70, g57_73, g57_76, g57_77, g57_78, g57_81, g57_84, g57_85, g57_88, g57_89, g57_90, g57_93, g57_94, g57_97, g57_99, g57_102, g57_105, g57_106, g57_107, g57_110, g57_113, g57_114, g57_115, g57_118, g57_121, g57_122, g57_125, g57_126, g57_127, g57_130, g57_133, g57_134, rz_k_inl, rz_k_inr, Option.toList_some, Option.toList_none, List.cons_append, List.nil_append, List.append_nil, rz_up_s, rz_u_s, rz_up_n, rz_u_n, ne_eq, not_false_eq_true, not_true_eq_false, Nat.add_assoc, Nat.reduceAdd, reduceIte, Nat.add_eq_left, Nat.left_eq_add, Nat.add_left_cancel_iff, Nat.reduceEqDiff, Nat.add_right_cancel_iff, rz_nb0, rz_nb1, rz_nbb, rz_nbi, rz_isr, rz_zle, if_true, if_false, rz_bi0, rz_bi1, Bool.not_eq_true, Bool.not_eq_false, Bool.true_eq_false, Bool.false_eq_true, rz_ix_lit, cl_lit, Nat.reduceLT, bi_t, bi_f, decide_true, decide_false, Bool.not_false, Bool.not_true, Bool.and_true, Bool.true_and, Bool.and_false, Bool.false_and, oLt_c o1, oLt_f0 o1, oLt_v0 o1, oLt_f1 o1, oLt_v1 o1, oTp_c, oTp_f0, oTp_v0, oTp_i1, oTp_i2, oTp_i3, oTp_i4, oTp_i5, oTp_i6, oTp_a1, oTp_n1, o1, o2, ci, z1, t0, t1, q1, p1, nI_1]
        revert N
        generalize lwP (ι0 (t + 1)) e n 3 o (s.1 ++ [(5, 0)]) s.2 = X
        intro N
        cases X with
        | inl s' => obtain ⟨ι7, y1, y2⟩ := N; exact ⟨ι7, step.trans y1, y2⟩
        | inr f => obtain ⟨ι7, y1, y2⟩ := N; exact ⟨ι7, step.trans y1, y2⟩
    · rw [if_neg (by rw [hop]; decide), hop]
      have hlt : sk (ι0 (t + 1)) e p < e := sg_lt (by decide) hc
      obtain ⟨ι1, t0, u0⟩ := tq_takes_n (Z := Z) (d := d + 6) (w := w) o2 o4 e1 ii.2.2.2.1 hpe (by omega) (c := 42) (by rw [eB, hc]; decide)
      rw [eB] at u0
      have i1 := ii.tp OO u0
      obtain ⟨ι2, t1, u1⟩ := tq_takes_n (Z := Z) (d := d + 6) (w := w) o2 o4 (i1.1.2.1.trans he) i1.2.2.2.1 hsk (by omega) (c := 47) (by rw [i1.by OO, sk_sk, hc]; decide)
      rw [i1.by OO, sk_sk] at u1
      have i2 := i1.tp OO u1
      obtain ⟨ι3, t2, u2⟩ := tq_takes_y (Z := Z) (d := d + 6) (w := w) o2 o4 (i2.1.2.1.trans he) i2.2.2.2.1 hsk (by omega) (c := 37) (by rw [i2.by OO, sk_sk]; exact hc)
      rw [i2.by OO, sk_sk] at u2
      have i3 := i2.tp OO u2
      have U := HU o C (sk (ι0 (t + 1)) e p + 1) ι3 (d + 8) ho (by omega) (by omega) (by omega) (by omega) i3
      cases x0 : lwP (ι0 (t + 1)) e n 4 o C (sk (ι0 (t + 1)) e p + 1) with
      | inr f =>
        rw [x0] at U
        obtain ⟨ι8, q1, q2⟩ := U
        refine ⟨ι8, ?_, q2⟩
        rw [g57_8]
        simp (decide := true) (maxDischargeDepth := 4) only [g57_0, g57_1, g57_2, g57_5, g57_6, g57_7, g57_9, g57_12, g57_13, g57_16, g57_19, g57_20, g57_23, g57_25, g57_28, g57_31, g57_32, g57_33, g57_36, g57_39, g57_40, g57_41, g57_44, g57_47, g57_48, g57_51, g57_52, g57_53, g57_56, g57_57, g57_60, g57_62, g57_65, g57_68, g57_69, g57_70, g57_73, g57_76, g57_77, g57_78, g57_81, g57_84, g57_85, g57_88, g57_89, g57_90, g57_93, g57_94, g57_97, g57_99, g57_102, g57_105, g57_106, g57_107, g57_110, g57_113, g57_114, g57_115, g57_118, g57_121, g57_122, g57_125, g57_126, g57_127, g57_130, g57_133, g57_134, rz_k_inl, rz_k_inr, Option.toList_some, Option.toList_none, List.cons_append, List.nil_append, List.append_nil, rz_up_s, rz_u_s, rz_up_n, rz_u_n, ne_eq, not_false_eq_true, not_true_eq_false, Nat.add_assoc, Nat.reduceAdd, reduceIte, Nat.add_eq_left, Nat.left_eq_add, Nat.add_left_cancel_iff, Nat.reduceEqDiff, Nat.add_right_cancel_iff, rz_nb0, rz_nb1, rz_nbb, rz_nbi, rz_isr, rz_zle, if_true, if_false, rz_bi0, rz_bi1, Bool.not_eq_true, Bool.not_eq_false, Bool.true_eq_false, Bool.false_eq_true, rz_ix_lit, cl_lit, Nat.reduceLT, bi_t, bi_f, decide_true, decide_false, Bool.not_false, Bool.not_true, Bool.and_true, Bool.true_and, Bool.and_false, Bool.false_and, oLt_c o1, oLt_f0 o1, oLt_v0 o1, oLt_f1 o1, oLt_v1 o1, oTp_c, oTp_f0, oTp_v0, oTp_i1, oTp_i2, oTp_i3, oTp_i4, oTp_i5, oTp_i6, oTp_a1, oTp_n1, o1, o2, ci, z1, t0, t1, t2, q1]
        rw [g57_8]
        simp (decide := true) (maxDischargeDepth := 4) only [g57_0, g57_1, g57_2, g57_5, g57_6, g57_7, g57_9, g57_12, g57_13, g57_16, g57_19, g57_20, g57_23, g57_25, g57_28, g57_31, g57_32, g57_33, g57_36, g57_39, g57_40, g57_41, g57_44, g57_47, g57_48, g57_51, g57_52, g57_53, g57_56, g57_57, g57_60, g57_62, g57_65, g57_68, g57_69, g57_70, g57_73, g57_76, g57_77, g57_78, g57_81, g57_84, g57_85, g57_88, g57_89, g57_90, g57_93, g57_94, g57_97, g57_99, g57_102, g57_105, g57_106, g57_107, g57_110, g57_113, g57_114, g57_115, g57_118, g57_121, g57_122, g57_125, g57_126, g57_127, g57_130, g57_133, g57_134, rz_k_inl, rz_k_inr, Option.toList_some, Option.toList_none, List.cons_append, List.nil_append, List.append_nil, rz_up_s, rz_u_s, rz_up_n, rz_u_n, ne_eq, not_false_eq_true, not_true_eq_false, Nat.add_assoc, Nat.reduceAdd, reduceIte, Nat.add_eq_left, Nat.left_eq_add, Nat.add_left_cancel_iff, Nat.reduceEqDiff, Nat.add_right_cancel_iff, rz_nb0, rz_nb1, rz_nbb, rz_nbi, rz_isr, rz_zle, if_true, if_false, rz_bi0, rz_bi1, Bool.not_eq_true, Bool.not_eq_false, Bool.true_eq_false, Bool.false_eq_true, rz_ix_lit, cl_lit, Nat.reduceLT, bi_t, bi_f, decide_true, decide_false, Bool.not_false, Bool.not_true, Bool.and_true, Bool.true_and, Bool.and_false, Bool.false_and]
      | inl s =>
        rw [x0] at U
        obtain ⟨ι8, q1, i8⟩ := U
        obtain ⟨⟨r1, r2, r3⟩, r4⟩ := lwP_pr _ _ _ _ _ _ (by omega) x0
        have r4 := r4 (by omega) (by omega)
        obtain ⟨ι9, p1, i9⟩ := lq_put (Z := Z) (d := d + 6) (w := w) (q := (6, 0)) OO i8 (by omega)
        rw [show lwE (6, 0) = 4 from rfl] at p1
        have N := HR o (s.1 ++ [(6, 0)]) s.2 ι9 (d + 8) (i + 1) ho r2 (by rw [List.length_append]; show s.1.length + 1 ≤ s.2; omega) (by omega) (by omega) (by omega) i9
        rw [rB_l]
        have step : rg Z (d + 8) rx_m57 8 [some (.ref a), some (.int (nI o)), some (.int 1), some (.int (nI i))] [] (rz_mk h ι, w) = rg Z (d + 8) rx_m57 8 [some (.ref a), some (.int (nI o)), some (.int 1), some (.int (nI (i + 1)))] [] (rz_mk h ι9, w) := by
          rw [g57_8]
          simp (decide := true) (maxDischargeDepth := 4) only [g57_0, g57_1, g57_2, g57_5, g57_6, g57_7, g57_9, g57_12, g57_13, g57_16, g57_19, g57_20, g57_23, g57_25, g57_28, g57_31, g57_32, g57_33, g57_36, g57_39, g57_40, g57_41, g57_44, g57_47, g57_48, g57_51, g57_52, g57_53, g57_56, g57_57, g57_60, g57_62, g57_65, g57_68, g57_69, g57_70, g57_73, g57_76, g57_77, g57_78, g57_81, g57_84, g57_85, g57_88, g57_89, g57_90, g57_93, g57_94, g57_97, g57_99, g57_102, g57_105, g57_106, g57_107, g57_110, g57_113, g57_114, g57_115, g57_118, g57_121, g57_122, g57_125, g57_126, g57_127, g57_130, g57_133, g57_134, rz_k_inl, rz_k_inr, Option.toList_some, Option.toList_none, List.cons_append, List.nil_append, List.append_nil, rz_up_s, rz_u_s, rz_up_n, rz_u_n, ne_eq, not_false_eq_true, not_true_eq_false, Nat.add_assoc, Nat.reduceAdd, reduceIte, Nat.add_eq_left, Nat.left_eq_add, Nat.add_left_cancel_iff, Nat.reduceEqDiff, Nat.add_right_cancel_iff, rz_nb0, rz_nb1, rz_nbb, rz_nbi, rz_isr, rz_zle, if_true, if_false, rz_bi0, rz_bi1, Bool.not_eq_true, Bool.not_eq_false, Bool.true_eq_false, Bool.false_eq_true, rz_ix_lit, cl_lit, Nat.reduceLT, bi_t, bi_f, decide_true, decide_false, Bool.not_false, Bool.not_true, Bool.and_true, Bool.true_and, Bool.and_false, Bool.false_and, oLt_c o1, oLt_f0 o1, oLt_v0 o1, oLt_f1 o1, oLt_v1 o1, oTp_c, oTp_f0, oTp_v0, oTp_i1, oTp_i2, oTp_i3, oTp_i4, oTp_i5, oTp_i6, oTp_a1, oTp_n1, o1, o2, ci, z1, t0, t1, t2, q1, p1, nI_1]
        revert N
        generalize lwP (ι0 (t + 1)) e n 3 o (s.1 ++ [(6, 0)]) s.2 = X
        intro N
        cases X with
        | inl s' => obtain ⟨ι7, y1, y2⟩ := N; exact ⟨ι7, step.trans y1, y2⟩
        | inr f => obtain ⟨ι7, y1, y2⟩ := N; exact ⟨ι7, step.trans y1, y2⟩
  · have ci : (nI i < 150) = False := by rw [nI_ltL (by omega) (by decide)]; simp [hi]
    have ep : sk (ι0 (t + 1)) e p = p := sk_end (by omega)
    rw [ep, show sg (ι0 (t + 1)) e p = -1 from if_neg (by omega), if_pos (by decide)]
    refine ⟨ι, ?_, ii⟩
    rw [g57_8]
    simp (decide := true) (maxDischargeDepth := 4) only [g57_0, g57_1, g57_2, g57_5, g57_6, g57_7, g57_9, g57_12, g57_13, g57_16, g57_19, g57_20, g57_23, g57_25, g57_28, g57_31, g57_32, g57_33, g57_36, g57_39, g57_40, g57_41, g57_44, g57_47, g57_48, g57_51, g57_52, g57_53, g57_56, g57_57, g57_60, g57_62, g57_65, g57_68, g57_69, g57_70, g57_73, g57_76, g57_77, g57_78, g57_81, g57_84, g57_85, g57_88, g57_89, g57_90, g57_93, g57_94, g57_97, g57_99, g57_102, g57_105, g57_106, g57_107, g57_110, g57_113, g57_114, g57_115, g57_118, g57_121, g57_122, g57_125, g57_126, g57_127, g57_130, g57_133, g57_134, rz_k_inl, rz_k_inr, Option.toList_some, Option.toList_none, List.cons_append, List.nil_append, List.append_nil, rz_up_s, rz_u_s, rz_up_n, rz_u_n, ne_eq, not_false_eq_true, not_true_eq_false, Nat.add_assoc, Nat.reduceAdd, reduceIte, Nat.add_eq_left, Nat.left_eq_add, Nat.add_left_cancel_iff, Nat.reduceEqDiff, Nat.add_right_cancel_iff, rz_nb0, rz_nb1, rz_nbb, rz_nbi, rz_isr, rz_zle, if_true, if_false, rz_bi0, rz_bi1, Bool.not_eq_true, Bool.not_eq_false, Bool.true_eq_false, Bool.false_eq_true, rz_ix_lit, cl_lit, Nat.reduceLT, bi_t, bi_f, decide_true, decide_false, Bool.not_false, Bool.not_true, Bool.and_true, Bool.true_and, Bool.and_false, Bool.false_and, ci, z1]
theorem lq_rest1 {e n : Nat} (O : lqO Z h t a l) (he : ι0 t 1 = nI e) (he6 : e ≤ 150) (HU : lqH Z h w t a l e ι0 n 2 57 2 9) (HR : lqHR Z h w t a l e ι0 n 1 rx_m56 4 9) {o p i D : Nat} {C : List (Nat × Nat)} (ho : o ≤ 6) (hpe : p ≤ e) (hC : C.length ≤ p) (hip : i ≤ p) (hn : 4 * (e - p) + 4 < n + 1) (hd : 4 * (6 - o) + 9 ≤ D) (ii : lqI t l ι0 ι C p) : lqR Z h w t a l ι0 D rx_m56 o i ι (lwB (ι0 (t + 1)) e (lwP (ι0 (t + 1)) e n) o C p) := by
  have OO := O
  obtain ⟨o1, o2, o3, o4, o5⟩ := O
  obtain ⟨d, rfl⟩ : ∃ d, D = d + 8 := ⟨D - 8, by omega⟩
  have hsk := sk_le (B := ι0 (t + 1)) hpe
  have hge := sk_ge (ι0 (t + 1)) e p
  have e1 : ι t 1 = nI e := ii.1.2.1.trans he
  have eB := ii.by OO
  have z1 : ¬ ((1 : Int32) = 0) := by decide
  unfold lwB
  by_cases hi : i < 150
  · have ci : (nI i < 150) = True := by rw [nI_ltL (by omega) (by decide)]; simp [hi]
    rcases op1_c (sg (ι0 (t + 1)) e (sk (ι0 (t + 1)) e p)) with hop | ⟨hop, hc⟩ | ⟨hop, hc⟩
    · obtain ⟨c0, c1⟩ := op1_0 hop
      rw [if_pos hop]
      obtain ⟨ι1, t0, u0⟩ := tq_takes_n (Z := Z) (d := d + 6) (w := w) o2 o4 e1 ii.2.2.2.1 hpe (by omega) (c := 43) (by rw [eB]; exact c0)
      rw [eB] at u0
      have i1 := ii.tp OO u0
      obtain ⟨ι2, t1, u1⟩ := tq_takes_n (Z := Z) (d := d + 6) (w := w) o2 o4 (i1.1.2.1.trans he) i1.2.2.2.1 hsk (by omega) (c := 45) (by rw [i1.by OO, sk_sk]; exact c1)
      rw [i1.by OO, sk_sk] at u1
      have i2 := i1.tp OO u1
      refine ⟨ι2, ?_, i2⟩
      rw [g56_8]
      simp (decide := true) (maxDischargeDepth := 4) only [g56_0, g56_1, g56_2, g56_5, g56_6, g56_7, g56_9, g56_12, g56_13, g56_16, g56_19, g56_20, g56_23, g56_25, g56_28, g56_31, g56_32, g56_33, g56_36, g56_39, g56_40, g56_41, g56_44, g56_47, g56_48, g56_51, g56_52, g56_53, g56_56, g56_57, g56_60, g56_62, g56_65, g56_68, g56_69, g56_70, g56_73, g56_76, g56_77, g56_78, g56_81, g56_84, g56_85, g56_88, g56_89, g56_90, g56_93, g56_96, g56_97, rz_k_inl, rz_k_inr, Option.toList_some, Option.toList_none, List.cons_append, List.nil_append, List.append_nil, rz_up_s, rz_u_s, rz_up_n, rz_u_n, ne_eq, not_false_eq_true, not_true_eq_false, Nat.add_assoc, Nat.reduceAdd, reduceIte, Nat.add_eq_left, Nat.left_eq_add, Nat.add_left_cancel_iff, Nat.reduceEqDiff, Nat.add_right_cancel_iff, rz_nb0, rz_nb1, rz_nbb, rz_nbi, rz_isr, rz_zle, if_true, if_false, rz_bi0, rz_bi1, Bool.not_eq_true, Bool.not_eq_false, Bool.true_eq_false, Bool.false_eq_true, rz_ix_lit, cl_lit, Nat.reduceLT, bi_t, bi_f, decide_true, decide_false, Bool.not_false, Bool.not_true, Bool.and_true, Bool.true_and, Bool.and_false, Bool.false_and, oLt_c o1, oLt_f0 o1, oLt_v0 o1, oLt_f1 o1, oLt_v1 o1, oTp_c, oTp_f0, oTp_v0, oTp_i1, oTp_i2, oTp_i3, oTp_i4, oTp_i5, oTp_i6, oTp_a1, oTp_n1, o1, o2, ci, z1, t0, t1]
    · rw [if_neg (by rw [hop]; decide), hop]
      have hlt : sk (ι0 (t + 1)) e p < e := sg_lt (by decide) hc
      obtain ⟨ι1, t0, u0⟩ := tq_takes_y (Z := Z) (d := d + 6) (w := w) o2 o4 e1 ii.2.2.2.1 hpe (by omega) (c := 43) (by rw [eB]; exact hc)
      rw [eB] at u0
      have i1 := ii.tp OO u0
      have U := HU o C (sk (ι0 (t + 1)) e p + 1) ι1 (d + 8) ho (by omega) (by omega) (by omega) (by omega) i1
      cases x0 : lwP (ι0 (t + 1)) e n 2 o C (sk (ι0 (t + 1)) e p + 1) with
      | inr f =>
        rw [x0] at U
        obtain ⟨ι8, q1, q2⟩ := U
        refine ⟨ι8, ?_, q2⟩
        rw [g56_8]
        simp (decide := true) (maxDischargeDepth := 4) only [g56_0, g56_1, g56_2, g56_5, g56_6, g56_7, g56_9, g56_12, g56_13, g56_16, g56_19, g56_20, g56_23, g56_25, g56_28, g56_31, g56_32, g56_33, g56_36, g56_39, g56_40, g56_41, g56_44, g56_47, g56_48, g56_51, g56_52, g56_53, g56_56, g56_57, g56_60, g56_62, g56_65, g56_68, g56_69, g56_70, g56_73, g56_76, g56_77, g56_78, g56_81, g56_84, g56_85, g56_88, g56_89, g56_90, g56_93, g56_96, g56_97, rz_k_inl, rz_k_inr, Option.toList_some, Option.toList_none, List.cons_append, List.nil_append, List.append_nil, rz_up_s, rz_u_s, rz_up_n, rz_u_n, ne_eq, not_false_eq_true, not_true_eq_false, Nat.add_assoc, Nat.reduceAdd, reduceIte, Nat.add_eq_left, Nat.left_eq_add, Nat.add_left_cancel_iff, Nat.reduceEqDiff, Nat.add_right_cancel_iff, rz_nb0, rz_nb1, rz_nbb, rz_nbi, rz_isr, rz_zle, if_true, if_false, rz_bi0, rz_bi1, Bool.not_eq_true, Bool.not_eq_false, Bool.true_eq_false, Bool.false_eq_true, rz_ix_lit, cl_lit, Nat.reduceLT, bi_t, bi_f, decide_true, decide_false, Bool.not_false, Bool.not_true, Bool.and_true, Bool.true_and, Bool.and_false, Bool.false_and, oLt_c o1, oLt_f0 o1, oLt_v0 o1, oLt_f1 o1, oLt_v1 o1, oTp_c, oTp_f0, oTp_v0, oTp_i1, oTp_i2, oTp_i3, oTp_i4, oTp_i5, oTp_i6, oTp_a1, oTp_n1, o1, o2, ci, z1, t0, q1]
        rw [g56_8]
        simp (decide := true) (maxDischargeDepth := 4) only [g56_0, g56_1, g56_2, g56_5, g56_6, g56_7, g56_9, g56_12, g56_13, g56_16, g56_19, g56_20, g56_23, g56_25, g56_28, g56_31, g56_32, g56_33, g56_36, g56_39, g56_40, g56_41, g56_44, g56_47, g56_48, g56_51, g56_52, g56_53, g56_56, g56_57, g56_60, g56_62, g56_65, g56_68, g56_69, g56_70, g56_73, g56_76, g56_77, g56_78, g56_81, g56_84, g56_85, g56_88, g56_89, g56_90, g56_93, g56_96, g56_97, rz_k_inl, rz_k_inr, Option.toList_some, Option.toList_none, List.cons_append, List.nil_append, List.append_nil, rz_up_s, rz_u_s, rz_up_n, rz_u_n, ne_eq, not_false_eq_true, not_true_eq_false, Nat.add_assoc, Nat.reduceAdd, reduceIte, Nat.add_eq_left, Nat.left_eq_add, Nat.add_left_cancel_iff, Nat.reduceEqDiff, Nat.add_right_cancel_iff, rz_nb0, rz_nb1, rz_nbb, rz_nbi, rz_isr, rz_zle, if_true, if_false, rz_bi0, rz_bi1, Bool.not_eq_true, Bool.not_eq_false, Bool.true_eq_false, Bool.false_eq_true, rz_ix_lit, cl_lit, Nat.reduceLT, bi_t, bi_f, decide_true, decide_false, Bool.not_false, Bool.not_true, Bool.and_true, Bool.true_and, Bool.and_false, Bool.false_and]
      | inl s =>
        rw [x0] at U
        obtain ⟨ι8, q1, i8⟩ := U
        obtain ⟨⟨r1, r2, r3⟩, r4⟩ := lwP_pr _ _ _ _ _ _ (by omega) x0
        have r4 := r4 (by omega) (by omega)
        obtain ⟨ι9, p1, i9⟩ := lq_put (Z := Z) (d := d + 6) (w := w) (q := (2, 0)) OO i8 (by omega)
        rw [show lwE (2, 0) = 0 from rfl] at p1
        have N := HR o (s.1 ++ [(2, 0)]) s.2 ι9 (d + 8) (i + 1) ho r2 (by rw [List.length_append]; show s.1.length + 1 ≤ s.2; omega) (by omega) (by omega) (by omega) i9
        rw [rB_l]
        have step : rg Z (d + 8) rx_m56 8 [some (.ref a), some (.int (nI o)), some (.int 1), some (.int (nI i))] [] (rz_mk h ι, w) = rg Z (d + 8) rx_m56 8 [some (.ref a), some (.int (nI o)), some (.int 1), some (.int (nI (i + 1)))] [] (rz_mk h ι9, w) := by
          rw [g56_8]
          simp (decide := true) (maxDischargeDepth := 4) only [g56_0, g56_1, g56_2, g56_5, g56_6, g56_7, g56_9, g56_12, g56_13, g56_16, g56_19, g56_20, g56_23, g56_25, g56_28, g56_31, g56_32, g56_33, g56_36, g56_39, g56_40, g56_41, g56_44, g56_47, g56_48, g56_51, g56_52, g56_53, g56_56, g56_57, g56_60, g56_62, g56_65, g56_68, g56_69, g56_70, g56_73, g56_76, g56_77, g56_78, g56_81, g56_84, g56_85, g56_88, g56_89, g56_90, g56_93, g56_96, g56_97, rz_k_inl, rz_k_inr, Option.toList_some, Option.toList_none, List.cons_append, List.nil_append, List.append_nil, rz_up_s, rz_u_s, rz_up_n, rz_u_n, ne_eq, not_false_eq_true, not_true_eq_false, Nat.add_assoc, Nat.reduceAdd, reduceIte, Nat.add_eq_left, Nat.left_eq_add, Nat.add_left_cancel_iff, Nat.reduceEqDiff, Nat.add_right_cancel_iff, rz_nb0, rz_nb1, rz_nbb, rz_nbi, rz_isr, rz_zle, if_true, if_false, rz_bi0, rz_bi1, Bool.not_eq_true, Bool.not_eq_false, Bool.true_eq_false, Bool.false_eq_true, rz_ix_lit, cl_lit, Nat.reduceLT, bi_t, bi_f, decide_true, decide_false, Bool.not_false, Bool.not_true, Bool.and_true, Bool.true_and, Bool.and_false, Bool.false_and, oLt_c o1, oLt_f0 o1, oLt_v0 o1, oLt_f1 o1, oLt_v1 o1, oTp_c, oTp_f0, oTp_v0, oTp_i1, oTp_i2, oTp_i3, oTp_i4, oTp_i5, oTp_i6, oTp_a1, oTp_n1, o1, o2, ci, z1, t0, q1, p1, nI_1]
        revert N
        generalize lwP (ι0 (t + 1)) e n 1 o (s.1 ++ [(2, 0)]) s.2 = X
        intro N
        cases X with
        | inl s' => obtain ⟨ι7, y1, y2⟩ := N; exact ⟨ι7, step.trans y1, y2⟩
        | inr f => obtain ⟨ι7, y1, y2⟩ := N; exact ⟨ι7, step.trans y1, y2⟩
    · rw [if_neg (by rw [hop]; decide), hop]
      have hlt : sk (ι0 (t + 1)) e p < e := sg_lt (by decide) hc
      obtain ⟨ι1, t0, u0⟩ := tq_takes_n (Z := Z) (d := d + 6) (w := w) o2 o4 e1 ii.2.2.2.1 hpe (by omega) (c := 43) (by rw [eB, hc]; decide)
      rw [eB] at u0
      have i1 := ii.tp OO u0
      obtain ⟨ι2, t1, u1⟩ := tq_takes_y (Z := Z) (d := d + 6) (w := w) o2 o4 (i1.1.2.1.trans he) i1.2.2.2.1 hsk (by omega) (c := 45) (by rw [i1.by OO, sk_sk]; exact hc)
      rw [i1.by OO, sk_sk] at u1
      have i2 := i1.tp OO u1
      have U := HU o C (sk (ι0 (t + 1)) e p + 1) ι2 (d + 8) ho (by omega) (by omega) (by omega) (by omega) i2
      cases x0 : lwP (ι0 (t + 1)) e n 2 o C (sk (ι0 (t + 1)) e p + 1) with
      | inr f =>
        rw [x0] at U
        obtain ⟨ι8, q1, q2⟩ := U
        refine ⟨ι8, ?_, q2⟩
        rw [g56_8]
        simp (decide := true) (maxDischargeDepth := 4) only [g56_0, g56_1, g56_2, g56_5, g56_6, g56_7, g56_9, g56_12, g56_13, g56_16, g56_19, g56_20, g56_23, g56_25, g56_28, g56_31, g56_32, g56_33, g56_36, g56_39, g56_40, g56_41, g56_44, g56_47, g56_48, g56_51, g56_52, g56_53, g56_56, g56_57, g56_60, g56_62, g56_65, g56_68, g56_69, g56_70, g56_73, g56_76, g56_77, g56_78, g56_81, g56_84, g56_85, g56_88, g56_89, g56_90, g56_93, g56_96, g56_97, rz_k_inl, rz_k_inr, Option.toList_some, Option.toList_none, List.cons_append, List.nil_append, List.append_nil, rz_up_s, rz_u_s, rz_up_n, rz_u_n, ne_eq, not_false_eq_true, not_true_eq_false, Nat.add_assoc, Nat.reduceAdd, reduceIte, Nat.add_eq_left, Nat.left_eq_add, Nat.add_left_cancel_iff, Nat.reduceEqDiff, Nat.add_right_cancel_iff, rz_nb0, rz_nb1, rz_nbb, rz_nbi, rz_isr, rz_zle, if_true, if_false, rz_bi0, rz_bi1, Bool.not_eq_true, Bool.not_eq_false, Bool.true_eq_false, Bool.false_eq_true, rz_ix_lit, cl_lit, Nat.reduceLT, bi_t, bi_f, decide_true, decide_false, Bool.not_false, Bool.not_true, Bool.and_true, Bool.true_and, Bool.and_false, Bool.false_and, oLt_c o1, oLt_f0 o1, oLt_v0 o1, oLt_f1 o1, oLt_v1 o1, oTp_c, oTp_f0, oTp_v0, oTp_i1, oTp_i2, oTp_i3, oTp_i4, oTp_i5, oTp_i6, oTp_a1, oTp_n1, o1, o2, ci, z1, t0, t1, q1]
        rw [g56_8]
        simp (decide := true) (maxDischargeDepth := 4) only [g56_0, g56_1, g56_2, g56_5, g56_6, g56_7, g56_9, g56_12, g56_13, g56_16, g56_19, g56_20, g56_23, g56_25, g56_28, g56_31, g56_32, g56_33, g56_36, g56_39, g56_40, g56_41, g56_44, g56_47, g56_48, g56_51, g56_52, g56_53, g56_56, g56_57, g56_60, g56_62, g56_65, g56_68, g56_69, g56_70, g56_73, g56_76, g56_77, g56_78, g56_81, g56_84, g56_85, g56_88, g56_89, g56_90, g56_93, g56_96, g56_97, rz_k_inl, rz_k_inr, Option.toList_some, Option.toList_none, List.cons_append, List.nil_append, List.append_nil, rz_up_s, rz_u_s, rz_up_n, rz_u_n, ne_eq, not_false_eq_true, not_true_eq_false, Nat.add_assoc, Nat.reduceAdd, reduceIte, Nat.add_eq_left, Nat.left_eq_add, Nat.add_left_cancel_iff, Nat.reduceEqDiff, Nat.add_right_cancel_iff, rz_nb0, rz_nb1, rz_nbb, rz_nbi, rz_isr, rz_zle, if_true, if_false, rz_bi0, rz_bi1, Bool.not_eq_true, Bool.not_eq_false, Bool.true_eq_false, Bool.false_eq_true, rz_ix_lit, cl_lit, Nat.reduceLT, bi_t, bi_f, decide_true, decide_false, Bool.not_false, Bool.not_true, Bool.and_true, Bool.true_and, Bool.and_false, Bool.false_and]
      | inl s =>
        rw [x0] at U
        obtain ⟨ι8, q1, i8⟩ := U
        obtain ⟨⟨r1, r2, r3⟩, r4⟩ := lwP_pr _ _ _ _ _ _ (by omega) x0
        have r4 := r4 (by omega) (by omega)
        obtain ⟨ι9, p1, i9⟩ := lq_put (Z := Z) (d := d + 6) (w := w) (q := (3, 0)) OO i8 (by omega)
        rw [show lwE (3, 0) = 1 from rfl] at p1
        have N := HR o (s.1 ++ [(3, 0)]) s.2 ι9 (d + 8) (i + 1) ho r2 (by rw [List.length_append]; show s.1.length + 1 ≤ s.2; omega) (by omega) (by omega) (by omega) i9
        rw [rB_l]
        have step : rg Z (d + 8) rx_m56 8 [some (.ref a), some (.int (nI o)), some (.int 1), some (.int (nI i))] [] (rz_mk h ι, w) = rg Z (d + 8) rx_m56 8 [some (.ref a), some (.int (nI o)), some (.int 1), some (.int (nI (i + 1)))] [] (rz_mk h ι9, w) := by
          rw [g56_8]
          simp (decide := true) (maxDischargeDepth := 4) only [g56_0, g56_1, g56_2, g56_5, g56_6, g56_7, g56_9, g56_12, g56_13, g56_16, g56_19, g56_20, g56_23, g56_25, g56_28, g56_31, g56_32, g56_33, g56_36, g56_39, g56_40, g56_41, g56_44, g56_47, g56_48, g56_51, g56_52, g56_53, g56_56, g56_57, g56_60, g56_62, g56_65, g56_68, g56_69, g56_70, g56_73, g56_76, g56_77, g56_78, g56_81, g56_84, g56_85, g56_88, g56_89, g56_90, g56_93, g56_96, g56_97, rz_k_inl, rz_k_inr, Option.toList_some, Option.toList_none, List.cons_append, List.nil_append, List.append_nil, rz_up_s, rz_u_s, rz_up_n, rz_u_n, ne_eq, not_false_eq_true, not_true_eq_false, Nat.add_assoc, Nat.reduceAdd, reduceIte, Nat.add_eq_left, Nat.left_eq_add, Nat.add_left_cancel_iff, Nat.reduceEqDiff, Nat.add_right_cancel_iff, rz_nb0, rz_nb1, rz_nbb, rz_nbi, rz_isr, rz_zle, if_true, if_false, rz_bi0, rz_bi1, Bool.not_eq_true, Bool.not_eq_false, Bool.true_eq_false, Bool.false_eq_true, rz_ix_lit, cl_lit, Nat.reduceLT, bi_t, bi_f, decide_true, decide_false, Bool.not_false, Bool.not_true, Bool.and_true, Bool.true_and, Bool.and_false, Bool.false_and, oLt_c o1, oLt_f0 o1, oLt_v0 o1, oLt_f1 o1, oLt_v1 o1, oTp_c, oTp_f0, oTp_v0, oTp_i1, oTp_i2, oTp_i3, oTp_i4, oTp_i5, oTp_i6, oTp_a1, oTp_n1, o1, o2, ci, z1, t0, t1, q1, p1, nI_1]
        revert N
        generalize lwP (ι0 (t + 1)) e n 1 o (s.1 ++ [(3, 0)]) s.2 = X
        intro N
        cases X with
        | inl s' => obtain ⟨ι7, y1, y2⟩ := N; exact ⟨ι7, step.trans y1, y2⟩
        | inr f => obtain ⟨ι7, y1, y2⟩ := N; exact ⟨ι7, step.trans y1, y2⟩
  · have ci : (nI i < 150) = False := by rw [nI_ltL (by omega) (by decide)]; simp [hi]
    have ep : sk (ι0 (t + 1)) e p = p := sk_end (by omega)
    rw [ep, show sg (ι0 (t + 1)) e p = -1 from if_neg (by omega), if_pos (by decide)]
    refine ⟨ι, ?_, ii⟩
    rw [g56_8]
    simp (decide := true) (maxDischargeDepth := 4) only [g56_0, g56_1, g56_2, g56_5, g56_6, g56_7, g56_9, g56_12, g56_13, g56_16, g56_19, g56_20, g56_23, g56_25, g56_28, g56_31, g56_32, g56_33, g56_36, g56_39, g56_40, g56_41, g56_44, g56_47, g56_48, g56_51, g56_52, g56_53, g56_56, g56_57, g56_60, g56_62, g56_65, g56_68, g56_69, g56_70, g56_73, g56_76, g56_77, g56_78, g56_81, g56_84, g56_85, g56_88, g56_89, g56_90, g56_93, g56_96, g56_97, rz_k_inl, rz_k_inr, Option.toList_some, Option.toList_none, List.cons_append, List.nil_append, List.append_nil, rz_up_s, rz_u_s, rz_up_n, rz_u_n, ne_eq, not_false_eq_true, not_true_eq_false, Nat.add_assoc, Nat.reduceAdd, reduceIte, Nat.add_eq_left, Nat.left_eq_add, Nat.add_left_cancel_iff, Nat.reduceEqDiff, Nat.add_right_cancel_iff, rz_nb0, rz_nb1, rz_nbb, rz_nbi, rz_isr, rz_zle, if_true, if_false, rz_bi0, rz_bi1, Bool.not_eq_true, Bool.not_eq_false, Bool.true_eq_false, Bool.false_eq_true, rz_ix_lit, cl_lit, Nat.reduceLT, bi_t, bi_f, decide_true, decide_false, Bool.not_false, Bool.not_true, Bool.and_true, Bool.true_and, Bool.and_false, Bool.false_and, ci, z1]
theorem lq_product {e n : Nat} (HU : lqH Z h w t a l e ι0 n 4 58 1 8) (HR : lqHR Z h w t a l e ι0 n 3 rx_m57 4 8) (O : lqO Z h t a l) {o p D : Nat} {C : List (Nat × Nat)} (ho : o ≤ 6) (hpe : p ≤ e) (hC : C.length ≤ p) (hn : 4 * (e - p) + 2 < n + 1) (hd : 4 * (6 - o) + 9 ≤ D) (ii : lqI t l ι0 ι C p) : lqC Z h w t l ι0 D 57 [.ref a, .int (nI o)] ι (lwG (lwP (ι0 (t + 1)) e n) o C p) := by
  obtain ⟨d, rfl⟩ : ∃ d, D = d + 1 := ⟨D - 1, by omega⟩
  obtain ⟨o1, o2, o3, o4, o5⟩ := O
  have z1 : ¬ ((1 : Int32) = 0) := by decide
  unfold lwG
  have U := HU o C p ι d ho hpe hC (by omega) (by omega) ii
  cases x0 : lwP (ι0 (t + 1)) e n 4 o C p with
  | inr f =>
    rw [x0] at U
    obtain ⟨ι1, q1, q2⟩ := U
    refine ⟨ι1, ?_, q2⟩
    rw [e57]
    simp (decide := true) (maxDischargeDepth := 4) only [g57_0, g57_1, g57_2, g57_5, g57_6, g57_7, g57_9, g57_12, g57_13, g57_16, g57_19, g57_20, g57_23, g57_25, g57_28, g57_31, g57_32, g57_33, g57_36, g57_39, g57_40, g57_41, g57_44, g57_47, g57_48, g57_51, g57_52, g57_53, g57_56, g57_57, g57_60, g57_62, g57_65, g57_68, g57_69, g57_70, g57_73, g57_76, g57_77, g57_78, g57_81, g57_84, g57_85, g57_88, g57_89, g57_90, g57_93, g57_94, g57_97, g57_99, g57_102, g57_105, g57_106, g57_107, g57_110, g57_113, g57_114, g57_115, g57_118, g57_121, g57_122, g57_125, g57_126, g57_127, g57_130, g57_133, g57_134, rz_k_inl, rz_k_inr, Option.toList_some, Option.toList_none, List.cons_append, List.nil_append, List.append_nil, rz_up_s, rz_u_s, rz_up_n, rz_u_n, ne_eq, not_false_eq_true, not_true_eq_false, Nat.add_assoc, Nat.reduceAdd, reduceIte, Nat.add_eq_left, Nat.left_eq_add, Nat.add_left_cancel_iff, Nat.reduceEqDiff, Nat.add_right_cancel_iff, rz_nb0, rz_nb1, rz_nbb, rz_nbi, rz_isr, rz_zle, if_true, if_false, rz_bi0, rz_bi1, Bool.not_eq_true, Bool.not_eq_false, Bool.true_eq_false, Bool.false_eq_true, rz_ix_lit, cl_lit, Nat.reduceLT, bi_t, bi_f, decide_true, decide_false, Bool.not_false, Bool.not_true, Bool.and_true, Bool.true_and, Bool.and_false, Bool.false_and, oLt_c o1, oLt_f0 o1, oLt_v0 o1, oLt_f1 o1, oLt_v1 o1, o1, q1]
    rw [g57_8]
    simp (decide := true) (maxDischargeDepth := 4) only [g57_0, g57_1, g57_2, g57_5, g57_6, g57_7, g57_9, g57_12, g57_13, g57_16, g57_19, g57_20, g57_23, g57_25, g57_28, g57_31, g57_32, g57_33, g57_36, g57_39, g57_40, g57_41, g57_44, g57_47, g57_48, g57_51, g57_52, g57_53, g57_56, g57_57, g57_60, g57_62, g57_65, g57_68, g57_69, g57_70, g57_73, g57_76, g57_77, g57_78, g57_81, g57_84, g57_85, g57_88, g57_89, g57_90, g57_93, g57_94, g57_97, g57_99, g57_102, g57_105, g57_106, g57_107, g57_110, g57_113, g57_114, g57_115, g57_118, g57_121, g57_122, g57_125, g57_126, g57_127, g57_130, g57_133, g57_134, rz_k_inl, rz_k_inr, Option.toList_some, Option.toList_none, List.cons_append, List.nil_append, List.append_nil, rz_up_s, rz_u_s, rz_up_n, rz_u_n, ne_eq, not_false_eq_true, not_true_eq_false, Nat.add_assoc, Nat.reduceAdd, reduceIte, Nat.add_eq_left, Nat.left_eq_add, Nat.add_left_cancel_iff, Nat.reduceEqDiff, Nat.add_right_cancel_iff, rz_nb0, rz_nb1, rz_nbb, rz_nbi, rz_isr, rz_zle, if_true, if_false, rz_bi0, rz_bi1, Bool.not_eq_true, Bool.not_eq_false, Bool.true_eq_false, Bool.false_eq_true, rz_ix_lit, cl_lit, Nat.reduceLT, bi_t, bi_f, decide_true, decide_false, Bool.not_false, Bool.not_true, Bool.and_true, Bool.true_and, Bool.and_false, Bool.false_and]
  | inl s =>
    rw [x0] at U
    obtain ⟨ι1, q1, i1⟩ := U
    obtain ⟨⟨r1, r2, r3⟩, r4⟩ := lwP_pr _ _ _ _ _ _ hpe x0
    have r4 := r4 (by omega) (by omega)
    have N := HR o s.1 s.2 ι1 d 0 ho r2 (by omega) (by omega) (by omega) (by omega) i1
    rw [rB_l]
    have step : rz_f Z (d + 1) 57 [.ref a, .int (nI o)] (rz_mk h ι, w) = rg Z d rx_m57 8 [some (.ref a), some (.int (nI o)), some (.int 1), some (.int (nI 0))] [] (rz_mk h ι1, w) := by
      rw [e57, show nI 0 = 0 from rfl]
      simp (decide := true) (maxDischargeDepth := 4) only [g57_0, g57_1, g57_2, g57_5, g57_6, g57_7, rz_k_inl, rz_k_inr, Option.toList_some, Option.toList_none, List.cons_append, List.nil_append, List.append_nil, rz_up_s, rz_u_s, rz_up_n, rz_u_n, ne_eq, not_false_eq_true, not_true_eq_false, Nat.add_assoc, Nat.reduceAdd, reduceIte, Nat.add_eq_left, Nat.left_eq_add, Nat.add_left_cancel_iff, Nat.reduceEqDiff, Nat.add_right_cancel_iff, rz_nb0, rz_nb1, rz_nbb, rz_nbi, rz_isr, rz_zle, if_true, if_false, rz_bi0, rz_bi1, Bool.not_eq_true, Bool.not_eq_false, Bool.true_eq_false, Bool.false_eq_true, rz_ix_lit, cl_lit, Nat.reduceLT, bi_t, bi_f, decide_true, decide_false, Bool.not_false, Bool.not_true, Bool.and_true, Bool.true_and, Bool.and_false, Bool.false_and, oLt_c o1, oLt_f0 o1, oLt_v0 o1, oLt_f1 o1, oLt_v1 o1, o1, q1]
    revert N
    generalize lwP (ι0 (t + 1)) e n 3 o s.1 s.2 = X
    intro N
    cases X with
    | inl s' => obtain ⟨ι7, y1, y2⟩ := N; exact ⟨ι7, step.trans y1, y2⟩
    | inr f => obtain ⟨ι7, y1, y2⟩ := N; exact ⟨ι7, step.trans y1, y2⟩
theorem lq_sum {e n : Nat} (HU : lqH Z h w t a l e ι0 n 2 57 2 9) (HR : lqHR Z h w t a l e ι0 n 1 rx_m56 4 9) (O : lqO Z h t a l) {o p D : Nat} {C : List (Nat × Nat)} (ho : o ≤ 6) (hpe : p ≤ e) (hC : C.length ≤ p) (hn : 4 * (e - p) + 3 < n + 1) (hd : 4 * (6 - o) + 10 ≤ D) (ii : lqI t l ι0 ι C p) : lqC Z h w t l ι0 D 56 [.ref a, .int (nI o)] ι (lwA (lwP (ι0 (t + 1)) e n) o C p) := by
  obtain ⟨d, rfl⟩ : ∃ d, D = d + 1 := ⟨D - 1, by omega⟩
  obtain ⟨o1, o2, o3, o4, o5⟩ := O
  have z1 : ¬ ((1 : Int32) = 0) := by decide
  unfold lwA
  have U := HU o C p ι d ho hpe hC (by omega) (by omega) ii
  cases x0 : lwP (ι0 (t + 1)) e n 2 o C p with
  | inr f =>
    rw [x0] at U
    obtain ⟨ι1, q1, q2⟩ := U
    refine ⟨ι1, ?_, q2⟩
    rw [e56]
    simp (decide := true) (maxDischargeDepth := 4) only [g56_0, g56_1, g56_2, g56_5, g56_6, g56_7, g56_9, g56_12, g56_13, g56_16, g56_19, g56_20, g56_23, g56_25, g56_28, g56_31, g56_32, g56_33, g56_36, g56_39, g56_40, g56_41, g56_44, g56_47, g56_48, g56_51, g56_52, g56_53, g56_56, g56_57, g56_60, g56_62, g56_65, g56_68, g56_69, g56_70, g56_73, g56_76, g56_77, g56_78, g56_81, g56_84, g56_85, g56_88, g56_89, g56_90, g56_93, g56_96, g56_97, rz_k_inl, rz_k_inr, Option.toList_some, Option.toList_none, List.cons_append, List.nil_append, List.append_nil, rz_up_s, rz_u_s, rz_up_n, rz_u_n, ne_eq, not_false_eq_true, not_true_eq_false, Nat.add_assoc, Nat.reduceAdd, reduceIte, Nat.add_eq_left, Nat.left_eq_add, Nat.add_left_cancel_iff, Nat.reduceEqDiff, Nat.add_right_cancel_iff, rz_nb0, rz_nb1, rz_nbb, rz_nbi, rz_isr, rz_zle, if_true, if_false, rz_bi0, rz_bi1, Bool.not_eq_true, Bool.not_eq_false, Bool.true_eq_false, Bool.false_eq_true, rz_ix_lit, cl_lit, Nat.reduceLT, bi_t, bi_f, decide_true, decide_false, Bool.not_false, Bool.not_true, Bool.and_true, Bool.true_and, Bool.and_false, Bool.false_and, oLt_c o1, oLt_f0 o1, oLt_v0 o1, oLt_f1 o1, oLt_v1 o1, o1, q1]
    rw [g56_8]
    simp (decide := true) (maxDischargeDepth := 4) only [g56_0, g56_1, g56_2, g56_5, g56_6, g56_7, g56_9, g56_12, g56_13, g56_16, g56_19, g56_20, g56_23, g56_25, g56_28, g56_31, g56_32, g56_33, g56_36, g56_39, g56_40, g56_41, g56_44, g56_47, g56_48, g56_51, g56_52, g56_53, g56_56, g56_57, g56_60, g56_62, g56_65, g56_68, g56_69, g56_70, g56_73, g56_76, g56_77, g56_78, g56_81, g56_84, g56_85, g56_88, g56_89, g56_90, g56_93, g56_96, g56_97, rz_k_inl, rz_k_inr, Option.toList_some, Option.toList_none, List.cons_append, List.nil_append, List.append_nil, rz_up_s, rz_u_s, rz_up_n, rz_u_n, ne_eq, not_false_eq_true, not_true_eq_false, Nat.add_assoc, Nat.reduceAdd, reduceIte, Nat.add_eq_left, Nat.left_eq_add, Nat.add_left_cancel_iff, Nat.reduceEqDiff, Nat.add_right_cancel_iff, rz_nb0, rz_nb1, rz_nbb, rz_nbi, rz_isr, rz_zle, if_true, if_false, rz_bi0, rz_bi1, Bool.not_eq_true, Bool.not_eq_false, Bool.true_eq_false, Bool.false_eq_true, rz_ix_lit, cl_lit, Nat.reduceLT, bi_t, bi_f, decide_true, decide_false, Bool.not_false, Bool.not_true, Bool.and_true, Bool.true_and, Bool.and_false, Bool.false_and]
  | inl s =>
    rw [x0] at U
    obtain ⟨ι1, q1, i1⟩ := U
    obtain ⟨⟨r1, r2, r3⟩, r4⟩ := lwP_pr _ _ _ _ _ _ hpe x0
    have r4 := r4 (by omega) (by omega)
    have N := HR o s.1 s.2 ι1 d 0 ho r2 (by omega) (by omega) (by omega) (by omega) i1
    rw [rB_l]
    have step : rz_f Z (d + 1) 56 [.ref a, .int (nI o)] (rz_mk h ι, w) = rg Z d rx_m56 8 [some (.ref a), some (.int (nI o)), some (.int 1), some (.int (nI 0))] [] (rz_mk h ι1, w) := by
      rw [e56, show nI 0 = 0 from rfl]
      simp (decide := true) (maxDischargeDepth := 4) only [g56_0, g56_1, g56_2, g56_5, g56_6, g56_7, rz_k_inl, rz_k_inr, Option.toList_some, Option.toList_none, List.cons_append, List.nil_append, List.append_nil, rz_up_s, rz_u_s, rz_up_n, rz_u_n, ne_eq, not_false_eq_true, not_true_eq_false, Nat.add_assoc, Nat.reduceAdd, reduceIte, Nat.add_eq_left, Nat.left_eq_add, Nat.add_left_cancel_iff, Nat.reduceEqDiff, Nat.add_right_cancel_iff, rz_nb0, rz_nb1, rz_nbb, rz_nbi, rz_isr, rz_zle, if_true, if_false, rz_bi0, rz_bi1, Bool.not_eq_true, Bool.not_eq_false, Bool.true_eq_false, Bool.false_eq_true, rz_ix_lit, cl_lit, Nat.reduceLT, bi_t, bi_f, decide_true, decide_false, Bool.not_false, Bool.not_true, Bool.and_true, Bool.true_and, Bool.and_false, Bool.false_and, oLt_c o1, oLt_f0 o1, oLt_v0 o1, oLt_f1 o1, oLt_v1 o1, o1, q1]
    revert N
    generalize lwP (ι0 (t + 1)) e n 1 o s.1 s.2 = X
    intro N
    cases X with
    | inl s' => obtain ⟨ι7, y1, y2⟩ := N; exact ⟨ι7, step.trans y1, y2⟩
    | inr f => obtain ⟨ι7, y1, y2⟩ := N; exact ⟨ι7, step.trans y1, y2⟩
theorem lq_all {e : Nat} (hst : stH Z h) (O : lqO Z h t a l) (he : ι0 t 1 = nI e) (he6 : e ≤ 150) : ∀ n, lqH Z h w t a l e ι0 n 0 56 3 10 ∧ lqHR Z h w t a l e ι0 n 1 rx_m56 4 9 ∧ lqH Z h w t a l e ι0 n 2 57 2 9 ∧ lqHR Z h w t a l e ι0 n 3 rx_m57 4 8 ∧ lqH Z h w t a l e ι0 n 4 58 1 8
  | 0 => ⟨fun _ _ _ _ _ _ _ _ h => by omega, fun _ _ _ _ _ _ _ _ _ _ h => by omega, fun _ _ _ _ _ _ _ _ h => by omega, fun _ _ _ _ _ _ _ _ _ _ h => by omega, fun _ _ _ _ _ _ _ _ h => by omega⟩
  | n + 1 => by
    obtain ⟨h0, h1, h2, h3, h4⟩ := lq_all hst O he he6 n
    refine ⟨?_, ?_, ?_, ?_, ?_⟩
    · intro o C p ι D a1 a2 a3 a4 a5 a6
      exact lq_sum h2 h1 O a1 a2 a3 a4 a5 a6
    · intro o C p ι D i a1 a2 a3 a4 a5 a6 a7
      exact lq_rest1 O he he6 h2 h1 a1 a2 a3 a4 a5 a6 a7
    · intro o C p ι D a1 a2 a3 a4 a5 a6
      exact lq_product h4 h3 O a1 a2 a3 a4 a5 a6
    · intro o C p ι D i a1 a2 a3 a4 a5 a6 a7
      exact lq_rest3 O he he6 h4 h3 a1 a2 a3 a4 a5 a6 a7
    · intro o C p ι D a1 a2 a3 a4 a5 a6
      obtain ⟨d, rfl⟩ : ∃ d, D = d + 8 := ⟨D - 8, by omega⟩
      exact lq_unit hst O he he6 h0 a1 a2 a3 a4 a5 a6
theorem lq_reads {d e : Nat} (hst : stH Z h) (O : lqO Z h t a l) (he : ι t 1 = nI e) (hp : ι t 2 = 0) (he6 : e ≤ 150) (hB : ∀ x, ι (t + 1) x ≠ -1) : match lwX (ι (t + 1)) e with
    | .inl C => ∃ ι' p, rz_f Z (d + 35) 54 [.ref a] (rz_mk h ι, w) = some (.inl (some (.int 1)), (rz_mk h ι', w)) ∧ lqI t l ι ι' C p
    | .inr f => ∃ ι', rz_f Z (d + 35) 54 [.ref a] (rz_mk h ι, w) = some (.inl (some (.int 0)), (rz_mk h ι', w)) ∧ lqN t l ι ι' f := by
  have OO := O
  obtain ⟨o1, o2, o3, o4, o5⟩ := O
  have hzl : Z.2.1 ≤ l := by omega
  have z1 : ¬ ((1 : Int32) = 0) := by decide
  have cl : rz_f Z (d + 34) 42 [.ref l] (rz_mk h ι, w) = some (.inl none, (rz_mk h (rz_up ι l 3 0), w)) := by
    rw [e42]
    simp (decide := true) (maxDischargeDepth := 4) only [g42_0, g42_1, g42_2, g42_5, rz_k_inl, rz_k_inr, Option.toList_some, Option.toList_none, List.cons_append, List.nil_append, List.append_nil, rz_up_s, rz_u_s, rz_up_n, rz_u_n, ne_eq, not_false_eq_true, not_true_eq_false, Nat.add_assoc, Nat.reduceAdd, reduceIte, Nat.add_eq_left, Nat.left_eq_add, Nat.add_left_cancel_iff, Nat.reduceEqDiff, Nat.add_right_cancel_iff, rz_nb0, rz_nb1, rz_nbb, rz_nbi, rz_isr, rz_zle, if_true, if_false, rz_bi0, rz_bi1, Bool.not_eq_true, Bool.not_eq_false, Bool.true_eq_false, Bool.false_eq_true, rz_ix_lit, cl_lit, Nat.reduceLT, bi_t, bi_f, decide_true, decide_false, Bool.not_false, Bool.not_true, Bool.and_true, Bool.true_and, Bool.and_false, Bool.false_and, oLw_c, oLw_f0, oLw_v0, oLw_f1, oLw_v1, oLw_f2, oLw_v2, oLw_i3, oLw_a1, oLw_n1, oLw_a2, oLw_n2, oLw_a3, oLw_n3, o3, hzl]
  have i0 : lqI t l ι (rz_up ι l 3 0) [] 0 := ⟨(txF.refl t _ ι).up (Or.inl rfl) (by omega), by rw [rz_up_n (by omega)], by rw [rz_up_n (by omega)], by rw [rz_up_n (by omega)]; exact hp, by rw [rz_up_s, rz_u_s]; rfl, fun j hj => by cases hj⟩
  have S := (lq_all (Z := Z) (w := w) (ι0 := ι) hst OO he he6 (4 * e + 5)).1 0 [] 0 _ (d + 34) (by omega) (by omega) (by decide) (by omega) (by omega) i0
  rw [show nI 0 = 0 from rfl] at S
  unfold lwX
  cases x0 : lwP (ι (t + 1)) e (4 * e + 5) 0 0 [] 0 with
  | inr f =>
    rw [x0] at S
    obtain ⟨ι1, q1, q2⟩ := S
    refine ⟨ι1, ?_, q2⟩
    rw [e54]
    simp (decide := true) (maxDischargeDepth := 4) only [g54_0, g54_1, g54_4, g54_7, g54_8, g54_9, g54_12, g54_15, g54_16, g54_19, g54_22, g54_25, g54_26, g54_29, g54_30, rz_k_inl, rz_k_inr, Option.toList_some, Option.toList_none, List.cons_append, List.nil_append, List.append_nil, rz_up_s, rz_u_s, rz_up_n, rz_u_n, ne_eq, not_false_eq_true, not_true_eq_false, Nat.add_assoc, Nat.reduceAdd, reduceIte, Nat.add_eq_left, Nat.left_eq_add, Nat.add_left_cancel_iff, Nat.reduceEqDiff, Nat.add_right_cancel_iff, rz_nb0, rz_nb1, rz_nbb, rz_nbi, rz_isr, rz_zle, if_true, if_false, rz_bi0, rz_bi1, Bool.not_eq_true, Bool.not_eq_false, Bool.true_eq_false, Bool.false_eq_true, rz_ix_lit, cl_lit, Nat.reduceLT, bi_t, bi_f, decide_true, decide_false, Bool.not_false, Bool.not_true, Bool.and_true, Bool.true_and, Bool.and_false, Bool.false_and, oLt_c o1, oLt_f0 o1, oLt_v0 o1, oLt_f1 o1, oLt_v1 o1, oTp_c, oTp_f0, oTp_v0, oTp_i1, oTp_i2, oTp_i3, oTp_i4, oTp_i5, oTp_i6, oTp_a1, oTp_n1, oLw_c, oLw_f0, oLw_v0, oLw_f1, oLw_v1, oLw_f2, oLw_v2, oLw_i3, oLw_a1, oLw_n1, oLw_a2, oLw_n2, oLw_a3, oLw_n3, o1, o2, o3, cl, q1]
  | inl s =>
    rw [x0] at S
    obtain ⟨ι1, q1, i1⟩ := S
    obtain ⟨⟨r1, r2, r3⟩, -⟩ := lwP_pr _ _ _ _ _ _ (by omega) x0
    have ne := tp_needsEnd (Z := Z) (d := d + 32) (w := w) o2 o4 (i1.1.2.1.trans he) i1.2.2.2.1 r2 (by omega)
    rw [i1.by OO] at ne
    rw [rB_l]
    by_cases hs : sk (ι (t + 1)) e s.2 < e
    · rw [if_pos hs]
      rw [show sg (ι (t + 1)) e (sk (ι (t + 1)) e s.2) = ι (t + 1) (sk (ι (t + 1)) e s.2) from if_pos hs, if_neg (hB _)] at ne
      refine ⟨rz_up (rz_up (rz_up ι1 t 2 (nI (sk (ι (t + 1)) e s.2))) t 4 1) t 6 (nI (sk (ι (t + 1)) e s.2)), ?_, i1.no ⟨⟨fun x hx => by rw [rz_up_n hx, rz_up_n hx, rz_up_n hx], ?_, ?_⟩, ?_, ?_⟩⟩
      · rw [e54]
        simp (decide := true) (maxDischargeDepth := 4) only [g54_0, g54_1, g54_4, g54_7, g54_8, g54_9, g54_12, g54_15, g54_16, g54_19, g54_22, g54_25, g54_26, g54_29, g54_30, rz_k_inl, rz_k_inr, Option.toList_some, Option.toList_none, List.cons_append, List.nil_append, List.append_nil, rz_up_s, rz_u_s, rz_up_n, rz_u_n, ne_eq, not_false_eq_true, not_true_eq_false, Nat.add_assoc, Nat.reduceAdd, reduceIte, Nat.add_eq_left, Nat.left_eq_add, Nat.add_left_cancel_iff, Nat.reduceEqDiff, Nat.add_right_cancel_iff, rz_nb0, rz_nb1, rz_nbb, rz_nbi, rz_isr, rz_zle, if_true, if_false, rz_bi0, rz_bi1, Bool.not_eq_true, Bool.not_eq_false, Bool.true_eq_false, Bool.false_eq_true, rz_ix_lit, cl_lit, Nat.reduceLT, bi_t, bi_f, decide_true, decide_false, Bool.not_false, Bool.not_true, Bool.and_true, Bool.true_and, Bool.and_false, Bool.false_and, oLt_c o1, oLt_f0 o1, oLt_v0 o1, oLt_f1 o1, oLt_v1 o1, oTp_c, oTp_f0, oTp_v0, oTp_i1, oTp_i2, oTp_i3, oTp_i4, oTp_i5, oTp_i6, oTp_a1, oTp_n1, oLw_c, oLw_f0, oLw_v0, oLw_f1, oLw_v1, oLw_f2, oLw_v2, oLw_i3, oLw_a1, oLw_n1, oLw_a2, oLw_n2, oLw_a3, oLw_n3, o1, o2, o3, cl, q1, z1, ne]
      · simp [rz_up, rz_u]
      · simp [rz_up, rz_u]
      · simp [rz_up, rz_u]; rfl
      · simp [rz_up, rz_u]
    · rw [if_neg hs]
      rw [show sg (ι (t + 1)) e (sk (ι (t + 1)) e s.2) = -1 from if_neg hs, if_pos rfl] at ne
      refine ⟨rz_up ι1 t 2 (nI (sk (ι (t + 1)) e s.2)), sk (ι (t + 1)) e s.2, ?_, i1.tp OO ⟨⟨fun x hx => by rw [rz_up_n hx], ?_, ?_⟩, ?_, ?_, ?_⟩⟩
      · rw [e54]
        simp (decide := true) (maxDischargeDepth := 4) only [g54_0, g54_1, g54_4, g54_7, g54_8, g54_9, g54_12, g54_15, g54_16, g54_19, g54_22, g54_25, g54_26, g54_29, g54_30, rz_k_inl, rz_k_inr, Option.toList_some, Option.toList_none, List.cons_append, List.nil_append, List.append_nil, rz_up_s, rz_u_s, rz_up_n, rz_u_n, ne_eq, not_false_eq_true, not_true_eq_false, Nat.add_assoc, Nat.reduceAdd, reduceIte, Nat.add_eq_left, Nat.left_eq_add, Nat.add_left_cancel_iff, Nat.reduceEqDiff, Nat.add_right_cancel_iff, rz_nb0, rz_nb1, rz_nbb, rz_nbi, rz_isr, rz_zle, if_true, if_false, rz_bi0, rz_bi1, Bool.not_eq_true, Bool.not_eq_false, Bool.true_eq_false, Bool.false_eq_true, rz_ix_lit, cl_lit, Nat.reduceLT, bi_t, bi_f, decide_true, decide_false, Bool.not_false, Bool.not_true, Bool.and_true, Bool.true_and, Bool.and_false, Bool.false_and, oLt_c o1, oLt_f0 o1, oLt_v0 o1, oLt_f1 o1, oLt_v1 o1, oTp_c, oTp_f0, oTp_v0, oTp_i1, oTp_i2, oTp_i3, oTp_i4, oTp_i5, oTp_i6, oTp_a1, oTp_n1, oLw_c, oLw_f0, oLw_v0, oLw_f1, oLw_v1, oLw_f2, oLw_v2, oLw_i3, oLw_a1, oLw_n1, oLw_a2, oLw_n2, oLw_a3, oLw_n3, o1, o2, o3, cl, q1, z1, ne]
      · rw [rz_up_s, rz_u_n (by omega)]
      · rw [rz_up_s, rz_u_n (by omega)]
      · rw [rz_up_s, rz_u_n (by omega)]
      · rw [rz_up_s, rz_u_n (by omega)]
      · rw [rz_up_s, rz_u_s]
end LAW4
