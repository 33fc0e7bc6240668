/-! the class reads a DUKEDOM -/
section DUK2
variable {Z : rx_Z} {d : Nat} {h : Nat → Option rx_E} {ι ι0 : Nat → Nat → Int32} {w : Nat × Nat} {t a r : Nat}
def dkI (t a r : Nat) (ι0 ι : Nat → Nat → Int32) (cl : Nat) (P : List P3) (dk ld p : Nat) : Prop := txF t (fun x => x = a ∨ rlP r x) ι0 ι ∧ ι t 4 = ι0 t 4 ∧ ι t 6 = ι0 t 6 ∧ ι t 2 = nI p ∧ ι a 1 = nI cl ∧ ι a 2 = nI dk ∧ ι a 3 = nI ld ∧ rl ι r = dkR P
def dkN (t a r : Nat) (ι0 ι : Nat → Nat → Int32) (f : Nat × Nat) : Prop := txF t (fun x => x = a ∨ rlP r x) ι0 ι ∧ ι t 4 = nI f.1 ∧ ι t 6 = nI f.2
def dkO (Z : rx_Z) (h : Nat → Option rx_E) (t a r : Nat) : Prop := oDk h a t ∧ oTp h t ∧ oRl h r ∧ Z.2.1 ≤ t ∧ t + 2 ≤ a ∧ a < r
theorem dkI.tp {cl dk ld p q : Nat} {P : List P3} {ι' : Nat → Nat → Int32} (o : dkO Z h t a r) (i : dkI t a r ι0 ι cl P dk ld p) (k : tpOk t ι ι' q) : dkI t a r ι0 ι' cl P dk ld q := by
  obtain ⟨i1, i2, i3, i4, i5, i6, i7, i8⟩ := i
  obtain ⟨-, -, -, -, o5, o6⟩ := o
  have ea := k.1.1 a (by omega)
  exact ⟨i1.trans (txF.tp k.1), k.2.1.trans i2, k.2.2.1.trans i3, k.2.2.2, by rw [ea]; exact i5, by rw [ea]; exact i6, by rw [ea]; exact i7, (rl_eq (k.1.1 _ (by omega)) (k.1.1 _ (by omega)) (k.1.1 _ (by omega)) (k.1.1 _ (by omega))).trans i8⟩
theorem dkI.no {cl dk ld p : Nat} {P : List P3} {f : Nat × Nat} {ι' : Nat → Nat → Int32} (i : dkI t a r ι0 ι cl P dk ld p) (k : tpNo t ι ι' f) : dkN t a r ι0 ι' f := ⟨i.1.trans (txF.tp k.1), k.2.1, k.2.2⟩
theorem dkI.by {cl dk ld p : Nat} {P : List P3} (o : dkO Z h t a r) (i : dkI t a r ι0 ι cl P dk ld p) : ι (t + 1) = ι0 (t + 1) := by
  obtain ⟨-, -, -, -, o5, o6⟩ := o
  exact i.1.1 _ (by omega) (by unfold rlP; omega)
theorem dk_fits {cl q : Nat} (o : dkO Z h t a r) (hc : ι a 1 = nI cl) (hcl : cl < 10000) (hq : ι t 3 = nI q) (b : Bool) : (b = true ∧ cl < 60 ∧ rz_f Z (d + 2) 24 [.ref a, .int (bi b)] (rz_mk h ι, w) = some (.inl (some (.int 1)), (rz_mk h ι, w))) ∨ (¬ (b = true ∧ cl < 60) ∧ ∃ ι', rz_f Z (d + 2) 24 [.ref a, .int (bi b)] (rz_mk h ι, w) = some (.inl (some (.int 0)), (rz_mk h ι', w)) ∧ tpNo t ι ι' (3, q)) := by
  obtain ⟨o1, o2, o3, o4, o5, o6⟩ := o
  have cc : (nI cl < 60) = (cl < 60) := nI_ltL (by omega) (by decide)
  obtain ⟨ι', g1, g2⟩ := tq_blameT (Z := Z) (d := d) (w := w) (f := 3) o2 o4 hq
  rw [show nI 3 = 3 from rfl] at g1
  cases b with
  | true =>
    by_cases h6 : cl < 60
    · left
      refine ⟨rfl, h6, ?_⟩
      have h6' : (cl < 60) = True := by simp [h6]
      rw [e24]
      simp (decide := true) (maxDischargeDepth := 4) only [g24_0, g24_1, g24_4, g24_5, g24_8, g24_10, g24_13, g24_14, g24_17, g24_18, g24_21, g24_24, g24_25, g24_28, g24_29, rz_k_inl, rz_k_inr, Option.toList_some, Option.toList_none, List.cons_append, List.nil_append, List.append_nil, rz_up_s, rz_u_s, rz_up_n, rz_u_n, ne_eq, not_false_eq_true, not_true_eq_false, Nat.add_assoc, Nat.reduceAdd, reduceIte, Nat.add_eq_left, Nat.left_eq_add, Nat.add_left_cancel_iff, Nat.reduceEqDiff, Nat.add_right_cancel_iff, rz_nb0, rz_nb1, rz_nbb, rz_nbi, rz_isr, rz_zle, if_true, if_false, rz_bi0, rz_bi1, Bool.not_eq_true, Bool.not_eq_false, Bool.true_eq_false, Bool.false_eq_true, rz_ix_lit, cl_lit, Nat.reduceLT, bi_t, bi_f, decide_true, decide_false, Bool.not_false, Bool.not_true, Bool.and_true, Bool.true_and, Bool.and_false, Bool.false_and, oDk_c o1, oDk_f0 o1, oDk_v0 o1, oDk_i1 o1, oDk_i2 o1, oDk_i3 o1, o1, hc, cc, h6']
    · right
      refine ⟨fun z => h6 z.2, ι', ?_, g2⟩
      have h6' : (cl < 60) = False := by simp [h6]
      rw [e24]
      simp (decide := true) (maxDischargeDepth := 4) only [g24_0, g24_1, g24_4, g24_5, g24_8, g24_10, g24_13, g24_14, g24_17, g24_18, g24_21, g24_24, g24_25, g24_28, g24_29, rz_k_inl, rz_k_inr, Option.toList_some, Option.toList_none, List.cons_append, List.nil_append, List.append_nil, rz_up_s, rz_u_s, rz_up_n, rz_u_n, ne_eq, not_false_eq_true, not_true_eq_false, Nat.add_assoc, Nat.reduceAdd, reduceIte, Nat.add_eq_left, Nat.left_eq_add, Nat.add_left_cancel_iff, Nat.reduceEqDiff, Nat.add_right_cancel_iff, rz_nb0, rz_nb1, rz_nbb, rz_nbi, rz_isr, rz_zle, if_true, if_false, rz_bi0, rz_bi1, Bool.not_eq_true, Bool.not_eq_false, Bool.true_eq_false, Bool.false_eq_true, rz_ix_lit, cl_lit, Nat.reduceLT, bi_t, bi_f, decide_true, decide_false, Bool.not_false, Bool.not_true, Bool.and_true, Bool.true_and, Bool.and_false, Bool.false_and, oDk_c o1, oDk_f0 o1, oDk_v0 o1, oDk_i1 o1, oDk_i2 o1, oDk_i3 o1, oTp_c, oTp_f0, oTp_v0, oTp_i1, oTp_i2, oTp_i3, oTp_i4, oTp_i5, oTp_i6, oTp_a1, oTp_n1, o1, o2, hc, cc, h6', g1]
  | false =>
    right
    refine ⟨fun z => absurd z.1 (by decide), ι', ?_, g2⟩
    rw [e24]
    simp (decide := true) (maxDischargeDepth := 4) only [g24_0, g24_1, g24_4, g24_5, g24_8, g24_10, g24_13, g24_14, g24_17, g24_18, g24_21, g24_24, g24_25, g24_28, g24_29, rz_k_inl, rz_k_inr, Option.toList_some, Option.toList_none, List.cons_append, List.nil_append, List.append_nil, rz_up_s, rz_u_s, rz_up_n, rz_u_n, ne_eq, not_false_eq_true, not_true_eq_false, Nat.add_assoc, Nat.reduceAdd, reduceIte, Nat.add_eq_left, Nat.left_eq_add, Nat.add_left_cancel_iff, Nat.reduceEqDiff, Nat.add_right_cancel_iff, rz_nb0, rz_nb1, rz_nbb, rz_nbi, rz_isr, rz_zle, if_true, if_false, rz_bi0, rz_bi1, Bool.not_eq_true, Bool.not_eq_false, Bool.true_eq_false, Bool.false_eq_true, rz_ix_lit, cl_lit, Nat.reduceLT, bi_t, bi_f, decide_true, decide_false, Bool.not_false, Bool.not_true, Bool.and_true, Bool.true_and, Bool.and_false, Bool.false_and, oDk_c o1, oDk_f0 o1, oDk_v0 o1, oDk_i1 o1, oDk_i2 o1, oDk_i3 o1, oTp_c, oTp_f0, oTp_v0, oTp_i1, oTp_i2, oTp_i3, oTp_i4, oTp_i5, oTp_i6, oTp_a1, oTp_n1, o1, o2, g1]
theorem dk_person {e cl dk ld p : Nat} {P : List P3} (o : dkO Z h t a r) (he : ι0 t 1 = nI e) (he6 : e ≤ 600) (hpe : p ≤ e) (hP : P.length < 8) (i : dkI t a r ι0 ι cl P dk ld p) (hR : (dkR P) 57 = nI P.length) : match rB (nmN (ι0 (t + 1)) e 9 p) (fun x => rB (nmN (ι0 (t + 1)) e 9 x.2) (fun y => rB (nmN (ι0 (t + 1)) e 9 y.2) (fun z => (.inl ((P ++ [(x.1, y.1, z.1)], dk, ld), z.2) : ((List P3 × Nat × Nat) × Nat) ⊕ (Nat × Nat))))) with
    | .inl s => s.2 ≤ e ∧ ∃ ι', rz_f Z (d + 4) 25 [.ref a, .ref r] (rz_mk h ι, w) = some (.inl (some (.int 1)), (rz_mk h ι', w)) ∧ dkI t a r ι0 ι' cl s.1.1 s.1.2.1 s.1.2.2 s.2
    | .inr f => ∃ ι', rz_f Z (d + 4) 25 [.ref a, .ref r] (rz_mk h ι, w) = some (.inl (some (.int 0)), (rz_mk h ι', w)) ∧ dkN t a r ι0 ι' f := by
  have oo := o
  obtain ⟨o1, o2, o3, o4, o5, o6⟩ := o
  have e1 : ι t 1 = nI e := i.1.2.1.trans he
  have eB := i.by oo
  have m9 : (9 : Int32) < 1000 := by decide
  cases n1 : nmN (ι0 (t + 1)) e 9 p with
  | inr f =>
    obtain ⟨ι1, g1, g2⟩ := tp_num_no (Z := Z) (d := d) (w := w) o2 o4 e1 i.2.2.2.1 hpe he6 (by rw [eB]; exact nmN_no n1)
    refine ⟨ι1, ?_, i.no g2⟩
    rw [e25]
    simp (decide := true) (maxDischargeDepth := 4) only [g25_0, g25_1, g25_4, g25_6, g25_9, g25_10, g25_11, g25_12, g25_15, g25_16, g25_19, g25_20, g25_23, g25_25, g25_28, g25_29, g25_30, g25_31, g25_34, g25_35, g25_38, g25_39, g25_42, g25_44, g25_47, g25_49, g25_51, g25_52, g25_55, g25_56, g25_57, g25_58, g25_60, g25_62, g25_65, g25_68, g25_69, g25_72, g25_73, rz_k_inl, rz_k_inr, Option.toList_some, Option.toList_none, List.cons_append, List.nil_append, List.append_nil, rz_up_s, rz_u_s, rz_up_n, rz_u_n, ne_eq, not_false_eq_true, not_true_eq_false, Nat.add_assoc, Nat.reduceAdd, reduceIte, Nat.add_eq_left, Nat.left_eq_add, Nat.add_left_cancel_iff, Nat.reduceEqDiff, Nat.add_right_cancel_iff, rz_nb0, rz_nb1, rz_nbb, rz_nbi, rz_isr, rz_zle, if_true, if_false, rz_bi0, rz_bi1, Bool.not_eq_true, Bool.not_eq_false, Bool.true_eq_false, Bool.false_eq_true, rz_ix_lit, cl_lit, Nat.reduceLT, bi_t, bi_f, decide_true, decide_false, Bool.not_false, Bool.not_true, Bool.and_true, Bool.true_and, Bool.and_false, Bool.false_and, oDk_c o1, oDk_f0 o1, oDk_v0 o1, oDk_i1 o1, oDk_i2 o1, oDk_i3 o1, oTp_c, oTp_f0, oTp_v0, oTp_i1, oTp_i2, oTp_i3, oTp_i4, oTp_i5, oTp_i6, oTp_a1, oTp_n1, o1, o2, g1]
  | inl x =>
    obtain ⟨x, p1⟩ := x
    obtain ⟨a1, a2, a3, a4, a5⟩ := nmN_ok hpe n1
    obtain ⟨ι1, g1, g2⟩ := tp_num_ok (Z := Z) (d := d) (w := w) o2 o4 e1 i.2.2.2.1 hpe he6 (by rw [eB]; exact a1)
    have i1 := i.tp oo g2
    have e11 : ι1 t 1 = nI e := i1.1.2.1.trans he
    have eB1 := i1.by oo
    have x1 := nI_m1 (show x < 2147483648 by omega)
    show match rB (nmN (ι0 (t + 1)) e 9 p1) (fun y => rB (nmN (ι0 (t + 1)) e 9 y.2) (fun z => (.inl ((P ++ [(x, y.1, z.1)], dk, ld), z.2) : ((List P3 × Nat × Nat) × Nat) ⊕ (Nat × Nat)))) with
      | .inl s => s.2 ≤ e ∧ ∃ ι', rz_f Z (d + 4) 25 [.ref a, .ref r] (rz_mk h ι, w) = some (.inl (some (.int 1)), (rz_mk h ι', w)) ∧ dkI t a r ι0 ι' cl s.1.1 s.1.2.1 s.1.2.2 s.2
      | .inr f => ∃ ι', rz_f Z (d + 4) 25 [.ref a, .ref r] (rz_mk h ι, w) = some (.inl (some (.int 0)), (rz_mk h ι', w)) ∧ dkN t a r ι0 ι' f
    cases n2 : nmN (ι0 (t + 1)) e 9 p1 with
    | inr f =>
      obtain ⟨ι2, k1, k2⟩ := tp_num_no (Z := Z) (d := d) (w := w) o2 o4 e11 i1.2.2.2.1 a5 he6 (by rw [eB1]; exact nmN_no n2)
      refine ⟨ι2, ?_, i1.no k2⟩
      rw [e25]
      simp (decide := true) (maxDischargeDepth := 4) only [g25_0, g25_1, g25_4, g25_6, g25_9, g25_10, g25_11, g25_12, g25_15, g25_16, g25_19, g25_20, g25_23, g25_25, g25_28, g25_29, g25_30, g25_31, g25_34, g25_35, g25_38, g25_39, g25_42, g25_44, g25_47, g25_49, g25_51, g25_52, g25_55, g25_56, g25_57, g25_58, g25_60, g25_62, g25_65, g25_68, g25_69, g25_72, g25_73, rz_k_inl, rz_k_inr, Option.toList_some, Option.toList_none, List.cons_append, List.nil_append, List.append_nil, rz_up_s, rz_u_s, rz_up_n, rz_u_n, ne_eq, not_false_eq_true, not_true_eq_false, Nat.add_assoc, Nat.reduceAdd, reduceIte, Nat.add_eq_left, Nat.left_eq_add, Nat.add_left_cancel_iff, Nat.reduceEqDiff, Nat.add_right_cancel_iff, rz_nb0, rz_nb1, rz_nbb, rz_nbi, rz_isr, rz_zle, if_true, if_false, rz_bi0, rz_bi1, Bool.not_eq_true, Bool.not_eq_false, Bool.true_eq_false, Bool.false_eq_true, rz_ix_lit, cl_lit, Nat.reduceLT, bi_t, bi_f, decide_true, decide_false, Bool.not_false, Bool.not_true, Bool.and_true, Bool.true_and, Bool.and_false, Bool.false_and, oDk_c o1, oDk_f0 o1, oDk_v0 o1, oDk_i1 o1, oDk_i2 o1, oDk_i3 o1, oTp_c, oTp_f0, oTp_v0, oTp_i1, oTp_i2, oTp_i3, oTp_i4, oTp_i5, oTp_i6, oTp_a1, oTp_n1, o1, o2, g1, x1, k1]
    | inl y =>
      obtain ⟨y, p2⟩ := y
      obtain ⟨b1, b2, b3, b4, b5⟩ := nmN_ok a5 n2
      obtain ⟨ι2, k1, k2⟩ := tp_num_ok (Z := Z) (d := d) (w := w) o2 o4 e11 i1.2.2.2.1 a5 he6 (by rw [eB1]; exact b1)
      have i2 := i1.tp oo k2
      have e12 : ι2 t 1 = nI e := i2.1.2.1.trans he
      have eB2 := i2.by oo
      have y1 := nI_m1 (show y < 2147483648 by omega)
      show match rB (nmN (ι0 (t + 1)) e 9 p2) (fun z => (.inl ((P ++ [(x, y, z.1)], dk, ld), z.2) : ((List P3 × Nat × Nat) × Nat) ⊕ (Nat × Nat))) with
        | .inl s => s.2 ≤ e ∧ ∃ ι', rz_f Z (d + 4) 25 [.ref a, .ref r] (rz_mk h ι, w) = some (.inl (some (.int 1)), (rz_mk h ι', w)) ∧ dkI t a r ι0 ι' cl s.1.1 s.1.2.1 s.1.2.2 s.2
        | .inr f => ∃ ι', rz_f Z (d + 4) 25 [.ref a, .ref r] (rz_mk h ι, w) = some (.inl (some (.int 0)), (rz_mk h ι', w)) ∧ dkN t a r ι0 ι' f
      cases n3 : nmN (ι0 (t + 1)) e 9 p2 with
      | inr f =>
        obtain ⟨ι3, l1, l2⟩ := tp_num_no (Z := Z) (d := d) (w := w) o2 o4 e12 i2.2.2.2.1 b5 he6 (by rw [eB2]; exact nmN_no n3)
        refine ⟨ι3, ?_, i2.no l2⟩
        rw [e25]
        simp (decide := true) (maxDischargeDepth := 4) only [g25_0, g25_1, g25_4, g25_6, g25_9, g25_10, g25_11, g25_12, g25_15, g25_16, g25_19, g25_20, g25_23, g25_25, g25_28, g25_29, g25_30, g25_31, g25_34, g25_35, g25_38, g25_39, g25_42, g25_44, g25_47, g25_49, g25_51, g25_52, g25_55, g25_56, g25_57, g25_58, g25_60, g25_62, g25_65, g25_68, g25_69, g25_72, g25_73, rz_k_inl, rz_k_inr, Option.toList_some, Option.toList_none, List.cons_append, List.nil_append, List.append_nil, rz_up_s, rz_u_s, rz_up_n, rz_u_n, ne_eq, not_false_eq_true, not_true_eq_false, Nat.add_assoc, Nat.reduceAdd, reduceIte, Nat.add_eq_left, Nat.left_eq_add, Nat.add_left_cancel_iff, Nat.reduceEqDiff, Nat.add_right_cancel_iff, rz_nb0, rz_nb1, rz_nbb, rz_nbi, rz_isr, rz_zle, if_true, if_false, rz_bi0, rz_bi1, Bool.not_eq_true, Bool.not_eq_false, Bool.true_eq_false, Bool.false_eq_true, rz_ix_lit, cl_lit, Nat.reduceLT, bi_t, bi_f, decide_true, decide_false, Bool.not_false, Bool.not_true, Bool.and_true, Bool.true_and, Bool.and_false, Bool.false_and, oDk_c o1, oDk_f0 o1, oDk_v0 o1, oDk_i1 o1, oDk_i2 o1, oDk_i3 o1, oTp_c, oTp_f0, oTp_v0, oTp_i1, oTp_i2, oTp_i3, oTp_i4, oTp_i5, oTp_i6, oTp_a1, oTp_n1, o1, o2, g1, x1, k1, y1, l1]
      | inl z =>
        obtain ⟨z, p3⟩ := z
        obtain ⟨c1, c2, c3, c4, c5⟩ := nmN_ok b5 n3
        obtain ⟨ι3, l1, l2⟩ := tp_num_ok (Z := Z) (d := d) (w := w) o2 o4 e12 i2.2.2.2.1 b5 he6 (by rw [eB2]; exact c1)
        have i3 := i2.tp oo l2
        have z1 := nI_m1 (show z < 2147483648 by omega)
        obtain ⟨j1, j2, j3, j4, j5, j6, j7, j8⟩ := i3
        obtain ⟨ι4, m1, m2, m3⟩ := rm_add (Z := Z) (d := d + 2) (w := w) (ι := ι3) o3 (by omega) (m := P.length) (by rw [j8]; exact hR) hP (nI x) (nI y) (nI z) 20
        have na : ¬ rlP r a := by unfold rlP; omega
        have nt : ¬ rlP r t := by unfold rlP; omega
        refine ⟨c5, ι4, ?_, ?_⟩
        · rw [e25]
          simp (decide := true) (maxDischargeDepth := 4) only [g25_0, g25_1, g25_4, g25_6, g25_9, g25_10, g25_11, g25_12, g25_15, g25_16, g25_19, g25_20, g25_23, g25_25, g25_28, g25_29, g25_30, g25_31, g25_34, g25_35, g25_38, g25_39, g25_42, g25_44, g25_47, g25_49, g25_51, g25_52, g25_55, g25_56, g25_57, g25_58, g25_60, g25_62, g25_65, g25_68, g25_69, g25_72, g25_73, rz_k_inl, rz_k_inr, Option.toList_some, Option.toList_none, List.cons_append, List.nil_append, List.append_nil, rz_up_s, rz_u_s, rz_up_n, rz_u_n, ne_eq, not_false_eq_true, not_true_eq_false, Nat.add_assoc, Nat.reduceAdd, reduceIte, Nat.add_eq_left, Nat.left_eq_add, Nat.add_left_cancel_iff, Nat.reduceEqDiff, Nat.add_right_cancel_iff, rz_nb0, rz_nb1, rz_nbb, rz_nbi, rz_isr, rz_zle, if_true, if_false, rz_bi0, rz_bi1, Bool.not_eq_true, Bool.not_eq_false, Bool.true_eq_false, Bool.false_eq_true, rz_ix_lit, cl_lit, Nat.reduceLT, bi_t, bi_f, decide_true, decide_false, Bool.not_false, Bool.not_true, Bool.and_true, Bool.true_and, Bool.and_false, Bool.false_and, oDk_c o1, oDk_f0 o1, oDk_v0 o1, oDk_i1 o1, oDk_i2 o1, oDk_i3 o1, oTp_c, oTp_f0, oTp_v0, oTp_i1, oTp_i2, oTp_i3, oTp_i4, oTp_i5, oTp_i6, oTp_a1, oTp_n1, oRl_c, oRl_f0, oRl_v0, oRl_f1, oRl_v1, oRl_f2, oRl_v2, oRl_i3, oRl_i4, oRl_i5, oRl_i6, oRl_i7, oRl_i8, oRl_a1, oRl_n1, oRl_a2, oRl_n2, oRl_a3, oRl_n3, o1, o2, o3, g1, x1, k1, y1, l1, z1, m1]
        · exact ⟨j1.fr m3 (fun x hx => Or.inr hx) nt, by rw [m3 t nt]; exact j2, by rw [m3 t nt]; exact j3, by rw [m3 t nt]; exact j4, by rw [m3 a na]; exact j5, by rw [m3 a na]; exact j6, by rw [m3 a na]; exact j7, by rw [m2, j8, dkR_app]⟩
theorem dk_duke {e cl dk ld p : Nat} {P : List P3} (o : dkO Z h t a r) (he : ι0 t 1 = nI e) (he6 : e ≤ 600) (hpe : p ≤ e) (i : dkI t a r ι0 ι cl P dk ld p) (hR : (dkR P) 57 = nI P.length) : match rB (nmN (ι0 (t + 1)) e (nI P.length - 1) p) (fun x => (.inl ((P, x.1, ld), x.2) : ((List P3 × Nat × Nat) × Nat) ⊕ (Nat × Nat))) with
    | .inl s => s.2 ≤ e ∧ ∃ ι', rz_f Z (d + 4) 26 [.ref a, .ref r] (rz_mk h ι, w) = some (.inl (some (.int 1)), (rz_mk h ι', w)) ∧ dkI t a r ι0 ι' cl s.1.1 s.1.2.1 s.1.2.2 s.2
    | .inr f => ∃ ι', rz_f Z (d + 4) 26 [.ref a, .ref r] (rz_mk h ι, w) = some (.inl (some (.int 0)), (rz_mk h ι', w)) ∧ dkN t a r ι0 ι' f := by
  have oo := o
  obtain ⟨o1, o2, o3, o4, o5, o6⟩ := o
  have e1 : ι t 1 = nI e := i.1.2.1.trans he
  have eB := i.by oo
  have r3 : ι r 3 = nI P.length := by
    have : rl ι r 57 = nI P.length := by rw [i.2.2.2.2.2.2.2]; exact hR
    exact this
  have hza : Z.2.1 ≤ a := by omega
  cases n1 : nmN (ι0 (t + 1)) e (nI P.length - 1) p with
  | inr f =>
    obtain ⟨ι1, g1, g2⟩ := tp_num_no (Z := Z) (d := d) (w := w) o2 o4 e1 i.2.2.2.1 hpe he6 (by rw [eB]; exact nmN_no n1)
    have i1 := i.no g2
    refine ⟨rz_up ι1 a 2 (ι1 a 2), ?_, ?_⟩
    · rw [e26]
      simp (decide := true) (maxDischargeDepth := 4) only [g26_0, g26_1, g26_4, g26_5, g26_8, g26_9, g26_10, g26_13, g26_14, g26_15, g26_16, g26_17, g26_20, g26_21, g26_24, g26_27, g26_28, g26_31, g26_32, g26_33, g26_36, g26_37, g26_40, g26_41, rz_k_inl, rz_k_inr, Option.toList_some, Option.toList_none, List.cons_append, List.nil_append, List.append_nil, rz_up_s, rz_u_s, rz_up_n, rz_u_n, ne_eq, not_false_eq_true, not_true_eq_false, Nat.add_assoc, Nat.reduceAdd, reduceIte, Nat.add_eq_left, Nat.left_eq_add, Nat.add_left_cancel_iff, Nat.reduceEqDiff, Nat.add_right_cancel_iff, rz_nb0, rz_nb1, rz_nbb, rz_nbi, rz_isr, rz_zle, if_true, if_false, rz_bi0, rz_bi1, Bool.not_eq_true, Bool.not_eq_false, Bool.true_eq_false, Bool.false_eq_true, rz_ix_lit, cl_lit, Nat.reduceLT, bi_t, bi_f, decide_true, decide_false, Bool.not_false, Bool.not_true, Bool.and_true, Bool.true_and, Bool.and_false, Bool.false_and, oDk_c o1, oDk_f0 o1, oDk_v0 o1, oDk_i1 o1, oDk_i2 o1, oDk_i3 o1, oTp_c, oTp_f0, oTp_v0, oTp_i1, oTp_i2, oTp_i3, oTp_i4, oTp_i5, oTp_i6, oTp_a1, oTp_n1, oRl_c, oRl_f0, oRl_v0, oRl_f1, oRl_v1, oRl_f2, oRl_v2, oRl_i3, oRl_i4, oRl_i5, oRl_i6, oRl_i7, oRl_i8, oRl_a1, oRl_n1, oRl_a2, oRl_n2, oRl_a3, oRl_n3, o1, o2, o3, hza, r3, g1]
    · rw [rz_up_id rfl]; exact i1
  | inl x =>
    obtain ⟨x, p1⟩ := x
    obtain ⟨a1, a2, a3, a4, a5⟩ := nmN_ok hpe n1
    obtain ⟨ι1, g1, g2⟩ := tp_num_ok (Z := Z) (d := d) (w := w) o2 o4 e1 i.2.2.2.1 hpe he6 (by rw [eB]; exact a1)
    obtain ⟨j1, j2, j3, j4, j5, j6, j7, j8⟩ := i.tp oo g2
    have x1 := nI_m1 (show x < 2147483648 by omega)
    refine ⟨a5, rz_up ι1 a 2 (nI x), ?_, ?_⟩
    · rw [e26]
      simp (decide := true) (maxDischargeDepth := 4) only [g26_0, g26_1, g26_4, g26_5, g26_8, g26_9, g26_10, g26_13, g26_14, g26_15, g26_16, g26_17, g26_20, g26_21, g26_24, g26_27, g26_28, g26_31, g26_32, g26_33, g26_36, g26_37, g26_40, g26_41, rz_k_inl, rz_k_inr, Option.toList_some, Option.toList_none, List.cons_append, List.nil_append, List.append_nil, rz_up_s, rz_u_s, rz_up_n, rz_u_n, ne_eq, not_false_eq_true, not_true_eq_false, Nat.add_assoc, Nat.reduceAdd, reduceIte, Nat.add_eq_left, Nat.left_eq_add, Nat.add_left_cancel_iff, Nat.reduceEqDiff, Nat.add_right_cancel_iff, rz_nb0, rz_nb1, rz_nbb, rz_nbi, rz_isr, rz_zle, if_true, if_false, rz_bi0, rz_bi1, Bool.not_eq_true, Bool.not_eq_false, Bool.true_eq_false, Bool.false_eq_true, rz_ix_lit, cl_lit, Nat.reduceLT, bi_t, bi_f, decide_true, decide_false, Bool.not_false, Bool.not_true, Bool.and_true, Bool.true_and, Bool.and_false, Bool.false_and, oDk_c o1, oDk_f0 o1, oDk_v0 o1, oDk_i1 o1, oDk_i2 o1, oDk_i3 o1, oTp_c, oTp_f0, oTp_v0, oTp_i1, oTp_i2, oTp_i3, oTp_i4, oTp_i5, oTp_i6, oTp_a1, oTp_n1, oRl_c, oRl_f0, oRl_v0, oRl_f1, oRl_v1, oRl_f2, oRl_v2, oRl_i3, oRl_i4, oRl_i5, oRl_i6, oRl_i7, oRl_i8, oRl_a1, oRl_n1, oRl_a2, oRl_n2, oRl_a3, oRl_n3, o1, o2, o3, hza, r3, g1, x1]
    · have ta : t ≠ a := by omega
      refine ⟨j1.up (Or.inl rfl) (by omega), by rw [rz_up_n ta]; exact j2, by rw [rz_up_n ta]; exact j3, by rw [rz_up_n ta]; exact j4, by rw [rz_up_s, rz_u_n (by omega)]; exact j5, by rw [rz_up_s, rz_u_s], by rw [rz_up_s, rz_u_n (by omega)]; exact j7, (rl_eq (rz_up_n (by omega)) (rz_up_n (by omega)) (rz_up_n (by omega)) (rz_up_n (by omega))).trans j8⟩
theorem dk_land {e cl dk ld p : Nat} {P : List P3} (o : dkO Z h t a r) (he : ι0 t 1 = nI e) (he6 : e ≤ 600) (hpe : p ≤ e) (i : dkI t a r ι0 ι cl P dk ld p) : match rB (nmN (ι0 (t + 1)) e 99 p) (fun x => (.inl ((P, dk, x.1), x.2) : ((List P3 × Nat × Nat) × Nat) ⊕ (Nat × Nat))) with
    | .inl s => s.2 ≤ e ∧ ∃ ι', rz_f Z (d + 4) 27 [.ref a] (rz_mk h ι, w) = some (.inl (some (.int 1)), (rz_mk h ι', w)) ∧ dkI t a r ι0 ι' cl s.1.1 s.1.2.1 s.1.2.2 s.2
    | .inr f => ∃ ι', rz_f Z (d + 4) 27 [.ref a] (rz_mk h ι, w) = some (.inl (some (.int 0)), (rz_mk h ι', w)) ∧ dkN t a r ι0 ι' f := by
  have oo := o
  obtain ⟨o1, o2, o3, o4, o5, o6⟩ := o
  have e1 : ι t 1 = nI e := i.1.2.1.trans he
  have eB := i.by oo
  have hza : Z.2.1 ≤ a := by omega
  cases n1 : nmN (ι0 (t + 1)) e 99 p with
  | inr f =>
    obtain ⟨ι1, g1, g2⟩ := tp_num_no (Z := Z) (d := d) (w := w) o2 o4 e1 i.2.2.2.1 hpe he6 (by rw [eB]; exact nmN_no n1)
    have i1 := i.no g2
    refine ⟨rz_up ι1 a 3 (ι1 a 3), ?_, ?_⟩
    · rw [e27]
      simp (decide := true) (maxDischargeDepth := 4) only [g27_0, g27_1, g27_4, g27_6, g27_9, g27_10, g27_11, g27_12, g27_13, g27_16, g27_17, g27_20, g27_23, g27_24, g27_27, g27_28, g27_29, g27_32, g27_33, g27_36, g27_37, rz_k_inl, rz_k_inr, Option.toList_some, Option.toList_none, List.cons_append, List.nil_append, List.append_nil, rz_up_s, rz_u_s, rz_up_n, rz_u_n, ne_eq, not_false_eq_true, not_true_eq_false, Nat.add_assoc, Nat.reduceAdd, reduceIte, Nat.add_eq_left, Nat.left_eq_add, Nat.add_left_cancel_iff, Nat.reduceEqDiff, Nat.add_right_cancel_iff, rz_nb0, rz_nb1, rz_nbb, rz_nbi, rz_isr, rz_zle, if_true, if_false, rz_bi0, rz_bi1, Bool.not_eq_true, Bool.not_eq_false, Bool.true_eq_false, Bool.false_eq_true, rz_ix_lit, cl_lit, Nat.reduceLT, bi_t, bi_f, decide_true, decide_false, Bool.not_false, Bool.not_true, Bool.and_true, Bool.true_and, Bool.and_false, Bool.false_and, oDk_c o1, oDk_f0 o1, oDk_v0 o1, oDk_i1 o1, oDk_i2 o1, oDk_i3 o1, oTp_c, oTp_f0, oTp_v0, oTp_i1, oTp_i2, oTp_i3, oTp_i4, oTp_i5, oTp_i6, oTp_a1, oTp_n1, o1, o2, hza, g1]
    · rw [rz_up_id rfl]; exact i1
  | inl x =>
    obtain ⟨x, p1⟩ := x
    obtain ⟨a1, a2, a3, a4, a5⟩ := nmN_ok hpe n1
    obtain ⟨ι1, g1, g2⟩ := tp_num_ok (Z := Z) (d := d) (w := w) o2 o4 e1 i.2.2.2.1 hpe he6 (by rw [eB]; exact a1)
    obtain ⟨j1, j2, j3, j4, j5, j6, j7, j8⟩ := i.tp oo g2
    have x1 := nI_m1 (show x < 2147483648 by omega)
    refine ⟨a5, rz_up ι1 a 3 (nI x), ?_, ?_⟩
    · rw [e27]
      simp (decide := true) (maxDischargeDepth := 4) only [g27_0, g27_1, g27_4, g27_6, g27_9, g27_10, g27_11, g27_12, g27_13, g27_16, g27_17, g27_20, g27_23, g27_24, g27_27, g27_28, g27_29, g27_32, g27_33, g27_36, g27_37, rz_k_inl, rz_k_inr, Option.toList_some, Option.toList_none, List.cons_append, List.nil_append, List.append_nil, rz_up_s, rz_u_s, rz_up_n, rz_u_n, ne_eq, not_false_eq_true, not_true_eq_false, Nat.add_assoc, Nat.reduceAdd, reduceIte, Nat.add_eq_left, Nat.left_eq_add, Nat.add_left_cancel_iff, Nat.reduceEqDiff, Nat.add_right_cancel_iff, rz_nb0, rz_nb1, rz_nbb, rz_nbi, rz_isr, rz_zle, if_true, if_false, rz_bi0, rz_bi1, Bool.not_eq_true, Bool.not_eq_false, Bool.true_eq_false, Bool.false_eq_true, rz_ix_lit, cl_lit, Nat.reduceLT, bi_t, bi_f, decide_true, decide_false, Bool.not_false, Bool.not_true, Bool.and_true, Bool.true_and, Bool.and_false, Bool.false_and, oDk_c o1, oDk_f0 o1, oDk_v0 o1, oDk_i1 o1, oDk_i2 o1, oDk_i3 o1, oTp_c, oTp_f0, oTp_v0, oTp_i1, oTp_i2, oTp_i3, oTp_i4, oTp_i5, oTp_i6, oTp_a1, oTp_n1, o1, o2, hza, g1, x1]
    · have ta : t ≠ a := by omega
      refine ⟨j1.up (Or.inl rfl) (by omega), by rw [rz_up_n ta]; exact j2, by rw [rz_up_n ta]; exact j3, by rw [rz_up_n ta]; exact j4, by rw [rz_up_s, rz_u_n (by omega)]; exact j5, by rw [rz_up_s, rz_u_n (by omega)]; exact j6, by rw [rz_up_s, rz_u_s], (rl_eq (rz_up_n (by omega)) (rz_up_n (by omega)) (rz_up_n (by omega)) (rz_up_n (by omega))).trans j8⟩
theorem dk_clause {e cl dk ld p : Nat} {P : List P3} (hst : stH Z h) (o : dkO Z h t a r) (he : ι0 t 1 = nI e) (he6 : e ≤ 600) (hpe : p ≤ e) (hcl : cl < 10000) (hP8 : P.length ≤ 8) (i : dkI t a r ι0 ι cl P dk ld p) (hR : (dkR P) 57 = nI P.length) : match dkC0 (ι0 (t + 1)) e cl P dk ld p with
    | .inl s => s.2 ≤ e ∧ ∃ ι', rz_f Z (d + 6) 23 [.ref a, .ref r] (rz_mk h ι, w) = some (.inl (some (.int 1)), (rz_mk h ι', w)) ∧ dkI t a r ι0 ι' cl s.1.1 s.1.2.1 s.1.2.2 s.2
    | .inr f => ∃ ι', rz_f Z (d + 6) 23 [.ref a, .ref r] (rz_mk h ι, w) = some (.inl (some (.int 0)), (rz_mk h ι', w)) ∧ dkN t a r ι0 ι' f := by
  have oo := o
  obtain ⟨o1, o2, o3, o4, o5, o6⟩ := o
  have e1 : ι t 1 = nI e := i.1.2.1.trans he
  have eB := i.by oo
  obtain ⟨ι1, g1, g2, g3⟩ := tq_word (Z := Z) (d := d + 3) (w := w) o2 o4 e1 i.2.2.2.1 hpe he6
  rw [eB] at g2 g3
  have i1 := i.tp oo g2
  have e11 : ι1 t 1 = nI e := i1.1.2.1.trans he
  have eB1 := i1.by oo
  obtain ⟨w1, w2⟩ := wdR_le (B := ι0 (t + 1)) hpe
  have r3 : ι1 r 3 = nI P.length := by
    have : rl ι1 r 57 = nI P.length := by rw [i1.2.2.2.2.2.2.2]; exact hR
    exact this
  obtain ⟨v0, s0⟩ := hst 0 (by omega)
  obtain ⟨v1, s1⟩ := hst 1 (by omega)
  obtain ⟨v2, s2⟩ := hst 2 (by omega)
  have W0 := tp_wordIs (Z := Z) (d := d) (w := w) o2 s0 e11 i1.2.2.2.1 g3 w1 w2 he6
  have W1 := tp_wordIs (Z := Z) (d := d) (w := w) o2 s1 e11 i1.2.2.2.1 g3 w1 w2 he6
  have W2 := tp_wordIs (Z := Z) (d := d) (w := w) o2 s2 e11 i1.2.2.2.1 g3 w1 w2 he6
  rw [eB1, Nat.zero_add] at W0
  rw [eB1] at W1 W2
  have a0 : rz_ar h (Z.2.2.2 1) 9 := ⟨_, _, s0.1⟩
  have a1 : rz_ar h (Z.2.2.2 2) 9 := ⟨_, _, s1.1⟩
  have a2 : rz_ar h (Z.2.2.2 3) 9 := ⟨_, _, s2.1⟩
  have cP : (nI P.length < 8) = (P.length < 8) := nI_ltL (by omega) (by decide)
  unfold dkC0
  cases c0 : wdIs (ι0 (t + 1)) (sk (ι0 (t + 1)) e p) (wdR (ι0 (t + 1)) e p) (WD 0) with
  | true =>
    rw [c0] at W0
    rw [if_pos rfl]
    by_cases hP : P.length < 8
    · have hP' : (P.length < 8) = True := by simp [hP]
      rcases dk_fits (Z := Z) (d := d + 3) (w := w) oo i1.2.2.2.2.1 hcl g3 true with ⟨-, f2, f3⟩ | ⟨f1, ι2, f2, f3⟩
      · rw [bi_t] at f3
        rw [if_pos ⟨hP, f2⟩]
        have pc := dk_person (Z := Z) (d := d + 1) (w := w) oo he he6 w2 hP i1 hR
        revert pc
        generalize rB (nmN (ι0 (t + 1)) e 9 (wdR (ι0 (t + 1)) e p)) (fun x => rB (nmN (ι0 (t + 1)) e 9 x.2) (fun y => rB (nmN (ι0 (t + 1)) e 9 y.2) (fun z => (.inl ((P ++ [(x.1, y.1, z.1)], dk, ld), z.2) : ((List P3 × Nat × Nat) × Nat) ⊕ (Nat × Nat))))) = X
        intro pc
        cases X with
        | inl s =>
          obtain ⟨q1, ι2, q2, q3⟩ := pc
          refine ⟨q1, ι2, ?_, q3⟩
          rw [e23]
          simp (decide := true) (maxDischargeDepth := 4) only [g23_0, g23_1, g23_4, g23_7, g23_8, g23_11, g23_13, g23_16, g23_19, g23_20, g23_21, g23_24, g23_26, g23_29, g23_30, g23_33, g23_34, g23_37, g23_40, g23_41, g23_42, g23_45, g23_48, g23_49, g23_52, g23_53, g23_54, g23_55, g23_58, g23_60, g23_63, g23_66, g23_67, g23_68, g23_71, g23_74, g23_75, g23_76, g23_79, g23_82, g23_83, g23_86, g23_87, g23_88, g23_89, g23_92, g23_94, g23_97, g23_100, g23_101, g23_102, g23_105, g23_108, g23_109, g23_112, g23_115, g23_116, g23_119, g23_120, g23_121, g23_122, g23_125, g23_126, g23_129, rz_k_inl, rz_k_inr, Option.toList_some, Option.toList_none, List.cons_append, List.nil_append, List.append_nil, rz_up_s, rz_u_s, rz_up_n, rz_u_n, ne_eq, not_false_eq_true, not_true_eq_false, Nat.add_assoc, Nat.reduceAdd, reduceIte, Nat.add_eq_left, Nat.left_eq_add, Nat.add_left_cancel_iff, Nat.reduceEqDiff, Nat.add_right_cancel_iff, rz_nb0, rz_nb1, rz_nbb, rz_nbi, rz_isr, rz_zle, if_true, if_false, rz_bi0, rz_bi1, Bool.not_eq_true, Bool.not_eq_false, Bool.true_eq_false, Bool.false_eq_true, rz_ix_lit, cl_lit, Nat.reduceLT, bi_t, bi_f, decide_true, decide_false, Bool.not_false, Bool.not_true, Bool.and_true, Bool.true_and, Bool.and_false, Bool.false_and, oDk_c o1, oDk_f0 o1, oDk_v0 o1, oDk_i1 o1, oDk_i2 o1, oDk_i3 o1, oTp_c, oTp_f0, oTp_v0, oTp_i1, oTp_i2, oTp_i3, oTp_i4, oTp_i5, oTp_i6, oTp_a1, oTp_n1, oRl_c, oRl_f0, oRl_v0, oRl_f1, oRl_v1, oRl_f2, oRl_v2, oRl_i3, oRl_i4, oRl_i5, oRl_i6, oRl_i7, oRl_i8, oRl_a1, oRl_n1, oRl_a2, oRl_n2, oRl_a3, oRl_n3, o1, o2, o3, g1, W0, r3, cP, hP', f3, q2]
        | inr f =>
          obtain ⟨ι2, q2, q3⟩ := pc
          refine ⟨ι2, ?_, q3⟩
          rw [e23]
          simp (decide := true) (maxDischargeDepth := 4) only [g23_0, g23_1, g23_4, g23_7, g23_8, g23_11, g23_13, g23_16, g23_19, g23_20, g23_21, g23_24, g23_26, g23_29, g23_30, g23_33, g23_34, g23_37, g23_40, g23_41, g23_42, g23_45, g23_48, g23_49, g23_52, g23_53, g23_54, g23_55, g23_58, g23_60, g23_63, g23_66, g23_67, g23_68, g23_71, g23_74, g23_75, g23_76, g23_79, g23_82, g23_83, g23_86, g23_87, g23_88, g23_89, g23_92, g23_94, g23_97, g23_100, g23_101, g23_102, g23_105, g23_108, g23_109, g23_112, g23_115, g23_116, g23_119, g23_120, g23_121, g23_122, g23_125, g23_126, g23_129, rz_k_inl, rz_k_inr, Option.toList_some, Option.toList_none, List.cons_append, List.nil_append, List.append_nil, rz_up_s, rz_u_s, rz_up_n, rz_u_n, ne_eq, not_false_eq_true, not_true_eq_false, Nat.add_assoc, Nat.reduceAdd, reduceIte, Nat.add_eq_left, Nat.left_eq_add, Nat.add_left_cancel_iff, Nat.reduceEqDiff, Nat.add_right_cancel_iff, rz_nb0, rz_nb1, rz_nbb, rz_nbi, rz_isr, rz_zle, if_true, if_false, rz_bi0, rz_bi1, Bool.not_eq_true, Bool.not_eq_false, Bool.true_eq_false, Bool.false_eq_true, rz_ix_lit, cl_lit, Nat.reduceLT, bi_t, bi_f, decide_true, decide_false, Bool.not_false, Bool.not_true, Bool.and_true, Bool.true_and, Bool.and_false, Bool.false_and, oDk_c o1, oDk_f0 o1, oDk_v0 o1, oDk_i1 o1, oDk_i2 o1, oDk_i3 o1, oTp_c, oTp_f0, oTp_v0, oTp_i1, oTp_i2, oTp_i3, oTp_i4, oTp_i5, oTp_i6, oTp_a1, oTp_n1, oRl_c, oRl_f0, oRl_v0, oRl_f1, oRl_v1, oRl_f2, oRl_v2, oRl_i3, oRl_i4, oRl_i5, oRl_i6, oRl_i7, oRl_i8, oRl_a1, oRl_n1, oRl_a2, oRl_n2, oRl_a3, oRl_n3, o1, o2, o3, g1, W0, r3, cP, hP', f3, q2]
      · rw [bi_t] at f2
        rw [if_neg (fun z => f1 ⟨rfl, z.2⟩)]
        refine ⟨ι2, ?_, i1.no f3⟩
        rw [e23]
        simp (decide := true) (maxDischargeDepth := 4) only [g23_0, g23_1, g23_4, g23_7, g23_8, g23_11, g23_13, g23_16, g23_19, g23_20, g23_21, g23_24, g23_26, g23_29, g23_30, g23_33, g23_34, g23_37, g23_40, g23_41, g23_42, g23_45, g23_48, g23_49, g23_52, g23_53, g23_54, g23_55, g23_58, g23_60, g23_63, g23_66, g23_67, g23_68, g23_71, g23_74, g23_75, g23_76, g23_79, g23_82, g23_83, g23_86, g23_87, g23_88, g23_89, g23_92, g23_94, g23_97, g23_100, g23_101, g23_102, g23_105, g23_108, g23_109, g23_112, g23_115, g23_116, g23_119, g23_120, g23_121, g23_122, g23_125, g23_126, g23_129, rz_k_inl, rz_k_inr, Option.toList_some, Option.toList_none, List.cons_append, List.nil_append, List.append_nil, rz_up_s, rz_u_s, rz_up_n, rz_u_n, ne_eq, not_false_eq_true, not_true_eq_false, Nat.add_assoc, Nat.reduceAdd, reduceIte, Nat.add_eq_left, Nat.left_eq_add, Nat.add_left_cancel_iff, Nat.reduceEqDiff, Nat.add_right_cancel_iff, rz_nb0, rz_nb1, rz_nbb, rz_nbi, rz_isr, rz_zle, if_true, if_false, rz_bi0, rz_bi1, Bool.not_eq_true, Bool.not_eq_false, Bool.true_eq_false, Bool.false_eq_true, rz_ix_lit, cl_lit, Nat.reduceLT, bi_t, bi_f, decide_true, decide_false, Bool.not_false, Bool.not_true, Bool.and_true, Bool.true_and, Bool.and_false, Bool.false_and, oDk_c o1, oDk_f0 o1, oDk_v0 o1, oDk_i1 o1, oDk_i2 o1, oDk_i3 o1, oTp_c, oTp_f0, oTp_v0, oTp_i1, oTp_i2, oTp_i3, oTp_i4, oTp_i5, oTp_i6, oTp_a1, oTp_n1, oRl_c, oRl_f0, oRl_v0, oRl_f1, oRl_v1, oRl_f2, oRl_v2, oRl_i3, oRl_i4, oRl_i5, oRl_i6, oRl_i7, oRl_i8, oRl_a1, oRl_n1, oRl_a2, oRl_n2, oRl_a3, oRl_n3, o1, o2, o3, g1, W0, r3, cP, hP', f2]
    · have hP' : (P.length < 8) = False := by simp [hP]
      rcases dk_fits (Z := Z) (d := d + 3) (w := w) oo i1.2.2.2.2.1 hcl g3 false with ⟨f1, -, -⟩ | ⟨f1, ι2, f2, f3⟩
      · cases f1
      · rw [bi_f] at f2
        rw [if_neg (fun z => hP z.1)]
        refine ⟨ι2, ?_, i1.no f3⟩
        rw [e23]
        simp (decide := true) (maxDischargeDepth := 4) only [g23_0, g23_1, g23_4, g23_7, g23_8, g23_11, g23_13, g23_16, g23_19, g23_20, g23_21, g23_24, g23_26, g23_29, g23_30, g23_33, g23_34, g23_37, g23_40, g23_41, g23_42, g23_45, g23_48, g23_49, g23_52, g23_53, g23_54, g23_55, g23_58, g23_60, g23_63, g23_66, g23_67, g23_68, g23_71, g23_74, g23_75, g23_76, g23_79, g23_82, g23_83, g23_86, g23_87, g23_88, g23_89, g23_92, g23_94, g23_97, g23_100, g23_101, g23_102, g23_105, g23_108, g23_109, g23_112, g23_115, g23_116, g23_119, g23_120, g23_121, g23_122, g23_125, g23_126, g23_129, rz_k_inl, rz_k_inr, Option.toList_some, Option.toList_none, List.cons_append, List.nil_append, List.append_nil, rz_up_s, rz_u_s, rz_up_n, rz_u_n, ne_eq, not_false_eq_true, not_true_eq_false, Nat.add_assoc, Nat.reduceAdd, reduceIte, Nat.add_eq_left, Nat.left_eq_add, Nat.add_left_cancel_iff, Nat.reduceEqDiff, Nat.add_right_cancel_iff, rz_nb0, rz_nb1, rz_nbb, rz_nbi, rz_isr, rz_zle, if_true, if_false, rz_bi0, rz_bi1, Bool.not_eq_true, Bool.not_eq_false, Bool.true_eq_false, Bool.false_eq_true, rz_ix_lit, cl_lit, Nat.reduceLT, bi_t, bi_f, decide_true, decide_false, Bool.not_false, Bool.not_true, Bool.and_true, Bool.true_and, Bool.and_false, Bool.false_and, oDk_c o1, oDk_f0 o1, oDk_v0 o1, oDk_i1 o1, oDk_i2 o1, oDk_i3 o1, oTp_c, oTp_f0, oTp_v0, oTp_i1, oTp_i2, oTp_i3, oTp_i4, oTp_i5, oTp_i6, oTp_a1, oTp_n1, oRl_c, oRl_f0, oRl_v0, oRl_f1, oRl_v1, oRl_f2, oRl_v2, oRl_i3, oRl_i4, oRl_i5, oRl_i6, oRl_i7, oRl_i8, oRl_a1, oRl_n1, oRl_a2, oRl_n2, oRl_a3, oRl_n3, o1, o2, o3, g1, W0, r3, cP, hP', f2]
  | false =>
    rw [c0] at W0
    rw [if_neg (by decide)]
    cases c1 : wdIs (ι0 (t + 1)) (sk (ι0 (t + 1)) e p) (wdR (ι0 (t + 1)) e p) (WD 1) with
    | true =>
      rw [c1] at W1
      rw [if_pos rfl]
      rcases dk_fits (Z := Z) (d := d + 3) (w := w) oo i1.2.2.2.2.1 hcl g3 true with ⟨-, f2, f3⟩ | ⟨f1, ι2, f2, f3⟩
      · rw [bi_t] at f3
        rw [if_pos f2]
        have pc := dk_duke (Z := Z) (d := d + 1) (w := w) oo he he6 w2 i1 hR
        revert pc
        generalize rB (nmN (ι0 (t + 1)) e (nI P.length - 1) (wdR (ι0 (t + 1)) e p)) (fun x => (.inl ((P, x.1, ld), x.2) : ((List P3 × Nat × Nat) × Nat) ⊕ (Nat × Nat))) = X
        intro pc
        cases X with
        | inl s =>
          obtain ⟨q1, ι2, q2, q3⟩ := pc
          refine ⟨q1, ι2, ?_, q3⟩
          rw [e23]
          simp (decide := true) (maxDischargeDepth := 4) only [g23_0, g23_1, g23_4, g23_7, g23_8, g23_11, g23_13, g23_16, g23_19, g23_20, g23_21, g23_24, g23_26, g23_29, g23_30, g23_33, g23_34, g23_37, g23_40, g23_41, g23_42, g23_45, g23_48, g23_49, g23_52, g23_53, g23_54, g23_55, g23_58, g23_60, g23_63, g23_66, g23_67, g23_68, g23_71, g23_74, g23_75, g23_76, g23_79, g23_82, g23_83, g23_86, g23_87, g23_88, g23_89, g23_92, g23_94, g23_97, g23_100, g23_101, g23_102, g23_105, g23_108, g23_109, g23_112, g23_115, g23_116, g23_119, g23_120, g23_121, g23_122, g23_125, g23_126, g23_129, rz_k_inl, rz_k_inr, Option.toList_some, Option.toList_none, List.cons_append, List.nil_append, List.append_nil, rz_up_s, rz_u_s, rz_up_n, rz_u_n, ne_eq, not_false_eq_true, not_true_eq_false, Nat.add_assoc, Nat.reduceAdd, reduceIte, Nat.add_eq_left, Nat.left_eq_add, Nat.add_left_cancel_iff, Nat.reduceEqDiff, Nat.add_right_cancel_iff, rz_nb0, rz_nb1, rz_nbb, rz_nbi, rz_isr, rz_zle, if_true, if_false, rz_bi0, rz_bi1, Bool.not_eq_true, Bool.not_eq_false, Bool.true_eq_false, Bool.false_eq_true, rz_ix_lit, cl_lit, Nat.reduceLT, bi_t, bi_f, decide_true, decide_false, Bool.not_false, Bool.not_true, Bool.and_true, Bool.true_and, Bool.and_false, Bool.false_and, oDk_c o1, oDk_f0 o1, oDk_v0 o1, oDk_i1 o1, oDk_i2 o1, oDk_i3 o1, oTp_c, oTp_f0, oTp_v0, oTp_i1, oTp_i2, oTp_i3, oTp_i4, oTp_i5, oTp_i6, oTp_a1, oTp_n1, oRl_c, oRl_f0, oRl_v0, oRl_f1, oRl_v1, oRl_f2, oRl_v2, oRl_i3, oRl_i4, oRl_i5, oRl_i6, oRl_i7, oRl_i8, oRl_a1, oRl_n1, oRl_a2, oRl_n2, oRl_a3, oRl_n3, o1, o2, o3, g1, W0, W1, f3, q2]
        | inr f =>
          obtain ⟨ι2, q2, q3⟩ := pc
          refine ⟨ι2, ?_, q3⟩
          rw [e23]
          simp (decide := true) (maxDischargeDepth := 4) only [g23_0, g23_1, g23_4, g23_7, g23_8, g23_11, g23_13, g23_16, g23_19, g23_20, g23_21, g23_24, g23_26, g23_29, g23_30, g23_33, g23_34, g23_37, g23_40, g23_41, g23_42, g23_45, g23_48, g23_49, g23_52, g23_53, g23_54, g23_55, g23_58, g23_60, g23_63, g23_66, g23_67, g23_68, g23_71, g23_74, g23_75, g23_76, g23_79, g23_82, g23_83, g23_86, g23_87, g23_88, g23_89, g23_92, g23_94, g23_97, g23_100, g23_101, g23_102, g23_105, g23_108, g23_109, g23_112, g23_115, g23_116, g23_119, g23_120, g23_121, g23_122, g23_125, g23_126, g23_129, rz_k_inl, rz_k_inr, Option.toList_some, Option.toList_none, List.cons_append, List.nil_append, List.append_nil, rz_up_s, rz_u_s, rz_up_n, rz_u_n, ne_eq, not_false_eq_true, not_true_eq_false, Nat.add_assoc, Nat.reduceAdd, reduceIte, Nat.add_eq_left, Nat.left_eq_add, Nat.add_left_cancel_iff, Nat.reduceEqDiff, Nat.add_right_cancel_iff, rz_nb0, rz_nb1, rz_nbb, rz_nbi, rz_isr, rz_zle, if_true, if_false, rz_bi0, rz_bi1, Bool.not_eq_true, Bool.not_eq_false, Bool.true_eq_false, Bool.false_eq_true, rz_ix_lit, cl_lit, Nat.reduceLT, bi_t, bi_f, decide_true, decide_false, Bool.not_false, Bool.not_true, Bool.and_true, Bool.true_and, Bool.and_false, Bool.false_and, oDk_c o1, oDk_f0 o1, oDk_v0 o1, oDk_i1 o1, oDk_i2 o1, oDk_i3 o1, oTp_c, oTp_f0, oTp_v0, oTp_i1, oTp_i2, oTp_i3, oTp_i4, oTp_i5, oTp_i6, oTp_a1, oTp_n1, oRl_c, oRl_f0, oRl_v0, oRl_f1, oRl_v1, oRl_f2, oRl_v2, oRl_i3, oRl_i4, oRl_i5, oRl_i6, oRl_i7, oRl_i8, oRl_a1, oRl_n1, oRl_a2, oRl_n2, oRl_a3, oRl_n3, o1, o2, o3, g1, W0, W1, f3, q2]
      · rw [bi_t] at f2
        rw [if_neg (fun z => f1 ⟨rfl, z⟩)]
        refine ⟨ι2, ?_, i1.no f3⟩
        rw [e23]
        simp (decide := true) (maxDischargeDepth := 4) only [g23_0, g23_1, g23_4, g23_7, g23_8, g23_11, g23_13, g23_16, g23_19, g23_20, g23_21, g23_24, g23_26, g23_29, g23_30, g23_33, g23_34, g23_37, g23_40, g23_41, g23_42, g23_45, g23_48, g23_49, g23_52, g23_53, g23_54, g23_55, g23_58, g23_60, g23_63, g23_66, g23_67, g23_68, g23_71, g23_74, g23_75, g23_76, g23_79, g23_82, g23_83, g23_86, g23_87, g23_88, g23_89, g23_92, g23_94, g23_97, g23_100, g23_101, g23_102, g23_105, g23_108, g23_109, g23_112, g23_115, g23_116, g23_119, g23_120, g23_121, g23_122, g23_125, g23_126, g23_129, rz_k_inl, rz_k_inr, Option.toList_some, Option.toList_none, List.cons_append, List.nil_append, List.append_nil, rz_up_s, rz_u_s, rz_up_n, rz_u_n, ne_eq, not_false_eq_true, not_true_eq_false, Nat.add_assoc, Nat.reduceAdd, reduceIte, Nat.add_eq_left, Nat.left_eq_add, Nat.add_left_cancel_iff, Nat.reduceEqDiff, Nat.add_right_cancel_iff, rz_nb0, rz_nb1, rz_nbb, rz_nbi, rz_isr, rz_zle, if_true, if_false, rz_bi0, rz_bi1, Bool.not_eq_true, Bool.not_eq_false, Bool.true_eq_false, Bool.false_eq_true, rz_ix_lit, cl_lit, Nat.reduceLT, bi_t, bi_f, decide_true, decide_false, Bool.not_false, Bool.not_true, Bool.and_true, Bool.true_and, Bool.and_false, Bool.false_and, oDk_c o1, oDk_f0 o1, oDk_v0 o1, oDk_i1 o1, oDk_i2 o1, oDk_i3 o1, oTp_c, oTp_f0, oTp_v0, oTp_i1, oTp_i2, oTp_i3, oTp_i4, oTp_i5, oTp_i6, oTp_a1, oTp_n1, oRl_c, oRl_f0, oRl_v0, oRl_f1, oRl_v1, oRl_f2, oRl_v2, oRl_i3, oRl_i4, oRl_i5, oRl_i6, oRl_i7, oRl_i8, oRl_a1, oRl_n1, oRl_a2, oRl_n2, oRl_a3, oRl_n3, o1, o2, o3, g1, W0, W1, f2]
    | false =>
      rw [c1] at W1
      rw [if_neg (by decide)]
      cases c2 : wdIs (ι0 (t + 1)) (sk (ι0 (t + 1)) e p) (wdR (ι0 (t + 1)) e p) (WD 2) with
      | true =>
        rw [c2] at W2
        rw [if_pos rfl]
        rcases dk_fits (Z := Z) (d := d + 3) (w := w) oo i1.2.2.2.2.1 hcl g3 true with ⟨-, f2, f3⟩ | ⟨f1, ι2, f2, f3⟩
        · rw [bi_t] at f3
          rw [if_pos f2]
          have pc := dk_land (Z := Z) (d := d + 1) (w := w) oo he he6 w2 i1
          revert pc
          generalize rB (nmN (ι0 (t + 1)) e 99 (wdR (ι0 (t + 1)) e p)) (fun x => (.inl ((P, dk, x.1), x.2) : ((List P3 × Nat × Nat) × Nat) ⊕ (Nat × Nat))) = X
          intro pc
          cases X with
          | inl s =>
            obtain ⟨q1, ι2, q2, q3⟩ := pc
            refine ⟨q1, ι2, ?_, q3⟩
            rw [e23]
            simp (decide := true) (maxDischargeDepth := 4) only [g23_0, g23_1, g23_4, g23_7, g23_8, g23_11, g23_13, g23_16, g23_19, g23_20, g23_21, g23_24, g23_26, g23_29, g23_30, g23_33, g23_34, g23_37, g23_40, g23_41, g23_42, g23_45, g23_48, g23_49, g23_52, g23_53, g23_54, g23_55, g23_58, g23_60, g23_63, g23_66, g23_67, g23_68, g23_71, g23_74, g23_75, g23_76, g23_79, g23_82, g23_83, g23_86, g23_87, g23_88, g23_89, g23_92, g23_94, g23_97, g23_100, g23_101, g23_102, g23_105, g23_108, g23_109, g23_112, g23_115, g23_116, g23_119, g23_120, g23_121, g23_122, g23_125, g23_126, g23_129, rz_k_inl, rz_k_inr, Option.toList_some, Option.toList_none, List.cons_append, List.nil_append, List.append_nil, rz_up_s, rz_u_s, rz_up_n, rz_u_n, ne_eq, not_false_eq_true, not_true_eq_false, Nat.add_assoc, Nat.reduceAdd, reduceIte, Nat.add_eq_left, Nat.left_eq_add, Nat.add_left_cancel_iff, Nat.reduceEqDiff, Nat.add_right_cancel_iff, rz_nb0, rz_nb1, rz_nbb, rz_nbi, rz_isr, rz_zle, if_true, if_false, rz_bi0, rz_bi1, Bool.not_eq_true, Bool.not_eq_false, Bool.true_eq_false, Bool.false_eq_true, rz_ix_lit, cl_lit, Nat.reduceLT, bi_t, bi_f, decide_true, decide_false, Bool.not_false, Bool.not_true, Bool.and_true, Bool.true_and, Bool.and_false, Bool.false_and, oDk_c o1, oDk_f0 o1, oDk_v0 o1, oDk_i1 o1, oDk_i2 o1, oDk_i3 o1, oTp_c, oTp_f0, oTp_v0, oTp_i1, oTp_i2, oTp_i3, oTp_i4, oTp_i5, oTp_i6, oTp_a1, oTp_n1, oRl_c, oRl_f0, oRl_v0, oRl_f1, oRl_v1, oRl_f2, oRl_v2, oRl_i3, oRl_i4, oRl_i5, oRl_i6, oRl_i7, oRl_i8, oRl_a1, oRl_n1, oRl_a2, oRl_n2, oRl_a3, oRl_n3, o1, o2, o3, g1, W0, W1, W2, f3, q2]
          | inr f =>
            obtain ⟨ι2, q2, q3⟩ := pc
            refine ⟨ι2, ?_, q3⟩
            rw [e23]
            simp (decide := true) (maxDischargeDepth := 4) only [g23_0, g23_1, g23_4, g23_7, g23_8, g23_11, g23_13, g23_16, g23_19, g23_20, g23_21, g23_24, g23_26, g23_29, g23_30, g23_33, g23_34, g23_37, g23_40, g23_41, g23_42, g23_45, g23_48, g23_49, g23_52, g23_53, g23_54, g23_55, g23_58, g23_60, g23_63, g23_66, g23_67, g23_68, g23_71, g23_74, g23_75, g23_76, g23_79, g23_82, g23_83, g23_86, g23_87, g23_88, g23_89, g23_92, g23_94, g23_97, g23_100, g23_101, g23_102, g23_105, g23_108, g23_109, g23_112, g23_115, g23_116, g23_119, g23_120, g23_121, g23_122, g23_125, g23_126, g23_129, rz_k_inl, rz_k_inr, Option.toList_some, Option.toList_none, List.cons_append, List.nil_append, List.append_nil, rz_up_s, rz_u_s, rz_up_n, rz_u_n, ne_eq, not_false_eq_true, not_true_eq_false, Nat.add_assoc, Nat.reduceAdd, reduceIte, Nat.add_eq_left, Nat.left_eq_add, Nat.add_left_cancel_iff, Nat.reduceEqDiff, Nat.add_right_cancel_iff, rz_nb0, rz_nb1, rz_nbb, rz_nbi, rz_isr, rz_zle, if_true, if_false, rz_bi0, rz_bi1, Bool.not_eq_true, Bool.not_eq_false, Bool.true_eq_false, Bool.false_eq_true, rz_ix_lit, cl_lit, Nat.reduceLT, bi_t, bi_f, decide_true, decide_false, Bool.not_false, Bool.not_true, Bool.and_true, Bool.true_and, Bool.and_false, Bool.false_and, oDk_c o1, oDk_f0 o1, oDk_v0 o1, oDk_i1 o1, oDk_i2 o1, oDk_i3 o1, oTp_c, oTp_f0, oTp_v0, oTp_i1, oTp_i2, oTp_i3, oTp_i4, oTp_i5, oTp_i6, oTp_a1, oTp_n1, oRl_c, oRl_f0, oRl_v0, oRl_f1, oRl_v1, oRl_f2, oRl_v2, oRl_i3, oRl_i4, oRl_i5, oRl_i6, oRl_i7, oRl_i8, oRl_a1, oRl_n1, oRl_a2, oRl_n2, oRl_a3, oRl_n3, o1, o2, o3, g1, W0, W1, W2, f3, q2]
        · rw [bi_t] at f2
          rw [if_neg (fun z => f1 ⟨rfl, z⟩)]
          refine ⟨ι2, ?_, i1.no f3⟩
          rw [e23]
          simp (decide := true) (maxDischargeDepth := 4) only [g23_0, g23_1, g23_4, g23_7, g23_8, g23_11, g23_13, g23_16, g23_19, g23_20, g23_21, g23_24, g23_26, g23_29, g23_30, g23_33, g23_34, g23_37, g23_40, g23_41, g23_42, g23_45, g23_48, g23_49, g23_52, g23_53, g23_54, g23_55, g23_58, g23_60, g23_63, g23_66, g23_67, g23_68, g23_71, g23_74, g23_75, g23_76, g23_79, g23_82, g23_83, g23_86, g23_87, g23_88, g23_89, g23_92, g23_94, g23_97, g23_100, g23_101, g23_102, g23_105, g23_108, g23_109, g23_112, g23_115, g23_116, g23_119, g23_120, g23_121, g23_122, g23_125, g23_126, g23_129, rz_k_inl, rz_k_inr, Option.toList_some, Option.toList_none, List.cons_append, List.nil_append, List.append_nil, rz_up_s, rz_u_s, rz_up_n, rz_u_n, ne_eq, not_false_eq_true, not_true_eq_false, Nat.add_assoc, Nat.reduceAdd, reduceIte, Nat.add_eq_left, Nat.left_eq_add, Nat.add_left_cancel_iff, Nat.reduceEqDiff, Nat.add_right_cancel_iff, rz_nb0, rz_nb1, rz_nbb, rz_nbi, rz_isr, rz_zle, if_true, if_false, rz_bi0, rz_bi1, Bool.not_eq_true, Bool.not_eq_false, Bool.true_eq_false, Bool.false_eq_true, rz_ix_lit, cl_lit, Nat.reduceLT, bi_t, bi_f, decide_true, decide_false, Bool.not_false, Bool.not_true, Bool.and_true, Bool.true_and, Bool.and_false, Bool.false_and, oDk_c o1, oDk_f0 o1, oDk_v0 o1, oDk_i1 o1, oDk_i2 o1, oDk_i3 o1, oTp_c, oTp_f0, oTp_v0, oTp_i1, oTp_i2, oTp_i3, oTp_i4, oTp_i5, oTp_i6, oTp_a1, oTp_n1, oRl_c, oRl_f0, oRl_v0, oRl_f1, oRl_v1, oRl_f2, oRl_v2, oRl_i3, oRl_i4, oRl_i5, oRl_i6, oRl_i7, oRl_i8, oRl_a1, oRl_n1, oRl_a2, oRl_n2, oRl_a3, oRl_n3, o1, o2, o3, g1, W0, W1, W2, f2]
      | false =>
        rw [c2] at W2
        rw [if_neg (by decide)]
        obtain ⟨ι2, k1, k2⟩ := tq_blameT (Z := Z) (d := d + 4) (w := w) (f := 1) o2 o4 g3
        rw [show nI 1 = 1 from rfl] at k1
        refine ⟨ι2, ?_, i1.no k2⟩
        rw [e23]
        simp (decide := true) (maxDischargeDepth := 4) only [g23_0, g23_1, g23_4, g23_7, g23_8, g23_11, g23_13, g23_16, g23_19, g23_20, g23_21, g23_24, g23_26, g23_29, g23_30, g23_33, g23_34, g23_37, g23_40, g23_41, g23_42, g23_45, g23_48, g23_49, g23_52, g23_53, g23_54, g23_55, g23_58, g23_60, g23_63, g23_66, g23_67, g23_68, g23_71, g23_74, g23_75, g23_76, g23_79, g23_82, g23_83, g23_86, g23_87, g23_88, g23_89, g23_92, g23_94, g23_97, g23_100, g23_101, g23_102, g23_105, g23_108, g23_109, g23_112, g23_115, g23_116, g23_119, g23_120, g23_121, g23_122, g23_125, g23_126, g23_129, rz_k_inl, rz_k_inr, Option.toList_some, Option.toList_none, List.cons_append, List.nil_append, List.append_nil, rz_up_s, rz_u_s, rz_up_n, rz_u_n, ne_eq, not_false_eq_true, not_true_eq_false, Nat.add_assoc, Nat.reduceAdd, reduceIte, Nat.add_eq_left, Nat.left_eq_add, Nat.add_left_cancel_iff, Nat.reduceEqDiff, Nat.add_right_cancel_iff, rz_nb0, rz_nb1, rz_nbb, rz_nbi, rz_isr, rz_zle, if_true, if_false, rz_bi0, rz_bi1, Bool.not_eq_true, Bool.not_eq_false, Bool.true_eq_false, Bool.false_eq_true, rz_ix_lit, cl_lit, Nat.reduceLT, bi_t, bi_f, decide_true, decide_false, Bool.not_false, Bool.not_true, Bool.and_true, Bool.true_and, Bool.and_false, Bool.false_and, oDk_c o1, oDk_f0 o1, oDk_v0 o1, oDk_i1 o1, oDk_i2 o1, oDk_i3 o1, oTp_c, oTp_f0, oTp_v0, oTp_i1, oTp_i2, oTp_i3, oTp_i4, oTp_i5, oTp_i6, oTp_a1, oTp_n1, oRl_c, oRl_f0, oRl_v0, oRl_f1, oRl_v1, oRl_f2, oRl_v2, oRl_i3, oRl_i4, oRl_i5, oRl_i6, oRl_i7, oRl_i8, oRl_a1, oRl_n1, oRl_a2, oRl_n2, oRl_a3, oRl_n3, o1, o2, o3, g1, W0, W1, W2, k1]
end DUK2
