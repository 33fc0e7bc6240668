/-! the class reads a DUKEDOM to its end; a new realm; the usual LAW; no images -/
theorem dkR_57f (P : List P3) : ∀ (s : (Nat → Int32) × Nat), s.2 + P.length ≤ 8 → s.1 57 = nI s.2 → (P.foldl (fun (s : (Nat → Int32) × Nat) q => (addR s.1 s.2 (nI q.1) (nI q.2.1) (nI q.2.2) 20, s.2 + 1)) s).1 57 = nI (s.2 + P.length) := by
  induction P with
  | nil => intro s _ h; exact h
  | cons x P ih =>
    intro s hl h
    rw [List.length_cons] at hl ⊢
    rw [List.foldl_cons, ih _ (by dsimp only; omega)]
    · dsimp only; congr 1; omega
    · dsimp only
      unfold addR shIs
      rw [if_neg (by omega), rz_u_n (by omega), rz_u_n (by omega), rz_u_n (by omega), rz_u_n (by omega), rz_u_n (by omega), rz_u_s, h, nI_1]
theorem dkR_57 {P : List P3} (hP : P.length ≤ 8) : dkR P 57 = nI P.length := by
  have := dkR_57f P (R00, 0) (by dsimp only; omega) rfl
  rw [Nat.zero_add] at this
  exact this
theorem dkC0_len {B : Nat → Int32} {e cl dk ld p : Nat} {P : List P3} {s : (List P3 × Nat × Nat) × Nat} (hP : P.length ≤ 8) (h : dkC0 B e cl P dk ld p = .inl s) : s.1.1.length ≤ 8 := by
  unfold dkC0 at h
  split at h
  · split at h
    · rename_i h8
      cases n1 : nmN B e 9 (wdR B e p) with
      | inr f => rw [n1] at h; cases h
      | inl x =>
        rw [n1, rB_l] at h
        cases n2 : nmN B e 9 x.2 with
        | inr f => rw [n2] at h; cases h
        | inl y =>
          rw [n2, rB_l] at h
          cases n3 : nmN B e 9 y.2 with
          | inr f => rw [n3] at h; cases h
          | inl z =>
            rw [n3, rB_l] at h
            cases h
            rw [List.length_append]
            show P.length + 1 ≤ 8
            omega
    · cases h
  · split at h
    · split at h
      · cases n1 : nmN B e (nI P.length - 1) (wdR B e p) with
        | inr f => rw [n1] at h; cases h
        | inl x => rw [n1, rB_l] at h; cases h; exact hP
      · cases h
    · split at h
      · split at h
        · cases n1 : nmN B e 99 (wdR B e p) with
          | inr f => rw [n1] at h; cases h
          | inl x => rw [n1, rB_l] at h; cases h; exact hP
        · cases h
      · cases h
section DUK3
variable {Z : rx_Z} {d : Nat} {h : Nat → Option rx_E} {ι ι0 : Nat → Nat → Int32} {w : Nat × Nat} {t a r : Nat}
def dkE (t a r : Nat) (ι0 ι : Nat → Nat → Int32) (P : List P3) (dk ld : Nat) : Prop := txF t (fun x => x = a ∨ rlP r x) ι0 ι ∧ ι t 4 = ι0 t 4 ∧ ι t 6 = ι0 t 6 ∧ ι a 3 = nI ld ∧ rl ι r = crnR (dkR P) (if P.length = 0 then -1 else nI dk)
theorem dk_exit {cl dk ld p : Nat} {P : List P3} (o : dkO Z h t a r) (hP8 : P.length ≤ 8) (i : dkI t a r ι0 ι cl P dk ld p) (l2 : Option Value) : ∃ ι', rg Z (d + 6) rx_m22 74 [some (.ref a), some (.ref r), l2] [] (rz_mk h ι, w) = some (.inl (some (.int 1)), (rz_mk h ι', w)) ∧ dkE t a r ι0 ι' P dk ld := by
  obtain ⟨o1, o2, o3, o4, o5, o6⟩ := o
  obtain ⟨j1, j2, j3, j4, j5, j6, j7, j8⟩ := i
  have r3 : ι r 3 = nI P.length := by
    have : rl ι r 57 = nI P.length := by rw [j8]; exact dkR_57 hP8
    exact this
  have c0 : (nI P.length = 0) = (P.length = 0) := nI_eqL (by omega) (by decide)
  obtain ⟨ι', m1, m2, m3⟩ := rm_crown (Z := Z) (d := d + 5) (w := w) (ι := ι) o3 (by omega) (if P.length = 0 then -1 else nI dk)
  have na : ¬ rlP r a := by unfold rlP; omega
  have nt : ¬ rlP r t := by unfold rlP; omega
  refine ⟨ι', ?_, j1.fr m3 (fun x hx => Or.inr hx) nt, by rw [m3 t nt]; exact j2, by rw [m3 t nt]; exact j3, by rw [m3 a na]; exact j7, by rw [m2, j8]⟩
  by_cases hP : P.length = 0
  · have hP' : (P.length = 0) = True := by simp [hP]
    rw [if_pos hP] at m1
    simp (decide := true) (maxDischargeDepth := 4) only [g22_74, g22_75, g22_76, g22_79, g22_82, g22_83, g22_86, g22_87, g22_90, g22_93, g22_94, rz_k_inl, rz_k_inr, Option.toList_some, Option.toList_none, List.cons_append, List.nil_append, List.append_nil, rz_up_s, rz_u_s, rz_up_n, rz_u_n, ne_eq, not_false_eq_true, not_true_eq_false, Nat.add_assoc, Nat.reduceAdd, reduceIte, Nat.add_eq_left, Nat.left_eq_add, Nat.add_left_cancel_iff, Nat.reduceEqDiff, Nat.add_right_cancel_iff, rz_nb0, rz_nb1, rz_nbb, rz_nbi, rz_isr, rz_zle, if_true, if_false, rz_bi0, rz_bi1, Bool.not_eq_true, Bool.not_eq_false, Bool.true_eq_false, Bool.false_eq_true, rz_ix_lit, cl_lit, Nat.reduceLT, bi_t, bi_f, decide_true, decide_false, Bool.not_false, Bool.not_true, Bool.and_true, Bool.true_and, Bool.and_false, Bool.false_and, oDk_c o1, oDk_f0 o1, oDk_v0 o1, oDk_i1 o1, oDk_i2 o1, oDk_i3 o1, oRl_c, oRl_f0, oRl_v0, oRl_f1, oRl_v1, oRl_f2, oRl_v2, oRl_i3, oRl_i4, oRl_i5, oRl_i6, oRl_i7, oRl_i8, oRl_a1, oRl_n1, oRl_a2, oRl_n2, oRl_a3, oRl_n3, o1, o3, r3, c0, hP', m1]
  · have hP' : (P.length = 0) = False := by simp [hP]
    rw [if_neg hP] at m1
    simp (decide := true) (maxDischargeDepth := 4) only [g22_74, g22_75, g22_76, g22_79, g22_82, g22_83, g22_86, g22_87, g22_90, g22_93, g22_94, rz_k_inl, rz_k_inr, Option.toList_some, Option.toList_none, List.cons_append, List.nil_append, List.append_nil, rz_up_s, rz_u_s, rz_up_n, rz_u_n, ne_eq, not_false_eq_true, not_true_eq_false, Nat.add_assoc, Nat.reduceAdd, reduceIte, Nat.add_eq_left, Nat.left_eq_add, Nat.add_left_cancel_iff, Nat.reduceEqDiff, Nat.add_right_cancel_iff, rz_nb0, rz_nb1, rz_nbb, rz_nbi, rz_isr, rz_zle, if_true, if_false, rz_bi0, rz_bi1, Bool.not_eq_true, Bool.not_eq_false, Bool.true_eq_false, Bool.false_eq_true, rz_ix_lit, cl_lit, Nat.reduceLT, bi_t, bi_f, decide_true, decide_false, Bool.not_false, Bool.not_true, Bool.and_true, Bool.true_and, Bool.and_false, Bool.false_and, oDk_c o1, oDk_f0 o1, oDk_v0 o1, oDk_i1 o1, oDk_i2 o1, oDk_i3 o1, oRl_c, oRl_f0, oRl_v0, oRl_f1, oRl_v1, oRl_f2, oRl_v2, oRl_i3, oRl_i4, oRl_i5, oRl_i6, oRl_i7, oRl_i8, oRl_a1, oRl_n1, oRl_a2, oRl_n2, oRl_a3, oRl_n3, o1, o3, r3, c0, hP', j6, m1]
theorem dk_loop {e : Nat} (hst : stH Z h) (o : dkO Z h t a r) (he : ι0 t 1 = nI e) (he6 : e ≤ 600) (hB : ∀ x, ι0 (t + 1) x ≠ -1) : ∀ (k i : Nat) (P : List P3) (dk ld p : Nat) (ι : Nat → Nat → Int32), k + i = 601 → p ≤ e → P.length ≤ 8 → dkI t a r ι0 ι i P dk ld p → match dkS (ι0 (t + 1)) e k i P dk ld p with
    | .inl s => ∃ ι', rg Z (d + 6) rx_m22 18 [some (.ref a), some (.ref r), some (.int (nI i))] [] (rz_mk h ι, w) = some (.inl (some (.int 1)), (rz_mk h ι', w)) ∧ dkE t a r ι0 ι' s.1 s.2.1 s.2.2
    | .inr f => ∃ ι', rg Z (d + 6) rx_m22 18 [some (.ref a), some (.ref r), some (.int (nI i))] [] (rz_mk h ι, w) = some (.inl (some (.int 0)), (rz_mk h ι', w)) ∧ dkN t a r ι0 ι' f := by
  intro k
  induction k with
  | zero =>
    intro i P dk ld p ι hk hpe hP8 ii
    have ei : i = 601 := by omega
    subst ei
    obtain ⟨ι', x1, x2⟩ := dk_exit (Z := Z) (d := d) (w := w) o hP8 ii (some (.int (nI 601)))
    refine ⟨ι', ?_, x2⟩
    rw [g22_18, ← x1]
    have c : ((600 : Int32) < nI 601) = True := by simp; decide
    simp (decide := true) (maxDischargeDepth := 4) only [g22_19, g22_22, rz_k_inl, rz_k_inr, Option.toList_some, Option.toList_none, List.cons_append, List.nil_append, List.append_nil, rz_up_s, rz_u_s, rz_up_n, rz_u_n, ne_eq, not_false_eq_true, not_true_eq_false, Nat.add_assoc, Nat.reduceAdd, reduceIte, Nat.add_eq_left, Nat.left_eq_add, Nat.add_left_cancel_iff, Nat.reduceEqDiff, Nat.add_right_cancel_iff, rz_nb0, rz_nb1, rz_nbb, rz_nbi, rz_isr, rz_zle, if_true, if_false, rz_bi0, rz_bi1, Bool.not_eq_true, Bool.not_eq_false, Bool.true_eq_false, Bool.false_eq_true, rz_ix_lit, cl_lit, Nat.reduceLT, bi_t, bi_f, decide_true, decide_false, Bool.not_false, Bool.not_true, Bool.and_true, Bool.true_and, Bool.and_false, Bool.false_and, c]
  | succ k ih =>
    intro i P dk ld p ι hk hpe hP8 ii
    have oo := o
    obtain ⟨o1, o2, o3, o4, o5, o6⟩ := o
    have e1 : ι t 1 = nI e := ii.1.2.1.trans he
    have eB := ii.by oo
    have hsk := sk_le (B := ι0 (t + 1)) hpe
    obtain ⟨ι1, g1, g2, -⟩ := tq_next (Z := Z) (d := d + 5) (w := w) o2 o4 e1 ii.2.2.2.1 hpe he6
    rw [eB] at g1 g2
    have i1 := ii.tp oo g2
    have c : ((600 : Int32) < nI i) = False := by rw [nI_Llt (by omega) (by decide)]; simp; omega
    rw [dkS]
    by_cases hs : sk (ι0 (t + 1)) e p < e
    · rw [if_pos hs]
      rw [show sg (ι0 (t + 1)) e (sk (ι0 (t + 1)) e p) = ι0 (t + 1) (sk (ι0 (t + 1)) e p) from if_pos hs] at g1
      have nm1 := hB (sk (ι0 (t + 1)) e p)
      have cl := dk_clause (Z := Z) (d := d) (w := w) hst oo he he6 hsk (by omega) hP8 i1 (dkR_57 hP8)
      unfold dkC
      cases x0 : dkC0 (ι0 (t + 1)) e i P dk ld (sk (ι0 (t + 1)) e p) with
      | inr f =>
        rw [x0] at cl
        obtain ⟨ι2, k1, k2⟩ := cl
        refine ⟨ι2, ?_, k2⟩
        rw [g22_18]
        simp (decide := true) (maxDischargeDepth := 4) only [g22_19, g22_22, g22_25, g22_26, g22_29, g22_32, g22_33, g22_36, g22_37, g22_38, g22_41, g22_44, g22_45, g22_48, g22_50, g22_53, g22_56, g22_57, g22_58, g22_59, g22_60, g22_63, g22_64, g22_65, g22_68, rz_k_inl, rz_k_inr, Option.toList_some, Option.toList_none, List.cons_append, List.nil_append, List.append_nil, rz_up_s, rz_u_s, rz_up_n, rz_u_n, ne_eq, not_false_eq_true, not_true_eq_false, Nat.add_assoc, Nat.reduceAdd, reduceIte, Nat.add_eq_left, Nat.left_eq_add, Nat.add_left_cancel_iff, Nat.reduceEqDiff, Nat.add_right_cancel_iff, rz_nb0, rz_nb1, rz_nbb, rz_nbi, rz_isr, rz_zle, if_true, if_false, rz_bi0, rz_bi1, Bool.not_eq_true, Bool.not_eq_false, Bool.true_eq_false, Bool.false_eq_true, rz_ix_lit, cl_lit, Nat.reduceLT, bi_t, bi_f, decide_true, decide_false, Bool.not_false, Bool.not_true, Bool.and_true, Bool.true_and, Bool.and_false, Bool.false_and, oDk_c o1, oDk_f0 o1, oDk_v0 o1, oDk_i1 o1, oDk_i2 o1, oDk_i3 o1, oTp_c, oTp_f0, oTp_v0, oTp_i1, oTp_i2, oTp_i3, oTp_i4, oTp_i5, oTp_i6, oTp_a1, oTp_n1, oRl_c, oRl_f0, oRl_v0, oRl_f1, oRl_v1, oRl_f2, oRl_v2, oRl_i3, oRl_i4, oRl_i5, oRl_i6, oRl_i7, oRl_i8, oRl_a1, oRl_n1, oRl_a2, oRl_n2, oRl_a3, oRl_n3, o1, o2, o3, c, g1, nm1, k1]
      | inl s =>
        rw [x0] at cl
        obtain ⟨q1, ι2, k1, i2⟩ := cl
        have e12 : ι2 t 1 = nI e := i2.1.2.1.trans he
        have eB2 := i2.by oo
        rw [rB_l]
        cases x1 : smP (ι0 (t + 1)) e 59 s.2 with
        | inr f =>
          obtain ⟨ι3, l1, l2⟩ := tq_needs_no (Z := Z) (d := d + 4) (w := w) o2 o4 e12 i2.2.2.2.1 q1 he6 (c := 59) (by rw [eB2]; exact x1)
          refine ⟨ι3, ?_, i2.no l2⟩
          rw [g22_18]
          simp (decide := true) (maxDischargeDepth := 4) only [g22_19, g22_22, g22_25, g22_26, g22_29, g22_32, g22_33, g22_36, g22_37, g22_38, g22_41, g22_44, g22_45, g22_48, g22_50, g22_53, g22_56, g22_57, g22_58, g22_59, g22_60, g22_63, g22_64, g22_65, g22_68, rz_k_inl, rz_k_inr, Option.toList_some, Option.toList_none, List.cons_append, List.nil_append, List.append_nil, rz_up_s, rz_u_s, rz_up_n, rz_u_n, ne_eq, not_false_eq_true, not_true_eq_false, Nat.add_assoc, Nat.reduceAdd, reduceIte, Nat.add_eq_left, Nat.left_eq_add, Nat.add_left_cancel_iff, Nat.reduceEqDiff, Nat.add_right_cancel_iff, rz_nb0, rz_nb1, rz_nbb, rz_nbi, rz_isr, rz_zle, if_true, if_false, rz_bi0, rz_bi1, Bool.not_eq_true, Bool.not_eq_false, Bool.true_eq_false, Bool.false_eq_true, rz_ix_lit, cl_lit, Nat.reduceLT, bi_t, bi_f, decide_true, decide_false, Bool.not_false, Bool.not_true, Bool.and_true, Bool.true_and, Bool.and_false, Bool.false_and, oDk_c o1, oDk_f0 o1, oDk_v0 o1, oDk_i1 o1, oDk_i2 o1, oDk_i3 o1, oTp_c, oTp_f0, oTp_v0, oTp_i1, oTp_i2, oTp_i3, oTp_i4, oTp_i5, oTp_i6, oTp_a1, oTp_n1, oRl_c, oRl_f0, oRl_v0, oRl_f1, oRl_v1, oRl_f2, oRl_v2, oRl_i3, oRl_i4, oRl_i5, oRl_i6, oRl_i7, oRl_i8, oRl_a1, oRl_n1, oRl_a2, oRl_n2, oRl_a3, oRl_n3, o1, o2, o3, c, g1, nm1, k1, l1, show ¬ ((1 : Int32) = 0) by decide]
        | inl q =>
          obtain ⟨s1, s2, s3⟩ := smP_ok q1 (by decide) x1
          obtain ⟨ι3, l1, l2⟩ := tq_needs_ok (Z := Z) (d := d + 4) (w := w) o2 o4 e12 i2.2.2.2.1 q1 he6 (c := 59) (by decide) (by rw [eB2]; exact x1)
          obtain ⟨j1, j2, j3, j4, j5, j6, j7, j8⟩ := i2.tp oo l2
          have ta : t ≠ a := by omega
          have hza : Z.2.1 ≤ a := by omega
          have i4 : dkI t a r ι0 (rz_up ι3 a 1 (nI (i + 1))) (i + 1) s.1.1 s.1.2.1 s.1.2.2 q := ⟨j1.up (Or.inl rfl) (by omega), by rw [rz_up_n ta]; exact j2, by rw [rz_up_n ta]; exact j3, by rw [rz_up_n ta]; exact j4, by rw [rz_up_s, rz_u_s], by rw [rz_up_s, rz_u_n (by omega)]; exact j6, by rw [rz_up_s, rz_u_n (by omega)]; exact j7, (rl_eq (rz_up_n (by omega)) (rz_up_n (by omega)) (rz_up_n (by omega)) (rz_up_n (by omega))).trans j8⟩
          have I := ih (i + 1) s.1.1 s.1.2.1 s.1.2.2 q _ (by omega) s3 (dkC0_len hP8 x0) i4
          rw [rB_l, rB_l]
          dsimp only
          revert I
          generalize dkS (ι0 (t + 1)) e k (i + 1) s.1.1 s.1.2.1 s.1.2.2 q = X
          intro I
          have step : rg Z (d + 6) rx_m22 18 [some (.ref a), some (.ref r), some (.int (nI i))] [] (rz_mk h ι, w) = rg Z (d + 6) rx_m22 18 [some (.ref a), some (.ref r), some (.int (nI (i + 1)))] [] (rz_mk h (rz_up ι3 a 1 (nI (i + 1))), w) := by
            rw [g22_18]
            simp (decide := true) (maxDischargeDepth := 4) only [g22_19, g22_22, g22_25, g22_26, g22_29, g22_32, g22_33, g22_36, g22_37, g22_38, g22_41, g22_44, g22_45, g22_48, g22_50, g22_53, g22_56, g22_57, g22_58, g22_59, g22_60, g22_63, g22_64, g22_65, g22_68, g22_71, rz_k_inl, rz_k_inr, Option.toList_some, Option.toList_none, List.cons_append, List.nil_append, List.append_nil, rz_up_s, rz_u_s, rz_up_n, rz_u_n, ne_eq, not_false_eq_true, not_true_eq_false, Nat.add_assoc, Nat.reduceAdd, reduceIte, Nat.add_eq_left, Nat.left_eq_add, Nat.add_left_cancel_iff, Nat.reduceEqDiff, Nat.add_right_cancel_iff, rz_nb0, rz_nb1, rz_nbb, rz_nbi, rz_isr, rz_zle, if_true, if_false, rz_bi0, rz_bi1, Bool.not_eq_true, Bool.not_eq_false, Bool.true_eq_false, Bool.false_eq_true, rz_ix_lit, cl_lit, Nat.reduceLT, bi_t, bi_f, decide_true, decide_false, Bool.not_false, Bool.not_true, Bool.and_true, Bool.true_and, Bool.and_false, Bool.false_and, oDk_c o1, oDk_f0 o1, oDk_v0 o1, oDk_i1 o1, oDk_i2 o1, oDk_i3 o1, oTp_c, oTp_f0, oTp_v0, oTp_i1, oTp_i2, oTp_i3, oTp_i4, oTp_i5, oTp_i6, oTp_a1, oTp_n1, oRl_c, oRl_f0, oRl_v0, oRl_f1, oRl_v1, oRl_f2, oRl_v2, oRl_i3, oRl_i4, oRl_i5, oRl_i6, oRl_i7, oRl_i8, oRl_a1, oRl_n1, oRl_a2, oRl_n2, oRl_a3, oRl_n3, o1, o2, o3, hza, c, g1, nm1, k1, l1, j5, nI_1, show ¬ ((1 : Int32) = 0) by decide]
          cases X with
          | inl s' =>
            obtain ⟨ι5, y1, y2⟩ := I
            exact ⟨ι5, step.trans y1, y2⟩
          | inr f =>
            obtain ⟨ι5, y1, y2⟩ := I
            exact ⟨ι5, step.trans y1, y2⟩
    · rw [if_neg hs]
      rw [show sg (ι0 (t + 1)) e (sk (ι0 (t + 1)) e p) = -1 from if_neg hs] at g1
      obtain ⟨ι', x1, x2⟩ := dk_exit (Z := Z) (d := d) (w := w) oo hP8 i1 (some (.int (nI i)))
      refine ⟨ι', ?_, x2⟩
      rw [g22_18, ← x1]
      simp (decide := true) (maxDischargeDepth := 4) only [g22_19, g22_22, g22_25, g22_26, g22_29, g22_32, g22_33, rz_k_inl, rz_k_inr, Option.toList_some, Option.toList_none, List.cons_append, List.nil_append, List.append_nil, rz_up_s, rz_u_s, rz_up_n, rz_u_n, ne_eq, not_false_eq_true, not_true_eq_false, Nat.add_assoc, Nat.reduceAdd, reduceIte, Nat.add_eq_left, Nat.left_eq_add, Nat.add_left_cancel_iff, Nat.reduceEqDiff, Nat.add_right_cancel_iff, rz_nb0, rz_nb1, rz_nbb, rz_nbi, rz_isr, rz_zle, if_true, if_false, rz_bi0, rz_bi1, Bool.not_eq_true, Bool.not_eq_false, Bool.true_eq_false, Bool.false_eq_true, rz_ix_lit, cl_lit, Nat.reduceLT, bi_t, bi_f, decide_true, decide_false, Bool.not_false, Bool.not_true, Bool.and_true, Bool.true_and, Bool.and_false, Bool.false_and, oDk_c o1, oDk_f0 o1, oDk_v0 o1, oDk_i1 o1, oDk_i2 o1, oDk_i3 o1, oTp_c, oTp_f0, oTp_v0, oTp_i1, oTp_i2, oTp_i3, oTp_i4, oTp_i5, oTp_i6, oTp_a1, oTp_n1, o1, o2, c, g1]
theorem dk_reads {e : Nat} (hst : stH Z h) (o : dkO Z h t a r) (he : ι t 1 = nI e) (hp : ι t 2 = 0) (he6 : e ≤ 600) (hB : ∀ x, ι (t + 1) x ≠ -1) (hr : rl ι r = R00) : match dkS (ι (t + 1)) e 601 0 [] 0 10 0 with
    | .inl s => ∃ ι', rz_f Z (d + 7) 22 [.ref a, .ref r] (rz_mk h ι, w) = some (.inl (some (.int 1)), (rz_mk h ι', w)) ∧ dkE t a r ι ι' s.1 s.2.1 s.2.2
    | .inr f => ∃ ι', rz_f Z (d + 7) 22 [.ref a, .ref r] (rz_mk h ι, w) = some (.inl (some (.int 0)), (rz_mk h ι', w)) ∧ dkN t a r ι ι' f := by
  have oo := o
  obtain ⟨o1, o2, o3, o4, o5, o6⟩ := o
  have hza : Z.2.1 ≤ a := by omega
  have ta : t ≠ a := by omega
  obtain ⟨ι1, h1⟩ : ∃ ι1, rz_up (rz_up (rz_up ι a 1 0) a 2 0) a 3 10 = ι1 := ⟨_, rfl⟩
  have i0 : dkI t a r ι ι1 0 [] 0 10 0 := by
    subst h1
    refine ⟨(((txF.refl t _ ι).up (Or.inl rfl) (by omega)).up (Or.inl rfl) (by omega)).up (Or.inl rfl) (by omega), by rw [rz_up_n ta, rz_up_n ta, rz_up_n ta], by rw [rz_up_n ta, rz_up_n ta, rz_up_n ta], by rw [rz_up_n ta, rz_up_n ta, rz_up_n ta]; exact hp, by simp [rz_up, rz_u]; rfl, by simp [rz_up, rz_u]; rfl, by simp [rz_up, rz_u]; rfl, ?_⟩
    refine (rl_eq ?_ ?_ ?_ ?_).trans hr
    all_goals rw [rz_up_n (by omega), rz_up_n (by omega), rz_up_n (by omega)]
  have L := dk_loop (Z := Z) (d := d) (w := w) (ι0 := ι) hst oo he he6 hB 601 0 [] 0 10 0 ι1 rfl (by omega) (by decide) i0
  revert L
  generalize dkS (ι (t + 1)) e 601 0 [] 0 10 0 = X
  intro L
  have step : rz_f Z (d + 7) 22 [.ref a, .ref r] (rz_mk h ι, w) = rg Z (d + 6) rx_m22 18 [some (.ref a), some (.ref r), some (.int (nI 0))] [] (rz_mk h ι1, w) := by
    rw [e22, show nI 0 = 0 from rfl]
    simp (decide := true) (maxDischargeDepth := 4) only [g22_0, g22_1, g22_2, g22_5, g22_6, g22_7, g22_10, g22_11, g22_13, g22_16, g22_17, rz_k_inl, rz_k_inr, Option.toList_some, Option.toList_none, List.cons_append, List.nil_append, List.append_nil, rz_up_s, rz_u_s, rz_up_n, rz_u_n, ne_eq, not_false_eq_true, not_true_eq_false, Nat.add_assoc, Nat.reduceAdd, reduceIte, Nat.add_eq_left, Nat.left_eq_add, Nat.add_left_cancel_iff, Nat.reduceEqDiff, Nat.add_right_cancel_iff, rz_nb0, rz_nb1, rz_nbb, rz_nbi, rz_isr, rz_zle, if_true, if_false, rz_bi0, rz_bi1, Bool.not_eq_true, Bool.not_eq_false, Bool.true_eq_false, Bool.false_eq_true, rz_ix_lit, cl_lit, Nat.reduceLT, bi_t, bi_f, decide_true, decide_false, Bool.not_false, Bool.not_true, Bool.and_true, Bool.true_and, Bool.and_false, Bool.false_and, oDk_c o1, oDk_f0 o1, oDk_v0 o1, oDk_i1 o1, oDk_i2 o1, oDk_i3 o1, o1, hza, h1]
  cases X with
  | inl s => obtain ⟨ι5, y1, y2⟩ := L; exact ⟨ι5, step.trans y1, y2⟩
  | inr f => obtain ⟨ι5, y1, y2⟩ := L; exact ⟨ι5, step.trans y1, y2⟩
end DUK3
