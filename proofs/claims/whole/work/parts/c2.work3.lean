/-! the class reads WORK to its end -/
section WORK3
variable {Z : rx_Z} {d : Nat} {h : Nat → Option rx_E} {ι ι0 : Nat → Nat → Int32} {w : Nat × Nat} {t a : Nat}
def wcE (t a : Nat) (ι0 ι : Nat → Nat → Int32) (T : Nat → TK) (m : Nat) : Prop := txF t (wcQ a) ι0 ι ∧ ι t 4 = ι0 t 4 ∧ ι t 6 = ι0 t 6 ∧ ι a 4 = nI m ∧ ∀ i, i < m → tkI ι a i (T i)
theorem wt1_mem {B : Nat → Int32} {e m p : Nat} {K : List Nat} {T : Nat → TK} {s : WtS} (hk : ∀ k ∈ K, k < m) (h : wt1 B e K T m p = .inl s) : ∀ k ∈ s.1, k < s.2.2.1 := by
  unfold wt1 at h
  split at h
  · obtain ⟨q, h1, h2⟩ := rB_inl h
    cases h2
    intro k hk2
    have := hk k (List.mem_of_mem_tail hk2)
    show k < m + 1
    omega
  · split at h
    · split at h
      · obtain ⟨x, h1, h2⟩ := rB_inl h
        obtain ⟨q, h3, h4⟩ := rB_inl h2
        cases h4
        intro k hk2
        show k < m + 1
        rcases List.mem_cons.mp hk2 with z | z
        · omega
        · have := hk k z; omega
      · cases h
    · obtain ⟨x, h1, h2⟩ := rB_inl h
      obtain ⟨q, h3, h4⟩ := rB_inl h2
      cases h4
      intro k hk2
      have := hk k hk2
      show k < m + 1
      omega
theorem wc_loop {e : Nat} (hst : stH Z h) (O : wcO Z h t a) (he : ι0 t 1 = nI e) (he6 : e ≤ 150) (hB : ∀ x, ι0 (t + 1) x ≠ -1) : ∀ (n : Nat) (K : List Nat) (T : Nat → TK) (m p : Nat) (ι : Nat → Nat → Int32) (i : Nat) (l2 l3 : Option Value), p ≤ e → e - p < n → i ≤ p → K.length ≤ 6 → 9 * m + 5 * K.length ≤ 2 * p → (∀ k ∈ K, k < m) → wcI t a ι0 ι K T m p → match wtR (ι0 (t + 1)) e n K T m p with
    | .inl s => ∃ ι', rg Z (d + 7) rx_m103 12 [some (.ref a), some (.int (nI i)), l2, l3] [] (rz_mk h ι, w) = some (.inl (some (.int 1)), (rz_mk h ι', w)) ∧ wcE t a ι0 ι' s.1 s.2
    | .inr f => ∃ ι', rg Z (d + 7) rx_m103 12 [some (.ref a), some (.int (nI i)), l2, l3] [] (rz_mk h ι, w) = some (.inl (some (.int 0)), (rz_mk h ι', w)) ∧ wcN t a ι0 ι' f := by
  intro n
  induction n with
  | zero => intro K T m p ι i l2 l3 hp hn; omega
  | succ n ih =>
    intro K T m p ι i l2 l3 hpe hn hip hK hm hk ii
    have OO := O
    obtain ⟨o1, o2, o4, o5⟩ := O
    have hsk := sk_le (B := ι0 (t + 1)) hpe
    have e1 : ι t 1 = nI e := ii.1.2.1.trans he
    have eB := ii.by OO
    obtain ⟨ι1, g1, g2, -⟩ := tq_next (Z := Z) (d := d + 6) (w := w) o2 o4 e1 ii.2.2.2.1 hpe (by omega)
    rw [eB] at g1 g2
    have i1 := ii.tp OO g2
    have h5 := i1.2.2.2.2.2.1
    have ci : ((150 : Int32) < nI i) = False := by rw [nI_Llt (by omega) (by decide)]; simp; omega
    have z1 : ¬ ((1 : Int32) = 0) := by decide
    have z2 : ¬ ((93 : Int32) = -1) := by decide
    have z3 : ¬ ((-1 : Int32) = 93) := by decide
    rw [wtR]
    by_cases hA : ¬ sk (ι0 (t + 1)) e p < e ∧ K = []
    · rw [if_pos hA]
      obtain ⟨hs, hK0⟩ := hA
      subst hK0
      have h5 : ι1 a 5 = 0 := h5
      rw [show sg (ι0 (t + 1)) e (sk (ι0 (t + 1)) e p) = -1 from if_neg hs] at g1
      obtain ⟨j1, j2, j3, j4, j5, j6, j7, j8⟩ := i1
      refine ⟨ι1, ?_, j1, j2, j3, j5, j7⟩
      rw [g103_12]
      simp (decide := true) (maxDischargeDepth := 4) only [g103_13, g103_16, g103_19, g103_20, g103_23, g103_26, g103_27, g103_28, g103_29, g103_32, g103_33, g103_36, g103_39, g103_40, rz_k_inl, rz_k_inr, Option.toList_some, Option.toList_none, List.cons_append, List.nil_append, List.append_nil, rz_up_s, rz_u_s, rz_up_n, rz_u_n, ne_eq, not_false_eq_true, not_true_eq_false, Nat.add_assoc, Nat.reduceAdd, reduceIte, Nat.add_eq_left, Nat.left_eq_add, Nat.add_left_cancel_iff, Nat.reduceEqDiff, Nat.add_right_cancel_iff, rz_nb0, rz_nb1, rz_nbb, rz_nbi, rz_isr, rz_zle, if_true, if_false, rz_bi0, rz_bi1, Bool.not_eq_true, Bool.not_eq_false, Bool.true_eq_false, Bool.false_eq_true, rz_ix_lit, cl_lit, Nat.reduceLT, bi_t, bi_f, decide_true, decide_false, Bool.not_false, Bool.not_true, Bool.and_true, Bool.true_and, Bool.and_false, Bool.false_and, oWt_c o1, oWt_f0 o1, oWt_v0 o1, oWt_f1 o1, oWt_v1 o1, oWt_f2 o1, oWt_v2 o1, oWt_f3 o1, oWt_v3 o1, oWt_i4 o1, oWt_i5 o1, oWt_i6 o1, oWt_i7 o1, oWt_i8 o1, oWt_a1 o1, oWt_n1 o1, oWt_a2 o1, oWt_n2 o1, oWt_a3 o1, oWt_n3 o1, oTp_c, oTp_f0, oTp_v0, oTp_i1, oTp_i2, oTp_i3, oTp_i4, oTp_i5, oTp_i6, oTp_a1, oTp_n1, o1, o2, ci, g1, h5]
    · rw [if_neg hA]
      have nxt : ∀ (X : WtS ⊕ (Nat × Nat)), wt1 (ι0 (t + 1)) e K T m p = X → (∀ s, X = .inl s → ∀ ι' l2', rg Z (d + 7) rx_m103 12 [some (.ref a), some (.int (nI i)), l2, l3] [] (rz_mk h ι, w) = rg Z (d + 7) rx_m103 12 [some (.ref a), some (.int (nI (i + 1))), l2', some (.int 1)] [] (rz_mk h ι', w) → wcI t a ι0 ι' s.1 s.2.1 s.2.2.1 s.2.2.2 → match wtR (ι0 (t + 1)) e n s.1 s.2.1 s.2.2.1 s.2.2.2 with
          | .inl s => ∃ ι', rg Z (d + 7) rx_m103 12 [some (.ref a), some (.int (nI i)), l2, l3] [] (rz_mk h ι, w) = some (.inl (some (.int 1)), (rz_mk h ι', w)) ∧ wcE t a ι0 ι' s.1 s.2
          | .inr f => ∃ ι', rg Z (d + 7) rx_m103 12 [some (.ref a), some (.int (nI i)), l2, l3] [] (rz_mk h ι, w) = some (.inl (some (.int 0)), (rz_mk h ι', w)) ∧ wcN t a ι0 ι' f) := by
        intro X hX s hs ι' l2' step i'
        subst hs
        obtain ⟨p1, p2, p3, p4⟩ := wt1_pr hpe hK hm hX
        have M := wt1_mem hk hX
        have I := ih s.1 s.2.1 s.2.2.1 s.2.2.2 ι' (i + 1) l2' (some (.int 1)) p2 (by omega) (by omega) p3 p4 M i'
        revert I
        generalize wtR (ι0 (t + 1)) e n s.1 s.2.1 s.2.2.1 s.2.2.2 = Y
        intro I
        cases Y with
        | inl y => obtain ⟨ι5, y1, y2⟩ := I; exact ⟨ι5, step.trans y1, y2⟩
        | inr f => obtain ⟨ι5, y1, y2⟩ := I; exact ⟨ι5, step.trans y1, y2⟩
      by_cases hC : sg (ι0 (t + 1)) e (sk (ι0 (t + 1)) e p) = 93 ∧ K ≠ []
      · have C : wcC Z h w t a ι0 (d + 7) 104 [.ref a] ι1 (wt1 (ι0 (t + 1)) e K T m p) := by
          unfold wt1
          rw [if_pos hC]
          cases K with
          | nil => exact absurd rfl hC.2
          | cons k K => exact wc_closing (Z := Z) (d := d + 3) (w := w) (K := K) (k := k) OO he (by omega) hpe (by omega) (show K.length < 6 from Nat.lt_of_succ_le hK) (hk k List.mem_cons_self) hC.1 i1
        rw [hC.1] at g1
        have pos : ((0 : Int32) < nI K.length) = True := nI_0lt (by cases K with | nil => exact absurd rfl hC.2 | cons k K => show 0 < K.length + 1; omega) (by omega)
        cases x0 : wt1 (ι0 (t + 1)) e K T m p with
        | inr f =>
          rw [x0] at C
          obtain ⟨ι2, c1, c2⟩ := C
          refine ⟨ι2, ?_, c2⟩
          rw [g103_12]
          simp (decide := true) (maxDischargeDepth := 4) only [g103_13, g103_16, g103_19, g103_20, g103_23, g103_26, g103_27, g103_28, g103_29, g103_32, g103_33, g103_36, g103_39, g103_40, g103_41, g103_42, g103_44, g103_47, g103_48, g103_51, g103_54, g103_55, g103_58, g103_61, g103_62, g103_65, g103_66, g103_67, g103_70, g103_71, g103_72, rz_k_inl, rz_k_inr, Option.toList_some, Option.toList_none, List.cons_append, List.nil_append, List.append_nil, rz_up_s, rz_u_s, rz_up_n, rz_u_n, ne_eq, not_false_eq_true, not_true_eq_false, Nat.add_assoc, Nat.reduceAdd, reduceIte, Nat.add_eq_left, Nat.left_eq_add, Nat.add_left_cancel_iff, Nat.reduceEqDiff, Nat.add_right_cancel_iff, rz_nb0, rz_nb1, rz_nbb, rz_nbi, rz_isr, rz_zle, if_true, if_false, rz_bi0, rz_bi1, Bool.not_eq_true, Bool.not_eq_false, Bool.true_eq_false, Bool.false_eq_true, rz_ix_lit, cl_lit, Nat.reduceLT, bi_t, bi_f, decide_true, decide_false, Bool.not_false, Bool.not_true, Bool.and_true, Bool.true_and, Bool.and_false, Bool.false_and, oWt_c o1, oWt_f0 o1, oWt_v0 o1, oWt_f1 o1, oWt_v1 o1, oWt_f2 o1, oWt_v2 o1, oWt_f3 o1, oWt_v3 o1, oWt_i4 o1, oWt_i5 o1, oWt_i6 o1, oWt_i7 o1, oWt_i8 o1, oWt_a1 o1, oWt_n1 o1, oWt_a2 o1, oWt_n2 o1, oWt_a3 o1, oWt_n3 o1, oTp_c, oTp_f0, oTp_v0, oTp_i1, oTp_i2, oTp_i3, oTp_i4, oTp_i5, oTp_i6, oTp_a1, oTp_n1, o1, o2, ci, g1, z2, h5, pos, c1]
        | inl s =>
          rw [x0] at C
          obtain ⟨ι2, c1, c2⟩ := C
          rw [rB_l]
          refine nxt _ x0 s rfl ι2 (some (.int 93)) ?_ c2
          rw [g103_12]
          simp (decide := true) (maxDischargeDepth := 4) only [g103_13, g103_16, g103_19, g103_20, g103_23, g103_26, g103_27, g103_28, g103_29, g103_32, g103_33, g103_36, g103_39, g103_40, g103_41, g103_42, g103_44, g103_47, g103_48, g103_51, g103_54, g103_55, g103_58, g103_61, g103_62, g103_65, g103_66, g103_67, g103_70, g103_71, g103_72, g103_75, rz_k_inl, rz_k_inr, Option.toList_some, Option.toList_none, List.cons_append, List.nil_append, List.append_nil, rz_up_s, rz_u_s, rz_up_n, rz_u_n, ne_eq, not_false_eq_true, not_true_eq_false, Nat.add_assoc, Nat.reduceAdd, reduceIte, Nat.add_eq_left, Nat.left_eq_add, Nat.add_left_cancel_iff, Nat.reduceEqDiff, Nat.add_right_cancel_iff, rz_nb0, rz_nb1, rz_nbb, rz_nbi, rz_isr, rz_zle, if_true, if_false, rz_bi0, rz_bi1, Bool.not_eq_true, Bool.not_eq_false, Bool.true_eq_false, Bool.false_eq_true, rz_ix_lit, cl_lit, Nat.reduceLT, bi_t, bi_f, decide_true, decide_false, Bool.not_false, Bool.not_true, Bool.and_true, Bool.true_and, Bool.and_false, Bool.false_and, oWt_c o1, oWt_f0 o1, oWt_v0 o1, oWt_f1 o1, oWt_v1 o1, oWt_f2 o1, oWt_v2 o1, oWt_f3 o1, oWt_v3 o1, oWt_i4 o1, oWt_i5 o1, oWt_i6 o1, oWt_i7 o1, oWt_i8 o1, oWt_a1 o1, oWt_n1 o1, oWt_a2 o1, oWt_n2 o1, oWt_a3 o1, oWt_n3 o1, oTp_c, oTp_f0, oTp_v0, oTp_i1, oTp_i2, oTp_i3, oTp_i4, oTp_i5, oTp_i6, oTp_a1, oTp_n1, o1, o2, ci, g1, z2, h5, pos, c1, z1, nI_1]
      · have C : wcC Z h w t a ι0 (d + 7) 105 [.ref a] ι1 (wt1 (ι0 (t + 1)) e K T m p) := by
          unfold wt1
          rw [if_neg hC]
          exact wc_step (Z := Z) (d := d) (w := w) hst OO he (by omega) hpe (by omega) hK i1
        have via : ∃ x : Int32, rg Z (d + 7) rx_m103 12 [some (.ref a), some (.int (nI i)), l2, l3] [] (rz_mk h ι, w) = rg Z (d + 7) rx_m103 61 [some (.ref a), some (.int (nI i)), some (.int x), l3] [] (rz_mk h ι1, w) := by
          by_cases hs : sk (ι0 (t + 1)) e p < e
          · rw [show sg (ι0 (t + 1)) e (sk (ι0 (t + 1)) e p) = ι0 (t + 1) (sk (ι0 (t + 1)) e p) from if_pos hs] at g1 hC
            have nm := hB (sk (ι0 (t + 1)) e p)
            refine ⟨ι0 (t + 1) (sk (ι0 (t + 1)) e p), ?_⟩
            rw [g103_12]
            by_cases h93 : ι0 (t + 1) (sk (ι0 (t + 1)) e p) = 93
            · have K0 : K = [] := Decidable.byContradiction (fun z => hC ⟨h93, z⟩)
              subst K0
              have h5 : ι1 a 5 = 0 := h5
              rw [h93] at g1 ⊢
              simp (decide := true) (maxDischargeDepth := 4) only [g103_13, g103_16, g103_19, g103_20, g103_23, g103_26, g103_27, g103_28, g103_29, g103_32, g103_33, g103_36, g103_39, g103_40, g103_41, g103_42, g103_44, g103_47, g103_48, g103_51, g103_54, g103_55, g103_58, rz_k_inl, rz_k_inr, Option.toList_some, Option.toList_none, List.cons_append, List.nil_append, List.append_nil, rz_up_s, rz_u_s, rz_up_n, rz_u_n, ne_eq, not_false_eq_true, not_true_eq_false, Nat.add_assoc, Nat.reduceAdd, reduceIte, Nat.add_eq_left, Nat.left_eq_add, Nat.add_left_cancel_iff, Nat.reduceEqDiff, Nat.add_right_cancel_iff, rz_nb0, rz_nb1, rz_nbb, rz_nbi, rz_isr, rz_zle, if_true, if_false, rz_bi0, rz_bi1, Bool.not_eq_true, Bool.not_eq_false, Bool.true_eq_false, Bool.false_eq_true, rz_ix_lit, cl_lit, Nat.reduceLT, bi_t, bi_f, decide_true, decide_false, Bool.not_false, Bool.not_true, Bool.and_true, Bool.true_and, Bool.and_false, Bool.false_and, oWt_c o1, oWt_f0 o1, oWt_v0 o1, oWt_f1 o1, oWt_v1 o1, oWt_f2 o1, oWt_v2 o1, oWt_f3 o1, oWt_v3 o1, oWt_i4 o1, oWt_i5 o1, oWt_i6 o1, oWt_i7 o1, oWt_i8 o1, oWt_a1 o1, oWt_n1 o1, oWt_a2 o1, oWt_n2 o1, oWt_a3 o1, oWt_n3 o1, oTp_c, oTp_f0, oTp_v0, oTp_i1, oTp_i2, oTp_i3, oTp_i4, oTp_i5, oTp_i6, oTp_a1, oTp_n1, o1, o2, ci, g1, z2, h5, show ¬ ((0 : Int32) < 0) by decide]
            · simp (decide := true) (maxDischargeDepth := 4) only [g103_13, g103_16, g103_19, g103_20, g103_23, g103_26, g103_27, g103_28, g103_29, g103_32, g103_33, g103_36, g103_39, g103_40, g103_41, g103_42, g103_44, g103_47, g103_48, g103_51, g103_54, g103_55, g103_58, rz_k_inl, rz_k_inr, Option.toList_some, Option.toList_none, List.cons_append, List.nil_append, List.append_nil, rz_up_s, rz_u_s, rz_up_n, rz_u_n, ne_eq, not_false_eq_true, not_true_eq_false, Nat.add_assoc, Nat.reduceAdd, reduceIte, Nat.add_eq_left, Nat.left_eq_add, Nat.add_left_cancel_iff, Nat.reduceEqDiff, Nat.add_right_cancel_iff, rz_nb0, rz_nb1, rz_nbb, rz_nbi, rz_isr, rz_zle, if_true, if_false, rz_bi0, rz_bi1, Bool.not_eq_true, Bool.not_eq_false, Bool.true_eq_false, Bool.false_eq_true, rz_ix_lit, cl_lit, Nat.reduceLT, bi_t, bi_f, decide_true, decide_false, Bool.not_false, Bool.not_true, Bool.and_true, Bool.true_and, Bool.and_false, Bool.false_and, oWt_c o1, oWt_f0 o1, oWt_v0 o1, oWt_f1 o1, oWt_v1 o1, oWt_f2 o1, oWt_v2 o1, oWt_f3 o1, oWt_v3 o1, oWt_i4 o1, oWt_i5 o1, oWt_i6 o1, oWt_i7 o1, oWt_i8 o1, oWt_a1 o1, oWt_n1 o1, oWt_a2 o1, oWt_n2 o1, oWt_a3 o1, oWt_n3 o1, oTp_c, oTp_f0, oTp_v0, oTp_i1, oTp_i2, oTp_i3, oTp_i4, oTp_i5, oTp_i6, oTp_a1, oTp_n1, o1, o2, ci, g1, nm, h93]
          · rw [show sg (ι0 (t + 1)) e (sk (ι0 (t + 1)) e p) = -1 from if_neg hs] at g1
            have K0 : K ≠ [] := fun z => hA ⟨hs, z⟩
            have n0 : (nI K.length = 0) = False := by
              rw [nI_eqL (by omega) (by decide)]
              cases K with
              | nil => exact absurd rfl K0
              | cons k K => simp
            refine ⟨-1, ?_⟩
            rw [g103_12]
            simp (decide := true) (maxDischargeDepth := 4) only [g103_13, g103_16, g103_19, g103_20, g103_23, g103_26, g103_27, g103_28, g103_29, g103_32, g103_33, g103_36, g103_39, g103_40, g103_41, g103_42, g103_44, g103_47, g103_48, g103_51, g103_54, g103_55, g103_58, rz_k_inl, rz_k_inr, Option.toList_some, Option.toList_none, List.cons_append, List.nil_append, List.append_nil, rz_up_s, rz_u_s, rz_up_n, rz_u_n, ne_eq, not_false_eq_true, not_true_eq_false, Nat.add_assoc, Nat.reduceAdd, reduceIte, Nat.add_eq_left, Nat.left_eq_add, Nat.add_left_cancel_iff, Nat.reduceEqDiff, Nat.add_right_cancel_iff, rz_nb0, rz_nb1, rz_nbb, rz_nbi, rz_isr, rz_zle, if_true, if_false, rz_bi0, rz_bi1, Bool.not_eq_true, Bool.not_eq_false, Bool.true_eq_false, Bool.false_eq_true, rz_ix_lit, cl_lit, Nat.reduceLT, bi_t, bi_f, decide_true, decide_false, Bool.not_false, Bool.not_true, Bool.and_true, Bool.true_and, Bool.and_false, Bool.false_and, oWt_c o1, oWt_f0 o1, oWt_v0 o1, oWt_f1 o1, oWt_v1 o1, oWt_f2 o1, oWt_v2 o1, oWt_f3 o1, oWt_v3 o1, oWt_i4 o1, oWt_i5 o1, oWt_i6 o1, oWt_i7 o1, oWt_i8 o1, oWt_a1 o1, oWt_n1 o1, oWt_a2 o1, oWt_n2 o1, oWt_a3 o1, oWt_n3 o1, oTp_c, oTp_f0, oTp_v0, oTp_i1, oTp_i2, oTp_i3, oTp_i4, oTp_i5, oTp_i6, oTp_a1, oTp_n1, o1, o2, ci, g1, h5, n0, z3]
        obtain ⟨x, via⟩ := via
        cases x0 : wt1 (ι0 (t + 1)) e K T m p with
        | inr f =>
          rw [x0] at C
          obtain ⟨ι2, c1, c2⟩ := C
          refine ⟨ι2, ?_, c2⟩
          rw [via]
          simp (decide := true) (maxDischargeDepth := 4) only [g103_61, g103_62, g103_65, g103_66, g103_67, g103_70, g103_71, rz_k_inl, rz_k_inr, Option.toList_some, Option.toList_none, List.cons_append, List.nil_append, List.append_nil, rz_up_s, rz_u_s, rz_up_n, rz_u_n, ne_eq, not_false_eq_true, not_true_eq_false, Nat.add_assoc, Nat.reduceAdd, reduceIte, Nat.add_eq_left, Nat.left_eq_add, Nat.add_left_cancel_iff, Nat.reduceEqDiff, Nat.add_right_cancel_iff, rz_nb0, rz_nb1, rz_nbb, rz_nbi, rz_isr, rz_zle, if_true, if_false, rz_bi0, rz_bi1, Bool.not_eq_true, Bool.not_eq_false, Bool.true_eq_false, Bool.false_eq_true, rz_ix_lit, cl_lit, Nat.reduceLT, bi_t, bi_f, decide_true, decide_false, Bool.not_false, Bool.not_true, Bool.and_true, Bool.true_and, Bool.and_false, Bool.false_and, oWt_c o1, oWt_f0 o1, oWt_v0 o1, oWt_f1 o1, oWt_v1 o1, oWt_f2 o1, oWt_v2 o1, oWt_f3 o1, oWt_v3 o1, oWt_i4 o1, oWt_i5 o1, oWt_i6 o1, oWt_i7 o1, oWt_i8 o1, oWt_a1 o1, oWt_n1 o1, oWt_a2 o1, oWt_n2 o1, oWt_a3 o1, oWt_n3 o1, o1, c1]
        | inl s =>
          rw [x0] at C
          obtain ⟨ι2, c1, c2⟩ := C
          rw [rB_l]
          refine nxt _ x0 s rfl ι2 (some (.int x)) ?_ c2
          rw [via]
          simp (decide := true) (maxDischargeDepth := 4) only [g103_61, g103_62, g103_65, g103_66, g103_67, g103_70, g103_71, g103_72, g103_75, rz_k_inl, rz_k_inr, Option.toList_some, Option.toList_none, List.cons_append, List.nil_append, List.append_nil, rz_up_s, rz_u_s, rz_up_n, rz_u_n, ne_eq, not_false_eq_true, not_true_eq_false, Nat.add_assoc, Nat.reduceAdd, reduceIte, Nat.add_eq_left, Nat.left_eq_add, Nat.add_left_cancel_iff, Nat.reduceEqDiff, Nat.add_right_cancel_iff, rz_nb0, rz_nb1, rz_nbb, rz_nbi, rz_isr, rz_zle, if_true, if_false, rz_bi0, rz_bi1, Bool.not_eq_true, Bool.not_eq_false, Bool.true_eq_false, Bool.false_eq_true, rz_ix_lit, cl_lit, Nat.reduceLT, bi_t, bi_f, decide_true, decide_false, Bool.not_false, Bool.not_true, Bool.and_true, Bool.true_and, Bool.and_false, Bool.false_and, oWt_c o1, oWt_f0 o1, oWt_v0 o1, oWt_f1 o1, oWt_v1 o1, oWt_f2 o1, oWt_v2 o1, oWt_f3 o1, oWt_v3 o1, oWt_i4 o1, oWt_i5 o1, oWt_i6 o1, oWt_i7 o1, oWt_i8 o1, oWt_a1 o1, oWt_n1 o1, oWt_a2 o1, oWt_n2 o1, oWt_a3 o1, oWt_n3 o1, o1, c1, z1, nI_1]
theorem wc_reads {e : Nat} (hst : stH Z h) (O : wcO Z h t a) (he : ι t 1 = nI e) (hp : ι t 2 = 0) (he6 : e ≤ 150) (hB : ∀ x, ι (t + 1) x ≠ -1) : match wtX (ι (t + 1)) e with
    | .inl s => ∃ ι', rz_f Z (d + 8) 103 [.ref a] (rz_mk h ι, w) = some (.inl (some (.int 1)), (rz_mk h ι', w)) ∧ wcE t a ι ι' s.1 s.2
    | .inr f => ∃ ι', rz_f Z (d + 8) 103 [.ref a] (rz_mk h ι, w) = some (.inl (some (.int 0)), (rz_mk h ι', w)) ∧ wcN t a ι ι' f := by
  have OO := O
  obtain ⟨o1, o2, o4, o5⟩ := O
  have hza : Z.2.1 ≤ a := by omega
  obtain ⟨ι1, e1⟩ : ∃ ι1, rz_up (rz_up ι a 4 0) a 5 0 = ι1 := ⟨_, rfl⟩
  have i0 : wcI t a ι ι1 [] T00 0 0 := by
    rw [← e1]
    exact ⟨((txF.refl t _ ι).up (by unfold wcQ; omega) (by omega)).up (by unfold wcQ; omega) (by omega), by rw [rz_up_n (by omega), rz_up_n (by omega)], by rw [rz_up_n (by omega), rz_up_n (by omega)], by rw [rz_up_n (by omega), rz_up_n (by omega)]; exact hp, by rw [rz_up_s, rz_u_n (by omega), rz_up_s, rz_u_s]; rfl, by rw [rz_up_s, rz_u_s]; rfl, fun j hj => by omega, fun j hj => by cases hj⟩
  have L := wc_loop (Z := Z) (d := d) (w := w) (ι0 := ι) hst OO he he6 hB (e + 1) [] T00 0 0 ι1 0 none none (by omega) (by omega) (by omega) (by decide) (by decide) (fun k hk => by cases hk) i0
  have step : rz_f Z (d + 8) 103 [.ref a] (rz_mk h ι, w) = rg Z (d + 7) rx_m103 12 [some (.ref a), some (.int (nI 0)), none, none] [] (rz_mk h ι1, w) := by
    rw [e103, show nI 0 = 0 from rfl]
    simp (decide := true) (maxDischargeDepth := 4) only [g103_0, g103_1, g103_2, g103_5, g103_6, g103_7, g103_10, g103_11, rz_k_inl, rz_k_inr, Option.toList_some, Option.toList_none, List.cons_append, List.nil_append, List.append_nil, rz_up_s, rz_u_s, rz_up_n, rz_u_n, ne_eq, not_false_eq_true, not_true_eq_false, Nat.add_assoc, Nat.reduceAdd, reduceIte, Nat.add_eq_left, Nat.left_eq_add, Nat.add_left_cancel_iff, Nat.reduceEqDiff, Nat.add_right_cancel_iff, rz_nb0, rz_nb1, rz_nbb, rz_nbi, rz_isr, rz_zle, if_true, if_false, rz_bi0, rz_bi1, Bool.not_eq_true, Bool.not_eq_false, Bool.true_eq_false, Bool.false_eq_true, rz_ix_lit, cl_lit, Nat.reduceLT, bi_t, bi_f, decide_true, decide_false, Bool.not_false, Bool.not_true, Bool.and_true, Bool.true_and, Bool.and_false, Bool.false_and, oWt_c o1, oWt_f0 o1, oWt_v0 o1, oWt_f1 o1, oWt_v1 o1, oWt_f2 o1, oWt_v2 o1, oWt_f3 o1, oWt_v3 o1, oWt_i4 o1, oWt_i5 o1, oWt_i6 o1, oWt_i7 o1, oWt_i8 o1, oWt_a1 o1, oWt_n1 o1, oWt_a2 o1, oWt_n2 o1, oWt_a3 o1, oWt_n3 o1, o1, hza, e1]
  unfold wtX
  revert L
  generalize wtR (ι (t + 1)) e (e + 1) [] T00 0 0 = X
  intro L
  cases X with
  | inl s => obtain ⟨ι5, y1, y2⟩ := L; exact ⟨ι5, step.trans y1, y2⟩
  | inr f => obtain ⟨ι5, y1, y2⟩ := L; exact ⟨ι5, step.trans y1, y2⟩
end WORK3
