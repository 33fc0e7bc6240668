/-! the class reads a BOOK to its end -/
section BOOK2
variable {Z : rx_Z} {d : Nat} {h : Nat → Option rx_E} {ι ι0 : Nat → Nat → Int32} {w : Nat × Nat} {t a : Nat}
def bkE (t a : Nat) (ι0 ι : Nat → Nat → Int32) (K : List (Nat × Nat)) : Prop := txF t (fun x => x = a ∨ x = a + 1 ∨ x = a + 2) ι0 ι ∧ ι t 4 = ι0 t 4 ∧ ι t 6 = ι0 t 6 ∧ (∀ q, q < 8 → ι (a + 1) q = bkF K q) ∧ ι a 2 = nI K.length
theorem txF.mono {t : Nat} {Q S : Nat → Prop} {ι ι' : Nat → Nat → Int32} (h : txF t Q ι ι') (hs : ∀ x, Q x → S x) : txF t S ι ι' := ⟨fun x a1 a2 => h.1 x a1 (fun z => a2 (hs x z)), h.2⟩
theorem bk_exit {p : Nat} {K : List (Nat × Nat)} (o : bkO Z h t a) (i : bkI t a ι0 ι K p) (l1 l3 : Option Value) : ∃ ι', rg Z (d + 4) rx_m4 61 [some (.ref a), l1, some (.int (nI K.length)), l3] [] (rz_mk h ι, w) = some (.inl (some (.int 1)), (rz_mk h ι', w)) ∧ bkE t a ι0 ι' K := by
  obtain ⟨o1, o2, o4, o5⟩ := o
  obtain ⟨i1, i2, i3, i4, i5⟩ := i
  have hza : Z.2.1 ≤ a := by omega
  have e8 : Int32.ofNat 8 = (8 : Int32) := rfl
  refine ⟨rz_up (rz_cp ι (a + 2) (a + 1) 0 0 8) a 2 (nI K.length), ?_, ⟨fun x x1 x2 => ?_, ?_, ?_⟩, ?_, ?_, fun q hq => ?_, ?_⟩
  · simp (decide := true) (maxDischargeDepth := 4) only [g4_61, g4_62, g4_65, g4_66, g4_67, g4_70, g4_71, g4_72, g4_75, g4_76, g4_79, g4_80, g4_81, g4_84, g4_85, rz_k_inl, rz_k_inr, Option.toList_some, Option.toList_none, List.cons_append, List.nil_append, List.append_nil, rz_up_s, rz_u_s, rz_up_n, rz_u_n, ne_eq, not_false_eq_true, not_true_eq_false, Nat.add_assoc, Nat.reduceAdd, reduceIte, Nat.add_eq_left, Nat.left_eq_add, Nat.add_left_cancel_iff, Nat.reduceEqDiff, Nat.add_right_cancel_iff, rz_nb0, rz_nb1, rz_nbb, rz_nbi, rz_isr, rz_zle, if_true, if_false, rz_bi0, rz_bi1, Bool.not_eq_true, Bool.not_eq_false, Bool.true_eq_false, Bool.false_eq_true, rz_ix_lit, cl_lit, Nat.reduceLT, bi_t, bi_f, decide_true, decide_false, Bool.not_false, Bool.not_true, Bool.and_true, Bool.true_and, Bool.and_false, Bool.false_and, oBk_c, oBk_f0, oBk_v0, oBk_f1, oBk_v1, oBk_i2, oBk_a1, oBk_n1, oBk_a2, oBk_n2, o1, hza, e8, show ¬ ((0 : Int32) < 0) by decide, show ¬ ((8 : Int32) < 0) by decide, Nat.zero_add, Nat.le_refl]
  · rw [rz_up_n (fun z => x2 (Or.inl z)), rz_cp_n (fun z => x2 (Or.inr (Or.inl z)))]
    exact i1.1 x x1 (fun z => x2 (Or.inr (Or.inr z)))
  · rw [rz_up_n (by omega), rz_cp_n (by omega)]; exact i1.2.1
  · rw [rz_up_n (by omega), rz_cp_n (by omega)]; exact i1.2.2
  · rw [rz_up_n (by omega), rz_cp_n (by omega)]; exact i2
  · rw [rz_up_n (by omega), rz_cp_n (by omega)]; exact i3
  · rw [rz_up_n (by omega), rz_cp_s, va_cpy, if_pos (by omega), ← i5 q hq]
    congr 1; omega
  · rw [rz_up_s, rz_u_s]
theorem bk_loop {e : Nat} (o : bkO Z h t a) (he : ι0 t 1 = nI e) (he6 : e ≤ 600) (hB : ∀ x, ι0 (t + 1) x ≠ -1) : ∀ (k i : Nat) (K : List (Nat × Nat)) (p : Nat) (ι : Nat → Nat → Int32), k + i = 61 → K.length = i → p ≤ e → bkW K → bkI t a ι0 ι K p → match bkS (ι0 (t + 1)) e k K p with
    | .inl s => ∃ ι', rg Z (d + 4) rx_m4 28 [some (.ref a), some (.ref t), some (.int (nI i)), some (.int (nI i))] [] (rz_mk h ι, w) = some (.inl (some (.int 1)), (rz_mk h ι', w)) ∧ bkE t a ι0 ι' s
    | .inr f => ∃ ι', rg Z (d + 4) rx_m4 28 [some (.ref a), some (.ref t), some (.int (nI i)), some (.int (nI i))] [] (rz_mk h ι, w) = some (.inl (some (.int 0)), (rz_mk h ι', w)) ∧ bkN t a ι0 ι' f := by
  intro k
  induction k with
  | zero =>
    intro i K p ι hk hl hpe hW ii
    have ei : i = 61 := by omega
    obtain ⟨ι', x1, x2⟩ := bk_exit (Z := Z) (d := d) (w := w) o ii (some (.ref t)) (some (.int (nI 61)))
    rw [hl, ei] at x1
    refine ⟨ι', ?_, x2⟩
    rw [ei, g4_28, ← x1]
    have c : ((60 : Int32) < nI 61) = True := by simp; decide
    simp (decide := true) (maxDischargeDepth := 4) only [g4_29, g4_31, rz_k_inl, rz_k_inr, Option.toList_some, Option.toList_none, List.cons_append, List.nil_append, List.append_nil, rz_up_s, rz_u_s, rz_up_n, rz_u_n, ne_eq, not_false_eq_true, not_true_eq_false, Nat.add_assoc, Nat.reduceAdd, reduceIte, Nat.add_eq_left, Nat.left_eq_add, Nat.add_left_cancel_iff, Nat.reduceEqDiff, Nat.add_right_cancel_iff, rz_nb0, rz_nb1, rz_nbb, rz_nbi, rz_isr, rz_zle, if_true, if_false, rz_bi0, rz_bi1, Bool.not_eq_true, Bool.not_eq_false, Bool.true_eq_false, Bool.false_eq_true, rz_ix_lit, cl_lit, Nat.reduceLT, bi_t, bi_f, decide_true, decide_false, Bool.not_false, Bool.not_true, Bool.and_true, Bool.true_and, Bool.and_false, Bool.false_and, c]
  | succ k ih =>
    intro i K p ι hk hl hpe hW ii
    have oo := o
    obtain ⟨o1, o2, o4, o5⟩ := o
    have e1 : ι t 1 = nI e := ii.1.2.1.trans he
    have eB := ii.by oo
    have hsk := sk_le (B := ι0 (t + 1)) hpe
    obtain ⟨ι1, g1, g2, -⟩ := tq_next (Z := Z) (d := d + 3) (w := w) o2 o4 e1 ii.2.2.2.1 hpe he6
    rw [eB] at g1 g2
    have i1 := ii.tp oo g2
    have c : ((60 : Int32) < nI i) = False := by rw [nI_Llt (by omega) (by decide)]; simp; omega
    rw [bkS]
    by_cases hs : sk (ι0 (t + 1)) e p < e
    · rw [if_pos hs]
      rw [show sg (ι0 (t + 1)) e (sk (ι0 (t + 1)) e p) = ι0 (t + 1) (sk (ι0 (t + 1)) e p) from if_pos hs] at g1
      have nm1 := hB (sk (ι0 (t + 1)) e p)
      have L := bk_line (Z := Z) (d := d) (w := w) oo he he6 hsk hW i1
      cases x0 : bkL (ι0 (t + 1)) e K (sk (ι0 (t + 1)) e p) with
      | inr f =>
        rw [x0] at L
        obtain ⟨ι2, k1, k2⟩ := L
        refine ⟨ι2, ?_, k2⟩
        rw [g4_28]
        simp (decide := true) (maxDischargeDepth := 4) only [g4_29, g4_31, g4_34, g4_35, g4_38, g4_39, g4_42, g4_43, g4_44, g4_47, g4_50, g4_51, g4_52, g4_55, g4_58, rz_k_inl, rz_k_inr, Option.toList_some, Option.toList_none, List.cons_append, List.nil_append, List.append_nil, rz_up_s, rz_u_s, rz_up_n, rz_u_n, ne_eq, not_false_eq_true, not_true_eq_false, Nat.add_assoc, Nat.reduceAdd, reduceIte, Nat.add_eq_left, Nat.left_eq_add, Nat.add_left_cancel_iff, Nat.reduceEqDiff, Nat.add_right_cancel_iff, rz_nb0, rz_nb1, rz_nbb, rz_nbi, rz_isr, rz_zle, if_true, if_false, rz_bi0, rz_bi1, Bool.not_eq_true, Bool.not_eq_false, Bool.true_eq_false, Bool.false_eq_true, rz_ix_lit, cl_lit, Nat.reduceLT, bi_t, bi_f, decide_true, decide_false, Bool.not_false, Bool.not_true, Bool.and_true, Bool.true_and, Bool.and_false, Bool.false_and, oBk_c, oBk_f0, oBk_v0, oBk_f1, oBk_v1, oBk_i2, oBk_a1, oBk_n1, oBk_a2, oBk_n2, oTp_c, oTp_f0, oTp_v0, oTp_i1, oTp_i2, oTp_i3, oTp_i4, oTp_i5, oTp_i6, oTp_a1, oTp_n1, o1, o2, c, g1, nm1, k1]
      | inl s =>
        rw [x0] at L
        obtain ⟨q1, ι2, k1, i2⟩ := L
        obtain ⟨a1, a2, a3⟩ := bkL_W hsk hW x0
        have sl : s.1.length = i + 1 := by
          unfold bkL at x0
          cases n1 : nmN (ι0 (t + 1)) e 7 (sk (ι0 (t + 1)) e p) with
          | inr f => rw [n1] at x0; cases x0
          | inl x =>
            rw [n1, rB_l] at x0
            split at x0
            · cases n2 : nmN (ι0 (t + 1)) e 99 x.2 with
              | inr f => rw [n2] at x0; cases x0
              | inl y =>
                rw [n2, rB_l] at x0
                cases n3 : smP (ι0 (t + 1)) e 59 y.2 with
                | inr f => rw [n3] at x0; cases x0
                | inl q => rw [n3, rB_l] at x0; cases x0; rw [List.length_append, hl]; rfl
            · cases x0
        have I := ih (i + 1) s.1 s.2 ι2 (by omega) sl a3 a1 i2
        have step : rg Z (d + 4) rx_m4 28 [some (.ref a), some (.ref t), some (.int (nI i)), some (.int (nI i))] [] (rz_mk h ι, w) = rg Z (d + 4) rx_m4 28 [some (.ref a), some (.ref t), some (.int (nI (i + 1))), some (.int (nI (i + 1)))] [] (rz_mk h ι2, w) := by
          rw [g4_28]
          simp (decide := true) (maxDischargeDepth := 4) only [g4_29, g4_31, g4_34, g4_35, g4_38, g4_39, g4_42, g4_43, g4_44, g4_47, g4_50, g4_51, g4_52, g4_55, g4_58, rz_k_inl, rz_k_inr, Option.toList_some, Option.toList_none, List.cons_append, List.nil_append, List.append_nil, rz_up_s, rz_u_s, rz_up_n, rz_u_n, ne_eq, not_false_eq_true, not_true_eq_false, Nat.add_assoc, Nat.reduceAdd, reduceIte, Nat.add_eq_left, Nat.left_eq_add, Nat.add_left_cancel_iff, Nat.reduceEqDiff, Nat.add_right_cancel_iff, rz_nb0, rz_nb1, rz_nbb, rz_nbi, rz_isr, rz_zle, if_true, if_false, rz_bi0, rz_bi1, Bool.not_eq_true, Bool.not_eq_false, Bool.true_eq_false, Bool.false_eq_true, rz_ix_lit, cl_lit, Nat.reduceLT, bi_t, bi_f, decide_true, decide_false, Bool.not_false, Bool.not_true, Bool.and_true, Bool.true_and, Bool.and_false, Bool.false_and, oBk_c, oBk_f0, oBk_v0, oBk_f1, oBk_v1, oBk_i2, oBk_a1, oBk_n1, oBk_a2, oBk_n2, oTp_c, oTp_f0, oTp_v0, oTp_i1, oTp_i2, oTp_i3, oTp_i4, oTp_i5, oTp_i6, oTp_a1, oTp_n1, o1, o2, c, g1, nm1, k1, nI_1]
        rw [rB_l]
        revert I
        generalize bkS (ι0 (t + 1)) e k s.1 s.2 = X
        intro I
        cases X with
        | inl s' => obtain ⟨ι5, y1, y2⟩ := I; exact ⟨ι5, step.trans y1, y2⟩
        | inr f => obtain ⟨ι5, y1, y2⟩ := I; exact ⟨ι5, step.trans y1, y2⟩
    · rw [if_neg hs]
      rw [show sg (ι0 (t + 1)) e (sk (ι0 (t + 1)) e p) = -1 from if_neg hs] at g1
      obtain ⟨ι', x1, x2⟩ := bk_exit (Z := Z) (d := d) (w := w) oo i1 (some (.ref t)) (some (.int (nI i)))
      rw [hl] at x1
      refine ⟨ι', ?_, x2⟩
      rw [g4_28, ← x1]
      simp (decide := true) (maxDischargeDepth := 4) only [g4_29, g4_31, g4_34, g4_35, g4_38, g4_39, rz_k_inl, rz_k_inr, Option.toList_some, Option.toList_none, List.cons_append, List.nil_append, List.append_nil, rz_up_s, rz_u_s, rz_up_n, rz_u_n, ne_eq, not_false_eq_true, not_true_eq_false, Nat.add_assoc, Nat.reduceAdd, reduceIte, Nat.add_eq_left, Nat.left_eq_add, Nat.add_left_cancel_iff, Nat.reduceEqDiff, Nat.add_right_cancel_iff, rz_nb0, rz_nb1, rz_nbb, rz_nbi, rz_isr, rz_zle, if_true, if_false, rz_bi0, rz_bi1, Bool.not_eq_true, Bool.not_eq_false, Bool.true_eq_false, Bool.false_eq_true, rz_ix_lit, cl_lit, Nat.reduceLT, bi_t, bi_f, decide_true, decide_false, Bool.not_false, Bool.not_true, Bool.and_true, Bool.true_and, Bool.and_false, Bool.false_and, oTp_c, oTp_f0, oTp_v0, oTp_i1, oTp_i2, oTp_i3, oTp_i4, oTp_i5, oTp_i6, oTp_a1, oTp_n1, o2, c, g1]
theorem bk_reads {e : Nat} (o : bkO Z h t a) (he : ι t 1 = nI e) (hp : ι t 2 = 0) (he6 : e ≤ 600) (hB : ∀ x, ι (t + 1) x ≠ -1) : match bkS (ι (t + 1)) e 61 [] 0 with
    | .inl s => ∃ ι', rz_f Z (d + 5) 4 [.ref a, .ref t] (rz_mk h ι, w) = some (.inl (some (.int 1)), (rz_mk h ι', w)) ∧ bkE t a ι ι' s
    | .inr f => ∃ ι', rz_f Z (d + 5) 4 [.ref a, .ref t] (rz_mk h ι, w) = some (.inl (some (.int 0)), (rz_mk h ι', w)) ∧ bkN t a ι ι' f := by
  have oo := o
  obtain ⟨o1, o2, o4, o5⟩ := o
  have hza : Z.2.1 ≤ a := by omega
  have e8 : Int32.ofNat 8 = (8 : Int32) := rfl
  have S1 := rz_loopE (fun k => rg Z (d + 4) rx_m4 2 [some (.ref a), some (.ref t), some (.int (nI k)), none] [] (rz_mk h (rz_rw ι (a + 2) (cpK (fun _ => -1) (ι (a + 2)) k)), w)) 8 (by
    intro k hk
    have c : (nI k < 8) = True := by rw [nI_ltL (by omega) (by decide)]; simp [hk]
    have i1 : rz_ix (nI k) 8 := rz_ix_nat hk (by omega)
    have cs := cpK_s (fun _ => -1) (ι (a + 2)) k
    try dsimp only at cs
    try dsimp only
    rw [g4_2]
    simp (decide := true) (maxDischargeDepth := 4) only [g4_3, g4_4, g4_7, g4_8, g4_11, g4_12, g4_15, g4_16, g4_17, g4_18, g4_21, rz_k_inl, rz_k_inr, Option.toList_some, Option.toList_none, List.cons_append, List.nil_append, List.append_nil, rz_up_s, rz_u_s, rz_up_n, rz_u_n, ne_eq, not_false_eq_true, not_true_eq_false, Nat.add_assoc, Nat.reduceAdd, reduceIte, Nat.add_eq_left, Nat.left_eq_add, Nat.add_left_cancel_iff, Nat.reduceEqDiff, Nat.add_right_cancel_iff, rz_nb0, rz_nb1, rz_nbb, rz_nbi, rz_isr, rz_zle, if_true, if_false, rz_bi0, rz_bi1, Bool.not_eq_true, Bool.not_eq_false, Bool.true_eq_false, Bool.false_eq_true, rz_ix_lit, cl_lit, Nat.reduceLT, bi_t, bi_f, decide_true, decide_false, Bool.not_false, Bool.not_true, Bool.and_true, Bool.true_and, Bool.and_false, Bool.false_and, oBk_c, oBk_f0, oBk_v0, oBk_f1, oBk_v1, oBk_i2, oBk_a1, oBk_n1, oBk_a2, oBk_n2, o1, hza, e8, c, i1, nI_cl (show k < 2147483648 by omega), rz_rw_up, cs, nI_1])
  try dsimp only at S1
  rw [cpK_0, rz_rw_id rfl] at S1
  obtain ⟨ι1, e1⟩ : ∃ ι1, rz_rw ι (a + 2) (cpK (fun _ => -1) (ι (a + 2)) 8) = ι1 := ⟨_, rfl⟩
  rw [e1] at S1
  have i0 : bkI t a ι ι1 [] 0 := by
    rw [← e1]
    refine ⟨⟨fun x x1 x2 => rz_rw_n x2, by rw [rz_rw_n (by omega)], by rw [rz_rw_n (by omega)]⟩, by rw [rz_rw_n (by omega)], by rw [rz_rw_n (by omega)], by rw [rz_rw_n (by omega)]; exact hp, fun q hq => ?_⟩
    rw [rz_rw_s]
    unfold cpK
    rw [if_pos hq]
    rfl
  have L := bk_loop (Z := Z) (d := d) (w := w) (ι0 := ι) oo he he6 hB 61 0 [] 0 ι1 rfl rfl (by omega) bkW_nil i0
  have step : rz_f Z (d + 5) 4 [.ref a, .ref t] (rz_mk h ι, w) = rg Z (d + 4) rx_m4 28 [some (.ref a), some (.ref t), some (.int (nI 0)), some (.int (nI 0))] [] (rz_mk h ι1, w) := by
    rw [e4]
    simp (decide := true) (maxDischargeDepth := 4) only [g4_0, g4_1, rz_k_inl, rz_k_inr, Option.toList_some, Option.toList_none, List.cons_append, List.nil_append, List.append_nil, rz_up_s, rz_u_s, rz_up_n, rz_u_n, ne_eq, not_false_eq_true, not_true_eq_false, Nat.add_assoc, Nat.reduceAdd, reduceIte, Nat.add_eq_left, Nat.left_eq_add, Nat.add_left_cancel_iff, Nat.reduceEqDiff, Nat.add_right_cancel_iff, rz_nb0, rz_nb1, rz_nbb, rz_nbi, rz_isr, rz_zle, if_true, if_false, rz_bi0, rz_bi1, Bool.not_eq_true, Bool.not_eq_false, Bool.true_eq_false, Bool.false_eq_true, rz_ix_lit, cl_lit, Nat.reduceLT, bi_t, bi_f, decide_true, decide_false, Bool.not_false, Bool.not_true, Bool.and_true, Bool.true_and, Bool.and_false, Bool.false_and]
    refine (show _ = _ from S1).trans ?_
    rw [g4_2, show nI 0 = 0 from rfl]
    simp (decide := true) (maxDischargeDepth := 4) only [g4_3, g4_4, g4_7, g4_8, g4_24, g4_25, g4_26, g4_27, rz_k_inl, rz_k_inr, Option.toList_some, Option.toList_none, List.cons_append, List.nil_append, List.append_nil, rz_up_s, rz_u_s, rz_up_n, rz_u_n, ne_eq, not_false_eq_true, not_true_eq_false, Nat.add_assoc, Nat.reduceAdd, reduceIte, Nat.add_eq_left, Nat.left_eq_add, Nat.add_left_cancel_iff, Nat.reduceEqDiff, Nat.add_right_cancel_iff, rz_nb0, rz_nb1, rz_nbb, rz_nbi, rz_isr, rz_zle, if_true, if_false, rz_bi0, rz_bi1, Bool.not_eq_true, Bool.not_eq_false, Bool.true_eq_false, Bool.false_eq_true, rz_ix_lit, cl_lit, Nat.reduceLT, bi_t, bi_f, decide_true, decide_false, Bool.not_false, Bool.not_true, Bool.and_true, Bool.true_and, Bool.and_false, Bool.false_and, oBk_c, oBk_f0, oBk_v0, oBk_f1, oBk_v1, oBk_i2, oBk_a1, oBk_n1, oBk_a2, oBk_n2, o1, e8, show (nI 8 < 8) = False by decide]
  revert L
  generalize bkS (ι (t + 1)) e 61 [] 0 = X
  intro L
  cases X with
  | inl s => obtain ⟨ι5, y1, y2⟩ := L; exact ⟨ι5, step.trans y1, y2⟩
  | inr f => obtain ⟨ι5, y1, y2⟩ := L; exact ⟨ι5, step.trans y1, y2⟩
end BOOK2
