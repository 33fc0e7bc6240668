/-! FarthestHeir: like, ask -/
def idK (f : Nat → Int32) : Nat → (Nat → Int32)
  | 0 => f
  | i + 1 => rz_u (idK f i) i (nI i)
theorem idK_at (f : Nat → Int32) : ∀ k i, i < k → idK f k i = nI i
  | 0, i, h => by omega
  | k + 1, i, h => by
    unfold idK
    by_cases e : i = k
    · subst e; rw [rz_u_s]
    · rw [rz_u_n e]; exact idK_at f k i (by omega)
def zrK (f : Nat → Int32) : Nat → (Nat → Int32)
  | 0 => f
  | i + 1 => rz_u (zrK f i) i 0
theorem zrK_at (f : Nat → Int32) : ∀ k i, i < k → zrK f k i = 0
  | 0, i, h => by omega
  | k + 1, i, h => by
    unfold zrK
    by_cases e : i = k
    · subst e; rw [rz_u_s]
    · rw [rz_u_n e]; exact zrK_at f k i (by omega)
theorem wsL_cong (g : Nat → Nat) : ∀ (L : List Nat) (f f' : Nat → Int32) (x : Int32), (∀ k ∈ L, g k < 100) → (∀ i, i < 100 → f i = f' i) → (wsL g L (f, x)).2 = (wsL g L (f', x)).2
  | [], _, _, _, _, _ => rfl
  | k :: L, f, f', x, hg, hf => by
    unfold wsL
    simp only [hf (g k) (hg k List.mem_cons_self)]
    refine wsL_cong g L _ _ _ (fun y hy => hg y (List.mem_cons_of_mem _ hy)) (fun i hi => ?_)
    unfold rz_u
    split
    · rfl
    · exact hf i hi
section CLASS11
variable {Z : rx_Z} {d : Nat} {h : Nat → Option rx_E} {ι : Nat → Nat → Int32} {w : Nat × Nat} {c l r m lv : Nat} {C : List (Nat × Nat)} {R : Nat → Int32} {dk : Option Nat}
theorem gs_seek (q : QC Z h ι c l r C R m dk lv) : ∃ ι', rz_f Z (d + 5) 36 [.ref (c + 23), .ref r, .ref l, .ref (c + 13)] (rz_mk h ι, w) = some (.inl none, (rz_mk h ι', w)) ∧ ftIs ι' c (likL C R m (ι (c + 14)) 8) ∧ fr (gsS c l) ι ι' := by
  have qq := q
  obtain ⟨q1, ⟨pv, q2⟩, q3, q4, q5, q6, q7, q8, q9, q10, q11, q12, q13, q14⟩ := q
  have L1 := rz_loopE (fun i => rg Z (d + 4) rx_m36 3 [some (.ref (c + 23)), some (.ref r), some (.ref l), some (.ref (c + 13)), some (.int (nI i))] [] (rz_mk h (rz_rw ι (c + 26) (idK (ι (c + 26)) i)), w)) 1000 (by
    intro i hi
    have c1 : (nI i < 1000) = True := by rw [nI_ltL (by omega) (by decide)]; simp [hi]
    have i1 : rz_ix (nI i) 1000 := rz_ix_nat hi (by omega)
    try dsimp only
    rw [g36_3]
    simp (decide := true) (maxDischargeDepth := 4) only [g36_0, g36_1, g36_5, g36_8, g36_11, g36_12, g36_15, g36_17, g36_19, g36_20, g36_23, g36_26, g36_27, g36_30, g36_33, g36_34, g36_38, g36_40, g36_43, g36_44, g36_46, g36_49, g36_52, g36_53, g36_54, g36_55, g36_57, g36_58, g36_60, g36_63, g36_66, g36_69, g36_72, rz_k_inl, rz_k_inr, Option.toList_some, Option.toList_none, List.cons_append, List.nil_append, List.append_nil, rz_up_s, rz_u_s, rz_up_n, rz_u_n, ne_eq, not_false_eq_true, not_true_eq_false, Nat.add_assoc, Nat.reduceAdd, reduceIte, Nat.add_eq_left, Nat.left_eq_add, Nat.add_left_cancel_iff, Nat.reduceEqDiff, Nat.add_right_cancel_iff, rz_nb0, rz_nb1, rz_nbb, rz_nbi, rz_isr, rz_zle, if_true, if_false, rz_bi0, rz_bi1, Bool.not_eq_true, Bool.not_eq_false, Bool.true_eq_false, Bool.false_eq_true, rz_ix_lit, cl_lit, Nat.reduceLT, bi_t, bi_f, decide_true, decide_false, Bool.not_false, Bool.not_true, Bool.and_true, Bool.true_and, Bool.and_false, Bool.false_and, oGs_c, oGs_f0, oGs_v0, oGs_f1, oGs_v1, oGs_f2, oGs_v2, oGs_i3, oGs_i4, oGs_i5, oGs_a1, oGs_n1, oGs_a2, oGs_n2, oGs_a3, oGs_n3, q1, q9, c1, i1, nI_cl (show i < 2147483648 by omega), rz_rw_up, nI_1]
    rfl)
  try dsimp only at L1
  rw [show idK (ι (c + 26)) 0 = ι (c + 26) from rfl, rz_rw_id rfl] at L1
  obtain ⟨ι0, hι0⟩ : ∃ ι0, ι0 = rz_up (rz_rw ι (c + 26) (idK (ι (c + 26)) 1000)) (c + 23) 3 1000 := ⟨_, rfl⟩
  have f0 : fr (gsS c l) ι ι0 := by
    intro a ha
    have n1 : a ≠ c + 23 := fun e => ha (Or.inr (Or.inl e))
    have n2 : a ≠ c + 26 := fun e => ha (Or.inr (Or.inr (Or.inr (Or.inr e))))
    rw [hι0, rz_up_n n1, rz_rw_n n2]
  have F0 : ftIs ι0 c (likL C R m (ι (c + 14)) 0) := by
    have e : likL C R m (ι (c + 14)) 0 = List.range 1000 := by unfold likL lkB; simp
    rw [e]
    refine ⟨?_, by simp, fun j hj => ?_, fun k hk => List.mem_range.mp hk⟩
    · rw [hι0, rz_up_s, rz_u_s, List.length_range]; rfl
    · rw [List.length_range] at hj
      rw [hι0, rz_up_n (by omega), rz_rw_s, idK_at _ 1000 j hj]
      simp [List.getD_eq_getElem?_getD, hj]
  have L := rz_loop (fun p (a : Nat → Nat → Int32) => rg Z (d + 4) rx_m36 36 [some (.ref (c + 23)), some (.ref r), some (.ref l), some (.ref (c + 13)), some (.int (nI p))] [] (rz_mk h a, w)) 8 (fun p a => fr (gsS c l) ι a ∧ ftIs a c (likL C R m (ι (c + 14)) p)) (by
    rintro p ι1 hp ⟨hf, hF⟩
    have qf := qq.fr (hf.mono (fun a ha => gsS_sc q3 ha))
    have c1 : (nI p < 8) = True := by rw [nI_ltL (by omega) (by decide)]; simp [hp]
    have e14 : ι1 (c + 13 + 1) = ι (c + 14) := hf (c + 14) (by unfold gsS lwS; omega)
    have hb := bk_has (Z := Z) (d := d + 2) (w := w) (ι := ι1) q7 hp
    have hb2 := bk_farOf (Z := Z) (d := d + 3) (w := w) (ι := ι1) q7 hp
    rw [e14] at hb hb2
    by_cases hv : ι (c + 14) p = -1
    · refine ⟨ι1, ⟨hf, ?_⟩, ?_⟩
      · have : likL C R m (ι (c + 14)) (p + 1) = likL C R m (ι (c + 14)) p := by unfold likL; congr 1; funext k; rw [lkB]; simp [hv]
        rw [this]; exact hF
      · try dsimp only
        rw [g36_36]
        simp (decide := true) (maxDischargeDepth := 4) only [g36_0, g36_1, g36_5, g36_8, g36_11, g36_12, g36_15, g36_17, g36_19, g36_20, g36_23, g36_26, g36_27, g36_30, g36_33, g36_34, g36_38, g36_40, g36_43, g36_44, g36_46, g36_49, g36_52, g36_53, g36_54, g36_55, g36_57, g36_58, g36_60, g36_63, g36_66, g36_69, g36_72, rz_k_inl, rz_k_inr, Option.toList_some, Option.toList_none, List.cons_append, List.nil_append, List.append_nil, rz_up_s, rz_u_s, rz_up_n, rz_u_n, ne_eq, not_false_eq_true, not_true_eq_false, Nat.add_assoc, Nat.reduceAdd, reduceIte, Nat.add_eq_left, Nat.left_eq_add, Nat.add_left_cancel_iff, Nat.reduceEqDiff, Nat.add_right_cancel_iff, rz_nb0, rz_nb1, rz_nbb, rz_nbi, rz_isr, rz_zle, if_true, if_false, rz_bi0, rz_bi1, Bool.not_eq_true, Bool.not_eq_false, Bool.true_eq_false, Bool.false_eq_true, rz_ix_lit, cl_lit, Nat.reduceLT, bi_t, bi_f, decide_true, decide_false, Bool.not_false, Bool.not_true, Bool.and_true, Bool.true_and, Bool.and_false, Bool.false_and, oBk_c, oBk_f0, oBk_v0, oBk_f1, oBk_v1, oBk_i2, oBk_a1, oBk_n1, oBk_a2, oBk_n2, q7, c1, hb, hv, nI_1]
    · obtain ⟨ι2, g1, g2, g3⟩ := gs_sift (d := d) (w := w) qf hp (ι (c + 14) p) hF
      refine ⟨ι2, ⟨hf.trans g3, ?_⟩, ?_⟩
      · have : likL C R m (ι (c + 14)) (p + 1) = (likL C R m (ι (c + 14)) p).filter (sfP C R m p (ι (c + 14) p)) := by
          unfold likL
          rw [List.filter_filter]
          congr 1
          funext k
          rw [lkB]
          simp [hv, Bool.and_comm]
        rw [this]; exact g2
      · try dsimp only
        rw [g36_36]
        simp (decide := true) (maxDischargeDepth := 4) only [g36_0, g36_1, g36_5, g36_8, g36_11, g36_12, g36_15, g36_17, g36_19, g36_20, g36_23, g36_26, g36_27, g36_30, g36_33, g36_34, g36_38, g36_40, g36_43, g36_44, g36_46, g36_49, g36_52, g36_53, g36_54, g36_55, g36_57, g36_58, g36_60, g36_63, g36_66, g36_69, g36_72, rz_k_inl, rz_k_inr, Option.toList_some, Option.toList_none, List.cons_append, List.nil_append, List.append_nil, rz_up_s, rz_u_s, rz_up_n, rz_u_n, ne_eq, not_false_eq_true, not_true_eq_false, Nat.add_assoc, Nat.reduceAdd, reduceIte, Nat.add_eq_left, Nat.left_eq_add, Nat.add_left_cancel_iff, Nat.reduceEqDiff, Nat.add_right_cancel_iff, rz_nb0, rz_nb1, rz_nbb, rz_nbi, rz_isr, rz_zle, if_true, if_false, rz_bi0, rz_bi1, Bool.not_eq_true, Bool.not_eq_false, Bool.true_eq_false, Bool.false_eq_true, rz_ix_lit, cl_lit, Nat.reduceLT, bi_t, bi_f, decide_true, decide_false, Bool.not_false, Bool.not_true, Bool.and_true, Bool.true_and, Bool.and_false, Bool.false_and, oBk_c, oBk_f0, oBk_v0, oBk_f1, oBk_v1, oBk_i2, oBk_a1, oBk_n1, oBk_a2, oBk_n2, oGs_c, oGs_f0, oGs_v0, oGs_f1, oGs_v1, oGs_f2, oGs_v2, oGs_i3, oGs_i4, oGs_i5, oGs_a1, oGs_n1, oGs_a2, oGs_n2, oGs_a3, oGs_n3, q7, q9, c1, hb, hb2, hv, g1, nI_1]) 8 0 ι0 (by omega) ⟨f0, F0⟩
  obtain ⟨ι1, ⟨hf, hF⟩, L⟩ := L
  try dsimp only at L
  refine ⟨ι1, ?_, hF, hf⟩
  rw [e36]
  simp (decide := true) (maxDischargeDepth := 4) only [g36_0, g36_1, g36_5, g36_8, g36_11, g36_12, g36_15, g36_17, g36_19, g36_20, g36_23, g36_26, g36_27, g36_30, g36_33, g36_34, g36_38, g36_40, g36_43, g36_44, g36_46, g36_49, g36_52, g36_53, g36_54, g36_55, g36_57, g36_58, g36_60, g36_63, g36_66, g36_69, g36_72, rz_k_inl, rz_k_inr, Option.toList_some, Option.toList_none, List.cons_append, List.nil_append, List.append_nil, rz_up_s, rz_u_s, rz_up_n, rz_u_n, ne_eq, not_false_eq_true, not_true_eq_false, Nat.add_assoc, Nat.reduceAdd, reduceIte, Nat.add_eq_left, Nat.left_eq_add, Nat.add_left_cancel_iff, Nat.reduceEqDiff, Nat.add_right_cancel_iff, rz_nb0, rz_nb1, rz_nbb, rz_nbi, rz_isr, rz_zle, if_true, if_false, rz_bi0, rz_bi1, Bool.not_eq_true, Bool.not_eq_false, Bool.true_eq_false, Bool.false_eq_true, rz_ix_lit, cl_lit, Nat.reduceLT, bi_t, bi_f, decide_true, decide_false, Bool.not_false, Bool.not_true, Bool.and_true, Bool.true_and, Bool.and_false, Bool.false_and]
  refine L1.trans ?_
  rw [g36_3]
  simp (decide := true) (maxDischargeDepth := 4) only [g36_0, g36_1, g36_5, g36_8, g36_11, g36_12, g36_15, g36_17, g36_19, g36_20, g36_23, g36_26, g36_27, g36_30, g36_33, g36_34, g36_38, g36_40, g36_43, g36_44, g36_46, g36_49, g36_52, g36_53, g36_54, g36_55, g36_57, g36_58, g36_60, g36_63, g36_66, g36_69, g36_72, rz_k_inl, rz_k_inr, Option.toList_some, Option.toList_none, List.cons_append, List.nil_append, List.append_nil, rz_up_s, rz_u_s, rz_up_n, rz_u_n, ne_eq, not_false_eq_true, not_true_eq_false, Nat.add_assoc, Nat.reduceAdd, reduceIte, Nat.add_eq_left, Nat.left_eq_add, Nat.add_left_cancel_iff, Nat.reduceEqDiff, Nat.add_right_cancel_iff, rz_nb0, rz_nb1, rz_nbb, rz_nbi, rz_isr, rz_zle, if_true, if_false, rz_bi0, rz_bi1, Bool.not_eq_true, Bool.not_eq_false, Bool.true_eq_false, Bool.false_eq_true, rz_ix_lit, cl_lit, Nat.reduceLT, bi_t, bi_f, decide_true, decide_false, Bool.not_false, Bool.not_true, Bool.and_true, Bool.true_and, Bool.and_false, Bool.false_and, oGs_c, oGs_f0, oGs_v0, oGs_f1, oGs_v1, oGs_f2, oGs_v2, oGs_i3, oGs_i4, oGs_i5, oGs_a1, oGs_n1, oGs_a2, oGs_n2, oGs_a3, oGs_n3, q1, q9, show (nI 1000 < 1000) = False by decide, ← hι0]
  refine L.trans ?_
  rw [g36_36]
  simp (decide := true) (maxDischargeDepth := 4) only [g36_0, g36_1, g36_5, g36_8, g36_11, g36_12, g36_15, g36_17, g36_19, g36_20, g36_23, g36_26, g36_27, g36_30, g36_33, g36_34, g36_38, g36_40, g36_43, g36_44, g36_46, g36_49, g36_52, g36_53, g36_54, g36_55, g36_57, g36_58, g36_60, g36_63, g36_66, g36_69, g36_72, rz_k_inl, rz_k_inr, Option.toList_some, Option.toList_none, List.cons_append, List.nil_append, List.append_nil, rz_up_s, rz_u_s, rz_up_n, rz_u_n, ne_eq, not_false_eq_true, not_true_eq_false, Nat.add_assoc, Nat.reduceAdd, reduceIte, Nat.add_eq_left, Nat.left_eq_add, Nat.add_left_cancel_iff, Nat.reduceEqDiff, Nat.add_right_cancel_iff, rz_nb0, rz_nb1, rz_nbb, rz_nbi, rz_isr, rz_zle, if_true, if_false, rz_bi0, rz_bi1, Bool.not_eq_true, Bool.not_eq_false, Bool.true_eq_false, Bool.false_eq_true, rz_ix_lit, cl_lit, Nat.reduceLT, bi_t, bi_f, decide_true, decide_false, Bool.not_false, Bool.not_true, Bool.and_true, Bool.true_and, Bool.and_false, Bool.false_and, show (nI 8 < 8) = False by decide]
theorem worst_loop (q : QC Z h ι c l r C R m dk lv) {p : Nat} {N : Nat} (hN : N ≤ 1000) : ∀ (rest : List Nat) (i : Nat) (s : (Nat → Int32) × Int32) (ι1 : Nat → Nat → Int32) (l6 : Option Value), i + rest.length = N → (∀ k ∈ rest, k < 1000) → fr (gsS c l) ι ι1 → rgd ι1 c l R p → ι1 (c + 23) 3 = nI N → ι1 (c + 24) = s.1 → (∀ j, j < rest.length → ι1 (c + 26) (i + j) = nI (rest.getD j 0)) → ∃ ι', rg Z (d + 3) rx_m39 45 [some (.ref (c + 23)), some (.ref r), some (.ref l), some (.int (nI p)), some (.int s.2), some (.int (nI i)), l6] [] (rz_mk h ι1, w) = some (.inl (some (.int (wsL (fkN C R p) rest s).2)), (rz_mk h ι', w)) ∧ fr (gsS c l) ι ι' ∧ ι' (c + 23) = ι1 (c + 23) ∧ ι' (c + 26) = ι1 (c + 26) := by
  intro rest
  induction rest with
  | nil =>
    intro i s ι1 l6 hi hr hf hrg hm hs ht
    obtain ⟨q1, ⟨pv, q2⟩, q3, q4, q5, q6, q7, q8, q9, q10, q11, q12, q13, q14⟩ := q.fr (hf.mono (fun a ha => gsS_sc q.2.2.1 ha))
    have hiN : i = N := by simpa using hi
    have cc : (nI i < nI N) = False := by rw [hiN, nI_lt2 (by omega) (by omega)]; simp
    refine ⟨ι1, ?_, hf, rfl, rfl⟩
    rw [g39_45]
    simp (decide := true) (maxDischargeDepth := 4) only [g39_0, g39_1, g39_5, g39_6, g39_9, g39_10, g39_13, g39_14, g39_17, g39_19, g39_20, g39_21, g39_24, g39_27, g39_28, g39_30, g39_31, g39_32, g39_33, g39_36, g39_37, g39_38, g39_39, g39_42, g39_43, g39_47, g39_48, g39_51, g39_54, g39_56, g39_57, g39_60, g39_61, g39_64, g39_65, g39_66, g39_67, g39_70, g39_72, g39_73, g39_76, g39_78, g39_80, g39_83, g39_85, g39_86, g39_89, g39_90, g39_93, g39_94, g39_97, g39_99, g39_100, g39_101, g39_102, g39_103, g39_104, g39_106, g39_107, g39_110, g39_112, g39_113, g39_116, g39_118, g39_121, g39_124, g39_126, rz_k_inl, rz_k_inr, Option.toList_some, Option.toList_none, List.cons_append, List.nil_append, List.append_nil, rz_up_s, rz_u_s, rz_up_n, rz_u_n, ne_eq, not_false_eq_true, not_true_eq_false, Nat.add_assoc, Nat.reduceAdd, reduceIte, Nat.add_eq_left, Nat.left_eq_add, Nat.add_left_cancel_iff, Nat.reduceEqDiff, Nat.add_right_cancel_iff, rz_nb0, rz_nb1, rz_nbb, rz_nbi, rz_isr, rz_zle, if_true, if_false, rz_bi0, rz_bi1, Bool.not_eq_true, Bool.not_eq_false, Bool.true_eq_false, Bool.false_eq_true, rz_ix_lit, cl_lit, Nat.reduceLT, bi_t, bi_f, decide_true, decide_false, Bool.not_false, Bool.not_true, Bool.and_true, Bool.true_and, Bool.and_false, Bool.false_and, oGs_c, oGs_f0, oGs_v0, oGs_f1, oGs_v1, oGs_f2, oGs_v2, oGs_i3, oGs_i4, oGs_i5, oGs_a1, oGs_n1, oGs_a2, oGs_n2, oGs_a3, oGs_n3, q9, hm, cc]
    rfl
  | cons k rest ih =>
    intro i s ι1 l6 hi hr hf hrg hm hs ht
    have hi1 : i < N := by simp at hi; omega
    have qf := q.fr (hf.mono (fun a ha => gsS_sc q.2.2.1 ha))
    obtain ⟨q1, ⟨pv, q2⟩, q3, q4, q5, q6, q7, q8, q9, q10, q11, q12, q13, q14⟩ := q.fr (hf.mono (fun a ha => gsS_sc q.2.2.1 ha))
    have hk := hr k List.mem_cons_self
    have cc : (nI i < nI N) = True := by rw [nI_lt2 (by omega) (by omega)]; simp [hi1]
    have c2 : (nI i < Int32.ofNat 1000) = True := by
      show (nI i < nI 1000) = True
      rw [nI_lt2 (by omega) (by omega)]; simp; omega
    have i1 : rz_ix (nI i) 1000 := rz_ix_nat (by omega) (by omega)
    have hv : ι1 (c + 26) i = nI k := by simpa using ht 0 (by simp)
    obtain ⟨ι2, g1, g2, g3⟩ := gs_kind (d := d) (w := w) qf hrg hk
    obtain ⟨f99, fe⟩ := fkN_ok C R p k
    rw [fe] at g1
    have f2 := hf.trans (g2.mono (fun a ha => Or.inl ha))
    have e23 : ι2 (c + 23) = ι1 (c + 23) := g2 _ (by unfold lwS; omega)
    have e24 : ι2 (c + 24) = s.1 := (g2 _ (by unfold lwS; omega)).trans hs
    have e26 : ι2 (c + 26) = ι1 (c + 26) := g2 _ (by unfold lwS; omega)
    generalize hv9 : fkN C R p k = v at *
    have i2 : rz_ix (nI v) 100 := rz_ix_nat (by omega) (by omega)
    have c3 : (nI v < Int32.ofNat 100) = True := by
      show (nI v < nI 100) = True
      rw [nI_lt2 (by omega) (by omega)]; simp; omega
    obtain ⟨ι3, hι3⟩ : ∃ ι3, ι3 = rz_up ι2 (c + 24) v (s.1 v + 1) := ⟨_, rfl⟩
    have f3 : fr (gsS c l) ι ι3 := by rw [hι3]; exact f2.up (Or.inr (Or.inr (Or.inl rfl)))
    have rg3 : rgd ι3 c l R p := by
      obtain ⟨a1, a2, a3, a4, a5, a6⟩ := g3
      have n1 : c + 25 ≠ c + 24 := by omega
      have n2 : l + 3 ≠ c + 24 := by omega
      refine ⟨fun i hi => ?_, ?_, ?_, ?_, ?_, ?_⟩
      · rw [hι3, rz_up_n n1]; exact a1 i hi
      all_goals (rw [hι3, rz_up_n n2]; assumption)
    have e23' : ι3 (c + 23) = ι1 (c + 23) := by rw [hι3, rz_up_n (by omega)]; exact e23
    have e26' : ι3 (c + 26) = ι1 (c + 26) := by rw [hι3, rz_up_n (by omega)]; exact e26
    obtain ⟨ι', k1, k2, k3, k4⟩ := ih (i + 1) (rz_u s.1 v (s.1 v + 1), if s.2 < s.1 v + 1 then s.1 v + 1 else s.2) ι3 (some (.int (nI v))) (by simp at hi; omega) (fun x hx => hr x (List.mem_cons_of_mem _ hx)) f3 rg3 (by rw [e23']; exact hm) (by rw [hι3, rz_up_s, e24]) (fun j hj => by
      rw [e26', Nat.add_assoc, Nat.add_comm 1 j]
      have := ht (j + 1) (by simp; omega)
      simpa using this)
    refine ⟨ι', ?_, k2, k3.trans e23', k4.trans e26'⟩
    have e24b : ι3 (c + 24) v = s.1 v + 1 := by rw [hι3, rz_up_s, rz_u_s]
    rw [g39_45]
    simp (decide := true) (maxDischargeDepth := 4) only [g39_0, g39_1, g39_5, g39_6, g39_9, g39_10, g39_13, g39_14, g39_17, g39_19, g39_20, g39_21, g39_24, g39_27, g39_28, g39_30, g39_31, g39_32, g39_33, g39_36, g39_37, g39_38, g39_39, g39_42, g39_43, g39_47, g39_48, g39_51, g39_54, g39_56, g39_57, g39_60, g39_61, g39_64, g39_65, g39_66, g39_67, g39_70, g39_72, g39_73, g39_76, g39_78, g39_80, g39_83, g39_85, g39_86, g39_89, g39_90, g39_93, g39_94, g39_97, g39_99, g39_100, g39_101, g39_102, g39_103, g39_104, g39_106, g39_107, g39_110, g39_112, g39_113, g39_116, g39_118, g39_121, g39_124, g39_126, rz_k_inl, rz_k_inr, Option.toList_some, Option.toList_none, List.cons_append, List.nil_append, List.append_nil, rz_up_s, rz_u_s, rz_up_n, rz_u_n, ne_eq, not_false_eq_true, not_true_eq_false, Nat.add_assoc, Nat.reduceAdd, reduceIte, Nat.add_eq_left, Nat.left_eq_add, Nat.add_left_cancel_iff, Nat.reduceEqDiff, Nat.add_right_cancel_iff, rz_nb0, rz_nb1, rz_nbb, rz_nbi, rz_isr, rz_zle, if_true, if_false, rz_bi0, rz_bi1, Bool.not_eq_true, Bool.not_eq_false, Bool.true_eq_false, Bool.false_eq_true, rz_ix_lit, cl_lit, Nat.reduceLT, bi_t, bi_f, decide_true, decide_false, Bool.not_false, Bool.not_true, Bool.and_true, Bool.true_and, Bool.and_false, Bool.false_and, oGs_c, oGs_f0, oGs_v0, oGs_f1, oGs_v1, oGs_f2, oGs_v2, oGs_i3, oGs_i4, oGs_i5, oGs_a1, oGs_n1, oGs_a2, oGs_n2, oGs_a3, oGs_n3, q1, q9, hm, cc, c2, i1, hv, nI_cl (show i < 2147483648 by omega), g1, nI_nn (show v < 2147483648 by omega), c3, i2, nI_cl (show v < 2147483648 by omega), e24, ← hι3, e24b, nI_1]
    rw [k1, wsL, hv9]
theorem gs_worst (q : QC Z h ι c l r C R m dk lv) {p : Nat} (hp : p < 8) {L : List Nat} (hL : ftIs ι c L) : ∃ ι', rz_f Z (d + 4) 39 [.ref (c + 23), .ref r, .ref l, .int (nI p)] (rz_mk h ι, w) = some (.inl (some (.int (wstS C R L p))), (rz_mk h ι', w)) ∧ fr (gsS c l) ι ι' ∧ ι' (c + 23) = ι (c + 23) ∧ ι' (c + 26) = ι (c + 26) := by
  have qq := q
  obtain ⟨q1, ⟨pv, q2⟩, q3, q4, q5, q6, q7, q8, q9, q10, q11, q12, q13, q14⟩ := q
  obtain ⟨l1, l2, l3, l4⟩ := hL
  have L1 := rz_loopE (fun i => rg Z (d + 3) rx_m39 3 [some (.ref (c + 23)), some (.ref r), some (.ref l), some (.int (nI p)), some (.int (nI i)), none, none] [] (rz_mk h (rz_rw ι (c + 24) (zrK (ι (c + 24)) i)), w)) 100 (by
    intro i hi
    have c1 : (nI i < Int32.ofNat 100) = True := by
      show (nI i < nI 100) = True
      rw [nI_lt2 (by omega) (by omega)]; simp [hi]
    have i1 : rz_ix (nI i) 100 := rz_ix_nat hi (by omega)
    try dsimp only
    rw [g39_3]
    simp (decide := true) (maxDischargeDepth := 4) only [g39_0, g39_1, g39_5, g39_6, g39_9, g39_10, g39_13, g39_14, g39_17, g39_19, g39_20, g39_21, g39_24, g39_27, g39_28, g39_30, g39_31, g39_32, g39_33, g39_36, g39_37, g39_38, g39_39, g39_42, g39_43, g39_47, g39_48, g39_51, g39_54, g39_56, g39_57, g39_60, g39_61, g39_64, g39_65, g39_66, g39_67, g39_70, g39_72, g39_73, g39_76, g39_78, g39_80, g39_83, g39_85, g39_86, g39_89, g39_90, g39_93, g39_94, g39_97, g39_99, g39_100, g39_101, g39_102, g39_103, g39_104, g39_106, g39_107, g39_110, g39_112, g39_113, g39_116, g39_118, g39_121, g39_124, g39_126, rz_k_inl, rz_k_inr, Option.toList_some, Option.toList_none, List.cons_append, List.nil_append, List.append_nil, rz_up_s, rz_u_s, rz_up_n, rz_u_n, ne_eq, not_false_eq_true, not_true_eq_false, Nat.add_assoc, Nat.reduceAdd, reduceIte, Nat.add_eq_left, Nat.left_eq_add, Nat.add_left_cancel_iff, Nat.reduceEqDiff, Nat.add_right_cancel_iff, rz_nb0, rz_nb1, rz_nbb, rz_nbi, rz_isr, rz_zle, if_true, if_false, rz_bi0, rz_bi1, Bool.not_eq_true, Bool.not_eq_false, Bool.true_eq_false, Bool.false_eq_true, rz_ix_lit, cl_lit, Nat.reduceLT, bi_t, bi_f, decide_true, decide_false, Bool.not_false, Bool.not_true, Bool.and_true, Bool.true_and, Bool.and_false, Bool.false_and, oGs_c, oGs_f0, oGs_v0, oGs_f1, oGs_v1, oGs_f2, oGs_v2, oGs_i3, oGs_i4, oGs_i5, oGs_a1, oGs_n1, oGs_a2, oGs_n2, oGs_a3, oGs_n3, q1, q9, c1, i1, nI_cl (show i < 2147483648 by omega), rz_rw_up, nI_1]
    rfl)
  try dsimp only at L1
  rw [show zrK (ι (c + 24)) 0 = ι (c + 24) from rfl, rz_rw_id rfl] at L1
  obtain ⟨ι0, hι0⟩ : ∃ ι0, ι0 = rz_rw ι (c + 24) (zrK (ι (c + 24)) 100) := ⟨_, rfl⟩
  rw [← hι0] at L1
  have f0 : fr (gsS c l) ι ι0 := fun a ha => by
    rw [hι0]; exact rz_rw_n (fun e => ha (Or.inr (Or.inr (Or.inl e))))
  have qf := qq.fr (f0.mono (fun a ha => gsS_sc q3 ha))
  obtain ⟨ι1, ι2, g1, g2, g3, g4⟩ := gs_regard (d := d + 1) (w := w) qf hp
  have f2 : fr (gsS c l) ι ι2 := f0.trans (g3.mono (fun a ha => by unfold gsS; rcases ha with ha | ha; exact Or.inl ha; exact Or.inr (Or.inr (Or.inr (Or.inl ha)))))
  have e23 : ι2 (c + 23) = ι (c + 23) := by rw [g3 (c + 23) (by unfold lwS; omega), hι0, rz_rw_n (by omega)]
  have e24 : ι2 (c + 24) = zrK (ι (c + 24)) 100 := by rw [g3 (c + 24) (by unfold lwS; omega), hι0, rz_rw_s]
  have e26 : ι2 (c + 26) = ι (c + 26) := by rw [g3 (c + 26) (by unfold lwS; omega), hι0, rz_rw_n (by omega)]
  obtain ⟨ι', k1, k2, k3, k4⟩ := worst_loop (d := d) (w := w) (p := p) qq l2 L 0 (zrK (ι (c + 24)) 100, 0) ι2 none (by omega) l4 f2 g4 (by rw [e23]; exact l1) e24 (fun j hj => by rw [e26, Nat.zero_add]; exact l3 j hj)
  have ew : (wsL (fkN C R p) L (zrK (ι (c + 24)) 100, 0)).2 = wstS C R L p := wsL_cong _ L _ _ 0 (fun k _ => by have := (fkN_ok C R p k).1; omega) (fun i hi => zrK_at _ 100 i hi)
  rw [ew] at k1
  refine ⟨ι', ?_, k2, k3.trans e23, k4.trans e26⟩
  rw [e39]
  simp (decide := true) (maxDischargeDepth := 4) only [g39_0, g39_1, g39_5, g39_6, g39_9, g39_10, g39_13, g39_14, g39_17, g39_19, g39_20, g39_21, g39_24, g39_27, g39_28, g39_30, g39_31, g39_32, g39_33, g39_36, g39_37, g39_38, g39_39, g39_42, g39_43, g39_47, g39_48, g39_51, g39_54, g39_56, g39_57, g39_60, g39_61, g39_64, g39_65, g39_66, g39_67, g39_70, g39_72, g39_73, g39_76, g39_78, g39_80, g39_83, g39_85, g39_86, g39_89, g39_90, g39_93, g39_94, g39_97, g39_99, g39_100, g39_101, g39_102, g39_103, g39_104, g39_106, g39_107, g39_110, g39_112, g39_113, g39_116, g39_118, g39_121, g39_124, g39_126, rz_k_inl, rz_k_inr, Option.toList_some, Option.toList_none, List.cons_append, List.nil_append, List.append_nil, rz_up_s, rz_u_s, rz_up_n, rz_u_n, ne_eq, not_false_eq_true, not_true_eq_false, Nat.add_assoc, Nat.reduceAdd, reduceIte, Nat.add_eq_left, Nat.left_eq_add, Nat.add_left_cancel_iff, Nat.reduceEqDiff, Nat.add_right_cancel_iff, rz_nb0, rz_nb1, rz_nbb, rz_nbi, rz_isr, rz_zle, if_true, if_false, rz_bi0, rz_bi1, Bool.not_eq_true, Bool.not_eq_false, Bool.true_eq_false, Bool.false_eq_true, rz_ix_lit, cl_lit, Nat.reduceLT, bi_t, bi_f, decide_true, decide_false, Bool.not_false, Bool.not_true, Bool.and_true, Bool.true_and, Bool.and_false, Bool.false_and]
  refine L1.trans ?_
  rw [g39_3]
  simp (decide := true) (maxDischargeDepth := 4) only [g39_0, g39_1, g39_5, g39_6, g39_9, g39_10, g39_13, g39_14, g39_17, g39_19, g39_20, g39_21, g39_24, g39_27, g39_28, g39_30, g39_31, g39_32, g39_33, g39_36, g39_37, g39_38, g39_39, g39_42, g39_43, g39_47, g39_48, g39_51, g39_54, g39_56, g39_57, g39_60, g39_61, g39_64, g39_65, g39_66, g39_67, g39_70, g39_72, g39_73, g39_76, g39_78, g39_80, g39_83, g39_85, g39_86, g39_89, g39_90, g39_93, g39_94, g39_97, g39_99, g39_100, g39_101, g39_102, g39_103, g39_104, g39_106, g39_107, g39_110, g39_112, g39_113, g39_116, g39_118, g39_121, g39_124, g39_126, rz_k_inl, rz_k_inr, Option.toList_some, Option.toList_none, List.cons_append, List.nil_append, List.append_nil, rz_up_s, rz_u_s, rz_up_n, rz_u_n, ne_eq, not_false_eq_true, not_true_eq_false, Nat.add_assoc, Nat.reduceAdd, reduceIte, Nat.add_eq_left, Nat.left_eq_add, Nat.add_left_cancel_iff, Nat.reduceEqDiff, Nat.add_right_cancel_iff, rz_nb0, rz_nb1, rz_nbb, rz_nbi, rz_isr, rz_zle, if_true, if_false, rz_bi0, rz_bi1, Bool.not_eq_true, Bool.not_eq_false, Bool.true_eq_false, Bool.false_eq_true, rz_ix_lit, cl_lit, Nat.reduceLT, bi_t, bi_f, decide_true, decide_false, Bool.not_false, Bool.not_true, Bool.and_true, Bool.true_and, Bool.and_false, Bool.false_and, oGs_c, oGs_f0, oGs_v0, oGs_f1, oGs_v1, oGs_f2, oGs_v2, oGs_i3, oGs_i4, oGs_i5, oGs_a1, oGs_n1, oGs_a2, oGs_n2, oGs_a3, oGs_n3, oLw_c, oLw_f0, oLw_v0, oLw_f1, oLw_v1, oLw_f2, oLw_v2, oLw_i3, oLw_a1, oLw_n1, oLw_a2, oLw_n2, oLw_a3, oLw_n3, q5, q9, show (nI 100 < Int32.ofNat 100) = False by decide, g1, g2]
  exact k1
theorem gs_choose (q : QC Z h ι c l r C R m dk lv) {L : List Nat} (hL : ftIs ι c L) : ∃ ι', rz_f Z (d + 5) 38 [.ref (c + 23), .ref r, .ref l, .ref (c + 13)] (rz_mk h ι, w) = some (.inl none, (rz_mk h ι', w)) ∧ fr (gsS c l) ι ι' ∧ ι' (c + 23) 4 = (askS C R (ι (c + 14)) L m).1 ∧ ι' (c + 23) 5 = (askS C R (ι (c + 14)) L m).2 := by
  have qq := q
  obtain ⟨q1, ⟨pv, q2⟩, q3, q4, q5, q6, q7, q8, q9, q10, q11, q12, q13, q14⟩ := q
  have hm8 := q14.2.1
  obtain ⟨ι0, hι0⟩ : ∃ ι0, ι0 = rz_up (rz_up ι (c + 23) 4 (-1)) (c + 23) 5 (-1) := ⟨_, rfl⟩
  have f0 : fr (gsS c l) ι ι0 := by rw [hι0]; exact ((fr.refl ι).up (Or.inr (Or.inl rfl))).up (Or.inr (Or.inl rfl))
  have Lp := rz_loop (fun p (a : (Nat → Nat → Int32) × Option Value) => rg Z (d + 4) rx_m38 13 [some (.ref (c + 23)), some (.ref r), some (.ref l), some (.ref (c + 13)), some (.int (nI p)), a.2] [] (rz_mk h a.1, w)) m (fun p a => fr (gsS c l) ι a.1 ∧ ftIs a.1 c L ∧ a.1 (c + 23) 4 = (askS C R (ι (c + 14)) L p).1 ∧ a.1 (c + 23) 5 = (askS C R (ι (c + 14)) L p).2) (by
    rintro p ⟨ι1, l5⟩ hp ⟨hf, hF, h4, h5⟩
    have hf : fr (gsS c l) ι ι1 := hf
    have hF : ftIs ι1 c L := hF
    have h4 : ι1 (c + 23) 4 = (askS C R (ι (c + 14)) L p).1 := h4
    have h5 : ι1 (c + 23) 5 = (askS C R (ι (c + 14)) L p).2 := h5
    have qf := qq.fr (hf.mono (fun a ha => gsS_sc q3 ha))
    have hm : ι1 r 3 = nI m := by
      have : rl ι1 r 57 = nI m := by rw [qf.2.2.2.2.2.2.2.2.2.2.2.2.1]; exact q14.1
      exact this
    have c1 : (nI p < nI m) = True := by rw [nI_lt2 (by omega) (by omega)]; simp [hp]
    have e14 : ι1 (c + 13 + 1) = ι (c + 14) := hf (c + 14) (by unfold gsS lwS; omega)
    have hb := bk_has (Z := Z) (d := d + 2) (w := w) (ι := ι1) q7 (show p < 8 by omega)
    rw [e14] at hb
    by_cases hv : ι (c + 14) p = -1
    · obtain ⟨ι2, g1, g2, g3, g4⟩ := gs_worst (d := d) (w := w) qf (show p < 8 by omega) hF
      have f2 := hf.trans g2
      have hn : ¬ wstS C R L p = -1 := fun z => by
        have := wsL_nn (fkN C R p) L (fun _ => 0, 0) (by decide)
        unfold wstS at z
        rw [z] at this
        exact this (by decide)
      have a4 : ι2 (c + 23) 4 = (askS C R (ι (c + 14)) L p).1 := by rw [g3]; exact h4
      have a5 : ι2 (c + 23) 5 = (askS C R (ι (c + 14)) L p).2 := by rw [g3]; exact h5
      by_cases hc : (askS C R (ι (c + 14)) L p).1 = -1 ∨ wstS C R L p < (askS C R (ι (c + 14)) L p).2
      · obtain ⟨ι3, hι3⟩ : ∃ ι3, ι3 = rz_up (rz_up ι2 (c + 23) 4 (nI p)) (c + 23) 5 (wstS C R L p) := ⟨_, rfl⟩
        have es : askS C R (ι (c + 14)) L (p + 1) = (nI p, wstS C R L p) := by rw [askS, if_pos ⟨hv, hc⟩]
        refine ⟨(ι3, some (.int (wstS C R L p))), ⟨?_, ?_, ?_, ?_⟩, ?_⟩
        · show fr (gsS c l) ι ι3
          rw [hι3]; exact (f2.up (Or.inr (Or.inl rfl))).up (Or.inr (Or.inl rfl))
        · show ftIs ι3 c L
          obtain ⟨l1, l2, l3, l4⟩ := hF
          refine ⟨?_, l2, fun j hj => ?_, l4⟩
          · rw [hι3, rz_up_s, rz_u_n (by decide), rz_up_s, rz_u_n (by decide), g3]; exact l1
          · rw [hι3, rz_up_n (by omega), rz_up_n (by omega), g4]; exact l3 j hj
        · show ι3 (c + 23) 4 = _
          rw [hι3, rz_up_s, rz_u_n (by decide), rz_up_s, rz_u_s, es]
        · show ι3 (c + 23) 5 = _
          rw [hι3, rz_up_s, rz_u_s, es]
        · try dsimp only
          rw [g38_13]
          rcases hc with hc | hc
          · simp (decide := true) (maxDischargeDepth := 4) only [g38_0, g38_1, g38_2, g38_5, g38_6, g38_7, g38_10, g38_11, g38_15, g38_16, g38_19, g38_22, g38_23, g38_25, g38_28, g38_31, g38_32, g38_35, g38_36, g38_37, g38_38, g38_40, g38_43, g38_45, g38_47, g38_48, g38_51, g38_52, g38_55, g38_56, g38_59, g38_61, g38_62, g38_65, g38_68, g38_69, g38_71, g38_74, g38_75, g38_77, g38_80, g38_83, g38_86, rz_k_inl, rz_k_inr, Option.toList_some, Option.toList_none, List.cons_append, List.nil_append, List.append_nil, rz_up_s, rz_u_s, rz_up_n, rz_u_n, ne_eq, not_false_eq_true, not_true_eq_false, Nat.add_assoc, Nat.reduceAdd, reduceIte, Nat.add_eq_left, Nat.left_eq_add, Nat.add_left_cancel_iff, Nat.reduceEqDiff, Nat.add_right_cancel_iff, rz_nb0, rz_nb1, rz_nbb, rz_nbi, rz_isr, rz_zle, if_true, if_false, rz_bi0, rz_bi1, Bool.not_eq_true, Bool.not_eq_false, Bool.true_eq_false, Bool.false_eq_true, rz_ix_lit, cl_lit, Nat.reduceLT, bi_t, bi_f, decide_true, decide_false, Bool.not_false, Bool.not_true, Bool.and_true, Bool.true_and, Bool.and_false, Bool.false_and, oRl_c, oRl_f0, oRl_v0, oRl_f1, oRl_v1, oRl_f2, oRl_v2, oRl_i3, oRl_i4, oRl_i5, oRl_i6, oRl_i7, oRl_i8, oRl_a1, oRl_n1, oRl_a2, oRl_n2, oRl_a3, oRl_n3, oBk_c, oBk_f0, oBk_v0, oBk_f1, oBk_v1, oBk_i2, oBk_a1, oBk_n1, oBk_a2, oBk_n2, oGs_c, oGs_f0, oGs_v0, oGs_f1, oGs_v1, oGs_f2, oGs_v2, oGs_i3, oGs_i4, oGs_i5, oGs_a1, oGs_n1, oGs_a2, oGs_n2, oGs_a3, oGs_n3, q1, q6, q7, q9, hm, c1, hb, hv, g1, hn, a4, a5, hc, ← hι3, nI_1]
          · by_cases hc1 : (askS C R (ι (c + 14)) L p).1 = -1
            · simp (decide := true) (maxDischargeDepth := 4) only [g38_0, g38_1, g38_2, g38_5, g38_6, g38_7, g38_10, g38_11, g38_15, g38_16, g38_19, g38_22, g38_23, g38_25, g38_28, g38_31, g38_32, g38_35, g38_36, g38_37, g38_38, g38_40, g38_43, g38_45, g38_47, g38_48, g38_51, g38_52, g38_55, g38_56, g38_59, g38_61, g38_62, g38_65, g38_68, g38_69, g38_71, g38_74, g38_75, g38_77, g38_80, g38_83, g38_86, rz_k_inl, rz_k_inr, Option.toList_some, Option.toList_none, List.cons_append, List.nil_append, List.append_nil, rz_up_s, rz_u_s, rz_up_n, rz_u_n, ne_eq, not_false_eq_true, not_true_eq_false, Nat.add_assoc, Nat.reduceAdd, reduceIte, Nat.add_eq_left, Nat.left_eq_add, Nat.add_left_cancel_iff, Nat.reduceEqDiff, Nat.add_right_cancel_iff, rz_nb0, rz_nb1, rz_nbb, rz_nbi, rz_isr, rz_zle, if_true, if_false, rz_bi0, rz_bi1, Bool.not_eq_true, Bool.not_eq_false, Bool.true_eq_false, Bool.false_eq_true, rz_ix_lit, cl_lit, Nat.reduceLT, bi_t, bi_f, decide_true, decide_false, Bool.not_false, Bool.not_true, Bool.and_true, Bool.true_and, Bool.and_false, Bool.false_and, oRl_c, oRl_f0, oRl_v0, oRl_f1, oRl_v1, oRl_f2, oRl_v2, oRl_i3, oRl_i4, oRl_i5, oRl_i6, oRl_i7, oRl_i8, oRl_a1, oRl_n1, oRl_a2, oRl_n2, oRl_a3, oRl_n3, oBk_c, oBk_f0, oBk_v0, oBk_f1, oBk_v1, oBk_i2, oBk_a1, oBk_n1, oBk_a2, oBk_n2, oGs_c, oGs_f0, oGs_v0, oGs_f1, oGs_v1, oGs_f2, oGs_v2, oGs_i3, oGs_i4, oGs_i5, oGs_a1, oGs_n1, oGs_a2, oGs_n2, oGs_a3, oGs_n3, q1, q6, q7, q9, hm, c1, hb, hv, g1, hn, a4, a5, hc1, ← hι3, nI_1]
            · simp (decide := true) (maxDischargeDepth := 4) only [g38_0, g38_1, g38_2, g38_5, g38_6, g38_7, g38_10, g38_11, g38_15, g38_16, g38_19, g38_22, g38_23, g38_25, g38_28, g38_31, g38_32, g38_35, g38_36, g38_37, g38_38, g38_40, g38_43, g38_45, g38_47, g38_48, g38_51, g38_52, g38_55, g38_56, g38_59, g38_61, g38_62, g38_65, g38_68, g38_69, g38_71, g38_74, g38_75, g38_77, g38_80, g38_83, g38_86, rz_k_inl, rz_k_inr, Option.toList_some, Option.toList_none, List.cons_append, List.nil_append, List.append_nil, rz_up_s, rz_u_s, rz_up_n, rz_u_n, ne_eq, not_false_eq_true, not_true_eq_false, Nat.add_assoc, Nat.reduceAdd, reduceIte, Nat.add_eq_left, Nat.left_eq_add, Nat.add_left_cancel_iff, Nat.reduceEqDiff, Nat.add_right_cancel_iff, rz_nb0, rz_nb1, rz_nbb, rz_nbi, rz_isr, rz_zle, if_true, if_false, rz_bi0, rz_bi1, Bool.not_eq_true, Bool.not_eq_false, Bool.true_eq_false, Bool.false_eq_true, rz_ix_lit, cl_lit, Nat.reduceLT, bi_t, bi_f, decide_true, decide_false, Bool.not_false, Bool.not_true, Bool.and_true, Bool.true_and, Bool.and_false, Bool.false_and, oRl_c, oRl_f0, oRl_v0, oRl_f1, oRl_v1, oRl_f2, oRl_v2, oRl_i3, oRl_i4, oRl_i5, oRl_i6, oRl_i7, oRl_i8, oRl_a1, oRl_n1, oRl_a2, oRl_n2, oRl_a3, oRl_n3, oBk_c, oBk_f0, oBk_v0, oBk_f1, oBk_v1, oBk_i2, oBk_a1, oBk_n1, oBk_a2, oBk_n2, oGs_c, oGs_f0, oGs_v0, oGs_f1, oGs_v1, oGs_f2, oGs_v2, oGs_i3, oGs_i4, oGs_i5, oGs_a1, oGs_n1, oGs_a2, oGs_n2, oGs_a3, oGs_n3, q1, q6, q7, q9, hm, c1, hb, hv, g1, hn, a4, a5, hc1, hc, ← hι3, nI_1]
      · have es : askS C R (ι (c + 14)) L (p + 1) = askS C R (ι (c + 14)) L p := by rw [askS, if_neg (fun z => hc z.2)]
        refine ⟨(ι2, some (.int (wstS C R L p))), ⟨f2, ?_, by rw [es]; exact a4, by rw [es]; exact a5⟩, ?_⟩
        · show ftIs ι2 c L
          obtain ⟨l1, l2, l3, l4⟩ := hF
          exact ⟨by rw [g3]; exact l1, l2, fun j hj => by rw [g4]; exact l3 j hj, l4⟩
        · have hc1 : ¬ (askS C R (ι (c + 14)) L p).1 = -1 := fun z => hc (Or.inl z)
          have hc2 : ¬ wstS C R L p < (askS C R (ι (c + 14)) L p).2 := fun z => hc (Or.inr z)
          try dsimp only
          rw [g38_13]
          simp (decide := true) (maxDischargeDepth := 4) only [g38_0, g38_1, g38_2, g38_5, g38_6, g38_7, g38_10, g38_11, g38_15, g38_16, g38_19, g38_22, g38_23, g38_25, g38_28, g38_31, g38_32, g38_35, g38_36, g38_37, g38_38, g38_40, g38_43, g38_45, g38_47, g38_48, g38_51, g38_52, g38_55, g38_56, g38_59, g38_61, g38_62, g38_65, g38_68, g38_69, g38_71, g38_74, g38_75, g38_77, g38_80, g38_83, g38_86, rz_k_inl, rz_k_inr, Option.toList_some, Option.toList_none, List.cons_append, List.nil_append, List.append_nil, rz_up_s, rz_u_s, rz_up_n, rz_u_n, ne_eq, not_false_eq_true, not_true_eq_false, Nat.add_assoc, Nat.reduceAdd, reduceIte, Nat.add_eq_left, Nat.left_eq_add, Nat.add_left_cancel_iff, Nat.reduceEqDiff, Nat.add_right_cancel_iff, rz_nb0, rz_nb1, rz_nbb, rz_nbi, rz_isr, rz_zle, if_true, if_false, rz_bi0, rz_bi1, Bool.not_eq_true, Bool.not_eq_false, Bool.true_eq_false, Bool.false_eq_true, rz_ix_lit, cl_lit, Nat.reduceLT, bi_t, bi_f, decide_true, decide_false, Bool.not_false, Bool.not_true, Bool.and_true, Bool.true_and, Bool.and_false, Bool.false_and, oRl_c, oRl_f0, oRl_v0, oRl_f1, oRl_v1, oRl_f2, oRl_v2, oRl_i3, oRl_i4, oRl_i5, oRl_i6, oRl_i7, oRl_i8, oRl_a1, oRl_n1, oRl_a2, oRl_n2, oRl_a3, oRl_n3, oBk_c, oBk_f0, oBk_v0, oBk_f1, oBk_v1, oBk_i2, oBk_a1, oBk_n1, oBk_a2, oBk_n2, oGs_c, oGs_f0, oGs_v0, oGs_f1, oGs_v1, oGs_f2, oGs_v2, oGs_i3, oGs_i4, oGs_i5, oGs_a1, oGs_n1, oGs_a2, oGs_n2, oGs_a3, oGs_n3, q1, q6, q7, q9, hm, c1, hb, hv, g1, hn, a4, a5, hc1, hc2, nI_1]
    · have es : askS C R (ι (c + 14)) L (p + 1) = askS C R (ι (c + 14)) L p := by rw [askS, if_neg (fun z => hv z.1)]
      refine ⟨(ι1, some (.int (-1))), ⟨hf, hF, by rw [es]; exact h4, by rw [es]; exact h5⟩, ?_⟩
      try dsimp only
      rw [g38_13]
      simp (decide := true) (maxDischargeDepth := 4) only [g38_0, g38_1, g38_2, g38_5, g38_6, g38_7, g38_10, g38_11, g38_15, g38_16, g38_19, g38_22, g38_23, g38_25, g38_28, g38_31, g38_32, g38_35, g38_36, g38_37, g38_38, g38_40, g38_43, g38_45, g38_47, g38_48, g38_51, g38_52, g38_55, g38_56, g38_59, g38_61, g38_62, g38_65, g38_68, g38_69, g38_71, g38_74, g38_75, g38_77, g38_80, g38_83, g38_86, rz_k_inl, rz_k_inr, Option.toList_some, Option.toList_none, List.cons_append, List.nil_append, List.append_nil, rz_up_s, rz_u_s, rz_up_n, rz_u_n, ne_eq, not_false_eq_true, not_true_eq_false, Nat.add_assoc, Nat.reduceAdd, reduceIte, Nat.add_eq_left, Nat.left_eq_add, Nat.add_left_cancel_iff, Nat.reduceEqDiff, Nat.add_right_cancel_iff, rz_nb0, rz_nb1, rz_nbb, rz_nbi, rz_isr, rz_zle, if_true, if_false, rz_bi0, rz_bi1, Bool.not_eq_true, Bool.not_eq_false, Bool.true_eq_false, Bool.false_eq_true, rz_ix_lit, cl_lit, Nat.reduceLT, bi_t, bi_f, decide_true, decide_false, Bool.not_false, Bool.not_true, Bool.and_true, Bool.true_and, Bool.and_false, Bool.false_and, oRl_c, oRl_f0, oRl_v0, oRl_f1, oRl_v1, oRl_f2, oRl_v2, oRl_i3, oRl_i4, oRl_i5, oRl_i6, oRl_i7, oRl_i8, oRl_a1, oRl_n1, oRl_a2, oRl_n2, oRl_a3, oRl_n3, oBk_c, oBk_f0, oBk_v0, oBk_f1, oBk_v1, oBk_i2, oBk_a1, oBk_n1, oBk_a2, oBk_n2, q6, q7, hm, c1, hb, hv, nI_1]) m 0 (ι0, none) (by omega) ⟨f0, by
        obtain ⟨l1, l2, l3, l4⟩ := hL
        refine ⟨?_, l2, fun j hj => ?_, l4⟩
        · show ι0 (c + 23) 3 = _
          rw [hι0, rz_up_s, rz_u_n (by decide), rz_up_s, rz_u_n (by decide)]; exact l1
        · show ι0 (c + 26) j = _
          rw [hι0, rz_up_n (by omega), rz_up_n (by omega)]; exact l3 j hj, by show ι0 (c + 23) 4 = -1; rw [hι0, rz_up_s, rz_u_n (by decide), rz_up_s, rz_u_s], by show ι0 (c + 23) 5 = -1; rw [hι0, rz_up_s, rz_u_s]⟩
  obtain ⟨⟨ι1, l5⟩, ⟨hf, hF, h4, h5⟩, Lp⟩ := Lp
  have hf : fr (gsS c l) ι ι1 := hf
  try dsimp only at Lp
  have qf := qq.fr (hf.mono (fun a ha => gsS_sc q3 ha))
  have hm : ι1 r 3 = nI m := by
    have : rl ι1 r 57 = nI m := by rw [qf.2.2.2.2.2.2.2.2.2.2.2.2.1]; exact q14.1
    exact this
  have cm : (nI m < nI m) = False := by rw [nI_lt2 (by omega) (by omega)]; simp
  refine ⟨ι1, ?_, hf, h4, h5⟩
  rw [e38]
  simp (decide := true) (maxDischargeDepth := 4) only [g38_0, g38_1, g38_2, g38_5, g38_6, g38_7, g38_10, g38_11, g38_15, g38_16, g38_19, g38_22, g38_23, g38_25, g38_28, g38_31, g38_32, g38_35, g38_36, g38_37, g38_38, g38_40, g38_43, g38_45, g38_47, g38_48, g38_51, g38_52, g38_55, g38_56, g38_59, g38_61, g38_62, g38_65, g38_68, g38_69, g38_71, g38_74, g38_75, g38_77, g38_80, g38_83, g38_86, rz_k_inl, rz_k_inr, Option.toList_some, Option.toList_none, List.cons_append, List.nil_append, List.append_nil, rz_up_s, rz_u_s, rz_up_n, rz_u_n, ne_eq, not_false_eq_true, not_true_eq_false, Nat.add_assoc, Nat.reduceAdd, reduceIte, Nat.add_eq_left, Nat.left_eq_add, Nat.add_left_cancel_iff, Nat.reduceEqDiff, Nat.add_right_cancel_iff, rz_nb0, rz_nb1, rz_nbb, rz_nbi, rz_isr, rz_zle, if_true, if_false, rz_bi0, rz_bi1, Bool.not_eq_true, Bool.not_eq_false, Bool.true_eq_false, Bool.false_eq_true, rz_ix_lit, cl_lit, Nat.reduceLT, bi_t, bi_f, decide_true, decide_false, Bool.not_false, Bool.not_true, Bool.and_true, Bool.true_and, Bool.and_false, Bool.false_and, oGs_c, oGs_f0, oGs_v0, oGs_f1, oGs_v1, oGs_f2, oGs_v2, oGs_i3, oGs_i4, oGs_i5, oGs_a1, oGs_n1, oGs_a2, oGs_n2, oGs_a3, oGs_n3, q1, q9, ← hι0]
  refine Lp.trans ?_
  rw [g38_13]
  simp (decide := true) (maxDischargeDepth := 4) only [g38_0, g38_1, g38_2, g38_5, g38_6, g38_7, g38_10, g38_11, g38_15, g38_16, g38_19, g38_22, g38_23, g38_25, g38_28, g38_31, g38_32, g38_35, g38_36, g38_37, g38_38, g38_40, g38_43, g38_45, g38_47, g38_48, g38_51, g38_52, g38_55, g38_56, g38_59, g38_61, g38_62, g38_65, g38_68, g38_69, g38_71, g38_74, g38_75, g38_77, g38_80, g38_83, g38_86, rz_k_inl, rz_k_inr, Option.toList_some, Option.toList_none, List.cons_append, List.nil_append, List.append_nil, rz_up_s, rz_u_s, rz_up_n, rz_u_n, ne_eq, not_false_eq_true, not_true_eq_false, Nat.add_assoc, Nat.reduceAdd, reduceIte, Nat.add_eq_left, Nat.left_eq_add, Nat.add_left_cancel_iff, Nat.reduceEqDiff, Nat.add_right_cancel_iff, rz_nb0, rz_nb1, rz_nbb, rz_nbi, rz_isr, rz_zle, if_true, if_false, rz_bi0, rz_bi1, Bool.not_eq_true, Bool.not_eq_false, Bool.true_eq_false, Bool.false_eq_true, rz_ix_lit, cl_lit, Nat.reduceLT, bi_t, bi_f, decide_true, decide_false, Bool.not_false, Bool.not_true, Bool.and_true, Bool.true_and, Bool.and_false, Bool.false_and, oRl_c, oRl_f0, oRl_v0, oRl_f1, oRl_v1, oRl_f2, oRl_v2, oRl_i3, oRl_i4, oRl_i5, oRl_i6, oRl_i7, oRl_i8, oRl_a1, oRl_n1, oRl_a2, oRl_n2, oRl_a3, oRl_n3, q6, hm, cm]
theorem cl_like (q : QC Z h ι c l r C R m dk lv) {k : Nat} (hk : k ≤ 1) (hx : inB (nI k) 1 = true) : ansC Z (d + 6) h ι w c 135 [.int (nI k)] (if k = 0 then nI (likL C R m (ι (c + 14)) 8).length else if 0 < (likL C R m (ι (c + 14)) 8).length then nI ((likL C R m (ι (c + 14)) 8).getD 0 0) else -1) := by
  have qq := q
  obtain ⟨q1, ⟨pv, q2⟩, q3, q4, q5, q6, q7, q8, q9, q10, q11, q12, q13, q14⟩ := q
  have hx : (!decide (nI k < 0) && !decide ((1 : Int32) < nI k)) = true := hx
  obtain ⟨ι', g1, ⟨l1, l2, l3, l4⟩, g3⟩ := gs_seek (d := d) (w := w) qq
  generalize likL C R m (ι (c + 14)) 8 = L at *
  refine ⟨ι', ?_, g3.mono (fun a ha => gsS_sc q3 ha)⟩
  rw [e135]
  have : k = 0 ∨ k = 1 := by omega
  rcases this with rfl | rfl
  · simp (decide := true) (maxDischargeDepth := 4) only [g135_0, g135_1, g135_2, g135_3, g135_4, g135_7, g135_10, g135_11, g135_14, g135_15, g135_18, g135_19, g135_22, g135_23, g135_26, g135_29, g135_30, g135_33, g135_34, g135_37, g135_40, g135_41, g135_42, g135_45, g135_48, g135_51, g135_52, g135_55, g135_58, g135_59, g135_60, g135_63, g135_64, rz_k_inl, rz_k_inr, Option.toList_some, Option.toList_none, List.cons_append, List.nil_append, List.append_nil, rz_up_s, rz_u_s, rz_up_n, rz_u_n, ne_eq, not_false_eq_true, not_true_eq_false, Nat.add_assoc, Nat.reduceAdd, reduceIte, Nat.add_eq_left, Nat.left_eq_add, Nat.add_left_cancel_iff, Nat.reduceEqDiff, Nat.add_right_cancel_iff, rz_nb0, rz_nb1, rz_nbb, rz_nbi, rz_isr, rz_zle, if_true, if_false, rz_bi0, rz_bi1, Bool.not_eq_true, Bool.not_eq_false, Bool.true_eq_false, Bool.false_eq_true, rz_ix_lit, cl_lit, Nat.reduceLT, bi_t, bi_f, decide_true, decide_false, Bool.not_false, Bool.not_true, Bool.and_true, Bool.true_and, Bool.and_false, Bool.false_and, oHr_c q2, oHr_f0 q2, oHr_v0 q2, oHr_f1 q2, oHr_v1 q2, oHr_f2 q2, oHr_v2 q2, oHr_f3 q2, oHr_v3 q2, oHr_f4 q2, oHr_v4 q2, oHr_f5 q2, oHr_v5 q2, oHr_f6 q2, oHr_v6 q2, oHr_f7 q2, oHr_v7 q2, oHr_f8 q2, oHr_v8 q2, oHr_f9 q2, oHr_v9 q2, oHr_f10 q2, oHr_v10 q2, oHr_f11 q2, oHr_v11 q2, oHr_f12 q2, oHr_v12 q2, oHr_i13 q2, oHr_i14 q2, oHr_i15 q2, oHr_i16 q2, oHr_i17 q2, oGs_c, oGs_f0, oGs_v0, oGs_f1, oGs_v1, oGs_f2, oGs_v2, oGs_i3, oGs_i4, oGs_i5, oGs_a1, oGs_n1, oGs_a2, oGs_n2, oGs_a3, oGs_n3, q9, hr_within, hx, hr_need1 q2, g1, show nI 0 = 0 from rfl, l1]
  · by_cases hl : 0 < L.length
    · have l30 := l3 0 hl
      simp (decide := true) (maxDischargeDepth := 4) only [g135_0, g135_1, g135_2, g135_3, g135_4, g135_7, g135_10, g135_11, g135_14, g135_15, g135_18, g135_19, g135_22, g135_23, g135_26, g135_29, g135_30, g135_33, g135_34, g135_37, g135_40, g135_41, g135_42, g135_45, g135_48, g135_51, g135_52, g135_55, g135_58, g135_59, g135_60, g135_63, g135_64, rz_k_inl, rz_k_inr, Option.toList_some, Option.toList_none, List.cons_append, List.nil_append, List.append_nil, rz_up_s, rz_u_s, rz_up_n, rz_u_n, ne_eq, not_false_eq_true, not_true_eq_false, Nat.add_assoc, Nat.reduceAdd, reduceIte, Nat.add_eq_left, Nat.left_eq_add, Nat.add_left_cancel_iff, Nat.reduceEqDiff, Nat.add_right_cancel_iff, rz_nb0, rz_nb1, rz_nbb, rz_nbi, rz_isr, rz_zle, if_true, if_false, rz_bi0, rz_bi1, Bool.not_eq_true, Bool.not_eq_false, Bool.true_eq_false, Bool.false_eq_true, rz_ix_lit, cl_lit, Nat.reduceLT, bi_t, bi_f, decide_true, decide_false, Bool.not_false, Bool.not_true, Bool.and_true, Bool.true_and, Bool.and_false, Bool.false_and, oHr_c q2, oHr_f0 q2, oHr_v0 q2, oHr_f1 q2, oHr_v1 q2, oHr_f2 q2, oHr_v2 q2, oHr_f3 q2, oHr_v3 q2, oHr_f4 q2, oHr_v4 q2, oHr_f5 q2, oHr_v5 q2, oHr_f6 q2, oHr_v6 q2, oHr_f7 q2, oHr_v7 q2, oHr_f8 q2, oHr_v8 q2, oHr_f9 q2, oHr_v9 q2, oHr_f10 q2, oHr_v10 q2, oHr_f11 q2, oHr_v11 q2, oHr_f12 q2, oHr_v12 q2, oHr_i13 q2, oHr_i14 q2, oHr_i15 q2, oHr_i16 q2, oHr_i17 q2, oGs_c, oGs_f0, oGs_v0, oGs_f1, oGs_v1, oGs_f2, oGs_v2, oGs_i3, oGs_i4, oGs_i5, oGs_a1, oGs_n1, oGs_a2, oGs_n2, oGs_a3, oGs_n3, q9, hr_within, hx, hr_need1 q2, g1, show nI 1 = 1 from rfl, l1, nI_0lt hl (by omega), l30, hl]
    · have h0 : L.length = 0 := by omega
      simp (decide := true) (maxDischargeDepth := 4) only [g135_0, g135_1, g135_2, g135_3, g135_4, g135_7, g135_10, g135_11, g135_14, g135_15, g135_18, g135_19, g135_22, g135_23, g135_26, g135_29, g135_30, g135_33, g135_34, g135_37, g135_40, g135_41, g135_42, g135_45, g135_48, g135_51, g135_52, g135_55, g135_58, g135_59, g135_60, g135_63, g135_64, rz_k_inl, rz_k_inr, Option.toList_some, Option.toList_none, List.cons_append, List.nil_append, List.append_nil, rz_up_s, rz_u_s, rz_up_n, rz_u_n, ne_eq, not_false_eq_true, not_true_eq_false, Nat.add_assoc, Nat.reduceAdd, reduceIte, Nat.add_eq_left, Nat.left_eq_add, Nat.add_left_cancel_iff, Nat.reduceEqDiff, Nat.add_right_cancel_iff, rz_nb0, rz_nb1, rz_nbb, rz_nbi, rz_isr, rz_zle, if_true, if_false, rz_bi0, rz_bi1, Bool.not_eq_true, Bool.not_eq_false, Bool.true_eq_false, Bool.false_eq_true, rz_ix_lit, cl_lit, Nat.reduceLT, bi_t, bi_f, decide_true, decide_false, Bool.not_false, Bool.not_true, Bool.and_true, Bool.true_and, Bool.and_false, Bool.false_and, oHr_c q2, oHr_f0 q2, oHr_v0 q2, oHr_f1 q2, oHr_v1 q2, oHr_f2 q2, oHr_v2 q2, oHr_f3 q2, oHr_v3 q2, oHr_f4 q2, oHr_v4 q2, oHr_f5 q2, oHr_v5 q2, oHr_f6 q2, oHr_v6 q2, oHr_f7 q2, oHr_v7 q2, oHr_f8 q2, oHr_v8 q2, oHr_f9 q2, oHr_v9 q2, oHr_f10 q2, oHr_v10 q2, oHr_f11 q2, oHr_v11 q2, oHr_f12 q2, oHr_v12 q2, oHr_i13 q2, oHr_i14 q2, oHr_i15 q2, oHr_i16 q2, oHr_i17 q2, oGs_c, oGs_f0, oGs_v0, oGs_f1, oGs_v1, oGs_f2, oGs_v2, oGs_i3, oGs_i4, oGs_i5, oGs_a1, oGs_n1, oGs_a2, oGs_n2, oGs_a3, oGs_n3, q9, hr_within, hx, hr_need1 q2, g1, show nI 1 = 1 from rfl, l1, h0, show ((0 : Int32) < nI 0) = False by decide, Nat.lt_irrefl]
theorem cl_ask (q : QC Z h ι c l r C R m dk lv) {k : Nat} (hk : k ≤ 1) (hx : inB (nI k) 1 = true) : ansC Z (d + 6) h ι w c 136 [.int (nI k)] (if k = 0 then (askS C R (ι (c + 14)) (likL C R m (ι (c + 14)) 8) m).1 else (askS C R (ι (c + 14)) (likL C R m (ι (c + 14)) 8) m).2) := by
  have qq := q
  obtain ⟨q1, ⟨pv, q2⟩, q3, q4, q5, q6, q7, q8, q9, q10, q11, q12, q13, q14⟩ := q
  have hx : (!decide (nI k < 0) && !decide ((1 : Int32) < nI k)) = true := hx
  obtain ⟨ι1, g1, g2, g3⟩ := gs_seek (d := d) (w := w) qq
  have f1 := g3.mono (fun a ha => gsS_sc q3 ha)
  obtain ⟨ι2, k1, k2, k3, k4⟩ := gs_choose (d := d) (w := w) (qq.fr f1) g2
  have e14 : ι1 (c + 14) = ι (c + 14) := g3 (c + 14) (by unfold gsS lwS; omega)
  rw [e14] at k3 k4
  refine ⟨ι2, ?_, f1.trans (k2.mono (fun a ha => gsS_sc q3 ha))⟩
  rw [e136]
  have : k = 0 ∨ k = 1 := by omega
  rcases this with rfl | rfl
  · simp (decide := true) (maxDischargeDepth := 4) only [g136_0, g136_1, g136_2, g136_3, g136_4, g136_7, g136_10, g136_11, g136_14, g136_15, g136_18, g136_19, g136_22, g136_23, g136_26, g136_29, g136_30, g136_33, g136_34, g136_37, g136_38, g136_41, g136_42, g136_45, g136_48, g136_49, g136_52, g136_53, g136_56, g136_59, g136_62, g136_63, g136_66, g136_69, rz_k_inl, rz_k_inr, Option.toList_some, Option.toList_none, List.cons_append, List.nil_append, List.append_nil, rz_up_s, rz_u_s, rz_up_n, rz_u_n, ne_eq, not_false_eq_true, not_true_eq_false, Nat.add_assoc, Nat.reduceAdd, reduceIte, Nat.add_eq_left, Nat.left_eq_add, Nat.add_left_cancel_iff, Nat.reduceEqDiff, Nat.add_right_cancel_iff, rz_nb0, rz_nb1, rz_nbb, rz_nbi, rz_isr, rz_zle, if_true, if_false, rz_bi0, rz_bi1, Bool.not_eq_true, Bool.not_eq_false, Bool.true_eq_false, Bool.false_eq_true, rz_ix_lit, cl_lit, Nat.reduceLT, bi_t, bi_f, decide_true, decide_false, Bool.not_false, Bool.not_true, Bool.and_true, Bool.true_and, Bool.and_false, Bool.false_and, oHr_c q2, oHr_f0 q2, oHr_v0 q2, oHr_f1 q2, oHr_v1 q2, oHr_f2 q2, oHr_v2 q2, oHr_f3 q2, oHr_v3 q2, oHr_f4 q2, oHr_v4 q2, oHr_f5 q2, oHr_v5 q2, oHr_f6 q2, oHr_v6 q2, oHr_f7 q2, oHr_v7 q2, oHr_f8 q2, oHr_v8 q2, oHr_f9 q2, oHr_v9 q2, oHr_f10 q2, oHr_v10 q2, oHr_f11 q2, oHr_v11 q2, oHr_f12 q2, oHr_v12 q2, oHr_i13 q2, oHr_i14 q2, oHr_i15 q2, oHr_i16 q2, oHr_i17 q2, oGs_c, oGs_f0, oGs_v0, oGs_f1, oGs_v1, oGs_f2, oGs_v2, oGs_i3, oGs_i4, oGs_i5, oGs_a1, oGs_n1, oGs_a2, oGs_n2, oGs_a3, oGs_n3, q9, hr_within, hx, hr_need1 q2, g1, k1, show nI 0 = 0 from rfl, k3]
  · simp (decide := true) (maxDischargeDepth := 4) only [g136_0, g136_1, g136_2, g136_3, g136_4, g136_7, g136_10, g136_11, g136_14, g136_15, g136_18, g136_19, g136_22, g136_23, g136_26, g136_29, g136_30, g136_33, g136_34, g136_37, g136_38, g136_41, g136_42, g136_45, g136_48, g136_49, g136_52, g136_53, g136_56, g136_59, g136_62, g136_63, g136_66, g136_69, rz_k_inl, rz_k_inr, Option.toList_some, Option.toList_none, List.cons_append, List.nil_append, List.append_nil, rz_up_s, rz_u_s, rz_up_n, rz_u_n, ne_eq, not_false_eq_true, not_true_eq_false, Nat.add_assoc, Nat.reduceAdd, reduceIte, Nat.add_eq_left, Nat.left_eq_add, Nat.add_left_cancel_iff, Nat.reduceEqDiff, Nat.add_right_cancel_iff, rz_nb0, rz_nb1, rz_nbb, rz_nbi, rz_isr, rz_zle, if_true, if_false, rz_bi0, rz_bi1, Bool.not_eq_true, Bool.not_eq_false, Bool.true_eq_false, Bool.false_eq_true, rz_ix_lit, cl_lit, Nat.reduceLT, bi_t, bi_f, decide_true, decide_false, Bool.not_false, Bool.not_true, Bool.and_true, Bool.true_and, Bool.and_false, Bool.false_and, oHr_c q2, oHr_f0 q2, oHr_v0 q2, oHr_f1 q2, oHr_v1 q2, oHr_f2 q2, oHr_v2 q2, oHr_f3 q2, oHr_v3 q2, oHr_f4 q2, oHr_v4 q2, oHr_f5 q2, oHr_v5 q2, oHr_f6 q2, oHr_v6 q2, oHr_f7 q2, oHr_v7 q2, oHr_f8 q2, oHr_v8 q2, oHr_f9 q2, oHr_v9 q2, oHr_f10 q2, oHr_v10 q2, oHr_f11 q2, oHr_v11 q2, oHr_f12 q2, oHr_v12 q2, oHr_i13 q2, oHr_i14 q2, oHr_i15 q2, oHr_i16 q2, oHr_i17 q2, oGs_c, oGs_f0, oGs_v0, oGs_f1, oGs_v1, oGs_f2, oGs_v2, oGs_i3, oGs_i4, oGs_i5, oGs_a1, oGs_n1, oGs_a2, oGs_n2, oGs_a3, oGs_n3, q9, hr_within, hx, hr_need1 q2, g1, k1, show nI 1 = 1 from rfl, k4]
end CLASS11
