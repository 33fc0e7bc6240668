/-! the reference: the trial row, YEARS go by on it -/
section REF13
variable {Z : rx_Z} {d : Nat} {h : Nat → Option rx_E} {ι : Nat → Nat → Int32} {w : Nat × Nat} {b m lv : Nat} {C : List (Nat × Nat)} {R : Nat → Int32} {dk : Option Nat}
theorem md_trial (q : QM Z h ι b C R m dk lv) (tr : trM ι b) : rz_f Z (d + 1) 199 [.ref (b + 446), .ref (b + 447)] (rz_mk h ι, w) = some (.inl none, (rz_mk h (rz_rw ι (b + 447) R), w)) ∧ frM b ι (rz_rw ι (b + 447) R) := by
  have hz := q.1
  have g := md_copies (Z := Z) (d := d) (w := w) (ι := ι) (oMd.row q.2.1) (oMd.tri q.2.1) (by omega) (by omega)
  have h0 : ∀ i, 62 ≤ i → R i = 0 := q.2.2.2.2.2.2.2.2.2.2.2.2.2.1
  rw [q.2.2.2.1, cpK_all (fun i hi => by rw [h0 i hi, tr i hi])] at g
  exact ⟨g, (frM.refl b ι).rwT (fun i hi => by rw [h0 i hi, tr i hi])⟩
theorem yrN_62 (hm : m ≤ 8) (n : Nat) {i : Nat} (hi : 62 ≤ i) : yrN R m n i = R i := yrN_n hm (Or.inr ⟨by omega, by omega, by omega⟩) n
theorem mo_ahead_y (q : QM Z h ι b C R m dk lv) (tr : trM ι b) {n k : Nat} (hn : n ≤ 99) : rg Z (d + 3) rx_m241 53 [some (.ref b), some (.int (nI n)), some (.int (nI k)), some (.int 0), none, none] [] (rz_mk h (rz_rw ι (b + 447) R), w) = rg Z (d + 3) rx_m241 71 [some (.ref b), some (.int (nI n)), some (.int (nI k)), some (.int (nI n)), none, none] [] (rz_mk h (rz_rw ι (b + 447) (yrN R m n)), w) ∧ frM b ι (rz_rw ι (b + 447) (yrN R m n)) := by
  have hm8 := q.2.2.2.2.2.1
  have hz := q.1
  have h0 : ∀ i, 62 ≤ i → R i = 0 := q.2.2.2.2.2.2.2.2.2.2.2.2.2.1
  have L := rz_loopE (fun i => rg Z (d + 3) rx_m241 53 [some (.ref b), some (.int (nI n)), some (.int (nI k)), some (.int (nI i)), none, none] [] (rz_mk h (rz_rw ι (b + 447) (yrN R m i)), w)) n (by
    intro i hi
    have c1 : (nI i < nI n) = True := by rw [nI_lt2 (by omega) (by omega)]; simp [hi]
    have y := md_yearEnds (Z := Z) (d := d) (w := w) (ι := rz_rw ι (b + 447) (yrN R m i)) (oMd.tri q.2.1) (by omega) (m := m) (by rw [rz_rw_s, yrN_n hm8 (by omega)]; exact q.2.2.2.2.1) hm8
    rw [rz_rw_s, rz_rw_rw] at y
    try dsimp only
    rw [g241_53]
    simp (decide := true) (maxDischargeDepth := 4) only [g241_0, g241_1, g241_2, g241_5, g241_6, g241_7, g241_8, g241_10, g241_13, g241_16, g241_17, g241_18, g241_19, g241_22, g241_25, g241_26, g241_29, g241_30, g241_31, g241_32, g241_35, g241_38, g241_39, g241_40, g241_41, g241_44, g241_45, g241_48, g241_51, g241_52, g241_54, g241_55, g241_58, g241_59, g241_62, g241_65, g241_68, g241_71, g241_72, g241_73, g241_76, g241_79, g241_80, g241_81, g241_83, g241_84, g241_88, g241_89, g241_92, g241_94, g241_95, g241_98, g241_100, g241_101, g241_104, g241_106, g241_109, g241_112, g241_114, g241_115, g241_118, g241_120, g241_121, g241_124, g241_125, g241_128, g241_130, g241_131, g241_132, g241_135, g241_136, g241_137, g241_140, g241_142, g241_143, g241_146, g241_148, g241_149, g241_152, g241_154, g241_157, g241_158, g241_160, g241_161, g241_164, g241_165, g241_166, g241_168, g241_171, g241_174, g241_175, g241_178, g241_179, g241_182, g241_183, g241_184, g241_187, g241_189, g241_192, g241_193, g241_194, g241_197, g241_198, g241_201, g241_202, g241_203, g241_206, g241_207, g241_208, g241_211, g241_213, g241_214, g241_217, rz_k_inl, rz_k_inr, Option.toList_some, Option.toList_none, List.cons_append, List.nil_append, List.append_nil, rz_up_s, rz_u_s, rz_up_n, rz_u_n, ne_eq, not_false_eq_true, not_true_eq_false, Nat.add_assoc, Nat.reduceAdd, reduceIte, Nat.add_eq_left, Nat.left_eq_add, Nat.add_left_cancel_iff, Nat.reduceEqDiff, Nat.add_right_cancel_iff, rz_nb0, rz_nb1, rz_nbb, rz_nbi, rz_isr, rz_zle, if_true, if_false, rz_bi0, rz_bi1, Bool.not_eq_true, Bool.not_eq_false, Bool.true_eq_false, Bool.false_eq_true, rz_ix_lit, cl_lit, Nat.reduceLT, bi_t, bi_f, decide_true, decide_false, Bool.not_false, Bool.not_true, Bool.and_true, Bool.true_and, Bool.and_false, Bool.false_and, oMd_c, oMd_i0, oMd_i1, oMd_i2, oMd_i3, oMd_i4, oMd_i5, oMd_i6, oMd_i7, oMd_i8, oMd_f9, oMd_v9, oMd_f10, oMd_v10, oMd_f11, oMd_v11, oMd_f12, oMd_v12, oMd_f13, oMd_v13, oMd_f14, oMd_v14, oMd_i15, oMd_i16, oMd_f17, oMd_v17, oMd_f18, oMd_v18, oMd_f19, oMd_v19, oMd_f20, oMd_v20, oMd_f21, oMd_v21, oMd_f22, oMd_v22, oMd_f23, oMd_v23, oMd_i24, oMd_f25, oMd_v25, oMd_f26, oMd_v26, oMd_f27, oMd_v27, oMd_f28, oMd_v28, oMd_i29, oMd_i30, oMd_i31, oMd_i32, oMd_i33, oMd_i34, oMd_i35, oMd_f36, oMd_v36, oMd_f37, oMd_v37, oMd_f38, oMd_v38, oMd_i39, oMd_f40, oMd_v40, oMd_f41, oMd_v41, oMd_i42, oMd_f43, oMd_v43, oMd_i44, oMd_a1, oMd_n1, oMd_a2, oMd_n2, oMd_a3, oMd_n3, oMd_a4, oMd_n4, oMd_a363, oMd_n363, oMd_a364, oMd_n364, oMd_a446, oMd_n446, oMd_a447, oMd_n447, oMd_a469, oMd_n469, oMd_a470, oMd_n470, oMd_a471, oMd_n471, oMd_a472, oMd_n472, oMd_a473, oMd_n473, oMd_a5, oMd_n5, oMd_e5, oMd_ra5, oMd_rn5, oMd_a14, oMd_n14, oMd_e14, oMd_ra14, oMd_rn14, oMd_a23, oMd_n23, oMd_e23, oMd_ra23, oMd_rn23, oMd_a184, oMd_n184, oMd_e184, oMd_ra184, oMd_rn184, oMd_a345, oMd_n345, oMd_e345, oMd_ra345, oMd_rn345, oMd_a354, oMd_n354, oMd_e354, oMd_ra354, oMd_rn354, oMd_a365, oMd_n365, oMd_e365, oMd_ra365, oMd_rn365, oMd_a448, oMd_n448, oMd_e448, oMd_ra448, oMd_rn448, oMd_a465, oMd_n465, oMd_e465, oMd_ra465, oMd_rn465, q.2.1, c1, y, nI_1]
    rfl)
  try dsimp only at L
  rw [show nI 0 = 0 from rfl] at L
  have cn : (nI n < nI n) = False := by rw [nI_lt2 (by omega) (by omega)]; simp
  refine ⟨?_, (frM.refl b ι).rwT (fun i hi => by rw [yrN_62 hm8 n hi, h0 i hi, tr i hi])⟩
  refine Eq.trans ?_ (L.trans ?_)
  · rfl
  · rw [g241_53]
    simp (decide := true) (maxDischargeDepth := 4) only [g241_54, g241_55, rz_k_inl, rz_k_inr, Option.toList_some, Option.toList_none, List.cons_append, List.nil_append, List.append_nil, rz_up_s, rz_u_s, rz_up_n, rz_u_n, ne_eq, not_false_eq_true, not_true_eq_false, Nat.add_assoc, Nat.reduceAdd, reduceIte, Nat.add_eq_left, Nat.left_eq_add, Nat.add_left_cancel_iff, Nat.reduceEqDiff, Nat.add_right_cancel_iff, rz_nb0, rz_nb1, rz_nbb, rz_nbi, rz_isr, rz_zle, if_true, if_false, rz_bi0, rz_bi1, Bool.not_eq_true, Bool.not_eq_false, Bool.true_eq_false, Bool.false_eq_true, rz_ix_lit, cl_lit, Nat.reduceLT, bi_t, bi_f, decide_true, decide_false, Bool.not_false, Bool.not_true, Bool.and_true, Bool.true_and, Bool.and_false, Bool.false_and, cn]
end REF13
