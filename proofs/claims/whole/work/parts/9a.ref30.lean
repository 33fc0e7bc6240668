/-! the reference: pairs, mate -/
def mForm (x : Int32) : Prop := x = -1 ∨ ∃ a, a < 10000 ∧ x = nI a
theorem mForm.mono {M0 : Int32} (h : mForm M0) : ∀ a, a < 10000 → ∀ c, c < 10000 → M0 < nI a → a ≤ c → M0 < nI c := by
  intro a ha c hc h1 h2
  rcases h with e | ⟨x, x1, x2⟩
  · rw [e, nI_m1l (by omega)]; trivial
  · rw [x2, nI_lt2 (by omega) (by omega)] at h1
    rw [x2, nI_lt2 (by omega) (by omega)]
    omega
theorem SS.form {F B : Nat → Int32} {n s : Nat} {M M' : Int32} {MO BM BM' : Nat → Int32} (h : SS F B n s M MO BM M' BM') (hM : mForm M) (hs : s + bNt B n < 10000) : mForm M' := by
  rcases h with ⟨-, h2, -⟩ | ⟨-, h2, -⟩
  · right; exact ⟨_, hs, h2⟩
  · rw [h2]; exact hM
theorem on_odd : ∀ n, n < 256 → (onS (nI n) - onS (nI n) / 2 * 2 = 1) = (popN n % 2 = 1) := by
  have : ∀ n, n < 256 → decide (onS (nI n) - onS (nI n) / 2 * 2 = 1) = decide (popN n % 2 = 1) := by decide +kernel
  intro n hn
  have := this n hn
  apply propext
  constructor
  · intro e; simpa [e] using this.symm
  · intro e; simpa [e] using this
theorem prB_ok (C : List (Nat × Nat)) (R : Nat → Int32) (lv : Nat) : tbOk (meS C R) (prB C R lv) lv := by
  refine ⟨fun i _ => ?_, fun n hn => tbK_rec hn⟩
  unfold meS
  split
  · exact farB_nI C R _ _
  · exact ⟨0, by omega, rfl⟩
section REF30
variable {Z : rx_Z} {d : Nat} {h : Nat → Option rx_E} {ι : Nat → Nat → Int32} {w : Nat × Nat} {b m lv : Nat} {C : List (Nat × Nat)} {R : Nat → Int32} {dk : Option Nat}
theorem md_pairs0 (q : QM Z h ι b C R m dk lv) {odd : Bool} {s : Nat} (hs : s < 10000) {F B : Nat → Int32} (hB : bNt B 0 = 0) : rz_f Z (d + 1) 251 [.ref b, .int 0, .int (bi odd), .int (nI s)] (rz_mk h ι, w) = some (.inl none, (rz_mk h (if ι b 39 < nI s then rz_rw (rz_up ι b 39 (nI s)) (b + 471) (cpK (ι (b + 470)) (ι (b + 471)) 8) else ι), w)) := by
  rw [e251]
  by_cases hc : ι b 39 < nI s
  · have L := rz_loopE (fun i => rg Z d rx_m251 21 [some (.ref b), some (.int 0), some (.int (bi odd)), some (.int (nI s)), some (.int (nI i)), none] [] (rz_mk h (rz_rw (rz_up ι b 39 (nI s)) (b + 471) (cpK (ι (b + 470)) (ι (b + 471)) i)), w)) 8 (by
      intro i hi
      have c1 : (nI i < 8) = True := by rw [nI_ltL (by omega) (by decide)]; simp [hi]
      have i1 : rz_ix (nI i) 8 := rz_ix_nat (by omega) (by omega)
      have r1 : rz_rw (rz_up ι b 39 (nI s)) (b + 471) (cpK (ι (b + 470)) (ι (b + 471)) i) (b + 470) = ι (b + 470) := by rw [rz_rw_n (by omega), rz_up_n (by omega)]
      try dsimp only
      rw [g251_21]
      simp (decide := true) (maxDischargeDepth := 4) only [g251_0, g251_1, g251_4, g251_5, g251_6, g251_9, g251_12, g251_13, g251_14, g251_15, g251_18, g251_19, g251_23, g251_25, g251_28, g251_29, g251_32, g251_34, g251_35, g251_38, g251_40, g251_41, g251_42, g251_45, g251_48, g251_49, g251_50, g251_53, g251_55, g251_58, g251_61, g251_64, g251_67, g251_69, g251_70, g251_71, g251_75, g251_77, g251_80, g251_81, g251_83, g251_86, g251_89, g251_92, g251_93, g251_96, g251_98, g251_100, g251_101, g251_102, g251_105, g251_107, g251_109, g251_110, g251_111, g251_112, g251_113, g251_115, g251_116, g251_117, g251_118, g251_119, g251_120, g251_122, g251_123, g251_124, g251_125, g251_126, g251_127, g251_128, g251_129, g251_130, g251_133, g251_135, g251_137, g251_140, g251_141, g251_144, g251_147, g251_150, g251_151, g251_154, g251_156, g251_157, g251_158, g251_159, g251_162, g251_163, g251_164, g251_165, g251_167, g251_168, g251_169, g251_170, g251_171, g251_172, g251_173, g251_176, rz_k_inl, rz_k_inr, Option.toList_some, Option.toList_none, List.cons_append, List.nil_append, List.append_nil, rz_up_s, rz_u_s, rz_up_n, rz_u_n, ne_eq, not_false_eq_true, not_true_eq_false, Nat.add_assoc, Nat.reduceAdd, reduceIte, Nat.add_eq_left, Nat.left_eq_add, Nat.add_left_cancel_iff, Nat.reduceEqDiff, Nat.add_right_cancel_iff, rz_nb0, rz_nb1, rz_nbb, rz_nbi, rz_isr, rz_zle, if_true, if_false, rz_bi0, rz_bi1, Bool.not_eq_true, Bool.not_eq_false, Bool.true_eq_false, Bool.false_eq_true, rz_ix_lit, cl_lit, Nat.reduceLT, bi_t, bi_f, decide_true, decide_false, Bool.not_false, Bool.not_true, Bool.and_true, Bool.true_and, Bool.and_false, Bool.false_and, oMd_c, oMd_i0, oMd_i1, oMd_i2, oMd_i3, oMd_i4, oMd_i5, oMd_i6, oMd_i7, oMd_i8, oMd_f9, oMd_v9, oMd_f10, oMd_v10, oMd_f11, oMd_v11, oMd_f12, oMd_v12, oMd_f13, oMd_v13, oMd_f14, oMd_v14, oMd_i15, oMd_i16, oMd_f17, oMd_v17, oMd_f18, oMd_v18, oMd_f19, oMd_v19, oMd_f20, oMd_v20, oMd_f21, oMd_v21, oMd_f22, oMd_v22, oMd_f23, oMd_v23, oMd_i24, oMd_f25, oMd_v25, oMd_f26, oMd_v26, oMd_f27, oMd_v27, oMd_f28, oMd_v28, oMd_i29, oMd_i30, oMd_i31, oMd_i32, oMd_i33, oMd_i34, oMd_i35, oMd_f36, oMd_v36, oMd_f37, oMd_v37, oMd_f38, oMd_v38, oMd_i39, oMd_f40, oMd_v40, oMd_f41, oMd_v41, oMd_i42, oMd_f43, oMd_v43, oMd_i44, oMd_a1, oMd_n1, oMd_a2, oMd_n2, oMd_a3, oMd_n3, oMd_a4, oMd_n4, oMd_a363, oMd_n363, oMd_a364, oMd_n364, oMd_a446, oMd_n446, oMd_a447, oMd_n447, oMd_a469, oMd_n469, oMd_a470, oMd_n470, oMd_a471, oMd_n471, oMd_a472, oMd_n472, oMd_a473, oMd_n473, oMd_a5, oMd_n5, oMd_e5, oMd_ra5, oMd_rn5, oMd_a14, oMd_n14, oMd_e14, oMd_ra14, oMd_rn14, oMd_a23, oMd_n23, oMd_e23, oMd_ra23, oMd_rn23, oMd_a184, oMd_n184, oMd_e184, oMd_ra184, oMd_rn184, oMd_a345, oMd_n345, oMd_e345, oMd_ra345, oMd_rn345, oMd_a354, oMd_n354, oMd_e354, oMd_ra354, oMd_rn354, oMd_a365, oMd_n365, oMd_e365, oMd_ra365, oMd_rn365, oMd_a448, oMd_n448, oMd_e448, oMd_ra448, oMd_rn448, oMd_a465, oMd_n465, oMd_e465, oMd_ra465, oMd_rn465, q.2.1, q.1, c1, i1, nI_cl (show i < 2147483648 by omega), r1, rz_rw_up, cpK_s, nI_1])
    try dsimp only at L
    rw [cpK_0, rz_rw_id (by rw [rz_up_n (by omega)])] at L
    rw [if_pos hc]
    simp (decide := true) (maxDischargeDepth := 4) only [g251_0, g251_1, g251_4, g251_5, g251_6, g251_9, g251_12, g251_13, g251_14, g251_15, g251_18, g251_19, g251_23, g251_25, g251_28, g251_29, g251_32, g251_34, g251_35, g251_38, g251_40, g251_41, g251_42, g251_45, g251_48, g251_49, g251_50, g251_53, g251_55, g251_58, g251_61, g251_64, g251_67, g251_69, g251_70, g251_71, g251_75, g251_77, g251_80, g251_81, g251_83, g251_86, g251_89, g251_92, g251_93, g251_96, g251_98, g251_100, g251_101, g251_102, g251_105, g251_107, g251_109, g251_110, g251_111, g251_112, g251_113, g251_115, g251_116, g251_117, g251_118, g251_119, g251_120, g251_122, g251_123, g251_124, g251_125, g251_126, g251_127, g251_128, g251_129, g251_130, g251_133, g251_135, g251_137, g251_140, g251_141, g251_144, g251_147, g251_150, g251_151, g251_154, g251_156, g251_157, g251_158, g251_159, g251_162, g251_163, g251_164, g251_165, g251_167, g251_168, g251_169, g251_170, g251_171, g251_172, g251_173, g251_176, rz_k_inl, rz_k_inr, Option.toList_some, Option.toList_none, List.cons_append, List.nil_append, List.append_nil, rz_up_s, rz_u_s, rz_up_n, rz_u_n, ne_eq, not_false_eq_true, not_true_eq_false, Nat.add_assoc, Nat.reduceAdd, reduceIte, Nat.add_eq_left, Nat.left_eq_add, Nat.add_left_cancel_iff, Nat.reduceEqDiff, Nat.add_right_cancel_iff, rz_nb0, rz_nb1, rz_nbb, rz_nbi, rz_isr, rz_zle, if_true, if_false, rz_bi0, rz_bi1, Bool.not_eq_true, Bool.not_eq_false, Bool.true_eq_false, Bool.false_eq_true, rz_ix_lit, cl_lit, Nat.reduceLT, bi_t, bi_f, decide_true, decide_false, Bool.not_false, Bool.not_true, Bool.and_true, Bool.true_and, Bool.and_false, Bool.false_and, oMd_c, oMd_i0, oMd_i1, oMd_i2, oMd_i3, oMd_i4, oMd_i5, oMd_i6, oMd_i7, oMd_i8, oMd_f9, oMd_v9, oMd_f10, oMd_v10, oMd_f11, oMd_v11, oMd_f12, oMd_v12, oMd_f13, oMd_v13, oMd_f14, oMd_v14, oMd_i15, oMd_i16, oMd_f17, oMd_v17, oMd_f18, oMd_v18, oMd_f19, oMd_v19, oMd_f20, oMd_v20, oMd_f21, oMd_v21, oMd_f22, oMd_v22, oMd_f23, oMd_v23, oMd_i24, oMd_f25, oMd_v25, oMd_f26, oMd_v26, oMd_f27, oMd_v27, oMd_f28, oMd_v28, oMd_i29, oMd_i30, oMd_i31, oMd_i32, oMd_i33, oMd_i34, oMd_i35, oMd_f36, oMd_v36, oMd_f37, oMd_v37, oMd_f38, oMd_v38, oMd_i39, oMd_f40, oMd_v40, oMd_f41, oMd_v41, oMd_i42, oMd_f43, oMd_v43, oMd_i44, oMd_a1, oMd_n1, oMd_a2, oMd_n2, oMd_a3, oMd_n3, oMd_a4, oMd_n4, oMd_a363, oMd_n363, oMd_a364, oMd_n364, oMd_a446, oMd_n446, oMd_a447, oMd_n447, oMd_a469, oMd_n469, oMd_a470, oMd_n470, oMd_a471, oMd_n471, oMd_a472, oMd_n472, oMd_a473, oMd_n473, oMd_a5, oMd_n5, oMd_e5, oMd_ra5, oMd_rn5, oMd_a14, oMd_n14, oMd_e14, oMd_ra14, oMd_rn14, oMd_a23, oMd_n23, oMd_e23, oMd_ra23, oMd_rn23, oMd_a184, oMd_n184, oMd_e184, oMd_ra184, oMd_rn184, oMd_a345, oMd_n345, oMd_e345, oMd_ra345, oMd_rn345, oMd_a354, oMd_n354, oMd_e354, oMd_ra354, oMd_rn354, oMd_a365, oMd_n365, oMd_e365, oMd_ra365, oMd_rn365, oMd_a448, oMd_n448, oMd_e448, oMd_ra448, oMd_rn448, oMd_a465, oMd_n465, oMd_e465, oMd_ra465, oMd_rn465, q.2.1, q.1, hc]
    refine Eq.trans ?_ (L.trans ?_)
    · rfl
    · rw [g251_21]
      simp (decide := true) (maxDischargeDepth := 4) only [g251_0, g251_1, g251_4, g251_5, g251_6, g251_9, g251_12, g251_13, g251_14, g251_15, g251_18, g251_19, g251_23, g251_25, g251_28, g251_29, g251_32, g251_34, g251_35, g251_38, g251_40, g251_41, g251_42, g251_45, g251_48, g251_49, g251_50, g251_53, g251_55, g251_58, g251_61, g251_64, g251_67, g251_69, g251_70, g251_71, g251_75, g251_77, g251_80, g251_81, g251_83, g251_86, g251_89, g251_92, g251_93, g251_96, g251_98, g251_100, g251_101, g251_102, g251_105, g251_107, g251_109, g251_110, g251_111, g251_112, g251_113, g251_115, g251_116, g251_117, g251_118, g251_119, g251_120, g251_122, g251_123, g251_124, g251_125, g251_126, g251_127, g251_128, g251_129, g251_130, g251_133, g251_135, g251_137, g251_140, g251_141, g251_144, g251_147, g251_150, g251_151, g251_154, g251_156, g251_157, g251_158, g251_159, g251_162, g251_163, g251_164, g251_165, g251_167, g251_168, g251_169, g251_170, g251_171, g251_172, g251_173, g251_176, rz_k_inl, rz_k_inr, Option.toList_some, Option.toList_none, List.cons_append, List.nil_append, List.append_nil, rz_up_s, rz_u_s, rz_up_n, rz_u_n, ne_eq, not_false_eq_true, not_true_eq_false, Nat.add_assoc, Nat.reduceAdd, reduceIte, Nat.add_eq_left, Nat.left_eq_add, Nat.add_left_cancel_iff, Nat.reduceEqDiff, Nat.add_right_cancel_iff, rz_nb0, rz_nb1, rz_nbb, rz_nbi, rz_isr, rz_zle, if_true, if_false, rz_bi0, rz_bi1, Bool.not_eq_true, Bool.not_eq_false, Bool.true_eq_false, Bool.false_eq_true, rz_ix_lit, cl_lit, Nat.reduceLT, bi_t, bi_f, decide_true, decide_false, Bool.not_false, Bool.not_true, Bool.and_true, Bool.true_and, Bool.and_false, Bool.false_and, show (nI 8 < 8) = False by decide]
  · rw [if_neg hc]
    simp (decide := true) (maxDischargeDepth := 4) only [g251_0, g251_1, g251_4, g251_5, g251_6, g251_9, g251_12, g251_13, g251_14, g251_15, g251_18, g251_19, g251_23, g251_25, g251_28, g251_29, g251_32, g251_34, g251_35, g251_38, g251_40, g251_41, g251_42, g251_45, g251_48, g251_49, g251_50, g251_53, g251_55, g251_58, g251_61, g251_64, g251_67, g251_69, g251_70, g251_71, g251_75, g251_77, g251_80, g251_81, g251_83, g251_86, g251_89, g251_92, g251_93, g251_96, g251_98, g251_100, g251_101, g251_102, g251_105, g251_107, g251_109, g251_110, g251_111, g251_112, g251_113, g251_115, g251_116, g251_117, g251_118, g251_119, g251_120, g251_122, g251_123, g251_124, g251_125, g251_126, g251_127, g251_128, g251_129, g251_130, g251_133, g251_135, g251_137, g251_140, g251_141, g251_144, g251_147, g251_150, g251_151, g251_154, g251_156, g251_157, g251_158, g251_159, g251_162, g251_163, g251_164, g251_165, g251_167, g251_168, g251_169, g251_170, g251_171, g251_172, g251_173, g251_176, rz_k_inl, rz_k_inr, Option.toList_some, Option.toList_none, List.cons_append, List.nil_append, List.append_nil, rz_up_s, rz_u_s, rz_up_n, rz_u_n, ne_eq, not_false_eq_true, not_true_eq_false, Nat.add_assoc, Nat.reduceAdd, reduceIte, Nat.add_eq_left, Nat.left_eq_add, Nat.add_left_cancel_iff, Nat.reduceEqDiff, Nat.add_right_cancel_iff, rz_nb0, rz_nb1, rz_nbb, rz_nbi, rz_isr, rz_zle, if_true, if_false, rz_bi0, rz_bi1, Bool.not_eq_true, Bool.not_eq_false, Bool.true_eq_false, Bool.false_eq_true, rz_ix_lit, cl_lit, Nat.reduceLT, bi_t, bi_f, decide_true, decide_false, Bool.not_false, Bool.not_true, Bool.and_true, Bool.true_and, Bool.and_false, Bool.false_and, oMd_c, oMd_i0, oMd_i1, oMd_i2, oMd_i3, oMd_i4, oMd_i5, oMd_i6, oMd_i7, oMd_i8, oMd_f9, oMd_v9, oMd_f10, oMd_v10, oMd_f11, oMd_v11, oMd_f12, oMd_v12, oMd_f13, oMd_v13, oMd_f14, oMd_v14, oMd_i15, oMd_i16, oMd_f17, oMd_v17, oMd_f18, oMd_v18, oMd_f19, oMd_v19, oMd_f20, oMd_v20, oMd_f21, oMd_v21, oMd_f22, oMd_v22, oMd_f23, oMd_v23, oMd_i24, oMd_f25, oMd_v25, oMd_f26, oMd_v26, oMd_f27, oMd_v27, oMd_f28, oMd_v28, oMd_i29, oMd_i30, oMd_i31, oMd_i32, oMd_i33, oMd_i34, oMd_i35, oMd_f36, oMd_v36, oMd_f37, oMd_v37, oMd_f38, oMd_v38, oMd_i39, oMd_f40, oMd_v40, oMd_f41, oMd_v41, oMd_i42, oMd_f43, oMd_v43, oMd_i44, oMd_a1, oMd_n1, oMd_a2, oMd_n2, oMd_a3, oMd_n3, oMd_a4, oMd_n4, oMd_a363, oMd_n363, oMd_a364, oMd_n364, oMd_a446, oMd_n446, oMd_a447, oMd_n447, oMd_a469, oMd_n469, oMd_a470, oMd_n470, oMd_a471, oMd_n471, oMd_a472, oMd_n472, oMd_a473, oMd_n473, oMd_a5, oMd_n5, oMd_e5, oMd_ra5, oMd_rn5, oMd_a14, oMd_n14, oMd_e14, oMd_ra14, oMd_rn14, oMd_a23, oMd_n23, oMd_e23, oMd_ra23, oMd_rn23, oMd_a184, oMd_n184, oMd_e184, oMd_ra184, oMd_rn184, oMd_a345, oMd_n345, oMd_e345, oMd_ra345, oMd_rn345, oMd_a354, oMd_n354, oMd_e354, oMd_ra354, oMd_rn354, oMd_a365, oMd_n365, oMd_e365, oMd_ra365, oMd_rn365, oMd_a448, oMd_n448, oMd_e448, oMd_ra448, oMd_rn448, oMd_a465, oMd_n465, oMd_e465, oMd_ra465, oMd_rn465, q.2.1, q.1, hc]
theorem md_pairsFrom (q : QM Z h ι b C R m dk lv) : ∀ (k n s : Nat) (ι1 : Nat → Nat → Int32), popN n ≤ k → n < 256 → sbI n lv → s + 99 * popN n ≤ 800 → frM b ι ι1 → mForm (ι1 b 39) → ∃ ι2, rz_f Z (d + k + 9) 251 [.ref b, .int (nI n), .int (bi (decide (popN n % 2 = 1))), .int (nI s)] (rz_mk h ι1, w) = some (.inl none, (rz_mk h ι2, w)) ∧ frM b ι ι2 ∧ ι2 b 0 = ι1 b 0 ∧ SS (meS (efL C) R) (prB (efL C) R lv) n s (ι1 b 39) (ι1 (b + 470)) (ι1 (b + 471)) (ι2 b 39) (ι2 (b + 471)) ∧ ∀ x, x < 8 → n.testBit x = false → ι2 (b + 470) x = ι1 (b + 470) x := by
  have T := prB_ok (efL C) R lv
  have hr := oMd.row q.2.1
  have hm8 := q.2.2.2.2.2.1
  have leaf : ∀ (D s : Nat) (ι1 : Nat → Nat → Int32), s ≤ 800 → frM b ι ι1 → ∃ ι2, rz_f Z (D + 1) 251 [.ref b, .int (nI 0), .int (bi (decide (popN 0 % 2 = 1))), .int (nI s)] (rz_mk h ι1, w) = some (.inl none, (rz_mk h ι2, w)) ∧ frM b ι ι2 ∧ ι2 b 0 = ι1 b 0 ∧ SS (meS (efL C) R) (prB (efL C) R lv) 0 s (ι1 b 39) (ι1 (b + 470)) (ι1 (b + 471)) (ι2 b 39) (ι2 (b + 471)) ∧ ∀ x, x < 8 → (0 : Nat).testBit x = false → ι2 (b + 470) x = ι1 (b + 470) x := by
    intro D s ι1 hs hf
    have b0 : bNt (prB (efL C) R lv) 0 = 0 := by unfold bNt; rw [T.b0]; rfl
    have g := md_pairs0 (Z := Z) (d := D) (w := w) (q.fr hf) (odd := decide (popN 0 % 2 = 1)) (s := s) (by omega) (F := meS (efL C) R) b0
    by_cases hc : ι1 b 39 < nI s
    · rw [if_pos hc] at g
      refine ⟨_, g, ?_, ?_, ?_, ?_⟩
      · exact (hf.upF (by unfold scF; omega)).rwA (by unfold scM; omega) (by omega)
      · rw [rz_rw_n (by omega), rz_up_s, rz_u_n (by omega)]
      · left
        rw [b0]
        refine ⟨hc, by rw [rz_rw_n (by omega), rz_up_s, rz_u_s]; rfl, fun x hx => ?_⟩
        rw [rz_rw_s, if_neg (by simp)]
        unfold cpK
        rw [if_pos hx]
      · intro x hx _
        rw [rz_rw_n (by omega), rz_up_n (by omega)]
    · rw [if_neg hc] at g
      refine ⟨_, g, hf, rfl, ?_, fun _ _ _ => rfl⟩
      right
      rw [b0]
      exact ⟨hc, rfl, fun _ _ => rfl⟩
  intro k
  induction k with
  | zero =>
    intro n s ι1 hk hn hsb hs hf hM
    have := pop_0 n hn (by omega)
    subst this
    exact leaf (d + 8) s ι1 (by omega) hf
  | succ k ih =>
    intro n s ι1 hk hn hsb hs hf hM
    by_cases h0 : n = 0
    · subst h0
      exact leaf (d + (k + 1) + 8) s ι1 (by omega) hf
    · obtain ⟨D, hD⟩ : ∃ D, D = d + k + 9 := ⟨_, rfl⟩
      rw [← hD] at ih
      have ed : d + (k + 1) + 9 = D + 1 := by omega
      obtain ⟨t1, t2, t3⟩ := tzN_ok n hn (by omega)
      obtain ⟨p, hp⟩ : ∃ p, p = tzN n := ⟨_, rfl⟩
      rw [← hp] at t1 t2 t3
      have p1 := pop_rm n hn _ t1 t2
      have nn0 : (nI n = 0) = False := by rw [nI_eqL (by omega) (by decide)]; simp [h0]
      have has : ∀ (i : Nat) (ι' : Nat → Nat → Int32), i < 8 → rz_f Z D 178 [.int (nI n), .int (nI i)] (rz_mk h ι', w) = some (.inl (some (.int (bi (n.testBit i)))), (rz_mk h ι', w)) := by
        intro i ι' hi
        have := md_has (Z := Z) (d := d + k + 8) (h := h) (ι := ι') (w := w) (nI n) (nI i)
        rw [sh_bit (by omega), show d + k + 8 + 1 = D by omega] at this
        cases e : n.testBit i
        · rw [e] at this; exact this
        · rw [e] at this; exact this
      have r1 := rmN_I n hn p t1
      have ip : rz_ix (nI p) 8 := rz_ix_nat t1 (by omega)
      have cp := nI_cl (show p < 2147483648 by omega)
      -- the first of the crowd
      have L0 := rz_loopE (fun i => rg Z D rx_m251 52 [some (.ref b), some (.int (nI n)), some (.int (bi (decide (popN n % 2 = 1)))), some (.int (nI s)), some (.int (nI i)), none] [] (rz_mk h ι1, w)) p (by
        intro i hi
        have := has i ι1 (by omega)
        rw [t3 i (by omega) (by omega)] at this
        try dsimp only
        rw [g251_52]
        simp (decide := true) (maxDischargeDepth := 4) only [g251_0, g251_1, g251_4, g251_5, g251_6, g251_9, g251_12, g251_13, g251_14, g251_15, g251_18, g251_19, g251_23, g251_25, g251_28, g251_29, g251_32, g251_34, g251_35, g251_38, g251_40, g251_41, g251_42, g251_45, g251_48, g251_49, g251_50, g251_53, g251_55, g251_58, g251_61, g251_64, g251_67, g251_69, g251_70, g251_71, g251_75, g251_77, g251_80, g251_81, g251_83, g251_86, g251_89, g251_92, g251_93, g251_96, g251_98, g251_100, g251_101, g251_102, g251_105, g251_107, g251_109, g251_110, g251_111, g251_112, g251_113, g251_115, g251_116, g251_117, g251_118, g251_119, g251_120, g251_122, g251_123, g251_124, g251_125, g251_126, g251_127, g251_128, g251_129, g251_130, g251_133, g251_135, g251_137, g251_140, g251_141, g251_144, g251_147, g251_150, g251_151, g251_154, g251_156, g251_157, g251_158, g251_159, g251_162, g251_163, g251_164, g251_165, g251_167, g251_168, g251_169, g251_170, g251_171, g251_172, g251_173, g251_176, rz_k_inl, rz_k_inr, Option.toList_some, Option.toList_none, List.cons_append, List.nil_append, List.append_nil, rz_up_s, rz_u_s, rz_up_n, rz_u_n, ne_eq, not_false_eq_true, not_true_eq_false, Nat.add_assoc, Nat.reduceAdd, reduceIte, Nat.add_eq_left, Nat.left_eq_add, Nat.add_left_cancel_iff, Nat.reduceEqDiff, Nat.add_right_cancel_iff, rz_nb0, rz_nb1, rz_nbb, rz_nbi, rz_isr, rz_zle, if_true, if_false, rz_bi0, rz_bi1, Bool.not_eq_true, Bool.not_eq_false, Bool.true_eq_false, Bool.false_eq_true, rz_ix_lit, cl_lit, Nat.reduceLT, bi_t, bi_f, decide_true, decide_false, Bool.not_false, Bool.not_true, Bool.and_true, Bool.true_and, Bool.and_false, Bool.false_and, this, nI_1])
      try dsimp only at L0
      have lvp : rLv R p = true := by rw [q.2.2.2.2.lvb (by omega)]; exact (sbI_iff hn).mp hsb p t1 t2
      -- the mates
      have L := rz_loop (fun i (ι' : Nat → Nat → Int32) => rg Z D rx_m251 73 [some (.ref b), some (.int (nI n)), some (.int (bi (decide (popN n % 2 = 1)))), some (.int (nI s)), some (.int (nI p)), some (.int (nI i))] [] (rz_mk h ι', w)) 8 (fun i ι' => p < i ∧ frM b ι ι' ∧ ι' b 0 = ι1 b 0 ∧ JJ (meS (efL C) R) (prB (efL C) R lv) n s i (ι1 b 39) (ι1 (b + 470)) (ι1 (b + 471)) (ι' b 39) (ι' (b + 471)) ∧ (∀ x, x < 8 → n.testBit x = false → ι' (b + 470) x = ι1 (b + 470) x) ∧ mForm (ι' b 39)) (by
        rintro i ι' hi ⟨hpi, hf', h0', hJ, hO, hM'⟩
        have c1 : (nI i < 8) = True := by rw [nI_ltL (by omega) (by decide)]; simp [hi]
        have ob : (rmN n (tzN n)).testBit i = n.testBit i := by
          rw [← hp, rmN_bit n hn p t1 i hi]; simp; omega
        have hs1 := has i ι' hi
        cases hb : n.testBit i with
        | false =>
          rw [hb] at hs1 ob
          refine ⟨ι', ⟨by omega, hf', h0', hJ.skip ob, hO, hM'⟩, ?_⟩
          try dsimp only
          rw [g251_73]
          simp (decide := true) (maxDischargeDepth := 4) only [g251_0, g251_1, g251_4, g251_5, g251_6, g251_9, g251_12, g251_13, g251_14, g251_15, g251_18, g251_19, g251_23, g251_25, g251_28, g251_29, g251_32, g251_34, g251_35, g251_38, g251_40, g251_41, g251_42, g251_45, g251_48, g251_49, g251_50, g251_53, g251_55, g251_58, g251_61, g251_64, g251_67, g251_69, g251_70, g251_71, g251_75, g251_77, g251_80, g251_81, g251_83, g251_86, g251_89, g251_92, g251_93, g251_96, g251_98, g251_100, g251_101, g251_102, g251_105, g251_107, g251_109, g251_110, g251_111, g251_112, g251_113, g251_115, g251_116, g251_117, g251_118, g251_119, g251_120, g251_122, g251_123, g251_124, g251_125, g251_126, g251_127, g251_128, g251_129, g251_130, g251_133, g251_135, g251_137, g251_140, g251_141, g251_144, g251_147, g251_150, g251_151, g251_154, g251_156, g251_157, g251_158, g251_159, g251_162, g251_163, g251_164, g251_165, g251_167, g251_168, g251_169, g251_170, g251_171, g251_172, g251_173, g251_176, rz_k_inl, rz_k_inr, Option.toList_some, Option.toList_none, List.cons_append, List.nil_append, List.append_nil, rz_up_s, rz_u_s, rz_up_n, rz_u_n, ne_eq, not_false_eq_true, not_true_eq_false, Nat.add_assoc, Nat.reduceAdd, reduceIte, Nat.add_eq_left, Nat.left_eq_add, Nat.add_left_cancel_iff, Nat.reduceEqDiff, Nat.add_right_cancel_iff, rz_nb0, rz_nb1, rz_nbb, rz_nbi, rz_isr, rz_zle, if_true, if_false, rz_bi0, rz_bi1, Bool.not_eq_true, Bool.not_eq_false, Bool.true_eq_false, Bool.false_eq_true, rz_ix_lit, cl_lit, Nat.reduceLT, bi_t, bi_f, decide_true, decide_false, Bool.not_false, Bool.not_true, Bool.and_true, Bool.true_and, Bool.and_false, Bool.false_and, c1, hs1, nI_1]
        | true =>
          rw [hb] at hs1 ob
          have ob2 : (rmN n p).testBit i = true := by rw [hp]; exact ob
          have p2 := pop_rm _ (rmN_256 (i := p) hn) i hi ob2
          have lvi : rLv R i = true := by rw [q.2.2.2.2.lvb (by omega)]; exact (sbI_iff hn).mp hsb i hi hb
          obtain ⟨ι2, hι2⟩ : ∃ ι2, ι2 = rz_up (rz_up ι' (b + 470) p (nI i)) (b + 470) i (nI p) := ⟨_, rfl⟩
          have f2 : frM b ι ι2 := by rw [hι2]; exact (hf'.upA (by unfold scM; omega) (by omega)).upA (by unfold scM; omega) (by omega)
          have q2 := q.fr f2
          obtain ⟨ι3, g1, g2⟩ := md_farOf (Z := Z) (d := d + k + 2) (w := w) (ι := ι2) q2.2.1 q2.1 q2.2.2.1 hr hi t1
          rw [q2.2.2.2.1, show d + k + 2 + 7 = D by omega] at g1
          have f3 : frM b ι ι3 := f2.trans (frM.of g2)
          have e39 : ι3 b 39 = ι' b 39 := by rw [g2 b (by unfold mdS; omega), hι2, rz_up_n (by omega), rz_up_n (by omega)]
          have e471 : ι3 (b + 471) = ι' (b + 471) := by rw [g2 _ (by unfold mdS; omega), hι2, rz_up_n (by omega), rz_up_n (by omega)]
          have e470 : ι3 (b + 470) = rz_u (rz_u (ι' (b + 470)) p (nI i)) i (nI p) := by rw [g2 _ (by unfold mdS; omega), hι2, rz_up_s, rz_up_s]
          have e0 : ι3 b 0 = ι1 b 0 := by rw [g2 b (by unfold mdS; omega), hι2, rz_up_n (by omega), rz_up_n (by omega)]; exact h0'
          have eF : meS (efL C) R (i * 8 + p) = farB (efL C) R i p := by
            unfold meS
            rw [show (i * 8 + p) / 8 = i by omega, show (i * 8 + p) % 8 = p by omega, if_pos ⟨by omega, lvi, lvp⟩]
          obtain ⟨fv, fv1, fv2⟩ := farB_nI (efL C) R i p
          have eFn : (meS (efL C) R (i * 8 + tzN n)).toNatClampNeg = fv := by rw [← hp, eF, fv2, nI_cl (by omega)]
          obtain ⟨ι4, k1, k2, k3, k4, k5⟩ := ih (rmN (rmN n p) i) (s + fv) ι3 (by omega) (rmN_256 (rmN_256 hn)) (sbI_rm (rmN_256 hn) hi (sbI_rm hn t1 hsb)) (by omega) f3 (by rw [e39]; exact hM')
          have par : decide (popN (rmN (rmN n p) i) % 2 = 1) = decide (popN n % 2 = 1) := by
            congr 1
            apply propext
            omega
          rw [par] at k1
          rw [e39, e471, e470] at k4
          have B1 := T.bN (rmN_256 (i := i) (rmN_256 (i := p) hn)) (sbI_rm (rmN_256 hn) hi (sbI_rm hn t1 hsb))
          have r2 := rmN_I (rmN n p) (rmN_256 hn) i hi
          have ii : rz_ix (nI i) 8 := rz_ix_nat hi (by omega)
          have ci := nI_cl (show i < 2147483648 by omega)
          refine ⟨ι4, ⟨by omega, k2, k3.trans e0, ?_, ?_, k4.form hM' (by omega)⟩, ?_⟩
          · refine JJ.step T (by omega) hn hsb (by omega) hJ hi ob hM.mono (MO1 := rz_u (rz_u (ι' (b + 470)) p (nI i)) i (nI p)) ⟨?_, ?_, ?_⟩ ?_
            · rw [← hp, rz_u_n (by omega), rz_u_s]
            · rw [rz_u_s, hp]
            · intro x hx hbx
              have x1 : x ≠ i := fun e => by rw [e, hb] at hbx; cases hbx
              have x2 : x ≠ p := fun e => by rw [e, t2] at hbx; cases hbx
              rw [rz_u_n x1, rz_u_n x2]
              exact hO x hx hbx
            · rw [eFn, ← hp]; exact k4
          · intro x hx hbx
            have x1 : x ≠ i := fun e => by rw [e, hb] at hbx; cases hbx
            have x2 : x ≠ p := fun e => by rw [e, t2] at hbx; cases hbx
            rw [k5 x hx (by rw [rm2_bit hn t1 hi hx, hbx]; rfl), e470, rz_u_n x1, rz_u_n x2]
            exact hO x hx hbx
          · try dsimp only
            rw [g251_73]
            simp (decide := true) (maxDischargeDepth := 4) only [g251_0, g251_1, g251_4, g251_5, g251_6, g251_9, g251_12, g251_13, g251_14, g251_15, g251_18, g251_19, g251_23, g251_25, g251_28, g251_29, g251_32, g251_34, g251_35, g251_38, g251_40, g251_41, g251_42, g251_45, g251_48, g251_49, g251_50, g251_53, g251_55, g251_58, g251_61, g251_64, g251_67, g251_69, g251_70, g251_71, g251_75, g251_77, g251_80, g251_81, g251_83, g251_86, g251_89, g251_92, g251_93, g251_96, g251_98, g251_100, g251_101, g251_102, g251_105, g251_107, g251_109, g251_110, g251_111, g251_112, g251_113, g251_115, g251_116, g251_117, g251_118, g251_119, g251_120, g251_122, g251_123, g251_124, g251_125, g251_126, g251_127, g251_128, g251_129, g251_130, g251_133, g251_135, g251_137, g251_140, g251_141, g251_144, g251_147, g251_150, g251_151, g251_154, g251_156, g251_157, g251_158, g251_159, g251_162, g251_163, g251_164, g251_165, g251_167, g251_168, g251_169, g251_170, g251_171, g251_172, g251_173, g251_176, rz_k_inl, rz_k_inr, Option.toList_some, Option.toList_none, List.cons_append, List.nil_append, List.append_nil, rz_up_s, rz_u_s, rz_up_n, rz_u_n, ne_eq, not_false_eq_true, not_true_eq_false, Nat.add_assoc, Nat.reduceAdd, reduceIte, Nat.add_eq_left, Nat.left_eq_add, Nat.add_left_cancel_iff, Nat.reduceEqDiff, Nat.add_right_cancel_iff, rz_nb0, rz_nb1, rz_nbb, rz_nbi, rz_isr, rz_zle, if_true, if_false, rz_bi0, rz_bi1, Bool.not_eq_true, Bool.not_eq_false, Bool.true_eq_false, Bool.false_eq_true, rz_ix_lit, cl_lit, Nat.reduceLT, bi_t, bi_f, decide_true, decide_false, Bool.not_false, Bool.not_true, Bool.and_true, Bool.true_and, Bool.and_false, Bool.false_and, oMd_c, oMd_i0, oMd_i1, oMd_i2, oMd_i3, oMd_i4, oMd_i5, oMd_i6, oMd_i7, oMd_i8, oMd_f9, oMd_v9, oMd_f10, oMd_v10, oMd_f11, oMd_v11, oMd_f12, oMd_v12, oMd_f13, oMd_v13, oMd_f14, oMd_v14, oMd_i15, oMd_i16, oMd_f17, oMd_v17, oMd_f18, oMd_v18, oMd_f19, oMd_v19, oMd_f20, oMd_v20, oMd_f21, oMd_v21, oMd_f22, oMd_v22, oMd_f23, oMd_v23, oMd_i24, oMd_f25, oMd_v25, oMd_f26, oMd_v26, oMd_f27, oMd_v27, oMd_f28, oMd_v28, oMd_i29, oMd_i30, oMd_i31, oMd_i32, oMd_i33, oMd_i34, oMd_i35, oMd_f36, oMd_v36, oMd_f37, oMd_v37, oMd_f38, oMd_v38, oMd_i39, oMd_f40, oMd_v40, oMd_f41, oMd_v41, oMd_i42, oMd_f43, oMd_v43, oMd_i44, oMd_a1, oMd_n1, oMd_a2, oMd_n2, oMd_a3, oMd_n3, oMd_a4, oMd_n4, oMd_a363, oMd_n363, oMd_a364, oMd_n364, oMd_a446, oMd_n446, oMd_a447, oMd_n447, oMd_a469, oMd_n469, oMd_a470, oMd_n470, oMd_a471, oMd_n471, oMd_a472, oMd_n472, oMd_a473, oMd_n473, oMd_a5, oMd_n5, oMd_e5, oMd_ra5, oMd_rn5, oMd_a14, oMd_n14, oMd_e14, oMd_ra14, oMd_rn14, oMd_a23, oMd_n23, oMd_e23, oMd_ra23, oMd_rn23, oMd_a184, oMd_n184, oMd_e184, oMd_ra184, oMd_rn184, oMd_a345, oMd_n345, oMd_e345, oMd_ra345, oMd_rn345, oMd_a354, oMd_n354, oMd_e354, oMd_ra354, oMd_rn354, oMd_a365, oMd_n365, oMd_e365, oMd_ra365, oMd_rn365, oMd_a448, oMd_n448, oMd_e448, oMd_ra448, oMd_rn448, oMd_a465, oMd_n465, oMd_e465, oMd_ra465, oMd_rn465, q.2.1, q.1, c1, hs1, ip, cp, ii, ci, ← hι2, r1, r2, g1, fv2, nI_add, k1, nI_1]) (8 - (p + 1)) (p + 1) ι1 (by omega) ⟨by omega, hf, rfl, Or.inl ⟨rfl, fun _ _ => rfl, fun y hy hy8 hyb => by
              exfalso
              rw [← hp, rmN_bit n hn p t1 y hy8, Bool.and_eq_true] at hyb
              by_cases e : y = p
              · simp [e] at hyb
              · rw [t3 y hy8 (by omega)] at hyb; exact absurd hyb.1 (by decide)⟩, fun _ _ _ => rfl, hM⟩
      obtain ⟨ι5, ⟨-, f5, h05, hJ, hO5, hM5⟩, L⟩ := L
      try dsimp only at L
      obtain ⟨ι6, hι6⟩ : ∃ ι6, ι6 = rz_up ι5 (b + 470) p (-1) := ⟨_, rfl⟩
      have f6 : frM b ι ι6 := by rw [hι6]; exact f5.upA (by unfold scM; omega) (by omega)
      have e39 : ι6 b 39 = ι5 b 39 := by rw [hι6, rz_up_n (by omega)]
      have e471 : ι6 (b + 471) = ι5 (b + 471) := by rw [hι6, rz_up_n (by omega)]
      have e470 : ι6 (b + 470) = rz_u (ι5 (b + 470)) p (-1) := by rw [hι6, rz_up_s]
      have e0 : ι6 b 0 = ι1 b 0 := by rw [hι6, rz_up_n (by omega)]; exact h05
      have out6 : ∀ x, x < 8 → n.testBit x = false → ι6 (b + 470) x = ι1 (b + 470) x := by
        intro x hx hbx
        have x2 : x ≠ p := fun e => by rw [e, t2] at hbx; cases hbx
        rw [e470, rz_u_n x2]
        exact hO5 x hx hbx
      have start : ∀ {X : Option rx_R}, rg Z D rx_m251 73 [some (.ref b), some (.int (nI n)), some (.int (bi (decide (popN n % 2 = 1)))), some (.int (nI s)), some (.int (nI p)), some (.int (nI 8))] [] (rz_mk h ι5, w) = X → rz_f Z (d + (k + 1) + 9) 251 [.ref b, .int (nI n), .int (bi (decide (popN n % 2 = 1))), .int (nI s)] (rz_mk h ι1, w) = X := by
        intro X hX
        rw [ed, e251]
        simp (decide := true) (maxDischargeDepth := 4) only [g251_0, g251_1, g251_4, g251_5, g251_6, g251_9, g251_12, g251_13, g251_14, g251_15, g251_18, g251_19, g251_23, g251_25, g251_28, g251_29, g251_32, g251_34, g251_35, g251_38, g251_40, g251_41, g251_42, g251_45, g251_48, g251_49, g251_50, g251_53, g251_55, g251_58, g251_61, g251_64, g251_67, g251_69, g251_70, g251_71, g251_75, g251_77, g251_80, g251_81, g251_83, g251_86, g251_89, g251_92, g251_93, g251_96, g251_98, g251_100, g251_101, g251_102, g251_105, g251_107, g251_109, g251_110, g251_111, g251_112, g251_113, g251_115, g251_116, g251_117, g251_118, g251_119, g251_120, g251_122, g251_123, g251_124, g251_125, g251_126, g251_127, g251_128, g251_129, g251_130, g251_133, g251_135, g251_137, g251_140, g251_141, g251_144, g251_147, g251_150, g251_151, g251_154, g251_156, g251_157, g251_158, g251_159, g251_162, g251_163, g251_164, g251_165, g251_167, g251_168, g251_169, g251_170, g251_171, g251_172, g251_173, g251_176, rz_k_inl, rz_k_inr, Option.toList_some, Option.toList_none, List.cons_append, List.nil_append, List.append_nil, rz_up_s, rz_u_s, rz_up_n, rz_u_n, ne_eq, not_false_eq_true, not_true_eq_false, Nat.add_assoc, Nat.reduceAdd, reduceIte, Nat.add_eq_left, Nat.left_eq_add, Nat.add_left_cancel_iff, Nat.reduceEqDiff, Nat.add_right_cancel_iff, rz_nb0, rz_nb1, rz_nbb, rz_nbi, rz_isr, rz_zle, if_true, if_false, rz_bi0, rz_bi1, Bool.not_eq_true, Bool.not_eq_false, Bool.true_eq_false, Bool.false_eq_true, rz_ix_lit, cl_lit, Nat.reduceLT, bi_t, bi_f, decide_true, decide_false, Bool.not_false, Bool.not_true, Bool.and_true, Bool.true_and, Bool.and_false, Bool.false_and, nn0]
        refine Eq.trans ?_ (L0.trans ?_)
        · rfl
        · have := has p ι1 t1
          rw [t2] at this
          rw [g251_52]
          simp (decide := true) (maxDischargeDepth := 4) only [g251_0, g251_1, g251_4, g251_5, g251_6, g251_9, g251_12, g251_13, g251_14, g251_15, g251_18, g251_19, g251_23, g251_25, g251_28, g251_29, g251_32, g251_34, g251_35, g251_38, g251_40, g251_41, g251_42, g251_45, g251_48, g251_49, g251_50, g251_53, g251_55, g251_58, g251_61, g251_64, g251_67, g251_69, g251_70, g251_71, g251_75, g251_77, g251_80, g251_81, g251_83, g251_86, g251_89, g251_92, g251_93, g251_96, g251_98, g251_100, g251_101, g251_102, g251_105, g251_107, g251_109, g251_110, g251_111, g251_112, g251_113, g251_115, g251_116, g251_117, g251_118, g251_119, g251_120, g251_122, g251_123, g251_124, g251_125, g251_126, g251_127, g251_128, g251_129, g251_130, g251_133, g251_135, g251_137, g251_140, g251_141, g251_144, g251_147, g251_150, g251_151, g251_154, g251_156, g251_157, g251_158, g251_159, g251_162, g251_163, g251_164, g251_165, g251_167, g251_168, g251_169, g251_170, g251_171, g251_172, g251_173, g251_176, rz_k_inl, rz_k_inr, Option.toList_some, Option.toList_none, List.cons_append, List.nil_append, List.append_nil, rz_up_s, rz_u_s, rz_up_n, rz_u_n, ne_eq, not_false_eq_true, not_true_eq_false, Nat.add_assoc, Nat.reduceAdd, reduceIte, Nat.add_eq_left, Nat.left_eq_add, Nat.add_left_cancel_iff, Nat.reduceEqDiff, Nat.add_right_cancel_iff, rz_nb0, rz_nb1, rz_nbb, rz_nbi, rz_isr, rz_zle, if_true, if_false, rz_bi0, rz_bi1, Bool.not_eq_true, Bool.not_eq_false, Bool.true_eq_false, Bool.false_eq_true, rz_ix_lit, cl_lit, Nat.reduceLT, bi_t, bi_f, decide_true, decide_false, Bool.not_false, Bool.not_true, Bool.and_true, Bool.true_and, Bool.and_false, Bool.false_and, this, nI_1]
          exact L.trans hX
      by_cases hodd : popN n % 2 = 1
      · have pe : decide (popN (rmN n p) % 2 = 1) = false := by simp; omega
        obtain ⟨ι7, k1, k2, k3, k4, k5⟩ := ih (rmN n p) s ι6 (by omega) (rmN_256 hn) (sbI_rm hn t1 hsb) (by omega) f6 (by rw [e39]; exact hM5)
        rw [pe, bi_f] at k1
        rw [e39, e471, e470] at k4
        refine ⟨ι7, start ?_, k2, k3.trans e0, ?_, ?_⟩
        · rw [g251_73]
          have ho : decide (popN n % 2 = 1) = true := by simp [hodd]
          simp (decide := true) (maxDischargeDepth := 4) only [g251_0, g251_1, g251_4, g251_5, g251_6, g251_9, g251_12, g251_13, g251_14, g251_15, g251_18, g251_19, g251_23, g251_25, g251_28, g251_29, g251_32, g251_34, g251_35, g251_38, g251_40, g251_41, g251_42, g251_45, g251_48, g251_49, g251_50, g251_53, g251_55, g251_58, g251_61, g251_64, g251_67, g251_69, g251_70, g251_71, g251_75, g251_77, g251_80, g251_81, g251_83, g251_86, g251_89, g251_92, g251_93, g251_96, g251_98, g251_100, g251_101, g251_102, g251_105, g251_107, g251_109, g251_110, g251_111, g251_112, g251_113, g251_115, g251_116, g251_117, g251_118, g251_119, g251_120, g251_122, g251_123, g251_124, g251_125, g251_126, g251_127, g251_128, g251_129, g251_130, g251_133, g251_135, g251_137, g251_140, g251_141, g251_144, g251_147, g251_150, g251_151, g251_154, g251_156, g251_157, g251_158, g251_159, g251_162, g251_163, g251_164, g251_165, g251_167, g251_168, g251_169, g251_170, g251_171, g251_172, g251_173, g251_176, rz_k_inl, rz_k_inr, Option.toList_some, Option.toList_none, List.cons_append, List.nil_append, List.append_nil, rz_up_s, rz_u_s, rz_up_n, rz_u_n, ne_eq, not_false_eq_true, not_true_eq_false, Nat.add_assoc, Nat.reduceAdd, reduceIte, Nat.add_eq_left, Nat.left_eq_add, Nat.add_left_cancel_iff, Nat.reduceEqDiff, Nat.add_right_cancel_iff, rz_nb0, rz_nb1, rz_nbb, rz_nbi, rz_isr, rz_zle, if_true, if_false, rz_bi0, rz_bi1, Bool.not_eq_true, Bool.not_eq_false, Bool.true_eq_false, Bool.false_eq_true, rz_ix_lit, cl_lit, Nat.reduceLT, bi_t, bi_f, decide_true, decide_false, Bool.not_false, Bool.not_true, Bool.and_true, Bool.true_and, Bool.and_false, Bool.false_and, oMd_c, oMd_i0, oMd_i1, oMd_i2, oMd_i3, oMd_i4, oMd_i5, oMd_i6, oMd_i7, oMd_i8, oMd_f9, oMd_v9, oMd_f10, oMd_v10, oMd_f11, oMd_v11, oMd_f12, oMd_v12, oMd_f13, oMd_v13, oMd_f14, oMd_v14, oMd_i15, oMd_i16, oMd_f17, oMd_v17, oMd_f18, oMd_v18, oMd_f19, oMd_v19, oMd_f20, oMd_v20, oMd_f21, oMd_v21, oMd_f22, oMd_v22, oMd_f23, oMd_v23, oMd_i24, oMd_f25, oMd_v25, oMd_f26, oMd_v26, oMd_f27, oMd_v27, oMd_f28, oMd_v28, oMd_i29, oMd_i30, oMd_i31, oMd_i32, oMd_i33, oMd_i34, oMd_i35, oMd_f36, oMd_v36, oMd_f37, oMd_v37, oMd_f38, oMd_v38, oMd_i39, oMd_f40, oMd_v40, oMd_f41, oMd_v41, oMd_i42, oMd_f43, oMd_v43, oMd_i44, oMd_a1, oMd_n1, oMd_a2, oMd_n2, oMd_a3, oMd_n3, oMd_a4, oMd_n4, oMd_a363, oMd_n363, oMd_a364, oMd_n364, oMd_a446, oMd_n446, oMd_a447, oMd_n447, oMd_a469, oMd_n469, oMd_a470, oMd_n470, oMd_a471, oMd_n471, oMd_a472, oMd_n472, oMd_a473, oMd_n473, oMd_a5, oMd_n5, oMd_e5, oMd_ra5, oMd_rn5, oMd_a14, oMd_n14, oMd_e14, oMd_ra14, oMd_rn14, oMd_a23, oMd_n23, oMd_e23, oMd_ra23, oMd_rn23, oMd_a184, oMd_n184, oMd_e184, oMd_ra184, oMd_rn184, oMd_a345, oMd_n345, oMd_e345, oMd_ra345, oMd_rn345, oMd_a354, oMd_n354, oMd_e354, oMd_ra354, oMd_rn354, oMd_a365, oMd_n365, oMd_e365, oMd_ra365, oMd_rn365, oMd_a448, oMd_n448, oMd_e448, oMd_ra448, oMd_rn448, oMd_a465, oMd_n465, oMd_e465, oMd_ra465, oMd_rn465, q.2.1, q.1, show (nI 8 < 8) = False by decide, ip, cp, ← hι6, ho, r1, k1]
        · refine JJ.fin T (by omega) hn hsb (by omega) hJ hM.mono (MO1 := rz_u (ι5 (b + 470)) p (-1)) ⟨by rw [← hp, rz_u_s], ?_⟩ (Or.inl ⟨hodd, by rw [← hp]; exact k4⟩)
          intro x hx hbx
          rw [← e470]; exact out6 x hx hbx
        · intro x hx hbx
          rw [k5 x hx (by rw [rmN_bit n hn p t1 x hx, hbx]; rfl)]
          exact out6 x hx hbx
      · refine ⟨ι6, start ?_, f6, e0, ?_, out6⟩
        · rw [g251_73]
          have ho : decide (popN n % 2 = 1) = false := by simp [hodd]
          simp (decide := true) (maxDischargeDepth := 4) only [g251_0, g251_1, g251_4, g251_5, g251_6, g251_9, g251_12, g251_13, g251_14, g251_15, g251_18, g251_19, g251_23, g251_25, g251_28, g251_29, g251_32, g251_34, g251_35, g251_38, g251_40, g251_41, g251_42, g251_45, g251_48, g251_49, g251_50, g251_53, g251_55, g251_58, g251_61, g251_64, g251_67, g251_69, g251_70, g251_71, g251_75, g251_77, g251_80, g251_81, g251_83, g251_86, g251_89, g251_92, g251_93, g251_96, g251_98, g251_100, g251_101, g251_102, g251_105, g251_107, g251_109, g251_110, g251_111, g251_112, g251_113, g251_115, g251_116, g251_117, g251_118, g251_119, g251_120, g251_122, g251_123, g251_124, g251_125, g251_126, g251_127, g251_128, g251_129, g251_130, g251_133, g251_135, g251_137, g251_140, g251_141, g251_144, g251_147, g251_150, g251_151, g251_154, g251_156, g251_157, g251_158, g251_159, g251_162, g251_163, g251_164, g251_165, g251_167, g251_168, g251_169, g251_170, g251_171, g251_172, g251_173, g251_176, rz_k_inl, rz_k_inr, Option.toList_some, Option.toList_none, List.cons_append, List.nil_append, List.append_nil, rz_up_s, rz_u_s, rz_up_n, rz_u_n, ne_eq, not_false_eq_true, not_true_eq_false, Nat.add_assoc, Nat.reduceAdd, reduceIte, Nat.add_eq_left, Nat.left_eq_add, Nat.add_left_cancel_iff, Nat.reduceEqDiff, Nat.add_right_cancel_iff, rz_nb0, rz_nb1, rz_nbb, rz_nbi, rz_isr, rz_zle, if_true, if_false, rz_bi0, rz_bi1, Bool.not_eq_true, Bool.not_eq_false, Bool.true_eq_false, Bool.false_eq_true, rz_ix_lit, cl_lit, Nat.reduceLT, bi_t, bi_f, decide_true, decide_false, Bool.not_false, Bool.not_true, Bool.and_true, Bool.true_and, Bool.and_false, Bool.false_and, oMd_c, oMd_i0, oMd_i1, oMd_i2, oMd_i3, oMd_i4, oMd_i5, oMd_i6, oMd_i7, oMd_i8, oMd_f9, oMd_v9, oMd_f10, oMd_v10, oMd_f11, oMd_v11, oMd_f12, oMd_v12, oMd_f13, oMd_v13, oMd_f14, oMd_v14, oMd_i15, oMd_i16, oMd_f17, oMd_v17, oMd_f18, oMd_v18, oMd_f19, oMd_v19, oMd_f20, oMd_v20, oMd_f21, oMd_v21, oMd_f22, oMd_v22, oMd_f23, oMd_v23, oMd_i24, oMd_f25, oMd_v25, oMd_f26, oMd_v26, oMd_f27, oMd_v27, oMd_f28, oMd_v28, oMd_i29, oMd_i30, oMd_i31, oMd_i32, oMd_i33, oMd_i34, oMd_i35, oMd_f36, oMd_v36, oMd_f37, oMd_v37, oMd_f38, oMd_v38, oMd_i39, oMd_f40, oMd_v40, oMd_f41, oMd_v41, oMd_i42, oMd_f43, oMd_v43, oMd_i44, oMd_a1, oMd_n1, oMd_a2, oMd_n2, oMd_a3, oMd_n3, oMd_a4, oMd_n4, oMd_a363, oMd_n363, oMd_a364, oMd_n364, oMd_a446, oMd_n446, oMd_a447, oMd_n447, oMd_a469, oMd_n469, oMd_a470, oMd_n470, oMd_a471, oMd_n471, oMd_a472, oMd_n472, oMd_a473, oMd_n473, oMd_a5, oMd_n5, oMd_e5, oMd_ra5, oMd_rn5, oMd_a14, oMd_n14, oMd_e14, oMd_ra14, oMd_rn14, oMd_a23, oMd_n23, oMd_e23, oMd_ra23, oMd_rn23, oMd_a184, oMd_n184, oMd_e184, oMd_ra184, oMd_rn184, oMd_a345, oMd_n345, oMd_e345, oMd_ra345, oMd_rn345, oMd_a354, oMd_n354, oMd_e354, oMd_ra354, oMd_rn354, oMd_a365, oMd_n365, oMd_e365, oMd_ra365, oMd_rn365, oMd_a448, oMd_n448, oMd_e448, oMd_ra448, oMd_rn448, oMd_a465, oMd_n465, oMd_e465, oMd_ra465, oMd_rn465, q.2.1, q.1, show (nI 8 < 8) = False by decide, ip, cp, ← hι6, ho]
        · refine JJ.fin T (by omega) hn hsb (by omega) hJ hM.mono (MO1 := rz_u (ι5 (b + 470)) p (-1)) ⟨by rw [← hp, rz_u_s], ?_⟩ (Or.inr ⟨by omega, e39, fun x _ => by rw [e471]⟩)
          intro x hx hbx
          rw [← e470]; exact out6 x hx hbx
theorem md_laysPairs (q : QM Z h ι b C R m dk lv) : ∃ ι2, rz_f Z (d + 18) 252 [.ref b] (rz_mk h ι, w) = some (.inl none, (rz_mk h ι2, w)) ∧ frM b ι ι2 ∧ ι2 b 0 = ι b 0 ∧ ι2 b 39 = prB (efL C) R lv lv ∧ ∀ p, p < 8 → ι2 (b + 471) p = prM (efL C) R lv p := by
  have T := prB_ok (efL C) R lv
  have hr := oMd.row q.2.1
  have l256 := q.2.2.2.2.l256
  have hself : sbI lv lv := (sbI_iff l256).mpr (fun _ _ h => h)
  have p8 := pop_8 lv l256
  obtain ⟨ι0, hι0⟩ : ∃ ι0, ι0 = rz_up ι b 39 (-1) := ⟨_, rfl⟩
  have f0 : frM b ι ι0 := by rw [hι0]; exact (frM.refl b ι).upF (by unfold scF; omega)
  have L := rz_loopE (fun i => rg Z (d + 17) rx_m252 7 [some (.ref b), some (.int (nI i))] [] (rz_mk h (rz_rw ι0 (b + 470) (mnK (ι0 (b + 470)) i)), w)) 8 (by
    intro i hi
    have c1 : (nI i < 8) = True := by rw [nI_ltL (by omega) (by decide)]; simp [hi]
    have i1 : rz_ix (nI i) 8 := rz_ix_nat (by omega) (by omega)
    try dsimp only
    rw [g252_7]
    simp (decide := true) (maxDischargeDepth := 4) only [g252_0, g252_1, g252_2, g252_5, g252_6, g252_8, g252_10, g252_13, g252_14, g252_17, g252_18, g252_19, g252_20, g252_23, g252_26, g252_27, g252_28, g252_31, g252_33, g252_34, g252_35, g252_38, g252_40, g252_41, g252_44, g252_45, g252_46, g252_47, g252_50, g252_51, g252_54, g252_55, g252_56, g252_59, rz_k_inl, rz_k_inr, Option.toList_some, Option.toList_none, List.cons_append, List.nil_append, List.append_nil, rz_up_s, rz_u_s, rz_up_n, rz_u_n, ne_eq, not_false_eq_true, not_true_eq_false, Nat.add_assoc, Nat.reduceAdd, reduceIte, Nat.add_eq_left, Nat.left_eq_add, Nat.add_left_cancel_iff, Nat.reduceEqDiff, Nat.add_right_cancel_iff, rz_nb0, rz_nb1, rz_nbb, rz_nbi, rz_isr, rz_zle, if_true, if_false, rz_bi0, rz_bi1, Bool.not_eq_true, Bool.not_eq_false, Bool.true_eq_false, Bool.false_eq_true, rz_ix_lit, cl_lit, Nat.reduceLT, bi_t, bi_f, decide_true, decide_false, Bool.not_false, Bool.not_true, Bool.and_true, Bool.true_and, Bool.and_false, Bool.false_and, oMd_c, oMd_i0, oMd_i1, oMd_i2, oMd_i3, oMd_i4, oMd_i5, oMd_i6, oMd_i7, oMd_i8, oMd_f9, oMd_v9, oMd_f10, oMd_v10, oMd_f11, oMd_v11, oMd_f12, oMd_v12, oMd_f13, oMd_v13, oMd_f14, oMd_v14, oMd_i15, oMd_i16, oMd_f17, oMd_v17, oMd_f18, oMd_v18, oMd_f19, oMd_v19, oMd_f20, oMd_v20, oMd_f21, oMd_v21, oMd_f22, oMd_v22, oMd_f23, oMd_v23, oMd_i24, oMd_f25, oMd_v25, oMd_f26, oMd_v26, oMd_f27, oMd_v27, oMd_f28, oMd_v28, oMd_i29, oMd_i30, oMd_i31, oMd_i32, oMd_i33, oMd_i34, oMd_i35, oMd_f36, oMd_v36, oMd_f37, oMd_v37, oMd_f38, oMd_v38, oMd_i39, oMd_f40, oMd_v40, oMd_f41, oMd_v41, oMd_i42, oMd_f43, oMd_v43, oMd_i44, oMd_a1, oMd_n1, oMd_a2, oMd_n2, oMd_a3, oMd_n3, oMd_a4, oMd_n4, oMd_a363, oMd_n363, oMd_a364, oMd_n364, oMd_a446, oMd_n446, oMd_a447, oMd_n447, oMd_a469, oMd_n469, oMd_a470, oMd_n470, oMd_a471, oMd_n471, oMd_a472, oMd_n472, oMd_a473, oMd_n473, oMd_a5, oMd_n5, oMd_e5, oMd_ra5, oMd_rn5, oMd_a14, oMd_n14, oMd_e14, oMd_ra14, oMd_rn14, oMd_a23, oMd_n23, oMd_e23, oMd_ra23, oMd_rn23, oMd_a184, oMd_n184, oMd_e184, oMd_ra184, oMd_rn184, oMd_a345, oMd_n345, oMd_e345, oMd_ra345, oMd_rn345, oMd_a354, oMd_n354, oMd_e354, oMd_ra354, oMd_rn354, oMd_a365, oMd_n365, oMd_e365, oMd_ra365, oMd_rn365, oMd_a448, oMd_n448, oMd_e448, oMd_ra448, oMd_rn448, oMd_a465, oMd_n465, oMd_e465, oMd_ra465, oMd_rn465, q.2.1, q.1, c1, i1, nI_cl (show i < 2147483648 by omega), rz_rw_up, nI_1]
    rfl)
  try dsimp only at L
  obtain ⟨ι1, hι1⟩ : ∃ ι1, ι1 = rz_rw ι0 (b + 470) (mnK (ι0 (b + 470)) 8) := ⟨_, rfl⟩
  rw [show mnK (ι0 (b + 470)) 0 = ι0 (b + 470) from rfl, rz_rw_id rfl, ← hι1] at L
  have f1 : frM b ι ι1 := by rw [hι1]; exact f0.rwA (by unfold scM; omega) (by omega)
  have e39 : ι1 b 39 = -1 := by rw [hι1, rz_rw_n (by omega), hι0, rz_up_s, rz_u_s]
  have e0 : ι1 b 0 = ι b 0 := by rw [hι1, rz_rw_n (by omega), hι0, rz_up_s, rz_u_n (by omega)]
  have e470 : ∀ x, x < 8 → ι1 (b + 470) x = -1 := fun x hx => by rw [hι1, rz_rw_s]; exact mnK_at _ 8 x hx
  obtain ⟨ι2, k1, k2, k3, k4, k5⟩ := md_pairsFrom (Z := Z) (d := d) (w := w) q 8 lv 0 ι1 p8 l256 hself (by omega) f1 (Or.inl e39)
  obtain ⟨B1, B2⟩ := T.bN l256 hself
  have k1 : rz_f Z (d + 17) 251 [.ref b, .int (nI lv), .int (bi (decide (popN lv % 2 = 1))), .int 0] (rz_mk h ι1, w) = some (.inl none, (rz_mk h ι2, w)) := k1
  have h56 : ι1 (b + 446) 56 = nI lv := by rw [(q.fr f1).2.2.2.1]; exact q.2.2.2.2.2.2.2.2.1
  have od := on_odd lv l256
  rw [e39] at k4
  have res : ι2 b 39 = prB (efL C) R lv lv ∧ ∀ p, p < 8 → ι2 (b + 471) p = prM (efL C) R lv p := by
    rcases k4 with ⟨c1, c2, c3⟩ | ⟨c1, c2, c3⟩
    · rw [Nat.zero_add, ← B1] at c2
      refine ⟨c2, fun p hp => ?_⟩
      rw [c3 p hp]
      unfold prM
      rw [hgI_gm T 8 l256 hself (fun _ _ _ => rfl) p hp]
      split
      · rfl
      · exact e470 p hp
    · exfalso
      apply c1
      rw [nI_m1l (by omega)]; trivial
  refine ⟨ι2, ?_, k2, k3.trans e0, res.1, res.2⟩
  rw [e252]
  simp (decide := true) (maxDischargeDepth := 4) only [g252_0, g252_1, g252_2, g252_5, g252_6, g252_8, g252_10, g252_13, g252_14, g252_17, g252_18, g252_19, g252_20, g252_23, g252_26, g252_27, g252_28, g252_31, g252_33, g252_34, g252_35, g252_38, g252_40, g252_41, g252_44, g252_45, g252_46, g252_47, g252_50, g252_51, g252_54, g252_55, g252_56, g252_59, rz_k_inl, rz_k_inr, Option.toList_some, Option.toList_none, List.cons_append, List.nil_append, List.append_nil, rz_up_s, rz_u_s, rz_up_n, rz_u_n, ne_eq, not_false_eq_true, not_true_eq_false, Nat.add_assoc, Nat.reduceAdd, reduceIte, Nat.add_eq_left, Nat.left_eq_add, Nat.add_left_cancel_iff, Nat.reduceEqDiff, Nat.add_right_cancel_iff, rz_nb0, rz_nb1, rz_nbb, rz_nbi, rz_isr, rz_zle, if_true, if_false, rz_bi0, rz_bi1, Bool.not_eq_true, Bool.not_eq_false, Bool.true_eq_false, Bool.false_eq_true, rz_ix_lit, cl_lit, Nat.reduceLT, bi_t, bi_f, decide_true, decide_false, Bool.not_false, Bool.not_true, Bool.and_true, Bool.true_and, Bool.and_false, Bool.false_and, oMd_c, oMd_i0, oMd_i1, oMd_i2, oMd_i3, oMd_i4, oMd_i5, oMd_i6, oMd_i7, oMd_i8, oMd_f9, oMd_v9, oMd_f10, oMd_v10, oMd_f11, oMd_v11, oMd_f12, oMd_v12, oMd_f13, oMd_v13, oMd_f14, oMd_v14, oMd_i15, oMd_i16, oMd_f17, oMd_v17, oMd_f18, oMd_v18, oMd_f19, oMd_v19, oMd_f20, oMd_v20, oMd_f21, oMd_v21, oMd_f22, oMd_v22, oMd_f23, oMd_v23, oMd_i24, oMd_f25, oMd_v25, oMd_f26, oMd_v26, oMd_f27, oMd_v27, oMd_f28, oMd_v28, oMd_i29, oMd_i30, oMd_i31, oMd_i32, oMd_i33, oMd_i34, oMd_i35, oMd_f36, oMd_v36, oMd_f37, oMd_v37, oMd_f38, oMd_v38, oMd_i39, oMd_f40, oMd_v40, oMd_f41, oMd_v41, oMd_i42, oMd_f43, oMd_v43, oMd_i44, oMd_a1, oMd_n1, oMd_a2, oMd_n2, oMd_a3, oMd_n3, oMd_a4, oMd_n4, oMd_a363, oMd_n363, oMd_a364, oMd_n364, oMd_a446, oMd_n446, oMd_a447, oMd_n447, oMd_a469, oMd_n469, oMd_a470, oMd_n470, oMd_a471, oMd_n471, oMd_a472, oMd_n472, oMd_a473, oMd_n473, oMd_a5, oMd_n5, oMd_e5, oMd_ra5, oMd_rn5, oMd_a14, oMd_n14, oMd_e14, oMd_ra14, oMd_rn14, oMd_a23, oMd_n23, oMd_e23, oMd_ra23, oMd_rn23, oMd_a184, oMd_n184, oMd_e184, oMd_ra184, oMd_rn184, oMd_a345, oMd_n345, oMd_e345, oMd_ra345, oMd_rn345, oMd_a354, oMd_n354, oMd_e354, oMd_ra354, oMd_rn354, oMd_a365, oMd_n365, oMd_e365, oMd_ra365, oMd_rn365, oMd_a448, oMd_n448, oMd_e448, oMd_ra448, oMd_rn448, oMd_a465, oMd_n465, oMd_e465, oMd_ra465, oMd_rn465, q.2.1, q.1, ← hι0]
  refine Eq.trans ?_ (L.trans ?_)
  · rfl
  · rw [g252_7]
    by_cases ho : popN lv % 2 = 1
    · have hd' : decide (popN lv % 2 = 1) = true := by simp [ho]
      rw [hd', bi_t] at k1
      simp (decide := true) (maxDischargeDepth := 4) only [g252_0, g252_1, g252_2, g252_5, g252_6, g252_8, g252_10, g252_13, g252_14, g252_17, g252_18, g252_19, g252_20, g252_23, g252_26, g252_27, g252_28, g252_31, g252_33, g252_34, g252_35, g252_38, g252_40, g252_41, g252_44, g252_45, g252_46, g252_47, g252_50, g252_51, g252_54, g252_55, g252_56, g252_59, rz_k_inl, rz_k_inr, Option.toList_some, Option.toList_none, List.cons_append, List.nil_append, List.append_nil, rz_up_s, rz_u_s, rz_up_n, rz_u_n, ne_eq, not_false_eq_true, not_true_eq_false, Nat.add_assoc, Nat.reduceAdd, reduceIte, Nat.add_eq_left, Nat.left_eq_add, Nat.add_left_cancel_iff, Nat.reduceEqDiff, Nat.add_right_cancel_iff, rz_nb0, rz_nb1, rz_nbb, rz_nbi, rz_isr, rz_zle, if_true, if_false, rz_bi0, rz_bi1, Bool.not_eq_true, Bool.not_eq_false, Bool.true_eq_false, Bool.false_eq_true, rz_ix_lit, cl_lit, Nat.reduceLT, bi_t, bi_f, decide_true, decide_false, Bool.not_false, Bool.not_true, Bool.and_true, Bool.true_and, Bool.and_false, Bool.false_and, oMd_c, oMd_i0, oMd_i1, oMd_i2, oMd_i3, oMd_i4, oMd_i5, oMd_i6, oMd_i7, oMd_i8, oMd_f9, oMd_v9, oMd_f10, oMd_v10, oMd_f11, oMd_v11, oMd_f12, oMd_v12, oMd_f13, oMd_v13, oMd_f14, oMd_v14, oMd_i15, oMd_i16, oMd_f17, oMd_v17, oMd_f18, oMd_v18, oMd_f19, oMd_v19, oMd_f20, oMd_v20, oMd_f21, oMd_v21, oMd_f22, oMd_v22, oMd_f23, oMd_v23, oMd_i24, oMd_f25, oMd_v25, oMd_f26, oMd_v26, oMd_f27, oMd_v27, oMd_f28, oMd_v28, oMd_i29, oMd_i30, oMd_i31, oMd_i32, oMd_i33, oMd_i34, oMd_i35, oMd_f36, oMd_v36, oMd_f37, oMd_v37, oMd_f38, oMd_v38, oMd_i39, oMd_f40, oMd_v40, oMd_f41, oMd_v41, oMd_i42, oMd_f43, oMd_v43, oMd_i44, oMd_a1, oMd_n1, oMd_a2, oMd_n2, oMd_a3, oMd_n3, oMd_a4, oMd_n4, oMd_a363, oMd_n363, oMd_a364, oMd_n364, oMd_a446, oMd_n446, oMd_a447, oMd_n447, oMd_a469, oMd_n469, oMd_a470, oMd_n470, oMd_a471, oMd_n471, oMd_a472, oMd_n472, oMd_a473, oMd_n473, oMd_a5, oMd_n5, oMd_e5, oMd_ra5, oMd_rn5, oMd_a14, oMd_n14, oMd_e14, oMd_ra14, oMd_rn14, oMd_a23, oMd_n23, oMd_e23, oMd_ra23, oMd_rn23, oMd_a184, oMd_n184, oMd_e184, oMd_ra184, oMd_rn184, oMd_a345, oMd_n345, oMd_e345, oMd_ra345, oMd_rn345, oMd_a354, oMd_n354, oMd_e354, oMd_ra354, oMd_rn354, oMd_a365, oMd_n365, oMd_e365, oMd_ra365, oMd_rn365, oMd_a448, oMd_n448, oMd_e448, oMd_ra448, oMd_rn448, oMd_a465, oMd_n465, oMd_e465, oMd_ra465, oMd_rn465, q.2.1, q.1, hr.1, hr.2, show (nI 8 < 8) = False by decide, h56, md_ones, od, ho, k1]
    · have hd' : decide (popN lv % 2 = 1) = false := by simp [ho]
      rw [hd', bi_f] at k1
      simp (decide := true) (maxDischargeDepth := 4) only [g252_0, g252_1, g252_2, g252_5, g252_6, g252_8, g252_10, g252_13, g252_14, g252_17, g252_18, g252_19, g252_20, g252_23, g252_26, g252_27, g252_28, g252_31, g252_33, g252_34, g252_35, g252_38, g252_40, g252_41, g252_44, g252_45, g252_46, g252_47, g252_50, g252_51, g252_54, g252_55, g252_56, g252_59, rz_k_inl, rz_k_inr, Option.toList_some, Option.toList_none, List.cons_append, List.nil_append, List.append_nil, rz_up_s, rz_u_s, rz_up_n, rz_u_n, ne_eq, not_false_eq_true, not_true_eq_false, Nat.add_assoc, Nat.reduceAdd, reduceIte, Nat.add_eq_left, Nat.left_eq_add, Nat.add_left_cancel_iff, Nat.reduceEqDiff, Nat.add_right_cancel_iff, rz_nb0, rz_nb1, rz_nbb, rz_nbi, rz_isr, rz_zle, if_true, if_false, rz_bi0, rz_bi1, Bool.not_eq_true, Bool.not_eq_false, Bool.true_eq_false, Bool.false_eq_true, rz_ix_lit, cl_lit, Nat.reduceLT, bi_t, bi_f, decide_true, decide_false, Bool.not_false, Bool.not_true, Bool.and_true, Bool.true_and, Bool.and_false, Bool.false_and, oMd_c, oMd_i0, oMd_i1, oMd_i2, oMd_i3, oMd_i4, oMd_i5, oMd_i6, oMd_i7, oMd_i8, oMd_f9, oMd_v9, oMd_f10, oMd_v10, oMd_f11, oMd_v11, oMd_f12, oMd_v12, oMd_f13, oMd_v13, oMd_f14, oMd_v14, oMd_i15, oMd_i16, oMd_f17, oMd_v17, oMd_f18, oMd_v18, oMd_f19, oMd_v19, oMd_f20, oMd_v20, oMd_f21, oMd_v21, oMd_f22, oMd_v22, oMd_f23, oMd_v23, oMd_i24, oMd_f25, oMd_v25, oMd_f26, oMd_v26, oMd_f27, oMd_v27, oMd_f28, oMd_v28, oMd_i29, oMd_i30, oMd_i31, oMd_i32, oMd_i33, oMd_i34, oMd_i35, oMd_f36, oMd_v36, oMd_f37, oMd_v37, oMd_f38, oMd_v38, oMd_i39, oMd_f40, oMd_v40, oMd_f41, oMd_v41, oMd_i42, oMd_f43, oMd_v43, oMd_i44, oMd_a1, oMd_n1, oMd_a2, oMd_n2, oMd_a3, oMd_n3, oMd_a4, oMd_n4, oMd_a363, oMd_n363, oMd_a364, oMd_n364, oMd_a446, oMd_n446, oMd_a447, oMd_n447, oMd_a469, oMd_n469, oMd_a470, oMd_n470, oMd_a471, oMd_n471, oMd_a472, oMd_n472, oMd_a473, oMd_n473, oMd_a5, oMd_n5, oMd_e5, oMd_ra5, oMd_rn5, oMd_a14, oMd_n14, oMd_e14, oMd_ra14, oMd_rn14, oMd_a23, oMd_n23, oMd_e23, oMd_ra23, oMd_rn23, oMd_a184, oMd_n184, oMd_e184, oMd_ra184, oMd_rn184, oMd_a345, oMd_n345, oMd_e345, oMd_ra345, oMd_rn345, oMd_a354, oMd_n354, oMd_e354, oMd_ra354, oMd_rn354, oMd_a365, oMd_n365, oMd_e365, oMd_ra365, oMd_rn365, oMd_a448, oMd_n448, oMd_e448, oMd_ra448, oMd_rn448, oMd_a465, oMd_n465, oMd_e465, oMd_ra465, oMd_rn465, q.2.1, q.1, hr.1, hr.2, show (nI 8 < 8) = False by decide, h56, md_ones, od, ho, k1]
theorem mo_pairs (q : QM Z h ι b C R m dk lv) : ansM Z (d + 19) h ι w b 253 [] (prB (efL C) R lv lv) := by
  obtain ⟨ι0, e0, q0, f0, t0⟩ := mpre q
  obtain ⟨ι1, k1, k2, k3, k4, k5⟩ := md_laysPairs (Z := Z) (d := d) (w := w) q0
  refine ⟨ι1, ?_, f0.trans k2, k3.trans t0⟩
  rw [e253]
  simp (decide := true) (maxDischargeDepth := 4) only [g253_0, g253_1, g253_2, g253_5, g253_6, g253_9, g253_10, g253_13, rz_k_inl, rz_k_inr, Option.toList_some, Option.toList_none, List.cons_append, List.nil_append, List.append_nil, rz_up_s, rz_u_s, rz_up_n, rz_u_n, ne_eq, not_false_eq_true, not_true_eq_false, Nat.add_assoc, Nat.reduceAdd, reduceIte, Nat.add_eq_left, Nat.left_eq_add, Nat.add_left_cancel_iff, Nat.reduceEqDiff, Nat.add_right_cancel_iff, rz_nb0, rz_nb1, rz_nbb, rz_nbi, rz_isr, rz_zle, if_true, if_false, rz_bi0, rz_bi1, Bool.not_eq_true, Bool.not_eq_false, Bool.true_eq_false, Bool.false_eq_true, rz_ix_lit, cl_lit, Nat.reduceLT, bi_t, bi_f, decide_true, decide_false, Bool.not_false, Bool.not_true, Bool.and_true, Bool.true_and, Bool.and_false, Bool.false_and, oMd_c, oMd_i0, oMd_i1, oMd_i2, oMd_i3, oMd_i4, oMd_i5, oMd_i6, oMd_i7, oMd_i8, oMd_f9, oMd_v9, oMd_f10, oMd_v10, oMd_f11, oMd_v11, oMd_f12, oMd_v12, oMd_f13, oMd_v13, oMd_f14, oMd_v14, oMd_i15, oMd_i16, oMd_f17, oMd_v17, oMd_f18, oMd_v18, oMd_f19, oMd_v19, oMd_f20, oMd_v20, oMd_f21, oMd_v21, oMd_f22, oMd_v22, oMd_f23, oMd_v23, oMd_i24, oMd_f25, oMd_v25, oMd_f26, oMd_v26, oMd_f27, oMd_v27, oMd_f28, oMd_v28, oMd_i29, oMd_i30, oMd_i31, oMd_i32, oMd_i33, oMd_i34, oMd_i35, oMd_f36, oMd_v36, oMd_f37, oMd_v37, oMd_f38, oMd_v38, oMd_i39, oMd_f40, oMd_v40, oMd_f41, oMd_v41, oMd_i42, oMd_f43, oMd_v43, oMd_i44, oMd_a1, oMd_n1, oMd_a2, oMd_n2, oMd_a3, oMd_n3, oMd_a4, oMd_n4, oMd_a363, oMd_n363, oMd_a364, oMd_n364, oMd_a446, oMd_n446, oMd_a447, oMd_n447, oMd_a469, oMd_n469, oMd_a470, oMd_n470, oMd_a471, oMd_n471, oMd_a472, oMd_n472, oMd_a473, oMd_n473, oMd_a5, oMd_n5, oMd_e5, oMd_ra5, oMd_rn5, oMd_a14, oMd_n14, oMd_e14, oMd_ra14, oMd_rn14, oMd_a23, oMd_n23, oMd_e23, oMd_ra23, oMd_rn23, oMd_a184, oMd_n184, oMd_e184, oMd_ra184, oMd_rn184, oMd_a345, oMd_n345, oMd_e345, oMd_ra345, oMd_rn345, oMd_a354, oMd_n354, oMd_e354, oMd_ra354, oMd_rn354, oMd_a365, oMd_n365, oMd_e365, oMd_ra365, oMd_rn365, oMd_a448, oMd_n448, oMd_e448, oMd_ra448, oMd_rn448, oMd_a465, oMd_n465, oMd_e465, oMd_ra465, oMd_rn465, q.2.1, q.1, e0, k1, k4]
theorem mo_mate (q : QM Z h ι b C R m dk lv) {p : Nat} (hp : p < m) : ansM Z (d + 19) h ι w b 254 [.int (nI p)] (prM (efL C) R lv p) := by
  obtain ⟨ι0, e0, q0, f0, t0⟩ := mpre q
  obtain ⟨b1, b2, b3, b4⟩ := mbad (Z := Z) (d := d + 17) (w := w) q e0 t0
  have ip := md_isPerson (Z := Z) (d := d + 16) (w := w) q0
  have hm8 := q.2.2.2.2.2.1
  have hx' := pnT hm8 hp
  obtain ⟨ι1, k1, k2, k3, k4, k5⟩ := md_laysPairs (Z := Z) (d := d) (w := w) q0
  have i1 : rz_ix (nI p) 8 := rz_ix_nat (by omega) (by omega)
  refine ⟨ι1, ?_, f0.trans k2, k3.trans t0⟩
  rw [e254]
  simp (decide := true) (maxDischargeDepth := 4) only [g254_0, g254_1, g254_2, g254_5, g254_6, g254_7, g254_8, g254_11, g254_14, g254_15, g254_18, g254_19, g254_20, g254_21, g254_24, g254_27, g254_28, g254_29, g254_30, g254_33, g254_34, g254_37, g254_38, g254_39, rz_k_inl, rz_k_inr, Option.toList_some, Option.toList_none, List.cons_append, List.nil_append, List.append_nil, rz_up_s, rz_u_s, rz_up_n, rz_u_n, ne_eq, not_false_eq_true, not_true_eq_false, Nat.add_assoc, Nat.reduceAdd, reduceIte, Nat.add_eq_left, Nat.left_eq_add, Nat.add_left_cancel_iff, Nat.reduceEqDiff, Nat.add_right_cancel_iff, rz_nb0, rz_nb1, rz_nbb, rz_nbi, rz_isr, rz_zle, if_true, if_false, rz_bi0, rz_bi1, Bool.not_eq_true, Bool.not_eq_false, Bool.true_eq_false, Bool.false_eq_true, rz_ix_lit, cl_lit, Nat.reduceLT, bi_t, bi_f, decide_true, decide_false, Bool.not_false, Bool.not_true, Bool.and_true, Bool.true_and, Bool.and_false, Bool.false_and, oMd_c, oMd_i0, oMd_i1, oMd_i2, oMd_i3, oMd_i4, oMd_i5, oMd_i6, oMd_i7, oMd_i8, oMd_f9, oMd_v9, oMd_f10, oMd_v10, oMd_f11, oMd_v11, oMd_f12, oMd_v12, oMd_f13, oMd_v13, oMd_f14, oMd_v14, oMd_i15, oMd_i16, oMd_f17, oMd_v17, oMd_f18, oMd_v18, oMd_f19, oMd_v19, oMd_f20, oMd_v20, oMd_f21, oMd_v21, oMd_f22, oMd_v22, oMd_f23, oMd_v23, oMd_i24, oMd_f25, oMd_v25, oMd_f26, oMd_v26, oMd_f27, oMd_v27, oMd_f28, oMd_v28, oMd_i29, oMd_i30, oMd_i31, oMd_i32, oMd_i33, oMd_i34, oMd_i35, oMd_f36, oMd_v36, oMd_f37, oMd_v37, oMd_f38, oMd_v38, oMd_i39, oMd_f40, oMd_v40, oMd_f41, oMd_v41, oMd_i42, oMd_f43, oMd_v43, oMd_i44, oMd_a1, oMd_n1, oMd_a2, oMd_n2, oMd_a3, oMd_n3, oMd_a4, oMd_n4, oMd_a363, oMd_n363, oMd_a364, oMd_n364, oMd_a446, oMd_n446, oMd_a447, oMd_n447, oMd_a469, oMd_n469, oMd_a470, oMd_n470, oMd_a471, oMd_n471, oMd_a472, oMd_n472, oMd_a473, oMd_n473, oMd_a5, oMd_n5, oMd_e5, oMd_ra5, oMd_rn5, oMd_a14, oMd_n14, oMd_e14, oMd_ra14, oMd_rn14, oMd_a23, oMd_n23, oMd_e23, oMd_ra23, oMd_rn23, oMd_a184, oMd_n184, oMd_e184, oMd_ra184, oMd_rn184, oMd_a345, oMd_n345, oMd_e345, oMd_ra345, oMd_rn345, oMd_a354, oMd_n354, oMd_e354, oMd_ra354, oMd_rn354, oMd_a365, oMd_n365, oMd_e365, oMd_ra365, oMd_rn365, oMd_a448, oMd_n448, oMd_e448, oMd_ra448, oMd_rn448, oMd_a465, oMd_n465, oMd_e465, oMd_ra465, oMd_rn465, q.2.1, q.1, e0, ip, hx', b4, k1, i1, nI_cl (show p < 2147483648 by omega), k5 p (by omega)]
end REF30
