/-! the reference reads WORK to its end -/
section WORK7
variable {Z : rx_Z} {d : Nat} {h : Nat → Option rx_E} {ι ι0 : Nat → Nat → Int32} {w : Nat × Nat} {b : Nat}
/-- a step's row is taken -/
theorem wr_pre {e m p x : Nat} {K : List Nat} {T : Nat → TK} (hb : oMd h b) (hz : Z.2.1 ≤ b) (he : ι0 b 2 = nI e) (he6 : e ≤ 600) (hpe : p ≤ e) (hm : m < 80) (i : wrI b ι0 ι K T m (sk (ι0 (b + 1)) e p)) (l2 : Option Value) : ∃ ι', rg Z (d + 2) rx_m211 40 [some (.ref b), some (.int (nI x)), l2] [] (rz_mk h ι, w) = rg Z (d + 2) rx_m211 68 [some (.ref b), some (.int (nI x)), some (.ref (b + (366 + nC T m)))] [] (rz_mk h ι', w) ∧ wrH b ι0 ι' K T m (wdR (ι0 (b + 1)) e p) ∧ ι' (b + (366 + nC T m)) 0 = nI x := by
  have hsk := sk_le (B := ι0 (b + 1)) hpe
  have hn := nC_le T m
  have r1 := oMd_ra365 hb (show nC T m < 80 by omega)
  have r2 := oMd_rn365 hb (show nC T m < 80 by omega)
  have ix : rz_ix (nI (nC T m)) 80 := rz_ix_nat (by omega) (by omega)
  have sw := rd_skipWord (Z := Z) (d := d) (w := w) hb hz (i.e2 he) i.2.1 hsk he6
  rw [i.by] at sw
  have i1 := i.rd (rdOk.of b (wdR (ι0 (b + 1)) e p) ι)
  change rz_f Z (d + 2) 189 [.ref b] (rz_mk h ι, w) = some (.inl none, (rz_mk h (rz_up ι b 4 (nI (wdR (ι0 (b + 1)) e p))), w)) at sw
  generalize rz_up ι b 4 (nI (wdR (ι0 (b + 1)) e p)) = ι1 at sw i1
  have h24 := i1.2.2.2.2.1
  refine ⟨rz_up (rz_up ι1 b 24 (nI (nC T m + 1))) (b + (366 + nC T m)) 0 (nI x), ?_, ?_, by rw [rz_up_s, rz_u_s]⟩
  · simp (decide := true) (maxDischargeDepth := 4) only [g211_40, g211_41, g211_44, g211_45, g211_48, g211_49, g211_52, g211_53, g211_54, g211_55, g211_56, g211_59, g211_60, g211_61, g211_64, g211_65, g211_66, g211_67, rz_k_inl, rz_k_inr, Option.toList_some, Option.toList_none, List.cons_append, List.nil_append, List.append_nil, rz_up_s, rz_u_s, rz_up_n, rz_u_n, ne_eq, not_false_eq_true, not_true_eq_false, Nat.add_assoc, Nat.reduceAdd, reduceIte, Nat.add_eq_left, Nat.left_eq_add, Nat.add_left_cancel_iff, Nat.reduceEqDiff, Nat.add_right_cancel_iff, rz_nb0, rz_nb1, rz_nbb, rz_nbi, rz_isr, rz_zle, if_true, if_false, rz_bi0, rz_bi1, Bool.not_eq_true, Bool.not_eq_false, Bool.true_eq_false, Bool.false_eq_true, rz_ix_lit, cl_lit, Nat.reduceLT, bi_t, bi_f, decide_true, decide_false, Bool.not_false, Bool.not_true, Bool.and_true, Bool.true_and, Bool.and_false, Bool.false_and, oMd_c, oMd_i0, oMd_i1, oMd_i2, oMd_i3, oMd_i4, oMd_i5, oMd_i6, oMd_i7, oMd_i8, oMd_f9, oMd_v9, oMd_f10, oMd_v10, oMd_f11, oMd_v11, oMd_f12, oMd_v12, oMd_f13, oMd_v13, oMd_f14, oMd_v14, oMd_i15, oMd_i16, oMd_f17, oMd_v17, oMd_f18, oMd_v18, oMd_f19, oMd_v19, oMd_f20, oMd_v20, oMd_f21, oMd_v21, oMd_f22, oMd_v22, oMd_f23, oMd_v23, oMd_i24, oMd_f25, oMd_v25, oMd_f26, oMd_v26, oMd_f27, oMd_v27, oMd_f28, oMd_v28, oMd_i29, oMd_i30, oMd_i31, oMd_i32, oMd_i33, oMd_i34, oMd_i35, oMd_f36, oMd_v36, oMd_f37, oMd_v37, oMd_f38, oMd_v38, oMd_i39, oMd_f40, oMd_v40, oMd_f41, oMd_v41, oMd_i42, oMd_f43, oMd_v43, oMd_i44, oMd_a1, oMd_n1, oMd_a2, oMd_n2, oMd_a3, oMd_n3, oMd_a4, oMd_n4, oMd_a363, oMd_n363, oMd_a364, oMd_n364, oMd_a446, oMd_n446, oMd_a447, oMd_n447, oMd_a469, oMd_n469, oMd_a470, oMd_n470, oMd_a471, oMd_n471, oMd_a472, oMd_n472, oMd_a473, oMd_n473, oMd_a5, oMd_n5, oMd_e5, oMd_ra5, oMd_rn5, oMd_a14, oMd_n14, oMd_e14, oMd_ra14, oMd_rn14, oMd_a23, oMd_n23, oMd_e23, oMd_ra23, oMd_rn23, oMd_a184, oMd_n184, oMd_e184, oMd_ra184, oMd_rn184, oMd_a345, oMd_n345, oMd_e345, oMd_ra345, oMd_rn345, oMd_a354, oMd_n354, oMd_e354, oMd_ra354, oMd_rn354, oMd_a365, oMd_n365, oMd_e365, oMd_ra365, oMd_rn365, oMd_a448, oMd_n448, oMd_e448, oMd_ra448, oMd_rn448, oMd_a465, oMd_n465, oMd_e465, oMd_ra465, oMd_rn465, hb, hz, sw, h24, ix, nI_cl (show nC T m < 2147483648 by omega), r1, r2, nI_1]
  · obtain ⟨j1, j2, j3, j4, j5, j6⟩ := i1
    refine ⟨(j1.up (by unfold wrS; omega)).upA (by unfold wrQ; omega) (by omega), ?_, ?_, ?_, ?_, ?_⟩
    · rw [rz_up_n (by omega), rz_up_s, rz_u_n (by omega)]; exact j2
    · rw [rz_up_n (by omega), rz_up_s, rz_u_n (by omega)]; exact j3
    · rw [rz_up_n (by omega), rz_up_s, rz_u_n (by omega)]; exact j4
    · rw [rz_up_n (by omega), rz_up_s, rz_u_s]
    · exact wrR.row (j6.cong (fun a ha => rz_up_n ha))
theorem wr_again {e n m p : Nat} {K : List Nat} {T : Nat → TK} (hb : oMd h b) (hz : Z.2.1 ≤ b) (he : ι0 b 2 = nI e) (he6 : e ≤ 150) (IH : wrC Z h w b e ι0 n) (hpe : p ≤ e) (hn : e - p < n + 1) (hK : K.length < 6) (hm : 9 * m + 5 * K.length ≤ 2 * p) (hk : ∀ k ∈ K, k < m) (hA : ¬ (¬ sk (ι0 (b + 1)) e p < e ∧ K = [])) (hC : ¬ (sg (ι0 (b + 1)) e (sk (ι0 (b + 1)) e p) = 93 ∧ K ≠ [])) (hD : (6 - K.length) + 8 ≤ d + 8) (hw : wdIs (ι0 (b + 1)) (sk (ι0 (b + 1)) e p) (wdR (ι0 (b + 1)) e p) (WD 14) = true) (i : wrI b ι0 ι (m :: K) T m (sk (ι0 (b + 1)) e p)) :
    (∃ f ι', rg Z (d + 7) rx_m211 40 [some (.ref b), some (.int (nI 5)), none] [] (rz_mk h ι, w) = some (.inl none, (rz_mk h ι', w)) ∧ wrN b ι0 ι' f ∧ wW (ι0 (b + 1)) e K T m p = .inr f) ∨
    (∃ T' m' p' ι', rg Z (d + 7) rx_m211 40 [some (.ref b), some (.int (nI 5)), none] [] (rz_mk h ι, w) = some (.inl none, (rz_mk h ι', w)) ∧ wrI b ι0 ι' K T' m' p' ∧ p < p' ∧ p' ≤ e ∧ 9 * m' + 5 * K.length ≤ 2 * p' ∧ m < m' ∧ (∀ i, i < m → T' i = T i) ∧ wW (ι0 (b + 1)) e K T m p = wW (ι0 (b + 1)) e K T' m' p') := by
  have hge := sk_ge (ι0 (b + 1)) e p
  obtain ⟨w1, w2⟩ := wdR_le (B := ι0 (b + 1)) hpe
  have wl : wdR (ι0 (b + 1)) e p - sk (ι0 (b + 1)) e p = 5 := wd_len hw
  have WS := wW_step (B := ι0 (b + 1)) (T := T) hpe (by omega) hm hA
  have w1e : wt1 (ι0 (b + 1)) e K T m p = rB (nmN (ι0 (b + 1)) e 60 (wdR (ι0 (b + 1)) e p)) (fun x => rB (smP (ι0 (b + 1)) e 91 x.2) (fun q => .inl (m :: K, upT T m (5, x.1, 0, 0), m + 1, q))) := by
    unfold wt1
    rw [if_neg hC, if_pos hw, if_pos hK]
  rw [w1e] at WS
  have m80 : m < 80 := by omega
  have hnc := nC_le T m
  have r1 := oMd_ra365 hb (show nC T m < 80 by omega)
  have r2 := oMd_rn365 hb (show nC T m < 80 by omega)
  have rq : wrQ b (b + (366 + nC T m)) := by unfold wrQ; omega
  have n0 : ∀ (J : Nat → Nat → Int32) (k : Nat) (v : Int32), rz_up J (b + (366 + nC T m)) k v b = J b := fun _ _ _ => rz_up_n (by omega)
  obtain ⟨ι1, P1, P2, P3⟩ := wr_pre (Z := Z) (d := d + 5) (w := w) (x := 5) hb hz he (by omega) hpe m80 i none
  rw [show nI 5 = 5 from rfl] at P1 P3 ⊢
  have SF := fun (J : Nat → Nat → Int32) (x : Int32) (h5 : ¬ (J b 5 = 0)) => wr_SF (Z := Z) (d := d + 4) (w := w) hb J x h5
  have c4 : ¬ ((5 : Int32) < 4) := by decide
  have c0 : ¬ ((5 : Int32) = 0) := by decide
  have c2 : ¬ ((5 : Int32) = 2) := by decide
  -- the way out, once there is a fault
  have out : ∀ (J : Nat → Nat → Int32) (f : Nat × Nat), wrN b ι0 J f → ∃ ι', rg Z (d + 7) rx_m211 177 [some (.ref b), some (.int 5), some (.ref (b + (366 + nC T m)))] [] (rz_mk h J, w) = some (.inl none, (rz_mk h ι', w)) ∧ wrN b ι0 ι' f := by
    intro J f hN
    have nz := hN.nz
    have h8 : wrN b ι0 (rz_up J b 8 (J b 8 - 1)) f := by
      obtain ⟨i1, i2, i3, ⟨p, p1, p2⟩, i5, i6⟩ := hN
      exact ⟨i1.up (by unfold wrS; omega), by rw [rz_up_s, rz_u_n (by omega)]; exact i2, by rw [rz_up_s, rz_u_n (by omega)]; exact i3, ⟨p, p1, by rw [rz_up_s, rz_u_n (by omega)]; exact p2⟩, i5, i6⟩
    obtain ⟨J2, e2⟩ : ∃ J2, rz_up J b 8 (J b 8 - 1) = J2 := ⟨_, rfl⟩
    rw [e2] at h8
    have nz2 := h8.nz
    refine ⟨rz_up J2 (b + (366 + nC T m)) 4 (J2 b 24), ?_, h8.row rq⟩
    simp (decide := true) (maxDischargeDepth := 4) only [g211_177, g211_178, g211_180, g211_183, g211_184, g211_185, g211_188, g211_189, g211_190, g211_193, g211_194, g211_195, g211_196, g211_199, g211_200, g211_201, g211_203, g211_206, rz_k_inl, rz_k_inr, Option.toList_some, Option.toList_none, List.cons_append, List.nil_append, List.append_nil, rz_up_s, rz_u_s, rz_up_n, rz_u_n, ne_eq, not_false_eq_true, not_true_eq_false, Nat.add_assoc, Nat.reduceAdd, reduceIte, Nat.add_eq_left, Nat.left_eq_add, Nat.add_left_cancel_iff, Nat.reduceEqDiff, Nat.add_right_cancel_iff, rz_nb0, rz_nb1, rz_nbb, rz_nbi, rz_isr, rz_zle, if_true, if_false, rz_bi0, rz_bi1, Bool.not_eq_true, Bool.not_eq_false, Bool.true_eq_false, Bool.false_eq_true, rz_ix_lit, cl_lit, Nat.reduceLT, bi_t, bi_f, decide_true, decide_false, Bool.not_false, Bool.not_true, Bool.and_true, Bool.true_and, Bool.and_false, Bool.false_and, oMd_c, oMd_i0, oMd_i1, oMd_i2, oMd_i3, oMd_i4, oMd_i5, oMd_i6, oMd_i7, oMd_i8, oMd_f9, oMd_v9, oMd_f10, oMd_v10, oMd_f11, oMd_v11, oMd_f12, oMd_v12, oMd_f13, oMd_v13, oMd_f14, oMd_v14, oMd_i15, oMd_i16, oMd_f17, oMd_v17, oMd_f18, oMd_v18, oMd_f19, oMd_v19, oMd_f20, oMd_v20, oMd_f21, oMd_v21, oMd_f22, oMd_v22, oMd_f23, oMd_v23, oMd_i24, oMd_f25, oMd_v25, oMd_f26, oMd_v26, oMd_f27, oMd_v27, oMd_f28, oMd_v28, oMd_i29, oMd_i30, oMd_i31, oMd_i32, oMd_i33, oMd_i34, oMd_i35, oMd_f36, oMd_v36, oMd_f37, oMd_v37, oMd_f38, oMd_v38, oMd_i39, oMd_f40, oMd_v40, oMd_f41, oMd_v41, oMd_i42, oMd_f43, oMd_v43, oMd_i44, oMd_a1, oMd_n1, oMd_a2, oMd_n2, oMd_a3, oMd_n3, oMd_a4, oMd_n4, oMd_a363, oMd_n363, oMd_a364, oMd_n364, oMd_a446, oMd_n446, oMd_a447, oMd_n447, oMd_a469, oMd_n469, oMd_a470, oMd_n470, oMd_a471, oMd_n471, oMd_a472, oMd_n472, oMd_a473, oMd_n473, oMd_a5, oMd_n5, oMd_e5, oMd_ra5, oMd_rn5, oMd_a14, oMd_n14, oMd_e14, oMd_ra14, oMd_rn14, oMd_a23, oMd_n23, oMd_e23, oMd_ra23, oMd_rn23, oMd_a184, oMd_n184, oMd_e184, oMd_ra184, oMd_rn184, oMd_a345, oMd_n345, oMd_e345, oMd_ra345, oMd_rn345, oMd_a354, oMd_n354, oMd_e354, oMd_ra354, oMd_rn354, oMd_a365, oMd_n365, oMd_e365, oMd_ra365, oMd_rn365, oMd_a448, oMd_n448, oMd_e448, oMd_ra448, oMd_rn448, oMd_a465, oMd_n465, oMd_e465, oMd_ra465, oMd_rn465, hb, hz, SF, nz, e2, r1, r2, n0, nz2]
  have outB : ∀ (J : Nat → Nat → Int32) (f : Nat × Nat), wrN b ι0 J f → ∃ ι', rg Z (d + 7) rx_m211 142 [some (.ref b), some (.int 5), some (.ref (b + (366 + nC T m)))] [] (rz_mk h J, w) = some (.inl none, (rz_mk h ι', w)) ∧ wrN b ι0 ι' f := by
    intro J f hN
    obtain ⟨J2, b1, hN2⟩ := wr_bF (Z := Z) (d := d + 5) (w := w) hb hz he (by omega) hN
    have nz := hN2.nz
    obtain ⟨ι', o1, o2⟩ := out J2 f hN2
    refine ⟨ι', ?_, o2⟩
    rw [← o1]
    simp (decide := true) (maxDischargeDepth := 4) only [g211_142, g211_143, rz_k_inl, rz_k_inr, Option.toList_some, Option.toList_none, List.cons_append, List.nil_append, List.append_nil, rz_up_s, rz_u_s, rz_up_n, rz_u_n, ne_eq, not_false_eq_true, not_true_eq_false, Nat.add_assoc, Nat.reduceAdd, reduceIte, Nat.add_eq_left, Nat.left_eq_add, Nat.add_left_cancel_iff, Nat.reduceEqDiff, Nat.add_right_cancel_iff, rz_nb0, rz_nb1, rz_nbb, rz_nbi, rz_isr, rz_zle, if_true, if_false, rz_bi0, rz_bi1, Bool.not_eq_true, Bool.not_eq_false, Bool.true_eq_false, Bool.false_eq_true, rz_ix_lit, cl_lit, Nat.reduceLT, bi_t, bi_f, decide_true, decide_false, Bool.not_false, Bool.not_true, Bool.and_true, Bool.true_and, Bool.and_false, Bool.false_and, oMd_c, oMd_i0, oMd_i1, oMd_i2, oMd_i3, oMd_i4, oMd_i5, oMd_i6, oMd_i7, oMd_i8, oMd_f9, oMd_v9, oMd_f10, oMd_v10, oMd_f11, oMd_v11, oMd_f12, oMd_v12, oMd_f13, oMd_v13, oMd_f14, oMd_v14, oMd_i15, oMd_i16, oMd_f17, oMd_v17, oMd_f18, oMd_v18, oMd_f19, oMd_v19, oMd_f20, oMd_v20, oMd_f21, oMd_v21, oMd_f22, oMd_v22, oMd_f23, oMd_v23, oMd_i24, oMd_f25, oMd_v25, oMd_f26, oMd_v26, oMd_f27, oMd_v27, oMd_f28, oMd_v28, oMd_i29, oMd_i30, oMd_i31, oMd_i32, oMd_i33, oMd_i34, oMd_i35, oMd_f36, oMd_v36, oMd_f37, oMd_v37, oMd_f38, oMd_v38, oMd_i39, oMd_f40, oMd_v40, oMd_f41, oMd_v41, oMd_i42, oMd_f43, oMd_v43, oMd_i44, oMd_a1, oMd_n1, oMd_a2, oMd_n2, oMd_a3, oMd_n3, oMd_a4, oMd_n4, oMd_a363, oMd_n363, oMd_a364, oMd_n364, oMd_a446, oMd_n446, oMd_a447, oMd_n447, oMd_a469, oMd_n469, oMd_a470, oMd_n470, oMd_a471, oMd_n471, oMd_a472, oMd_n472, oMd_a473, oMd_n473, oMd_a5, oMd_n5, oMd_e5, oMd_ra5, oMd_rn5, oMd_a14, oMd_n14, oMd_e14, oMd_ra14, oMd_rn14, oMd_a23, oMd_n23, oMd_e23, oMd_ra23, oMd_rn23, oMd_a184, oMd_n184, oMd_e184, oMd_ra184, oMd_rn184, oMd_a345, oMd_n345, oMd_e345, oMd_ra345, oMd_rn345, oMd_a354, oMd_n354, oMd_e354, oMd_ra354, oMd_rn354, oMd_a365, oMd_n365, oMd_e365, oMd_ra365, oMd_rn365, oMd_a448, oMd_n448, oMd_e448, oMd_ra448, oMd_rn448, oMd_a465, oMd_n465, oMd_e465, oMd_ra465, oMd_rn465, hb, b1]
    rw [g211_146]
    simp (decide := true) (maxDischargeDepth := 4) only [g211_147, g211_150, rz_k_inl, rz_k_inr, Option.toList_some, Option.toList_none, List.cons_append, List.nil_append, List.append_nil, rz_up_s, rz_u_s, rz_up_n, rz_u_n, ne_eq, not_false_eq_true, not_true_eq_false, Nat.add_assoc, Nat.reduceAdd, reduceIte, Nat.add_eq_left, Nat.left_eq_add, Nat.add_left_cancel_iff, Nat.reduceEqDiff, Nat.add_right_cancel_iff, rz_nb0, rz_nb1, rz_nbb, rz_nbi, rz_isr, rz_zle, if_true, if_false, rz_bi0, rz_bi1, Bool.not_eq_true, Bool.not_eq_false, Bool.true_eq_false, Bool.false_eq_true, rz_ix_lit, cl_lit, Nat.reduceLT, bi_t, bi_f, decide_true, decide_false, Bool.not_false, Bool.not_true, Bool.and_true, Bool.true_and, Bool.and_false, Bool.false_and, oMd_c, oMd_i0, oMd_i1, oMd_i2, oMd_i3, oMd_i4, oMd_i5, oMd_i6, oMd_i7, oMd_i8, oMd_f9, oMd_v9, oMd_f10, oMd_v10, oMd_f11, oMd_v11, oMd_f12, oMd_v12, oMd_f13, oMd_v13, oMd_f14, oMd_v14, oMd_i15, oMd_i16, oMd_f17, oMd_v17, oMd_f18, oMd_v18, oMd_f19, oMd_v19, oMd_f20, oMd_v20, oMd_f21, oMd_v21, oMd_f22, oMd_v22, oMd_f23, oMd_v23, oMd_i24, oMd_f25, oMd_v25, oMd_f26, oMd_v26, oMd_f27, oMd_v27, oMd_f28, oMd_v28, oMd_i29, oMd_i30, oMd_i31, oMd_i32, oMd_i33, oMd_i34, oMd_i35, oMd_f36, oMd_v36, oMd_f37, oMd_v37, oMd_f38, oMd_v38, oMd_i39, oMd_f40, oMd_v40, oMd_f41, oMd_v41, oMd_i42, oMd_f43, oMd_v43, oMd_i44, oMd_a1, oMd_n1, oMd_a2, oMd_n2, oMd_a3, oMd_n3, oMd_a4, oMd_n4, oMd_a363, oMd_n363, oMd_a364, oMd_n364, oMd_a446, oMd_n446, oMd_a447, oMd_n447, oMd_a469, oMd_n469, oMd_a470, oMd_n470, oMd_a471, oMd_n471, oMd_a472, oMd_n472, oMd_a473, oMd_n473, oMd_a5, oMd_n5, oMd_e5, oMd_ra5, oMd_rn5, oMd_a14, oMd_n14, oMd_e14, oMd_ra14, oMd_rn14, oMd_a23, oMd_n23, oMd_e23, oMd_ra23, oMd_rn23, oMd_a184, oMd_n184, oMd_e184, oMd_ra184, oMd_rn184, oMd_a345, oMd_n345, oMd_e345, oMd_ra345, oMd_rn345, oMd_a354, oMd_n354, oMd_e354, oMd_ra354, oMd_rn354, oMd_a365, oMd_n365, oMd_e365, oMd_ra365, oMd_rn365, oMd_a448, oMd_n448, oMd_e448, oMd_ra448, oMd_rn448, oMd_a465, oMd_n465, oMd_e465, oMd_ra465, oMd_rn465, hb, nz]
  have N := wr_num (Z := Z) (d := d + 4) (w := w) hb hz he (by omega) w2 P2 (x := 60) (by decide)
  cases n1 : nmN (ι0 (b + 1)) e 60 (wdR (ι0 (b + 1)) e p) with
  | inr f =>
    left
    rw [n1] at N WS
    obtain ⟨ι2, g1, hN⟩ := N
    have nz := hN.nz
    obtain ⟨ι', o1, o2⟩ := outB _ f (hN.row (k := 1) (v := 0) rq)
    refine ⟨f, ι', ?_, o2, WS⟩
    rw [P1, ← o1]
    simp (decide := true) (maxDischargeDepth := 4) only [g211_68, g211_69, g211_70, g211_73, g211_74, g211_75, g211_76, g211_77, g211_79, g211_82, g211_83, g211_84, g211_87, g211_88, g211_89, g211_90, g211_91, g211_92, g211_95, g211_96, g211_97, g211_98, g211_99, g211_100, g211_102, g211_105, g211_106, g211_107, g211_108, g211_111, g211_112, g211_113, g211_114, g211_115, g211_117, g211_120, g211_121, g211_122, g211_123, g211_126, g211_127, g211_128, g211_129, g211_130, g211_132, g211_135, g211_136, g211_137, g211_139, rz_k_inl, rz_k_inr, Option.toList_some, Option.toList_none, List.cons_append, List.nil_append, List.append_nil, rz_up_s, rz_u_s, rz_up_n, rz_u_n, ne_eq, not_false_eq_true, not_true_eq_false, Nat.add_assoc, Nat.reduceAdd, reduceIte, Nat.add_eq_left, Nat.left_eq_add, Nat.add_left_cancel_iff, Nat.reduceEqDiff, Nat.add_right_cancel_iff, rz_nb0, rz_nb1, rz_nbb, rz_nbi, rz_isr, rz_zle, if_true, if_false, rz_bi0, rz_bi1, Bool.not_eq_true, Bool.not_eq_false, Bool.true_eq_false, Bool.false_eq_true, rz_ix_lit, cl_lit, Nat.reduceLT, bi_t, bi_f, decide_true, decide_false, Bool.not_false, Bool.not_true, Bool.and_true, Bool.true_and, Bool.and_false, Bool.false_and, oMd_c, oMd_i0, oMd_i1, oMd_i2, oMd_i3, oMd_i4, oMd_i5, oMd_i6, oMd_i7, oMd_i8, oMd_f9, oMd_v9, oMd_f10, oMd_v10, oMd_f11, oMd_v11, oMd_f12, oMd_v12, oMd_f13, oMd_v13, oMd_f14, oMd_v14, oMd_i15, oMd_i16, oMd_f17, oMd_v17, oMd_f18, oMd_v18, oMd_f19, oMd_v19, oMd_f20, oMd_v20, oMd_f21, oMd_v21, oMd_f22, oMd_v22, oMd_f23, oMd_v23, oMd_i24, oMd_f25, oMd_v25, oMd_f26, oMd_v26, oMd_f27, oMd_v27, oMd_f28, oMd_v28, oMd_i29, oMd_i30, oMd_i31, oMd_i32, oMd_i33, oMd_i34, oMd_i35, oMd_f36, oMd_v36, oMd_f37, oMd_v37, oMd_f38, oMd_v38, oMd_i39, oMd_f40, oMd_v40, oMd_f41, oMd_v41, oMd_i42, oMd_f43, oMd_v43, oMd_i44, oMd_a1, oMd_n1, oMd_a2, oMd_n2, oMd_a3, oMd_n3, oMd_a4, oMd_n4, oMd_a363, oMd_n363, oMd_a364, oMd_n364, oMd_a446, oMd_n446, oMd_a447, oMd_n447, oMd_a469, oMd_n469, oMd_a470, oMd_n470, oMd_a471, oMd_n471, oMd_a472, oMd_n472, oMd_a473, oMd_n473, oMd_a5, oMd_n5, oMd_e5, oMd_ra5, oMd_rn5, oMd_a14, oMd_n14, oMd_e14, oMd_ra14, oMd_rn14, oMd_a23, oMd_n23, oMd_e23, oMd_ra23, oMd_rn23, oMd_a184, oMd_n184, oMd_e184, oMd_ra184, oMd_rn184, oMd_a345, oMd_n345, oMd_e345, oMd_ra345, oMd_rn345, oMd_a354, oMd_n354, oMd_e354, oMd_ra354, oMd_rn354, oMd_a365, oMd_n365, oMd_e365, oMd_ra365, oMd_rn365, oMd_a448, oMd_n448, oMd_e448, oMd_ra448, oMd_rn448, oMd_a465, oMd_n465, oMd_e465, oMd_ra465, oMd_rn465, hb, hz, c4, c0, c2, r1, r2, g1, SF, n0, nz]
  | inl x =>
    rw [n1] at N WS
    obtain ⟨x1, x2, ι2, g1, i2, k2⟩ := N
    rw [rB_l] at WS
    obtain ⟨-, -, -, x4, -⟩ := nmN_ok w2 n1
    have g60 := sk_ge (ι0 (b + 1)) e (wdR (ι0 (b + 1)) e p)
    have i3 := i2.row (k := 1) (v := nI x.1) m80
    obtain ⟨J, eJ⟩ : ∃ J, rz_up ι2 (b + (366 + nC T m)) 1 (nI x.1) = J := ⟨_, rfl⟩
    rw [eJ] at i3
    have J0 : J (b + (366 + nC T m)) 0 = 5 := by rw [← eJ, rz_up_s, rz_u_n (by omega), k2 _ (by omega)]; exact P3
    have J1 : J (b + (366 + nC T m)) 1 = nI x.1 := by rw [← eJ, rz_up_s, rz_u_s]
    have sg := rd_sign (Z := Z) (d := d + 4) (w := w) hb hz (i3.e2 he) i3.2.1 x1 (by omega) i3.2.2.1 91
    rw [i3.by] at sg
    cases n2 : smP (ι0 (b + 1)) e 91 x.2 with
    | inr f =>
      left
      rw [n2] at WS
      obtain ⟨t1, t2⟩ := smP_no n2
      rw [if_neg t1] at sg
      subst t2
      have hk2 := sk_le (B := ι0 (b + 1)) x1
      have hN := i3.no (rdNo.of b (1, sk (ι0 (b + 1)) e x.2) (show sk (ι0 (b + 1)) e x.2 ≤ 600 by omega) J) (show (1 : Nat) ≠ 0 by decide) (show (1 : Nat) < 10 by decide)
      rw [show nI (1, sk (ι0 (b + 1)) e x.2).1 = 1 from rfl] at hN
      obtain ⟨ι', o1, o2⟩ := outB _ _ hN
      refine ⟨_, ι', ?_, o2, WS⟩
      rw [P1, ← o1]
      simp (decide := true) (maxDischargeDepth := 4) only [g211_68, g211_69, g211_70, g211_73, g211_74, g211_75, g211_76, g211_77, g211_79, g211_82, g211_83, g211_84, g211_87, g211_88, g211_89, g211_90, g211_91, g211_92, g211_95, g211_96, g211_97, g211_98, g211_99, g211_100, g211_102, g211_105, g211_106, g211_107, g211_108, g211_111, g211_112, g211_113, g211_114, g211_115, g211_117, g211_120, g211_121, g211_122, g211_123, g211_126, g211_127, g211_128, g211_129, g211_130, g211_132, g211_135, g211_136, g211_137, g211_139, rz_k_inl, rz_k_inr, Option.toList_some, Option.toList_none, List.cons_append, List.nil_append, List.append_nil, rz_up_s, rz_u_s, rz_up_n, rz_u_n, ne_eq, not_false_eq_true, not_true_eq_false, Nat.add_assoc, Nat.reduceAdd, reduceIte, Nat.add_eq_left, Nat.left_eq_add, Nat.add_left_cancel_iff, Nat.reduceEqDiff, Nat.add_right_cancel_iff, rz_nb0, rz_nb1, rz_nbb, rz_nbi, rz_isr, rz_zle, if_true, if_false, rz_bi0, rz_bi1, Bool.not_eq_true, Bool.not_eq_false, Bool.true_eq_false, Bool.false_eq_true, rz_ix_lit, cl_lit, Nat.reduceLT, bi_t, bi_f, decide_true, decide_false, Bool.not_false, Bool.not_true, Bool.and_true, Bool.true_and, Bool.and_false, Bool.false_and, oMd_c, oMd_i0, oMd_i1, oMd_i2, oMd_i3, oMd_i4, oMd_i5, oMd_i6, oMd_i7, oMd_i8, oMd_f9, oMd_v9, oMd_f10, oMd_v10, oMd_f11, oMd_v11, oMd_f12, oMd_v12, oMd_f13, oMd_v13, oMd_f14, oMd_v14, oMd_i15, oMd_i16, oMd_f17, oMd_v17, oMd_f18, oMd_v18, oMd_f19, oMd_v19, oMd_f20, oMd_v20, oMd_f21, oMd_v21, oMd_f22, oMd_v22, oMd_f23, oMd_v23, oMd_i24, oMd_f25, oMd_v25, oMd_f26, oMd_v26, oMd_f27, oMd_v27, oMd_f28, oMd_v28, oMd_i29, oMd_i30, oMd_i31, oMd_i32, oMd_i33, oMd_i34, oMd_i35, oMd_f36, oMd_v36, oMd_f37, oMd_v37, oMd_f38, oMd_v38, oMd_i39, oMd_f40, oMd_v40, oMd_f41, oMd_v41, oMd_i42, oMd_f43, oMd_v43, oMd_i44, oMd_a1, oMd_n1, oMd_a2, oMd_n2, oMd_a3, oMd_n3, oMd_a4, oMd_n4, oMd_a363, oMd_n363, oMd_a364, oMd_n364, oMd_a446, oMd_n446, oMd_a447, oMd_n447, oMd_a469, oMd_n469, oMd_a470, oMd_n470, oMd_a471, oMd_n471, oMd_a472, oMd_n472, oMd_a473, oMd_n473, oMd_a5, oMd_n5, oMd_e5, oMd_ra5, oMd_rn5, oMd_a14, oMd_n14, oMd_e14, oMd_ra14, oMd_rn14, oMd_a23, oMd_n23, oMd_e23, oMd_ra23, oMd_rn23, oMd_a184, oMd_n184, oMd_e184, oMd_ra184, oMd_rn184, oMd_a345, oMd_n345, oMd_e345, oMd_ra345, oMd_rn345, oMd_a354, oMd_n354, oMd_e354, oMd_ra354, oMd_rn354, oMd_a365, oMd_n365, oMd_e365, oMd_ra365, oMd_rn365, oMd_a448, oMd_n448, oMd_e448, oMd_ra448, oMd_rn448, oMd_a465, oMd_n465, oMd_e465, oMd_ra465, oMd_rn465, hb, hz, c4, c0, c2, r1, r2, g1, eJ, sg]
    | inl q =>
      rw [n2, rB_l, rB_l] at WS
      dsimp only at WS
      obtain ⟨t1, t2, t3⟩ := smP_ok x1 (by decide) n2
      have g61 := sk_ge (ι0 (b + 1)) e x.2
      rw [if_pos t1, ← t2] at sg
      have i4 := i3.rd (rdOk.of b q J)
      have bl := rd_blanks (Z := Z) (d := d + 5) (w := w) hb hz (i4.e2 he) i4.2.1 t3 (by omega)
      rw [i4.by, rz_up_up] at bl
      have i5 := i3.rd (rdOk.of b (sk (ι0 (b + 1)) e q) J)
      have i6 : wrI b ι0 (rz_up J b 4 (nI (sk (ι0 (b + 1)) e q))) (m :: K) (upT T m (5, x.1, 0, 0)) (m + 1) (sk (ι0 (b + 1)) e q) := by
        refine i5.fin5 ?_
        unfold rwI
        rw [rz_up_n (by omega)]
        exact ⟨J0, fun _ => J1, fun z => absurd z (by simp), fun z => absurd z (by simp)⟩
      have step : rg Z (d + 7) rx_m211 40 [some (.ref b), some (.int 5), none] [] (rz_mk h ι, w) = rg Z (d + 7) rx_m211 146 [some (.ref b), some (.int 5), some (.ref (b + (366 + nC T m)))] [] (rz_mk h (rz_up J b 4 (nI (sk (ι0 (b + 1)) e q))), w) := by
        rw [P1]
        simp (decide := true) (maxDischargeDepth := 4) only [g211_68, g211_69, g211_70, g211_73, g211_74, g211_75, g211_76, g211_77, g211_79, g211_82, g211_83, g211_84, g211_87, g211_88, g211_89, g211_90, g211_91, g211_92, g211_95, g211_96, g211_97, g211_98, g211_99, g211_100, g211_102, g211_105, g211_106, g211_107, g211_108, g211_111, g211_112, g211_113, g211_114, g211_115, g211_117, g211_120, g211_121, g211_122, g211_123, g211_126, g211_127, g211_128, g211_129, g211_130, g211_132, g211_135, g211_136, g211_137, g211_139, g211_142, g211_143, rz_k_inl, rz_k_inr, Option.toList_some, Option.toList_none, List.cons_append, List.nil_append, List.append_nil, rz_up_s, rz_u_s, rz_up_n, rz_u_n, ne_eq, not_false_eq_true, not_true_eq_false, Nat.add_assoc, Nat.reduceAdd, reduceIte, Nat.add_eq_left, Nat.left_eq_add, Nat.add_left_cancel_iff, Nat.reduceEqDiff, Nat.add_right_cancel_iff, rz_nb0, rz_nb1, rz_nbb, rz_nbi, rz_isr, rz_zle, if_true, if_false, rz_bi0, rz_bi1, Bool.not_eq_true, Bool.not_eq_false, Bool.true_eq_false, Bool.false_eq_true, rz_ix_lit, cl_lit, Nat.reduceLT, bi_t, bi_f, decide_true, decide_false, Bool.not_false, Bool.not_true, Bool.and_true, Bool.true_and, Bool.and_false, Bool.false_and, oMd_c, oMd_i0, oMd_i1, oMd_i2, oMd_i3, oMd_i4, oMd_i5, oMd_i6, oMd_i7, oMd_i8, oMd_f9, oMd_v9, oMd_f10, oMd_v10, oMd_f11, oMd_v11, oMd_f12, oMd_v12, oMd_f13, oMd_v13, oMd_f14, oMd_v14, oMd_i15, oMd_i16, oMd_f17, oMd_v17, oMd_f18, oMd_v18, oMd_f19, oMd_v19, oMd_f20, oMd_v20, oMd_f21, oMd_v21, oMd_f22, oMd_v22, oMd_f23, oMd_v23, oMd_i24, oMd_f25, oMd_v25, oMd_f26, oMd_v26, oMd_f27, oMd_v27, oMd_f28, oMd_v28, oMd_i29, oMd_i30, oMd_i31, oMd_i32, oMd_i33, oMd_i34, oMd_i35, oMd_f36, oMd_v36, oMd_f37, oMd_v37, oMd_f38, oMd_v38, oMd_i39, oMd_f40, oMd_v40, oMd_f41, oMd_v41, oMd_i42, oMd_f43, oMd_v43, oMd_i44, oMd_a1, oMd_n1, oMd_a2, oMd_n2, oMd_a3, oMd_n3, oMd_a4, oMd_n4, oMd_a363, oMd_n363, oMd_a364, oMd_n364, oMd_a446, oMd_n446, oMd_a447, oMd_n447, oMd_a469, oMd_n469, oMd_a470, oMd_n470, oMd_a471, oMd_n471, oMd_a472, oMd_n472, oMd_a473, oMd_n473, oMd_a5, oMd_n5, oMd_e5, oMd_ra5, oMd_rn5, oMd_a14, oMd_n14, oMd_e14, oMd_ra14, oMd_rn14, oMd_a23, oMd_n23, oMd_e23, oMd_ra23, oMd_rn23, oMd_a184, oMd_n184, oMd_e184, oMd_ra184, oMd_rn184, oMd_a345, oMd_n345, oMd_e345, oMd_ra345, oMd_rn345, oMd_a354, oMd_n354, oMd_e354, oMd_ra354, oMd_rn354, oMd_a365, oMd_n365, oMd_e365, oMd_ra365, oMd_rn365, oMd_a448, oMd_n448, oMd_e448, oMd_ra448, oMd_rn448, oMd_a465, oMd_n465, oMd_e465, oMd_ra465, oMd_rn465, hb, hz, c4, c0, c2, r1, r2, g1, eJ, sg, bl]
      have lK : (m :: K).length = K.length + 1 := rfl
      rcases wr_inner (Z := Z) (w := w) hb hz he he6 IH (K := m :: K) (by rw [lK]; omega) (by simp) (D := d + 7) (by rw [lK]; omega) (some (.int 5)) (some (.ref (b + (366 + nC T m)))) (e - q + 1) (upT T m (5, x.1, 0, 0)) (m + 1) q _ t3 (by omega) (by omega) (by rw [lK]; omega) (fun k hk2 => by rcases List.mem_cons.mp hk2 with z | z; omega; have := hk k z; omega) i6 with ⟨f, ι7, y1, y2, y3⟩ | ⟨T7, m7, p7, ι7, y1, i7, y3, y4, y5, y6, y7, y8, y9⟩
      · left
        obtain ⟨ι', o1, o2⟩ := out ι7 f y2
        exact ⟨f, ι', step.trans (y1.trans o1), o2, WS.trans y3⟩
      · have WS := WS.trans y9
        have s7 := sg_lt (by decide) y3
        have h7 := sk_ge (ι0 (b + 1)) e p7
        rw [wW_step (T := T7) y5 (by rw [lK]; omega) y6 (fun z => absurd z.2 (by simp))] at WS
        rw [show wt1 (ι0 (b + 1)) e (m :: K) T7 m7 p7 = rB (smP (ι0 (b + 1)) e 59 (sk (ι0 (b + 1)) e p7 + 1)) (fun q => .inl (K, wtC m T7 m7, m7 + 1, q)) by unfold wt1; rw [if_pos ⟨y3, by simp⟩]; rfl] at WS
        have Tm : T7 m = (5, x.1, 0, 0) := by rw [y8 m (by omega), upT_s]
        have cN : nC T7 m = nC T m := nC_cong m (fun j hj => by rw [y8 j (by omega), upT_n (by omega)])
        have h47 := i7.2.1
        have s93 := rd_sign (Z := Z) (d := d + 4) (w := w) hb hz (i7.e2 he) h47 (by omega) (by omega) i7.2.2.1 93
        rw [i7.by, sk_sk, if_pos y3] at s93
        have i8 := i7.rd (rdOk.of b (sk (ι0 (b + 1)) e p7 + 1) ι7)
        generalize rz_up ι7 b 4 (nI (sk (ι0 (b + 1)) e p7 + 1)) = ι8 at s93 i8
        have h88 : ι8 b 8 = nI (K.length + 1) := i8.2.2.2.1
        have h248 : ι8 b 24 = nI (nC T7 m7) := i8.2.2.2.2.1
        have i9 := i8.close (by omega) (by rw [Tm]) (by rw [lK] at y6; omega)
        rw [cN] at i9
        obtain ⟨J9, e9⟩ : ∃ J9, rz_up (rz_up ι8 b 8 (nI K.length)) (b + (366 + nC T m)) 4 (nI (nC T7 m7)) = J9 := ⟨_, rfl⟩
        rw [e9] at i9
        have s59 := rd_sign (Z := Z) (d := d + 4) (w := w) hb hz (i9.e2 he) i9.2.1 (by omega) (by omega) i9.2.2.1 59
        rw [i9.by] at s59
        cases n5 : smP (ι0 (b + 1)) e 59 (sk (ι0 (b + 1)) e p7 + 1) with
        | inr f =>
          left
          rw [n5] at WS
          obtain ⟨u1, u2⟩ := smP_no n5
          rw [if_neg u1] at s59
          subst u2
          have hk2 := sk_le (B := ι0 (b + 1)) (show sk (ι0 (b + 1)) e p7 + 1 ≤ e by omega)
          have hN := i9.no (rdNo.of b (1, sk (ι0 (b + 1)) e (sk (ι0 (b + 1)) e p7 + 1)) (show sk (ι0 (b + 1)) e (sk (ι0 (b + 1)) e p7 + 1) ≤ 600 by omega) J9) (show (1 : Nat) ≠ 0 by decide) (show (1 : Nat) < 10 by decide)
          rw [show nI (1, sk (ι0 (b + 1)) e (sk (ι0 (b + 1)) e p7 + 1)).1 = 1 from rfl] at hN
          refine ⟨_, _, (step.trans y1).trans ?_, hN, WS⟩
          simp (decide := true) (maxDischargeDepth := 4) only [g211_177, g211_178, g211_180, g211_183, g211_184, g211_185, g211_188, g211_189, g211_190, g211_193, g211_194, g211_195, g211_196, g211_199, g211_200, g211_201, g211_203, g211_206, rz_k_inl, rz_k_inr, Option.toList_some, Option.toList_none, List.cons_append, List.nil_append, List.append_nil, rz_up_s, rz_u_s, rz_up_n, rz_u_n, ne_eq, not_false_eq_true, not_true_eq_false, Nat.add_assoc, Nat.reduceAdd, reduceIte, Nat.add_eq_left, Nat.left_eq_add, Nat.add_left_cancel_iff, Nat.reduceEqDiff, Nat.add_right_cancel_iff, rz_nb0, rz_nb1, rz_nbb, rz_nbi, rz_isr, rz_zle, if_true, if_false, rz_bi0, rz_bi1, Bool.not_eq_true, Bool.not_eq_false, Bool.true_eq_false, Bool.false_eq_true, rz_ix_lit, cl_lit, Nat.reduceLT, bi_t, bi_f, decide_true, decide_false, Bool.not_false, Bool.not_true, Bool.and_true, Bool.true_and, Bool.and_false, Bool.false_and, oMd_c, oMd_i0, oMd_i1, oMd_i2, oMd_i3, oMd_i4, oMd_i5, oMd_i6, oMd_i7, oMd_i8, oMd_f9, oMd_v9, oMd_f10, oMd_v10, oMd_f11, oMd_v11, oMd_f12, oMd_v12, oMd_f13, oMd_v13, oMd_f14, oMd_v14, oMd_i15, oMd_i16, oMd_f17, oMd_v17, oMd_f18, oMd_v18, oMd_f19, oMd_v19, oMd_f20, oMd_v20, oMd_f21, oMd_v21, oMd_f22, oMd_v22, oMd_f23, oMd_v23, oMd_i24, oMd_f25, oMd_v25, oMd_f26, oMd_v26, oMd_f27, oMd_v27, oMd_f28, oMd_v28, oMd_i29, oMd_i30, oMd_i31, oMd_i32, oMd_i33, oMd_i34, oMd_i35, oMd_f36, oMd_v36, oMd_f37, oMd_v37, oMd_f38, oMd_v38, oMd_i39, oMd_f40, oMd_v40, oMd_f41, oMd_v41, oMd_i42, oMd_f43, oMd_v43, oMd_i44, oMd_a1, oMd_n1, oMd_a2, oMd_n2, oMd_a3, oMd_n3, oMd_a4, oMd_n4, oMd_a363, oMd_n363, oMd_a364, oMd_n364, oMd_a446, oMd_n446, oMd_a447, oMd_n447, oMd_a469, oMd_n469, oMd_a470, oMd_n470, oMd_a471, oMd_n471, oMd_a472, oMd_n472, oMd_a473, oMd_n473, oMd_a5, oMd_n5, oMd_e5, oMd_ra5, oMd_rn5, oMd_a14, oMd_n14, oMd_e14, oMd_ra14, oMd_rn14, oMd_a23, oMd_n23, oMd_e23, oMd_ra23, oMd_rn23, oMd_a184, oMd_n184, oMd_e184, oMd_ra184, oMd_rn184, oMd_a345, oMd_n345, oMd_e345, oMd_ra345, oMd_rn345, oMd_a354, oMd_n354, oMd_e354, oMd_ra354, oMd_rn354, oMd_a365, oMd_n365, oMd_e365, oMd_ra365, oMd_rn365, oMd_a448, oMd_n448, oMd_e448, oMd_ra448, oMd_rn448, oMd_a465, oMd_n465, oMd_e465, oMd_ra465, oMd_rn465, hb, hz, s93, h88, nI_prd, h248, r1, r2, e9, s59]
        | inl q5 =>
          right
          rw [n5, rB_l, rB_l] at WS
          dsimp only at WS
          obtain ⟨u1, u2, u3⟩ := smP_ok (show sk (ι0 (b + 1)) e p7 + 1 ≤ e by omega) (by decide) n5
          have g9 := sk_ge (ι0 (b + 1)) e (sk (ι0 (b + 1)) e p7 + 1)
          rw [if_pos u1, ← u2] at s59
          refine ⟨wtC m T7 m7, m7 + 1, q5, rz_up J9 b 4 (nI q5), (step.trans y1).trans ?_, i9.rd (rdOk.of b q5 J9), by omega, u3, by rw [lK] at y6; omega, by omega, fun j hj => ?_, WS⟩
          · simp (decide := true) (maxDischargeDepth := 4) only [g211_177, g211_178, g211_180, g211_183, g211_184, g211_185, g211_188, g211_189, g211_190, g211_193, g211_194, g211_195, g211_196, g211_199, g211_200, g211_201, g211_203, g211_206, rz_k_inl, rz_k_inr, Option.toList_some, Option.toList_none, List.cons_append, List.nil_append, List.append_nil, rz_up_s, rz_u_s, rz_up_n, rz_u_n, ne_eq, not_false_eq_true, not_true_eq_false, Nat.add_assoc, Nat.reduceAdd, reduceIte, Nat.add_eq_left, Nat.left_eq_add, Nat.add_left_cancel_iff, Nat.reduceEqDiff, Nat.add_right_cancel_iff, rz_nb0, rz_nb1, rz_nbb, rz_nbi, rz_isr, rz_zle, if_true, if_false, rz_bi0, rz_bi1, Bool.not_eq_true, Bool.not_eq_false, Bool.true_eq_false, Bool.false_eq_true, rz_ix_lit, cl_lit, Nat.reduceLT, bi_t, bi_f, decide_true, decide_false, Bool.not_false, Bool.not_true, Bool.and_true, Bool.true_and, Bool.and_false, Bool.false_and, oMd_c, oMd_i0, oMd_i1, oMd_i2, oMd_i3, oMd_i4, oMd_i5, oMd_i6, oMd_i7, oMd_i8, oMd_f9, oMd_v9, oMd_f10, oMd_v10, oMd_f11, oMd_v11, oMd_f12, oMd_v12, oMd_f13, oMd_v13, oMd_f14, oMd_v14, oMd_i15, oMd_i16, oMd_f17, oMd_v17, oMd_f18, oMd_v18, oMd_f19, oMd_v19, oMd_f20, oMd_v20, oMd_f21, oMd_v21, oMd_f22, oMd_v22, oMd_f23, oMd_v23, oMd_i24, oMd_f25, oMd_v25, oMd_f26, oMd_v26, oMd_f27, oMd_v27, oMd_f28, oMd_v28, oMd_i29, oMd_i30, oMd_i31, oMd_i32, oMd_i33, oMd_i34, oMd_i35, oMd_f36, oMd_v36, oMd_f37, oMd_v37, oMd_f38, oMd_v38, oMd_i39, oMd_f40, oMd_v40, oMd_f41, oMd_v41, oMd_i42, oMd_f43, oMd_v43, oMd_i44, oMd_a1, oMd_n1, oMd_a2, oMd_n2, oMd_a3, oMd_n3, oMd_a4, oMd_n4, oMd_a363, oMd_n363, oMd_a364, oMd_n364, oMd_a446, oMd_n446, oMd_a447, oMd_n447, oMd_a469, oMd_n469, oMd_a470, oMd_n470, oMd_a471, oMd_n471, oMd_a472, oMd_n472, oMd_a473, oMd_n473, oMd_a5, oMd_n5, oMd_e5, oMd_ra5, oMd_rn5, oMd_a14, oMd_n14, oMd_e14, oMd_ra14, oMd_rn14, oMd_a23, oMd_n23, oMd_e23, oMd_ra23, oMd_rn23, oMd_a184, oMd_n184, oMd_e184, oMd_ra184, oMd_rn184, oMd_a345, oMd_n345, oMd_e345, oMd_ra345, oMd_rn345, oMd_a354, oMd_n354, oMd_e354, oMd_ra354, oMd_rn354, oMd_a365, oMd_n365, oMd_e365, oMd_ra365, oMd_rn365, oMd_a448, oMd_n448, oMd_e448, oMd_ra448, oMd_rn448, oMd_a465, oMd_n465, oMd_e465, oMd_ra465, oMd_rn465, hb, hz, s93, h88, nI_prd, h248, r1, r2, e9, s59]
          · unfold wtC
            rw [upT_n (by omega), upT_n (by omega), y8 j (by omega), upT_n (by omega)]
end WORK7
