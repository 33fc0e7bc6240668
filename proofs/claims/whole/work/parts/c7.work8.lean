/-! the reference reads WORK: all steps, to the end -/
section WORK8
variable {Z : rx_Z} {d : Nat} {h : Nat → Option rx_E} {ι ι0 : Nat → Nat → Int32} {w : Nat × Nat} {b : Nat}
theorem wr_opens {m p : Nat} {K : List Nat} {T : Nat → TK} (hb : oMd h b) (hz : Z.2.1 ≤ b) (hK : K.length ≤ 6) (hp : p ≤ 600) (i : wrI b ι0 ι K T m p) : (K.length < 6 ∧ rz_f Z (d + 2) 202 [.ref b] (rz_mk h ι, w) = some (.inl (some (.int 1)), (rz_mk h (rz_up ι b 8 (nI (K.length + 1))), w)) ∧ wrI b ι0 (rz_up ι b 8 (nI (K.length + 1))) (m :: K) T m p) ∨ (¬ K.length < 6 ∧ rz_f Z (d + 2) 202 [.ref b] (rz_mk h ι, w) = some (.inl (some (.int 0)), (rz_mk h (rz_up (rz_up ι b 5 (nI 3)) b 6 (nI p)), w)) ∧ wrN b ι0 (rz_up (rz_up ι b 5 (nI 3)) b 6 (nI p)) (3, p)) := by
  have h5 := i.2.2.1
  have h4 := i.2.1
  have h8 := i.2.2.2.1
  have cc : (nI K.length = 6) = (K.length = 6) := nI_eqL (by omega) (by decide)
  by_cases h6 : K.length < 6
  · left
    have h6' : (K.length = 6) = False := by simp; omega
    refine ⟨h6, ?_, ?_⟩
    · rw [e202]
      simp (decide := true) (maxDischargeDepth := 4) only [g202_0, g202_1, g202_4, g202_7, g202_8, g202_11, g202_13, g202_16, g202_17, g202_18, g202_19, g202_22, g202_25, g202_28, g202_29, g202_32, g202_35, g202_36, g202_37, g202_40, g202_41, g202_42, g202_45, g202_46, g202_49, g202_52, g202_53, g202_56, g202_57, rz_k_inl, rz_k_inr, Option.toList_some, Option.toList_none, List.cons_append, List.nil_append, List.append_nil, rz_up_s, rz_u_s, rz_up_n, rz_u_n, ne_eq, not_false_eq_true, not_true_eq_false, Nat.add_assoc, Nat.reduceAdd, reduceIte, Nat.add_eq_left, Nat.left_eq_add, Nat.add_left_cancel_iff, Nat.reduceEqDiff, Nat.add_right_cancel_iff, rz_nb0, rz_nb1, rz_nbb, rz_nbi, rz_isr, rz_zle, if_true, if_false, rz_bi0, rz_bi1, Bool.not_eq_true, Bool.not_eq_false, Bool.true_eq_false, Bool.false_eq_true, rz_ix_lit, cl_lit, Nat.reduceLT, bi_t, bi_f, decide_true, decide_false, Bool.not_false, Bool.not_true, Bool.and_true, Bool.true_and, Bool.and_false, Bool.false_and, oMd_c, oMd_i0, oMd_i1, oMd_i2, oMd_i3, oMd_i4, oMd_i5, oMd_i6, oMd_i7, oMd_i8, oMd_f9, oMd_v9, oMd_f10, oMd_v10, oMd_f11, oMd_v11, oMd_f12, oMd_v12, oMd_f13, oMd_v13, oMd_f14, oMd_v14, oMd_i15, oMd_i16, oMd_f17, oMd_v17, oMd_f18, oMd_v18, oMd_f19, oMd_v19, oMd_f20, oMd_v20, oMd_f21, oMd_v21, oMd_f22, oMd_v22, oMd_f23, oMd_v23, oMd_i24, oMd_f25, oMd_v25, oMd_f26, oMd_v26, oMd_f27, oMd_v27, oMd_f28, oMd_v28, oMd_i29, oMd_i30, oMd_i31, oMd_i32, oMd_i33, oMd_i34, oMd_i35, oMd_f36, oMd_v36, oMd_f37, oMd_v37, oMd_f38, oMd_v38, oMd_i39, oMd_f40, oMd_v40, oMd_f41, oMd_v41, oMd_i42, oMd_f43, oMd_v43, oMd_i44, oMd_a1, oMd_n1, oMd_a2, oMd_n2, oMd_a3, oMd_n3, oMd_a4, oMd_n4, oMd_a363, oMd_n363, oMd_a364, oMd_n364, oMd_a446, oMd_n446, oMd_a447, oMd_n447, oMd_a469, oMd_n469, oMd_a470, oMd_n470, oMd_a471, oMd_n471, oMd_a472, oMd_n472, oMd_a473, oMd_n473, oMd_a5, oMd_n5, oMd_e5, oMd_ra5, oMd_rn5, oMd_a14, oMd_n14, oMd_e14, oMd_ra14, oMd_rn14, oMd_a23, oMd_n23, oMd_e23, oMd_ra23, oMd_rn23, oMd_a184, oMd_n184, oMd_e184, oMd_ra184, oMd_rn184, oMd_a345, oMd_n345, oMd_e345, oMd_ra345, oMd_rn345, oMd_a354, oMd_n354, oMd_e354, oMd_ra354, oMd_rn354, oMd_a365, oMd_n365, oMd_e365, oMd_ra365, oMd_rn365, oMd_a448, oMd_n448, oMd_e448, oMd_ra448, oMd_rn448, oMd_a465, oMd_n465, oMd_e465, oMd_ra465, oMd_rn465, hb, hz, h5, h8, cc, h6', nI_1]
    · obtain ⟨i1, i2, i3, i4, i5, i6⟩ := i
      exact ⟨i1.up (by unfold wrS; omega), by rw [rz_up_s, rz_u_n (by omega)]; exact i2, by rw [rz_up_s, rz_u_n (by omega)]; exact i3, by rw [rz_up_s, rz_u_s]; rfl, by rw [rz_up_s, rz_u_n (by omega)]; exact i5, (i6.cong (fun a ha => rz_up_n ha)).cons⟩
  · right
    have h6' : (K.length = 6) = True := by simp; omega
    have wr := rd_wrong (Z := Z) (d := d) (w := w) hb hz h5 3 (nI p)
    refine ⟨h6, ?_, ?_⟩
    · rw [e202, show nI 3 = 3 from rfl]
      simp (decide := true) (maxDischargeDepth := 4) only [g202_0, g202_1, g202_4, g202_7, g202_8, g202_11, g202_13, g202_16, g202_17, g202_18, g202_19, g202_22, g202_25, g202_28, g202_29, g202_32, g202_35, g202_36, g202_37, g202_40, g202_41, g202_42, g202_45, g202_46, g202_49, g202_52, g202_53, g202_56, g202_57, rz_k_inl, rz_k_inr, Option.toList_some, Option.toList_none, List.cons_append, List.nil_append, List.append_nil, rz_up_s, rz_u_s, rz_up_n, rz_u_n, ne_eq, not_false_eq_true, not_true_eq_false, Nat.add_assoc, Nat.reduceAdd, reduceIte, Nat.add_eq_left, Nat.left_eq_add, Nat.add_left_cancel_iff, Nat.reduceEqDiff, Nat.add_right_cancel_iff, rz_nb0, rz_nb1, rz_nbb, rz_nbi, rz_isr, rz_zle, if_true, if_false, rz_bi0, rz_bi1, Bool.not_eq_true, Bool.not_eq_false, Bool.true_eq_false, Bool.false_eq_true, rz_ix_lit, cl_lit, Nat.reduceLT, bi_t, bi_f, decide_true, decide_false, Bool.not_false, Bool.not_true, Bool.and_true, Bool.true_and, Bool.and_false, Bool.false_and, oMd_c, oMd_i0, oMd_i1, oMd_i2, oMd_i3, oMd_i4, oMd_i5, oMd_i6, oMd_i7, oMd_i8, oMd_f9, oMd_v9, oMd_f10, oMd_v10, oMd_f11, oMd_v11, oMd_f12, oMd_v12, oMd_f13, oMd_v13, oMd_f14, oMd_v14, oMd_i15, oMd_i16, oMd_f17, oMd_v17, oMd_f18, oMd_v18, oMd_f19, oMd_v19, oMd_f20, oMd_v20, oMd_f21, oMd_v21, oMd_f22, oMd_v22, oMd_f23, oMd_v23, oMd_i24, oMd_f25, oMd_v25, oMd_f26, oMd_v26, oMd_f27, oMd_v27, oMd_f28, oMd_v28, oMd_i29, oMd_i30, oMd_i31, oMd_i32, oMd_i33, oMd_i34, oMd_i35, oMd_f36, oMd_v36, oMd_f37, oMd_v37, oMd_f38, oMd_v38, oMd_i39, oMd_f40, oMd_v40, oMd_f41, oMd_v41, oMd_i42, oMd_f43, oMd_v43, oMd_i44, oMd_a1, oMd_n1, oMd_a2, oMd_n2, oMd_a3, oMd_n3, oMd_a4, oMd_n4, oMd_a363, oMd_n363, oMd_a364, oMd_n364, oMd_a446, oMd_n446, oMd_a447, oMd_n447, oMd_a469, oMd_n469, oMd_a470, oMd_n470, oMd_a471, oMd_n471, oMd_a472, oMd_n472, oMd_a473, oMd_n473, oMd_a5, oMd_n5, oMd_e5, oMd_ra5, oMd_rn5, oMd_a14, oMd_n14, oMd_e14, oMd_ra14, oMd_rn14, oMd_a23, oMd_n23, oMd_e23, oMd_ra23, oMd_rn23, oMd_a184, oMd_n184, oMd_e184, oMd_ra184, oMd_rn184, oMd_a345, oMd_n345, oMd_e345, oMd_ra345, oMd_rn345, oMd_a354, oMd_n354, oMd_e354, oMd_ra354, oMd_rn354, oMd_a365, oMd_n365, oMd_e365, oMd_ra365, oMd_rn365, oMd_a448, oMd_n448, oMd_e448, oMd_ra448, oMd_rn448, oMd_a465, oMd_n465, oMd_e465, oMd_ra465, oMd_rn465, hb, hz, h5, h4, h8, cc, h6', wr, show ¬ ((3 : Int32) = 0) by decide]
    · exact ⟨(i.1.up (by unfold wrS; omega)).up (by unfold wrS; omega), by rw [rz_up_s, rz_u_n (by omega), rz_up_s, rz_u_s], by rw [rz_up_s, rz_u_s], ⟨p, hp, by rw [rz_up_s, rz_u_n (by omega), rz_up_s, rz_u_n (by omega)]; exact h4⟩, show (3 : Nat) ≠ 0 by decide, show (3 : Nat) < 10 by decide⟩
theorem wr_fin {e m p : Nat} {K : List Nat} {T : Nat → TK} {L : rx_L} {pc : Nat} {ι1 : Nat → Nat → Int32} (hpe : p ≤ e) (hK : K.length ≤ 6) (hm : 9 * m + 5 * K.length ≤ 2 * p) (hA : ¬ (¬ sk (ι0 (b + 1)) e p < e ∧ K = [])) (hC : ¬ (sg (ι0 (b + 1)) e (sk (ι0 (b + 1)) e p) = 93 ∧ K ≠ [])) (hw : wdIs (ι0 (b + 1)) (sk (ι0 (b + 1)) e p) (wdR (ι0 (b + 1)) e p) (WD 14) = false) (via : rz_f Z (d + 8) 211 [.ref b] (rz_mk h ι, w) = rg Z (d + 7) rx_m211 pc L [] (rz_mk h ι1, w)) (E : wrE Z h w b e ι0 (d + 7) pc L K T m ι1 (wtP (ι0 (b + 1)) e p)) :
  (∃ f ι', rz_f Z (d + 8) 211 [.ref b] (rz_mk h ι, w) = some (.inl none, (rz_mk h ι', w)) ∧ wrN b ι0 ι' f ∧ wW (ι0 (b + 1)) e K T m p = .inr f) ∨
  (∃ T' m' p' ι', rz_f Z (d + 8) 211 [.ref b] (rz_mk h ι, w) = some (.inl none, (rz_mk h ι', w)) ∧ wrI b ι0 ι' K T' m' p' ∧ p < p' ∧ p' ≤ e ∧ 9 * m' + 5 * K.length ≤ 2 * p' ∧ m < m' ∧ (∀ i, i < m → T' i = T i) ∧ wW (ι0 (b + 1)) e K T m p = wW (ι0 (b + 1)) e K T' m' p') := by
  have WS := wW_step (B := ι0 (b + 1)) (T := T) hpe hK hm hA
  have w1 : wt1 (ι0 (b + 1)) e K T m p = rB (rB (wtP (ι0 (b + 1)) e p) (fun x => rB (smP (ι0 (b + 1)) e 59 x.2) (fun q => (.inl (x.1, q) : (TK × Nat) ⊕ (Nat × Nat))))) (fun s => .inl (K, upT T m s.1, m + 1, s.2)) := by
    unfold wt1
    rw [if_neg hC, hw, if_neg (by decide)]
    simp only [rB_assoc, rB_l]
  have pr : ∀ s, wt1 (ι0 (b + 1)) e K T m p = .inl s → p < s.2.2.2 ∧ s.2.2.2 ≤ e ∧ s.1.length ≤ 6 ∧ 9 * s.2.2.1 + 5 * s.1.length ≤ 2 * s.2.2.2 := fun s hs => wt1_pr hpe hK hm hs
  rw [w1] at WS pr
  unfold wrE at E
  revert E WS pr
  generalize rB (wtP (ι0 (b + 1)) e p) (fun x => rB (smP (ι0 (b + 1)) e 59 x.2) (fun q => (.inl (x.1, q) : (TK × Nat) ⊕ (Nat × Nat)))) = Y
  intro E WS pr
  cases Y with
  | inr f =>
    left
    obtain ⟨ι', x1, x2⟩ := E
    exact ⟨f, ι', via.trans x1, x2, WS⟩
  | inl s =>
    right
    obtain ⟨ι', x1, x2⟩ := E
    obtain ⟨p1, p2, p3, p4⟩ := pr (K, upT T m s.1, m + 1, s.2) rfl
    exact ⟨upT T m s.1, m + 1, s.2, ι', via.trans x1, x2, p1, p2, p4, by omega, fun j hj => upT_n (by omega), WS⟩
theorem wr_all {e : Nat} (hb : oMd h b) (hz : Z.2.1 ≤ b) (he : ι0 b 2 = nI e) (he6 : e ≤ 150) : ∀ n, wrC Z h w b e ι0 n
  | 0 => fun _ _ _ _ _ _ _ h => by omega
  | n + 1 => by
    have IH := wr_all hb hz he he6 n
    intro K T m p ι D hpe hn hK hm hk hA hC hD i
    obtain ⟨d, rfl⟩ : ∃ d, D = d + 8 := ⟨D - 8, by omega⟩
    have hsk := sk_le (B := ι0 (b + 1)) hpe
    obtain ⟨w1, w2⟩ := wdR_le (B := ι0 (b + 1)) hpe
    have h5 := i.2.2.1
    have h4 := i.2.1
    have m80 : m < 80 := by omega
    have SH := wr_stepHere (Z := Z) (d := d + 2) (w := w) (p := p) hb hz (i.e2 he) (by rw [i.by]; exact h4) hpe (by omega) h5
    rw [i.by] at SH
    unfold stpK at SH
    cases c14 : wdIs (ι0 (b + 1)) (sk (ι0 (b + 1)) e p) (wdR (ι0 (b + 1)) e p) (WD 14) with
    | true =>
      obtain ⟨c15, c16, c17, c18, c19⟩ := wd_again c14
      rw [c14, c15, c16, c17, c18, c19, if_neg (by decide), if_neg (by decide), if_neg (by decide), if_neg (by decide), if_neg (by decide), if_pos rfl] at SH
      rcases wr_opens (Z := Z) (d := d + 5) (w := w) hb hz hK (show sk (ι0 (b + 1)) e p ≤ 600 by omega) i with ⟨h6, f1, i1⟩ | ⟨h6, f1, hN⟩
      · have h51 := i1.2.2.1
        have A := wr_again (Z := Z) (d := d) (w := w) hb hz he he6 IH hpe hn h6 hm hk hA hC hD c14 i1
        rw [show nI 5 = 5 from rfl] at A
        have via : rz_f Z (d + 8) 211 [.ref b] (rz_mk h ι, w) = rg Z (d + 7) rx_m211 40 [some (.ref b), some (.int 5), none] [] (rz_mk h (rz_up ι b 8 (nI (K.length + 1))), w) := by
          generalize rz_up ι b 8 (nI (K.length + 1)) = ι1 at f1 h51 ⊢
          rw [e211]
          simp (decide := true) (maxDischargeDepth := 4) only [g211_0, g211_1, g211_4, g211_5, g211_6, g211_7, g211_10, g211_11, g211_12, g211_13, g211_16, g211_19, g211_20, g211_21, g211_24, g211_25, g211_28, g211_31, g211_32, g211_33, g211_36, rz_k_inl, rz_k_inr, Option.toList_some, Option.toList_none, List.cons_append, List.nil_append, List.append_nil, rz_up_s, rz_u_s, rz_up_n, rz_u_n, ne_eq, not_false_eq_true, not_true_eq_false, Nat.add_assoc, Nat.reduceAdd, reduceIte, Nat.add_eq_left, Nat.left_eq_add, Nat.add_left_cancel_iff, Nat.reduceEqDiff, Nat.add_right_cancel_iff, rz_nb0, rz_nb1, rz_nbb, rz_nbi, rz_isr, rz_zle, if_true, if_false, rz_bi0, rz_bi1, Bool.not_eq_true, Bool.not_eq_false, Bool.true_eq_false, Bool.false_eq_true, rz_ix_lit, cl_lit, Nat.reduceLT, bi_t, bi_f, decide_true, decide_false, Bool.not_false, Bool.not_true, Bool.and_true, Bool.true_and, Bool.and_false, Bool.false_and, oMd_c, oMd_i0, oMd_i1, oMd_i2, oMd_i3, oMd_i4, oMd_i5, oMd_i6, oMd_i7, oMd_i8, oMd_f9, oMd_v9, oMd_f10, oMd_v10, oMd_f11, oMd_v11, oMd_f12, oMd_v12, oMd_f13, oMd_v13, oMd_f14, oMd_v14, oMd_i15, oMd_i16, oMd_f17, oMd_v17, oMd_f18, oMd_v18, oMd_f19, oMd_v19, oMd_f20, oMd_v20, oMd_f21, oMd_v21, oMd_f22, oMd_v22, oMd_f23, oMd_v23, oMd_i24, oMd_f25, oMd_v25, oMd_f26, oMd_v26, oMd_f27, oMd_v27, oMd_f28, oMd_v28, oMd_i29, oMd_i30, oMd_i31, oMd_i32, oMd_i33, oMd_i34, oMd_i35, oMd_f36, oMd_v36, oMd_f37, oMd_v37, oMd_f38, oMd_v38, oMd_i39, oMd_f40, oMd_v40, oMd_f41, oMd_v41, oMd_i42, oMd_f43, oMd_v43, oMd_i44, oMd_a1, oMd_n1, oMd_a2, oMd_n2, oMd_a3, oMd_n3, oMd_a4, oMd_n4, oMd_a363, oMd_n363, oMd_a364, oMd_n364, oMd_a446, oMd_n446, oMd_a447, oMd_n447, oMd_a469, oMd_n469, oMd_a470, oMd_n470, oMd_a471, oMd_n471, oMd_a472, oMd_n472, oMd_a473, oMd_n473, oMd_a5, oMd_n5, oMd_e5, oMd_ra5, oMd_rn5, oMd_a14, oMd_n14, oMd_e14, oMd_ra14, oMd_rn14, oMd_a23, oMd_n23, oMd_e23, oMd_ra23, oMd_rn23, oMd_a184, oMd_n184, oMd_e184, oMd_ra184, oMd_rn184, oMd_a345, oMd_n345, oMd_e345, oMd_ra345, oMd_rn345, oMd_a354, oMd_n354, oMd_e354, oMd_ra354, oMd_rn354, oMd_a365, oMd_n365, oMd_e365, oMd_ra365, oMd_rn365, oMd_a448, oMd_n448, oMd_e448, oMd_ra448, oMd_rn448, oMd_a465, oMd_n465, oMd_e465, oMd_ra465, oMd_rn465, hb, SH, f1, h51, show ¬ ((5 : Int32) = -1) by decide, show ¬ ((1 : Int32) = 0) by decide]
        rcases A with ⟨f, ι', a1, a2, a3⟩ | ⟨T', m', p', ι', a1, a2⟩
        · left; exact ⟨f, ι', via.trans a1, a2, a3⟩
        · right; exact ⟨T', m', p', ι', via.trans a1, a2⟩
      · left
        refine ⟨_, _, ?_, hN, ?_⟩
        · rw [e211]
          simp (decide := true) (maxDischargeDepth := 4) only [g211_0, g211_1, g211_4, g211_5, g211_6, g211_7, g211_10, g211_11, g211_12, g211_13, g211_16, g211_19, g211_20, g211_21, g211_24, g211_25, g211_28, g211_31, rz_k_inl, rz_k_inr, Option.toList_some, Option.toList_none, List.cons_append, List.nil_append, List.append_nil, rz_up_s, rz_u_s, rz_up_n, rz_u_n, ne_eq, not_false_eq_true, not_true_eq_false, Nat.add_assoc, Nat.reduceAdd, reduceIte, Nat.add_eq_left, Nat.left_eq_add, Nat.add_left_cancel_iff, Nat.reduceEqDiff, Nat.add_right_cancel_iff, rz_nb0, rz_nb1, rz_nbb, rz_nbi, rz_isr, rz_zle, if_true, if_false, rz_bi0, rz_bi1, Bool.not_eq_true, Bool.not_eq_false, Bool.true_eq_false, Bool.false_eq_true, rz_ix_lit, cl_lit, Nat.reduceLT, bi_t, bi_f, decide_true, decide_false, Bool.not_false, Bool.not_true, Bool.and_true, Bool.true_and, Bool.and_false, Bool.false_and, oMd_c, oMd_i0, oMd_i1, oMd_i2, oMd_i3, oMd_i4, oMd_i5, oMd_i6, oMd_i7, oMd_i8, oMd_f9, oMd_v9, oMd_f10, oMd_v10, oMd_f11, oMd_v11, oMd_f12, oMd_v12, oMd_f13, oMd_v13, oMd_f14, oMd_v14, oMd_i15, oMd_i16, oMd_f17, oMd_v17, oMd_f18, oMd_v18, oMd_f19, oMd_v19, oMd_f20, oMd_v20, oMd_f21, oMd_v21, oMd_f22, oMd_v22, oMd_f23, oMd_v23, oMd_i24, oMd_f25, oMd_v25, oMd_f26, oMd_v26, oMd_f27, oMd_v27, oMd_f28, oMd_v28, oMd_i29, oMd_i30, oMd_i31, oMd_i32, oMd_i33, oMd_i34, oMd_i35, oMd_f36, oMd_v36, oMd_f37, oMd_v37, oMd_f38, oMd_v38, oMd_i39, oMd_f40, oMd_v40, oMd_f41, oMd_v41, oMd_i42, oMd_f43, oMd_v43, oMd_i44, oMd_a1, oMd_n1, oMd_a2, oMd_n2, oMd_a3, oMd_n3, oMd_a4, oMd_n4, oMd_a363, oMd_n363, oMd_a364, oMd_n364, oMd_a446, oMd_n446, oMd_a447, oMd_n447, oMd_a469, oMd_n469, oMd_a470, oMd_n470, oMd_a471, oMd_n471, oMd_a472, oMd_n472, oMd_a473, oMd_n473, oMd_a5, oMd_n5, oMd_e5, oMd_ra5, oMd_rn5, oMd_a14, oMd_n14, oMd_e14, oMd_ra14, oMd_rn14, oMd_a23, oMd_n23, oMd_e23, oMd_ra23, oMd_rn23, oMd_a184, oMd_n184, oMd_e184, oMd_ra184, oMd_rn184, oMd_a345, oMd_n345, oMd_e345, oMd_ra345, oMd_rn345, oMd_a354, oMd_n354, oMd_e354, oMd_ra354, oMd_rn354, oMd_a365, oMd_n365, oMd_e365, oMd_ra365, oMd_rn365, oMd_a448, oMd_n448, oMd_e448, oMd_ra448, oMd_rn448, oMd_a465, oMd_n465, oMd_e465, oMd_ra465, oMd_rn465, hb, SH, f1, show ¬ ((5 : Int32) = -1) by decide]
        · rw [wW_step (B := ι0 (b + 1)) (T := T) hpe hK hm hA]
          unfold wt1
          rw [if_neg hC, c14, if_pos rfl, if_neg h6]
          rfl
    | false =>
      rw [c14] at SH
      cases c15 : wdIs (ι0 (b + 1)) (sk (ι0 (b + 1)) e p) (wdR (ι0 (b + 1)) e p) (WD 15) with
      | true =>
        rw [c15, if_pos rfl] at SH
        obtain ⟨ι1, P1, P2, P3⟩ := wr_pre (Z := Z) (d := d + 5) (w := w) (x := 0) hb hz he (by omega) hpe m80 i none
        have E := wr_k0 (Z := Z) (d := d + 4) (w := w) hb hz he (by omega) w2 m80 hk P2 P3
        rw [show nI 0 = 0 from rfl] at P1
        refine wr_fin hpe hK hm hA hC c14 (Eq.trans ?_ P1) ?_
        · rw [e211]
          simp (decide := true) (maxDischargeDepth := 4) only [g211_0, g211_1, g211_4, g211_5, g211_6, g211_7, g211_10, g211_11, g211_12, g211_13, g211_16, g211_19, g211_20, g211_21, g211_24, g211_25, g211_28, g211_31, g211_32, g211_33, g211_36, rz_k_inl, rz_k_inr, Option.toList_some, Option.toList_none, List.cons_append, List.nil_append, List.append_nil, rz_up_s, rz_u_s, rz_up_n, rz_u_n, ne_eq, not_false_eq_true, not_true_eq_false, Nat.add_assoc, Nat.reduceAdd, reduceIte, Nat.add_eq_left, Nat.left_eq_add, Nat.add_left_cancel_iff, Nat.reduceEqDiff, Nat.add_right_cancel_iff, rz_nb0, rz_nb1, rz_nbb, rz_nbi, rz_isr, rz_zle, if_true, if_false, rz_bi0, rz_bi1, Bool.not_eq_true, Bool.not_eq_false, Bool.true_eq_false, Bool.false_eq_true, rz_ix_lit, cl_lit, Nat.reduceLT, bi_t, bi_f, decide_true, decide_false, Bool.not_false, Bool.not_true, Bool.and_true, Bool.true_and, Bool.and_false, Bool.false_and, oMd_c, oMd_i0, oMd_i1, oMd_i2, oMd_i3, oMd_i4, oMd_i5, oMd_i6, oMd_i7, oMd_i8, oMd_f9, oMd_v9, oMd_f10, oMd_v10, oMd_f11, oMd_v11, oMd_f12, oMd_v12, oMd_f13, oMd_v13, oMd_f14, oMd_v14, oMd_i15, oMd_i16, oMd_f17, oMd_v17, oMd_f18, oMd_v18, oMd_f19, oMd_v19, oMd_f20, oMd_v20, oMd_f21, oMd_v21, oMd_f22, oMd_v22, oMd_f23, oMd_v23, oMd_i24, oMd_f25, oMd_v25, oMd_f26, oMd_v26, oMd_f27, oMd_v27, oMd_f28, oMd_v28, oMd_i29, oMd_i30, oMd_i31, oMd_i32, oMd_i33, oMd_i34, oMd_i35, oMd_f36, oMd_v36, oMd_f37, oMd_v37, oMd_f38, oMd_v38, oMd_i39, oMd_f40, oMd_v40, oMd_f41, oMd_v41, oMd_i42, oMd_f43, oMd_v43, oMd_i44, oMd_a1, oMd_n1, oMd_a2, oMd_n2, oMd_a3, oMd_n3, oMd_a4, oMd_n4, oMd_a363, oMd_n363, oMd_a364, oMd_n364, oMd_a446, oMd_n446, oMd_a447, oMd_n447, oMd_a469, oMd_n469, oMd_a470, oMd_n470, oMd_a471, oMd_n471, oMd_a472, oMd_n472, oMd_a473, oMd_n473, oMd_a5, oMd_n5, oMd_e5, oMd_ra5, oMd_rn5, oMd_a14, oMd_n14, oMd_e14, oMd_ra14, oMd_rn14, oMd_a23, oMd_n23, oMd_e23, oMd_ra23, oMd_rn23, oMd_a184, oMd_n184, oMd_e184, oMd_ra184, oMd_rn184, oMd_a345, oMd_n345, oMd_e345, oMd_ra345, oMd_rn345, oMd_a354, oMd_n354, oMd_e354, oMd_ra354, oMd_rn354, oMd_a365, oMd_n365, oMd_e365, oMd_ra365, oMd_rn365, oMd_a448, oMd_n448, oMd_e448, oMd_ra448, oMd_rn448, oMd_a465, oMd_n465, oMd_e465, oMd_ra465, oMd_rn465, hb, SH, h5, show ¬ ((0 : Int32) = -1) by decide, show ¬ ((0 : Int32) = 5) by decide]
        · unfold wtP
          rw [c15]
          rw [if_pos rfl]
          exact E
      | false =>
        rw [c15, if_neg (by decide)] at SH
        cases c16 : wdIs (ι0 (b + 1)) (sk (ι0 (b + 1)) e p) (wdR (ι0 (b + 1)) e p) (WD 16) with
        | true =>
          rw [c16, if_pos rfl] at SH
          obtain ⟨ι1, P1, P2, P3⟩ := wr_pre (Z := Z) (d := d + 5) (w := w) (x := 1) hb hz he (by omega) hpe m80 i none
          have E := wr_k1 (Z := Z) (d := d + 4) (w := w) hb hz he (by omega) w2 m80 hk P2 P3
          rw [show nI 1 = 1 from rfl] at P1
          refine wr_fin hpe hK hm hA hC c14 (Eq.trans ?_ P1) ?_
          · rw [e211]
            simp (decide := true) (maxDischargeDepth := 4) only [g211_0, g211_1, g211_4, g211_5, g211_6, g211_7, g211_10, g211_11, g211_12, g211_13, g211_16, g211_19, g211_20, g211_21, g211_24, g211_25, g211_28, g211_31, g211_32, g211_33, g211_36, rz_k_inl, rz_k_inr, Option.toList_some, Option.toList_none, List.cons_append, List.nil_append, List.append_nil, rz_up_s, rz_u_s, rz_up_n, rz_u_n, ne_eq, not_false_eq_true, not_true_eq_false, Nat.add_assoc, Nat.reduceAdd, reduceIte, Nat.add_eq_left, Nat.left_eq_add, Nat.add_left_cancel_iff, Nat.reduceEqDiff, Nat.add_right_cancel_iff, rz_nb0, rz_nb1, rz_nbb, rz_nbi, rz_isr, rz_zle, if_true, if_false, rz_bi0, rz_bi1, Bool.not_eq_true, Bool.not_eq_false, Bool.true_eq_false, Bool.false_eq_true, rz_ix_lit, cl_lit, Nat.reduceLT, bi_t, bi_f, decide_true, decide_false, Bool.not_false, Bool.not_true, Bool.and_true, Bool.true_and, Bool.and_false, Bool.false_and, oMd_c, oMd_i0, oMd_i1, oMd_i2, oMd_i3, oMd_i4, oMd_i5, oMd_i6, oMd_i7, oMd_i8, oMd_f9, oMd_v9, oMd_f10, oMd_v10, oMd_f11, oMd_v11, oMd_f12, oMd_v12, oMd_f13, oMd_v13, oMd_f14, oMd_v14, oMd_i15, oMd_i16, oMd_f17, oMd_v17, oMd_f18, oMd_v18, oMd_f19, oMd_v19, oMd_f20, oMd_v20, oMd_f21, oMd_v21, oMd_f22, oMd_v22, oMd_f23, oMd_v23, oMd_i24, oMd_f25, oMd_v25, oMd_f26, oMd_v26, oMd_f27, oMd_v27, oMd_f28, oMd_v28, oMd_i29, oMd_i30, oMd_i31, oMd_i32, oMd_i33, oMd_i34, oMd_i35, oMd_f36, oMd_v36, oMd_f37, oMd_v37, oMd_f38, oMd_v38, oMd_i39, oMd_f40, oMd_v40, oMd_f41, oMd_v41, oMd_i42, oMd_f43, oMd_v43, oMd_i44, oMd_a1, oMd_n1, oMd_a2, oMd_n2, oMd_a3, oMd_n3, oMd_a4, oMd_n4, oMd_a363, oMd_n363, oMd_a364, oMd_n364, oMd_a446, oMd_n446, oMd_a447, oMd_n447, oMd_a469, oMd_n469, oMd_a470, oMd_n470, oMd_a471, oMd_n471, oMd_a472, oMd_n472, oMd_a473, oMd_n473, oMd_a5, oMd_n5, oMd_e5, oMd_ra5, oMd_rn5, oMd_a14, oMd_n14, oMd_e14, oMd_ra14, oMd_rn14, oMd_a23, oMd_n23, oMd_e23, oMd_ra23, oMd_rn23, oMd_a184, oMd_n184, oMd_e184, oMd_ra184, oMd_rn184, oMd_a345, oMd_n345, oMd_e345, oMd_ra345, oMd_rn345, oMd_a354, oMd_n354, oMd_e354, oMd_ra354, oMd_rn354, oMd_a365, oMd_n365, oMd_e365, oMd_ra365, oMd_rn365, oMd_a448, oMd_n448, oMd_e448, oMd_ra448, oMd_rn448, oMd_a465, oMd_n465, oMd_e465, oMd_ra465, oMd_rn465, hb, SH, h5, show ¬ ((1 : Int32) = -1) by decide, show ¬ ((1 : Int32) = 5) by decide]
          · unfold wtP
            rw [c15, c16]
            rw [if_neg (by decide)]
            rw [if_pos rfl]
            exact E
        | false =>
          rw [c16, if_neg (by decide)] at SH
          cases c17 : wdIs (ι0 (b + 1)) (sk (ι0 (b + 1)) e p) (wdR (ι0 (b + 1)) e p) (WD 17) with
          | true =>
            rw [c17, if_pos rfl] at SH
            obtain ⟨ι1, P1, P2, P3⟩ := wr_pre (Z := Z) (d := d + 5) (w := w) (x := 2) hb hz he (by omega) hpe m80 i none
            have E := wr_k2 (Z := Z) (d := d + 4) (w := w) hb hz he (by omega) w2 m80 hk P2 P3
            rw [show nI 2 = 2 from rfl] at P1
            refine wr_fin hpe hK hm hA hC c14 (Eq.trans ?_ P1) ?_
            · rw [e211]
              simp (decide := true) (maxDischargeDepth := 4) only [g211_0, g211_1, g211_4, g211_5, g211_6, g211_7, g211_10, g211_11, g211_12, g211_13, g211_16, g211_19, g211_20, g211_21, g211_24, g211_25, g211_28, g211_31, g211_32, g211_33, g211_36, rz_k_inl, rz_k_inr, Option.toList_some, Option.toList_none, List.cons_append, List.nil_append, List.append_nil, rz_up_s, rz_u_s, rz_up_n, rz_u_n, ne_eq, not_false_eq_true, not_true_eq_false, Nat.add_assoc, Nat.reduceAdd, reduceIte, Nat.add_eq_left, Nat.left_eq_add, Nat.add_left_cancel_iff, Nat.reduceEqDiff, Nat.add_right_cancel_iff, rz_nb0, rz_nb1, rz_nbb, rz_nbi, rz_isr, rz_zle, if_true, if_false, rz_bi0, rz_bi1, Bool.not_eq_true, Bool.not_eq_false, Bool.true_eq_false, Bool.false_eq_true, rz_ix_lit, cl_lit, Nat.reduceLT, bi_t, bi_f, decide_true, decide_false, Bool.not_false, Bool.not_true, Bool.and_true, Bool.true_and, Bool.and_false, Bool.false_and, oMd_c, oMd_i0, oMd_i1, oMd_i2, oMd_i3, oMd_i4, oMd_i5, oMd_i6, oMd_i7, oMd_i8, oMd_f9, oMd_v9, oMd_f10, oMd_v10, oMd_f11, oMd_v11, oMd_f12, oMd_v12, oMd_f13, oMd_v13, oMd_f14, oMd_v14, oMd_i15, oMd_i16, oMd_f17, oMd_v17, oMd_f18, oMd_v18, oMd_f19, oMd_v19, oMd_f20, oMd_v20, oMd_f21, oMd_v21, oMd_f22, oMd_v22, oMd_f23, oMd_v23, oMd_i24, oMd_f25, oMd_v25, oMd_f26, oMd_v26, oMd_f27, oMd_v27, oMd_f28, oMd_v28, oMd_i29, oMd_i30, oMd_i31, oMd_i32, oMd_i33, oMd_i34, oMd_i35, oMd_f36, oMd_v36, oMd_f37, oMd_v37, oMd_f38, oMd_v38, oMd_i39, oMd_f40, oMd_v40, oMd_f41, oMd_v41, oMd_i42, oMd_f43, oMd_v43, oMd_i44, oMd_a1, oMd_n1, oMd_a2, oMd_n2, oMd_a3, oMd_n3, oMd_a4, oMd_n4, oMd_a363, oMd_n363, oMd_a364, oMd_n364, oMd_a446, oMd_n446, oMd_a447, oMd_n447, oMd_a469, oMd_n469, oMd_a470, oMd_n470, oMd_a471, oMd_n471, oMd_a472, oMd_n472, oMd_a473, oMd_n473, oMd_a5, oMd_n5, oMd_e5, oMd_ra5, oMd_rn5, oMd_a14, oMd_n14, oMd_e14, oMd_ra14, oMd_rn14, oMd_a23, oMd_n23, oMd_e23, oMd_ra23, oMd_rn23, oMd_a184, oMd_n184, oMd_e184, oMd_ra184, oMd_rn184, oMd_a345, oMd_n345, oMd_e345, oMd_ra345, oMd_rn345, oMd_a354, oMd_n354, oMd_e354, oMd_ra354, oMd_rn354, oMd_a365, oMd_n365, oMd_e365, oMd_ra365, oMd_rn365, oMd_a448, oMd_n448, oMd_e448, oMd_ra448, oMd_rn448, oMd_a465, oMd_n465, oMd_e465, oMd_ra465, oMd_rn465, hb, SH, h5, show ¬ ((2 : Int32) = -1) by decide, show ¬ ((2 : Int32) = 5) by decide]
            · unfold wtP
              rw [c15, c16, c17]
              rw [if_neg (by decide)]
              rw [if_neg (by decide)]
              rw [if_pos rfl]
              exact E
          | false =>
            rw [c17, if_neg (by decide)] at SH
            cases c18 : wdIs (ι0 (b + 1)) (sk (ι0 (b + 1)) e p) (wdR (ι0 (b + 1)) e p) (WD 18) with
            | true =>
              rw [c18, if_pos rfl] at SH
              obtain ⟨ι1, P1, P2, P3⟩ := wr_pre (Z := Z) (d := d + 5) (w := w) (x := 3) hb hz he (by omega) hpe m80 i none
              have E := wr_k3 (Z := Z) (d := d + 4) (w := w) hb hz he (by omega) w2 m80 hk P2 P3
              rw [show nI 3 = 3 from rfl] at P1
              refine wr_fin hpe hK hm hA hC c14 (Eq.trans ?_ P1) ?_
              · rw [e211]
                simp (decide := true) (maxDischargeDepth := 4) only [g211_0, g211_1, g211_4, g211_5, g211_6, g211_7, g211_10, g211_11, g211_12, g211_13, g211_16, g211_19, g211_20, g211_21, g211_24, g211_25, g211_28, g211_31, g211_32, g211_33, g211_36, rz_k_inl, rz_k_inr, Option.toList_some, Option.toList_none, List.cons_append, List.nil_append, List.append_nil, rz_up_s, rz_u_s, rz_up_n, rz_u_n, ne_eq, not_false_eq_true, not_true_eq_false, Nat.add_assoc, Nat.reduceAdd, reduceIte, Nat.add_eq_left, Nat.left_eq_add, Nat.add_left_cancel_iff, Nat.reduceEqDiff, Nat.add_right_cancel_iff, rz_nb0, rz_nb1, rz_nbb, rz_nbi, rz_isr, rz_zle, if_true, if_false, rz_bi0, rz_bi1, Bool.not_eq_true, Bool.not_eq_false, Bool.true_eq_false, Bool.false_eq_true, rz_ix_lit, cl_lit, Nat.reduceLT, bi_t, bi_f, decide_true, decide_false, Bool.not_false, Bool.not_true, Bool.and_true, Bool.true_and, Bool.and_false, Bool.false_and, oMd_c, oMd_i0, oMd_i1, oMd_i2, oMd_i3, oMd_i4, oMd_i5, oMd_i6, oMd_i7, oMd_i8, oMd_f9, oMd_v9, oMd_f10, oMd_v10, oMd_f11, oMd_v11, oMd_f12, oMd_v12, oMd_f13, oMd_v13, oMd_f14, oMd_v14, oMd_i15, oMd_i16, oMd_f17, oMd_v17, oMd_f18, oMd_v18, oMd_f19, oMd_v19, oMd_f20, oMd_v20, oMd_f21, oMd_v21, oMd_f22, oMd_v22, oMd_f23, oMd_v23, oMd_i24, oMd_f25, oMd_v25, oMd_f26, oMd_v26, oMd_f27, oMd_v27, oMd_f28, oMd_v28, oMd_i29, oMd_i30, oMd_i31, oMd_i32, oMd_i33, oMd_i34, oMd_i35, oMd_f36, oMd_v36, oMd_f37, oMd_v37, oMd_f38, oMd_v38, oMd_i39, oMd_f40, oMd_v40, oMd_f41, oMd_v41, oMd_i42, oMd_f43, oMd_v43, oMd_i44, oMd_a1, oMd_n1, oMd_a2, oMd_n2, oMd_a3, oMd_n3, oMd_a4, oMd_n4, oMd_a363, oMd_n363, oMd_a364, oMd_n364, oMd_a446, oMd_n446, oMd_a447, oMd_n447, oMd_a469, oMd_n469, oMd_a470, oMd_n470, oMd_a471, oMd_n471, oMd_a472, oMd_n472, oMd_a473, oMd_n473, oMd_a5, oMd_n5, oMd_e5, oMd_ra5, oMd_rn5, oMd_a14, oMd_n14, oMd_e14, oMd_ra14, oMd_rn14, oMd_a23, oMd_n23, oMd_e23, oMd_ra23, oMd_rn23, oMd_a184, oMd_n184, oMd_e184, oMd_ra184, oMd_rn184, oMd_a345, oMd_n345, oMd_e345, oMd_ra345, oMd_rn345, oMd_a354, oMd_n354, oMd_e354, oMd_ra354, oMd_rn354, oMd_a365, oMd_n365, oMd_e365, oMd_ra365, oMd_rn365, oMd_a448, oMd_n448, oMd_e448, oMd_ra448, oMd_rn448, oMd_a465, oMd_n465, oMd_e465, oMd_ra465, oMd_rn465, hb, SH, h5, show ¬ ((3 : Int32) = -1) by decide, show ¬ ((3 : Int32) = 5) by decide]
              · unfold wtP
                rw [c15, c16, c17, c18]
                rw [if_neg (by decide)]
                rw [if_neg (by decide)]
                rw [if_neg (by decide)]
                rw [if_pos rfl]
                exact E
            | false =>
              rw [c18, if_neg (by decide)] at SH
              cases c19 : wdIs (ι0 (b + 1)) (sk (ι0 (b + 1)) e p) (wdR (ι0 (b + 1)) e p) (WD 19) with
              | true =>
                rw [c19, if_pos rfl] at SH
                obtain ⟨ι1, P1, P2, P3⟩ := wr_pre (Z := Z) (d := d + 5) (w := w) (x := 4) hb hz he (by omega) hpe m80 i none
                have E := wr_k4 (Z := Z) (d := d + 4) (w := w) hb hz he (by omega) w2 m80 hk P2 P3
                rw [show nI 4 = 4 from rfl] at P1
                refine wr_fin hpe hK hm hA hC c14 (Eq.trans ?_ P1) ?_
                · rw [e211]
                  simp (decide := true) (maxDischargeDepth := 4) only [g211_0, g211_1, g211_4, g211_5, g211_6, g211_7, g211_10, g211_11, g211_12, g211_13, g211_16, g211_19, g211_20, g211_21, g211_24, g211_25, g211_28, g211_31, g211_32, g211_33, g211_36, rz_k_inl, rz_k_inr, Option.toList_some, Option.toList_none, List.cons_append, List.nil_append, List.append_nil, rz_up_s, rz_u_s, rz_up_n, rz_u_n, ne_eq, not_false_eq_true, not_true_eq_false, Nat.add_assoc, Nat.reduceAdd, reduceIte, Nat.add_eq_left, Nat.left_eq_add, Nat.add_left_cancel_iff, Nat.reduceEqDiff, Nat.add_right_cancel_iff, rz_nb0, rz_nb1, rz_nbb, rz_nbi, rz_isr, rz_zle, if_true, if_false, rz_bi0, rz_bi1, Bool.not_eq_true, Bool.not_eq_false, Bool.true_eq_false, Bool.false_eq_true, rz_ix_lit, cl_lit, Nat.reduceLT, bi_t, bi_f, decide_true, decide_false, Bool.not_false, Bool.not_true, Bool.and_true, Bool.true_and, Bool.and_false, Bool.false_and, oMd_c, oMd_i0, oMd_i1, oMd_i2, oMd_i3, oMd_i4, oMd_i5, oMd_i6, oMd_i7, oMd_i8, oMd_f9, oMd_v9, oMd_f10, oMd_v10, oMd_f11, oMd_v11, oMd_f12, oMd_v12, oMd_f13, oMd_v13, oMd_f14, oMd_v14, oMd_i15, oMd_i16, oMd_f17, oMd_v17, oMd_f18, oMd_v18, oMd_f19, oMd_v19, oMd_f20, oMd_v20, oMd_f21, oMd_v21, oMd_f22, oMd_v22, oMd_f23, oMd_v23, oMd_i24, oMd_f25, oMd_v25, oMd_f26, oMd_v26, oMd_f27, oMd_v27, oMd_f28, oMd_v28, oMd_i29, oMd_i30, oMd_i31, oMd_i32, oMd_i33, oMd_i34, oMd_i35, oMd_f36, oMd_v36, oMd_f37, oMd_v37, oMd_f38, oMd_v38, oMd_i39, oMd_f40, oMd_v40, oMd_f41, oMd_v41, oMd_i42, oMd_f43, oMd_v43, oMd_i44, oMd_a1, oMd_n1, oMd_a2, oMd_n2, oMd_a3, oMd_n3, oMd_a4, oMd_n4, oMd_a363, oMd_n363, oMd_a364, oMd_n364, oMd_a446, oMd_n446, oMd_a447, oMd_n447, oMd_a469, oMd_n469, oMd_a470, oMd_n470, oMd_a471, oMd_n471, oMd_a472, oMd_n472, oMd_a473, oMd_n473, oMd_a5, oMd_n5, oMd_e5, oMd_ra5, oMd_rn5, oMd_a14, oMd_n14, oMd_e14, oMd_ra14, oMd_rn14, oMd_a23, oMd_n23, oMd_e23, oMd_ra23, oMd_rn23, oMd_a184, oMd_n184, oMd_e184, oMd_ra184, oMd_rn184, oMd_a345, oMd_n345, oMd_e345, oMd_ra345, oMd_rn345, oMd_a354, oMd_n354, oMd_e354, oMd_ra354, oMd_rn354, oMd_a365, oMd_n365, oMd_e365, oMd_ra365, oMd_rn365, oMd_a448, oMd_n448, oMd_e448, oMd_ra448, oMd_rn448, oMd_a465, oMd_n465, oMd_e465, oMd_ra465, oMd_rn465, hb, SH, h5, show ¬ ((4 : Int32) = -1) by decide, show ¬ ((4 : Int32) = 5) by decide]
                · unfold wtP
                  rw [c15, c16, c17, c18, c19]
                  rw [if_neg (by decide)]
                  rw [if_neg (by decide)]
                  rw [if_neg (by decide)]
                  rw [if_neg (by decide)]
                  rw [if_pos rfl]
                  exact E
              | false =>
                rw [c19, if_neg (by decide)] at SH
                rw [if_neg (by decide)] at SH
                have wr := rd_wrong (Z := Z) (d := d + 6) (w := w) hb hz h5 1 (nI (sk (ι0 (b + 1)) e p))
                left
                refine ⟨(1, sk (ι0 (b + 1)) e p), rz_up (rz_up ι b 5 1) b 6 (nI (sk (ι0 (b + 1)) e p)), ?_, ⟨(i.1.up (by unfold wrS; omega)).up (by unfold wrS; omega), by rw [rz_up_s, rz_u_n (by omega), rz_up_s, rz_u_s]; rfl, by rw [rz_up_s, rz_u_s], ⟨sk (ι0 (b + 1)) e p, by omega, by rw [rz_up_s, rz_u_n (by omega), rz_up_s, rz_u_n (by omega)]; exact h4⟩, show (1 : Nat) ≠ 0 by decide, show (1 : Nat) < 10 by decide⟩, ?_⟩
                · rw [e211]
                  simp (decide := true) (maxDischargeDepth := 4) only [g211_0, g211_1, g211_4, g211_5, g211_6, g211_7, g211_10, g211_11, g211_12, g211_13, g211_16, g211_19, g211_20, g211_21, g211_24, g211_25, g211_28, g211_31, g211_32, g211_33, g211_36, g211_39, rz_k_inl, rz_k_inr, Option.toList_some, Option.toList_none, List.cons_append, List.nil_append, List.append_nil, rz_up_s, rz_u_s, rz_up_n, rz_u_n, ne_eq, not_false_eq_true, not_true_eq_false, Nat.add_assoc, Nat.reduceAdd, reduceIte, Nat.add_eq_left, Nat.left_eq_add, Nat.add_left_cancel_iff, Nat.reduceEqDiff, Nat.add_right_cancel_iff, rz_nb0, rz_nb1, rz_nbb, rz_nbi, rz_isr, rz_zle, if_true, if_false, rz_bi0, rz_bi1, Bool.not_eq_true, Bool.not_eq_false, Bool.true_eq_false, Bool.false_eq_true, rz_ix_lit, cl_lit, Nat.reduceLT, bi_t, bi_f, decide_true, decide_false, Bool.not_false, Bool.not_true, Bool.and_true, Bool.true_and, Bool.and_false, Bool.false_and, oMd_c, oMd_i0, oMd_i1, oMd_i2, oMd_i3, oMd_i4, oMd_i5, oMd_i6, oMd_i7, oMd_i8, oMd_f9, oMd_v9, oMd_f10, oMd_v10, oMd_f11, oMd_v11, oMd_f12, oMd_v12, oMd_f13, oMd_v13, oMd_f14, oMd_v14, oMd_i15, oMd_i16, oMd_f17, oMd_v17, oMd_f18, oMd_v18, oMd_f19, oMd_v19, oMd_f20, oMd_v20, oMd_f21, oMd_v21, oMd_f22, oMd_v22, oMd_f23, oMd_v23, oMd_i24, oMd_f25, oMd_v25, oMd_f26, oMd_v26, oMd_f27, oMd_v27, oMd_f28, oMd_v28, oMd_i29, oMd_i30, oMd_i31, oMd_i32, oMd_i33, oMd_i34, oMd_i35, oMd_f36, oMd_v36, oMd_f37, oMd_v37, oMd_f38, oMd_v38, oMd_i39, oMd_f40, oMd_v40, oMd_f41, oMd_v41, oMd_i42, oMd_f43, oMd_v43, oMd_i44, oMd_a1, oMd_n1, oMd_a2, oMd_n2, oMd_a3, oMd_n3, oMd_a4, oMd_n4, oMd_a363, oMd_n363, oMd_a364, oMd_n364, oMd_a446, oMd_n446, oMd_a447, oMd_n447, oMd_a469, oMd_n469, oMd_a470, oMd_n470, oMd_a471, oMd_n471, oMd_a472, oMd_n472, oMd_a473, oMd_n473, oMd_a5, oMd_n5, oMd_e5, oMd_ra5, oMd_rn5, oMd_a14, oMd_n14, oMd_e14, oMd_ra14, oMd_rn14, oMd_a23, oMd_n23, oMd_e23, oMd_ra23, oMd_rn23, oMd_a184, oMd_n184, oMd_e184, oMd_ra184, oMd_rn184, oMd_a345, oMd_n345, oMd_e345, oMd_ra345, oMd_rn345, oMd_a354, oMd_n354, oMd_e354, oMd_ra354, oMd_rn354, oMd_a365, oMd_n365, oMd_e365, oMd_ra365, oMd_rn365, oMd_a448, oMd_n448, oMd_e448, oMd_ra448, oMd_rn448, oMd_a465, oMd_n465, oMd_e465, oMd_ra465, oMd_rn465, hb, SH, h4, wr, show ¬ ((-1 : Int32) = 5) by decide, show ¬ ((1 : Int32) = 0) by decide]
                · rw [wW_step (B := ι0 (b + 1)) (T := T) hpe hK hm hA]
                  unfold wt1 wtP
                  rw [if_neg hC, c14, c15, c16, c17, c18, c19]
                  rfl
theorem wr_loop {e : Nat} (hb : oMd h b) (hz : Z.2.1 ≤ b) (he : ι0 b 2 = nI e) (he6 : e ≤ 150) (l1 : Option Value) : ∀ (n : Nat) (T : Nat → TK) (m p : Nat) (ι : Nat → Nat → Int32), p ≤ e → e - p < n → 9 * m ≤ 2 * p → wrI b ι0 ι [] T m (sk (ι0 (b + 1)) e p) →
    (∃ f ι', rg Z (d + 14) rx_m232 72 [some (.ref b), l1] [] (rz_mk h ι, w) = rg Z (d + 14) rx_m232 101 [some (.ref b), l1] [] (rz_mk h ι', w) ∧ wrN b ι0 ι' f ∧ wW (ι0 (b + 1)) e [] T m p = .inr f) ∨
    (∃ T' m' p' ι', rg Z (d + 14) rx_m232 72 [some (.ref b), l1] [] (rz_mk h ι, w) = rg Z (d + 14) rx_m232 101 [some (.ref b), l1] [] (rz_mk h ι', w) ∧ wrI b ι0 ι' [] T' m' p' ∧ wW (ι0 (b + 1)) e [] T m p = .inl (T', m')) := by
  intro n
  induction n with
  | zero => intro T m p ι hp hn; omega
  | succ n ih =>
    intro T m p ι hpe hn hm i
    have hsk := sk_le (B := ι0 (b + 1)) hpe
    have h5 := i.2.2.1
    have h4 := i.2.1
    have e2 := i.e2 he
    have cc : (nI (sk (ι0 (b + 1)) e p) < nI e) = (sk (ι0 (b + 1)) e p < e) := nI_lt2 (by omega) (by omega)
    by_cases hs : sk (ι0 (b + 1)) e p < e
    · have hs' : (sk (ι0 (b + 1)) e p < e) = True := by simp [hs]
      rcases wr_all (Z := Z) (w := w) hb hz he he6 (n + 1) [] T m p ι (d + 14) hpe hn (by decide) (by show 9 * m + 5 * 0 ≤ 2 * p; omega) (fun k hk => by cases hk) (fun z => z.1 hs) (fun z => z.2 rfl) (by show 6 - 0 + 8 ≤ d + 14; omega) i with ⟨f, ι1, f1, hN, f3⟩ | ⟨T1, m1, p1, ι1, f1, i1, p2, p3, p4, p5, p6, p7⟩
      · left
        obtain ⟨ι2, b1, hN2⟩ := wr_bF (Z := Z) (d := d + 12) (w := w) hb hz he (by omega) hN
        have nz := hN2.nz
        refine ⟨f, ι2, ?_, hN2, f3⟩
        rw [g232_72]
        simp (decide := true) (maxDischargeDepth := 4) only [g232_73, g232_76, g232_79, g232_80, g232_83, g232_84, g232_87, g232_90, g232_91, g232_94, g232_95, g232_98, rz_k_inl, rz_k_inr, Option.toList_some, Option.toList_none, List.cons_append, List.nil_append, List.append_nil, rz_up_s, rz_u_s, rz_up_n, rz_u_n, ne_eq, not_false_eq_true, not_true_eq_false, Nat.add_assoc, Nat.reduceAdd, reduceIte, Nat.add_eq_left, Nat.left_eq_add, Nat.add_left_cancel_iff, Nat.reduceEqDiff, Nat.add_right_cancel_iff, rz_nb0, rz_nb1, rz_nbb, rz_nbi, rz_isr, rz_zle, if_true, if_false, rz_bi0, rz_bi1, Bool.not_eq_true, Bool.not_eq_false, Bool.true_eq_false, Bool.false_eq_true, rz_ix_lit, cl_lit, Nat.reduceLT, bi_t, bi_f, decide_true, decide_false, Bool.not_false, Bool.not_true, Bool.and_true, Bool.true_and, Bool.and_false, Bool.false_and, oMd_c, oMd_i0, oMd_i1, oMd_i2, oMd_i3, oMd_i4, oMd_i5, oMd_i6, oMd_i7, oMd_i8, oMd_f9, oMd_v9, oMd_f10, oMd_v10, oMd_f11, oMd_v11, oMd_f12, oMd_v12, oMd_f13, oMd_v13, oMd_f14, oMd_v14, oMd_i15, oMd_i16, oMd_f17, oMd_v17, oMd_f18, oMd_v18, oMd_f19, oMd_v19, oMd_f20, oMd_v20, oMd_f21, oMd_v21, oMd_f22, oMd_v22, oMd_f23, oMd_v23, oMd_i24, oMd_f25, oMd_v25, oMd_f26, oMd_v26, oMd_f27, oMd_v27, oMd_f28, oMd_v28, oMd_i29, oMd_i30, oMd_i31, oMd_i32, oMd_i33, oMd_i34, oMd_i35, oMd_f36, oMd_v36, oMd_f37, oMd_v37, oMd_f38, oMd_v38, oMd_i39, oMd_f40, oMd_v40, oMd_f41, oMd_v41, oMd_i42, oMd_f43, oMd_v43, oMd_i44, oMd_a1, oMd_n1, oMd_a2, oMd_n2, oMd_a3, oMd_n3, oMd_a4, oMd_n4, oMd_a363, oMd_n363, oMd_a364, oMd_n364, oMd_a446, oMd_n446, oMd_a447, oMd_n447, oMd_a469, oMd_n469, oMd_a470, oMd_n470, oMd_a471, oMd_n471, oMd_a472, oMd_n472, oMd_a473, oMd_n473, oMd_a5, oMd_n5, oMd_e5, oMd_ra5, oMd_rn5, oMd_a14, oMd_n14, oMd_e14, oMd_ra14, oMd_rn14, oMd_a23, oMd_n23, oMd_e23, oMd_ra23, oMd_rn23, oMd_a184, oMd_n184, oMd_e184, oMd_ra184, oMd_rn184, oMd_a345, oMd_n345, oMd_e345, oMd_ra345, oMd_rn345, oMd_a354, oMd_n354, oMd_e354, oMd_ra354, oMd_rn354, oMd_a365, oMd_n365, oMd_e365, oMd_ra365, oMd_rn365, oMd_a448, oMd_n448, oMd_e448, oMd_ra448, oMd_rn448, oMd_a465, oMd_n465, oMd_e465, oMd_ra465, oMd_rn465, hb, h5, h4, e2, cc, hs', f1, b1]
        rw [g232_72]
        simp (decide := true) (maxDischargeDepth := 4) only [g232_73, g232_76, rz_k_inl, rz_k_inr, Option.toList_some, Option.toList_none, List.cons_append, List.nil_append, List.append_nil, rz_up_s, rz_u_s, rz_up_n, rz_u_n, ne_eq, not_false_eq_true, not_true_eq_false, Nat.add_assoc, Nat.reduceAdd, reduceIte, Nat.add_eq_left, Nat.left_eq_add, Nat.add_left_cancel_iff, Nat.reduceEqDiff, Nat.add_right_cancel_iff, rz_nb0, rz_nb1, rz_nbb, rz_nbi, rz_isr, rz_zle, if_true, if_false, rz_bi0, rz_bi1, Bool.not_eq_true, Bool.not_eq_false, Bool.true_eq_false, Bool.false_eq_true, rz_ix_lit, cl_lit, Nat.reduceLT, bi_t, bi_f, decide_true, decide_false, Bool.not_false, Bool.not_true, Bool.and_true, Bool.true_and, Bool.and_false, Bool.false_and, oMd_c, oMd_i0, oMd_i1, oMd_i2, oMd_i3, oMd_i4, oMd_i5, oMd_i6, oMd_i7, oMd_i8, oMd_f9, oMd_v9, oMd_f10, oMd_v10, oMd_f11, oMd_v11, oMd_f12, oMd_v12, oMd_f13, oMd_v13, oMd_f14, oMd_v14, oMd_i15, oMd_i16, oMd_f17, oMd_v17, oMd_f18, oMd_v18, oMd_f19, oMd_v19, oMd_f20, oMd_v20, oMd_f21, oMd_v21, oMd_f22, oMd_v22, oMd_f23, oMd_v23, oMd_i24, oMd_f25, oMd_v25, oMd_f26, oMd_v26, oMd_f27, oMd_v27, oMd_f28, oMd_v28, oMd_i29, oMd_i30, oMd_i31, oMd_i32, oMd_i33, oMd_i34, oMd_i35, oMd_f36, oMd_v36, oMd_f37, oMd_v37, oMd_f38, oMd_v38, oMd_i39, oMd_f40, oMd_v40, oMd_f41, oMd_v41, oMd_i42, oMd_f43, oMd_v43, oMd_i44, oMd_a1, oMd_n1, oMd_a2, oMd_n2, oMd_a3, oMd_n3, oMd_a4, oMd_n4, oMd_a363, oMd_n363, oMd_a364, oMd_n364, oMd_a446, oMd_n446, oMd_a447, oMd_n447, oMd_a469, oMd_n469, oMd_a470, oMd_n470, oMd_a471, oMd_n471, oMd_a472, oMd_n472, oMd_a473, oMd_n473, oMd_a5, oMd_n5, oMd_e5, oMd_ra5, oMd_rn5, oMd_a14, oMd_n14, oMd_e14, oMd_ra14, oMd_rn14, oMd_a23, oMd_n23, oMd_e23, oMd_ra23, oMd_rn23, oMd_a184, oMd_n184, oMd_e184, oMd_ra184, oMd_rn184, oMd_a345, oMd_n345, oMd_e345, oMd_ra345, oMd_rn345, oMd_a354, oMd_n354, oMd_e354, oMd_ra354, oMd_rn354, oMd_a365, oMd_n365, oMd_e365, oMd_ra365, oMd_rn365, oMd_a448, oMd_n448, oMd_e448, oMd_ra448, oMd_rn448, oMd_a465, oMd_n465, oMd_e465, oMd_ra465, oMd_rn465, hb, nz]
      · have p4 : 9 * m1 + 5 * 0 ≤ 2 * p1 := p4
        have bl := rd_blanks (Z := Z) (d := d + 12) (w := w) hb hz (i1.e2 he) i1.2.1 p3 (by omega)
        rw [i1.by] at bl
        have i2 := i1.rd (rdOk.of b (sk (ι0 (b + 1)) e p1) ι1)
        have step : rg Z (d + 14) rx_m232 72 [some (.ref b), l1] [] (rz_mk h ι, w) = rg Z (d + 14) rx_m232 72 [some (.ref b), l1] [] (rz_mk h (rz_up ι1 b 4 (nI (sk (ι0 (b + 1)) e p1))), w) := by
          rw [g232_72]
          simp (decide := true) (maxDischargeDepth := 4) only [g232_73, g232_76, g232_79, g232_80, g232_83, g232_84, g232_87, g232_90, g232_91, g232_94, g232_95, g232_98, rz_k_inl, rz_k_inr, Option.toList_some, Option.toList_none, List.cons_append, List.nil_append, List.append_nil, rz_up_s, rz_u_s, rz_up_n, rz_u_n, ne_eq, not_false_eq_true, not_true_eq_false, Nat.add_assoc, Nat.reduceAdd, reduceIte, Nat.add_eq_left, Nat.left_eq_add, Nat.add_left_cancel_iff, Nat.reduceEqDiff, Nat.add_right_cancel_iff, rz_nb0, rz_nb1, rz_nbb, rz_nbi, rz_isr, rz_zle, if_true, if_false, rz_bi0, rz_bi1, Bool.not_eq_true, Bool.not_eq_false, Bool.true_eq_false, Bool.false_eq_true, rz_ix_lit, cl_lit, Nat.reduceLT, bi_t, bi_f, decide_true, decide_false, Bool.not_false, Bool.not_true, Bool.and_true, Bool.true_and, Bool.and_false, Bool.false_and, oMd_c, oMd_i0, oMd_i1, oMd_i2, oMd_i3, oMd_i4, oMd_i5, oMd_i6, oMd_i7, oMd_i8, oMd_f9, oMd_v9, oMd_f10, oMd_v10, oMd_f11, oMd_v11, oMd_f12, oMd_v12, oMd_f13, oMd_v13, oMd_f14, oMd_v14, oMd_i15, oMd_i16, oMd_f17, oMd_v17, oMd_f18, oMd_v18, oMd_f19, oMd_v19, oMd_f20, oMd_v20, oMd_f21, oMd_v21, oMd_f22, oMd_v22, oMd_f23, oMd_v23, oMd_i24, oMd_f25, oMd_v25, oMd_f26, oMd_v26, oMd_f27, oMd_v27, oMd_f28, oMd_v28, oMd_i29, oMd_i30, oMd_i31, oMd_i32, oMd_i33, oMd_i34, oMd_i35, oMd_f36, oMd_v36, oMd_f37, oMd_v37, oMd_f38, oMd_v38, oMd_i39, oMd_f40, oMd_v40, oMd_f41, oMd_v41, oMd_i42, oMd_f43, oMd_v43, oMd_i44, oMd_a1, oMd_n1, oMd_a2, oMd_n2, oMd_a3, oMd_n3, oMd_a4, oMd_n4, oMd_a363, oMd_n363, oMd_a364, oMd_n364, oMd_a446, oMd_n446, oMd_a447, oMd_n447, oMd_a469, oMd_n469, oMd_a470, oMd_n470, oMd_a471, oMd_n471, oMd_a472, oMd_n472, oMd_a473, oMd_n473, oMd_a5, oMd_n5, oMd_e5, oMd_ra5, oMd_rn5, oMd_a14, oMd_n14, oMd_e14, oMd_ra14, oMd_rn14, oMd_a23, oMd_n23, oMd_e23, oMd_ra23, oMd_rn23, oMd_a184, oMd_n184, oMd_e184, oMd_ra184, oMd_rn184, oMd_a345, oMd_n345, oMd_e345, oMd_ra345, oMd_rn345, oMd_a354, oMd_n354, oMd_e354, oMd_ra354, oMd_rn354, oMd_a365, oMd_n365, oMd_e365, oMd_ra365, oMd_rn365, oMd_a448, oMd_n448, oMd_e448, oMd_ra448, oMd_rn448, oMd_a465, oMd_n465, oMd_e465, oMd_ra465, oMd_rn465, hb, h5, h4, e2, cc, hs', f1, bl]
        rcases ih T1 m1 p1 _ p3 (by omega) (by omega) i2 with ⟨f, ι3, x1, x2, x3⟩ | ⟨T3, m3, p3', ι3, x1, x2, x3⟩
        · left; exact ⟨f, ι3, step.trans x1, x2, p7.trans x3⟩
        · right; exact ⟨T3, m3, p3', ι3, step.trans x1, x2, p7.trans x3⟩
    · have hs' : (sk (ι0 (b + 1)) e p < e) = False := by simp [hs]
      right
      refine ⟨T, m, _, ι, ?_, i, ?_⟩
      · rw [g232_72]
        simp (decide := true) (maxDischargeDepth := 4) only [g232_73, g232_76, g232_79, g232_80, g232_83, g232_84, g232_87, rz_k_inl, rz_k_inr, Option.toList_some, Option.toList_none, List.cons_append, List.nil_append, List.append_nil, rz_up_s, rz_u_s, rz_up_n, rz_u_n, ne_eq, not_false_eq_true, not_true_eq_false, Nat.add_assoc, Nat.reduceAdd, reduceIte, Nat.add_eq_left, Nat.left_eq_add, Nat.add_left_cancel_iff, Nat.reduceEqDiff, Nat.add_right_cancel_iff, rz_nb0, rz_nb1, rz_nbb, rz_nbi, rz_isr, rz_zle, if_true, if_false, rz_bi0, rz_bi1, Bool.not_eq_true, Bool.not_eq_false, Bool.true_eq_false, Bool.false_eq_true, rz_ix_lit, cl_lit, Nat.reduceLT, bi_t, bi_f, decide_true, decide_false, Bool.not_false, Bool.not_true, Bool.and_true, Bool.true_and, Bool.and_false, Bool.false_and, oMd_c, oMd_i0, oMd_i1, oMd_i2, oMd_i3, oMd_i4, oMd_i5, oMd_i6, oMd_i7, oMd_i8, oMd_f9, oMd_v9, oMd_f10, oMd_v10, oMd_f11, oMd_v11, oMd_f12, oMd_v12, oMd_f13, oMd_v13, oMd_f14, oMd_v14, oMd_i15, oMd_i16, oMd_f17, oMd_v17, oMd_f18, oMd_v18, oMd_f19, oMd_v19, oMd_f20, oMd_v20, oMd_f21, oMd_v21, oMd_f22, oMd_v22, oMd_f23, oMd_v23, oMd_i24, oMd_f25, oMd_v25, oMd_f26, oMd_v26, oMd_f27, oMd_v27, oMd_f28, oMd_v28, oMd_i29, oMd_i30, oMd_i31, oMd_i32, oMd_i33, oMd_i34, oMd_i35, oMd_f36, oMd_v36, oMd_f37, oMd_v37, oMd_f38, oMd_v38, oMd_i39, oMd_f40, oMd_v40, oMd_f41, oMd_v41, oMd_i42, oMd_f43, oMd_v43, oMd_i44, oMd_a1, oMd_n1, oMd_a2, oMd_n2, oMd_a3, oMd_n3, oMd_a4, oMd_n4, oMd_a363, oMd_n363, oMd_a364, oMd_n364, oMd_a446, oMd_n446, oMd_a447, oMd_n447, oMd_a469, oMd_n469, oMd_a470, oMd_n470, oMd_a471, oMd_n471, oMd_a472, oMd_n472, oMd_a473, oMd_n473, oMd_a5, oMd_n5, oMd_e5, oMd_ra5, oMd_rn5, oMd_a14, oMd_n14, oMd_e14, oMd_ra14, oMd_rn14, oMd_a23, oMd_n23, oMd_e23, oMd_ra23, oMd_rn23, oMd_a184, oMd_n184, oMd_e184, oMd_ra184, oMd_rn184, oMd_a345, oMd_n345, oMd_e345, oMd_ra345, oMd_rn345, oMd_a354, oMd_n354, oMd_e354, oMd_ra354, oMd_rn354, oMd_a365, oMd_n365, oMd_e365, oMd_ra365, oMd_rn365, oMd_a448, oMd_n448, oMd_e448, oMd_ra448, oMd_rn448, oMd_a465, oMd_n465, oMd_e465, oMd_ra465, oMd_rn465, hb, h5, h4, e2, cc, hs']
      · unfold wW
        rw [show e + 1 - p = (e - p) + 1 by omega, wtR, if_pos ⟨hs, rfl⟩]
end WORK8
