/-! the reference reads WORK: steps of each kind -/
section WORK5
variable {Z : rx_Z} {d : Nat} {h : Nat → Option rx_E} {ι ι0 : Nat → Nat → Int32} {w : Nat × Nat} {b : Nat}
theorem wr_NF (hb : oMd h b) (J : Nat → Nat → Int32) (x y : Int32) (h5 : ¬ (J b 5 = 0)) : rz_f Z (d + 3) 185 [.ref b, .int x, .int y] (rz_mk h J, w) = some (.inl (some (.int 0)), (rz_mk h J, w)) := rd_numF (d := d + 2) hb h5 x y
theorem wr_SF (hb : oMd h b) (J : Nat → Nat → Int32) (x : Int32) (h5 : ¬ (J b 5 = 0)) : rz_f Z (d + 3) 191 [.ref b, .int x] (rz_mk h J, w) = some (.inl none, (rz_mk h J, w)) := rd_signF (d := d + 2) hb h5 x
theorem wr_k4 {e m q : Nat} {K : List Nat} {T : Nat → TK} (hb : oMd h b) (hz : Z.2.1 ≤ b) (he : ι0 b 2 = nI e) (he6 : e ≤ 600) (hqe : q ≤ e) (hm : m < 80) (hk : ∀ k ∈ K, k < m) (i : wrH b ι0 ι K T m q) (h0 : ι (b + (366 + nC T m)) 0 = nI 4) : wrE Z h w b e ι0 (d + 3) 68 [some (.ref b), some (.int 4), some (.ref (b + (366 + nC T m)))] K T m ι (.inl ((4, 0, 0, 0), q)) := by
  have hn := nC_le T m
  have r1 := oMd_ra365 hb (show nC T m < 80 by omega)
  have r2 := oMd_rn365 hb (show nC T m < 80 by omega)
  have rq : wrQ b (b + (366 + nC T m)) := by unfold wrQ; omega
  have n0 : ∀ (J : Nat → Nat → Int32) (k : Nat) (v : Int32), rz_up J (b + (366 + nC T m)) k v b = J b := fun _ _ _ => rz_up_n (by omega)
  have NF := fun (J : Nat → Nat → Int32) (x y : Int32) (h5 : ¬ (J b 5 = 0)) => wr_NF (Z := Z) (d := d) (w := w) hb J x y h5
  have SF := fun (J : Nat → Nat → Int32) (x : Int32) (h5 : ¬ (J b 5 = 0)) => wr_SF (Z := Z) (d := d) (w := w) hb J x h5
  have S := wr_semi (Z := Z) (d := d) (w := w) (x := (4, 0, 0, 0)) hb hz he he6 hqe hm hk (show (4 : Nat) ≠ 6 by decide) (show (4 : Nat) ≠ 5 by decide) i ?_ (some (.int 4))
  · revert S
    unfold wrE
    rw [rB_l]
    dsimp only
    have step : rg Z (d + 3) rx_m211 68 [some (.ref b), some (.int 4), some (.ref (b + (366 + nC T m)))] [] (rz_mk h ι, w) = rg Z (d + 3) rx_m211 193 [some (.ref b), some (.int 4), some (.ref (b + (366 + nC T m)))] [] (rz_mk h ι, w) := by
      simp (decide := true) (maxDischargeDepth := 4) only [g211_68, g211_69, g211_70, g211_73, g211_74, g211_75, g211_76, g211_77, g211_79, g211_82, g211_83, g211_84, g211_87, g211_88, g211_89, g211_90, g211_91, g211_92, g211_95, g211_96, g211_97, g211_98, g211_99, g211_100, g211_102, g211_105, g211_106, g211_107, g211_108, g211_111, g211_112, g211_113, g211_114, g211_115, g211_117, g211_120, g211_121, g211_122, g211_123, rz_k_inl, rz_k_inr, Option.toList_some, Option.toList_none, List.cons_append, List.nil_append, List.append_nil, rz_up_s, rz_u_s, rz_up_n, rz_u_n, ne_eq, not_false_eq_true, not_true_eq_false, Nat.add_assoc, Nat.reduceAdd, reduceIte, Nat.add_eq_left, Nat.left_eq_add, Nat.add_left_cancel_iff, Nat.reduceEqDiff, Nat.add_right_cancel_iff, rz_nb0, rz_nb1, rz_nbb, rz_nbi, rz_isr, rz_zle, if_true, if_false, rz_bi0, rz_bi1, Bool.not_eq_true, Bool.not_eq_false, Bool.true_eq_false, Bool.false_eq_true, rz_ix_lit, cl_lit, Nat.reduceLT, bi_t, bi_f, decide_true, decide_false, Bool.not_false, Bool.not_true, Bool.and_true, Bool.true_and, Bool.and_false, Bool.false_and, oMd_c, oMd_i0, oMd_i1, oMd_i2, oMd_i3, oMd_i4, oMd_i5, oMd_i6, oMd_i7, oMd_i8, oMd_f9, oMd_v9, oMd_f10, oMd_v10, oMd_f11, oMd_v11, oMd_f12, oMd_v12, oMd_f13, oMd_v13, oMd_f14, oMd_v14, oMd_i15, oMd_i16, oMd_f17, oMd_v17, oMd_f18, oMd_v18, oMd_f19, oMd_v19, oMd_f20, oMd_v20, oMd_f21, oMd_v21, oMd_f22, oMd_v22, oMd_f23, oMd_v23, oMd_i24, oMd_f25, oMd_v25, oMd_f26, oMd_v26, oMd_f27, oMd_v27, oMd_f28, oMd_v28, oMd_i29, oMd_i30, oMd_i31, oMd_i32, oMd_i33, oMd_i34, oMd_i35, oMd_f36, oMd_v36, oMd_f37, oMd_v37, oMd_f38, oMd_v38, oMd_i39, oMd_f40, oMd_v40, oMd_f41, oMd_v41, oMd_i42, oMd_f43, oMd_v43, oMd_i44, oMd_a1, oMd_n1, oMd_a2, oMd_n2, oMd_a3, oMd_n3, oMd_a4, oMd_n4, oMd_a363, oMd_n363, oMd_a364, oMd_n364, oMd_a446, oMd_n446, oMd_a447, oMd_n447, oMd_a469, oMd_n469, oMd_a470, oMd_n470, oMd_a471, oMd_n471, oMd_a472, oMd_n472, oMd_a473, oMd_n473, oMd_a5, oMd_n5, oMd_e5, oMd_ra5, oMd_rn5, oMd_a14, oMd_n14, oMd_e14, oMd_ra14, oMd_rn14, oMd_a23, oMd_n23, oMd_e23, oMd_ra23, oMd_rn23, oMd_a184, oMd_n184, oMd_e184, oMd_ra184, oMd_rn184, oMd_a345, oMd_n345, oMd_e345, oMd_ra345, oMd_rn345, oMd_a354, oMd_n354, oMd_e354, oMd_ra354, oMd_rn354, oMd_a365, oMd_n365, oMd_e365, oMd_ra365, oMd_rn365, oMd_a448, oMd_n448, oMd_e448, oMd_ra448, oMd_rn448, oMd_a465, oMd_n465, oMd_e465, oMd_ra465, oMd_rn465, hb, hz, show ¬ ((4 : Int32) < 4) by decide, show ¬ ((4 : Int32) = 0) by decide, show ¬ ((4 : Int32) = 2) by decide, show ¬ ((4 : Int32) = 5) by decide, r1, r2]
    rw [step]
    exact id
  · unfold rwI
    refine ⟨?_, fun _ => ?_, fun z => ?_, fun z => ?_⟩
    · exact h0
    · rename_i z; exact absurd rfl z
    · exact absurd z (by simp)
    · exact absurd z (by simp)
theorem wr_k1 {e m q : Nat} {K : List Nat} {T : Nat → TK} (hb : oMd h b) (hz : Z.2.1 ≤ b) (he : ι0 b 2 = nI e) (he6 : e ≤ 600) (hqe : q ≤ e) (hm : m < 80) (hk : ∀ k ∈ K, k < m) (i : wrH b ι0 ι K T m q) (h0 : ι (b + (366 + nC T m)) 0 = nI 1) : wrE Z h w b e ι0 (d + 3) 68 [some (.ref b), some (.int 1), some (.ref (b + (366 + nC T m)))] K T m ι (rB (nmN (ι0 (b + 1)) e 7 q) (fun x => .inl ((1, x.1, 0, 0), x.2))) := by
  have hn := nC_le T m
  have r1 := oMd_ra365 hb (show nC T m < 80 by omega)
  have r2 := oMd_rn365 hb (show nC T m < 80 by omega)
  have rq : wrQ b (b + (366 + nC T m)) := by unfold wrQ; omega
  have n0 : ∀ (J : Nat → Nat → Int32) (k : Nat) (v : Int32), rz_up J (b + (366 + nC T m)) k v b = J b := fun _ _ _ => rz_up_n (by omega)
  have NF := fun (J : Nat → Nat → Int32) (x y : Int32) (h5 : ¬ (J b 5 = 0)) => wr_NF (Z := Z) (d := d) (w := w) hb J x y h5
  have SF := fun (J : Nat → Nat → Int32) (x : Int32) (h5 : ¬ (J b 5 = 0)) => wr_SF (Z := Z) (d := d) (w := w) hb J x h5
  have N0 := wr_num (Z := Z) (d := d) (w := w) hb hz he he6 hqe i (x := 7) (by decide)
  cases nn0 : nmN (ι0 (b + 1)) e 7 q with
  | inr f =>
    rw [nn0] at N0
    obtain ⟨ι9, g0, hN⟩ := N0
    have nz := hN.nz
    refine ⟨rz_up (rz_up ι9 (b + (366 + nC T m)) 1 0) (b + (366 + nC T m)) 4 (ι9 b 24), ?_, ((hN.row rq).row rq)⟩
    simp (decide := true) (maxDischargeDepth := 4) only [g211_68, g211_69, g211_70, g211_73, g211_74, g211_75, g211_76, g211_77, g211_79, g211_82, g211_83, g211_84, g211_87, g211_88, g211_89, g211_90, g211_91, g211_92, g211_95, g211_96, g211_97, g211_98, g211_99, g211_100, g211_102, g211_105, g211_106, g211_107, g211_108, g211_111, g211_112, g211_113, g211_114, g211_115, g211_117, g211_120, g211_121, g211_122, g211_123, g211_193, g211_194, g211_195, g211_196, g211_199, g211_200, g211_201, g211_203, g211_206, rz_k_inl, rz_k_inr, Option.toList_some, Option.toList_none, List.cons_append, List.nil_append, List.append_nil, rz_up_s, rz_u_s, rz_up_n, rz_u_n, ne_eq, not_false_eq_true, not_true_eq_false, Nat.add_assoc, Nat.reduceAdd, reduceIte, Nat.add_eq_left, Nat.left_eq_add, Nat.add_left_cancel_iff, Nat.reduceEqDiff, Nat.add_right_cancel_iff, rz_nb0, rz_nb1, rz_nbb, rz_nbi, rz_isr, rz_zle, if_true, if_false, rz_bi0, rz_bi1, Bool.not_eq_true, Bool.not_eq_false, Bool.true_eq_false, Bool.false_eq_true, rz_ix_lit, cl_lit, Nat.reduceLT, bi_t, bi_f, decide_true, decide_false, Bool.not_false, Bool.not_true, Bool.and_true, Bool.true_and, Bool.and_false, Bool.false_and, oMd_c, oMd_i0, oMd_i1, oMd_i2, oMd_i3, oMd_i4, oMd_i5, oMd_i6, oMd_i7, oMd_i8, oMd_f9, oMd_v9, oMd_f10, oMd_v10, oMd_f11, oMd_v11, oMd_f12, oMd_v12, oMd_f13, oMd_v13, oMd_f14, oMd_v14, oMd_i15, oMd_i16, oMd_f17, oMd_v17, oMd_f18, oMd_v18, oMd_f19, oMd_v19, oMd_f20, oMd_v20, oMd_f21, oMd_v21, oMd_f22, oMd_v22, oMd_f23, oMd_v23, oMd_i24, oMd_f25, oMd_v25, oMd_f26, oMd_v26, oMd_f27, oMd_v27, oMd_f28, oMd_v28, oMd_i29, oMd_i30, oMd_i31, oMd_i32, oMd_i33, oMd_i34, oMd_i35, oMd_f36, oMd_v36, oMd_f37, oMd_v37, oMd_f38, oMd_v38, oMd_i39, oMd_f40, oMd_v40, oMd_f41, oMd_v41, oMd_i42, oMd_f43, oMd_v43, oMd_i44, oMd_a1, oMd_n1, oMd_a2, oMd_n2, oMd_a3, oMd_n3, oMd_a4, oMd_n4, oMd_a363, oMd_n363, oMd_a364, oMd_n364, oMd_a446, oMd_n446, oMd_a447, oMd_n447, oMd_a469, oMd_n469, oMd_a470, oMd_n470, oMd_a471, oMd_n471, oMd_a472, oMd_n472, oMd_a473, oMd_n473, oMd_a5, oMd_n5, oMd_e5, oMd_ra5, oMd_rn5, oMd_a14, oMd_n14, oMd_e14, oMd_ra14, oMd_rn14, oMd_a23, oMd_n23, oMd_e23, oMd_ra23, oMd_rn23, oMd_a184, oMd_n184, oMd_e184, oMd_ra184, oMd_rn184, oMd_a345, oMd_n345, oMd_e345, oMd_ra345, oMd_rn345, oMd_a354, oMd_n354, oMd_e354, oMd_ra354, oMd_rn354, oMd_a365, oMd_n365, oMd_e365, oMd_ra365, oMd_rn365, oMd_a448, oMd_n448, oMd_e448, oMd_ra448, oMd_rn448, oMd_a465, oMd_n465, oMd_e465, oMd_ra465, oMd_rn465, hb, hz, show ((1 : Int32) < 4) = True by decide, show ¬ ((1 : Int32) = 0) by decide, show ¬ ((1 : Int32) = 2) by decide, show ¬ ((1 : Int32) = 5) by decide, r1, r2, n0, nz, NF, SF, g0]
  | inl x =>
    rw [nn0] at N0
    obtain ⟨b0, c0, ι1, g0, i1, k0⟩ := N0
    have j1 := i1.row (k := 1) (v := nI x.1) hm
    obtain ⟨J1, E1⟩ : ∃ J, rz_up ι1 (b + (366 + nC T m)) 1 (nI x.1) = J := ⟨_, rfl⟩
    rw [E1] at j1
    have v1 : ∀ c, J1 (b + (366 + nC T m)) c = if c = 1 then nI x.1 else ι (b + (366 + nC T m)) c := fun c => by rw [← E1, rz_up_s, k0 _ (by omega)]; rfl
    rw [rB_l]
    have S := wr_semi (Z := Z) (d := d) (w := w) (x := (1, x.1, 0, 0)) hb hz he he6 b0 hm hk (show (1 : Nat) ≠ 6 by decide) (show (1 : Nat) ≠ 5 by decide) j1 ?_ (some (.int 1))
    · revert S
      unfold wrE
      rw [rB_l]
      dsimp only
      have step : rg Z (d + 3) rx_m211 68 [some (.ref b), some (.int 1), some (.ref (b + (366 + nC T m)))] [] (rz_mk h ι, w) = rg Z (d + 3) rx_m211 193 [some (.ref b), some (.int 1), some (.ref (b + (366 + nC T m)))] [] (rz_mk h J1, w) := by
        simp (decide := true) (maxDischargeDepth := 4) only [g211_68, g211_69, g211_70, g211_73, g211_74, g211_75, g211_76, g211_77, g211_79, g211_82, g211_83, g211_84, g211_87, g211_88, g211_89, g211_90, g211_91, g211_92, g211_95, g211_96, g211_97, g211_98, g211_99, g211_100, g211_102, g211_105, g211_106, g211_107, g211_108, g211_111, g211_112, g211_113, g211_114, g211_115, g211_117, g211_120, g211_121, g211_122, g211_123, rz_k_inl, rz_k_inr, Option.toList_some, Option.toList_none, List.cons_append, List.nil_append, List.append_nil, rz_up_s, rz_u_s, rz_up_n, rz_u_n, ne_eq, not_false_eq_true, not_true_eq_false, Nat.add_assoc, Nat.reduceAdd, reduceIte, Nat.add_eq_left, Nat.left_eq_add, Nat.add_left_cancel_iff, Nat.reduceEqDiff, Nat.add_right_cancel_iff, rz_nb0, rz_nb1, rz_nbb, rz_nbi, rz_isr, rz_zle, if_true, if_false, rz_bi0, rz_bi1, Bool.not_eq_true, Bool.not_eq_false, Bool.true_eq_false, Bool.false_eq_true, rz_ix_lit, cl_lit, Nat.reduceLT, bi_t, bi_f, decide_true, decide_false, Bool.not_false, Bool.not_true, Bool.and_true, Bool.true_and, Bool.and_false, Bool.false_and, oMd_c, oMd_i0, oMd_i1, oMd_i2, oMd_i3, oMd_i4, oMd_i5, oMd_i6, oMd_i7, oMd_i8, oMd_f9, oMd_v9, oMd_f10, oMd_v10, oMd_f11, oMd_v11, oMd_f12, oMd_v12, oMd_f13, oMd_v13, oMd_f14, oMd_v14, oMd_i15, oMd_i16, oMd_f17, oMd_v17, oMd_f18, oMd_v18, oMd_f19, oMd_v19, oMd_f20, oMd_v20, oMd_f21, oMd_v21, oMd_f22, oMd_v22, oMd_f23, oMd_v23, oMd_i24, oMd_f25, oMd_v25, oMd_f26, oMd_v26, oMd_f27, oMd_v27, oMd_f28, oMd_v28, oMd_i29, oMd_i30, oMd_i31, oMd_i32, oMd_i33, oMd_i34, oMd_i35, oMd_f36, oMd_v36, oMd_f37, oMd_v37, oMd_f38, oMd_v38, oMd_i39, oMd_f40, oMd_v40, oMd_f41, oMd_v41, oMd_i42, oMd_f43, oMd_v43, oMd_i44, oMd_a1, oMd_n1, oMd_a2, oMd_n2, oMd_a3, oMd_n3, oMd_a4, oMd_n4, oMd_a363, oMd_n363, oMd_a364, oMd_n364, oMd_a446, oMd_n446, oMd_a447, oMd_n447, oMd_a469, oMd_n469, oMd_a470, oMd_n470, oMd_a471, oMd_n471, oMd_a472, oMd_n472, oMd_a473, oMd_n473, oMd_a5, oMd_n5, oMd_e5, oMd_ra5, oMd_rn5, oMd_a14, oMd_n14, oMd_e14, oMd_ra14, oMd_rn14, oMd_a23, oMd_n23, oMd_e23, oMd_ra23, oMd_rn23, oMd_a184, oMd_n184, oMd_e184, oMd_ra184, oMd_rn184, oMd_a345, oMd_n345, oMd_e345, oMd_ra345, oMd_rn345, oMd_a354, oMd_n354, oMd_e354, oMd_ra354, oMd_rn354, oMd_a365, oMd_n365, oMd_e365, oMd_ra365, oMd_rn365, oMd_a448, oMd_n448, oMd_e448, oMd_ra448, oMd_rn448, oMd_a465, oMd_n465, oMd_e465, oMd_ra465, oMd_rn465, hb, hz, show ((1 : Int32) < 4) = True by decide, show ¬ ((1 : Int32) = 0) by decide, show ¬ ((1 : Int32) = 2) by decide, show ¬ ((1 : Int32) = 5) by decide, r1, r2, g0, E1]
      rw [step]
      exact id
    · unfold rwI
      refine ⟨?_, fun _ => ?_, fun z => ?_, fun z => ?_⟩
      · simp only [v1, if_neg (show ¬ (0 = 1) by decide), if_neg (show ¬ (0 = 2) by decide), if_neg (show ¬ (0 = 3) by decide)]; exact h0
      · simp [v1]
      · exact absurd z (by simp)
      · exact absurd z (by simp)
theorem wr_k3 {e m q : Nat} {K : List Nat} {T : Nat → TK} (hb : oMd h b) (hz : Z.2.1 ≤ b) (he : ι0 b 2 = nI e) (he6 : e ≤ 600) (hqe : q ≤ e) (hm : m < 80) (hk : ∀ k ∈ K, k < m) (i : wrH b ι0 ι K T m q) (h0 : ι (b + (366 + nC T m)) 0 = nI 3) : wrE Z h w b e ι0 (d + 3) 68 [some (.ref b), some (.int 3), some (.ref (b + (366 + nC T m)))] K T m ι (rB (nmN (ι0 (b + 1)) e 7 q) (fun x => .inl ((3, x.1, 0, 0), x.2))) := by
  have hn := nC_le T m
  have r1 := oMd_ra365 hb (show nC T m < 80 by omega)
  have r2 := oMd_rn365 hb (show nC T m < 80 by omega)
  have rq : wrQ b (b + (366 + nC T m)) := by unfold wrQ; omega
  have n0 : ∀ (J : Nat → Nat → Int32) (k : Nat) (v : Int32), rz_up J (b + (366 + nC T m)) k v b = J b := fun _ _ _ => rz_up_n (by omega)
  have NF := fun (J : Nat → Nat → Int32) (x y : Int32) (h5 : ¬ (J b 5 = 0)) => wr_NF (Z := Z) (d := d) (w := w) hb J x y h5
  have SF := fun (J : Nat → Nat → Int32) (x : Int32) (h5 : ¬ (J b 5 = 0)) => wr_SF (Z := Z) (d := d) (w := w) hb J x h5
  have N0 := wr_num (Z := Z) (d := d) (w := w) hb hz he he6 hqe i (x := 7) (by decide)
  cases nn0 : nmN (ι0 (b + 1)) e 7 q with
  | inr f =>
    rw [nn0] at N0
    obtain ⟨ι9, g0, hN⟩ := N0
    have nz := hN.nz
    refine ⟨rz_up (rz_up ι9 (b + (366 + nC T m)) 1 0) (b + (366 + nC T m)) 4 (ι9 b 24), ?_, ((hN.row rq).row rq)⟩
    simp (decide := true) (maxDischargeDepth := 4) only [g211_68, g211_69, g211_70, g211_73, g211_74, g211_75, g211_76, g211_77, g211_79, g211_82, g211_83, g211_84, g211_87, g211_88, g211_89, g211_90, g211_91, g211_92, g211_95, g211_96, g211_97, g211_98, g211_99, g211_100, g211_102, g211_105, g211_106, g211_107, g211_108, g211_111, g211_112, g211_113, g211_114, g211_115, g211_117, g211_120, g211_121, g211_122, g211_123, g211_193, g211_194, g211_195, g211_196, g211_199, g211_200, g211_201, g211_203, g211_206, rz_k_inl, rz_k_inr, Option.toList_some, Option.toList_none, List.cons_append, List.nil_append, List.append_nil, rz_up_s, rz_u_s, rz_up_n, rz_u_n, ne_eq, not_false_eq_true, not_true_eq_false, Nat.add_assoc, Nat.reduceAdd, reduceIte, Nat.add_eq_left, Nat.left_eq_add, Nat.add_left_cancel_iff, Nat.reduceEqDiff, Nat.add_right_cancel_iff, rz_nb0, rz_nb1, rz_nbb, rz_nbi, rz_isr, rz_zle, if_true, if_false, rz_bi0, rz_bi1, Bool.not_eq_true, Bool.not_eq_false, Bool.true_eq_false, Bool.false_eq_true, rz_ix_lit, cl_lit, Nat.reduceLT, bi_t, bi_f, decide_true, decide_false, Bool.not_false, Bool.not_true, Bool.and_true, Bool.true_and, Bool.and_false, Bool.false_and, oMd_c, oMd_i0, oMd_i1, oMd_i2, oMd_i3, oMd_i4, oMd_i5, oMd_i6, oMd_i7, oMd_i8, oMd_f9, oMd_v9, oMd_f10, oMd_v10, oMd_f11, oMd_v11, oMd_f12, oMd_v12, oMd_f13, oMd_v13, oMd_f14, oMd_v14, oMd_i15, oMd_i16, oMd_f17, oMd_v17, oMd_f18, oMd_v18, oMd_f19, oMd_v19, oMd_f20, oMd_v20, oMd_f21, oMd_v21, oMd_f22, oMd_v22, oMd_f23, oMd_v23, oMd_i24, oMd_f25, oMd_v25, oMd_f26, oMd_v26, oMd_f27, oMd_v27, oMd_f28, oMd_v28, oMd_i29, oMd_i30, oMd_i31, oMd_i32, oMd_i33, oMd_i34, oMd_i35, oMd_f36, oMd_v36, oMd_f37, oMd_v37, oMd_f38, oMd_v38, oMd_i39, oMd_f40, oMd_v40, oMd_f41, oMd_v41, oMd_i42, oMd_f43, oMd_v43, oMd_i44, oMd_a1, oMd_n1, oMd_a2, oMd_n2, oMd_a3, oMd_n3, oMd_a4, oMd_n4, oMd_a363, oMd_n363, oMd_a364, oMd_n364, oMd_a446, oMd_n446, oMd_a447, oMd_n447, oMd_a469, oMd_n469, oMd_a470, oMd_n470, oMd_a471, oMd_n471, oMd_a472, oMd_n472, oMd_a473, oMd_n473, oMd_a5, oMd_n5, oMd_e5, oMd_ra5, oMd_rn5, oMd_a14, oMd_n14, oMd_e14, oMd_ra14, oMd_rn14, oMd_a23, oMd_n23, oMd_e23, oMd_ra23, oMd_rn23, oMd_a184, oMd_n184, oMd_e184, oMd_ra184, oMd_rn184, oMd_a345, oMd_n345, oMd_e345, oMd_ra345, oMd_rn345, oMd_a354, oMd_n354, oMd_e354, oMd_ra354, oMd_rn354, oMd_a365, oMd_n365, oMd_e365, oMd_ra365, oMd_rn365, oMd_a448, oMd_n448, oMd_e448, oMd_ra448, oMd_rn448, oMd_a465, oMd_n465, oMd_e465, oMd_ra465, oMd_rn465, hb, hz, show ((3 : Int32) < 4) = True by decide, show ¬ ((3 : Int32) = 0) by decide, show ¬ ((3 : Int32) = 2) by decide, show ¬ ((3 : Int32) = 5) by decide, r1, r2, n0, nz, NF, SF, g0]
  | inl x =>
    rw [nn0] at N0
    obtain ⟨b0, c0, ι1, g0, i1, k0⟩ := N0
    have j1 := i1.row (k := 1) (v := nI x.1) hm
    obtain ⟨J1, E1⟩ : ∃ J, rz_up ι1 (b + (366 + nC T m)) 1 (nI x.1) = J := ⟨_, rfl⟩
    rw [E1] at j1
    have v1 : ∀ c, J1 (b + (366 + nC T m)) c = if c = 1 then nI x.1 else ι (b + (366 + nC T m)) c := fun c => by rw [← E1, rz_up_s, k0 _ (by omega)]; rfl
    rw [rB_l]
    have S := wr_semi (Z := Z) (d := d) (w := w) (x := (3, x.1, 0, 0)) hb hz he he6 b0 hm hk (show (3 : Nat) ≠ 6 by decide) (show (3 : Nat) ≠ 5 by decide) j1 ?_ (some (.int 3))
    · revert S
      unfold wrE
      rw [rB_l]
      dsimp only
      have step : rg Z (d + 3) rx_m211 68 [some (.ref b), some (.int 3), some (.ref (b + (366 + nC T m)))] [] (rz_mk h ι, w) = rg Z (d + 3) rx_m211 193 [some (.ref b), some (.int 3), some (.ref (b + (366 + nC T m)))] [] (rz_mk h J1, w) := by
        simp (decide := true) (maxDischargeDepth := 4) only [g211_68, g211_69, g211_70, g211_73, g211_74, g211_75, g211_76, g211_77, g211_79, g211_82, g211_83, g211_84, g211_87, g211_88, g211_89, g211_90, g211_91, g211_92, g211_95, g211_96, g211_97, g211_98, g211_99, g211_100, g211_102, g211_105, g211_106, g211_107, g211_108, g211_111, g211_112, g211_113, g211_114, g211_115, g211_117, g211_120, g211_121, g211_122, g211_123, rz_k_inl, rz_k_inr, Option.toList_some, Option.toList_none, List.cons_append, List.nil_append, List.append_nil, rz_up_s, rz_u_s, rz_up_n, rz_u_n, ne_eq, not_false_eq_true, not_true_eq_false, Nat.add_assoc, Nat.reduceAdd, reduceIte, Nat.add_eq_left, Nat.left_eq_add, Nat.add_left_cancel_iff, Nat.reduceEqDiff, Nat.add_right_cancel_iff, rz_nb0, rz_nb1, rz_nbb, rz_nbi, rz_isr, rz_zle, if_true, if_false, rz_bi0, rz_bi1, Bool.not_eq_true, Bool.not_eq_false, Bool.true_eq_false, Bool.false_eq_true, rz_ix_lit, cl_lit, Nat.reduceLT, bi_t, bi_f, decide_true, decide_false, Bool.not_false, Bool.not_true, Bool.and_true, Bool.true_and, Bool.and_false, Bool.false_and, oMd_c, oMd_i0, oMd_i1, oMd_i2, oMd_i3, oMd_i4, oMd_i5, oMd_i6, oMd_i7, oMd_i8, oMd_f9, oMd_v9, oMd_f10, oMd_v10, oMd_f11, oMd_v11, oMd_f12, oMd_v12, oMd_f13, oMd_v13, oMd_f14, oMd_v14, oMd_i15, oMd_i16, oMd_f17, oMd_v17, oMd_f18, oMd_v18, oMd_f19, oMd_v19, oMd_f20, oMd_v20, oMd_f21, oMd_v21, oMd_f22, oMd_v22, oMd_f23, oMd_v23, oMd_i24, oMd_f25, oMd_v25, oMd_f26, oMd_v26, oMd_f27, oMd_v27, oMd_f28, oMd_v28, oMd_i29, oMd_i30, oMd_i31, oMd_i32, oMd_i33, oMd_i34, oMd_i35, oMd_f36, oMd_v36, oMd_f37, oMd_v37, oMd_f38, oMd_v38, oMd_i39, oMd_f40, oMd_v40, oMd_f41, oMd_v41, oMd_i42, oMd_f43, oMd_v43, oMd_i44, oMd_a1, oMd_n1, oMd_a2, oMd_n2, oMd_a3, oMd_n3, oMd_a4, oMd_n4, oMd_a363, oMd_n363, oMd_a364, oMd_n364, oMd_a446, oMd_n446, oMd_a447, oMd_n447, oMd_a469, oMd_n469, oMd_a470, oMd_n470, oMd_a471, oMd_n471, oMd_a472, oMd_n472, oMd_a473, oMd_n473, oMd_a5, oMd_n5, oMd_e5, oMd_ra5, oMd_rn5, oMd_a14, oMd_n14, oMd_e14, oMd_ra14, oMd_rn14, oMd_a23, oMd_n23, oMd_e23, oMd_ra23, oMd_rn23, oMd_a184, oMd_n184, oMd_e184, oMd_ra184, oMd_rn184, oMd_a345, oMd_n345, oMd_e345, oMd_ra345, oMd_rn345, oMd_a354, oMd_n354, oMd_e354, oMd_ra354, oMd_rn354, oMd_a365, oMd_n365, oMd_e365, oMd_ra365, oMd_rn365, oMd_a448, oMd_n448, oMd_e448, oMd_ra448, oMd_rn448, oMd_a465, oMd_n465, oMd_e465, oMd_ra465, oMd_rn465, hb, hz, show ((3 : Int32) < 4) = True by decide, show ¬ ((3 : Int32) = 0) by decide, show ¬ ((3 : Int32) = 2) by decide, show ¬ ((3 : Int32) = 5) by decide, r1, r2, g0, E1]
      rw [step]
      exact id
    · unfold rwI
      refine ⟨?_, fun _ => ?_, fun z => ?_, fun z => ?_⟩
      · simp only [v1, if_neg (show ¬ (0 = 1) by decide), if_neg (show ¬ (0 = 2) by decide), if_neg (show ¬ (0 = 3) by decide)]; exact h0
      · simp [v1]
      · exact absurd z (by simp)
      · exact absurd z (by simp)
theorem wr_k2 {e m q : Nat} {K : List Nat} {T : Nat → TK} (hb : oMd h b) (hz : Z.2.1 ≤ b) (he : ι0 b 2 = nI e) (he6 : e ≤ 600) (hqe : q ≤ e) (hm : m < 80) (hk : ∀ k ∈ K, k < m) (i : wrH b ι0 ι K T m q) (h0 : ι (b + (366 + nC T m)) 0 = nI 2) : wrE Z h w b e ι0 (d + 3) 68 [some (.ref b), some (.int 2), some (.ref (b + (366 + nC T m)))] K T m ι (rB (nmN (ι0 (b + 1)) e 7 q) (fun x => rB (nmN (ι0 (b + 1)) e 7 x.2) (fun y => .inl ((2, x.1, y.1, 0), y.2)))) := by
  have hn := nC_le T m
  have r1 := oMd_ra365 hb (show nC T m < 80 by omega)
  have r2 := oMd_rn365 hb (show nC T m < 80 by omega)
  have rq : wrQ b (b + (366 + nC T m)) := by unfold wrQ; omega
  have n0 : ∀ (J : Nat → Nat → Int32) (k : Nat) (v : Int32), rz_up J (b + (366 + nC T m)) k v b = J b := fun _ _ _ => rz_up_n (by omega)
  have NF := fun (J : Nat → Nat → Int32) (x y : Int32) (h5 : ¬ (J b 5 = 0)) => wr_NF (Z := Z) (d := d) (w := w) hb J x y h5
  have SF := fun (J : Nat → Nat → Int32) (x : Int32) (h5 : ¬ (J b 5 = 0)) => wr_SF (Z := Z) (d := d) (w := w) hb J x h5
  have N0 := wr_num (Z := Z) (d := d) (w := w) hb hz he he6 hqe i (x := 7) (by decide)
  cases nn0 : nmN (ι0 (b + 1)) e 7 q with
  | inr f =>
    rw [nn0] at N0
    obtain ⟨ι9, g0, hN⟩ := N0
    have nz := hN.nz
    refine ⟨rz_up (rz_up (rz_up ι9 (b + (366 + nC T m)) 1 0) (b + (366 + nC T m)) 2 0) (b + (366 + nC T m)) 4 (ι9 b 24), ?_, (((hN.row rq).row rq).row rq)⟩
    simp (decide := true) (maxDischargeDepth := 4) only [g211_68, g211_69, g211_70, g211_73, g211_74, g211_75, g211_76, g211_77, g211_79, g211_82, g211_83, g211_84, g211_87, g211_88, g211_89, g211_90, g211_91, g211_92, g211_95, g211_96, g211_97, g211_98, g211_99, g211_100, g211_102, g211_105, g211_106, g211_107, g211_108, g211_111, g211_112, g211_113, g211_114, g211_115, g211_117, g211_120, g211_121, g211_122, g211_123, g211_193, g211_194, g211_195, g211_196, g211_199, g211_200, g211_201, g211_203, g211_206, rz_k_inl, rz_k_inr, Option.toList_some, Option.toList_none, List.cons_append, List.nil_append, List.append_nil, rz_up_s, rz_u_s, rz_up_n, rz_u_n, ne_eq, not_false_eq_true, not_true_eq_false, Nat.add_assoc, Nat.reduceAdd, reduceIte, Nat.add_eq_left, Nat.left_eq_add, Nat.add_left_cancel_iff, Nat.reduceEqDiff, Nat.add_right_cancel_iff, rz_nb0, rz_nb1, rz_nbb, rz_nbi, rz_isr, rz_zle, if_true, if_false, rz_bi0, rz_bi1, Bool.not_eq_true, Bool.not_eq_false, Bool.true_eq_false, Bool.false_eq_true, rz_ix_lit, cl_lit, Nat.reduceLT, bi_t, bi_f, decide_true, decide_false, Bool.not_false, Bool.not_true, Bool.and_true, Bool.true_and, Bool.and_false, Bool.false_and, oMd_c, oMd_i0, oMd_i1, oMd_i2, oMd_i3, oMd_i4, oMd_i5, oMd_i6, oMd_i7, oMd_i8, oMd_f9, oMd_v9, oMd_f10, oMd_v10, oMd_f11, oMd_v11, oMd_f12, oMd_v12, oMd_f13, oMd_v13, oMd_f14, oMd_v14, oMd_i15, oMd_i16, oMd_f17, oMd_v17, oMd_f18, oMd_v18, oMd_f19, oMd_v19, oMd_f20, oMd_v20, oMd_f21, oMd_v21, oMd_f22, oMd_v22, oMd_f23, oMd_v23, oMd_i24, oMd_f25, oMd_v25, oMd_f26, oMd_v26, oMd_f27, oMd_v27, oMd_f28, oMd_v28, oMd_i29, oMd_i30, oMd_i31, oMd_i32, oMd_i33, oMd_i34, oMd_i35, oMd_f36, oMd_v36, oMd_f37, oMd_v37, oMd_f38, oMd_v38, oMd_i39, oMd_f40, oMd_v40, oMd_f41, oMd_v41, oMd_i42, oMd_f43, oMd_v43, oMd_i44, oMd_a1, oMd_n1, oMd_a2, oMd_n2, oMd_a3, oMd_n3, oMd_a4, oMd_n4, oMd_a363, oMd_n363, oMd_a364, oMd_n364, oMd_a446, oMd_n446, oMd_a447, oMd_n447, oMd_a469, oMd_n469, oMd_a470, oMd_n470, oMd_a471, oMd_n471, oMd_a472, oMd_n472, oMd_a473, oMd_n473, oMd_a5, oMd_n5, oMd_e5, oMd_ra5, oMd_rn5, oMd_a14, oMd_n14, oMd_e14, oMd_ra14, oMd_rn14, oMd_a23, oMd_n23, oMd_e23, oMd_ra23, oMd_rn23, oMd_a184, oMd_n184, oMd_e184, oMd_ra184, oMd_rn184, oMd_a345, oMd_n345, oMd_e345, oMd_ra345, oMd_rn345, oMd_a354, oMd_n354, oMd_e354, oMd_ra354, oMd_rn354, oMd_a365, oMd_n365, oMd_e365, oMd_ra365, oMd_rn365, oMd_a448, oMd_n448, oMd_e448, oMd_ra448, oMd_rn448, oMd_a465, oMd_n465, oMd_e465, oMd_ra465, oMd_rn465, hb, hz, show ((2 : Int32) < 4) = True by decide, show ¬ ((2 : Int32) = 0) by decide, show ¬ ((2 : Int32) = 5) by decide, r1, r2, n0, nz, NF, SF, g0]
  | inl x =>
    rw [nn0] at N0
    obtain ⟨b0, c0, ι1, g0, i1, k0⟩ := N0
    have j1 := i1.row (k := 1) (v := nI x.1) hm
    obtain ⟨J1, E1⟩ : ∃ J, rz_up ι1 (b + (366 + nC T m)) 1 (nI x.1) = J := ⟨_, rfl⟩
    rw [E1] at j1
    have v1 : ∀ c, J1 (b + (366 + nC T m)) c = if c = 1 then nI x.1 else ι (b + (366 + nC T m)) c := fun c => by rw [← E1, rz_up_s, k0 _ (by omega)]; rfl
    rw [rB_l]
    have N1 := wr_num (Z := Z) (d := d) (w := w) hb hz he he6 b0 j1 (x := 7) (by decide)
    cases nn1 : nmN (ι0 (b + 1)) e 7 x.2 with
    | inr f =>
      rw [nn1] at N1
      obtain ⟨ι9, g1, hN⟩ := N1
      have nz := hN.nz
      refine ⟨rz_up (rz_up ι9 (b + (366 + nC T m)) 2 0) (b + (366 + nC T m)) 4 (ι9 b 24), ?_, ((hN.row rq).row rq)⟩
      simp (decide := true) (maxDischargeDepth := 4) only [g211_68, g211_69, g211_70, g211_73, g211_74, g211_75, g211_76, g211_77, g211_79, g211_82, g211_83, g211_84, g211_87, g211_88, g211_89, g211_90, g211_91, g211_92, g211_95, g211_96, g211_97, g211_98, g211_99, g211_100, g211_102, g211_105, g211_106, g211_107, g211_108, g211_111, g211_112, g211_113, g211_114, g211_115, g211_117, g211_120, g211_121, g211_122, g211_123, g211_193, g211_194, g211_195, g211_196, g211_199, g211_200, g211_201, g211_203, g211_206, rz_k_inl, rz_k_inr, Option.toList_some, Option.toList_none, List.cons_append, List.nil_append, List.append_nil, rz_up_s, rz_u_s, rz_up_n, rz_u_n, ne_eq, not_false_eq_true, not_true_eq_false, Nat.add_assoc, Nat.reduceAdd, reduceIte, Nat.add_eq_left, Nat.left_eq_add, Nat.add_left_cancel_iff, Nat.reduceEqDiff, Nat.add_right_cancel_iff, rz_nb0, rz_nb1, rz_nbb, rz_nbi, rz_isr, rz_zle, if_true, if_false, rz_bi0, rz_bi1, Bool.not_eq_true, Bool.not_eq_false, Bool.true_eq_false, Bool.false_eq_true, rz_ix_lit, cl_lit, Nat.reduceLT, bi_t, bi_f, decide_true, decide_false, Bool.not_false, Bool.not_true, Bool.and_true, Bool.true_and, Bool.and_false, Bool.false_and, oMd_c, oMd_i0, oMd_i1, oMd_i2, oMd_i3, oMd_i4, oMd_i5, oMd_i6, oMd_i7, oMd_i8, oMd_f9, oMd_v9, oMd_f10, oMd_v10, oMd_f11, oMd_v11, oMd_f12, oMd_v12, oMd_f13, oMd_v13, oMd_f14, oMd_v14, oMd_i15, oMd_i16, oMd_f17, oMd_v17, oMd_f18, oMd_v18, oMd_f19, oMd_v19, oMd_f20, oMd_v20, oMd_f21, oMd_v21, oMd_f22, oMd_v22, oMd_f23, oMd_v23, oMd_i24, oMd_f25, oMd_v25, oMd_f26, oMd_v26, oMd_f27, oMd_v27, oMd_f28, oMd_v28, oMd_i29, oMd_i30, oMd_i31, oMd_i32, oMd_i33, oMd_i34, oMd_i35, oMd_f36, oMd_v36, oMd_f37, oMd_v37, oMd_f38, oMd_v38, oMd_i39, oMd_f40, oMd_v40, oMd_f41, oMd_v41, oMd_i42, oMd_f43, oMd_v43, oMd_i44, oMd_a1, oMd_n1, oMd_a2, oMd_n2, oMd_a3, oMd_n3, oMd_a4, oMd_n4, oMd_a363, oMd_n363, oMd_a364, oMd_n364, oMd_a446, oMd_n446, oMd_a447, oMd_n447, oMd_a469, oMd_n469, oMd_a470, oMd_n470, oMd_a471, oMd_n471, oMd_a472, oMd_n472, oMd_a473, oMd_n473, oMd_a5, oMd_n5, oMd_e5, oMd_ra5, oMd_rn5, oMd_a14, oMd_n14, oMd_e14, oMd_ra14, oMd_rn14, oMd_a23, oMd_n23, oMd_e23, oMd_ra23, oMd_rn23, oMd_a184, oMd_n184, oMd_e184, oMd_ra184, oMd_rn184, oMd_a345, oMd_n345, oMd_e345, oMd_ra345, oMd_rn345, oMd_a354, oMd_n354, oMd_e354, oMd_ra354, oMd_rn354, oMd_a365, oMd_n365, oMd_e365, oMd_ra365, oMd_rn365, oMd_a448, oMd_n448, oMd_e448, oMd_ra448, oMd_rn448, oMd_a465, oMd_n465, oMd_e465, oMd_ra465, oMd_rn465, hb, hz, show ((2 : Int32) < 4) = True by decide, show ¬ ((2 : Int32) = 0) by decide, show ¬ ((2 : Int32) = 5) by decide, r1, r2, n0, nz, NF, SF, g0, E1, g1]
    | inl y =>
      rw [nn1] at N1
      obtain ⟨b1, c1, ι2, g1, i2, k1⟩ := N1
      have j2 := i2.row (k := 2) (v := nI y.1) hm
      obtain ⟨J2, E2⟩ : ∃ J, rz_up ι2 (b + (366 + nC T m)) 2 (nI y.1) = J := ⟨_, rfl⟩
      rw [E2] at j2
      have v2 : ∀ c, J2 (b + (366 + nC T m)) c = if c = 2 then nI y.1 else J1 (b + (366 + nC T m)) c := fun c => by rw [← E2, rz_up_s, k1 _ (by omega)]; rfl
      rw [rB_l]
      have S := wr_semi (Z := Z) (d := d) (w := w) (x := (2, x.1, y.1, 0)) hb hz he he6 b1 hm hk (show (2 : Nat) ≠ 6 by decide) (show (2 : Nat) ≠ 5 by decide) j2 ?_ (some (.int 2))
      · revert S
        unfold wrE
        rw [rB_l]
        dsimp only
        have step : rg Z (d + 3) rx_m211 68 [some (.ref b), some (.int 2), some (.ref (b + (366 + nC T m)))] [] (rz_mk h ι, w) = rg Z (d + 3) rx_m211 193 [some (.ref b), some (.int 2), some (.ref (b + (366 + nC T m)))] [] (rz_mk h J2, w) := by
          simp (decide := true) (maxDischargeDepth := 4) only [g211_68, g211_69, g211_70, g211_73, g211_74, g211_75, g211_76, g211_77, g211_79, g211_82, g211_83, g211_84, g211_87, g211_88, g211_89, g211_90, g211_91, g211_92, g211_95, g211_96, g211_97, g211_98, g211_99, g211_100, g211_102, g211_105, g211_106, g211_107, g211_108, g211_111, g211_112, g211_113, g211_114, g211_115, g211_117, g211_120, g211_121, g211_122, g211_123, rz_k_inl, rz_k_inr, Option.toList_some, Option.toList_none, List.cons_append, List.nil_append, List.append_nil, rz_up_s, rz_u_s, rz_up_n, rz_u_n, ne_eq, not_false_eq_true, not_true_eq_false, Nat.add_assoc, Nat.reduceAdd, reduceIte, Nat.add_eq_left, Nat.left_eq_add, Nat.add_left_cancel_iff, Nat.reduceEqDiff, Nat.add_right_cancel_iff, rz_nb0, rz_nb1, rz_nbb, rz_nbi, rz_isr, rz_zle, if_true, if_false, rz_bi0, rz_bi1, Bool.not_eq_true, Bool.not_eq_false, Bool.true_eq_false, Bool.false_eq_true, rz_ix_lit, cl_lit, Nat.reduceLT, bi_t, bi_f, decide_true, decide_false, Bool.not_false, Bool.not_true, Bool.and_true, Bool.true_and, Bool.and_false, Bool.false_and, oMd_c, oMd_i0, oMd_i1, oMd_i2, oMd_i3, oMd_i4, oMd_i5, oMd_i6, oMd_i7, oMd_i8, oMd_f9, oMd_v9, oMd_f10, oMd_v10, oMd_f11, oMd_v11, oMd_f12, oMd_v12, oMd_f13, oMd_v13, oMd_f14, oMd_v14, oMd_i15, oMd_i16, oMd_f17, oMd_v17, oMd_f18, oMd_v18, oMd_f19, oMd_v19, oMd_f20, oMd_v20, oMd_f21, oMd_v21, oMd_f22, oMd_v22, oMd_f23, oMd_v23, oMd_i24, oMd_f25, oMd_v25, oMd_f26, oMd_v26, oMd_f27, oMd_v27, oMd_f28, oMd_v28, oMd_i29, oMd_i30, oMd_i31, oMd_i32, oMd_i33, oMd_i34, oMd_i35, oMd_f36, oMd_v36, oMd_f37, oMd_v37, oMd_f38, oMd_v38, oMd_i39, oMd_f40, oMd_v40, oMd_f41, oMd_v41, oMd_i42, oMd_f43, oMd_v43, oMd_i44, oMd_a1, oMd_n1, oMd_a2, oMd_n2, oMd_a3, oMd_n3, oMd_a4, oMd_n4, oMd_a363, oMd_n363, oMd_a364, oMd_n364, oMd_a446, oMd_n446, oMd_a447, oMd_n447, oMd_a469, oMd_n469, oMd_a470, oMd_n470, oMd_a471, oMd_n471, oMd_a472, oMd_n472, oMd_a473, oMd_n473, oMd_a5, oMd_n5, oMd_e5, oMd_ra5, oMd_rn5, oMd_a14, oMd_n14, oMd_e14, oMd_ra14, oMd_rn14, oMd_a23, oMd_n23, oMd_e23, oMd_ra23, oMd_rn23, oMd_a184, oMd_n184, oMd_e184, oMd_ra184, oMd_rn184, oMd_a345, oMd_n345, oMd_e345, oMd_ra345, oMd_rn345, oMd_a354, oMd_n354, oMd_e354, oMd_ra354, oMd_rn354, oMd_a365, oMd_n365, oMd_e365, oMd_ra365, oMd_rn365, oMd_a448, oMd_n448, oMd_e448, oMd_ra448, oMd_rn448, oMd_a465, oMd_n465, oMd_e465, oMd_ra465, oMd_rn465, hb, hz, show ((2 : Int32) < 4) = True by decide, show ¬ ((2 : Int32) = 0) by decide, show ¬ ((2 : Int32) = 5) by decide, r1, r2, g0, E1, g1, E2]
        rw [step]
        exact id
      · unfold rwI
        refine ⟨?_, fun _ => ?_, fun z => ?_, fun z => ?_⟩
        · simp only [v1, v2, if_neg (show ¬ (0 = 1) by decide), if_neg (show ¬ (0 = 2) by decide), if_neg (show ¬ (0 = 3) by decide)]; exact h0
        · simp [v1, v2]
        · simp [v1, v2]
        · exact absurd z (by simp)
theorem wr_k0 {e m q : Nat} {K : List Nat} {T : Nat → TK} (hb : oMd h b) (hz : Z.2.1 ≤ b) (he : ι0 b 2 = nI e) (he6 : e ≤ 600) (hqe : q ≤ e) (hm : m < 80) (hk : ∀ k ∈ K, k < m) (i : wrH b ι0 ι K T m q) (h0 : ι (b + (366 + nC T m)) 0 = nI 0) : wrE Z h w b e ι0 (d + 3) 68 [some (.ref b), some (.int 0), some (.ref (b + (366 + nC T m)))] K T m ι (rB (nmN (ι0 (b + 1)) e 7 q) (fun x => rB (nmN (ι0 (b + 1)) e 2 x.2) (fun y => rB (nmN (ι0 (b + 1)) e 9 y.2) (fun z => .inl ((0, x.1, y.1, z.1), z.2))))) := by
  have hn := nC_le T m
  have r1 := oMd_ra365 hb (show nC T m < 80 by omega)
  have r2 := oMd_rn365 hb (show nC T m < 80 by omega)
  have rq : wrQ b (b + (366 + nC T m)) := by unfold wrQ; omega
  have n0 : ∀ (J : Nat → Nat → Int32) (k : Nat) (v : Int32), rz_up J (b + (366 + nC T m)) k v b = J b := fun _ _ _ => rz_up_n (by omega)
  have NF := fun (J : Nat → Nat → Int32) (x y : Int32) (h5 : ¬ (J b 5 = 0)) => wr_NF (Z := Z) (d := d) (w := w) hb J x y h5
  have SF := fun (J : Nat → Nat → Int32) (x : Int32) (h5 : ¬ (J b 5 = 0)) => wr_SF (Z := Z) (d := d) (w := w) hb J x h5
  have N0 := wr_num (Z := Z) (d := d) (w := w) hb hz he he6 hqe i (x := 7) (by decide)
  cases nn0 : nmN (ι0 (b + 1)) e 7 q with
  | inr f =>
    rw [nn0] at N0
    obtain ⟨ι9, g0, hN⟩ := N0
    have nz := hN.nz
    refine ⟨rz_up (rz_up (rz_up (rz_up ι9 (b + (366 + nC T m)) 1 0) (b + (366 + nC T m)) 2 0) (b + (366 + nC T m)) 3 0) (b + (366 + nC T m)) 4 (ι9 b 24), ?_, ((((hN.row rq).row rq).row rq).row rq)⟩
    simp (decide := true) (maxDischargeDepth := 4) only [g211_68, g211_69, g211_70, g211_73, g211_74, g211_75, g211_76, g211_77, g211_79, g211_82, g211_83, g211_84, g211_87, g211_88, g211_89, g211_90, g211_91, g211_92, g211_95, g211_96, g211_97, g211_98, g211_99, g211_100, g211_102, g211_105, g211_106, g211_107, g211_108, g211_111, g211_112, g211_113, g211_114, g211_115, g211_117, g211_120, g211_121, g211_122, g211_123, g211_193, g211_194, g211_195, g211_196, g211_199, g211_200, g211_201, g211_203, g211_206, rz_k_inl, rz_k_inr, Option.toList_some, Option.toList_none, List.cons_append, List.nil_append, List.append_nil, rz_up_s, rz_u_s, rz_up_n, rz_u_n, ne_eq, not_false_eq_true, not_true_eq_false, Nat.add_assoc, Nat.reduceAdd, reduceIte, Nat.add_eq_left, Nat.left_eq_add, Nat.add_left_cancel_iff, Nat.reduceEqDiff, Nat.add_right_cancel_iff, rz_nb0, rz_nb1, rz_nbb, rz_nbi, rz_isr, rz_zle, if_true, if_false, rz_bi0, rz_bi1, Bool.not_eq_true, Bool.not_eq_false, Bool.true_eq_false, Bool.false_eq_true, rz_ix_lit, cl_lit, Nat.reduceLT, bi_t, bi_f, decide_true, decide_false, Bool.not_false, Bool.not_true, Bool.and_true, Bool.true_and, Bool.and_false, Bool.false_and, oMd_c, oMd_i0, oMd_i1, oMd_i2, oMd_i3, oMd_i4, oMd_i5, oMd_i6, oMd_i7, oMd_i8, oMd_f9, oMd_v9, oMd_f10, oMd_v10, oMd_f11, oMd_v11, oMd_f12, oMd_v12, oMd_f13, oMd_v13, oMd_f14, oMd_v14, oMd_i15, oMd_i16, oMd_f17, oMd_v17, oMd_f18, oMd_v18, oMd_f19, oMd_v19, oMd_f20, oMd_v20, oMd_f21, oMd_v21, oMd_f22, oMd_v22, oMd_f23, oMd_v23, oMd_i24, oMd_f25, oMd_v25, oMd_f26, oMd_v26, oMd_f27, oMd_v27, oMd_f28, oMd_v28, oMd_i29, oMd_i30, oMd_i31, oMd_i32, oMd_i33, oMd_i34, oMd_i35, oMd_f36, oMd_v36, oMd_f37, oMd_v37, oMd_f38, oMd_v38, oMd_i39, oMd_f40, oMd_v40, oMd_f41, oMd_v41, oMd_i42, oMd_f43, oMd_v43, oMd_i44, oMd_a1, oMd_n1, oMd_a2, oMd_n2, oMd_a3, oMd_n3, oMd_a4, oMd_n4, oMd_a363, oMd_n363, oMd_a364, oMd_n364, oMd_a446, oMd_n446, oMd_a447, oMd_n447, oMd_a469, oMd_n469, oMd_a470, oMd_n470, oMd_a471, oMd_n471, oMd_a472, oMd_n472, oMd_a473, oMd_n473, oMd_a5, oMd_n5, oMd_e5, oMd_ra5, oMd_rn5, oMd_a14, oMd_n14, oMd_e14, oMd_ra14, oMd_rn14, oMd_a23, oMd_n23, oMd_e23, oMd_ra23, oMd_rn23, oMd_a184, oMd_n184, oMd_e184, oMd_ra184, oMd_rn184, oMd_a345, oMd_n345, oMd_e345, oMd_ra345, oMd_rn345, oMd_a354, oMd_n354, oMd_e354, oMd_ra354, oMd_rn354, oMd_a365, oMd_n365, oMd_e365, oMd_ra365, oMd_rn365, oMd_a448, oMd_n448, oMd_e448, oMd_ra448, oMd_rn448, oMd_a465, oMd_n465, oMd_e465, oMd_ra465, oMd_rn465, hb, hz, show ((0 : Int32) < 4) = True by decide, show ¬ ((0 : Int32) = 2) by decide, show ¬ ((0 : Int32) = 5) by decide, r1, r2, n0, nz, NF, SF, g0]
  | inl x =>
    rw [nn0] at N0
    obtain ⟨b0, c0, ι1, g0, i1, k0⟩ := N0
    have j1 := i1.row (k := 1) (v := nI x.1) hm
    obtain ⟨J1, E1⟩ : ∃ J, rz_up ι1 (b + (366 + nC T m)) 1 (nI x.1) = J := ⟨_, rfl⟩
    rw [E1] at j1
    have v1 : ∀ c, J1 (b + (366 + nC T m)) c = if c = 1 then nI x.1 else ι (b + (366 + nC T m)) c := fun c => by rw [← E1, rz_up_s, k0 _ (by omega)]; rfl
    rw [rB_l]
    have N1 := wr_num (Z := Z) (d := d) (w := w) hb hz he he6 b0 j1 (x := 2) (by decide)
    cases nn1 : nmN (ι0 (b + 1)) e 2 x.2 with
    | inr f =>
      rw [nn1] at N1
      obtain ⟨ι9, g1, hN⟩ := N1
      have nz := hN.nz
      refine ⟨rz_up (rz_up (rz_up ι9 (b + (366 + nC T m)) 2 0) (b + (366 + nC T m)) 3 0) (b + (366 + nC T m)) 4 (ι9 b 24), ?_, (((hN.row rq).row rq).row rq)⟩
      simp (decide := true) (maxDischargeDepth := 4) only [g211_68, g211_69, g211_70, g211_73, g211_74, g211_75, g211_76, g211_77, g211_79, g211_82, g211_83, g211_84, g211_87, g211_88, g211_89, g211_90, g211_91, g211_92, g211_95, g211_96, g211_97, g211_98, g211_99, g211_100, g211_102, g211_105, g211_106, g211_107, g211_108, g211_111, g211_112, g211_113, g211_114, g211_115, g211_117, g211_120, g211_121, g211_122, g211_123, g211_193, g211_194, g211_195, g211_196, g211_199, g211_200, g211_201, g211_203, g211_206, rz_k_inl, rz_k_inr, Option.toList_some, Option.toList_none, List.cons_append, List.nil_append, List.append_nil, rz_up_s, rz_u_s, rz_up_n, rz_u_n, ne_eq, not_false_eq_true, not_true_eq_false, Nat.add_assoc, Nat.reduceAdd, reduceIte, Nat.add_eq_left, Nat.left_eq_add, Nat.add_left_cancel_iff, Nat.reduceEqDiff, Nat.add_right_cancel_iff, rz_nb0, rz_nb1, rz_nbb, rz_nbi, rz_isr, rz_zle, if_true, if_false, rz_bi0, rz_bi1, Bool.not_eq_true, Bool.not_eq_false, Bool.true_eq_false, Bool.false_eq_true, rz_ix_lit, cl_lit, Nat.reduceLT, bi_t, bi_f, decide_true, decide_false, Bool.not_false, Bool.not_true, Bool.and_true, Bool.true_and, Bool.and_false, Bool.false_and, oMd_c, oMd_i0, oMd_i1, oMd_i2, oMd_i3, oMd_i4, oMd_i5, oMd_i6, oMd_i7, oMd_i8, oMd_f9, oMd_v9, oMd_f10, oMd_v10, oMd_f11, oMd_v11, oMd_f12, oMd_v12, oMd_f13, oMd_v13, oMd_f14, oMd_v14, oMd_i15, oMd_i16, oMd_f17, oMd_v17, oMd_f18, oMd_v18, oMd_f19, oMd_v19, oMd_f20, oMd_v20, oMd_f21, oMd_v21, oMd_f22, oMd_v22, oMd_f23, oMd_v23, oMd_i24, oMd_f25, oMd_v25, oMd_f26, oMd_v26, oMd_f27, oMd_v27, oMd_f28, oMd_v28, oMd_i29, oMd_i30, oMd_i31, oMd_i32, oMd_i33, oMd_i34, oMd_i35, oMd_f36, oMd_v36, oMd_f37, oMd_v37, oMd_f38, oMd_v38, oMd_i39, oMd_f40, oMd_v40, oMd_f41, oMd_v41, oMd_i42, oMd_f43, oMd_v43, oMd_i44, oMd_a1, oMd_n1, oMd_a2, oMd_n2, oMd_a3, oMd_n3, oMd_a4, oMd_n4, oMd_a363, oMd_n363, oMd_a364, oMd_n364, oMd_a446, oMd_n446, oMd_a447, oMd_n447, oMd_a469, oMd_n469, oMd_a470, oMd_n470, oMd_a471, oMd_n471, oMd_a472, oMd_n472, oMd_a473, oMd_n473, oMd_a5, oMd_n5, oMd_e5, oMd_ra5, oMd_rn5, oMd_a14, oMd_n14, oMd_e14, oMd_ra14, oMd_rn14, oMd_a23, oMd_n23, oMd_e23, oMd_ra23, oMd_rn23, oMd_a184, oMd_n184, oMd_e184, oMd_ra184, oMd_rn184, oMd_a345, oMd_n345, oMd_e345, oMd_ra345, oMd_rn345, oMd_a354, oMd_n354, oMd_e354, oMd_ra354, oMd_rn354, oMd_a365, oMd_n365, oMd_e365, oMd_ra365, oMd_rn365, oMd_a448, oMd_n448, oMd_e448, oMd_ra448, oMd_rn448, oMd_a465, oMd_n465, oMd_e465, oMd_ra465, oMd_rn465, hb, hz, show ((0 : Int32) < 4) = True by decide, show ¬ ((0 : Int32) = 2) by decide, show ¬ ((0 : Int32) = 5) by decide, r1, r2, n0, nz, NF, SF, g0, E1, g1]
    | inl y =>
      rw [nn1] at N1
      obtain ⟨b1, c1, ι2, g1, i2, k1⟩ := N1
      have j2 := i2.row (k := 2) (v := nI y.1) hm
      obtain ⟨J2, E2⟩ : ∃ J, rz_up ι2 (b + (366 + nC T m)) 2 (nI y.1) = J := ⟨_, rfl⟩
      rw [E2] at j2
      have v2 : ∀ c, J2 (b + (366 + nC T m)) c = if c = 2 then nI y.1 else J1 (b + (366 + nC T m)) c := fun c => by rw [← E2, rz_up_s, k1 _ (by omega)]; rfl
      rw [rB_l]
      have N2 := wr_num (Z := Z) (d := d) (w := w) hb hz he he6 b1 j2 (x := 9) (by decide)
      cases nn2 : nmN (ι0 (b + 1)) e 9 y.2 with
      | inr f =>
        rw [nn2] at N2
        obtain ⟨ι9, g2, hN⟩ := N2
        have nz := hN.nz
        refine ⟨rz_up (rz_up ι9 (b + (366 + nC T m)) 3 0) (b + (366 + nC T m)) 4 (ι9 b 24), ?_, ((hN.row rq).row rq)⟩
        simp (decide := true) (maxDischargeDepth := 4) only [g211_68, g211_69, g211_70, g211_73, g211_74, g211_75, g211_76, g211_77, g211_79, g211_82, g211_83, g211_84, g211_87, g211_88, g211_89, g211_90, g211_91, g211_92, g211_95, g211_96, g211_97, g211_98, g211_99, g211_100, g211_102, g211_105, g211_106, g211_107, g211_108, g211_111, g211_112, g211_113, g211_114, g211_115, g211_117, g211_120, g211_121, g211_122, g211_123, g211_193, g211_194, g211_195, g211_196, g211_199, g211_200, g211_201, g211_203, g211_206, rz_k_inl, rz_k_inr, Option.toList_some, Option.toList_none, List.cons_append, List.nil_append, List.append_nil, rz_up_s, rz_u_s, rz_up_n, rz_u_n, ne_eq, not_false_eq_true, not_true_eq_false, Nat.add_assoc, Nat.reduceAdd, reduceIte, Nat.add_eq_left, Nat.left_eq_add, Nat.add_left_cancel_iff, Nat.reduceEqDiff, Nat.add_right_cancel_iff, rz_nb0, rz_nb1, rz_nbb, rz_nbi, rz_isr, rz_zle, if_true, if_false, rz_bi0, rz_bi1, Bool.not_eq_true, Bool.not_eq_false, Bool.true_eq_false, Bool.false_eq_true, rz_ix_lit, cl_lit, Nat.reduceLT, bi_t, bi_f, decide_true, decide_false, Bool.not_false, Bool.not_true, Bool.and_true, Bool.true_and, Bool.and_false, Bool.false_and, oMd_c, oMd_i0, oMd_i1, oMd_i2, oMd_i3, oMd_i4, oMd_i5, oMd_i6, oMd_i7, oMd_i8, oMd_f9, oMd_v9, oMd_f10, oMd_v10, oMd_f11, oMd_v11, oMd_f12, oMd_v12, oMd_f13, oMd_v13, oMd_f14, oMd_v14, oMd_i15, oMd_i16, oMd_f17, oMd_v17, oMd_f18, oMd_v18, oMd_f19, oMd_v19, oMd_f20, oMd_v20, oMd_f21, oMd_v21, oMd_f22, oMd_v22, oMd_f23, oMd_v23, oMd_i24, oMd_f25, oMd_v25, oMd_f26, oMd_v26, oMd_f27, oMd_v27, oMd_f28, oMd_v28, oMd_i29, oMd_i30, oMd_i31, oMd_i32, oMd_i33, oMd_i34, oMd_i35, oMd_f36, oMd_v36, oMd_f37, oMd_v37, oMd_f38, oMd_v38, oMd_i39, oMd_f40, oMd_v40, oMd_f41, oMd_v41, oMd_i42, oMd_f43, oMd_v43, oMd_i44, oMd_a1, oMd_n1, oMd_a2, oMd_n2, oMd_a3, oMd_n3, oMd_a4, oMd_n4, oMd_a363, oMd_n363, oMd_a364, oMd_n364, oMd_a446, oMd_n446, oMd_a447, oMd_n447, oMd_a469, oMd_n469, oMd_a470, oMd_n470, oMd_a471, oMd_n471, oMd_a472, oMd_n472, oMd_a473, oMd_n473, oMd_a5, oMd_n5, oMd_e5, oMd_ra5, oMd_rn5, oMd_a14, oMd_n14, oMd_e14, oMd_ra14, oMd_rn14, oMd_a23, oMd_n23, oMd_e23, oMd_ra23, oMd_rn23, oMd_a184, oMd_n184, oMd_e184, oMd_ra184, oMd_rn184, oMd_a345, oMd_n345, oMd_e345, oMd_ra345, oMd_rn345, oMd_a354, oMd_n354, oMd_e354, oMd_ra354, oMd_rn354, oMd_a365, oMd_n365, oMd_e365, oMd_ra365, oMd_rn365, oMd_a448, oMd_n448, oMd_e448, oMd_ra448, oMd_rn448, oMd_a465, oMd_n465, oMd_e465, oMd_ra465, oMd_rn465, hb, hz, show ((0 : Int32) < 4) = True by decide, show ¬ ((0 : Int32) = 2) by decide, show ¬ ((0 : Int32) = 5) by decide, r1, r2, n0, nz, NF, SF, g0, E1, g1, E2, g2]
      | inl z =>
        rw [nn2] at N2
        obtain ⟨b2, c2, ι3, g2, i3, k2⟩ := N2
        have j3 := i3.row (k := 3) (v := nI z.1) hm
        obtain ⟨J3, E3⟩ : ∃ J, rz_up ι3 (b + (366 + nC T m)) 3 (nI z.1) = J := ⟨_, rfl⟩
        rw [E3] at j3
        have v3 : ∀ c, J3 (b + (366 + nC T m)) c = if c = 3 then nI z.1 else J2 (b + (366 + nC T m)) c := fun c => by rw [← E3, rz_up_s, k2 _ (by omega)]; rfl
        rw [rB_l]
        have S := wr_semi (Z := Z) (d := d) (w := w) (x := (0, x.1, y.1, z.1)) hb hz he he6 b2 hm hk (show (0 : Nat) ≠ 6 by decide) (show (0 : Nat) ≠ 5 by decide) j3 ?_ (some (.int 0))
        · revert S
          unfold wrE
          rw [rB_l]
          dsimp only
          have step : rg Z (d + 3) rx_m211 68 [some (.ref b), some (.int 0), some (.ref (b + (366 + nC T m)))] [] (rz_mk h ι, w) = rg Z (d + 3) rx_m211 193 [some (.ref b), some (.int 0), some (.ref (b + (366 + nC T m)))] [] (rz_mk h J3, w) := by
            simp (decide := true) (maxDischargeDepth := 4) only [g211_68, g211_69, g211_70, g211_73, g211_74, g211_75, g211_76, g211_77, g211_79, g211_82, g211_83, g211_84, g211_87, g211_88, g211_89, g211_90, g211_91, g211_92, g211_95, g211_96, g211_97, g211_98, g211_99, g211_100, g211_102, g211_105, g211_106, g211_107, g211_108, g211_111, g211_112, g211_113, g211_114, g211_115, g211_117, g211_120, g211_121, g211_122, g211_123, rz_k_inl, rz_k_inr, Option.toList_some, Option.toList_none, List.cons_append, List.nil_append, List.append_nil, rz_up_s, rz_u_s, rz_up_n, rz_u_n, ne_eq, not_false_eq_true, not_true_eq_false, Nat.add_assoc, Nat.reduceAdd, reduceIte, Nat.add_eq_left, Nat.left_eq_add, Nat.add_left_cancel_iff, Nat.reduceEqDiff, Nat.add_right_cancel_iff, rz_nb0, rz_nb1, rz_nbb, rz_nbi, rz_isr, rz_zle, if_true, if_false, rz_bi0, rz_bi1, Bool.not_eq_true, Bool.not_eq_false, Bool.true_eq_false, Bool.false_eq_true, rz_ix_lit, cl_lit, Nat.reduceLT, bi_t, bi_f, decide_true, decide_false, Bool.not_false, Bool.not_true, Bool.and_true, Bool.true_and, Bool.and_false, Bool.false_and, oMd_c, oMd_i0, oMd_i1, oMd_i2, oMd_i3, oMd_i4, oMd_i5, oMd_i6, oMd_i7, oMd_i8, oMd_f9, oMd_v9, oMd_f10, oMd_v10, oMd_f11, oMd_v11, oMd_f12, oMd_v12, oMd_f13, oMd_v13, oMd_f14, oMd_v14, oMd_i15, oMd_i16, oMd_f17, oMd_v17, oMd_f18, oMd_v18, oMd_f19, oMd_v19, oMd_f20, oMd_v20, oMd_f21, oMd_v21, oMd_f22, oMd_v22, oMd_f23, oMd_v23, oMd_i24, oMd_f25, oMd_v25, oMd_f26, oMd_v26, oMd_f27, oMd_v27, oMd_f28, oMd_v28, oMd_i29, oMd_i30, oMd_i31, oMd_i32, oMd_i33, oMd_i34, oMd_i35, oMd_f36, oMd_v36, oMd_f37, oMd_v37, oMd_f38, oMd_v38, oMd_i39, oMd_f40, oMd_v40, oMd_f41, oMd_v41, oMd_i42, oMd_f43, oMd_v43, oMd_i44, oMd_a1, oMd_n1, oMd_a2, oMd_n2, oMd_a3, oMd_n3, oMd_a4, oMd_n4, oMd_a363, oMd_n363, oMd_a364, oMd_n364, oMd_a446, oMd_n446, oMd_a447, oMd_n447, oMd_a469, oMd_n469, oMd_a470, oMd_n470, oMd_a471, oMd_n471, oMd_a472, oMd_n472, oMd_a473, oMd_n473, oMd_a5, oMd_n5, oMd_e5, oMd_ra5, oMd_rn5, oMd_a14, oMd_n14, oMd_e14, oMd_ra14, oMd_rn14, oMd_a23, oMd_n23, oMd_e23, oMd_ra23, oMd_rn23, oMd_a184, oMd_n184, oMd_e184, oMd_ra184, oMd_rn184, oMd_a345, oMd_n345, oMd_e345, oMd_ra345, oMd_rn345, oMd_a354, oMd_n354, oMd_e354, oMd_ra354, oMd_rn354, oMd_a365, oMd_n365, oMd_e365, oMd_ra365, oMd_rn365, oMd_a448, oMd_n448, oMd_e448, oMd_ra448, oMd_rn448, oMd_a465, oMd_n465, oMd_e465, oMd_ra465, oMd_rn465, hb, hz, show ((0 : Int32) < 4) = True by decide, show ¬ ((0 : Int32) = 2) by decide, show ¬ ((0 : Int32) = 5) by decide, r1, r2, g0, E1, g1, E2, g2, E3]
          rw [step]
          exact id
        · unfold rwI
          refine ⟨?_, fun _ => ?_, fun z => ?_, fun z => ?_⟩
          · simp only [v1, v2, v3, if_neg (show ¬ (0 = 1) by decide), if_neg (show ¬ (0 = 2) by decide), if_neg (show ¬ (0 = 3) by decide)]; exact h0
          · simp [v1, v2, v3]
          · simp [v1, v2, v3]
          · simp [v1, v2, v3]
end WORK5
