/-! the reference: undo -/
section MI2
variable {Z : rx_Z} {d : Nat} {h : Nat → Option rx_E} {ι : Nat → Nat → Int32} {w : Nat × Nat} {b n : Nat} {pl : Int32} {R : Nat → Int32} {C K : List (Nat × Nat)} {H : List (Nat → Int32)} {G : List ((Nat → Int32) × List (Nat → Int32))} {ld rs ns il : Int32}
theorem okB.hi {R : Nat → Int32} (o : okB R) : ∀ i, 62 ≤ i → R i = 0 := by
  obtain ⟨m, dk, lv, h⟩ := o
  obtain ⟨-, -, -, -, -, -, -, -, -, h10, -⟩ := h
  exact h10
/-- another realm, past or images: law, book and counts are as they were -/
theorem MI.re {ι' : Nat → Nat → Int32} {R' : Nat → Int32} {H' : List (Nat → Int32)} {G' : List ((Nat → Int32) × List (Nat → Int32))} {rs' : Int32} (i : MI Z h ι b n pl R C K H G ld rs ns il) (ei : ∀ a, a = b + 2 ∨ a = b + 4 ∨ (b + 24 ≤ a ∧ a < b + 184) ∨ (b + 346 ≤ a ∧ a < b + 354) → ι' a = ι a) (e7 : ∀ q, 62 ≤ q → ι' (b + 447) q = ι (b + 447) q) (ef : ∀ k, k = 1 ∨ k = 3 ∨ k = 15 ∨ k = 29 → ι' b k = ι b k) (hx : okX n R' C K H' G') (hr : ι' (b + 446) = R') (hb : bfI ι' b H') (hk : ∀ j, j < G'.length → ktI (ι' (b + (466 + j))) (G'.getD j (R00, []))) (g30 : ι' b 30 = nI H'.length) (g31 : ι' b 31 = rs') (g32 : ι' b 32 = nI G'.length) : MI Z h ι' b n pl R' C K H' G' ld rs' ns il := by
  obtain ⟨i1, i2, i3, i4, i5, i6, i7, i8, i9, i10, f1, f2, f3, f4, f5, f6, f7, f8⟩ := i
  exact ⟨i1, i2, i3, hx, i5.ag (ef 15 (by omega)) (fun j hj => ei _ (by omega)), i6.ag (ef 29 (by omega)) (fun j hj => ei _ (by omega)), hr, fun q hq => (e7 q hq).trans (i8 q hq), hb, hk, by rw [ef 1 (by omega)]; exact f1, by rw [ef 3 (by omega)]; exact f2, g30, g31, g32, by rw [ei _ (by omega)]; exact f6, by rw [ei _ (by omega)]; exact f7, by rw [ei _ (by omega)]; exact f8⟩
theorem mi_undo0 (i : MI Z h ι b n pl R C K [] G ld rs ns il) : rz_f Z (d + 2) 233 [.ref b] (rz_mk h ι, w) = some (.inl (some (.int (-1))), (rz_mk h (rz_up ι b 0 0), w)) := by
  obtain ⟨i1, i2, i3, i4, i5, i6, i7, i8, i9, i10, f1, f2, f3, f4, f5, f6, f7, f8⟩ := i
  have f3' : ι b 30 = 0 := f3
  rw [e233]
  simp (decide := true) (maxDischargeDepth := 4) only [g233_0, g233_1, g233_2, g233_5, g233_6, g233_9, g233_12, g233_13, g233_14, g233_15, g233_16, g233_19, g233_20, g233_21, g233_24, g233_25, g233_28, g233_29, g233_32, g233_33, g233_34, g233_37, g233_40, g233_41, g233_42, g233_45, g233_46, g233_49, rz_k_inl, rz_k_inr, Option.toList_some, Option.toList_none, List.cons_append, List.nil_append, List.append_nil, rz_up_s, rz_u_s, rz_up_n, rz_u_n, ne_eq, not_false_eq_true, not_true_eq_false, Nat.add_assoc, Nat.reduceAdd, reduceIte, Nat.add_eq_left, Nat.left_eq_add, Nat.add_left_cancel_iff, Nat.reduceEqDiff, Nat.add_right_cancel_iff, rz_nb0, rz_nb1, rz_nbb, rz_nbi, rz_isr, rz_zle, if_true, if_false, rz_bi0, rz_bi1, Bool.not_eq_true, Bool.not_eq_false, Bool.true_eq_false, Bool.false_eq_true, rz_ix_lit, cl_lit, Nat.reduceLT, bi_t, bi_f, decide_true, decide_false, Bool.not_false, Bool.not_true, Bool.and_true, Bool.true_and, Bool.and_false, Bool.false_and, oMd_c, oMd_i0, oMd_i1, oMd_i2, oMd_i3, oMd_i4, oMd_i5, oMd_i6, oMd_i7, oMd_i8, oMd_f9, oMd_v9, oMd_f10, oMd_v10, oMd_f11, oMd_v11, oMd_f12, oMd_v12, oMd_f13, oMd_v13, oMd_f14, oMd_v14, oMd_i15, oMd_i16, oMd_f17, oMd_v17, oMd_f18, oMd_v18, oMd_f19, oMd_v19, oMd_f20, oMd_v20, oMd_f21, oMd_v21, oMd_f22, oMd_v22, oMd_f23, oMd_v23, oMd_i24, oMd_f25, oMd_v25, oMd_f26, oMd_v26, oMd_f27, oMd_v27, oMd_f28, oMd_v28, oMd_i29, oMd_i30, oMd_i31, oMd_i32, oMd_i33, oMd_i34, oMd_i35, oMd_f36, oMd_v36, oMd_f37, oMd_v37, oMd_f38, oMd_v38, oMd_i39, oMd_f40, oMd_v40, oMd_f41, oMd_v41, oMd_i42, oMd_f43, oMd_v43, oMd_i44, oMd_a1, oMd_n1, oMd_a2, oMd_n2, oMd_a3, oMd_n3, oMd_a4, oMd_n4, oMd_a363, oMd_n363, oMd_a364, oMd_n364, oMd_a446, oMd_n446, oMd_a447, oMd_n447, oMd_a469, oMd_n469, oMd_a470, oMd_n470, oMd_a471, oMd_n471, oMd_a472, oMd_n472, oMd_a473, oMd_n473, oMd_a5, oMd_n5, oMd_e5, oMd_ra5, oMd_rn5, oMd_a14, oMd_n14, oMd_e14, oMd_ra14, oMd_rn14, oMd_a23, oMd_n23, oMd_e23, oMd_ra23, oMd_rn23, oMd_a184, oMd_n184, oMd_e184, oMd_ra184, oMd_rn184, oMd_a345, oMd_n345, oMd_e345, oMd_ra345, oMd_rn345, oMd_a354, oMd_n354, oMd_e354, oMd_ra354, oMd_rn354, oMd_a365, oMd_n365, oMd_e365, oMd_ra365, oMd_rn365, oMd_a448, oMd_n448, oMd_e448, oMd_ra448, oMd_rn448, oMd_a465, oMd_n465, oMd_e465, oMd_ra465, oMd_rn465, i2, i1, f3']
theorem mi_undo1 {R' : Nat → Int32} (i : MI Z h ι b n pl R C K (R' :: H) G ld rs ns il) : ∃ ι', rz_f Z (d + 2) 233 [.ref b] (rz_mk h ι, w) = some (.inl (some (.int (nI H.length))), (rz_mk h ι', w)) ∧ MI Z h ι' b n pl R' C K H G ld 0 ns il ∧ mdF b h h ι ι' ∧ ι' b 0 = 0 ∧ ι' (b + 1) = ι (b + 1) := by
  have ii := i
  obtain ⟨i1, i2, i3, ⟨x1, x2, x3, x4, x5, x6, x7, x8⟩, i5, i6, i7, i8, ⟨b1, b2⟩, i10, f1, f2, f3, f4, f5, f6, f7, f8⟩ := i
  have hl : H.length < 16 := x5
  have e0 : ι (b + (449 + H.length)) = R' := by
    have := b2 H.length (Nat.lt_succ_self _)
    rw [this]
    show (R' :: H).getD (H.length + 1 - 1 - H.length) R00 = R'
    rw [show H.length + 1 - 1 - H.length = 0 by omega]; rfl
  have hR' : okB R' := x6 R' (List.mem_cons_self ..)
  have f3' : ι b 30 - 1 = nI H.length := by
    rw [f3]
    show nI (H.length + 1) - 1 = nI H.length
    rw [nI_succ]; exact Int32.add_sub_cancel _ _
  have f30 : ¬ (ι b 30 = 0) := by
    rw [f3]
    show ¬ (nI (H.length + 1) = 0)
    rw [show (0 : Int32) = nI 0 from rfl, nI_eq2 (by omega) (by omega)]; omega
  have ix : rz_ix (nI H.length) 16 := rz_ix_nat (by omega) (by omega)
  have cl : (nI H.length).toNatClampNeg = H.length := nI_cl (by omega)
  obtain ⟨ι2, J2⟩ : ∃ y, y = rz_up (rz_up ι b 0 0) b 30 (nI H.length) := ⟨_, rfl⟩
  have g2 : ∀ a, a ≠ b → ι2 a = ι a := fun a ha => by rw [J2, rz_up_n ha, rz_up_n ha]
  have s30 : ι2 b 30 = nI H.length := by rw [J2, rz_up_s, rz_u_s]
  have cp := md_copies (Z := Z) (d := d) (ι := ι2) (w := w) (x := b + (449 + H.length)) (y := b + 446) (⟨oMd_ra448 i2 hl, oMd_rn448 i2 hl⟩ : oRow h _) (⟨oMd_a446 i2, oMd_n446 i2⟩ : oRow h _) (by omega) (by omega)
  rw [g2 _ (by omega), g2 _ (by omega), e0, i7, cpK_all (fun q hq => by rw [hR'.hi q hq, x2.hi q hq])] at cp
  refine ⟨rz_up (rz_rw ι2 (b + 446) R') b 31 0, ?_, ?_, fun a ha => ⟨rfl, ?_⟩, ?_, ?_⟩
  · rw [e233]
    simp (decide := true) (maxDischargeDepth := 4) only [g233_0, g233_1, g233_2, g233_5, g233_6, g233_9, g233_12, g233_13, g233_14, g233_15, g233_16, g233_19, g233_20, g233_21, g233_24, g233_25, g233_28, g233_29, g233_32, g233_33, g233_34, g233_37, g233_40, g233_41, g233_42, g233_45, g233_46, g233_49, rz_k_inl, rz_k_inr, Option.toList_some, Option.toList_none, List.cons_append, List.nil_append, List.append_nil, rz_up_s, rz_u_s, rz_up_n, rz_u_n, ne_eq, not_false_eq_true, not_true_eq_false, Nat.add_assoc, Nat.reduceAdd, reduceIte, Nat.add_eq_left, Nat.left_eq_add, Nat.add_left_cancel_iff, Nat.reduceEqDiff, Nat.add_right_cancel_iff, rz_nb0, rz_nb1, rz_nbb, rz_nbi, rz_isr, rz_zle, if_true, if_false, rz_bi0, rz_bi1, Bool.not_eq_true, Bool.not_eq_false, Bool.true_eq_false, Bool.false_eq_true, rz_ix_lit, cl_lit, Nat.reduceLT, bi_t, bi_f, decide_true, decide_false, Bool.not_false, Bool.not_true, Bool.and_true, Bool.true_and, Bool.and_false, Bool.false_and, oMd_c, oMd_i0, oMd_i1, oMd_i2, oMd_i3, oMd_i4, oMd_i5, oMd_i6, oMd_i7, oMd_i8, oMd_f9, oMd_v9, oMd_f10, oMd_v10, oMd_f11, oMd_v11, oMd_f12, oMd_v12, oMd_f13, oMd_v13, oMd_f14, oMd_v14, oMd_i15, oMd_i16, oMd_f17, oMd_v17, oMd_f18, oMd_v18, oMd_f19, oMd_v19, oMd_f20, oMd_v20, oMd_f21, oMd_v21, oMd_f22, oMd_v22, oMd_f23, oMd_v23, oMd_i24, oMd_f25, oMd_v25, oMd_f26, oMd_v26, oMd_f27, oMd_v27, oMd_f28, oMd_v28, oMd_i29, oMd_i30, oMd_i31, oMd_i32, oMd_i33, oMd_i34, oMd_i35, oMd_f36, oMd_v36, oMd_f37, oMd_v37, oMd_f38, oMd_v38, oMd_i39, oMd_f40, oMd_v40, oMd_f41, oMd_v41, oMd_i42, oMd_f43, oMd_v43, oMd_i44, oMd_a1, oMd_n1, oMd_a2, oMd_n2, oMd_a3, oMd_n3, oMd_a4, oMd_n4, oMd_a363, oMd_n363, oMd_a364, oMd_n364, oMd_a446, oMd_n446, oMd_a447, oMd_n447, oMd_a469, oMd_n469, oMd_a470, oMd_n470, oMd_a471, oMd_n471, oMd_a472, oMd_n472, oMd_a473, oMd_n473, oMd_a5, oMd_n5, oMd_e5, oMd_ra5, oMd_rn5, oMd_a14, oMd_n14, oMd_e14, oMd_ra14, oMd_rn14, oMd_a23, oMd_n23, oMd_e23, oMd_ra23, oMd_rn23, oMd_a184, oMd_n184, oMd_e184, oMd_ra184, oMd_rn184, oMd_a345, oMd_n345, oMd_e345, oMd_ra345, oMd_rn345, oMd_a354, oMd_n354, oMd_e354, oMd_ra354, oMd_rn354, oMd_a365, oMd_n365, oMd_e365, oMd_ra365, oMd_rn365, oMd_a448, oMd_n448, oMd_e448, oMd_ra448, oMd_rn448, oMd_a465, oMd_n465, oMd_e465, oMd_ra465, oMd_rn465, i2, i1, f30, f3', ix, cl, ← J2, cp, rz_rw_n (show b ≠ b + 446 by omega), s30]
  · refine ii.re (fun a ha => ?_) (fun q hq => ?_) (fun k hk => ?_) ⟨x1, hR', x3, x4, by omega, fun y hy => x6 y (List.mem_cons_of_mem _ hy), x7, x8⟩ ?_ ⟨fun j hj q hq => ?_, fun j hj => ?_⟩ (fun j hj => ?_) ?_ ?_ ?_
    · rw [rz_up_n (by omega), rz_rw_n (by omega)]; exact g2 a (by omega)
    · rw [rz_up_n (by omega), rz_rw_n (by omega), g2 _ (by omega)]
    · rw [rz_up_s, rz_u_n (by omega), rz_rw_n (by omega), J2, rz_up_s, rz_u_n (by omega), rz_up_s, rz_u_n (by omega)]
    · rw [rz_up_n (by omega), rz_rw_s]
    · rw [rz_up_n (by omega), rz_rw_n (by omega), g2 _ (by omega)]; exact b1 j hj q hq
    · rw [rz_up_n (by omega), rz_rw_n (by omega), g2 _ (by omega), b2 j (by simp only [List.length_cons]; omega)]
      show (R' :: H).getD (H.length + 1 - 1 - j) R00 = _
      rw [show H.length + 1 - 1 - j = (H.length - 1 - j) + 1 by omega, List.getD_cons_succ]
    · rw [rz_up_n (by omega), rz_rw_n (by omega), g2 _ (by omega)]; exact i10 j hj
    · rw [rz_up_s, rz_u_n (by omega), rz_rw_n (by omega)]; exact s30
    · rw [rz_up_s, rz_u_s]
    · rw [rz_up_s, rz_u_n (by omega), rz_rw_n (by omega), J2, rz_up_s, rz_u_n (by omega), rz_up_s, rz_u_n (by omega)]; exact f5
  · rw [rz_up_n (by omega), rz_rw_n (by omega)]; exact g2 a (by omega)
  · rw [rz_up_s, rz_u_n (by omega), rz_rw_n (by omega), J2, rz_up_s, rz_u_n (by omega), rz_up_s, rz_u_s]
  · rw [rz_up_n (by omega), rz_rw_n (by omega)]; exact g2 _ (by omega)
end MI2
