/-! FarthestHeir: centuries -/
def inC (x y z : Int32) : Bool := !decide (x < y) && !decide (z < x)
section CLASS6
variable {Z : rx_Z} {d : Nat} {h : Nat → Option rx_E} {ι : Nat → Nat → Int32} {w : Nat × Nat} {c l r m lv : Nat} {C : List (Nat × Nat)} {R : Nat → Int32} {dk : Option Nat}
theorem ch_drawn {a : Nat} (ha : oCh h a) (hz : Z.2.1 ≤ a) (x : Int32) : rz_f Z (d + 1) 8 [.ref a, .int x] (rz_mk h ι, w) = some (.inl (some (.int (nI (vN (lcg (ι a 0))) &&& (x - 1)))), (rz_mk h (rz_up ι a 0 (lcg (ι a 0))), w)) := by
  rw [e8]
  simp (decide := true) (maxDischargeDepth := 4) only [g8_0, g8_1, g8_2, g8_5, g8_7, g8_8, g8_11, g8_12, g8_15, g8_16, g8_19, g8_21, g8_22, g8_25, g8_26, g8_27, g8_28, g8_29, g8_30, rz_k_inl, rz_k_inr, Option.toList_some, Option.toList_none, List.cons_append, List.nil_append, List.append_nil, rz_up_s, rz_u_s, rz_up_n, rz_u_n, ne_eq, not_false_eq_true, not_true_eq_false, Nat.add_assoc, Nat.reduceAdd, reduceIte, Nat.add_eq_left, Nat.left_eq_add, Nat.add_left_cancel_iff, Nat.reduceEqDiff, Nat.add_right_cancel_iff, rz_nb0, rz_nb1, rz_nbb, rz_nbi, rz_isr, rz_zle, if_true, if_false, rz_bi0, rz_bi1, Bool.not_eq_true, Bool.not_eq_false, Bool.true_eq_false, Bool.false_eq_true, rz_ix_lit, cl_lit, Nat.reduceLT, bi_t, bi_f, decide_true, decide_false, Bool.not_false, Bool.not_true, Bool.and_true, Bool.true_and, Bool.and_false, Bool.false_and, oCh_c, oCh_i0, ha, hz]
  rw [show ι a 0 * 1103515245 + 12345 = lcg (ι a 0) from rfl, vN_u]
theorem ch_run (q : QC Z h ι c l r C R m dk lv) (T : Nat → Int32) {mT : Nat} {dT : Option Nat} (hT : rl ι (c + 27) = T) (wT : wkR T mT dT) (s y : Int32) {n : Nat} (hn : n ≤ 96) : ∃ ι', rz_f Z (d + 6) 7 [.ref (c + 31), .ref (c + 27), .ref l, .int s, .int (nI n), .int y] (rz_mk h ι, w) = some (.inl none, (rz_mk h ι', w)) ∧ rl ι' (c + 27) = (cyN C y s T n).2 ∧ fr (scC c) ι ι' := by
  have qq := q
  obtain ⟨q1, ⟨pv, q2⟩, q3, q4, q5, q6, q7, q8, q9, q10, q11, q12, q13, q14⟩ := q
  have L := rz_loop (fun i (a : (Nat → Nat → Int32) × Option Value × Option Value) => rg Z (d + 5) rx_m7 8 [some (.ref (c + 31)), some (.ref (c + 27)), some (.ref l), some (.int s), some (.int (nI n)), some (.int y), some (.int (nI i)), a.2.1, a.2.2] [] (rz_mk h a.1, w)) n (fun i a => fr (scC c) ι a.1 ∧ rl a.1 (c + 27) = (cyN C y s T i).2 ∧ a.1 (c + 31) 0 = (cyN C y s T i).1) (by
    rintro i ⟨ι1, l7, l8⟩ hi ⟨hf, hR, hS⟩
    have hf : fr (scC c) ι ι1 := hf
    have hR : rl ι1 (c + 27) = (cyN C y s T i).2 := hR
    have hS : ι1 (c + 31) 0 = (cyN C y s T i).1 := hS
    have c1 : (nI i < nI n) = True := by rw [nI_lt2 (by omega) (by omega)]; simp [hi]
    obtain ⟨mi, di, wi⟩ := wT.cyN (C := C) (q := y) (s := s) i
    have hst : cyN C y s T (i + 1) = cyY C y (cyN C y s T i) := rfl
    generalize cyN C y s T i = X at *
    have n31 : ∀ (ι0 : Nat → Nat → Int32) (v : Int32), rl (rz_up ι0 (c + 31) 0 v) (c + 27) = rl ι0 (c + 27) := fun ι0 v => rl_eq (rz_up_n (by omega)) (rz_up_n (by omega)) (rz_up_n (by omega)) (rz_up_n (by omega))
    have sc31 : scC c (c + 31) := by unfold scC; omega
    -- two numbers drawn
    obtain ⟨s1, hs1⟩ : ∃ s1, s1 = lcg X.1 := ⟨_, rfl⟩
    obtain ⟨s2, hs2⟩ : ∃ s2, s2 = lcg s1 := ⟨_, rfl⟩
    obtain ⟨s3, hs3⟩ : ∃ s3, s3 = lcg s2 := ⟨_, rfl⟩
    obtain ⟨s4, hs4⟩ : ∃ s4, s4 = lcg s3 := ⟨_, rfl⟩
    have a8 : vN s1 % 8 < 8 := Nat.mod_lt _ (by decide)
    have b8 : vN s2 % 8 < 8 := Nat.mod_lt _ (by decide)
    have p8 : vN s4 % 8 < 8 := Nat.mod_lt _ (by decide)
    have dr1 := ch_drawn (Z := Z) (d := d + 4) (w := w) (ι := ι1) q11 (by omega) 8
    rw [hS, ← hs1, vN_8] at dr1
    have dr2 := ch_drawn (Z := Z) (d := d + 4) (w := w) (ι := rz_up ι1 (c + 31) 0 s1) q11 (by omega) 8
    rw [rz_up_s, rz_u_s, ← hs2, vN_8, rz_up_up] at dr2
    obtain ⟨ι2, hι2⟩ : ∃ ι2, ι2 = rz_up ι1 (c + 31) 0 s2 := ⟨_, rfl⟩
    rw [← hι2] at dr2
    have f2 : fr (scC c) ι ι2 := by rw [hι2]; exact hf.up sc31
    have R2 : rl ι2 (c + 27) = X.2 := by rw [hι2, n31]; exact hR
    obtain ⟨ι3, g1, g2, g3⟩ := rm_bear (Z := Z) (d := d + 2) (w := w) (ι := ι2) q10 (by omega) (by rw [R2]; exact wi.1) wi.2.1 a8 b8
    have hB : cyB X = (berR X.2 mi (vN s1 % 8) (vN s2 % 8)).getD X.2 := by unfold cyB; rw [wi.mo, hs2, hs1]
    rw [R2] at g1 g2
    rw [← hB] at g2
    have f3 := f2.trans (g3.mono (fun a ha => trP ha))
    have S3 : ι3 (c + 31) 0 = s2 := by rw [g3 (c + 31) (by unfold rlP; omega), hι2, rz_up_s, rz_u_s]
    have dr3 := ch_drawn (Z := Z) (d := d + 4) (w := w) (ι := ι3) q11 (by omega) 16
    rw [S3, ← hs3, vN_16] at dr3
    obtain ⟨ι4, hι4⟩ : ∃ ι4, ι4 = rz_up ι3 (c + 31) 0 s3 := ⟨_, rfl⟩
    rw [← hι4] at dr3
    have f4 : fr (scC c) ι ι4 := by rw [hι4]; exact f3.up sc31
    have R4 : rl ι4 (c + 27) = cyB X := by rw [hι4, n31]; exact g2
    obtain ⟨mb, wb, -⟩ := wi.ber (vN s1 % 8) (vN s2 % 8)
    rw [← hB] at wb
    by_cases hq : nI (vN s3 % 16) < y
    · have dr4 := ch_drawn (Z := Z) (d := d + 4) (w := w) (ι := ι4) q11 (by omega) 8
      have S4 : ι4 (c + 31) 0 = s3 := by rw [hι4, rz_up_s, rz_u_s]
      rw [S4, ← hs4, vN_8] at dr4
      obtain ⟨ι5, hι5⟩ : ∃ ι5, ι5 = rz_up ι4 (c + 31) 0 s4 := ⟨_, rfl⟩
      rw [← hι5] at dr4
      have f5 : fr (scC c) ι ι5 := by rw [hι5]; exact f4.up sc31
      have R5 : rl ι5 (c + 27) = cyB X := by rw [hι5, n31]; exact R4
      obtain ⟨u1, u2, u3, u4, u5, u6, u7, u8, u9, u10, u11, u12, u13, u14⟩ := qq.fr f5
      obtain ⟨ι6, k1, k2, k3⟩ := rm_bury (Z := Z) (d := d) (w := w) (ι := ι5) q10 (by omega) q5 (by omega) (by omega) u12 (by rw [R5]; exact wb.1) wb.2.1 p8
      rw [R5] at k1 k2
      have f6 := f5.trans (k3.mono (fun a ha => ha.elim (fun z => trP z) (fun z => scC_law q3 z)))
      obtain ⟨db, wd⟩ := wb.bur C p8
      rw [← k2] at wd
      obtain ⟨ι7, y1, y2, y3⟩ := rm_passYear (Z := Z) (d := d + 3) (w := w) (ι := ι6) q10 (by omega) wd.1 wd.2.1
      have S7 : ι7 (c + 31) 0 = s4 := by
        rw [y3 (c + 31) (by unfold rlP; omega), k3 (c + 31) (by unfold rlW rlP lwS; omega), hι5, rz_up_s, rz_u_s]
      refine ⟨(ι7, some (.int (nI (vN s1 % 8))), some (.int (nI (vN s2 % 8)))), ⟨f6.trans (y3.mono (fun a ha => trP ha)), ?_, ?_⟩, ?_⟩
      · show rl ι7 (c + 27) = _
        rw [y2, k2, hst]
        unfold cyY
        rw [← hs1, ← hs2, ← hs3, if_pos hq, ← hs4, wb.mo]
      · show ι7 (c + 31) 0 = _
        rw [S7, hst]
        unfold cyY
        rw [← hs1, ← hs2, ← hs3, if_pos hq]
        exact hs4
      · try dsimp only
        rw [g7_8]
        simp (decide := true) (maxDischargeDepth := 4) only [g7_0, g7_1, g7_2, g7_5, g7_6, g7_10, g7_12, g7_15, g7_16, g7_18, g7_21, g7_23, g7_24, g7_26, g7_29, g7_31, g7_32, g7_34, g7_36, g7_39, g7_40, g7_41, g7_43, g7_46, g7_48, g7_51, g7_52, g7_53, g7_55, g7_58, g7_59, g7_62, g7_63, g7_64, g7_67, g7_70, g7_73, rz_k_inl, rz_k_inr, Option.toList_some, Option.toList_none, List.cons_append, List.nil_append, List.append_nil, rz_up_s, rz_u_s, rz_up_n, rz_u_n, ne_eq, not_false_eq_true, not_true_eq_false, Nat.add_assoc, Nat.reduceAdd, reduceIte, Nat.add_eq_left, Nat.left_eq_add, Nat.add_left_cancel_iff, Nat.reduceEqDiff, Nat.add_right_cancel_iff, rz_nb0, rz_nb1, rz_nbb, rz_nbi, rz_isr, rz_zle, if_true, if_false, rz_bi0, rz_bi1, Bool.not_eq_true, Bool.not_eq_false, Bool.true_eq_false, Bool.false_eq_true, rz_ix_lit, cl_lit, Nat.reduceLT, bi_t, bi_f, decide_true, decide_false, Bool.not_false, Bool.not_true, Bool.and_true, Bool.true_and, Bool.and_false, Bool.false_and, oCh_c, oCh_i0, oRl_c, oRl_f0, oRl_v0, oRl_f1, oRl_v1, oRl_f2, oRl_v2, oRl_i3, oRl_i4, oRl_i5, oRl_i6, oRl_i7, oRl_i8, oRl_a1, oRl_n1, oRl_a2, oRl_n2, oRl_a3, oRl_n3, q10, q11, c1, dr1, dr2, g1, dr3, hq, dr4, k1, y1, nI_1]
    · obtain ⟨ι7, y1, y2, y3⟩ := rm_passYear (Z := Z) (d := d + 3) (w := w) (ι := ι4) q10 (by omega) (by rw [R4]; exact wb.1) wb.2.1
      have S7 : ι7 (c + 31) 0 = s3 := by
        rw [y3 (c + 31) (by unfold rlP; omega), hι4, rz_up_s, rz_u_s]
      refine ⟨(ι7, some (.int (nI (vN s1 % 8))), some (.int (nI (vN s2 % 8)))), ⟨f4.trans (y3.mono (fun a ha => trP ha)), ?_, ?_⟩, ?_⟩
      · show rl ι7 (c + 27) = _
        rw [y2, R4, hst]
        unfold cyY
        rw [← hs1, ← hs2, ← hs3, if_neg hq, wb.mo]
      · show ι7 (c + 31) 0 = _
        rw [S7, hst]
        unfold cyY
        rw [← hs1, ← hs2, ← hs3, if_neg hq]
      · try dsimp only
        rw [g7_8]
        simp (decide := true) (maxDischargeDepth := 4) only [g7_0, g7_1, g7_2, g7_5, g7_6, g7_10, g7_12, g7_15, g7_16, g7_18, g7_21, g7_23, g7_24, g7_26, g7_29, g7_31, g7_32, g7_34, g7_36, g7_39, g7_40, g7_41, g7_43, g7_46, g7_48, g7_51, g7_52, g7_53, g7_55, g7_58, g7_59, g7_62, g7_63, g7_64, g7_67, g7_70, g7_73, rz_k_inl, rz_k_inr, Option.toList_some, Option.toList_none, List.cons_append, List.nil_append, List.append_nil, rz_up_s, rz_u_s, rz_up_n, rz_u_n, ne_eq, not_false_eq_true, not_true_eq_false, Nat.add_assoc, Nat.reduceAdd, reduceIte, Nat.add_eq_left, Nat.left_eq_add, Nat.add_left_cancel_iff, Nat.reduceEqDiff, Nat.add_right_cancel_iff, rz_nb0, rz_nb1, rz_nbb, rz_nbi, rz_isr, rz_zle, if_true, if_false, rz_bi0, rz_bi1, Bool.not_eq_true, Bool.not_eq_false, Bool.true_eq_false, Bool.false_eq_true, rz_ix_lit, cl_lit, Nat.reduceLT, bi_t, bi_f, decide_true, decide_false, Bool.not_false, Bool.not_true, Bool.and_true, Bool.true_and, Bool.and_false, Bool.false_and, oCh_c, oCh_i0, oRl_c, oRl_f0, oRl_v0, oRl_f1, oRl_v1, oRl_f2, oRl_v2, oRl_i3, oRl_i4, oRl_i5, oRl_i6, oRl_i7, oRl_i8, oRl_a1, oRl_n1, oRl_a2, oRl_n2, oRl_a3, oRl_n3, q10, q11, c1, dr1, dr2, g1, dr3, hq, y1, nI_1]) n 0 (rz_up ι (c + 31) 0 s, none, none) (by omega) ⟨(fr.refl ι).up (by unfold scC; omega), (rl_eq (rz_up_n (by omega)) (rz_up_n (by omega)) (rz_up_n (by omega)) (rz_up_n (by omega))).trans hT, by show rz_up ι (c + 31) 0 s (c + 31) 0 = s; rw [rz_up_s, rz_u_s]⟩
  obtain ⟨⟨ι1, l7, l8⟩, ⟨hf, hR, hS⟩, L⟩ := L
  try dsimp only at L
  have cn : (nI n < nI n) = False := by rw [nI_lt2 (by omega) (by omega)]; simp
  refine ⟨ι1, ?_, hR, hf⟩
  rw [e7]
  simp (decide := true) (maxDischargeDepth := 4) only [g7_0, g7_1, g7_2, g7_5, g7_6, g7_10, g7_12, g7_15, g7_16, g7_18, g7_21, g7_23, g7_24, g7_26, g7_29, g7_31, g7_32, g7_34, g7_36, g7_39, g7_40, g7_41, g7_43, g7_46, g7_48, g7_51, g7_52, g7_53, g7_55, g7_58, g7_59, g7_62, g7_63, g7_64, g7_67, g7_70, g7_73, rz_k_inl, rz_k_inr, Option.toList_some, Option.toList_none, List.cons_append, List.nil_append, List.append_nil, rz_up_s, rz_u_s, rz_up_n, rz_u_n, ne_eq, not_false_eq_true, not_true_eq_false, Nat.add_assoc, Nat.reduceAdd, reduceIte, Nat.add_eq_left, Nat.left_eq_add, Nat.add_left_cancel_iff, Nat.reduceEqDiff, Nat.add_right_cancel_iff, rz_nb0, rz_nb1, rz_nbb, rz_nbi, rz_isr, rz_zle, if_true, if_false, rz_bi0, rz_bi1, Bool.not_eq_true, Bool.not_eq_false, Bool.true_eq_false, Bool.false_eq_true, rz_ix_lit, cl_lit, Nat.reduceLT, bi_t, bi_f, decide_true, decide_false, Bool.not_false, Bool.not_true, Bool.and_true, Bool.true_and, Bool.and_false, Bool.false_and, oCh_c, oCh_i0, q11, Nat.le_add_right_of_le, q1]
  refine L.trans ?_
  rw [g7_8]
  simp (decide := true) (maxDischargeDepth := 4) only [g7_0, g7_1, g7_2, g7_5, g7_6, g7_10, g7_12, g7_15, g7_16, g7_18, g7_21, g7_23, g7_24, g7_26, g7_29, g7_31, g7_32, g7_34, g7_36, g7_39, g7_40, g7_41, g7_43, g7_46, g7_48, g7_51, g7_52, g7_53, g7_55, g7_58, g7_59, g7_62, g7_63, g7_64, g7_67, g7_70, g7_73, rz_k_inl, rz_k_inr, Option.toList_some, Option.toList_none, List.cons_append, List.nil_append, List.append_nil, rz_up_s, rz_u_s, rz_up_n, rz_u_n, ne_eq, not_false_eq_true, not_true_eq_false, Nat.add_assoc, Nat.reduceAdd, reduceIte, Nat.add_eq_left, Nat.left_eq_add, Nat.add_left_cancel_iff, Nat.reduceEqDiff, Nat.add_right_cancel_iff, rz_nb0, rz_nb1, rz_nbb, rz_nbi, rz_isr, rz_zle, if_true, if_false, rz_bi0, rz_bi1, Bool.not_eq_true, Bool.not_eq_false, Bool.true_eq_false, Bool.false_eq_true, rz_ix_lit, cl_lit, Nat.reduceLT, bi_t, bi_f, decide_true, decide_false, Bool.not_false, Bool.not_true, Bool.and_true, Bool.true_and, Bool.and_false, Bool.false_and, cn]
end CLASS6
