/-! the class: DUKEDOM -/
section CI8
variable {Z : rx_Z} {d : Nat} {h : Nat → Option rx_E} {ι : Nat → Nat → Int32} {w : Nat × Nat} {nx c b n : Nat} {pl : Int32} {R : Nat → Int32} {C K : List (Nat × Nat)} {H : List (Nat → Int32)} {G : List ((Nat → Int32) × List (Nat → Int32))} {ld rs ns il : Int32}
theorem ci_dukedom_no (i : CI Z h ι nx c b n pl R C K H G ld rs ns il) (x : Int32) (hx : x < 0 ∨ nI n < x) : refC Z (d + 8) h ι w c 121 [.int x] 0 := by
  obtain ⟨i1, i2, i3, i4, ⟨p1, -⟩, i6, ⟨f1, f2, f3, f4, f5, f6, -⟩, l, l', r, pv, d1, -⟩ := i
  have n0 := hr_need0 (Z := Z) (d := d + 6) (ι := ι) (w := w) d1 i1
  unfold refC
  rw [e121]
  by_cases h0 : x < 0
  · simp (decide := true) (maxDischargeDepth := 4) only [g121_0, g121_1, g121_2, g121_3, g121_4, g121_7, g121_10, g121_13, g121_16, g121_17, g121_20, g121_21, g121_24, g121_27, g121_28, g121_31, g121_32, g121_33, g121_36, g121_37, g121_40, g121_43, g121_44, g121_47, g121_50, g121_51, g121_52, g121_53, g121_56, g121_57, g121_58, g121_61, g121_64, g121_67, g121_68, g121_71, g121_74, g121_75, g121_78, g121_81, g121_82, g121_83, g121_86, g121_87, g121_90, g121_91, g121_92, g121_95, g121_96, g121_99, g121_102, rz_k_inl, rz_k_inr, Option.toList_some, Option.toList_none, List.cons_append, List.nil_append, List.append_nil, rz_up_s, rz_u_s, rz_up_n, rz_u_n, ne_eq, not_false_eq_true, not_true_eq_false, Nat.add_assoc, Nat.reduceAdd, reduceIte, Nat.add_eq_left, Nat.left_eq_add, Nat.add_left_cancel_iff, Nat.reduceEqDiff, Nat.add_right_cancel_iff, rz_nb0, rz_nb1, rz_nbb, rz_nbi, rz_isr, rz_zle, if_true, if_false, rz_bi0, rz_bi1, Bool.not_eq_true, Bool.not_eq_false, Bool.true_eq_false, Bool.false_eq_true, rz_ix_lit, cl_lit, Nat.reduceLT, bi_t, bi_f, decide_true, decide_false, Bool.not_false, Bool.not_true, Bool.and_true, Bool.true_and, Bool.and_false, Bool.false_and, oHr_c d1, oHr_f0 d1, oHr_v0 d1, oHr_f1 d1, oHr_v1 d1, oHr_f2 d1, oHr_v2 d1, oHr_f3 d1, oHr_v3 d1, oHr_f4 d1, oHr_v4 d1, oHr_f5 d1, oHr_v5 d1, oHr_f6 d1, oHr_v6 d1, oHr_f7 d1, oHr_v7 d1, oHr_f8 d1, oHr_v8 d1, oHr_f9 d1, oHr_v9 d1, oHr_f10 d1, oHr_v10 d1, oHr_f11 d1, oHr_v11 d1, oHr_f12 d1, oHr_v12 d1, oHr_i13 d1, oHr_i14 d1, oHr_i15 d1, oHr_i16 d1, oHr_i17 d1, oTp_c, oTp_f0, oTp_v0, oTp_i1, oTp_i2, oTp_i3, oTp_i4, oTp_i5, oTp_i6, oTp_a1, oTp_n1, p1, d1, hr_within, h0, f6, n0]
  · have h1 : nI n < x := hx.resolve_left h0
    simp (decide := true) (maxDischargeDepth := 4) only [g121_0, g121_1, g121_2, g121_3, g121_4, g121_7, g121_10, g121_13, g121_16, g121_17, g121_20, g121_21, g121_24, g121_27, g121_28, g121_31, g121_32, g121_33, g121_36, g121_37, g121_40, g121_43, g121_44, g121_47, g121_50, g121_51, g121_52, g121_53, g121_56, g121_57, g121_58, g121_61, g121_64, g121_67, g121_68, g121_71, g121_74, g121_75, g121_78, g121_81, g121_82, g121_83, g121_86, g121_87, g121_90, g121_91, g121_92, g121_95, g121_96, g121_99, g121_102, rz_k_inl, rz_k_inr, Option.toList_some, Option.toList_none, List.cons_append, List.nil_append, List.append_nil, rz_up_s, rz_u_s, rz_up_n, rz_u_n, ne_eq, not_false_eq_true, not_true_eq_false, Nat.add_assoc, Nat.reduceAdd, reduceIte, Nat.add_eq_left, Nat.left_eq_add, Nat.add_left_cancel_iff, Nat.reduceEqDiff, Nat.add_right_cancel_iff, rz_nb0, rz_nb1, rz_nbb, rz_nbi, rz_isr, rz_zle, if_true, if_false, rz_bi0, rz_bi1, Bool.not_eq_true, Bool.not_eq_false, Bool.true_eq_false, Bool.false_eq_true, rz_ix_lit, cl_lit, Nat.reduceLT, bi_t, bi_f, decide_true, decide_false, Bool.not_false, Bool.not_true, Bool.and_true, Bool.true_and, Bool.and_false, Bool.false_and, oHr_c d1, oHr_f0 d1, oHr_v0 d1, oHr_f1 d1, oHr_v1 d1, oHr_f2 d1, oHr_v2 d1, oHr_f3 d1, oHr_v3 d1, oHr_f4 d1, oHr_v4 d1, oHr_f5 d1, oHr_v5 d1, oHr_f6 d1, oHr_v6 d1, oHr_f7 d1, oHr_v7 d1, oHr_f8 d1, oHr_v8 d1, oHr_f9 d1, oHr_v9 d1, oHr_f10 d1, oHr_v10 d1, oHr_f11 d1, oHr_v11 d1, oHr_f12 d1, oHr_v12 d1, oHr_i13 d1, oHr_i14 d1, oHr_i15 d1, oHr_i16 d1, oHr_i17 d1, oTp_c, oTp_f0, oTp_v0, oTp_i1, oTp_i2, oTp_i3, oTp_i4, oTp_i5, oTp_i6, oTp_a1, oTp_n1, p1, d1, hr_within, h0, h1, f6, n0]
theorem ci_dukedom {e : Nat} (i : CI Z h ι nx c b n pl R C K H G ld rs ns il) (he : e ≤ n) (hw : nx ≤ w.1) : match dkS (ι (c + 2)) e 601 0 [] 0 10 0 with
    | .inl s => ∃ h' ι', rz_f Z (d + 8) 121 [.ref c, .int (nI e)] (rz_mk h ι, w) = some (.inl (some (.int (nI s.1.length))), (rz_mk h' ι', (w.1 + 4, w.2 + 65))) ∧ CI Z h' ι' (w.1 + 4) c b 0 (-1) (crnR (dkR s.1) (if s.1.length = 0 then -1 else nI s.2.1)) [] [] [] [] (nI s.2.2) 0 ns il ∧ clF b h h' ι ι' ∧ ι' (c + 2) = ι (c + 2)
    | .inr f => ∃ h' ι', rz_f Z (d + 8) 121 [.ref c, .int (nI e)] (rz_mk h ι, w) = some (.inl (some (.int (nI f.1 - 10))), (rz_mk h' ι', (w.1 + 4, w.2 + 65))) ∧ CI Z h' ι' (w.1 + 4) c b 0 (nI f.2) R C K H G ld rs ns il ∧ clF b h h' ι ι' ∧ ι' (c + 2) = ι (c + 2) := by
  have ii := i
  obtain ⟨i1, i2, i3, i4, i5, i6, ⟨f1, f2, f3, f4, f5, f6, f7, f8, f9, f10⟩, l, l', r, pv, d1, d2, d3, d4, d5, d6, d7⟩ := i
  obtain ⟨p1, p2, p3, p4, p5, p6, p7, p8, p9, p10⟩ := i5
  have hn6 : n ≤ 600 := i6.1
  have ol : oLw h l := by
    rcases d2 with ⟨z, -⟩ | ⟨z, -⟩
    · rw [z]; exact p9
    · rw [z]; exact p10
  have n1 := hr_need1 (Z := Z) (d := d + 6) (ι := ι) (w := w) d1
  have m0 : ¬ nI e < 0 := by rw [nI_nn (by omega)]; exact not_false
  have m1 : ¬ nI n < nI e := by rw [nI_lt2 (by omega) (by omega)]; omega
  obtain ⟨ι1, b1, B1, B2, B3, B4, B5, B6⟩ := tp_beginE (Z := Z) (d := d + 6) (ι := ι) (w := w) p1 (show Z.2.1 ≤ c + 1 by omega) (show e ≤ 600 by omega)
  obtain ⟨h2, E2⟩ : ∃ y, y = rx_up h w.1 (.inr (8, rx_df 8)) := ⟨_, rfl⟩
  obtain ⟨ι2, J2⟩ : ∃ y, y = rz_z ι1 w.1 := ⟨_, rfl⟩
  obtain ⟨h3, ι3, y1, y2, y3, y4⟩ := rm_init (Z := Z) (d := d + 6) (h := h2) (ι := ι2) (a := w.1) (s := w.2 + 9) (by omega) (by rw [E2]; exact rx_up_self _ _ _)
  have g3 : ∀ x, x < nx → h3 x = h x ∧ ι3 x = ι1 x := fun x hx => ⟨by rw [(y4 x (by omega)).1, E2, up_ne (by omega)], by rw [(y4 x (by omega)).2, J2, zz_ne (by omega)]⟩
  have q3 : oHr h3 c l r pv := hr_at d1 (g3 c (by omega)).1
  have p13 : oTp h3 (c + 1) := ⟨by rw [(g3 _ (by omega)).1]; exact p1.1, by rw [(g3 _ (by omega)).1]; exact p1.2⟩
  have p23 : oDk h3 (c + 3) (c + 1) := by show h3 (c + 3) = _; rw [(g3 _ (by omega)).1]; exact p2
  have e2 : ι3 (c + 1 + 1) = ι (c + 2) := ((g3 _ (by omega)).2).trans (B6 _ (by omega))
  have ol3 : olI Z h3 ι3 := i4.ag (fun a ha => ⟨(g3 a (by omega)).1, (g3 a (by omega)).2.trans (B6 a (by omega))⟩)
  have rd := dk_reads (d := d) (w := (w.1 + 4, w.2 + 9 + 56)) (ι := ι3) (e := e) ol3.st (⟨p23, p13, y2, by omega, by omega, by omega⟩ : dkO Z h3 (c + 1) (c + 3) w.1) (by rw [(g3 _ (by omega)).2]; exact B1) (by rw [(g3 _ (by omega)).2]; exact B2) (by omega) (fun x => by rw [e2]; exact f10 x) y3
  rw [e2] at rd
  cases hX : dkS (ι (c + 2)) e 601 0 [] 0 10 0 with
  | inr f =>
    rw [hX] at rd
    obtain ⟨ι4, r1, ⟨t1, t2, t3⟩, t4, t5⟩ := rd
    have e4 : ∀ x, x < nx → x ≠ c + 1 → x ≠ c + 3 → ι4 x = ι x := fun x h0 h1 h2 => ((t1 x h1 (by unfold rlP; omega)).trans (g3 x h0).2).trans (B6 x h1)
    have v1 := tp_verdict (Z := Z) (d := d + 6) (w := (w.1 + 4, w.2 + 9 + 56)) (ι := ι4) p13
    rw [t4] at v1
    have k : agK h h3 ι ι4 nx c b := fun a a1 ha => ⟨(g3 a ha).1, e4 a ha (by omega) (by omega)⟩
    have ec := e4 c (by omega) (by omega) (by omega)
    obtain ⟨o1, o2⟩ := i6
    refine ⟨h3, ι4, ?_, ii.re2 (show nx ≤ w.1 + 4 by omega) (fun a a1 _ _ => (g3 a a1).1) (fun a ha => e4 a (by omega) (by omega) (by omega)) (r' := r) (pv' := pv) (fun l0 r0 pv0 ho => ?_) (d5.ag k (by omega)) (chI.ag k (by omega) H pv d6) (d7.ag k (by omega) (g3 _ (by omega)).1) ⟨by omega, o2⟩ ⟨by rw [ec]; exact f1, by rw [ec]; exact f2, by rw [ec]; exact f3, by rw [ec]; exact f4, by rw [ec]; exact f5, ?_, t5, fun q hq => by rw [e4 _ (by omega) (by omega) (by omega)]; exact f8 q hq, by rw [e4 _ (by omega) (by omega) (by omega)]; exact f9, fun x => by rw [e4 _ (by omega) (by omega) (by omega)]; exact f10 x⟩, fun a a1 a2 => ⟨(g3 a (by omega)).1, e4 a (by omega) (by omega) (by omega)⟩, e4 _ (by omega) (by omega) (by omega)⟩
    · rw [e121]
      simp (decide := true) (maxDischargeDepth := 4) only [g121_0, g121_1, g121_2, g121_3, g121_4, g121_7, g121_10, g121_13, g121_16, g121_17, g121_20, g121_21, g121_24, g121_27, g121_28, g121_31, g121_32, g121_33, g121_36, g121_37, g121_40, g121_43, g121_44, g121_47, g121_50, g121_51, g121_52, g121_53, g121_56, g121_57, g121_58, g121_61, g121_64, g121_67, g121_68, g121_71, g121_74, g121_75, g121_78, g121_81, g121_82, g121_83, g121_86, g121_87, g121_90, g121_91, g121_92, g121_95, g121_96, g121_99, g121_102, rz_k_inl, rz_k_inr, Option.toList_some, Option.toList_none, List.cons_append, List.nil_append, List.append_nil, rz_up_s, rz_u_s, rz_up_n, rz_u_n, ne_eq, not_false_eq_true, not_true_eq_false, Nat.add_assoc, Nat.reduceAdd, reduceIte, Nat.add_eq_left, Nat.left_eq_add, Nat.add_left_cancel_iff, Nat.reduceEqDiff, Nat.add_right_cancel_iff, rz_nb0, rz_nb1, rz_nbb, rz_nbi, rz_isr, rz_zle, if_true, if_false, rz_bi0, rz_bi1, Bool.not_eq_true, Bool.not_eq_false, Bool.true_eq_false, Bool.false_eq_true, rz_ix_lit, cl_lit, Nat.reduceLT, bi_t, bi_f, decide_true, decide_false, Bool.not_false, Bool.not_true, Bool.and_true, Bool.true_and, Bool.and_false, Bool.false_and, oHr_c d1, oHr_f0 d1, oHr_v0 d1, oHr_f1 d1, oHr_v1 d1, oHr_f2 d1, oHr_v2 d1, oHr_f3 d1, oHr_v3 d1, oHr_f4 d1, oHr_v4 d1, oHr_f5 d1, oHr_v5 d1, oHr_f6 d1, oHr_v6 d1, oHr_f7 d1, oHr_v7 d1, oHr_f8 d1, oHr_v8 d1, oHr_f9 d1, oHr_v9 d1, oHr_f10 d1, oHr_v10 d1, oHr_f11 d1, oHr_v11 d1, oHr_f12 d1, oHr_v12 d1, oHr_i13 d1, oHr_i14 d1, oHr_i15 d1, oHr_i16 d1, oHr_i17 d1, oHr_c q3, oHr_f0 q3, oHr_v0 q3, oHr_f1 q3, oHr_v1 q3, oHr_f2 q3, oHr_v2 q3, oHr_f3 q3, oHr_v3 q3, oHr_f4 q3, oHr_v4 q3, oHr_f5 q3, oHr_v5 q3, oHr_f6 q3, oHr_v6 q3, oHr_f7 q3, oHr_v7 q3, oHr_f8 q3, oHr_v8 q3, oHr_f9 q3, oHr_v9 q3, oHr_f10 q3, oHr_v10 q3, oHr_f11 q3, oHr_v11 q3, oHr_f12 q3, oHr_v12 q3, oHr_i13 q3, oHr_i14 q3, oHr_i15 q3, oHr_i16 q3, oHr_i17 q3, oTp_c, oTp_f0, oTp_v0, oTp_i1, oTp_i2, oTp_i3, oTp_i4, oTp_i5, oTp_i6, oTp_a1, oTp_n1, oDk_c p23, oDk_f0 p23, oDk_v0 p23, oDk_i1 p23, oDk_i2 p23, oDk_i3 p23, p1, p13, d1, hr_within, f6, m0, m1, n1, b1, ← E2, ← J2, y1, r1, v1]
    · obtain ⟨a1, a2, a3⟩ := d1.inj ho
      rw [a1]
      exact ⟨q3, by rw [e4 _ (by omega) (by omega) (by omega)]; exact d4.1, fun j hj => by rw [e4 _ (by omega) (by omega) (by omega)]; exact d4.2.1 j hj, d4.2.2⟩
    · rw [t3, (g3 _ (by omega)).2, B5]; rfl
  | inl s =>
    rw [hX] at rd
    obtain ⟨ι4, r1, ⟨t1, t2, t3⟩, t4, t5, t6, t7⟩ := rd
    have hW := dkS_W 601 0 [] 0 10 0 s (Nat.zero_le _) ⟨by decide, fun q hq => (by cases hq), Or.inl rfl, by decide⟩ hX
    obtain ⟨dq, hok⟩ := okR_dk hW
    have e4 : ∀ x, x < nx → x ≠ c + 1 → x ≠ c + 3 → ι4 x = ι x := fun x h0 h1 h2 => ((t1 x h1 (by unfold rlP; omega)).trans (g3 x h0).2).trans (B6 x h1)
    obtain ⟨h5, E5⟩ : ∃ y, y = rz_hs h3 c 11 (.ref w.1) := ⟨_, rfl⟩
    have q5 : oHr h5 c l w.1 pv := by rw [E5]; exact hr_11 q3
    have g5 : ∀ x, x ≠ c → h5 x = h3 x := fun x hx => by rw [E5, hs_ne hx]
    obtain ⟨ι5, J5⟩ : ∃ y, y = rz_up ι4 c 14 (nI s.2.2) := ⟨_, rfl⟩
    have j5 : ∀ x, x ≠ c → ι5 x = ι4 x := fun x hx => by rw [J5, rz_up_n hx]
    have ol5 : oLw h5 l := by
      obtain ⟨a1, a2, a3, a4⟩ := ol
      exact ⟨by rw [g5 _ (by omega), (g3 _ (by omega)).1]; exact a1, by rw [g5 _ (by omega), (g3 _ (by omega)).1]; exact a2, by rw [g5 _ (by omega), (g3 _ (by omega)).1]; exact a3, by rw [g5 _ (by omega), (g3 _ (by omega)).1]; exact a4⟩
    have ob5 : oBk h5 (c + 13) := by
      obtain ⟨a1, a2, a3⟩ := p4
      exact ⟨by rw [g5 _ (by omega), (g3 _ (by omega)).1]; exact a1, by rw [g5 _ (by omega), (g3 _ (by omega)).1]; exact a2, by rw [g5 _ (by omega), (g3 _ (by omega)).1]; exact a3⟩
    have oo5 : olI Z h5 ι5 := i4.ag (fun a ha => ⟨(g5 a (by omega)).trans (g3 a (by omega)).1, (j5 a (by omega)).trans (e4 a (by omega) (by omega) (by omega))⟩)
    obtain ⟨ι6, u1, u2, u3⟩ := lw_usual (d := d + 6) (w := (w.1 + 4, w.2 + 9 + 56)) ol5 (show Z.2.1 ≤ l by omega) oo5
    obtain ⟨ι7, s1, s2, s3, s4⟩ := bk_empty (Z := Z) (d := d + 6) (ι := ι6) (w := (w.1 + 4, w.2 + 9 + 56)) ob5 (show Z.2.1 ≤ c + 13 by omega)
    obtain ⟨h6, E6⟩ : ∃ y, y = rz_hs h5 c 12 .null := ⟨_, rfl⟩
    have q6 : oHr h6 c l w.1 .null := by rw [E6]; exact hr_12 q5 rfl
    obtain ⟨gf, gf1, -⟩ := d7
    have a6 : h6 (c + 32) = some (.inl (2, 3, gf)) := by rw [E6, hs_ne (by omega), g5 _ (by omega), (g3 _ (by omega)).1]; exact gf1
    obtain ⟨h7, v1, ⟨f', v2, v3⟩, v4⟩ := ci_forget (Z := Z) (d := d + 6) (ι := ι7) (w := (w.1 + 4, w.2 + 9 + 56)) i1 q6 a6
    have q7 : oHr h7 c l w.1 .null := hr_at q6 (v4 c (by omega))
    have g7 : ∀ x, x ≠ c → x ≠ c + 32 → h7 x = h3 x := fun x h1 h2 => by rw [v4 x h2, E6, hs_ne h1]; exact g5 x h1
    have or7 : oRl h7 w.1 := y2.ag (fun a a1 a2 => g7 a (by omega) (by omega))
    have j7 : ∀ x, x ≠ c → x ≠ l → x ≠ l + 1 → x ≠ c + 13 → x ≠ c + 14 → ι7 x = ι4 x := fun x h1 h2 h3 h4 h5 => by rw [s4 x h4 h5, u3 x h2 h3]; exact j5 x h1
    have c7 : ι7 c = ι5 c := by rw [s4 c (by omega) (by omega), u3 c (by omega) (by omega)]
    have e7 : ∀ x, x < nx → x ≠ c → x ≠ c + 1 → x ≠ c + 3 → ¬ (c + 5 ≤ x ∧ x ≤ c + 14) → ¬ (c + 33 ≤ x ∧ x ≤ c + 36) → rz_up (rz_up ι7 c 13 0) c 15 0 x = ι x := fun x h0 h1 h2 h3 h4 h5 => by rw [rz_up_n h1, rz_up_n h1, j7 x h1 (by omega) (by omega) (by omega) (by omega)]; exact e4 x h0 h2 h3
    have r7 : rl ι7 w.1 = crnR (dkR s.1) (if s.1.length = 0 then -1 else nI s.2.1) := (rl_eq (j7 _ (by omega) (by omega) (by omega) (by omega) (by omega)) (j7 _ (by omega) (by omega) (by omega) (by omega) (by omega)) (j7 _ (by omega) (by omega) (by omega) (by omega) (by omega)) (j7 _ (by omega) (by omega) (by omega) (by omega) (by omega))).trans t7
    have r73 : ι7 w.1 3 = nI s.1.length := by
      have z := congrFun r7 57
      have z2 : rl ι7 w.1 57 = ι7 w.1 3 := rfl
      rw [← z2, z]; exact hok.1
    have ec4 : ι4 c = ι c := e4 c (by omega) (by omega) (by omega)
    have e5c : ∀ k, k ≠ 14 → ι7 c k = ι c k := fun k hk => by rw [c7, J5, rz_up_s, rz_u_n hk, ec4]
    have t6' : ι4 (c + 3) 3 = nI s.2.2 := t6
    refine ⟨h7, rz_up (rz_up ι7 c 13 0) c 15 0, ?_, ii.re2 (show nx ≤ w.1 + 4 by omega) (fun a a1 a2 a3 => (g7 a a2 a3).trans (g3 a a1).1) (fun a ha => e7 a (by omega) (by omega) (by omega) (by omega) (by omega) (by omega)) (r' := w.1) (pv' := .null) (fun l0 r0 pv0 ho => ?_) ⟨or7, ?_, by omega, by omega⟩ rfl ⟨f', v2, fun j hj => ⟨fun x hx => (by cases hx), fun _ => v3 j hj⟩⟩ ⟨by omega, ⟨_, _, _, hok⟩, Or.inl rfl, bkW_nil, by decide, fun x hx => (by cases hx), by decide, fun x hx => (by cases hx)⟩ ⟨?_, ?_, ?_, ?_, ?_, ?_, ?_, fun q hq => ?_, ?_, fun x => ?_⟩, fun a a1 a2 => ⟨(g7 a (by omega) (by omega)).trans (g3 a (by omega)).1, e7 a (by omega) (by omega) (by omega) (by omega) (by omega) (by omega)⟩, e7 _ (by omega) (by omega) (by omega) (by omega) (by omega) (by omega)⟩
    · have rr : rz_up (rz_up ι7 c 13 0) c 15 0 w.1 3 = nI s.1.length := by rw [rz_up_n (by omega), rz_up_n (by omega)]; exact r73
      rw [e121]
      simp (decide := true) (maxDischargeDepth := 4) only [g121_0, g121_1, g121_2, g121_3, g121_4, g121_7, g121_10, g121_13, g121_16, g121_17, g121_20, g121_21, g121_24, g121_27, g121_28, g121_31, g121_32, g121_33, g121_36, g121_37, g121_40, g121_43, g121_44, g121_47, g121_50, g121_51, g121_52, g121_53, g121_56, g121_57, g121_58, g121_61, g121_64, g121_67, g121_68, g121_71, g121_74, g121_75, g121_78, g121_81, g121_82, g121_83, g121_86, g121_87, g121_90, g121_91, g121_92, g121_95, g121_96, g121_99, g121_102, rz_k_inl, rz_k_inr, Option.toList_some, Option.toList_none, List.cons_append, List.nil_append, List.append_nil, rz_up_s, rz_u_s, rz_up_n, rz_u_n, ne_eq, not_false_eq_true, not_true_eq_false, Nat.add_assoc, Nat.reduceAdd, reduceIte, Nat.add_eq_left, Nat.left_eq_add, Nat.add_left_cancel_iff, Nat.reduceEqDiff, Nat.add_right_cancel_iff, rz_nb0, rz_nb1, rz_nbb, rz_nbi, rz_isr, rz_zle, if_true, if_false, rz_bi0, rz_bi1, Bool.not_eq_true, Bool.not_eq_false, Bool.true_eq_false, Bool.false_eq_true, rz_ix_lit, cl_lit, Nat.reduceLT, bi_t, bi_f, decide_true, decide_false, Bool.not_false, Bool.not_true, Bool.and_true, Bool.true_and, Bool.and_false, Bool.false_and, oHr_c d1, oHr_f0 d1, oHr_v0 d1, oHr_f1 d1, oHr_v1 d1, oHr_f2 d1, oHr_v2 d1, oHr_f3 d1, oHr_v3 d1, oHr_f4 d1, oHr_v4 d1, oHr_f5 d1, oHr_v5 d1, oHr_f6 d1, oHr_v6 d1, oHr_f7 d1, oHr_v7 d1, oHr_f8 d1, oHr_v8 d1, oHr_f9 d1, oHr_v9 d1, oHr_f10 d1, oHr_v10 d1, oHr_f11 d1, oHr_v11 d1, oHr_f12 d1, oHr_v12 d1, oHr_i13 d1, oHr_i14 d1, oHr_i15 d1, oHr_i16 d1, oHr_i17 d1, oHr_c q3, oHr_f0 q3, oHr_v0 q3, oHr_f1 q3, oHr_v1 q3, oHr_f2 q3, oHr_v2 q3, oHr_f3 q3, oHr_v3 q3, oHr_f4 q3, oHr_v4 q3, oHr_f5 q3, oHr_v5 q3, oHr_f6 q3, oHr_v6 q3, oHr_f7 q3, oHr_v7 q3, oHr_f8 q3, oHr_v8 q3, oHr_f9 q3, oHr_v9 q3, oHr_f10 q3, oHr_v10 q3, oHr_f11 q3, oHr_v11 q3, oHr_f12 q3, oHr_v12 q3, oHr_i13 q3, oHr_i14 q3, oHr_i15 q3, oHr_i16 q3, oHr_i17 q3, oHr_c q5, oHr_f0 q5, oHr_v0 q5, oHr_f1 q5, oHr_v1 q5, oHr_f2 q5, oHr_v2 q5, oHr_f3 q5, oHr_v3 q5, oHr_f4 q5, oHr_v4 q5, oHr_f5 q5, oHr_v5 q5, oHr_f6 q5, oHr_v6 q5, oHr_f7 q5, oHr_v7 q5, oHr_f8 q5, oHr_v8 q5, oHr_f9 q5, oHr_v9 q5, oHr_f10 q5, oHr_v10 q5, oHr_f11 q5, oHr_v11 q5, oHr_f12 q5, oHr_v12 q5, oHr_i13 q5, oHr_i14 q5, oHr_i15 q5, oHr_i16 q5, oHr_i17 q5, oHr_c q6, oHr_f0 q6, oHr_v0 q6, oHr_f1 q6, oHr_v1 q6, oHr_f2 q6, oHr_v2 q6, oHr_f3 q6, oHr_v3 q6, oHr_f4 q6, oHr_v4 q6, oHr_f5 q6, oHr_v5 q6, oHr_f6 q6, oHr_v6 q6, oHr_f7 q6, oHr_v7 q6, oHr_f8 q6, oHr_v8 q6, oHr_f9 q6, oHr_v9 q6, oHr_f10 q6, oHr_v10 q6, oHr_f11 q6, oHr_v11 q6, oHr_f12 q6, oHr_v12 q6, oHr_i13 q6, oHr_i14 q6, oHr_i15 q6, oHr_i16 q6, oHr_i17 q6, oHr_c q7, oHr_f0 q7, oHr_v0 q7, oHr_f1 q7, oHr_v1 q7, oHr_f2 q7, oHr_v2 q7, oHr_f3 q7, oHr_v3 q7, oHr_f4 q7, oHr_v4 q7, oHr_f5 q7, oHr_v5 q7, oHr_f6 q7, oHr_v6 q7, oHr_f7 q7, oHr_v7 q7, oHr_f8 q7, oHr_v8 q7, oHr_f9 q7, oHr_v9 q7, oHr_f10 q7, oHr_v10 q7, oHr_f11 q7, oHr_v11 q7, oHr_f12 q7, oHr_v12 q7, oHr_i13 q7, oHr_i14 q7, oHr_i15 q7, oHr_i16 q7, oHr_i17 q7, oTp_c, oTp_f0, oTp_v0, oTp_i1, oTp_i2, oTp_i3, oTp_i4, oTp_i5, oTp_i6, oTp_a1, oTp_n1, oDk_c p23, oDk_f0 p23, oDk_v0 p23, oDk_i1 p23, oDk_i2 p23, oDk_i3 p23, p1, p13, d1, hr_within, f6, m0, m1, n1, b1, ← E2, ← J2, y1, r1, g121_53 (oHr_f11 q3) isr_r i1, ← E5, t6', ← J5, u1, s1, oLw_c ol5, oLw_f0 ol5, oLw_v0 ol5, oLw_f1 ol5, oLw_v1 ol5, oLw_f2 ol5, oLw_v2 ol5, oLw_i3 ol5, oLw_a1 ol5, oLw_n1 ol5, oLw_a2 ol5, oLw_n2 ol5, oLw_a3 ol5, oLw_n3 ol5, oBk_c ob5, oBk_f0 ob5, oBk_v0 ob5, oBk_f1 ob5, oBk_v1 ob5, oBk_i2 ob5, oBk_a1 ob5, oBk_n1 ob5, oBk_a2 ob5, oBk_n2 ob5, g121_83 (oHr_f12 q5) isr_n i1, ← E6, v1, rr, oRl_c or7, oRl_f0 or7, oRl_v0 or7, oRl_f1 or7, oRl_v1 or7, oRl_f2 or7, oRl_v2 or7, oRl_i3 or7, oRl_i4 or7, oRl_i5 or7, oRl_i6 or7, oRl_i7 or7, oRl_i8 or7, oRl_a1 or7, oRl_n1 or7, oRl_a2 or7, oRl_n2 or7, oRl_a3 or7, oRl_n3 or7, i1, oDk_c (show oDk h5 (c + 3) (c + 1) from (g5 _ (by omega)).trans p23), oDk_f0 (show oDk h5 (c + 3) (c + 1) from (g5 _ (by omega)).trans p23), oDk_v0 (show oDk h5 (c + 3) (c + 1) from (g5 _ (by omega)).trans p23), oDk_i1 (show oDk h5 (c + 3) (c + 1) from (g5 _ (by omega)).trans p23), oDk_i2 (show oDk h5 (c + 3) (c + 1) from (g5 _ (by omega)).trans p23), oDk_i3 (show oDk h5 (c + 3) (c + 1) from (g5 _ (by omega)).trans p23)]
    · obtain ⟨a1, a2, a3⟩ := d1.inj ho
      rw [a1]
      exact ⟨q7, by rw [rz_up_n (by omega), rz_up_n (by omega), s4 _ (by omega) (by omega)]; exact u2.1, fun j hj => by rw [rz_up_n (by omega), rz_up_n (by omega), s4 _ (by omega) (by omega)]; exact u2.2.1 j hj, u2.2.2⟩
    · exact (rl_eq ((rz_up_n (by omega)).trans (rz_up_n (by omega))) ((rz_up_n (by omega)).trans (rz_up_n (by omega))) ((rz_up_n (by omega)).trans (rz_up_n (by omega))) ((rz_up_n (by omega)).trans (rz_up_n (by omega)))).trans r7
    · rw [rz_up_s, rz_u_n (by omega), rz_up_s, rz_u_s]; rfl
    · rw [rz_up_s, rz_u_n (by omega), rz_up_s, rz_u_n (by omega), c7, J5, rz_up_s, rz_u_s]
    · rw [rz_up_s, rz_u_s]
    · rw [rz_up_s, rz_u_n (by omega), rz_up_s, rz_u_n (by omega), e5c _ (by omega)]; exact f4
    · rw [rz_up_s, rz_u_n (by omega), rz_up_s, rz_u_n (by omega), e5c _ (by omega)]; exact f5
    · rw [rz_up_n (by omega), rz_up_n (by omega), j7 _ (by omega) (by omega) (by omega) (by omega) (by omega), t3, (g3 _ (by omega)).2, B5]; rfl
    · rw [rz_up_n (by omega), rz_up_n (by omega), j7 _ (by omega) (by omega) (by omega) (by omega) (by omega), t5, (g3 _ (by omega)).2, B4]
    · rw [rz_up_n (by omega), rz_up_n (by omega)]; exact s2 q hq
    · rw [rz_up_n (by omega), rz_up_n (by omega)]; exact s3
    · rw [e7 _ (by omega) (by omega) (by omega) (by omega) (by omega) (by omega)]; exact f10 x
end CI8
