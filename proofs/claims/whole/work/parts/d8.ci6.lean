/-! the class does a work -/
section CI6
variable {Z : rx_Z} {d : Nat} {h : Nat → Option rx_E} {ι : Nat → Nat → Int32} {w : Nat × Nat} {nx c b n : Nat} {pl : Int32} {R : Nat → Int32} {C K : List (Nat × Nat)} {H : List (Nat → Int32)} {G : List ((Nat → Int32) × List (Nat → Int32))} {ld rs ns il : Int32}
theorem CI.re2 {h' : Nat → Option rx_E} {ι' : Nat → Nat → Int32} {nx' r' n' : Nat} {pv' : Value} {R' : Nat → Int32} {C' K' : List (Nat × Nat)} {H' : List (Nat → Int32)} {G' : List ((Nat → Int32) × List (Nat → Int32))} {pl' ld' rs' ns' il' : Int32} (i : CI Z h ι nx c b n pl R C K H G ld rs ns il) (hn : nx ≤ nx') (eh : ∀ a, a < nx → a ≠ c → a ≠ c + 32 → h' a = h a) (ei : ∀ a, a < Z.2.1 → ι' a = ι a) (ho : ∀ l r pv, oHr h c l r pv → oHr h' c l r' pv' ∧ lwIs ι' l (efL C')) (hr : rmI h' ι' nx' c b r' R') (hc : chI h' ι' nx' c b H' pv') (hg : gmI h' ι' nx' c b G') (hx : okX n' R' C' K' H' G') (hf : fdI ι' c n' pl' K' G'.length ld' rs' ns' il') : CI Z h' ι' nx' c b n' pl' R' C' K' H' G' ld' rs' ns' il' := by
  obtain ⟨i1, i2, i3, i4, i5, i6, i7, l, l', r, pv, d1, d2, d3, d4, d5, d6, d7⟩ := i
  obtain ⟨u1, u2⟩ := ho l r pv d1
  refine ⟨i1, i2, by omega, i4.ag (fun a ha => ⟨eh a (by omega) (by omega) (by omega), ei a ha⟩), i5.ag (fun a a1 a2 a3 a4 => eh a (by omega) (by omega) a3), hx, hf, l, l', r', pv', u1, d2, ?_, u2, hr, hc, hg⟩
  show h' (c + 4) = _
  rw [eh (c + 4) (by omega) (by omega) (by omega)]; exact d3
theorem ci_work_no (i : CI Z h ι nx c b n pl R C K H G ld rs ns il) (x : Int32) (hx : x < 0 ∨ (if 150 < nI n then 150 else nI n) < x) : refC Z (d + 9) h ι w c 123 [.int x] 0 := by
  obtain ⟨i1, i2, i3, i4, ⟨p1, -⟩, i6, ⟨f1, f2, f3, f4, f5, f6, -⟩, l, l', r, pv, d1, -⟩ := i
  have nt := hr_needText (d := d + 6) (ι := ι) (w := w) d1 p1 i1 x 150
  rw [f6, if_pos hx] at nt
  unfold refC
  rw [e123]
  simp (decide := true) (maxDischargeDepth := 4) only [g123_0, g123_1, g123_2, g123_5, g123_8, g123_9, g123_12, g123_14, g123_17, g123_18, g123_21, g123_22, g123_25, g123_27, g123_28, g123_29, g123_32, g123_33, g123_36, g123_37, g123_40, g123_43, g123_46, g123_47, g123_50, g123_53, g123_54, g123_55, g123_58, g123_59, g123_60, g123_63, g123_64, g123_67, g123_70, g123_73, g123_76, g123_77, g123_80, g123_81, g123_82, g123_83, g123_86, g123_89, g123_90, g123_91, g123_94, g123_95, g123_98, g123_99, g123_102, g123_103, g123_106, g123_109, g123_110, g123_111, g123_114, g123_117, g123_120, g123_121, g123_124, g123_127, rz_k_inl, rz_k_inr, Option.toList_some, Option.toList_none, List.cons_append, List.nil_append, List.append_nil, rz_up_s, rz_u_s, rz_up_n, rz_u_n, ne_eq, not_false_eq_true, not_true_eq_false, Nat.add_assoc, Nat.reduceAdd, reduceIte, Nat.add_eq_left, Nat.left_eq_add, Nat.add_left_cancel_iff, Nat.reduceEqDiff, Nat.add_right_cancel_iff, rz_nb0, rz_nb1, rz_nbb, rz_nbi, rz_isr, rz_zle, if_true, if_false, rz_bi0, rz_bi1, Bool.not_eq_true, Bool.not_eq_false, Bool.true_eq_false, Bool.false_eq_true, rz_ix_lit, cl_lit, Nat.reduceLT, bi_t, bi_f, decide_true, decide_false, Bool.not_false, Bool.not_true, Bool.and_true, Bool.true_and, Bool.and_false, Bool.false_and, oHr_c d1, oHr_f0 d1, oHr_v0 d1, oHr_f1 d1, oHr_v1 d1, oHr_f2 d1, oHr_v2 d1, oHr_f3 d1, oHr_v3 d1, oHr_f4 d1, oHr_v4 d1, oHr_f5 d1, oHr_v5 d1, oHr_f6 d1, oHr_v6 d1, oHr_f7 d1, oHr_v7 d1, oHr_f8 d1, oHr_v8 d1, oHr_f9 d1, oHr_v9 d1, oHr_f10 d1, oHr_v10 d1, oHr_f11 d1, oHr_v11 d1, oHr_f12 d1, oHr_v12 d1, oHr_i13 d1, oHr_i14 d1, oHr_i15 d1, oHr_i16 d1, oHr_i17 d1, d1, nt]
/-- no more works -/
theorem ci_work16 {e : Nat} (i : CI Z h ι nx c b n pl R C K H G ld rs ns il) (he : e ≤ n) (he2 : e ≤ 150) (hH : H.length = 16) : ∃ ι', rz_f Z (d + 9) 123 [.ref c, .int (nI e)] (rz_mk h ι, w) = some (.inl (some (.int (-20))), (rz_mk h ι', w)) ∧ CI Z h ι' nx c b 0 (-1) R C K H G ld rs ns il ∧ clF b h h ι ι' ∧ ι' (c + 2) = ι (c + 2) := by
  have ii := i
  have wd := ci_worksDone (d := d + 7) (w := w) i
  rw [hH] at wd
  obtain ⟨i1, i2, i3, i4, ⟨p1, -⟩, i6, ⟨f1, f2, f3, f4, f5, f6, f7, f8, f9, f10⟩, l, l', r, pv, d1, d2, d3, d4, d5, d6, d7⟩ := i
  have hn6 : n ≤ 600 := i6.1
  have nt := hr_needText (d := d + 6) (ι := ι) (w := w) d1 p1 i1 (nI e) 150
  have hmn : ¬ (nI e < 0 ∨ (if 150 < nI n then 150 else nI n) < nI e) := nI_min (m := 150) he he2 (by omega) (by decide)
  rw [f6, if_neg hmn] at nt
  obtain ⟨ι1, b1, B1, B2, B3, B4, B5, B6⟩ := tp_beginE (Z := Z) (d := d + 7) (ι := ι) (w := w) (n := 0) p1 (show Z.2.1 ≤ c + 1 by omega) (by omega)
  have b1' : rz_f Z (d + 8) 89 [.ref (c + 1), .int 0] (rz_mk h ι, w) = some (.inl none, (rz_mk h ι1, w)) := b1
  refine ⟨ι1, ?_, ii.tx d3 (fun x h1 _ => B6 x h1) (n' := 0) (by rw [B5]; rfl) B4 (by omega), fun a a1 a2 => ⟨rfl, B6 a (by omega)⟩, B6 _ (by omega)⟩
  rw [e123]
  simp (decide := true) (maxDischargeDepth := 4) only [g123_0, g123_1, g123_2, g123_5, g123_8, g123_9, g123_12, g123_14, g123_17, g123_18, g123_21, g123_22, g123_25, g123_27, g123_28, g123_29, g123_32, g123_33, g123_36, g123_37, g123_40, g123_43, g123_46, g123_47, g123_50, g123_53, g123_54, g123_55, g123_58, g123_59, g123_60, g123_63, g123_64, g123_67, g123_70, g123_73, g123_76, g123_77, g123_80, g123_81, g123_82, g123_83, g123_86, g123_89, g123_90, g123_91, g123_94, g123_95, g123_98, g123_99, g123_102, g123_103, g123_106, g123_109, g123_110, g123_111, g123_114, g123_117, g123_120, g123_121, g123_124, g123_127, rz_k_inl, rz_k_inr, Option.toList_some, Option.toList_none, List.cons_append, List.nil_append, List.append_nil, rz_up_s, rz_u_s, rz_up_n, rz_u_n, ne_eq, not_false_eq_true, not_true_eq_false, Nat.add_assoc, Nat.reduceAdd, reduceIte, Nat.add_eq_left, Nat.left_eq_add, Nat.add_left_cancel_iff, Nat.reduceEqDiff, Nat.add_right_cancel_iff, rz_nb0, rz_nb1, rz_nbb, rz_nbi, rz_isr, rz_zle, if_true, if_false, rz_bi0, rz_bi1, Bool.not_eq_true, Bool.not_eq_false, Bool.true_eq_false, Bool.false_eq_true, rz_ix_lit, cl_lit, Nat.reduceLT, bi_t, bi_f, decide_true, decide_false, Bool.not_false, Bool.not_true, Bool.and_true, Bool.true_and, Bool.and_false, Bool.false_and, oHr_c d1, oHr_f0 d1, oHr_v0 d1, oHr_f1 d1, oHr_v1 d1, oHr_f2 d1, oHr_v2 d1, oHr_f3 d1, oHr_v3 d1, oHr_f4 d1, oHr_v4 d1, oHr_f5 d1, oHr_v5 d1, oHr_f6 d1, oHr_v6 d1, oHr_f7 d1, oHr_v7 d1, oHr_f8 d1, oHr_v8 d1, oHr_f9 d1, oHr_v9 d1, oHr_f10 d1, oHr_v10 d1, oHr_f11 d1, oHr_v11 d1, oHr_f12 d1, oHr_v12 d1, oHr_i13 d1, oHr_i14 d1, oHr_i15 d1, oHr_i16 d1, oHr_i17 d1, oTp_c, oTp_f0, oTp_v0, oTp_i1, oTp_i2, oTp_i3, oTp_i4, oTp_i5, oTp_i6, oTp_a1, oTp_n1, p1, d1, nt, wd, b1', show ¬ (nI 16 < 16) by decide]
theorem ci_work {e : Nat} (i : CI Z h ι nx c b n pl R C K H G ld rs ns il) (he : e ≤ n) (he2 : e ≤ 150) (hH : H.length < 16) (hw : nx ≤ w.1) : match wtX (ι (c + 2)) e with
    | .inl s => ∀ f, Rn (efL C) s.1 s.2 0 [] (0, 0, 0, R) f → ∃ h' ι', rz_f Z (d + 9) 123 [.ref c, .int (nI e)] (rz_mk h ι, w) = some (.inl (some (.int (nI f.2.1))), (rz_mk h' ι', (w.1 + 5, w.2 + 68))) ∧ CI Z h' ι' (w.1 + 5) c b 0 (-1) f.2.2.2 C K (R :: H) G ld (nI f.2.2.1) ns il ∧ clF b h h' ι ι' ∧ ι' (c + 2) = ι (c + 2)
    | .inr f => ∃ ι', rz_f Z (d + 9) 123 [.ref c, .int (nI e)] (rz_mk h ι, w) = some (.inl (some (.int (nI f.1 - 10))), (rz_mk h ι', w)) ∧ CI Z h ι' nx c b 0 (nI f.2) R C K H G ld rs ns il ∧ clF b h h ι ι' ∧ ι' (c + 2) = ι (c + 2) := by
  have ii := i
  have wd := ci_worksDone (d := d + 7) (w := w) i
  obtain ⟨i1, i2, i3, i4, i5, i6, ⟨f1, f2, f3, f4, f5, f6, f7, f8, f9, f10⟩, l, l', r, pv, d1, d2, d3, d4, d5, d6, d7⟩ := i
  have i5c := i5
  obtain ⟨p1, p2, p3, p4, p5, p6, p7, p8, p9, p10⟩ := i5
  have hn6 : n ≤ 600 := i6.1
  have hlt : nI H.length < 16 := by rw [nI_ltL (n := 16) (by omega) (by decide)]; exact hH
  have ol : oLw h l := by
    rcases d2 with ⟨z, -⟩ | ⟨z, -⟩
    · rw [z]; exact p9
    · rw [z]; exact p10
  have nt := hr_needText (d := d + 6) (ι := ι) (w := w) d1 p1 i1 (nI e) 150
  have hmn : ¬ (nI e < 0 ∨ (if 150 < nI n then 150 else nI n) < nI e) := nI_min (m := 150) he he2 (by omega) (by decide)
  rw [f6, if_neg hmn] at nt
  obtain ⟨ι1, b1, B1, B2, B3, B4, B5, B6⟩ := tp_beginE (Z := Z) (d := d + 7) (ι := ι) (w := w) p1 (show Z.2.1 ≤ c + 1 by omega) (show e ≤ 600 by omega)
  have e2 : ι1 (c + 1 + 1) = ι (c + 2) := B6 _ (by omega)
  have rd := wc_reads (d := d) (w := w) (ι := ι1) i4.st (⟨p3, p1, by omega, by omega⟩ : wcO Z h (c + 1) (c + 9)) B1 B2 he2 (fun x => by rw [e2]; exact f10 x)
  rw [e2] at rd
  cases hX : wtX (ι (c + 2)) e with
  | inr f =>
    rw [hX] at rd
    obtain ⟨ι2, r1, ⟨t1, t2, t3⟩, t4, t5⟩ := rd
    have e3 : ∀ x, x ≠ c + 1 → ¬ sxC c l' x → ι2 x = ι x := fun x h1 h2 => (t1 x h1 (by unfold sxC at h2; unfold wcQ; omega)).trans (B6 x h1)
    have v1 := tp_verdict (Z := Z) (d := d + 7) (w := w) (ι := ι2) p1
    rw [t4] at v1
    refine ⟨ι2, ?_, ii.tx d3 e3 (n' := 0) (by rw [t3, B5]; rfl) t5 (by omega), fun a a1 a2 => ⟨rfl, e3 a (by omega) (by unfold sxC; omega)⟩, e3 _ (by omega) (by unfold sxC; omega)⟩
    rw [e123]
    simp (decide := true) (maxDischargeDepth := 4) only [g123_0, g123_1, g123_2, g123_5, g123_8, g123_9, g123_12, g123_14, g123_17, g123_18, g123_21, g123_22, g123_25, g123_27, g123_28, g123_29, g123_32, g123_33, g123_36, g123_37, g123_40, g123_43, g123_46, g123_47, g123_50, g123_53, g123_54, g123_55, g123_58, g123_59, g123_60, g123_63, g123_64, g123_67, g123_70, g123_73, g123_76, g123_77, g123_80, g123_81, g123_82, g123_83, g123_86, g123_89, g123_90, g123_91, g123_94, g123_95, g123_98, g123_99, g123_102, g123_103, g123_106, g123_109, g123_110, g123_111, g123_114, g123_117, g123_120, g123_121, g123_124, g123_127, rz_k_inl, rz_k_inr, Option.toList_some, Option.toList_none, List.cons_append, List.nil_append, List.append_nil, rz_up_s, rz_u_s, rz_up_n, rz_u_n, ne_eq, not_false_eq_true, not_true_eq_false, Nat.add_assoc, Nat.reduceAdd, reduceIte, Nat.add_eq_left, Nat.left_eq_add, Nat.add_left_cancel_iff, Nat.reduceEqDiff, Nat.add_right_cancel_iff, rz_nb0, rz_nb1, rz_nbb, rz_nbi, rz_isr, rz_zle, if_true, if_false, rz_bi0, rz_bi1, Bool.not_eq_true, Bool.not_eq_false, Bool.true_eq_false, Bool.false_eq_true, rz_ix_lit, cl_lit, Nat.reduceLT, bi_t, bi_f, decide_true, decide_false, Bool.not_false, Bool.not_true, Bool.and_true, Bool.true_and, Bool.and_false, Bool.false_and, oHr_c d1, oHr_f0 d1, oHr_v0 d1, oHr_f1 d1, oHr_v1 d1, oHr_f2 d1, oHr_v2 d1, oHr_f3 d1, oHr_v3 d1, oHr_f4 d1, oHr_v4 d1, oHr_f5 d1, oHr_v5 d1, oHr_f6 d1, oHr_v6 d1, oHr_f7 d1, oHr_v7 d1, oHr_f8 d1, oHr_v8 d1, oHr_f9 d1, oHr_v9 d1, oHr_f10 d1, oHr_v10 d1, oHr_f11 d1, oHr_v11 d1, oHr_f12 d1, oHr_v12 d1, oHr_i13 d1, oHr_i14 d1, oHr_i15 d1, oHr_i16 d1, oHr_i17 d1, oTp_c, oTp_f0, oTp_v0, oTp_i1, oTp_i2, oTp_i3, oTp_i4, oTp_i5, oTp_i6, oTp_a1, oTp_n1, oWt_c p3, oWt_f0 p3, oWt_v0 p3, oWt_f1 p3, oWt_v1 p3, oWt_f2 p3, oWt_v2 p3, oWt_f3 p3, oWt_v3 p3, oWt_i4 p3, oWt_i5 p3, oWt_i6 p3, oWt_i7 p3, oWt_i8 p3, oWt_a1 p3, oWt_n1 p3, oWt_a2 p3, oWt_n2 p3, oWt_a3 p3, oWt_n3 p3, p1, d1, nt, wd, hlt, b1, r1, v1]
  | inl s =>
    intro f hf
    rw [hX] at rd
    obtain ⟨ι2, r1, ⟨t1, t2, t3⟩, t4, t5, t6, t7⟩ := rd
    obtain ⟨hbal, h9⟩ := wtX_bal hX
    have e3 : ∀ x, x ≠ c + 1 → ¬ (c + 9 ≤ x ∧ x ≤ c + 11) → ι2 x = ι x := fun x h1 h2 => (t1 x h1 (by unfold wcQ; omega)).trans (B6 x h1)
    -- a moment
    have k2 : agK h (rx_up h w.1 (.inr (7, rx_df 7))) ι (rz_z ι2 w.1) nx c b := fun a a1 ha => ⟨up_ne (by omega), (zz_ne (by omega)).trans (e3 a (by omega) (by omega))⟩
    obtain ⟨h3, ι3, z1, z2, z3, z4⟩ := mm_init (Z := Z) (d := d + 7) (w := (w.1 + 1, w.2 + 3)) (r := r) (show Z.2.1 ≤ w.1 by omega) (rx_up_self _ _ _) (chI.ag k2 (Nat.le_refl _) H pv d6) hw
    have q1 : oHr (rx_up h w.1 (.inr (7, rx_df 7))) c l r pv := hr_at d1 (up_ne (by omega))
    have g3 : ∀ x, x ≠ w.1 → h3 x = h x ∧ ι3 x = ι2 x := fun x hx => ⟨(z4 x hx).1.trans (up_ne hx), (z4 x hx).2.trans (zz_ne hx)⟩
    have q3 : oHr h3 c l r pv := hr_at d1 (g3 c (by omega)).1
    obtain ⟨h4, E4⟩ : ∃ y, y = rz_hs h3 c 12 (.ref w.1) := ⟨_, rfl⟩
    have q4 : oHr h4 c l r (.ref w.1) := by rw [E4]; exact hr_12 q3 rfl
    -- a realm
    obtain ⟨h5, E5⟩ : ∃ y, y = rx_up h4 (w.1 + 1) (.inr (8, rx_df 8)) := ⟨_, rfl⟩
    obtain ⟨ι5, J5⟩ : ∃ y, y = rz_z ι3 (w.1 + 1) := ⟨_, rfl⟩
    obtain ⟨h6, ι6, y1, y2, y3, y4⟩ := rm_init (Z := Z) (d := d + 7) (h := h5) (ι := ι5) (a := w.1 + 1) (s := w.2 + 3 + 9) (by omega) (by rw [E5]; exact rx_up_self _ _ _)
    have g6 : ∀ x, x < nx → x ≠ c → h6 x = h x ∧ ι6 x = ι2 x := fun x hx hc => ⟨by rw [(y4 x (by omega)).1, E5, up_ne (by omega), E4, hs_ne hc]; exact (g3 x (by omega)).1, by rw [(y4 x (by omega)).2, J5, zz_ne (by omega)]; exact (g3 x (by omega)).2⟩
    have g6c : ι6 c = ι2 c := by rw [(y4 c (by omega)).2, J5, zz_ne (by omega)]; exact (g3 c (by omega)).2
    have q6 : oHr h6 c l r (.ref w.1) := hr_at q4 (by rw [(y4 c (by omega)).1, E5, up_ne (by omega)])
    have mo6 : oMm h6 w.1 r pv := mm_at z2 (by rw [(y4 w.1 (by omega)).1, E5, up_ne (by omega), E4, hs_ne (by omega)])
    have mi6 : ι6 w.1 2 = nI (H.length + 1) := by rw [(y4 w.1 (by omega)).2, J5, zz_ne (by omega)]; exact z3
    have hr4 : r + 4 ≤ nx := d5.2.2.2
    have hrc : c + 37 ≤ r := by have := d5.2.2.1; omega
    have or6 : oRl h6 r := d5.1.ag (fun a a1 a2 => (g6 a (by omega) (by omega)).1)
    have rr6 : rl ι6 r = R := (rl_eq ((g6 r (by omega) (by omega)).2.trans (e3 _ (by omega) (by omega))) ((g6 _ (by omega) (by omega)).2.trans (e3 _ (by omega) (by omega))) ((g6 _ (by omega) (by omega)).2.trans (e3 _ (by omega) (by omega))) ((g6 _ (by omega) (by omega)).2.trans (e3 _ (by omega) (by omega)))).trans d5.2.1
    obtain ⟨ι7, x1, x2, x3⟩ := rm_become (Z := Z) (d := d + 7) (w := (w.1 + 1 + 4, w.2 + 3 + 9 + 56)) (ι := ι6) y2 (show Z.2.1 ≤ w.1 + 1 by omega) or6 (by omega)
    rw [rr6] at x2
    obtain ⟨h7, E7⟩ : ∃ y, y = rz_hs h6 c 11 (.ref (w.1 + 1)) := ⟨_, rfl⟩
    have q7 : oHr h7 c l (w.1 + 1) (.ref w.1) := by rw [E7]; exact hr_11 q6
    have g7 : ∀ x, x < nx → x ≠ c → h7 x = h x := fun x hx hc => by rw [E7, hs_ne hc]; exact (g6 x hx hc).1
    have n7 : ∀ x, x < nx → ι7 x = ι2 x := fun x hx => by
      rw [x3 x (by unfold rlP; omega)]
      by_cases hc : x = c
      · rw [hc]; exact g6c
      · exact (g6 x hx hc).2
    -- the run
    have p37 : oWt h7 (c + 9) (c + 1) := by
      obtain ⟨a1, a2, a3, a4⟩ := p3
      exact ⟨by rw [g7 _ (by omega) (by omega)]; exact a1, by rw [g7 _ (by omega) (by omega)]; exact a2, by rw [g7 _ (by omega) (by omega)]; exact a3, by rw [g7 _ (by omega) (by omega)]; exact a4⟩
    have ol7 : oLw h7 l := by
      obtain ⟨a1, a2, a3, a4⟩ := ol
      exact ⟨by rw [g7 _ (by omega) (by omega)]; exact a1, by rw [g7 _ (by omega) (by omega)]; exact a2, by rw [g7 _ (by omega) (by omega)]; exact a3, by rw [g7 _ (by omega) (by omega)]; exact a4⟩
    have or7 : oRl h7 (w.1 + 1) := y2.ag (fun a a1 a2 => by rw [E7, hs_ne (by omega)])
    have lw7 : lwIs ι7 l (efL C) := ⟨by rw [n7 _ (by omega), e3 _ (by omega) (by omega)]; exact d4.1, fun j hj => by rw [n7 _ (by omega), e3 _ (by omega) (by omega)]; exact d4.2.1 j hj, d4.2.2⟩
    obtain ⟨mm, dk, lv, hok⟩ := i6.2.1
    obtain ⟨ι8, v1, v2, v3, v4, v5, v6⟩ := rn_run (Z := Z) (d := d + 1) (w := (w.1 + 1 + 4, w.2 + 3 + 9 + 56)) (ι := ι7) (h := h7) (t := c + 1) (a := c + 9) (r := w.1 + 1) (l := l) (C := efL C) (T := s.1) (m := s.2) (mm := mm) (dk := dk) (f := f) ⟨p37, or7, ol7, by omega, by omega, by omega, by omega, by omega⟩ hbal (by omega) (by rw [n7 _ (by omega)]; exact t6) (fun j hj => by
      have := t7 j hj
      unfold tkI at this ⊢
      rw [n7 _ (by omega)]
      exact this) lw7 (by rw [x2]; exact hok.wk) (by rw [x2]; exact hf)
    have n8 : ∀ x, x < nx → x ≠ c + 9 → x ≠ c + 12 → ¬ (l ≤ x ∧ x < l + 4) → ι8 x = ι2 x := fun x hx h1 h2 h3 => by
      rw [v2 x (by unfold rnQ rlW rlP lwS; omega)]
      exact n7 x hx
    have n9 : ∀ x, x < nx → x ≠ c → x ≠ c + 1 → ¬ (c + 5 ≤ x ∧ x ≤ c + 12) → ¬ (c + 33 ≤ x ∧ x ≤ c + 36) → rz_up ι8 c 15 (nI f.2.2.1) x = ι x := fun x hx h1 h2 h3 h4 => by
      rw [rz_up_n h1, n8 x hx (by omega) (by omega) (by omega)]
      exact e3 x (by omega) (by omega)
    have k9 : agK h h7 ι (rz_up ι8 c 15 (nI f.2.2.1)) nx c b := fun a a1 ha => ⟨g7 a ha (by omega), n9 a ha (by omega) (by omega) (by omega) (by omega)⟩
    have c8 : ι8 c = ι c := by rw [n8 c (by omega) (by omega) (by omega) (by omega)]; exact e3 c (by omega) (by omega)
    have c81 : ι8 (c + 1) = ι2 (c + 1) := n8 _ (by omega) (by omega) (by omega) (by omega)
    have w8 : ι8 w.1 2 = nI (H.length + 1) := by rw [v2 w.1 (by unfold rnQ rlW rlP lwS; omega), x3 w.1 (by unfold rlP; omega)]; exact mi6
    have mo7 : oMm h7 w.1 r pv := mm_at mo6 (by rw [E7, hs_ne (by omega)])
    have okf : okB f.2.2.2 := by
      have := mR_okR (C := efL C) (T := s.1) (m := s.2) 12462 0 [] [] (0, 0, 0, R) hbal rfl (by decide) (by intro x hx; cases hx) ⟨mm, dk, lv, hok⟩
      rw [mR_run hbal rfl hf] at this
      exact this
    obtain ⟨o1, o2, o3, o4, o5, o6, o7⟩ := i6
    refine ⟨h7, rz_up ι8 c 15 (nI f.2.2.1), ?_, ?_, ?_, n9 _ (by omega) (by omega) (by omega) (by omega) (by omega)⟩
    · have hm1 : rz_isr (.ref w.1) = true := rfl
      rw [e123]
      simp (decide := true) (maxDischargeDepth := 4) only [g123_0, g123_1, g123_2, g123_5, g123_8, g123_9, g123_12, g123_14, g123_17, g123_18, g123_21, g123_22, g123_25, g123_27, g123_28, g123_29, g123_32, g123_33, g123_36, g123_37, g123_40, g123_43, g123_46, g123_47, g123_50, g123_53, g123_54, g123_55, g123_58, g123_59, g123_60, g123_63, g123_64, g123_67, g123_70, g123_73, g123_76, g123_77, g123_80, g123_81, g123_82, g123_83, g123_86, g123_89, g123_90, g123_91, g123_94, g123_95, g123_98, g123_99, g123_102, g123_103, g123_106, g123_109, g123_110, g123_111, g123_114, g123_117, g123_120, g123_121, g123_124, g123_127, rz_k_inl, rz_k_inr, Option.toList_some, Option.toList_none, List.cons_append, List.nil_append, List.append_nil, rz_up_s, rz_u_s, rz_up_n, rz_u_n, ne_eq, not_false_eq_true, not_true_eq_false, Nat.add_assoc, Nat.reduceAdd, reduceIte, Nat.add_eq_left, Nat.left_eq_add, Nat.add_left_cancel_iff, Nat.reduceEqDiff, Nat.add_right_cancel_iff, rz_nb0, rz_nb1, rz_nbb, rz_nbi, rz_isr, rz_zle, if_true, if_false, rz_bi0, rz_bi1, Bool.not_eq_true, Bool.not_eq_false, Bool.true_eq_false, Bool.false_eq_true, rz_ix_lit, cl_lit, Nat.reduceLT, bi_t, bi_f, decide_true, decide_false, Bool.not_false, Bool.not_true, Bool.and_true, Bool.true_and, Bool.and_false, Bool.false_and, oHr_c d1, oHr_f0 d1, oHr_v0 d1, oHr_f1 d1, oHr_v1 d1, oHr_f2 d1, oHr_v2 d1, oHr_f3 d1, oHr_v3 d1, oHr_f4 d1, oHr_v4 d1, oHr_f5 d1, oHr_v5 d1, oHr_f6 d1, oHr_v6 d1, oHr_f7 d1, oHr_v7 d1, oHr_f8 d1, oHr_v8 d1, oHr_f9 d1, oHr_v9 d1, oHr_f10 d1, oHr_v10 d1, oHr_f11 d1, oHr_v11 d1, oHr_f12 d1, oHr_v12 d1, oHr_i13 d1, oHr_i14 d1, oHr_i15 d1, oHr_i16 d1, oHr_i17 d1, oHr_c q1, oHr_f0 q1, oHr_v0 q1, oHr_f1 q1, oHr_v1 q1, oHr_f2 q1, oHr_v2 q1, oHr_f3 q1, oHr_v3 q1, oHr_f4 q1, oHr_v4 q1, oHr_f5 q1, oHr_v5 q1, oHr_f6 q1, oHr_v6 q1, oHr_f7 q1, oHr_v7 q1, oHr_f8 q1, oHr_v8 q1, oHr_f9 q1, oHr_v9 q1, oHr_f10 q1, oHr_v10 q1, oHr_f11 q1, oHr_v11 q1, oHr_f12 q1, oHr_v12 q1, oHr_i13 q1, oHr_i14 q1, oHr_i15 q1, oHr_i16 q1, oHr_i17 q1, oHr_c q3, oHr_f0 q3, oHr_v0 q3, oHr_f1 q3, oHr_v1 q3, oHr_f2 q3, oHr_v2 q3, oHr_f3 q3, oHr_v3 q3, oHr_f4 q3, oHr_v4 q3, oHr_f5 q3, oHr_v5 q3, oHr_f6 q3, oHr_v6 q3, oHr_f7 q3, oHr_v7 q3, oHr_f8 q3, oHr_v8 q3, oHr_f9 q3, oHr_v9 q3, oHr_f10 q3, oHr_v10 q3, oHr_f11 q3, oHr_v11 q3, oHr_f12 q3, oHr_v12 q3, oHr_i13 q3, oHr_i14 q3, oHr_i15 q3, oHr_i16 q3, oHr_i17 q3, oHr_c q4, oHr_f0 q4, oHr_v0 q4, oHr_f1 q4, oHr_v1 q4, oHr_f2 q4, oHr_v2 q4, oHr_f3 q4, oHr_v3 q4, oHr_f4 q4, oHr_v4 q4, oHr_f5 q4, oHr_v5 q4, oHr_f6 q4, oHr_v6 q4, oHr_f7 q4, oHr_v7 q4, oHr_f8 q4, oHr_v8 q4, oHr_f9 q4, oHr_v9 q4, oHr_f10 q4, oHr_v10 q4, oHr_f11 q4, oHr_v11 q4, oHr_f12 q4, oHr_v12 q4, oHr_i13 q4, oHr_i14 q4, oHr_i15 q4, oHr_i16 q4, oHr_i17 q4, oHr_c q6, oHr_f0 q6, oHr_v0 q6, oHr_f1 q6, oHr_v1 q6, oHr_f2 q6, oHr_v2 q6, oHr_f3 q6, oHr_v3 q6, oHr_f4 q6, oHr_v4 q6, oHr_f5 q6, oHr_v5 q6, oHr_f6 q6, oHr_v6 q6, oHr_f7 q6, oHr_v7 q6, oHr_f8 q6, oHr_v8 q6, oHr_f9 q6, oHr_v9 q6, oHr_f10 q6, oHr_v10 q6, oHr_f11 q6, oHr_v11 q6, oHr_f12 q6, oHr_v12 q6, oHr_i13 q6, oHr_i14 q6, oHr_i15 q6, oHr_i16 q6, oHr_i17 q6, oHr_c q7, oHr_f0 q7, oHr_v0 q7, oHr_f1 q7, oHr_v1 q7, oHr_f2 q7, oHr_v2 q7, oHr_f3 q7, oHr_v3 q7, oHr_f4 q7, oHr_v4 q7, oHr_f5 q7, oHr_v5 q7, oHr_f6 q7, oHr_v6 q7, oHr_f7 q7, oHr_v7 q7, oHr_f8 q7, oHr_v8 q7, oHr_f9 q7, oHr_v9 q7, oHr_f10 q7, oHr_v10 q7, oHr_f11 q7, oHr_v11 q7, oHr_f12 q7, oHr_v12 q7, oHr_i13 q7, oHr_i14 q7, oHr_i15 q7, oHr_i16 q7, oHr_i17 q7, oTp_c, oTp_f0, oTp_v0, oTp_i1, oTp_i2, oTp_i3, oTp_i4, oTp_i5, oTp_i6, oTp_a1, oTp_n1, oWt_c p3, oWt_f0 p3, oWt_v0 p3, oWt_f1 p3, oWt_v1 p3, oWt_f2 p3, oWt_v2 p3, oWt_f3 p3, oWt_v3 p3, oWt_i4 p3, oWt_i5 p3, oWt_i6 p3, oWt_i7 p3, oWt_i8 p3, oWt_a1 p3, oWt_n1 p3, oWt_a2 p3, oWt_n2 p3, oWt_a3 p3, oWt_n3 p3, oWt_c p37, oWt_f0 p37, oWt_v0 p37, oWt_f1 p37, oWt_v1 p37, oWt_f2 p37, oWt_v2 p37, oWt_f3 p37, oWt_v3 p37, oWt_i4 p37, oWt_i5 p37, oWt_i6 p37, oWt_i7 p37, oWt_i8 p37, oWt_a1 p37, oWt_n1 p37, oWt_a2 p37, oWt_n2 p37, oWt_a3 p37, oWt_n3 p37, p1, d1, nt, wd, hlt, b1, r1, z1, g123_70 (oHr_f12 q3) isr_r i1, ← E4, ← E5, ← J5, y1, oRl_c y2, oRl_f0 y2, oRl_v0 y2, oRl_f1 y2, oRl_v1 y2, oRl_f2 y2, oRl_v2 y2, oRl_i3 y2, oRl_i4 y2, oRl_i5 y2, oRl_i6 y2, oRl_i7 y2, oRl_i8 y2, oRl_a1 y2, oRl_n1 y2, oRl_a2 y2, oRl_n2 y2, oRl_a3 y2, oRl_n3 y2, x1, g123_91 (oHr_f11 q6) isr_r i1, ← E7, v1, v3, v4, i1]
    · refine ii.re2 (show nx ≤ w.1 + 5 by omega) (fun a a1 a2 _ => g7 a a1 a2) (fun a ha => n9 a (by omega) (by omega) (by omega) (by omega) (by omega)) (r' := w.1 + 1) (pv' := .ref w.1) (fun l0 r0 pv0 ho => ?_) ⟨or7, ?_, by omega, by omega⟩ ⟨w.1, r, pv, rfl, mo7, by omega, by omega, ?_, d5.ag k9 (by omega), chI.ag k9 (by omega) H pv d6⟩ (d7.ag k9 (by omega) (g7 _ (by omega) (by omega))) ⟨by omega, okf, o3, o4, by simp only [List.length_cons]; omega, fun y hy => ?_, o7⟩ ⟨?_, ?_, ?_, ?_, ?_, ?_, ?_, fun q hq => ?_, ?_, fun x => ?_⟩
      · obtain ⟨a1, a2, a3⟩ := d1.inj ho
        rw [a1]
        exact ⟨q7, by rw [rz_up_n (by omega)]; exact v6.1, fun j hj => by rw [rz_up_n (by omega)]; exact v6.2.1 j hj, v6.2.2⟩
      · exact (rl_eq (rz_up_n (by omega)) (rz_up_n (by omega)) (rz_up_n (by omega)) (rz_up_n (by omega))).trans v5
      · rw [rz_up_n (by omega)]; exact w8
      · rcases List.mem_cons.1 hy with hy | hy
        · rw [hy]; exact o2
        · exact o6 y hy
      · rw [rz_up_s, rz_u_n (by omega), c8]; exact f1
      · rw [rz_up_s, rz_u_n (by omega), c8]; exact f2
      · rw [rz_up_s, rz_u_s]
      · rw [rz_up_s, rz_u_n (by omega), c8]; exact f4
      · rw [rz_up_s, rz_u_n (by omega), c8]; exact f5
      · rw [rz_up_n (by omega), c81, t3, B5]; rfl
      · rw [rz_up_n (by omega), c81, t5, B4]
      · rw [n9 _ (by omega) (by omega) (by omega) (by omega) (by omega)]; exact f8 q hq
      · rw [n9 _ (by omega) (by omega) (by omega) (by omega) (by omega)]; exact f9
      · rw [n9 _ (by omega) (by omega) (by omega) (by omega) (by omega)]; exact f10 x
    · exact fun a a1 a2 => ⟨g7 a (by omega) (by omega), n9 a (by omega) (by omega) (by omega) (by omega) (by omega)⟩
end CI6
