/-! the class: undo, image, restore -/
theorem hs_ne {h : Nat → Option rx_E} {a k b : Nat} {v : Value} (hb : b ≠ a) : rz_hs h a k v b = h b := by
  unfold rz_hs; rcases h a with _ | (x | x)
  · rfl
  · rfl
  · exact if_neg hb
theorem he_ne {h : Nat → Option rx_E} {a k b : Nat} {v : Value} (hb : b ≠ a) : rz_he h a k v b = h b := by
  unfold rz_he; rcases h a with _ | (x | x)
  · rfl
  · exact if_neg hb
  · rfl
theorem hs_s {h : Nat → Option rx_E} {a k c : Nat} {fs : List Value} {v : Value} (e : h a = some (.inr (c, fs))) : rz_hs h a k v a = some (.inr (c, fs.set k v)) := by
  unfold rz_hs; rw [e]; exact rx_up_self _ _ _
theorem he_s {h : Nat → Option rx_E} {a k t n : Nat} {f : Nat → Value} {v : Value} (e : h a = some (.inl (t, n, f))) : rz_he h a k v a = some (.inl (t, n, va_up f k v)) := by
  unfold rz_he; rw [e]; exact rx_up_self _ _ _
theorem up_ne {h : Nat → Option rx_E} {a b : Nat} {x : rx_E} (hb : b ≠ a) : rx_up h a x b = h b := by unfold rx_up; rw [if_neg hb]
theorem zz_ne {ι : Nat → Nat → Int32} {a b : Nat} (hb : b ≠ a) : rz_z ι a b = ι b := by unfold rz_z; rw [if_neg hb]
theorem isr_r {a : Nat} : rz_isr (.ref a) = true := rfl
theorem isr_n : rz_isr .null = true := rfl
theorem hr_11 {h : Nat → Option rx_E} {c l r r' : Nat} {pv : Value} (o : oHr h c l r pv) : oHr (rz_hs h c 11 (.ref r')) c l r' pv := ⟨hs_s o.1, o.2⟩
theorem hr_12 {h : Nat → Option rx_E} {c l r : Nat} {pv pv' : Value} (o : oHr h c l r pv) (hp : rz_isr pv' = true) : oHr (rz_hs h c 12 pv') c l r pv' := ⟨hs_s o.1, hp⟩
theorem hr_10 {h : Nat → Option rx_E} {c l l' r : Nat} {pv : Value} (o : oHr h c l r pv) : oHr (rz_hs h c 10 (.ref l')) c l' r pv := ⟨hs_s o.1, o.2⟩
theorem hr_at {h h' : Nat → Option rx_E} {c l r : Nat} {pv : Value} (o : oHr h c l r pv) (e : h' c = h c) : oHr h' c l r pv := ⟨by rw [e]; exact o.1, o.2⟩
theorem mm_at {h h' : Nat → Option rx_E} {a r : Nat} {pv : Value} (o : oMm h a r pv) (e : h' a = h a) : oMm h' a r pv := ⟨by rw [e]; exact o.1, o.2⟩
section CI2
variable {Z : rx_Z} {d : Nat} {h : Nat → Option rx_E} {ι : Nat → Nat → Int32} {w : Nat × Nat} {nx c b n : Nat} {pl : Int32} {R : Nat → Int32} {C K : List (Nat × Nat)} {H : List (Nat → Int32)} {G : List ((Nat → Int32) × List (Nat → Int32))} {ld rs ns il : Int32}
/-- another realm, another past, other images: all else is as it was -/
theorem CI.re {h' : Nat → Option rx_E} {ι' : Nat → Nat → Int32} {nx' r' : Nat} {pv' : Value} {R' : Nat → Int32} {H' : List (Nat → Int32)} {G' : List ((Nat → Int32) × List (Nat → Int32))} {ld' rs' : Int32} (i : CI Z h ι nx c b n pl R C K H G ld rs ns il) (hn : nx ≤ nx') (e : ∀ a, a < nx → a ≠ c → a ≠ c + 32 → h' a = h a ∧ ι' a = ι a) (ho : ∀ l r pv, oHr h c l r pv → oHr h' c l r' pv') (hr : rmI h' ι' nx' c b r' R') (hc : chI h' ι' nx' c b H' pv') (hg : gmI h' ι' nx' c b G') (hx : okX n R' C K H' G') (g1 : ι' c 13 = nI G'.length) (g2 : ι' c 14 = ld') (g3 : ι' c 15 = rs') (g4 : ι' c 16 = ι c 16) (g5 : ι' c 17 = ι c 17) : CI Z h' ι' nx' c b n pl R' C K H' G' ld' rs' ns il := by
  obtain ⟨i1, i2, i3, i4, i5, i6, ⟨f1, f2, f3, f4, f5, f6, f7, f8, f9, f10⟩, l, l', r, pv, d1, d2, d3, d4, d5, d6, d7⟩ := i
  have l1 : lwIs ι' l (efL C) := ⟨by rw [(e l (by omega) (by omega) (by omega)).2]; exact d4.1, fun j hj => by rw [(e (l + 1) (by omega) (by omega) (by omega)).2]; exact d4.2.1 j hj, d4.2.2⟩
  have ec1 := (e (c + 1) (by omega) (by omega) (by omega)).2
  refine ⟨i1, i2, by omega, i4.ag (fun a ha => e a (by omega) (by omega) (by omega)), i5.ag (fun a a1 a2 a3 a4 => (e a (by omega) (by omega) (by omega)).1), hx, ⟨g1, g2, g3, by rw [g4]; exact f4, by rw [g5]; exact f5, by rw [ec1]; exact f6, by rw [ec1]; exact f7, fun q hq => by rw [(e (c + 14) (by omega) (by omega) (by omega)).2]; exact f8 q hq, by rw [(e (c + 13) (by omega) (by omega) (by omega)).2]; exact f9, fun x => by rw [(e (c + 2) (by omega) (by omega) (by omega)).2]; exact f10 x⟩, l, l', r', pv', ho l r pv d1, d2, ?_, l1, hr, hc, hg⟩
  show h' (c + 4) = _
  rw [(e (c + 4) (by omega) (by omega) (by omega)).1]; exact d3
theorem ci_undo0 (i : CI Z h ι nx c b n pl R C K [] G ld rs ns il) : rz_f Z (d + 2) 126 [.ref c] (rz_mk h ι, w) = some (.inl (some (.int (-1))), (rz_mk h ι, w)) := by
  obtain ⟨i1, i2, i3, i4, i5, i6, i7, l, l', r, pv, d1, d2, d3, d4, d5, d6, d7⟩ := i
  have e : pv = .null := d6
  subst e
  rw [e126]
  simp (decide := true) (maxDischargeDepth := 4) only [g126_0, g126_1, g126_4, g126_4n, g126_7, g126_8, g126_9, g126_10, g126_11, g126_14, g126_17, g126_20, g126_21, g126_22, g126_25, g126_28, g126_31, g126_32, g126_33, g126_36, g126_37, g126_40, rz_k_inl, rz_k_inr, Option.toList_some, Option.toList_none, List.cons_append, List.nil_append, List.append_nil, rz_up_s, rz_u_s, rz_up_n, rz_u_n, ne_eq, not_false_eq_true, not_true_eq_false, Nat.add_assoc, Nat.reduceAdd, reduceIte, Nat.add_eq_left, Nat.left_eq_add, Nat.add_left_cancel_iff, Nat.reduceEqDiff, Nat.add_right_cancel_iff, rz_nb0, rz_nb1, rz_nbb, rz_nbi, rz_isr, rz_zle, if_true, if_false, rz_bi0, rz_bi1, Bool.not_eq_true, Bool.not_eq_false, Bool.true_eq_false, Bool.false_eq_true, rz_ix_lit, cl_lit, Nat.reduceLT, bi_t, bi_f, decide_true, decide_false, Bool.not_false, Bool.not_true, Bool.and_true, Bool.true_and, Bool.and_false, Bool.false_and, oHr_c d1, oHr_f0 d1, oHr_v0 d1, oHr_f1 d1, oHr_v1 d1, oHr_f2 d1, oHr_v2 d1, oHr_f3 d1, oHr_v3 d1, oHr_f4 d1, oHr_v4 d1, oHr_f5 d1, oHr_v5 d1, oHr_f6 d1, oHr_v6 d1, oHr_f7 d1, oHr_v7 d1, oHr_f8 d1, oHr_v8 d1, oHr_f9 d1, oHr_v9 d1, oHr_f10 d1, oHr_v10 d1, oHr_f11 d1, oHr_v11 d1, oHr_f12 d1, oHr_v12 d1, oHr_i13 d1, oHr_i14 d1, oHr_i15 d1, oHr_i16 d1, oHr_i17 d1, d1]
theorem ci_undo1 {R' : Nat → Int32} (i : CI Z h ι nx c b n pl R C K (R' :: H) G ld rs ns il) : ∃ h' ι', rz_f Z (d + 2) 126 [.ref c] (rz_mk h ι, w) = some (.inl (some (.int (nI H.length))), (rz_mk h' ι', w)) ∧ CI Z h' ι' nx c b n pl R' C K H G ld 0 ns il ∧ clF b h h' ι ι' ∧ ι' (c + 2) = ι (c + 2) := by
  have ii := i
  obtain ⟨i1, i2, i3, i4, i5, ⟨x1, x2, x3, x4, x5, x6, x7, x8⟩, ⟨f1, f2, f3, f4, f5, f6, f7, f8, f9, f10⟩, l, l', r, pv, d1, d2, d3, d4, d5, d6, d7⟩ := i
  obtain ⟨a, r', pv', j1, j2, j3, j4, j5, j6, j7⟩ := d6
  subst j1
  have o1 : oHr (rz_hs h c 11 (.ref r')) c l r' (.ref a) := hr_11 d1
  have o2 : oHr (rz_hs (rz_hs h c 11 (.ref r')) c 12 pv') c l r' pv' := hr_12 o1 j2.2
  have m1 : oMm (rz_hs h c 11 (.ref r')) a r' pv' := mm_at j2 (hs_ne (by omega))
  have e : ∀ x, x ≠ c → rz_hs (rz_hs h c 11 (.ref r')) c 12 pv' x = h x ∧ rz_up ι c 15 0 x = ι x := fun x hx => ⟨(hs_ne hx).trans (hs_ne hx), rz_up_n hx⟩
  have k : agK h (rz_hs (rz_hs h c 11 (.ref r')) c 12 pv') ι (rz_up ι c 15 0) nx c b := fun x hx _ => e x (by omega)
  have hc' : CI Z (rz_hs (rz_hs h c 11 (.ref r')) c 12 pv') (rz_up ι c 15 0) nx c b n pl R' C K H G ld 0 ns il := by
    refine ii.re (Nat.le_refl _) (fun x _ hx _ => e x hx) (r' := r') (pv' := pv') (fun l0 r0 pv0 ho => hr_12 (hr_11 ho) j2.2) (j6.ag k (Nat.le_refl _)) (chI.ag k (Nat.le_refl _) H pv' j7) (d7.ag k (Nat.le_refl _) (e _ (by omega)).1) ⟨x1, x6 R' (List.mem_cons_self ..), x3, x4, by simp only [List.length_cons] at x5; omega, fun y hy => x6 y (List.mem_cons_of_mem _ hy), x7, x8⟩ ?_ ?_ ?_ ?_ ?_
    · rw [rz_up_s, rz_u_n (by omega)]; exact f1
    · rw [rz_up_s, rz_u_n (by omega)]; exact f2
    · rw [rz_up_s, rz_u_s]
    · rw [rz_up_s, rz_u_n (by omega)]
    · rw [rz_up_s, rz_u_n (by omega)]
  refine ⟨_, _, ?_, hc', fun x x1 _ => e x (by omega), (e (c + 2) (by omega)).2⟩
  have wd := ci_worksDone (d := d) (w := w) hc'
  rw [e126]
  simp (decide := true) (maxDischargeDepth := 4) only [g126_0, g126_1, g126_4, g126_4n, g126_7, g126_8, g126_9, g126_10, g126_11, g126_14, g126_17, g126_20, g126_21, g126_22, g126_25, g126_28, g126_31, g126_32, g126_33, g126_36, g126_37, g126_40, rz_k_inl, rz_k_inr, Option.toList_some, Option.toList_none, List.cons_append, List.nil_append, List.append_nil, rz_up_s, rz_u_s, rz_up_n, rz_u_n, ne_eq, not_false_eq_true, not_true_eq_false, Nat.add_assoc, Nat.reduceAdd, reduceIte, Nat.add_eq_left, Nat.left_eq_add, Nat.add_left_cancel_iff, Nat.reduceEqDiff, Nat.add_right_cancel_iff, rz_nb0, rz_nb1, rz_nbb, rz_nbi, rz_isr, rz_zle, if_true, if_false, rz_bi0, rz_bi1, Bool.not_eq_true, Bool.not_eq_false, Bool.true_eq_false, Bool.false_eq_true, rz_ix_lit, cl_lit, Nat.reduceLT, bi_t, bi_f, decide_true, decide_false, Bool.not_false, Bool.not_true, Bool.and_true, Bool.true_and, Bool.and_false, Bool.false_and, oHr_c d1, oHr_f0 d1, oHr_v0 d1, oHr_f1 d1, oHr_v1 d1, oHr_f2 d1, oHr_v2 d1, oHr_f3 d1, oHr_v3 d1, oHr_f4 d1, oHr_v4 d1, oHr_f5 d1, oHr_v5 d1, oHr_f6 d1, oHr_v6 d1, oHr_f7 d1, oHr_v7 d1, oHr_f8 d1, oHr_v8 d1, oHr_f9 d1, oHr_v9 d1, oHr_f10 d1, oHr_v10 d1, oHr_f11 d1, oHr_v11 d1, oHr_f12 d1, oHr_v12 d1, oHr_i13 d1, oHr_i14 d1, oHr_i15 d1, oHr_i16 d1, oHr_i17 d1, oHr_c o1, oHr_f0 o1, oHr_v0 o1, oHr_f1 o1, oHr_v1 o1, oHr_f2 o1, oHr_v2 o1, oHr_f3 o1, oHr_v3 o1, oHr_f4 o1, oHr_v4 o1, oHr_f5 o1, oHr_v5 o1, oHr_f6 o1, oHr_v6 o1, oHr_f7 o1, oHr_v7 o1, oHr_f8 o1, oHr_v8 o1, oHr_f9 o1, oHr_v9 o1, oHr_f10 o1, oHr_v10 o1, oHr_f11 o1, oHr_v11 o1, oHr_f12 o1, oHr_v12 o1, oHr_i13 o1, oHr_i14 o1, oHr_i15 o1, oHr_i16 o1, oHr_i17 o1, oHr_c o2, oHr_f0 o2, oHr_v0 o2, oHr_f1 o2, oHr_v1 o2, oHr_f2 o2, oHr_v2 o2, oHr_f3 o2, oHr_v3 o2, oHr_f4 o2, oHr_v4 o2, oHr_f5 o2, oHr_v5 o2, oHr_f6 o2, oHr_v6 o2, oHr_f7 o2, oHr_v7 o2, oHr_f8 o2, oHr_v8 o2, oHr_f9 o2, oHr_v9 o2, oHr_f10 o2, oHr_v10 o2, oHr_f11 o2, oHr_v11 o2, oHr_f12 o2, oHr_v12 o2, oHr_i13 o2, oHr_i14 o2, oHr_i15 o2, oHr_i16 o2, oHr_i17 o2, oMm_c j2, oMm_f0 j2, oMm_v0 j2, oMm_f1 j2, oMm_v1 j2, oMm_i2 j2, oMm_c m1, oMm_f0 m1, oMm_v0 m1, oMm_f1 m1, oMm_v1 m1, oMm_i2 m1, d1, o1, o2, j2.2, wd, i1, g126_17 (oHr_f11 d1) isr_r i1, g126_28 (oHr_f12 o1) j2.2 i1]
/-- a moment is made -/
theorem mm_init {a r : Nat} {pv : Value} (hz : Z.2.1 ≤ a) (e : h a = some (.inr (7, rx_df 7))) (hc : chI h ι nx c b H pv) (hn : nx ≤ a) : ∃ h' ι', rz_f Z (d + 1) 64 [.ref a, .ref r, pv] (rz_mk h ι, w) = some (.inl none, (rz_mk h' ι', w)) ∧ oMm h' a r pv ∧ ι' a 2 = nI (H.length + 1) ∧ ∀ x, x ≠ a → h' x = h x ∧ ι' x = ι x := by
  have u1 : rz_hs h a 0 (.ref r) a = some (.inr (7, [.ref r, .null, .int 0])) := hs_s e
  have c1 : rz_fR h a 7 0 := ⟨_, _, e, rfl, rfl⟩
  have c2 : rz_fR (rz_hs h a 0 (.ref r)) a 7 1 := ⟨_, _, u1, rfl, rfl⟩
  have u2 : ∀ v, rz_hs (rz_hs h a 0 (.ref r)) a 1 v a = some (.inr (7, [.ref r, v, .int 0])) := fun v => hs_s u1
  have c3 : ∀ v, rz_fI (rz_hs (rz_hs h a 0 (.ref r)) a 1 v) a 7 2 := fun v => ⟨_, _, u2 v, rfl⟩
  cases H with
  | nil =>
    have e0 : pv = .null := hc
    subst e0
    refine ⟨rz_hs (rz_hs h a 0 (.ref r)) a 1 .null, rz_up ι a 2 1, ?_, ⟨u2 _, rfl⟩, by rw [rz_up_s, rz_u_s]; rfl, fun x hx => ⟨(hs_ne hx).trans (hs_ne hx), rz_up_n hx⟩⟩
    rw [e64n]
    try simp (decide := true) (maxDischargeDepth := 4) only [g64_0, g64_0n, g64_1, g64_4, g64_4n, g64_5, g64_5n, g64_6, g64_9, g64_9n, g64_10, g64_10n, g64_11, g64_14, g64_14n, g64_15, g64_15n, g64_16, g64_16n, g64_19, g64_20, g64_23, g64_23n, g64_24, g64_27, g64_28, g64_32, rz_join, rz_k_inl, rz_k_inr, Option.toList_some, Option.toList_none, List.cons_append, List.nil_append, List.append_nil, rz_up_s, rz_u_s, rz_up_n, rz_u_n, ne_eq, not_false_eq_true, not_true_eq_false, Nat.add_assoc, Nat.reduceAdd, reduceIte, Nat.add_eq_left, Nat.left_eq_add, Nat.add_left_cancel_iff, Nat.reduceEqDiff, Nat.add_right_cancel_iff, rz_nb0, rz_nb1, rz_nbb, rz_nbi, rz_isr, rz_zle, if_true, if_false, rz_bi0, rz_bi1, Bool.not_eq_true, Bool.not_eq_false, Bool.true_eq_false, Bool.false_eq_true, rz_ix_lit, cl_lit, Nat.reduceLT, bi_t, bi_f, decide_true, decide_false, Bool.not_false, Bool.not_true, Bool.and_true, Bool.true_and, Bool.and_false, Bool.false_and, g64_6 c1 isr_r hz, g64_11 c2 isr_n hz, c3, hz]
    try simp (decide := true) (maxDischargeDepth := 4) only [g64_0, g64_0n, g64_1, g64_4, g64_4n, g64_5, g64_5n, g64_6, g64_9, g64_9n, g64_10, g64_10n, g64_11, g64_14, g64_14n, g64_15, g64_15n, g64_16, g64_16n, g64_19, g64_20, g64_23, g64_23n, g64_24, g64_27, g64_28, g64_29, g64_32, rz_join, rz_k_inl, rz_k_inr, Option.toList_some, Option.toList_none, List.cons_append, List.nil_append, List.append_nil, rz_up_s, rz_u_s, rz_up_n, rz_u_n, ne_eq, not_false_eq_true, not_true_eq_false, Nat.add_assoc, Nat.reduceAdd, reduceIte, Nat.add_eq_left, Nat.left_eq_add, Nat.add_left_cancel_iff, Nat.reduceEqDiff, Nat.add_right_cancel_iff, rz_nb0, rz_nb1, rz_nbb, rz_nbi, rz_isr, rz_zle, if_true, if_false, rz_bi0, rz_bi1, Bool.not_eq_true, Bool.not_eq_false, Bool.true_eq_false, Bool.false_eq_true, rz_ix_lit, cl_lit, Nat.reduceLT, bi_t, bi_f, decide_true, decide_false, Bool.not_false, Bool.not_true, Bool.and_true, Bool.true_and, Bool.and_false, Bool.false_and, g64_6 c1 isr_r hz, g64_11 c2 isr_n hz, c3, hz]
  | cons R' H =>
    obtain ⟨a', r', pv', j1, j2, j3, j4, j5, j6, j7⟩ := hc
    subst j1
    have j4' : a' < nx := j4
    have m1 : oMm (rz_hs (rz_hs h a 0 (.ref r)) a 1 (.ref a')) a' r' pv' := mm_at j2 ((hs_ne (by omega)).trans (hs_ne (by omega)))
    refine ⟨rz_hs (rz_hs h a 0 (.ref r)) a 1 (.ref a'), rz_up ι a 2 (ι a' 2 + 1), ?_, ⟨u2 _, rfl⟩, by rw [rz_up_s, rz_u_s, j5]; exact (nI_succ _).symm, fun x hx => ⟨(hs_ne hx).trans (hs_ne hx), rz_up_n hx⟩⟩
    rw [e64]
    try simp (decide := true) (maxDischargeDepth := 4) only [g64_0, g64_0n, g64_1, g64_4, g64_4n, g64_5, g64_5n, g64_6, g64_9, g64_9n, g64_10, g64_10n, g64_11, g64_14, g64_14n, g64_15, g64_15n, g64_16, g64_16n, g64_19, g64_20, g64_23, g64_23n, g64_24, g64_27, g64_28, g64_32, rz_join, rz_k_inl, rz_k_inr, Option.toList_some, Option.toList_none, List.cons_append, List.nil_append, List.append_nil, rz_up_s, rz_u_s, rz_up_n, rz_u_n, ne_eq, not_false_eq_true, not_true_eq_false, Nat.add_assoc, Nat.reduceAdd, reduceIte, Nat.add_eq_left, Nat.left_eq_add, Nat.add_left_cancel_iff, Nat.reduceEqDiff, Nat.add_right_cancel_iff, rz_nb0, rz_nb1, rz_nbb, rz_nbi, rz_isr, rz_zle, if_true, if_false, rz_bi0, rz_bi1, Bool.not_eq_true, Bool.not_eq_false, Bool.true_eq_false, Bool.false_eq_true, rz_ix_lit, cl_lit, Nat.reduceLT, bi_t, bi_f, decide_true, decide_false, Bool.not_false, Bool.not_true, Bool.and_true, Bool.true_and, Bool.and_false, Bool.false_and, g64_6 c1 isr_r hz, g64_11 c2 isr_r hz, c3, hz, oMm_c m1, oMm_f0 m1, oMm_v0 m1, oMm_f1 m1, oMm_v1 m1, oMm_i2 m1]
    try simp (decide := true) (maxDischargeDepth := 4) only [g64_0, g64_0n, g64_1, g64_4, g64_4n, g64_5, g64_5n, g64_6, g64_9, g64_9n, g64_10, g64_10n, g64_11, g64_14, g64_14n, g64_15, g64_15n, g64_16, g64_16n, g64_19, g64_20, g64_23, g64_23n, g64_24, g64_27, g64_28, g64_29, g64_32, rz_join, rz_k_inl, rz_k_inr, Option.toList_some, Option.toList_none, List.cons_append, List.nil_append, List.append_nil, rz_up_s, rz_u_s, rz_up_n, rz_u_n, ne_eq, not_false_eq_true, not_true_eq_false, Nat.add_assoc, Nat.reduceAdd, reduceIte, Nat.add_eq_left, Nat.left_eq_add, Nat.add_left_cancel_iff, Nat.reduceEqDiff, Nat.add_right_cancel_iff, rz_nb0, rz_nb1, rz_nbb, rz_nbi, rz_isr, rz_zle, if_true, if_false, rz_bi0, rz_bi1, Bool.not_eq_true, Bool.not_eq_false, Bool.true_eq_false, Bool.false_eq_true, rz_ix_lit, cl_lit, Nat.reduceLT, bi_t, bi_f, decide_true, decide_false, Bool.not_false, Bool.not_true, Bool.and_true, Bool.true_and, Bool.and_false, Bool.false_and, g64_6 c1 isr_r hz, g64_11 c2 isr_r hz, c3, hz, oMm_c m1, oMm_f0 m1, oMm_v0 m1, oMm_f1 m1, oMm_v1 m1, oMm_i2 m1]
end CI2
