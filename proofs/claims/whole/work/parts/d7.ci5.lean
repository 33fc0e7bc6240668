/-! the class reads a law -/
def bgI (t e : Nat) (ι ι1 : Nat → Nat → Int32) : Prop := ι1 t 1 = nI e ∧ ι1 t 2 = 0 ∧ ι1 t 4 = 0 ∧ ι1 t 6 = -1 ∧ ι1 t 5 = 0 ∧ ∀ x, x ≠ t → ι1 x = ι x
def sxC (c l' x : Nat) : Prop := x = c + 3 ∨ (c + 9 ≤ x ∧ x ≤ c + 12) ∨ x = c + 15 ∨ (l' ≤ x ∧ x ≤ l' + 3)
section CI5
variable {Z : rx_Z} {d : Nat} {h : Nat → Option rx_E} {ι : Nat → Nat → Int32} {w : Nat × Nat} {nx c b n : Nat} {pl : Int32} {R : Nat → Int32} {C K : List (Nat × Nat)} {H : List (Nat → Int32)} {G : List ((Nat → Int32) × List (Nat → Int32))} {ld rs ns il : Int32}
theorem tp_beginE {t n : Nat} (ht : oTp h t) (hz : Z.2.1 ≤ t) (hn : n ≤ 600) : ∃ ι1, rz_f Z (d + 1) 89 [.ref t, .int (nI n)] (rz_mk h ι, w) = some (.inl none, (rz_mk h ι1, w)) ∧ bgI t n ι ι1 := by
  refine ⟨_, tp_begin ht hz hn, ?_⟩
  refine ⟨?_, ?_, ?_, ?_, ?_, fun x hx => ?_⟩
  · simp only [rz_up_s, rz_u_s, rz_u_n, ne_eq, Nat.reduceEqDiff, not_false_eq_true]
  · simp only [rz_up_s, rz_u_s, rz_u_n, ne_eq, Nat.reduceEqDiff, not_false_eq_true]
  · simp only [rz_up_s, rz_u_s, rz_u_n, ne_eq, Nat.reduceEqDiff, not_false_eq_true]
  · simp only [rz_up_s, rz_u_s, rz_u_n, ne_eq, Nat.reduceEqDiff, not_false_eq_true]
  · simp only [rz_up_s, rz_u_s, rz_u_n, ne_eq, Nat.reduceEqDiff, not_false_eq_true]
  · rw [rz_up_n hx, rz_up_n hx, rz_up_n hx, rz_up_n hx, rz_up_n hx]
theorem oLt.inj {h : Nat → Option rx_E} {a t l t0 l0 : Nat} (o : oLt h a t l) (o' : oLt h a t0 l0) : l0 = l := by
  have e := o'.symm.trans o
  simp only [Option.some.injEq, Sum.inr.injEq, Prod.mk.injEq, List.cons.injEq, Value.ref.injEq, true_and, and_true] at e
  exact e.2
/-- a text was read: the tape and the readers' own cells changed -/
theorem CI.tx {ι' : Nat → Nat → Int32} {l' n' : Nat} {pl' : Int32} (i : CI Z h ι nx c b n pl R C K H G ld rs ns il) (ol : oLt h (c + 4) (c + 1) l') (e : ∀ x, x ≠ c + 1 → ¬ sxC c l' x → ι' x = ι x) (f6' : ι' (c + 1) 5 = nI n') (f7' : ι' (c + 1) 6 = pl') (hn : n' ≤ 600) : CI Z h ι' nx c b n' pl' R C K H G ld rs ns il := by
  obtain ⟨i1, i2, i3, i4, i5, ⟨-, x2⟩, ⟨f1, f2, f3, f4, f5, f6, f7, f8, f9, f10⟩, l, l'', r, pv, d1, d2, d3, d4, d5, d6, d7⟩ := i
  have hl := d3.inj ol
  subst hl
  have k : agK h h ι ι' nx c b := fun a a1 _ => ⟨rfl, e a (by omega) (by unfold sxC; omega)⟩
  have ec := e c (by omega) (by unfold sxC; omega)
  have l1 : lwIs ι' l (efL C) := ⟨by rw [e l (by omega) (by unfold sxC; omega)]; exact d4.1, fun j hj => by rw [e (l + 1) (by omega) (by unfold sxC; omega)]; exact d4.2.1 j hj, d4.2.2⟩
  exact ⟨i1, i2, i3, i4.ag (fun a ha => ⟨rfl, e a (by omega) (by unfold sxC; omega)⟩), i5, ⟨hn, x2⟩, ⟨by rw [ec]; exact f1, by rw [ec]; exact f2, by rw [ec]; exact f3, by rw [ec]; exact f4, by rw [ec]; exact f5, f6', f7', fun q hq => by rw [e (c + 14) (by omega) (by unfold sxC; omega)]; exact f8 q hq, by rw [e (c + 13) (by omega) (by unfold sxC; omega)]; exact f9, fun x => by rw [e (c + 2) (by omega) (by unfold sxC; omega)]; exact f10 x⟩, l, _, r, pv, d1, d2, d3, l1, d5.ag k (Nat.le_refl _), chI.ag k (Nat.le_refl _) H pv d6, d7.ag k (Nat.le_refl _) rfl⟩
theorem ci_law_no (i : CI Z h ι nx c b n pl R C K H G ld rs ns il) (x : Int32) (hx : x < 0 ∨ (if 150 < nI n then 150 else nI n) < x) : refC Z (d + 36) h ι w c 122 [.int x] 0 := by
  obtain ⟨i1, i2, i3, i4, ⟨p1, -⟩, i6, ⟨f1, f2, f3, f4, f5, f6, -⟩, l, l', r, pv, d1, -⟩ := i
  have nt := hr_needText (d := d + 33) (ι := ι) (w := w) d1 p1 i1 x 150
  rw [f6, if_pos hx] at nt
  unfold refC
  rw [e122]
  simp (decide := true) (maxDischargeDepth := 4) only [g122_0, g122_1, g122_2, g122_5, g122_8, g122_9, g122_12, g122_13, g122_16, g122_17, g122_20, g122_23, g122_26, g122_27, g122_30, g122_33, g122_34, g122_35, g122_36, g122_39, g122_40, g122_43, g122_46, g122_49, g122_50, rz_k_inl, rz_k_inr, Option.toList_some, Option.toList_none, List.cons_append, List.nil_append, List.append_nil, rz_up_s, rz_u_s, rz_up_n, rz_u_n, ne_eq, not_false_eq_true, not_true_eq_false, Nat.add_assoc, Nat.reduceAdd, reduceIte, Nat.add_eq_left, Nat.left_eq_add, Nat.add_left_cancel_iff, Nat.reduceEqDiff, Nat.add_right_cancel_iff, rz_nb0, rz_nb1, rz_nbb, rz_nbi, rz_isr, rz_zle, if_true, if_false, rz_bi0, rz_bi1, Bool.not_eq_true, Bool.not_eq_false, Bool.true_eq_false, Bool.false_eq_true, rz_ix_lit, cl_lit, Nat.reduceLT, bi_t, bi_f, decide_true, decide_false, Bool.not_false, Bool.not_true, Bool.and_true, Bool.true_and, Bool.and_false, Bool.false_and, oHr_c d1, oHr_f0 d1, oHr_v0 d1, oHr_f1 d1, oHr_v1 d1, oHr_f2 d1, oHr_v2 d1, oHr_f3 d1, oHr_v3 d1, oHr_f4 d1, oHr_v4 d1, oHr_f5 d1, oHr_v5 d1, oHr_f6 d1, oHr_v6 d1, oHr_f7 d1, oHr_v7 d1, oHr_f8 d1, oHr_v8 d1, oHr_f9 d1, oHr_v9 d1, oHr_f10 d1, oHr_v10 d1, oHr_f11 d1, oHr_v11 d1, oHr_f12 d1, oHr_v12 d1, oHr_i13 d1, oHr_i14 d1, oHr_i15 d1, oHr_i16 d1, oHr_i17 d1, d1, nt]
theorem nI_min {e n m : Nat} (he : e ≤ n) (hm : e ≤ m) (hn : n < 2147483648) (hm2 : m < 2147483648) : ¬ (nI e < 0 ∨ (if nI m < nI n then nI m else nI n) < nI e) := by
  rintro (h1 | h1)
  · rw [nI_nn (by omega)] at h1; exact h1
  · split at h1
    · rw [nI_lt2 (by omega) (by omega)] at h1; omega
    · rw [nI_lt2 (by omega) (by omega)] at h1; omega
theorem ci_law {e : Nat} (i : CI Z h ι nx c b n pl R C K H G ld rs ns il) (he : e ≤ n) (he2 : e ≤ 150) : match lwX (ι (c + 2)) e with
    | .inl C' => ∃ h' ι', rz_f Z (d + 36) 122 [.ref c, .int (nI e)] (rz_mk h ι, w) = some (.inl (some (.int 1)), (rz_mk h' ι', w)) ∧ CI Z h' ι' nx c b 0 (-1) R C' K H G ld rs ns il ∧ clF b h h' ι ι' ∧ ι' (c + 2) = ι (c + 2)
    | .inr f => ∃ ι', rz_f Z (d + 36) 122 [.ref c, .int (nI e)] (rz_mk h ι, w) = some (.inl (some (.int (nI f.1 - 10))), (rz_mk h ι', w)) ∧ CI Z h ι' nx c b 0 (nI f.2) R C K H G ld rs ns il ∧ clF b h h ι ι' ∧ ι' (c + 2) = ι (c + 2) := by
  have ii := i
  obtain ⟨i1, i2, i3, i4, i5, i6, ⟨f1, f2, f3, f4, f5, f6, f7, f8, f9, f10⟩, l, l', r, pv, d1, d2, d3, d4, d5, d6, d7⟩ := i
  obtain ⟨p1, p2, p3, p4, p5, p6, p7, p8, p9, p10⟩ := i5
  have p5c : clL h c := ⟨p1, p2, p3, p4, p5, p6, p7, p8, p9, p10⟩
  have ol' : oLw h l' := by
    rcases d2 with ⟨-, z⟩ | ⟨-, z⟩
    · rw [z]; exact p10
    · rw [z]; exact p9
  have hn6 : n ≤ 600 := i6.1
  have nt := hr_needText (d := d + 33) (ι := ι) (w := w) d1 p1 i1 (nI e) 150
  have hmn : ¬ (nI e < 0 ∨ (if 150 < nI n then 150 else nI n) < nI e) := nI_min (m := 150) he he2 (by omega) (by decide)
  rw [f6, if_neg hmn] at nt
  obtain ⟨ι1, b1, B1, B2, B3, B4, B5, B6⟩ := tp_beginE (Z := Z) (d := d + 34) (ι := ι) (w := w) p1 (show Z.2.1 ≤ c + 1 by omega) (show e ≤ 600 by omega)
  have e2 : ι1 (c + 1 + 1) = ι (c + 2) := B6 _ (by omega)
  have O : lqO Z h (c + 1) (c + 4) l' := ⟨d3, p1, ol', by omega, by omega⟩
  have rd := lq_reads (d := d) (w := w) (ι := ι1) i4.st O B1 B2 he2 (fun x => by rw [e2]; exact f10 x)
  rw [e2] at rd
  cases hX : lwX (ι (c + 2)) e with
  | inr f =>
    rw [hX] at rd
    obtain ⟨ι2, r1, ⟨t1, t2, t3⟩, t4, t5⟩ := rd
    have e3 : ∀ x, x ≠ c + 1 → ¬ sxC c l' x → ι2 x = ι x := fun x h1 h2 => (t1 x h1 (by unfold sxC at h2; omega)).trans (B6 x h1)
    have v1 := tp_verdict (Z := Z) (d := d + 34) (w := w) (ι := ι2) p1
    rw [t4] at v1
    refine ⟨ι2, ?_, ii.tx d3 e3 (n' := 0) (by rw [t3, B5]; rfl) t5 (by omega), fun a a1 a2 => ⟨rfl, e3 a (by omega) (by unfold sxC; omega)⟩, e3 _ (by omega) (by unfold sxC; omega)⟩
    rw [e122]
    simp (decide := true) (maxDischargeDepth := 4) only [g122_0, g122_1, g122_2, g122_5, g122_8, g122_9, g122_12, g122_13, g122_16, g122_17, g122_20, g122_23, g122_26, g122_27, g122_30, g122_33, g122_34, g122_35, g122_36, g122_39, g122_40, g122_43, g122_46, g122_49, g122_50, rz_k_inl, rz_k_inr, Option.toList_some, Option.toList_none, List.cons_append, List.nil_append, List.append_nil, rz_up_s, rz_u_s, rz_up_n, rz_u_n, ne_eq, not_false_eq_true, not_true_eq_false, Nat.add_assoc, Nat.reduceAdd, reduceIte, Nat.add_eq_left, Nat.left_eq_add, Nat.add_left_cancel_iff, Nat.reduceEqDiff, Nat.add_right_cancel_iff, rz_nb0, rz_nb1, rz_nbb, rz_nbi, rz_isr, rz_zle, if_true, if_false, rz_bi0, rz_bi1, Bool.not_eq_true, Bool.not_eq_false, Bool.true_eq_false, Bool.false_eq_true, rz_ix_lit, cl_lit, Nat.reduceLT, bi_t, bi_f, decide_true, decide_false, Bool.not_false, Bool.not_true, Bool.and_true, Bool.true_and, Bool.and_false, Bool.false_and, oHr_c d1, oHr_f0 d1, oHr_v0 d1, oHr_f1 d1, oHr_v1 d1, oHr_f2 d1, oHr_v2 d1, oHr_f3 d1, oHr_v3 d1, oHr_f4 d1, oHr_v4 d1, oHr_f5 d1, oHr_v5 d1, oHr_f6 d1, oHr_v6 d1, oHr_f7 d1, oHr_v7 d1, oHr_f8 d1, oHr_v8 d1, oHr_f9 d1, oHr_v9 d1, oHr_f10 d1, oHr_v10 d1, oHr_f11 d1, oHr_v11 d1, oHr_f12 d1, oHr_v12 d1, oHr_i13 d1, oHr_i14 d1, oHr_i15 d1, oHr_i16 d1, oHr_i17 d1, oTp_c, oTp_f0, oTp_v0, oTp_i1, oTp_i2, oTp_i3, oTp_i4, oTp_i5, oTp_i6, oTp_a1, oTp_n1, oLt_c d3, oLt_f0 d3, oLt_v0 d3, oLt_f1 d3, oLt_v1 d3, p1, d1, nt, b1, r1, v1]
  | inl C' =>
    rw [hX] at rd
    obtain ⟨ι2, p, r1, ⟨t1, t2, t3⟩, t4, t5, t6, t7, t8⟩ := rd
    have hok := lwX_ok he2 hX
    have e3 : ∀ x, x ≠ c + 1 → ¬ sxC c l' x → ι2 x = ι x := fun x h1 h2 => (t1 x h1 (by unfold sxC at h2; omega)).trans (B6 x h1)
    have z3 : rz_hs h (c + 4) 1 (.ref l) (c + 4) = some (.inr (6, [.ref (c + 1), .ref l])) := hs_s d3
    have o1 : oHr (rz_hs h (c + 4) 1 (.ref l)) c l r pv := hr_at d1 (hs_ne (by omega))
    have o2 : oHr (rz_hs (rz_hs h (c + 4) 1 (.ref l)) c 10 (.ref l')) c l' r pv := hr_10 o1
    have eh : ∀ x, x ≠ c → x ≠ c + 4 → rz_hs (rz_hs h (c + 4) 1 (.ref l)) c 10 (.ref l') x = h x := fun x h1 h2 => (hs_ne h1).trans (hs_ne h2)
    have ec := e3 c (by omega) (by unfold sxC; omega)
    have k : agK h (rz_hs (rz_hs h (c + 4) 1 (.ref l)) c 10 (.ref l')) ι ι2 nx c b := fun a a1 _ => ⟨eh a (by omega) (by omega), e3 a (by omega) (by unfold sxC; omega)⟩
    have ef : efL C' = C' := by
      unfold efL; rw [if_neg]; intro h0; subst h0; exact absurd hok.2.1 (by decide)
    refine ⟨rz_hs (rz_hs h (c + 4) 1 (.ref l)) c 10 (.ref l'), ι2, ?_, ⟨i1, i2, i3, i4.ag (fun a ha => ⟨eh a (by omega) (by omega), e3 a (by omega) (by unfold sxC; omega)⟩), p5c.ag (fun a a1 a2 a3 a4 => eh a (by omega) a2), ⟨by omega, i6.2.1, Or.inr hok, i6.2.2.2⟩, ⟨by rw [ec]; exact f1, by rw [ec]; exact f2, by rw [ec]; exact f3, by rw [ec]; exact f4, by rw [ec]; exact f5, by rw [t3, B5]; rfl, by rw [t5, B4], fun q hq => by rw [e3 (c + 14) (by omega) (by unfold sxC; omega)]; exact f8 q hq, by rw [e3 (c + 13) (by omega) (by unfold sxC; omega)]; exact f9, fun x => by rw [e3 (c + 2) (by omega) (by unfold sxC; omega)]; exact f10 x⟩, l', l, r, pv, o2, by omega, (hs_ne (by omega)).trans z3, ⟨by rw [ef]; exact t7, by rw [ef]; exact t8, by rw [ef]; exact hok⟩, d5.ag k (Nat.le_refl _), chI.ag k (Nat.le_refl _) H pv d6, d7.ag k (Nat.le_refl _) (eh _ (by omega) (by omega))⟩, fun a a1 a2 => ⟨eh a (by omega) (by omega), e3 a (by omega) (by unfold sxC; omega)⟩, e3 _ (by omega) (by unfold sxC; omega)⟩
    have x1 : rz_f Z (d + 34 + 1) 55 [.ref (c + 4), .ref l] (rz_mk h ι2, w) = some (.inl (some (.ref l')), (rz_mk (rz_hs h (c + 4) 1 (.ref l)) ι2, w)) := by
      rw [e55]
      simp (decide := true) (maxDischargeDepth := 4) only [g55_0, g55_1, g55_4, g55_5, g55_6, g55_7, g55_10, g55_11, rz_k_inl, rz_k_inr, Option.toList_some, Option.toList_none, List.cons_append, List.nil_append, List.append_nil, rz_up_s, rz_u_s, rz_up_n, rz_u_n, ne_eq, not_false_eq_true, not_true_eq_false, Nat.add_assoc, Nat.reduceAdd, reduceIte, Nat.add_eq_left, Nat.left_eq_add, Nat.add_left_cancel_iff, Nat.reduceEqDiff, Nat.add_right_cancel_iff, rz_nb0, rz_nb1, rz_nbb, rz_nbi, rz_isr, rz_zle, if_true, if_false, rz_bi0, rz_bi1, Bool.not_eq_true, Bool.not_eq_false, Bool.true_eq_false, Bool.false_eq_true, rz_ix_lit, cl_lit, Nat.reduceLT, bi_t, bi_f, decide_true, decide_false, Bool.not_false, Bool.not_true, Bool.and_true, Bool.true_and, Bool.and_false, Bool.false_and, oLt_c d3, oLt_f0 d3, oLt_v0 d3, oLt_f1 d3, oLt_v1 d3, g55_7 (oLt_f1 d3) isr_r (show Z.2.1 ≤ c + 4 by omega)]
    rw [e122]
    simp (decide := true) (maxDischargeDepth := 4) only [g122_0, g122_1, g122_2, g122_5, g122_8, g122_9, g122_12, g122_13, g122_16, g122_17, g122_20, g122_23, g122_26, g122_27, g122_30, g122_33, g122_34, g122_35, g122_36, g122_39, g122_40, g122_43, g122_46, g122_49, g122_50, rz_k_inl, rz_k_inr, Option.toList_some, Option.toList_none, List.cons_append, List.nil_append, List.append_nil, rz_up_s, rz_u_s, rz_up_n, rz_u_n, ne_eq, not_false_eq_true, not_true_eq_false, Nat.add_assoc, Nat.reduceAdd, reduceIte, Nat.add_eq_left, Nat.left_eq_add, Nat.add_left_cancel_iff, Nat.reduceEqDiff, Nat.add_right_cancel_iff, rz_nb0, rz_nb1, rz_nbb, rz_nbi, rz_isr, rz_zle, if_true, if_false, rz_bi0, rz_bi1, Bool.not_eq_true, Bool.not_eq_false, Bool.true_eq_false, Bool.false_eq_true, rz_ix_lit, cl_lit, Nat.reduceLT, bi_t, bi_f, decide_true, decide_false, Bool.not_false, Bool.not_true, Bool.and_true, Bool.true_and, Bool.and_false, Bool.false_and, oHr_c d1, oHr_f0 d1, oHr_v0 d1, oHr_f1 d1, oHr_v1 d1, oHr_f2 d1, oHr_v2 d1, oHr_f3 d1, oHr_v3 d1, oHr_f4 d1, oHr_v4 d1, oHr_f5 d1, oHr_v5 d1, oHr_f6 d1, oHr_v6 d1, oHr_f7 d1, oHr_v7 d1, oHr_f8 d1, oHr_v8 d1, oHr_f9 d1, oHr_v9 d1, oHr_f10 d1, oHr_v10 d1, oHr_f11 d1, oHr_v11 d1, oHr_f12 d1, oHr_v12 d1, oHr_i13 d1, oHr_i14 d1, oHr_i15 d1, oHr_i16 d1, oHr_i17 d1, oHr_c o1, oHr_f0 o1, oHr_v0 o1, oHr_f1 o1, oHr_v1 o1, oHr_f2 o1, oHr_v2 o1, oHr_f3 o1, oHr_v3 o1, oHr_f4 o1, oHr_v4 o1, oHr_f5 o1, oHr_v5 o1, oHr_f6 o1, oHr_v6 o1, oHr_f7 o1, oHr_v7 o1, oHr_f8 o1, oHr_v8 o1, oHr_f9 o1, oHr_v9 o1, oHr_f10 o1, oHr_v10 o1, oHr_f11 o1, oHr_v11 o1, oHr_f12 o1, oHr_v12 o1, oHr_i13 o1, oHr_i14 o1, oHr_i15 o1, oHr_i16 o1, oHr_i17 o1, oTp_c, oTp_f0, oTp_v0, oTp_i1, oTp_i2, oTp_i3, oTp_i4, oTp_i5, oTp_i6, oTp_a1, oTp_n1, oLt_c d3, oLt_f0 d3, oLt_v0 d3, oLt_f1 d3, oLt_v1 d3, p1, d1, nt, b1, r1, x1, g122_46 (oHr_f10 o1) isr_r i1]
theorem ci_book_no (i : CI Z h ι nx c b n pl R C K H G ld rs ns il) (x : Int32) (hx : x < 0 ∨ (if 60 < nI n then 60 else nI n) < x) : refC Z (d + 6) h ι w c 124 [.int x] 0 := by
  obtain ⟨i1, i2, i3, i4, ⟨p1, -⟩, i6, ⟨f1, f2, f3, f4, f5, f6, -⟩, l, l', r, pv, d1, -⟩ := i
  have nt := hr_needText (d := d + 3) (ι := ι) (w := w) d1 p1 i1 x 60
  rw [f6, if_pos hx] at nt
  unfold refC
  rw [e124]
  simp (decide := true) (maxDischargeDepth := 4) only [g124_0, g124_1, g124_2, g124_4, g124_7, g124_8, g124_11, g124_12, g124_15, g124_16, g124_19, g124_20, g124_23, g124_26, g124_29, g124_30, g124_33, g124_36, g124_37, g124_38, g124_41, g124_44, rz_k_inl, rz_k_inr, Option.toList_some, Option.toList_none, List.cons_append, List.nil_append, List.append_nil, rz_up_s, rz_u_s, rz_up_n, rz_u_n, ne_eq, not_false_eq_true, not_true_eq_false, Nat.add_assoc, Nat.reduceAdd, reduceIte, Nat.add_eq_left, Nat.left_eq_add, Nat.add_left_cancel_iff, Nat.reduceEqDiff, Nat.add_right_cancel_iff, rz_nb0, rz_nb1, rz_nbb, rz_nbi, rz_isr, rz_zle, if_true, if_false, rz_bi0, rz_bi1, Bool.not_eq_true, Bool.not_eq_false, Bool.true_eq_false, Bool.false_eq_true, rz_ix_lit, cl_lit, Nat.reduceLT, bi_t, bi_f, decide_true, decide_false, Bool.not_false, Bool.not_true, Bool.and_true, Bool.true_and, Bool.and_false, Bool.false_and, oHr_c d1, oHr_f0 d1, oHr_v0 d1, oHr_f1 d1, oHr_v1 d1, oHr_f2 d1, oHr_v2 d1, oHr_f3 d1, oHr_v3 d1, oHr_f4 d1, oHr_v4 d1, oHr_f5 d1, oHr_v5 d1, oHr_f6 d1, oHr_v6 d1, oHr_f7 d1, oHr_v7 d1, oHr_f8 d1, oHr_v8 d1, oHr_f9 d1, oHr_v9 d1, oHr_f10 d1, oHr_v10 d1, oHr_f11 d1, oHr_v11 d1, oHr_f12 d1, oHr_v12 d1, oHr_i13 d1, oHr_i14 d1, oHr_i15 d1, oHr_i16 d1, oHr_i17 d1, d1, nt]
theorem ci_book {e : Nat} (i : CI Z h ι nx c b n pl R C K H G ld rs ns il) (he : e ≤ n) (he2 : e ≤ 60) : match bkS (ι (c + 2)) e 61 [] 0 with
    | .inl K' => ∃ ι', rz_f Z (d + 6) 124 [.ref c, .int (nI e)] (rz_mk h ι, w) = some (.inl (some (.int (nI K'.length))), (rz_mk h ι', w)) ∧ CI Z h ι' nx c b 0 (-1) R C K' H G ld rs ns il ∧ clF b h h ι ι' ∧ ι' (c + 2) = ι (c + 2)
    | .inr f => ∃ ι', rz_f Z (d + 6) 124 [.ref c, .int (nI e)] (rz_mk h ι, w) = some (.inl (some (.int (nI f.1 - 10))), (rz_mk h ι', w)) ∧ CI Z h ι' nx c b 0 (nI f.2) R C K H G ld rs ns il ∧ clF b h h ι ι' ∧ ι' (c + 2) = ι (c + 2) := by
  have ii := i
  obtain ⟨i1, i2, i3, i4, i5, i6, ⟨f1, f2, f3, f4, f5, f6, f7, f8, f9, f10⟩, l, l', r, pv, d1, d2, d3, d4, d5, d6, d7⟩ := i
  obtain ⟨p1, p2, p3, p4, p5, p6, p7, p8, p9, p10⟩ := i5
  have p5c : clL h c := ⟨p1, p2, p3, p4, p5, p6, p7, p8, p9, p10⟩
  have hn6 : n ≤ 600 := i6.1
  have nt := hr_needText (d := d + 3) (ι := ι) (w := w) d1 p1 i1 (nI e) 60
  have hmn : ¬ (nI e < 0 ∨ (if 60 < nI n then 60 else nI n) < nI e) := nI_min (m := 60) he he2 (by omega) (by decide)
  rw [f6, if_neg hmn] at nt
  obtain ⟨ι1, b1, B1, B2, B3, B4, B5, B6⟩ := tp_beginE (Z := Z) (d := d + 4) (ι := ι) (w := w) p1 (show Z.2.1 ≤ c + 1 by omega) (show e ≤ 600 by omega)
  have e2 : ι1 (c + 1 + 1) = ι (c + 2) := B6 _ (by omega)
  have O : bkO Z h (c + 1) (c + 13) := ⟨p4, p1, by omega, by omega⟩
  have rd := bk_reads (d := d) (w := w) (ι := ι1) O B1 B2 (by omega) (fun x => by rw [e2]; exact f10 x)
  rw [e2] at rd
  cases hX : bkS (ι (c + 2)) e 61 [] 0 with
  | inr f =>
    rw [hX] at rd
    obtain ⟨ι2, r1, ⟨t1, t2, t3⟩, t4, t5⟩ := rd
    have e3 : ∀ x, x ≠ c + 1 → ¬ sxC c l' x → ι2 x = ι x := fun x h1 h2 => (t1 x h1 (by unfold sxC at h2; omega)).trans (B6 x h1)
    have v1 := tp_verdict (Z := Z) (d := d + 4) (w := w) (ι := ι2) p1
    rw [t4] at v1
    refine ⟨ι2, ?_, ii.tx d3 e3 (n' := 0) (by rw [t3, B5]; rfl) t5 (by omega), fun a a1 a2 => ⟨rfl, e3 a (by omega) (by unfold sxC; omega)⟩, e3 _ (by omega) (by unfold sxC; omega)⟩
    rw [e124]
    simp (decide := true) (maxDischargeDepth := 4) only [g124_0, g124_1, g124_2, g124_4, g124_7, g124_8, g124_11, g124_12, g124_15, g124_16, g124_19, g124_20, g124_23, g124_26, g124_29, g124_30, g124_33, g124_36, g124_37, g124_38, g124_41, g124_44, rz_k_inl, rz_k_inr, Option.toList_some, Option.toList_none, List.cons_append, List.nil_append, List.append_nil, rz_up_s, rz_u_s, rz_up_n, rz_u_n, ne_eq, not_false_eq_true, not_true_eq_false, Nat.add_assoc, Nat.reduceAdd, reduceIte, Nat.add_eq_left, Nat.left_eq_add, Nat.add_left_cancel_iff, Nat.reduceEqDiff, Nat.add_right_cancel_iff, rz_nb0, rz_nb1, rz_nbb, rz_nbi, rz_isr, rz_zle, if_true, if_false, rz_bi0, rz_bi1, Bool.not_eq_true, Bool.not_eq_false, Bool.true_eq_false, Bool.false_eq_true, rz_ix_lit, cl_lit, Nat.reduceLT, bi_t, bi_f, decide_true, decide_false, Bool.not_false, Bool.not_true, Bool.and_true, Bool.true_and, Bool.and_false, Bool.false_and, oHr_c d1, oHr_f0 d1, oHr_v0 d1, oHr_f1 d1, oHr_v1 d1, oHr_f2 d1, oHr_v2 d1, oHr_f3 d1, oHr_v3 d1, oHr_f4 d1, oHr_v4 d1, oHr_f5 d1, oHr_v5 d1, oHr_f6 d1, oHr_v6 d1, oHr_f7 d1, oHr_v7 d1, oHr_f8 d1, oHr_v8 d1, oHr_f9 d1, oHr_v9 d1, oHr_f10 d1, oHr_v10 d1, oHr_f11 d1, oHr_v11 d1, oHr_f12 d1, oHr_v12 d1, oHr_i13 d1, oHr_i14 d1, oHr_i15 d1, oHr_i16 d1, oHr_i17 d1, oTp_c, oTp_f0, oTp_v0, oTp_i1, oTp_i2, oTp_i3, oTp_i4, oTp_i5, oTp_i6, oTp_a1, oTp_n1, oBk_c p4, oBk_f0 p4, oBk_v0 p4, oBk_f1 p4, oBk_v1 p4, oBk_i2 p4, oBk_a1 p4, oBk_n1 p4, oBk_a2 p4, oBk_n2 p4, p1, d1, nt, b1, r1, v1]
  | inl K' =>
    rw [hX] at rd
    obtain ⟨ι2, r1, ⟨t1, t2, t3⟩, t4, t5, t6, t7⟩ := rd
    have hok := bkS_W 61 [] 0 K' (Nat.zero_le _) bkW_nil hX
    have e3 : ∀ x, x ≠ c + 1 → x ≠ c + 13 → x ≠ c + 14 → x ≠ c + 15 → ι2 x = ι x := fun x h1 h2 h3 h4 => (t1 x h1 (by omega)).trans (B6 x h1)
    have ec := e3 c (by omega) (by omega) (by omega) (by omega)
    have k : agK h h ι ι2 nx c b := fun a a1 _ => ⟨rfl, e3 a (by omega) (by omega) (by omega) (by omega)⟩
    have l1 : lwIs ι2 l (efL C) := ⟨by rw [e3 l (by omega) (by omega) (by omega) (by omega)]; exact d4.1, fun j hj => by rw [e3 (l + 1) (by omega) (by omega) (by omega) (by omega)]; exact d4.2.1 j hj, d4.2.2⟩
    obtain ⟨x1, x2, x3, x4, x5⟩ := i6
    refine ⟨ι2, ?_, ⟨i1, i2, i3, i4.ag (fun a ha => ⟨rfl, e3 a (by omega) (by omega) (by omega) (by omega)⟩), p5c, ⟨by omega, x2, x3, hok, x5⟩, ⟨by rw [ec]; exact f1, by rw [ec]; exact f2, by rw [ec]; exact f3, by rw [ec]; exact f4, by rw [ec]; exact f5, by rw [t3, B5]; rfl, by rw [t5, B4], t6, t7, fun x => by rw [e3 (c + 2) (by omega) (by omega) (by omega) (by omega)]; exact f10 x⟩, l, l', r, pv, d1, d2, d3, l1, d5.ag k (Nat.le_refl _), chI.ag k (Nat.le_refl _) H pv d6, d7.ag k (Nat.le_refl _) rfl⟩, fun a a1 a2 => ⟨rfl, e3 a (by omega) (by omega) (by omega) (by omega)⟩, e3 _ (by omega) (by omega) (by omega) (by omega)⟩
    rw [e124]
    simp (decide := true) (maxDischargeDepth := 4) only [g124_0, g124_1, g124_2, g124_4, g124_7, g124_8, g124_11, g124_12, g124_15, g124_16, g124_19, g124_20, g124_23, g124_26, g124_29, g124_30, g124_33, g124_36, g124_37, g124_38, g124_41, g124_44, rz_k_inl, rz_k_inr, Option.toList_some, Option.toList_none, List.cons_append, List.nil_append, List.append_nil, rz_up_s, rz_u_s, rz_up_n, rz_u_n, ne_eq, not_false_eq_true, not_true_eq_false, Nat.add_assoc, Nat.reduceAdd, reduceIte, Nat.add_eq_left, Nat.left_eq_add, Nat.add_left_cancel_iff, Nat.reduceEqDiff, Nat.add_right_cancel_iff, rz_nb0, rz_nb1, rz_nbb, rz_nbi, rz_isr, rz_zle, if_true, if_false, rz_bi0, rz_bi1, Bool.not_eq_true, Bool.not_eq_false, Bool.true_eq_false, Bool.false_eq_true, rz_ix_lit, cl_lit, Nat.reduceLT, bi_t, bi_f, decide_true, decide_false, Bool.not_false, Bool.not_true, Bool.and_true, Bool.true_and, Bool.and_false, Bool.false_and, oHr_c d1, oHr_f0 d1, oHr_v0 d1, oHr_f1 d1, oHr_v1 d1, oHr_f2 d1, oHr_v2 d1, oHr_f3 d1, oHr_v3 d1, oHr_f4 d1, oHr_v4 d1, oHr_f5 d1, oHr_v5 d1, oHr_f6 d1, oHr_v6 d1, oHr_f7 d1, oHr_v7 d1, oHr_f8 d1, oHr_v8 d1, oHr_f9 d1, oHr_v9 d1, oHr_f10 d1, oHr_v10 d1, oHr_f11 d1, oHr_v11 d1, oHr_f12 d1, oHr_v12 d1, oHr_i13 d1, oHr_i14 d1, oHr_i15 d1, oHr_i16 d1, oHr_i17 d1, oTp_c, oTp_f0, oTp_v0, oTp_i1, oTp_i2, oTp_i3, oTp_i4, oTp_i5, oTp_i6, oTp_a1, oTp_n1, oBk_c p4, oBk_f0 p4, oBk_v0 p4, oBk_f1 p4, oBk_v1 p4, oBk_i2 p4, oBk_a1 p4, oBk_n1 p4, oBk_a2 p4, oBk_n2 p4, p1, d1, nt, b1, r1, t7]
end CI5
