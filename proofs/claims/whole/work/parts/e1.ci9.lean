/-! the class is fed -/
theorem a255_ne (y : Int32) : y &&& 255 ≠ -1 := fun e => by
  have h1 : bt (y &&& 255) 8 = bt (-1) 8 := by rw [e]
  rw [b_and, b_255, b_m1 8 (by decide)] at h1
  simp at h1
theorem ptB_ne {B : Nat → Int32} {n : Nat} {x : Int32} (h : ∀ q, B q ≠ -1) : ∀ k q, ptB B n x k q ≠ -1
  | 0, q => h q
  | k + 1, q => by
    show rz_u (ptB B n x k) (n + k) _ q ≠ -1
    by_cases h0 : q = n + k
    · rw [h0, rz_u_s]; exact a255_ne _
    · rw [rz_u_n h0]; exact ptB_ne h k q
def fdB (B : Nat → Int32) (n : Nat) (x1 x2 x3 x4 x5 : Int32) : Nat → Int32 := ptB (ptB (ptB (ptB (ptB B n x1 4) (n + 4) x2 4) (n + 8) x3 4) (n + 12) x4 4) (n + 16) x5 4
section CI9
variable {Z : rx_Z} {d : Nat} {h : Nat → Option rx_E} {ι : Nat → Nat → Int32} {w : Nat × Nat} {nx c b n : Nat} {pl : Int32} {R : Nat → Int32} {C K : List (Nat × Nat)} {H : List (Nat → Int32)} {G : List ((Nat → Int32) × List (Nat → Int32))} {ld rs ns il : Int32}
theorem ci_feed_no (i : CI Z h ι nx c b n pl R C K H G ld rs ns il) (hn : 580 < n) (x1 x2 x3 x4 x5 : Int32) : rz_f Z (d + 2) 120 [.ref c, .int x1, .int x2, .int x3, .int x4, .int x5] (rz_mk h ι, w) = some (.inl (some (.int (-1))), (rz_mk h ι, w)) := by
  obtain ⟨i1, i2, i3, i4, ⟨p1, -⟩, i6, ⟨f1, f2, f3, f4, f5, f6, -⟩, l, l', r, pv, d1, -⟩ := i
  have hn6 : n ≤ 600 := i6.1
  have h1 : (600 < nI n + 20) = True := by
    rw [show nI n + 20 = nI (n + 20) from (nI_add n 20)]
    rw [show (600 : Int32) = nI 600 from rfl, nI_lt2 (by omega) (by omega)]; simp; omega
  rw [e120]
  simp (decide := true) (maxDischargeDepth := 4) only [g120_0, g120_1, g120_4, g120_7, g120_9, g120_10, g120_13, g120_16, g120_17, g120_18, g120_19, g120_22, g120_23, g120_26, g120_27, g120_30, g120_31, g120_34, g120_35, g120_38, g120_39, g120_42, g120_43, g120_46, g120_48, g120_51, g120_52, g120_55, g120_57, g120_60, g120_61, g120_64, g120_67, rz_k_inl, rz_k_inr, Option.toList_some, Option.toList_none, List.cons_append, List.nil_append, List.append_nil, rz_up_s, rz_u_s, rz_up_n, rz_u_n, ne_eq, not_false_eq_true, not_true_eq_false, Nat.add_assoc, Nat.reduceAdd, reduceIte, Nat.add_eq_left, Nat.left_eq_add, Nat.add_left_cancel_iff, Nat.reduceEqDiff, Nat.add_right_cancel_iff, rz_nb0, rz_nb1, rz_nbb, rz_nbi, rz_isr, rz_zle, if_true, if_false, rz_bi0, rz_bi1, Bool.not_eq_true, Bool.not_eq_false, Bool.true_eq_false, Bool.false_eq_true, rz_ix_lit, cl_lit, Nat.reduceLT, bi_t, bi_f, decide_true, decide_false, Bool.not_false, Bool.not_true, Bool.and_true, Bool.true_and, Bool.and_false, Bool.false_and, oHr_c d1, oHr_f0 d1, oHr_v0 d1, oHr_f1 d1, oHr_v1 d1, oHr_f2 d1, oHr_v2 d1, oHr_f3 d1, oHr_v3 d1, oHr_f4 d1, oHr_v4 d1, oHr_f5 d1, oHr_v5 d1, oHr_f6 d1, oHr_v6 d1, oHr_f7 d1, oHr_v7 d1, oHr_f8 d1, oHr_v8 d1, oHr_f9 d1, oHr_v9 d1, oHr_f10 d1, oHr_v10 d1, oHr_f11 d1, oHr_v11 d1, oHr_f12 d1, oHr_v12 d1, oHr_i13 d1, oHr_i14 d1, oHr_i15 d1, oHr_i16 d1, oHr_i17 d1, oTp_c, oTp_f0, oTp_v0, oTp_i1, oTp_i2, oTp_i3, oTp_i4, oTp_i5, oTp_i6, oTp_a1, oTp_n1, p1, d1, f6, h1]
theorem tp_putE {t n : Nat} (ht : oTp h t) (hz : Z.2.1 ≤ t) (hn : n + 4 ≤ 600) (hl : ι t 5 = nI n) (x : Int32) : ∃ ι', rz_f Z (d + 1) 88 [.ref t, .int x] (rz_mk h ι, w) = some (.inl none, (rz_mk h ι', w)) ∧ ι' (t + 1) = ptB (ι (t + 1)) n x 4 ∧ ι' t 5 = nI (n + 4) ∧ (∀ k, k ≠ 5 → ι' t k = ι t k) ∧ ∀ a, a ≠ t → a ≠ t + 1 → ι' a = ι a := by
  refine ⟨_, tp_put ht hz hn hl x, ?_, ?_, fun k hk => ?_, fun a h1 h2 => ?_⟩
  · rw [rz_up_n (by omega), rz_rw_s]
  · rw [rz_up_s, rz_u_s]
  · rw [rz_up_s, rz_u_n hk, rz_rw_n (by omega)]
  · rw [rz_up_n h1, rz_rw_n h2]
theorem ci_feed (i : CI Z h ι nx c b n pl R C K H G ld rs ns il) (hn : n ≤ 580) (x1 x2 x3 x4 x5 : Int32) : ∃ ι', rz_f Z (d + 2) 120 [.ref c, .int x1, .int x2, .int x3, .int x4, .int x5] (rz_mk h ι, w) = some (.inl (some (.int (nI (n + 20)))), (rz_mk h ι', w)) ∧ CI Z h ι' nx c b (n + 20) pl R C K H G ld rs ns il ∧ clF b h h ι ι' ∧ ι' (c + 2) = fdB (ι (c + 2)) n x1 x2 x3 x4 x5 := by
  obtain ⟨i1, i2, i3, i4, i5, ⟨-, i6⟩, ⟨f1, f2, f3, f4, f5, f6, f7, f8, f9, f10⟩, l, l', r, pv, d1, d2, d3, d4, d5, d6, d7⟩ := i
  have p1 := i5.1
  have hz : Z.2.1 ≤ c + 1 := by omega
  have h1 : (600 < nI n + 20) = False := by
    rw [show nI n + 20 = nI (n + 20) from (nI_add n 20)]
    rw [show (600 : Int32) = nI 600 from rfl, nI_lt2 (by omega) (by omega)]; simp; omega
  obtain ⟨j1, a1, a2, a3, a4, a5⟩ := tp_putE (Z := Z) (d := d) (w := w) p1 hz (by omega) f6 x1
  obtain ⟨j2, b1, b2, b3, b4, b5⟩ := tp_putE (Z := Z) (d := d) (w := w) p1 hz (by omega) a3 x2
  obtain ⟨j3, c1, c2, c3, c4, c5⟩ := tp_putE (Z := Z) (d := d) (w := w) p1 hz (by omega) b3 x3
  obtain ⟨j4, e1, e2, e3, e4, e5⟩ := tp_putE (Z := Z) (d := d) (w := w) p1 hz (by omega) c3 x4
  obtain ⟨j5, g1, g2, g3, g4, g5⟩ := tp_putE (Z := Z) (d := d) (w := w) p1 hz (by omega) e3 x5
  have e : ∀ x, x ≠ c + 1 → x ≠ c + 2 → j5 x = ι x := fun x h1 h2 => by rw [g5 x h1 h2, e5 x h1 h2, c5 x h1 h2, b5 x h1 h2, a5 x h1 h2]
  have eB : j5 (c + 2) = fdB (ι (c + 2)) n x1 x2 x3 x4 x5 := by
    rw [e2, c2, b2, a2] at g2
    exact g2
  have k : agK h h ι j5 nx c b := fun a a1 _ => ⟨rfl, e a (by omega) (by omega)⟩
  have ec := e c (by omega) (by omega)
  have l1 : lwIs j5 l (efL C) := ⟨by rw [e l (by omega) (by omega)]; exact d4.1, fun j hj => by rw [e (l + 1) (by omega) (by omega)]; exact d4.2.1 j hj, d4.2.2⟩
  have s5 : j5 (c + 1) 5 = nI (n + 20) := g3
  have s6 : j5 (c + 1) 6 = pl := by rw [g4 6 (by decide), e4 6 (by decide), c4 6 (by decide), b4 6 (by decide), a4 6 (by decide)]; exact f7
  refine ⟨j5, ?_, ⟨i1, i2, i3, i4.ag (fun a ha => ⟨rfl, e a (by omega) (by omega)⟩), i5, ⟨by omega, i6⟩, ⟨by rw [ec]; exact f1, by rw [ec]; exact f2, by rw [ec]; exact f3, by rw [ec]; exact f4, by rw [ec]; exact f5, s5, s6, fun q hq => by rw [e (c + 14) (by omega) (by omega)]; exact f8 q hq, by rw [e (c + 13) (by omega) (by omega)]; exact f9, fun x => ?_⟩, l, l', r, pv, d1, d2, d3, l1, d5.ag k (Nat.le_refl _), chI.ag k (Nat.le_refl _) H pv d6, d7.ag k (Nat.le_refl _) rfl⟩, fun a a1 a2 => ⟨rfl, e a (by omega) (by omega)⟩, eB⟩
  · rw [e120]
    simp (decide := true) (maxDischargeDepth := 4) only [g120_0, g120_1, g120_4, g120_7, g120_9, g120_10, g120_13, g120_16, g120_17, g120_18, g120_19, g120_22, g120_23, g120_26, g120_27, g120_30, g120_31, g120_34, g120_35, g120_38, g120_39, g120_42, g120_43, g120_46, g120_48, g120_51, g120_52, g120_55, g120_57, g120_60, g120_61, g120_64, g120_67, rz_k_inl, rz_k_inr, Option.toList_some, Option.toList_none, List.cons_append, List.nil_append, List.append_nil, rz_up_s, rz_u_s, rz_up_n, rz_u_n, ne_eq, not_false_eq_true, not_true_eq_false, Nat.add_assoc, Nat.reduceAdd, reduceIte, Nat.add_eq_left, Nat.left_eq_add, Nat.add_left_cancel_iff, Nat.reduceEqDiff, Nat.add_right_cancel_iff, rz_nb0, rz_nb1, rz_nbb, rz_nbi, rz_isr, rz_zle, if_true, if_false, rz_bi0, rz_bi1, Bool.not_eq_true, Bool.not_eq_false, Bool.true_eq_false, Bool.false_eq_true, rz_ix_lit, cl_lit, Nat.reduceLT, bi_t, bi_f, decide_true, decide_false, Bool.not_false, Bool.not_true, Bool.and_true, Bool.true_and, Bool.and_false, Bool.false_and, oHr_c d1, oHr_f0 d1, oHr_v0 d1, oHr_f1 d1, oHr_v1 d1, oHr_f2 d1, oHr_v2 d1, oHr_f3 d1, oHr_v3 d1, oHr_f4 d1, oHr_v4 d1, oHr_f5 d1, oHr_v5 d1, oHr_f6 d1, oHr_v6 d1, oHr_f7 d1, oHr_v7 d1, oHr_f8 d1, oHr_v8 d1, oHr_f9 d1, oHr_v9 d1, oHr_f10 d1, oHr_v10 d1, oHr_f11 d1, oHr_v11 d1, oHr_f12 d1, oHr_v12 d1, oHr_i13 d1, oHr_i14 d1, oHr_i15 d1, oHr_i16 d1, oHr_i17 d1, oTp_c, oTp_f0, oTp_v0, oTp_i1, oTp_i2, oTp_i3, oTp_i4, oTp_i5, oTp_i6, oTp_a1, oTp_n1, p1, d1, f6, h1, a1, b1, c1, e1, g1, s5]
  · rw [eB]; exact ptB_ne (ptB_ne (ptB_ne (ptB_ne (ptB_ne f10 4) 4) 4) 4) 4 x
end CI9
