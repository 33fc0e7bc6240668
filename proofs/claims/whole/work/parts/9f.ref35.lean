/-! the reference: chance -/
section REF35
variable {Z : rx_Z} {d : Nat} {h : Nat → Option rx_E} {ι : Nat → Nat → Int32} {w : Nat × Nat} {b m lv : Nat} {C : List (Nat × Nat)} {R : Nat → Int32} {dk : Option Nat} {f0 : Nat → Int64}
def rwX (f0 : Nat → Int64) (l : List Nat) : Nat → Int64 := fun j => if j < 14 then nL (l.getD j 0) else f0 j
/-- t of them are new already, from the last on -/
def midX (f0 : Nat → Int64) (l l' : List Nat) (t : Nat) : Nat → Int64 := fun j => if j < 14 then (if 14 - t ≤ j then nL (l'.getD j 0) else nL (l.getD j 0)) else f0 j
def begX (f0 : Nat → Int64) (t : Nat) : Nat → Int64 := fun j => if j < t then (if j = 0 then 1 else 0) else f0 j
theorem begX_s (f0 : Nat → Int64) (t : Nat) : u64 (begX f0 t) t (if t = 0 then 1 else 0) = begX f0 (t + 1) := by
  funext j
  unfold u64 begX
  by_cases e : j = t
  · subst e; simp
  · by_cases e2 : j < t
    · simp [e, e2, show j < t + 1 by omega]
    · simp [e, e2, show ¬ j < t + 1 by omega]
theorem begX_e (f0 : Nat → Int64) (q : Nat) : begX f0 14 = rwX f0 (rowL q 0) := by
  funext j
  unfold begX rwX
  by_cases e : j < 14
  · rw [if_pos e, if_pos e]
    have : j = 0 ∨ j = 1 ∨ j = 2 ∨ j = 3 ∨ j = 4 ∨ j = 5 ∨ j = 6 ∨ j = 7 ∨ j = 8 ∨ j = 9 ∨ j = 10 ∨ j = 11 ∨ j = 12 ∨ j = 13 := by omega
    rcases this with rfl | rfl | rfl | rfl | rfl | rfl | rfl | rfl | rfl | rfl | rfl | rfl | rfl | rfl <;> rfl
  · rw [if_neg e, if_neg e]
theorem midX_0 (f0 : Nat → Int64) (l l' : List Nat) : midX f0 l l' 0 = rwX f0 l := by
  funext j
  unfold midX rwX
  by_cases e : j < 14
  · rw [if_pos e, if_pos e, if_neg (by omega)]
  · rw [if_neg e, if_neg e]
theorem midX_14 (f0 : Nat → Int64) (l l' : List Nat) : midX f0 l l' 14 = rwX f0 l' := by
  funext j
  unfold midX rwX
  by_cases e : j < 14
  · rw [if_pos e, if_pos e, if_pos (by omega)]
  · rw [if_neg e, if_neg e]
theorem midX_s (f0 : Nat → Int64) (l l' : List Nat) {t : Nat} (ht : t < 14) : u64 (midX f0 l l' t) (13 - t) (nL (l'.getD (13 - t) 0)) = midX f0 l l' (t + 1) := by
  funext j
  unfold u64 midX
  by_cases e : j = 13 - t
  · subst e; rw [if_pos rfl, if_pos (by omega), if_pos (by omega)]
  · rw [if_neg e]
    by_cases e1 : j < 14
    · rw [if_pos e1, if_pos e1]
      by_cases e2 : 14 - t ≤ j
      · rw [if_pos e2, if_pos (by omega)]
      · rw [if_neg e2, if_neg (by omega)]
    · rw [if_neg e1, if_neg e1]
theorem lg_cmpN {a : Nat} (ha : a < 2 ^ 63) : (lg_cmp (nL a) 0 = 0) = (a = 0) := by rw [lg_cmp0, nL_eq0 ha]
theorem mo_chanceA (q : QM Z (hX h b f0) ι b C R m dk lv) {n k x pt : Nat} (hn : n ≤ 12) (hk : k ≤ 13) (hx : x ≤ 16) (hp : pt ≤ 1) (hb : chB (nI n) (nI k) (nI x) (nI pt) = true) : ∃ f1, rz_f Z (d + 3) 261 [.ref b, .int (nI n), .int (nI k), .int (nI x), .int (nI pt)] (rz_mk (hX h b f0) ι, w) = some (.inl (some (.long (nL (chN n k x pt)))), (rz_mk (hX h b f1) (rz_up ι b 0 0), w)) := by
  obtain ⟨ι0, e0, q0, fr0, t0⟩ := mpre q
  obtain ⟨b1, b2, b3, b4⟩ := mbad (Z := Z) (d := d + 1) (w := w) q e0 t0
  simp only [chB, Bool.and_eq_true] at hb
  have c1 : (!decide (nI n < 0) && !decide ((12 : Int32) < nI n)) = true := hb.1
  have c2 : (!decide (nI k < 0) && !decide ((13 : Int32) < nI k)) = true := hb.2.1
  have c3 : (!decide (nI x < 0) && !decide ((16 : Int32) < nI x)) = true := hb.2.2.1
  have c4 : (!decide (nI pt < 0) && !decide ((1 : Int32) < nI pt)) = true := hb.2.2.2
  have o : ∀ f, oMd (hX h b f) b := fun f => q.2.1.eq (fun a ha => by rw [hX_ne ha, hX_ne ha])
  have hz := q.1
  have xI : (16 : Int32) - nI x = nI (16 - x) := by
    show nI 16 - nI x = _
    rw [pk_sub (by omega)]
  have x64 := nI_i64 x (by omega)
  have y64 := nI_i64 (16 - x) (by omega)
  -- 1 and noughts
  have L1 := rz_loopE (fun t => rg Z (d + 2) rx_m261 64 [some (.ref b), some (.int (nI n)), some (.int (nI k)), some (.int (nI x)), some (.int (nI pt)), some (.int (nI t)), none, none, none, none, none, none, none, none, none] [] (rz_mk (hX h b (begX f0 t)) ι0, w)) 14 (by
    intro t ht
    have c : (nI t < 14) = True := by rw [nI_ltL (by omega) (by decide)]; simp [ht]
    have i1 : rz_ix (nI t) 14 := rz_ix_nat ht (by omega)
    have i2 := nI_cl (show t < 2147483648 by omega)
    have ot := o (begX f0 t)
    have hs := begX_s f0 t
    try dsimp only
    rw [g261_64]
    by_cases e : t = 0
    · subst e
      rw [if_pos rfl] at hs
      rw [← hs]
      have i3 : rz_ix 0 14 := i1
      simp (decide := true) (maxDischargeDepth := 4) only [g261_66, g261_68, g261_71, g261_72, g261_75, g261_77, g261_79, g261_82, g261_83, g261_86, g261_88, g261_91, g261_87 (hX_at h b (begX f0 0)), rz_k_inl, rz_k_inr, Option.toList_some, Option.toList_none, List.cons_append, List.nil_append, List.append_nil, rz_up_s, rz_u_s, rz_up_n, rz_u_n, ne_eq, not_false_eq_true, not_true_eq_false, Nat.add_assoc, Nat.reduceAdd, reduceIte, Nat.add_eq_left, Nat.left_eq_add, Nat.add_left_cancel_iff, Nat.reduceEqDiff, Nat.add_right_cancel_iff, rz_nb0, rz_nb1, rz_nbb, rz_nbi, rz_isr, rz_zle, if_true, if_false, rz_bi0, rz_bi1, Bool.not_eq_true, Bool.not_eq_false, Bool.true_eq_false, Bool.false_eq_true, rz_ix_lit, cl_lit, Nat.reduceLT, bi_t, bi_f, decide_true, decide_false, Bool.not_false, Bool.not_true, Bool.and_true, Bool.true_and, Bool.and_false, Bool.false_and, oMd_c, oMd_i0, oMd_i1, oMd_i2, oMd_i3, oMd_i4, oMd_i5, oMd_i6, oMd_i7, oMd_i8, oMd_f9, oMd_v9, oMd_f10, oMd_v10, oMd_f11, oMd_v11, oMd_f12, oMd_v12, oMd_f13, oMd_v13, oMd_f14, oMd_v14, oMd_i15, oMd_i16, oMd_f17, oMd_v17, oMd_f18, oMd_v18, oMd_f19, oMd_v19, oMd_f20, oMd_v20, oMd_f21, oMd_v21, oMd_f22, oMd_v22, oMd_f23, oMd_v23, oMd_i24, oMd_f25, oMd_v25, oMd_f26, oMd_v26, oMd_f27, oMd_v27, oMd_f28, oMd_v28, oMd_i29, oMd_i30, oMd_i31, oMd_i32, oMd_i33, oMd_i34, oMd_i35, oMd_f36, oMd_v36, oMd_f37, oMd_v37, oMd_f38, oMd_v38, oMd_i39, oMd_f40, oMd_v40, oMd_f41, oMd_v41, oMd_i42, oMd_f43, oMd_v43, oMd_i44, oMd_a1, oMd_n1, oMd_a2, oMd_n2, oMd_a3, oMd_n3, oMd_a4, oMd_n4, oMd_a363, oMd_n363, oMd_a364, oMd_n364, oMd_a446, oMd_n446, oMd_a447, oMd_n447, oMd_a469, oMd_n469, oMd_a470, oMd_n470, oMd_a471, oMd_n471, oMd_a472, oMd_n472, oMd_a473, oMd_n473, oMd_a5, oMd_n5, oMd_e5, oMd_ra5, oMd_rn5, oMd_a14, oMd_n14, oMd_e14, oMd_ra14, oMd_rn14, oMd_a23, oMd_n23, oMd_e23, oMd_ra23, oMd_rn23, oMd_a184, oMd_n184, oMd_e184, oMd_ra184, oMd_rn184, oMd_a345, oMd_n345, oMd_e345, oMd_ra345, oMd_rn345, oMd_a354, oMd_n354, oMd_e354, oMd_ra354, oMd_rn354, oMd_a365, oMd_n365, oMd_e365, oMd_ra365, oMd_rn365, oMd_a448, oMd_n448, oMd_e448, oMd_ra448, oMd_rn448, oMd_a465, oMd_n465, oMd_e465, oMd_ra465, oMd_rn465, ot, hz, show nI 0 = 0 from rfl, show ((0 : Int32) < 14) = True by decide, i3, show ((0 : Int32)).toNatClampNeg = 0 from rfl, hX_he]
      rfl
    · rw [if_neg e] at hs
      rw [← hs]
      have c0 : (nI t = 0) = False := by rw [nI_eqL (by omega) (by decide)]; simp [e]
      simp (decide := true) (maxDischargeDepth := 4) only [g261_66, g261_68, g261_71, g261_72, g261_75, g261_77, g261_79, g261_82, g261_83, g261_86, g261_88, g261_91, g261_87 (hX_at h b (begX f0 t)), rz_k_inl, rz_k_inr, Option.toList_some, Option.toList_none, List.cons_append, List.nil_append, List.append_nil, rz_up_s, rz_u_s, rz_up_n, rz_u_n, ne_eq, not_false_eq_true, not_true_eq_false, Nat.add_assoc, Nat.reduceAdd, reduceIte, Nat.add_eq_left, Nat.left_eq_add, Nat.add_left_cancel_iff, Nat.reduceEqDiff, Nat.add_right_cancel_iff, rz_nb0, rz_nb1, rz_nbb, rz_nbi, rz_isr, rz_zle, if_true, if_false, rz_bi0, rz_bi1, Bool.not_eq_true, Bool.not_eq_false, Bool.true_eq_false, Bool.false_eq_true, rz_ix_lit, cl_lit, Nat.reduceLT, bi_t, bi_f, decide_true, decide_false, Bool.not_false, Bool.not_true, Bool.and_true, Bool.true_and, Bool.and_false, Bool.false_and, oMd_c, oMd_i0, oMd_i1, oMd_i2, oMd_i3, oMd_i4, oMd_i5, oMd_i6, oMd_i7, oMd_i8, oMd_f9, oMd_v9, oMd_f10, oMd_v10, oMd_f11, oMd_v11, oMd_f12, oMd_v12, oMd_f13, oMd_v13, oMd_f14, oMd_v14, oMd_i15, oMd_i16, oMd_f17, oMd_v17, oMd_f18, oMd_v18, oMd_f19, oMd_v19, oMd_f20, oMd_v20, oMd_f21, oMd_v21, oMd_f22, oMd_v22, oMd_f23, oMd_v23, oMd_i24, oMd_f25, oMd_v25, oMd_f26, oMd_v26, oMd_f27, oMd_v27, oMd_f28, oMd_v28, oMd_i29, oMd_i30, oMd_i31, oMd_i32, oMd_i33, oMd_i34, oMd_i35, oMd_f36, oMd_v36, oMd_f37, oMd_v37, oMd_f38, oMd_v38, oMd_i39, oMd_f40, oMd_v40, oMd_f41, oMd_v41, oMd_i42, oMd_f43, oMd_v43, oMd_i44, oMd_a1, oMd_n1, oMd_a2, oMd_n2, oMd_a3, oMd_n3, oMd_a4, oMd_n4, oMd_a363, oMd_n363, oMd_a364, oMd_n364, oMd_a446, oMd_n446, oMd_a447, oMd_n447, oMd_a469, oMd_n469, oMd_a470, oMd_n470, oMd_a471, oMd_n471, oMd_a472, oMd_n472, oMd_a473, oMd_n473, oMd_a5, oMd_n5, oMd_e5, oMd_ra5, oMd_rn5, oMd_a14, oMd_n14, oMd_e14, oMd_ra14, oMd_rn14, oMd_a23, oMd_n23, oMd_e23, oMd_ra23, oMd_rn23, oMd_a184, oMd_n184, oMd_e184, oMd_ra184, oMd_rn184, oMd_a345, oMd_n345, oMd_e345, oMd_ra345, oMd_rn345, oMd_a354, oMd_n354, oMd_e354, oMd_ra354, oMd_rn354, oMd_a365, oMd_n365, oMd_e365, oMd_ra365, oMd_rn365, oMd_a448, oMd_n448, oMd_e448, oMd_ra448, oMd_rn448, oMd_a465, oMd_n465, oMd_e465, oMd_ra465, oMd_rn465, ot, hz, c, c0, i1, i2, hX_he, nI_1])
  try dsimp only at L1
  have b00 : begX f0 0 = f0 := by funext j; unfold begX; rw [if_neg (by omega)]
  rw [b00, begX_e f0 x] at L1
  -- one round
  have round : ∀ (e : Nat) (l6 : Option Value), e < n → rg Z (d + 2) rx_m261 97 [some (.ref b), some (.int (nI n)), some (.int (nI k)), some (.int (nI x)), some (.int (nI pt)), some (.int (nI e)), l6, none, none, none, none, none, none, none, none] [] (rz_mk (hX h b (rwX f0 (rowL x e))) ι0, w) = rg Z (d + 2) rx_m261 97 [some (.ref b), some (.int (nI n)), some (.int (nI k)), some (.int (nI x)), some (.int (nI pt)), some (.int (nI (e + 1))), some (.int (-1)), none, none, none, none, none, none, none, none] [] (rz_mk (hX h b (rwX f0 (rowL x (e + 1)))) ι0, w) := by
    intro e l6 he
    have ce : (nI e < nI n) = True := by rw [nI_lt2 (by omega) (by omega)]; simp [he]
    have len := rowL_len x e
    have L := rz_loopE (fun t => rg Z (d + 2) rx_m261 107 [some (.ref b), some (.int (nI n)), some (.int (nI k)), some (.int (nI x)), some (.int (nI pt)), some (.int (nI e)), some (.int (if t ≤ 13 then nI (13 - t) else -1)), none, none, none, none, none, none, none, none] [] (rz_mk (hX h b (midX f0 (rowL x e) (rowL x (e + 1)) t)) ι0, w)) 14 (by
      intro t ht
      have st := stpL_at x (rowL x e) 0 (13 - t) (by omega)
      have st : (rowL x (e + 1)).getD (13 - t) 0 = _ := st
      have om := o (midX f0 (rowL x e) (rowL x (e + 1)) t)
      have ms := midX_s f0 (rowL x e) (rowL x (e + 1)) ht
      have m1 : midX f0 (rowL x e) (rowL x (e + 1)) t (13 - t) = nL ((rowL x e).getD (13 - t) 0) := by
        unfold midX; rw [if_pos (by omega), if_neg (by omega)]
      try dsimp only
      rw [← ms, st, if_pos (show t ≤ 13 by omega), g261_107]
      have i1 : rz_ix (nI (13 - t)) 14 := rz_ix_nat (by omega) (by omega)
      have i2 := nI_cl (show 13 - t < 2147483648 by omega)
      have cn := nI_nn (show 13 - t < 2147483648 by omega)
      by_cases e0 : t = 13
      · have e1 : ((0 : Int32) < nI (13 - t)) = False := by rw [e0]; decide
        have e2 : nI (13 - t) + (-1) = (-1 : Int32) := by rw [e0]; decide
        rw [if_neg (show ¬ t + 1 ≤ 13 by omega), if_pos (show 13 - t = 0 by omega)]
        simp (decide := true) (maxDischargeDepth := 4) only [g261_109, g261_112, g261_113, g261_116, g261_118, g261_119, g261_122, g261_125, g261_127, g261_128, g261_129, g261_130, g261_131, g261_133, g261_136, g261_137, g261_140, g261_142, g261_143, g261_145, g261_146, g261_147, g261_148, g261_151, g261_152, g261_154, g261_157, g261_124 (hX_at h b (midX f0 (rowL x e) (rowL x (e + 1)) t)), g261_153 (hX_at h b (midX f0 (rowL x e) (rowL x (e + 1)) t)), rz_k_inl, rz_k_inr, Option.toList_some, Option.toList_none, List.cons_append, List.nil_append, List.append_nil, rz_up_s, rz_u_s, rz_up_n, rz_u_n, ne_eq, not_false_eq_true, not_true_eq_false, Nat.add_assoc, Nat.reduceAdd, reduceIte, Nat.add_eq_left, Nat.left_eq_add, Nat.add_left_cancel_iff, Nat.reduceEqDiff, Nat.add_right_cancel_iff, rz_nb0, rz_nb1, rz_nbb, rz_nbi, rz_isr, rz_zle, if_true, if_false, rz_bi0, rz_bi1, Bool.not_eq_true, Bool.not_eq_false, Bool.true_eq_false, Bool.false_eq_true, rz_ix_lit, cl_lit, Nat.reduceLT, bi_t, bi_f, decide_true, decide_false, Bool.not_false, Bool.not_true, Bool.and_true, Bool.true_and, Bool.and_false, Bool.false_and, oMd_c, oMd_i0, oMd_i1, oMd_i2, oMd_i3, oMd_i4, oMd_i5, oMd_i6, oMd_i7, oMd_i8, oMd_f9, oMd_v9, oMd_f10, oMd_v10, oMd_f11, oMd_v11, oMd_f12, oMd_v12, oMd_f13, oMd_v13, oMd_f14, oMd_v14, oMd_i15, oMd_i16, oMd_f17, oMd_v17, oMd_f18, oMd_v18, oMd_f19, oMd_v19, oMd_f20, oMd_v20, oMd_f21, oMd_v21, oMd_f22, oMd_v22, oMd_f23, oMd_v23, oMd_i24, oMd_f25, oMd_v25, oMd_f26, oMd_v26, oMd_f27, oMd_v27, oMd_f28, oMd_v28, oMd_i29, oMd_i30, oMd_i31, oMd_i32, oMd_i33, oMd_i34, oMd_i35, oMd_f36, oMd_v36, oMd_f37, oMd_v37, oMd_f38, oMd_v38, oMd_i39, oMd_f40, oMd_v40, oMd_f41, oMd_v41, oMd_i42, oMd_f43, oMd_v43, oMd_i44, oMd_a1, oMd_n1, oMd_a2, oMd_n2, oMd_a3, oMd_n3, oMd_a4, oMd_n4, oMd_a363, oMd_n363, oMd_a364, oMd_n364, oMd_a446, oMd_n446, oMd_a447, oMd_n447, oMd_a469, oMd_n469, oMd_a470, oMd_n470, oMd_a471, oMd_n471, oMd_a472, oMd_n472, oMd_a473, oMd_n473, oMd_a5, oMd_n5, oMd_e5, oMd_ra5, oMd_rn5, oMd_a14, oMd_n14, oMd_e14, oMd_ra14, oMd_rn14, oMd_a23, oMd_n23, oMd_e23, oMd_ra23, oMd_rn23, oMd_a184, oMd_n184, oMd_e184, oMd_ra184, oMd_rn184, oMd_a345, oMd_n345, oMd_e345, oMd_ra345, oMd_rn345, oMd_a354, oMd_n354, oMd_e354, oMd_ra354, oMd_rn354, oMd_a365, oMd_n365, oMd_e365, oMd_ra365, oMd_rn365, oMd_a448, oMd_n448, oMd_e448, oMd_ra448, oMd_rn448, oMd_a465, oMd_n465, oMd_e465, oMd_ra465, oMd_rn465, om, hz, cn, i1, i2, e1, e2, m1, xI, y64, nL_mul, show (0 : Int64) = nL 0 from rfl, nL_add, hX_he, Nat.zero_mul]
      · have e1 : ((0 : Int32) < nI (13 - t)) = True := nI_0lt (by omega) (by omega)
        have e2 : nI (13 - t) + (-1) = nI (13 - (t + 1)) := by
          have := nI_pr (13 - (t + 1))
          rwa [show 13 - (t + 1) + 1 = 13 - t by omega] at this
        have e3 : nI (13 - t) - 1 = nI (13 - (t + 1)) := by
          show nI (13 - t) - nI 1 = _
          rw [pk_sub (by omega)]; congr 1
        have m2 : midX f0 (rowL x e) (rowL x (e + 1)) t (13 - (t + 1)) = nL ((rowL x e).getD (13 - (t + 1)) 0) := by
          unfold midX; rw [if_pos (by omega), if_neg (by omega)]
        have i3 : rz_ix (nI (13 - (t + 1))) 14 := rz_ix_nat (by omega) (by omega)
        have i4 := nI_cl (show 13 - (t + 1) < 2147483648 by omega)
        rw [if_pos (show t + 1 ≤ 13 by omega), if_neg (show ¬ 13 - t = 0 by omega), show 13 - t - 1 = 13 - (t + 1) by omega]
        simp (decide := true) (maxDischargeDepth := 4) only [g261_109, g261_112, g261_113, g261_116, g261_118, g261_119, g261_122, g261_125, g261_127, g261_128, g261_129, g261_130, g261_131, g261_133, g261_136, g261_137, g261_140, g261_142, g261_143, g261_145, g261_146, g261_147, g261_148, g261_151, g261_152, g261_154, g261_157, g261_124 (hX_at h b (midX f0 (rowL x e) (rowL x (e + 1)) t)), g261_144 (hX_at h b (midX f0 (rowL x e) (rowL x (e + 1)) t)), g261_153 (hX_at h b (midX f0 (rowL x e) (rowL x (e + 1)) t)), rz_k_inl, rz_k_inr, Option.toList_some, Option.toList_none, List.cons_append, List.nil_append, List.append_nil, rz_up_s, rz_u_s, rz_up_n, rz_u_n, ne_eq, not_false_eq_true, not_true_eq_false, Nat.add_assoc, Nat.reduceAdd, reduceIte, Nat.add_eq_left, Nat.left_eq_add, Nat.add_left_cancel_iff, Nat.reduceEqDiff, Nat.add_right_cancel_iff, rz_nb0, rz_nb1, rz_nbb, rz_nbi, rz_isr, rz_zle, if_true, if_false, rz_bi0, rz_bi1, Bool.not_eq_true, Bool.not_eq_false, Bool.true_eq_false, Bool.false_eq_true, rz_ix_lit, cl_lit, Nat.reduceLT, bi_t, bi_f, decide_true, decide_false, Bool.not_false, Bool.not_true, Bool.and_true, Bool.true_and, Bool.and_false, Bool.false_and, oMd_c, oMd_i0, oMd_i1, oMd_i2, oMd_i3, oMd_i4, oMd_i5, oMd_i6, oMd_i7, oMd_i8, oMd_f9, oMd_v9, oMd_f10, oMd_v10, oMd_f11, oMd_v11, oMd_f12, oMd_v12, oMd_f13, oMd_v13, oMd_f14, oMd_v14, oMd_i15, oMd_i16, oMd_f17, oMd_v17, oMd_f18, oMd_v18, oMd_f19, oMd_v19, oMd_f20, oMd_v20, oMd_f21, oMd_v21, oMd_f22, oMd_v22, oMd_f23, oMd_v23, oMd_i24, oMd_f25, oMd_v25, oMd_f26, oMd_v26, oMd_f27, oMd_v27, oMd_f28, oMd_v28, oMd_i29, oMd_i30, oMd_i31, oMd_i32, oMd_i33, oMd_i34, oMd_i35, oMd_f36, oMd_v36, oMd_f37, oMd_v37, oMd_f38, oMd_v38, oMd_i39, oMd_f40, oMd_v40, oMd_f41, oMd_v41, oMd_i42, oMd_f43, oMd_v43, oMd_i44, oMd_a1, oMd_n1, oMd_a2, oMd_n2, oMd_a3, oMd_n3, oMd_a4, oMd_n4, oMd_a363, oMd_n363, oMd_a364, oMd_n364, oMd_a446, oMd_n446, oMd_a447, oMd_n447, oMd_a469, oMd_n469, oMd_a470, oMd_n470, oMd_a471, oMd_n471, oMd_a472, oMd_n472, oMd_a473, oMd_n473, oMd_a5, oMd_n5, oMd_e5, oMd_ra5, oMd_rn5, oMd_a14, oMd_n14, oMd_e14, oMd_ra14, oMd_rn14, oMd_a23, oMd_n23, oMd_e23, oMd_ra23, oMd_rn23, oMd_a184, oMd_n184, oMd_e184, oMd_ra184, oMd_rn184, oMd_a345, oMd_n345, oMd_e345, oMd_ra345, oMd_rn345, oMd_a354, oMd_n354, oMd_e354, oMd_ra354, oMd_rn354, oMd_a365, oMd_n365, oMd_e365, oMd_ra365, oMd_rn365, oMd_a448, oMd_n448, oMd_e448, oMd_ra448, oMd_rn448, oMd_a465, oMd_n465, oMd_e465, oMd_ra465, oMd_rn465, om, hz, cn, i1, i2, i3, i4, e1, e2, e3, m1, m2, xI, x64, y64, nL_mul, nL_add, hX_he])
    try dsimp only at L
    rw [midX_0, midX_14, if_pos (by omega), if_neg (by omega)] at L
    rw [g261_97]
    simp (decide := true) (maxDischargeDepth := 4) only [g261_99, g261_100, g261_103, g261_105, rz_k_inl, rz_k_inr, Option.toList_some, Option.toList_none, List.cons_append, List.nil_append, List.append_nil, rz_up_s, rz_u_s, rz_up_n, rz_u_n, ne_eq, not_false_eq_true, not_true_eq_false, Nat.add_assoc, Nat.reduceAdd, reduceIte, Nat.add_eq_left, Nat.left_eq_add, Nat.add_left_cancel_iff, Nat.reduceEqDiff, Nat.add_right_cancel_iff, rz_nb0, rz_nb1, rz_nbb, rz_nbi, rz_isr, rz_zle, if_true, if_false, rz_bi0, rz_bi1, Bool.not_eq_true, Bool.not_eq_false, Bool.true_eq_false, Bool.false_eq_true, rz_ix_lit, cl_lit, Nat.reduceLT, bi_t, bi_f, decide_true, decide_false, Bool.not_false, Bool.not_true, Bool.and_true, Bool.true_and, Bool.and_false, Bool.false_and, ce]
    refine Eq.trans ?_ (L.trans ?_)
    · rfl
    · rw [g261_107]
      simp (decide := true) (maxDischargeDepth := 4) only [g261_109, g261_160, g261_163, rz_k_inl, rz_k_inr, Option.toList_some, Option.toList_none, List.cons_append, List.nil_append, List.append_nil, rz_up_s, rz_u_s, rz_up_n, rz_u_n, ne_eq, not_false_eq_true, not_true_eq_false, Nat.add_assoc, Nat.reduceAdd, reduceIte, Nat.add_eq_left, Nat.left_eq_add, Nat.add_left_cancel_iff, Nat.reduceEqDiff, Nat.add_right_cancel_iff, rz_nb0, rz_nb1, rz_nbb, rz_nbi, rz_isr, rz_zle, if_true, if_false, rz_bi0, rz_bi1, Bool.not_eq_true, Bool.not_eq_false, Bool.true_eq_false, Bool.false_eq_true, rz_ix_lit, cl_lit, Nat.reduceLT, bi_t, bi_f, decide_true, decide_false, Bool.not_false, Bool.not_true, Bool.and_true, Bool.true_and, Bool.and_false, Bool.false_and, show ((-1 : Int32) < 0) = True by decide, nI_1]
  have L2 := rz_loop (fun e (l6 : Option Value) => rg Z (d + 2) rx_m261 97 [some (.ref b), some (.int (nI n)), some (.int (nI k)), some (.int (nI x)), some (.int (nI pt)), some (.int (nI e)), l6, none, none, none, none, none, none, none, none] [] (rz_mk (hX h b (rwX f0 (rowL x e))) ι0, w)) n (fun _ _ => True) (fun e l6 he _ => ⟨_, trivial, round e l6 he⟩) n 0 none (by omega) trivial
  obtain ⟨l6, -, L2⟩ := L2
  try dsimp only at L2
  have oR := o (rwX f0 (rowL x n))
  have sh := sh_4n n (by omega)
  have cnn : (nI n < nI n) = False := by rw [nI_lt2 (by omega) (by omega)]; simp
  -- how many ways
  have L3 := rz_loopE (fun t => rg Z (d + 2) rx_m261 179 [some (.ref b), some (.int (nI n)), some (.int (nI k)), some (.int (nI x)), some (.int (nI pt)), some (.long (nL (psm (rowL x n) k t))), none, some (.long (nL (2 ^ (4 * n)))), none, some (.int (nI (k + t))), none, none, none, none, none] [] (rz_mk (hX h b (rwX f0 (rowL x n))) ι0, w)) (14 - k) (by
    intro t ht
    have c : (nI (k + t) < 14) = True := by rw [nI_ltL (by omega) (by decide)]; simp; omega
    have i1 : rz_ix (nI (k + t)) 14 := rz_ix_nat (by omega) (by omega)
    have i2 := nI_cl (show k + t < 2147483648 by omega)
    have r1 : rwX f0 (rowL x n) (k + t) = nL ((rowL x n).getD (k + t) 0) := by unfold rwX; rw [if_pos (by omega)]
    have n1 : nI (k + t) + 1 = nI (k + (t + 1)) := nI_1 (k + t)
    try dsimp only
    rw [g261_179]
    simp (decide := true) (maxDischargeDepth := 4) only [g261_181, g261_183, g261_186, g261_188, g261_189, g261_192, g261_194 (hX_at h b (rwX f0 (rowL x n))), g261_195, g261_196, g261_198, g261_201, rz_k_inl, rz_k_inr, Option.toList_some, Option.toList_none, List.cons_append, List.nil_append, List.append_nil, rz_up_s, rz_u_s, rz_up_n, rz_u_n, ne_eq, not_false_eq_true, not_true_eq_false, Nat.add_assoc, Nat.reduceAdd, reduceIte, Nat.add_eq_left, Nat.left_eq_add, Nat.add_left_cancel_iff, Nat.reduceEqDiff, Nat.add_right_cancel_iff, rz_nb0, rz_nb1, rz_nbb, rz_nbi, rz_isr, rz_zle, if_true, if_false, rz_bi0, rz_bi1, Bool.not_eq_true, Bool.not_eq_false, Bool.true_eq_false, Bool.false_eq_true, rz_ix_lit, cl_lit, Nat.reduceLT, bi_t, bi_f, decide_true, decide_false, Bool.not_false, Bool.not_true, Bool.and_true, Bool.true_and, Bool.and_false, Bool.false_and, oMd_c, oMd_i0, oMd_i1, oMd_i2, oMd_i3, oMd_i4, oMd_i5, oMd_i6, oMd_i7, oMd_i8, oMd_f9, oMd_v9, oMd_f10, oMd_v10, oMd_f11, oMd_v11, oMd_f12, oMd_v12, oMd_f13, oMd_v13, oMd_f14, oMd_v14, oMd_i15, oMd_i16, oMd_f17, oMd_v17, oMd_f18, oMd_v18, oMd_f19, oMd_v19, oMd_f20, oMd_v20, oMd_f21, oMd_v21, oMd_f22, oMd_v22, oMd_f23, oMd_v23, oMd_i24, oMd_f25, oMd_v25, oMd_f26, oMd_v26, oMd_f27, oMd_v27, oMd_f28, oMd_v28, oMd_i29, oMd_i30, oMd_i31, oMd_i32, oMd_i33, oMd_i34, oMd_i35, oMd_f36, oMd_v36, oMd_f37, oMd_v37, oMd_f38, oMd_v38, oMd_i39, oMd_f40, oMd_v40, oMd_f41, oMd_v41, oMd_i42, oMd_f43, oMd_v43, oMd_i44, oMd_a1, oMd_n1, oMd_a2, oMd_n2, oMd_a3, oMd_n3, oMd_a4, oMd_n4, oMd_a363, oMd_n363, oMd_a364, oMd_n364, oMd_a446, oMd_n446, oMd_a447, oMd_n447, oMd_a469, oMd_n469, oMd_a470, oMd_n470, oMd_a471, oMd_n471, oMd_a472, oMd_n472, oMd_a473, oMd_n473, oMd_a5, oMd_n5, oMd_e5, oMd_ra5, oMd_rn5, oMd_a14, oMd_n14, oMd_e14, oMd_ra14, oMd_rn14, oMd_a23, oMd_n23, oMd_e23, oMd_ra23, oMd_rn23, oMd_a184, oMd_n184, oMd_e184, oMd_ra184, oMd_rn184, oMd_a345, oMd_n345, oMd_e345, oMd_ra345, oMd_rn345, oMd_a354, oMd_n354, oMd_e354, oMd_ra354, oMd_rn354, oMd_a365, oMd_n365, oMd_e365, oMd_ra365, oMd_rn365, oMd_a448, oMd_n448, oMd_e448, oMd_ra448, oMd_rn448, oMd_a465, oMd_n465, oMd_e465, oMd_ra465, oMd_rn465, oR, hz, c, i1, i2, r1, nL_add, n1]
    rfl)
  try dsimp only at L3
  rw [show psm (rowL x n) k 0 = 0 from rfl, show nL 0 = 0 from rfl, Nat.add_zero, show k + (14 - k) = 14 by omega] at L3
  have up62 := upN_lt n (by omega) k (by omega) x (by omega)
  have pw62 : 2 ^ (4 * n) < 2 ^ 62 := Nat.pow_lt_pow_right (by omega) (by omega)
  have gcdL : ∀ (N c a : Nat) (l13 : Option Value), c ≤ N → a < 2 ^ 62 → c < 2 ^ 62 → ∃ l13', rg Z (d + 2) rx_m261 212 [some (.ref b), some (.int (nI n)), some (.int (nI k)), some (.int (nI x)), some (.int (nI pt)), some (.long (nL (upN n k x))), none, some (.long (nL (2 ^ (4 * n)))), none, some (.long (nL a)), none, some (.long (nL c)), none, l13, none] [] (rz_mk (hX h b (rwX f0 (rowL x n))) ι0, w) = rg Z (d + 2) rx_m261 237 [some (.ref b), some (.int (nI n)), some (.int (nI k)), some (.int (nI x)), some (.int (nI pt)), some (.long (nL (upN n k x))), none, some (.long (nL (2 ^ (4 * n)))), none, some (.long (nL (Nat.gcd a c))), none, some (.long (nL 0)), none, l13', none] [] (rz_mk (hX h b (rwX f0 (rowL x n))) ι0, w) := by
    intro N
    induction N with
    | zero =>
      intro c a l13 hc ha hc2
      have : c = 0 := by omega
      subst this
      refine ⟨l13, ?_⟩
      have c0 : lg_cmp (nL 0) 0 = 0 := by decide
      rw [g261_212, Nat.gcd_zero_right]
      simp (decide := true) (maxDischargeDepth := 4) only [g261_214, g261_215, g261_216, rz_k_inl, rz_k_inr, Option.toList_some, Option.toList_none, List.cons_append, List.nil_append, List.append_nil, rz_up_s, rz_u_s, rz_up_n, rz_u_n, ne_eq, not_false_eq_true, not_true_eq_false, Nat.add_assoc, Nat.reduceAdd, reduceIte, Nat.add_eq_left, Nat.left_eq_add, Nat.add_left_cancel_iff, Nat.reduceEqDiff, Nat.add_right_cancel_iff, rz_nb0, rz_nb1, rz_nbb, rz_nbi, rz_isr, rz_zle, if_true, if_false, rz_bi0, rz_bi1, Bool.not_eq_true, Bool.not_eq_false, Bool.true_eq_false, Bool.false_eq_true, rz_ix_lit, cl_lit, Nat.reduceLT, bi_t, bi_f, decide_true, decide_false, Bool.not_false, Bool.not_true, Bool.and_true, Bool.true_and, Bool.and_false, Bool.false_and, c0]
    | succ N ih =>
      intro c a l13 hc ha hc2
      by_cases h0 : c = 0
      · subst h0
        refine ⟨l13, ?_⟩
        have c0 : lg_cmp (nL 0) 0 = 0 := by decide
        rw [g261_212, Nat.gcd_zero_right]
        simp (decide := true) (maxDischargeDepth := 4) only [g261_214, g261_215, g261_216, rz_k_inl, rz_k_inr, Option.toList_some, Option.toList_none, List.cons_append, List.nil_append, List.append_nil, rz_up_s, rz_u_s, rz_up_n, rz_u_n, ne_eq, not_false_eq_true, not_true_eq_false, Nat.add_assoc, Nat.reduceAdd, reduceIte, Nat.add_eq_left, Nat.left_eq_add, Nat.add_left_cancel_iff, Nat.reduceEqDiff, Nat.add_right_cancel_iff, rz_nb0, rz_nb1, rz_nbb, rz_nbi, rz_isr, rz_zle, if_true, if_false, rz_bi0, rz_bi1, Bool.not_eq_true, Bool.not_eq_false, Bool.true_eq_false, Bool.false_eq_true, rz_ix_lit, cl_lit, Nat.reduceLT, bi_t, bi_f, decide_true, decide_false, Bool.not_false, Bool.not_true, Bool.and_true, Bool.true_and, Bool.and_false, Bool.false_and, c0]
      · have c0 : ¬ lg_cmp (nL c) 0 = 0 := by rw [lg_cmpN (by omega)]; exact h0
        have c1 : ¬ nL c = 0 := by rw [nL_eq0 (by omega)]; exact h0
        have ml : a % c < c := Nat.mod_lt _ (by omega)
        have rm := nL_rem (a := a) (b := c) (by omega) (by omega)
        obtain ⟨l13', k1⟩ := ih (a % c) c (some (.long (nL (a % c)))) (by omega) hc2 (by omega)
        refine ⟨l13', ?_⟩
        have eg : Nat.gcd c (a % c) = Nat.gcd a c := by rw [Nat.gcd_comm c (a % c), ← Nat.gcd_rec, Nat.gcd_comm]
        rw [eg] at k1
        rw [g261_212]
        simp (decide := true) (maxDischargeDepth := 4) only [g261_214, g261_215, g261_216, g261_219, g261_221, g261_223, g261_224, g261_226, g261_228, g261_230, g261_232, g261_234, rz_k_inl, rz_k_inr, Option.toList_some, Option.toList_none, List.cons_append, List.nil_append, List.append_nil, rz_up_s, rz_u_s, rz_up_n, rz_u_n, ne_eq, not_false_eq_true, not_true_eq_false, Nat.add_assoc, Nat.reduceAdd, reduceIte, Nat.add_eq_left, Nat.left_eq_add, Nat.add_left_cancel_iff, Nat.reduceEqDiff, Nat.add_right_cancel_iff, rz_nb0, rz_nb1, rz_nbb, rz_nbi, rz_isr, rz_zle, if_true, if_false, rz_bi0, rz_bi1, Bool.not_eq_true, Bool.not_eq_false, Bool.true_eq_false, Bool.false_eq_true, rz_ix_lit, cl_lit, Nat.reduceLT, bi_t, bi_f, decide_true, decide_false, Bool.not_false, Bool.not_true, Bool.and_true, Bool.true_and, Bool.and_false, Bool.false_and, c0, c1, rm]
        exact k1
  obtain ⟨l13, G⟩ := gcdL (upN n k x) (upN n k x) (2 ^ (4 * n)) none (Nat.le_refl _) pw62 up62
  have gp : 0 < Nat.gcd (2 ^ (4 * n)) (upN n k x) := Nat.gcd_pos_of_pos_left _ (Nat.two_pow_pos _)
  have gl : Nat.gcd (2 ^ (4 * n)) (upN n k x) ≤ 2 ^ (4 * n) := Nat.gcd_le_left _ (Nat.two_pow_pos _)
  generalize hg : Nat.gcd (2 ^ (4 * n)) (upN n k x) = g at G gp gl
  have g1 : ¬ nL g = 0 := by rw [nL_eq0 (by omega)]; omega
  have dv1 := nL_div (a := upN n k x) (b := g) (by omega) (by omega)
  have dv2 := nL_div (a := 2 ^ (4 * n)) (b := g) (by omega) (by omega)
  refine ⟨rwX f0 (rowL x n), ?_⟩
  rw [e0, e261]
  have o0 := o f0
  simp (decide := true) (maxDischargeDepth := 4) only [g261_0, g261_1, g261_2, g261_5, g261_6, g261_7, g261_8, g261_10, g261_13, g261_16, g261_17, g261_18, g261_20, g261_23, g261_26, g261_27, g261_28, g261_30, g261_33, g261_36, g261_38, g261_39, g261_40, g261_43, g261_46, g261_47, g261_50, g261_51, g261_52, g261_53, g261_56, g261_59, g261_60, g261_61, g261_62, rz_k_inl, rz_k_inr, Option.toList_some, Option.toList_none, List.cons_append, List.nil_append, List.append_nil, rz_up_s, rz_u_s, rz_up_n, rz_u_n, ne_eq, not_false_eq_true, not_true_eq_false, Nat.add_assoc, Nat.reduceAdd, reduceIte, Nat.add_eq_left, Nat.left_eq_add, Nat.add_left_cancel_iff, Nat.reduceEqDiff, Nat.add_right_cancel_iff, rz_nb0, rz_nb1, rz_nbb, rz_nbi, rz_isr, rz_zle, if_true, if_false, rz_bi0, rz_bi1, Bool.not_eq_true, Bool.not_eq_false, Bool.true_eq_false, Bool.false_eq_true, rz_ix_lit, cl_lit, Nat.reduceLT, bi_t, bi_f, decide_true, decide_false, Bool.not_false, Bool.not_true, Bool.and_true, Bool.true_and, Bool.and_false, Bool.false_and, oMd_c, oMd_i0, oMd_i1, oMd_i2, oMd_i3, oMd_i4, oMd_i5, oMd_i6, oMd_i7, oMd_i8, oMd_f9, oMd_v9, oMd_f10, oMd_v10, oMd_f11, oMd_v11, oMd_f12, oMd_v12, oMd_f13, oMd_v13, oMd_f14, oMd_v14, oMd_i15, oMd_i16, oMd_f17, oMd_v17, oMd_f18, oMd_v18, oMd_f19, oMd_v19, oMd_f20, oMd_v20, oMd_f21, oMd_v21, oMd_f22, oMd_v22, oMd_f23, oMd_v23, oMd_i24, oMd_f25, oMd_v25, oMd_f26, oMd_v26, oMd_f27, oMd_v27, oMd_f28, oMd_v28, oMd_i29, oMd_i30, oMd_i31, oMd_i32, oMd_i33, oMd_i34, oMd_i35, oMd_f36, oMd_v36, oMd_f37, oMd_v37, oMd_f38, oMd_v38, oMd_i39, oMd_f40, oMd_v40, oMd_f41, oMd_v41, oMd_i42, oMd_f43, oMd_v43, oMd_i44, oMd_a1, oMd_n1, oMd_a2, oMd_n2, oMd_a3, oMd_n3, oMd_a4, oMd_n4, oMd_a363, oMd_n363, oMd_a364, oMd_n364, oMd_a446, oMd_n446, oMd_a447, oMd_n447, oMd_a469, oMd_n469, oMd_a470, oMd_n470, oMd_a471, oMd_n471, oMd_a472, oMd_n472, oMd_a473, oMd_n473, oMd_a5, oMd_n5, oMd_e5, oMd_ra5, oMd_rn5, oMd_a14, oMd_n14, oMd_e14, oMd_ra14, oMd_rn14, oMd_a23, oMd_n23, oMd_e23, oMd_ra23, oMd_rn23, oMd_a184, oMd_n184, oMd_e184, oMd_ra184, oMd_rn184, oMd_a345, oMd_n345, oMd_e345, oMd_ra345, oMd_rn345, oMd_a354, oMd_n354, oMd_e354, oMd_ra354, oMd_rn354, oMd_a365, oMd_n365, oMd_e365, oMd_ra365, oMd_rn365, oMd_a448, oMd_n448, oMd_e448, oMd_ra448, oMd_rn448, oMd_a465, oMd_n465, oMd_e465, oMd_ra465, oMd_rn465, o0, hz, e0, md_in, c1, c2, c3, c4, b4]
  refine Eq.trans ?_ (L1.trans ?_)
  · rfl
  rw [g261_64]
  simp (decide := true) (maxDischargeDepth := 4) only [g261_66, g261_68, g261_94, g261_95, rz_k_inl, rz_k_inr, Option.toList_some, Option.toList_none, List.cons_append, List.nil_append, List.append_nil, rz_up_s, rz_u_s, rz_up_n, rz_u_n, ne_eq, not_false_eq_true, not_true_eq_false, Nat.add_assoc, Nat.reduceAdd, reduceIte, Nat.add_eq_left, Nat.left_eq_add, Nat.add_left_cancel_iff, Nat.reduceEqDiff, Nat.add_right_cancel_iff, rz_nb0, rz_nb1, rz_nbb, rz_nbi, rz_isr, rz_zle, if_true, if_false, rz_bi0, rz_bi1, Bool.not_eq_true, Bool.not_eq_false, Bool.true_eq_false, Bool.false_eq_true, rz_ix_lit, cl_lit, Nat.reduceLT, bi_t, bi_f, decide_true, decide_false, Bool.not_false, Bool.not_true, Bool.and_true, Bool.true_and, Bool.and_false, Bool.false_and, show (nI 14 < 14) = False by decide]
  refine Eq.trans ?_ (L2.trans ?_)
  · rfl
  rw [g261_97]
  simp (decide := true) (maxDischargeDepth := 4) only [g261_99, g261_100, g261_166, g261_167, g261_169, g261_170, g261_171, g261_172, g261_173, g261_174, g261_176, g261_177, rz_k_inl, rz_k_inr, Option.toList_some, Option.toList_none, List.cons_append, List.nil_append, List.append_nil, rz_up_s, rz_u_s, rz_up_n, rz_u_n, ne_eq, not_false_eq_true, not_true_eq_false, Nat.add_assoc, Nat.reduceAdd, reduceIte, Nat.add_eq_left, Nat.left_eq_add, Nat.add_left_cancel_iff, Nat.reduceEqDiff, Nat.add_right_cancel_iff, rz_nb0, rz_nb1, rz_nbb, rz_nbi, rz_isr, rz_zle, if_true, if_false, rz_bi0, rz_bi1, Bool.not_eq_true, Bool.not_eq_false, Bool.true_eq_false, Bool.false_eq_true, rz_ix_lit, cl_lit, Nat.reduceLT, bi_t, bi_f, decide_true, decide_false, Bool.not_false, Bool.not_true, Bool.and_true, Bool.true_and, Bool.and_false, Bool.false_and, cnn, sh]
  refine Eq.trans ?_ (L3.trans ?_)
  · rfl
  rw [g261_179]
  have eu : psm (rowL x n) k (14 - k) = upN n k x := rfl
  rw [eu]
  simp (decide := true) (maxDischargeDepth := 4) only [g261_181, g261_183, g261_204, g261_206, g261_208, g261_210, rz_k_inl, rz_k_inr, Option.toList_some, Option.toList_none, List.cons_append, List.nil_append, List.append_nil, rz_up_s, rz_u_s, rz_up_n, rz_u_n, ne_eq, not_false_eq_true, not_true_eq_false, Nat.add_assoc, Nat.reduceAdd, reduceIte, Nat.add_eq_left, Nat.left_eq_add, Nat.add_left_cancel_iff, Nat.reduceEqDiff, Nat.add_right_cancel_iff, rz_nb0, rz_nb1, rz_nbb, rz_nbi, rz_isr, rz_zle, if_true, if_false, rz_bi0, rz_bi1, Bool.not_eq_true, Bool.not_eq_false, Bool.true_eq_false, Bool.false_eq_true, rz_ix_lit, cl_lit, Nat.reduceLT, bi_t, bi_f, decide_true, decide_false, Bool.not_false, Bool.not_true, Bool.and_true, Bool.true_and, Bool.and_false, Bool.false_and, show (nI 14 < 14) = False by decide]
  rw [G]
  unfold chN
  rw [hg]
  have : pt = 0 ∨ pt = 1 := by omega
  rcases this with rfl | rfl
  · simp (decide := true) (maxDischargeDepth := 4) only [g261_237, g261_239, g261_242, g261_244, g261_246, g261_247, g261_250, g261_252, g261_254, g261_255, rz_k_inl, rz_k_inr, Option.toList_some, Option.toList_none, List.cons_append, List.nil_append, List.append_nil, rz_up_s, rz_u_s, rz_up_n, rz_u_n, ne_eq, not_false_eq_true, not_true_eq_false, Nat.add_assoc, Nat.reduceAdd, reduceIte, Nat.add_eq_left, Nat.left_eq_add, Nat.add_left_cancel_iff, Nat.reduceEqDiff, Nat.add_right_cancel_iff, rz_nb0, rz_nb1, rz_nbb, rz_nbi, rz_isr, rz_zle, if_true, if_false, rz_bi0, rz_bi1, Bool.not_eq_true, Bool.not_eq_false, Bool.true_eq_false, Bool.false_eq_true, rz_ix_lit, cl_lit, Nat.reduceLT, bi_t, bi_f, decide_true, decide_false, Bool.not_false, Bool.not_true, Bool.and_true, Bool.true_and, Bool.and_false, Bool.false_and, show nI 0 = 0 from rfl, g1, dv1]
  · simp (decide := true) (maxDischargeDepth := 4) only [g261_237, g261_239, g261_242, g261_244, g261_246, g261_247, g261_250, g261_252, g261_254, g261_255, rz_k_inl, rz_k_inr, Option.toList_some, Option.toList_none, List.cons_append, List.nil_append, List.append_nil, rz_up_s, rz_u_s, rz_up_n, rz_u_n, ne_eq, not_false_eq_true, not_true_eq_false, Nat.add_assoc, Nat.reduceAdd, reduceIte, Nat.add_eq_left, Nat.left_eq_add, Nat.add_left_cancel_iff, Nat.reduceEqDiff, Nat.add_right_cancel_iff, rz_nb0, rz_nb1, rz_nbb, rz_nbi, rz_isr, rz_zle, if_true, if_false, rz_bi0, rz_bi1, Bool.not_eq_true, Bool.not_eq_false, Bool.true_eq_false, Bool.false_eq_true, rz_ix_lit, cl_lit, Nat.reduceLT, bi_t, bi_f, decide_true, decide_false, Bool.not_false, Bool.not_true, Bool.and_true, Bool.true_and, Bool.and_false, Bool.false_and, show nI 1 = 1 from rfl, g1, dv2]
theorem mo_chance (q : QM Z h ι b C R m dk lv) {f0 : Nat → Int64} (hx : h (b + 474) = some (.inl (1, 14, fun i => .long (f0 i)))) {n k x pt : Nat} (hn : n ≤ 12) (hk : k ≤ 13) (hx' : x ≤ 16) (hp : pt ≤ 1) (hb : chB (nI n) (nI k) (nI x) (nI pt) = true) : ∃ f1, rz_f Z (d + 3) 261 [.ref b, .int (nI n), .int (nI k), .int (nI x), .int (nI pt)] (rz_mk h ι, w) = some (.inl (some (.long (chS n k (nI x) pt))), (rz_mk (hX h b f1) (rz_up ι b 0 0), w)) := by
  have e : hX h b f0 = h := by
    funext a
    by_cases ha : a = b + 474
    · subst ha; rw [hX_at, hx]
    · rw [hX_ne ha]
  rw [chS_N (by omega) (by omega) (by omega) (by omega)]
  have := mo_chanceA (Z := Z) (d := d) (h := h) (ι := ι) (w := w) (f0 := f0) (by rw [e]; exact q) hn hk hx' hp hb
  rw [e] at this
  exact this
end REF35
