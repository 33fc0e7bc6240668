/-! the class: a realm is made, the usual law, the empty book, the need of a text -/
section CI4
variable {Z : rx_Z} {d : Nat} {h : Nat → Option rx_E} {ι : Nat → Nat → Int32} {w : Nat × Nat}
theorem rm_init {a s : Nat} (hz : Z.2.1 ≤ a) (e : h a = some (.inr (8, rx_df 8))) : ∃ h' ι', rz_f Z (d + 1) 65 [.ref a] (rz_mk h ι, (a + 1, s)) = some (.inl none, (rz_mk h' ι', (a + 4, s + 56))) ∧ oRl h' a ∧ rl ι' a = R00 ∧ ∀ x, (x < a ∨ a + 4 ≤ x) → h' x = h x ∧ ι' x = ι x := by
  obtain ⟨h1, E1⟩ : ∃ y, y = rx_up h (a + 1) (.inl (0, 24, fun _ => .int 0)) := ⟨_, rfl⟩
  obtain ⟨h2, E2⟩ : ∃ y, y = rz_hs h1 a 0 (.ref (a + 1)) := ⟨_, rfl⟩
  obtain ⟨h3, E3⟩ : ∃ y, y = rx_up h2 (a + 2) (.inl (0, 24, fun _ => .int 0)) := ⟨_, rfl⟩
  obtain ⟨h4, E4⟩ : ∃ y, y = rz_hs h3 a 1 (.ref (a + 2)) := ⟨_, rfl⟩
  obtain ⟨h5, E5⟩ : ∃ y, y = rx_up h4 (a + 3) (.inl (0, 8, fun _ => .int 0)) := ⟨_, rfl⟩
  obtain ⟨h6, E6⟩ : ∃ y, y = rz_hs h5 a 2 (.ref (a + 3)) := ⟨_, rfl⟩
  obtain ⟨j1, J1⟩ : ∃ y, y = rz_z ι (a + 1) := ⟨_, rfl⟩
  obtain ⟨j2, J2⟩ : ∃ y, y = rz_z j1 (a + 2) := ⟨_, rfl⟩
  obtain ⟨j3, J3⟩ : ∃ y, y = rz_z j2 (a + 3) := ⟨_, rfl⟩
  have a1 : h1 a = some (.inr (8, [.null, .null, .null, .int 0, .int 0, .int 0, .int 0, .int 0, .int 0])) := by rw [E1, up_ne (by omega), e]; rfl
  have a2 : h2 a = some (.inr (8, [.ref (a + 1), .null, .null, .int 0, .int 0, .int 0, .int 0, .int 0, .int 0])) := by rw [E2, hs_s a1]; rfl
  have a3 : h3 a = some (.inr (8, [.ref (a + 1), .null, .null, .int 0, .int 0, .int 0, .int 0, .int 0, .int 0])) := by rw [E3, up_ne (by omega), a2]
  have a4 : h4 a = some (.inr (8, [.ref (a + 1), .ref (a + 2), .null, .int 0, .int 0, .int 0, .int 0, .int 0, .int 0])) := by rw [E4, hs_s a3]; rfl
  have a5 : h5 a = some (.inr (8, [.ref (a + 1), .ref (a + 2), .null, .int 0, .int 0, .int 0, .int 0, .int 0, .int 0])) := by rw [E5, up_ne (by omega), a4]
  have a6 : h6 a = some (.inr (8, [.ref (a + 1), .ref (a + 2), .ref (a + 3), .int 0, .int 0, .int 0, .int 0, .int 0, .int 0])) := by rw [E6, hs_s a5]; rfl
  have b1 : h6 (a + 1) = some (.inl (0, 24, fun _ => .int 0)) := by rw [E6, hs_ne (by omega), E5, up_ne (by omega), E4, hs_ne (by omega), E3, up_ne (by omega), E2, hs_ne (by omega), E1]; exact rx_up_self _ _ _
  have b2 : h6 (a + 2) = some (.inl (0, 24, fun _ => .int 0)) := by rw [E6, hs_ne (by omega), E5, up_ne (by omega), E4, hs_ne (by omega), E3]; exact rx_up_self _ _ _
  have b3 : h6 (a + 3) = some (.inl (0, 8, fun _ => .int 0)) := by rw [E6, hs_ne (by omega), E5]; exact rx_up_self _ _ _
  have o6 : oRl h6 a := ⟨a6, b1, b2, b3⟩
  have fx : ∀ x, (x < a ∨ a + 4 ≤ x) → h6 x = h x ∧ j3 x = ι x := fun x hx => ⟨by rw [E6, hs_ne (by omega), E5, up_ne (by omega), E4, hs_ne (by omega), E3, up_ne (by omega), E2, hs_ne (by omega), E1, up_ne (by omega)], by rw [J3, zz_ne (by omega), J2, zz_ne (by omega), J1, zz_ne (by omega)]⟩
  have zs : ∀ (ι : Nat → Nat → Int32) (x : Nat), rz_z ι x x = fun _ => 0 := fun ι x => by unfold rz_z; rw [if_pos rfl]
  have t1 : j3 (a + 1) = fun _ => 0 := by rw [J3, zz_ne (by omega), J2, zz_ne (by omega), J1, zs]
  have t2 : j3 (a + 2) = fun _ => 0 := by rw [J3, zz_ne (by omega), J2, zs]
  have t3 : j3 (a + 3) = fun _ => 0 := by rw [J3, zs]
  refine ⟨h6, rz_up (rz_up (rz_up (rz_up (rz_up (rz_up j3 a 3 0) a 4 0) a 5 (-1)) a 6 0) a 7 0) a 8 0, ?_, o6, ?_, fun x hx => ⟨(fx x hx).1, by rw [rz_up_n (by omega), rz_up_n (by omega), rz_up_n (by omega), rz_up_n (by omega), rz_up_n (by omega), rz_up_n (by omega)]; exact (fx x hx).2⟩⟩
  · rw [e65]
    simp (decide := true) (maxDischargeDepth := 4) only [g65_0, g65_1, g65_4, g65_5, g65_7, g65_9, g65_12, g65_13, g65_15, g65_17, g65_20, g65_21, g65_23, g65_25, g65_28, g65_29, g65_30, g65_33, g65_34, g65_35, g65_38, g65_39, g65_40, g65_43, g65_44, g65_45, g65_48, g65_49, g65_50, g65_53, g65_54, g65_55, g65_58, rz_k_inl, rz_k_inr, Option.toList_some, Option.toList_none, List.cons_append, List.nil_append, List.append_nil, rz_up_s, rz_u_s, rz_up_n, rz_u_n, ne_eq, not_false_eq_true, not_true_eq_false, Nat.add_assoc, Nat.reduceAdd, reduceIte, Nat.add_eq_left, Nat.left_eq_add, Nat.add_left_cancel_iff, Nat.reduceEqDiff, Nat.add_right_cancel_iff, rz_nb0, rz_nb1, rz_nbb, rz_nbi, rz_isr, rz_zle, if_true, if_false, rz_bi0, rz_bi1, Bool.not_eq_true, Bool.not_eq_false, Bool.true_eq_false, Bool.false_eq_true, rz_ix_lit, cl_lit, Nat.reduceLT, bi_t, bi_f, decide_true, decide_false, Bool.not_false, Bool.not_true, Bool.and_true, Bool.true_and, Bool.and_false, Bool.false_and, ← E1, ← E2, ← E3, ← E4, ← E5, ← E6, ← J1, ← J2, ← J3, g65_9 (⟨_, _, a1, rfl, rfl⟩ : rz_fR h1 a 8 0) isr_r hz, g65_17 (⟨_, _, a3, rfl, rfl⟩ : rz_fR h3 a 8 1) isr_r hz, g65_25 (⟨_, _, a5, rfl, rfl⟩ : rz_fR h5 a 8 2) isr_r hz, oRl_c o6, oRl_f0 o6, oRl_v0 o6, oRl_f1 o6, oRl_v1 o6, oRl_f2 o6, oRl_v2 o6, oRl_i3 o6, oRl_i4 o6, oRl_i5 o6, oRl_i6 o6, oRl_i7 o6, oRl_i8 o6, oRl_a1 o6, oRl_n1 o6, oRl_a2 o6, oRl_n2 o6, oRl_a3 o6, oRl_n3 o6, hz]
  · apply rl_ext
    · intro i hi; rw [rz_up_n (by omega), rz_up_n (by omega), rz_up_n (by omega), rz_up_n (by omega), rz_up_n (by omega), rz_up_n (by omega), t1]; unfold R00; rw [if_neg (by omega)]
    · intro i hi; rw [rz_up_n (by omega), rz_up_n (by omega), rz_up_n (by omega), rz_up_n (by omega), rz_up_n (by omega), rz_up_n (by omega), t2]; unfold R00; rw [if_neg (by omega)]
    · intro i hi; rw [rz_up_n (by omega), rz_up_n (by omega), rz_up_n (by omega), rz_up_n (by omega), rz_up_n (by omega), rz_up_n (by omega), t3]; unfold R00; rw [if_neg (by omega)]
    · simp only [rz_up_s, rz_u_s, rz_u_n, ne_eq, Nat.reduceEqDiff, not_false_eq_true]; rfl
    · simp only [rz_up_s, rz_u_s, rz_u_n, ne_eq, Nat.reduceEqDiff, not_false_eq_true]; rfl
    · simp only [rz_up_s, rz_u_s, rz_u_n, ne_eq, Nat.reduceEqDiff, not_false_eq_true]; rfl
    · simp only [rz_up_s, rz_u_s, rz_u_n, ne_eq, Nat.reduceEqDiff, not_false_eq_true]; rfl
    · simp only [rz_up_s, rz_u_s, rz_u_n, ne_eq, Nat.reduceEqDiff, not_false_eq_true]; rfl
    · simp only [rz_up_s, rz_u_s, rz_u_n, ne_eq, Nat.reduceEqDiff, not_false_eq_true]; rfl
    · intro i hi; unfold R00; rw [if_neg (by omega)]
theorem lw_usual {l : Nat} (o : oLw h l) (hz : Z.2.1 ≤ l) (ho : olI Z h ι) : ∃ ι', rz_f Z (d + 1) 41 [.ref l] (rz_mk h ι, w) = some (.inl none, (rz_mk h ι', w)) ∧ lwIs ι' l usL ∧ ∀ x, x ≠ l → x ≠ l + 1 → ι' x = ι x := by
  obtain ⟨o1, o2, o3, o4, o5⟩ := ho
  refine ⟨rz_up (rz_cp ι (Z.2.2.2 0) (l + 1) 0 0 7) l 3 7, ?_, ⟨by rw [rz_up_s, rz_u_s]; rfl, fun j hj => ?_, usL_ok⟩, fun x h1 h2 => by rw [rz_up_n h1]; unfold rz_cp; rw [if_neg h2]⟩
  · have e7 : (Int32.ofNat 7).toNatClampNeg = 7 := rfl
    rw [e41]
    simp (decide := true) (maxDischargeDepth := 4) only [g41_0, g41_3, g41_4, g41_5, g41_8, g41_9, g41_12, g41_13, g41_16, g41_17, g41_20, g41_21, g41_24, rz_k_inl, rz_k_inr, Option.toList_some, Option.toList_none, List.cons_append, List.nil_append, List.append_nil, rz_up_s, rz_u_s, rz_up_n, rz_u_n, ne_eq, not_false_eq_true, not_true_eq_false, Nat.add_assoc, Nat.reduceAdd, reduceIte, Nat.add_eq_left, Nat.left_eq_add, Nat.add_left_cancel_iff, Nat.reduceEqDiff, Nat.add_right_cancel_iff, rz_nb0, rz_nb1, rz_nbb, rz_nbi, rz_isr, rz_zle, if_true, if_false, rz_bi0, rz_bi1, Bool.not_eq_true, Bool.not_eq_false, Bool.true_eq_false, Bool.false_eq_true, rz_ix_lit, cl_lit, Nat.reduceLT, bi_t, bi_f, decide_true, decide_false, Bool.not_false, Bool.not_true, Bool.and_true, Bool.true_and, Bool.and_false, Bool.false_and, oLw_c o, oLw_f0 o, oLw_v0 o, oLw_f1 o, oLw_v1 o, oLw_f2 o, oLw_v2 o, oLw_i3 o, oLw_a1 o, oLw_n1 o, oLw_a2 o, oLw_n2 o, oLw_a3 o, oLw_n3 o, o2, o3, hz, e7, show ¬ ((0 : Int32) < 0) by decide, show ¬ (Int32.ofNat 7 < 0) by decide, show 0 + (Int32.ofNat 7).toNatClampNeg ≤ 7 by decide, show 0 + (Int32.ofNat 7).toNatClampNeg ≤ 150 by decide, show (0 : Int32).toNatClampNeg = 0 from rfl, Nat.zero_add]
    rfl
  · have hj' : j < 7 := hj
    rw [rz_up_n (by omega)]
    unfold rz_cp va_cpy
    rw [if_pos rfl, if_pos (by omega), Nat.zero_add, Nat.sub_zero]
    exact o5 j hj'
def flM (B : Nat → Int32) : Nat → Nat → Int32
  | 0 => B
  | k + 1 => rz_u (flM B k) k (-1)
theorem flM_at (B : Nat → Int32) : ∀ k q, q < k → flM B k q = -1
  | k + 1, q, hq => by
    show rz_u (flM B k) k (-1) q = -1
    by_cases h0 : q = k
    · rw [h0, rz_u_s]
    · rw [rz_u_n h0]; exact flM_at B k q (by omega)
theorem bk_empty {a : Nat} (o : oBk h a) (hz : Z.2.1 ≤ a) : ∃ ι', rz_f Z (d + 1) 1 [.ref a] (rz_mk h ι, w) = some (.inl none, (rz_mk h ι', w)) ∧ (∀ q, q < 8 → ι' (a + 1) q = -1) ∧ ι' a 2 = 0 ∧ ∀ x, x ≠ a → x ≠ a + 1 → ι' x = ι x := by
  have n8 : Int32.ofNat 8 = nI 8 := rfl
  have L := rz_loopE (fun i => rg Z d rx_m1 2 [some (.ref a), some (.int (nI i))] [] (rz_mk h (rz_rw ι (a + 1) (flM (ι (a + 1)) i)), w)) 8 (by
    intro i hi
    have c : (nI i < nI 8) = True := by rw [nI_lt2 (by omega) (by omega)]; simp [hi]
    have i1 : rz_ix (nI i) 8 := rz_ix_nat (by omega) (by omega)
    have cl : (nI i).toNatClampNeg = i := nI_cl (by omega)
    try dsimp only
    rw [g1_2]
    simp only [g1_0, g1_1, g1_3, g1_4, g1_7, g1_8, g1_11, g1_12, g1_15, g1_16, g1_17, g1_18, g1_21, g1_24, g1_25, g1_26, g1_29, rz_k_inl, rz_k_inr, Option.toList_some, Option.toList_none, List.cons_append, List.nil_append, List.append_nil, rz_up_s, rz_u_s, rz_up_n, rz_u_n, ne_eq, not_false_eq_true, not_true_eq_false, Nat.add_assoc, Nat.reduceAdd, reduceIte, Nat.add_eq_left, Nat.left_eq_add, Nat.add_left_cancel_iff, Nat.reduceEqDiff, Nat.add_right_cancel_iff, rz_nb0, rz_nb1, rz_nbb, rz_nbi, rz_isr, rz_zle, if_true, if_false, rz_bi0, rz_bi1, Bool.not_eq_true, Bool.not_eq_false, Bool.true_eq_false, Bool.false_eq_true, rz_ix_lit, cl_lit, Nat.reduceLT, oBk_c, oBk_f0, oBk_v0, oBk_f1, oBk_v1, oBk_i2, oBk_a1, oBk_n1, oBk_a2, oBk_n2, o, hz, n8, c, i1, cl, ← nI_succ, rz_rw_up]
    rfl)
  try dsimp only at L
  refine ⟨rz_up (rz_rw ι (a + 1) (flM (ι (a + 1)) 8)) a 2 0, ?_, fun q hq => ?_, ?_, fun x h1 h2 => ?_⟩
  · rw [e1]
    simp only [g1_0, g1_1, g1_3, g1_4, g1_7, g1_8, g1_11, g1_12, g1_15, g1_16, g1_17, g1_18, g1_21, g1_24, g1_25, g1_26, g1_29, rz_k_inl, rz_k_inr, Option.toList_some, Option.toList_none, List.cons_append, List.nil_append, List.append_nil, rz_up_s, rz_u_s, rz_up_n, rz_u_n, ne_eq, not_false_eq_true, not_true_eq_false, Nat.add_assoc, Nat.reduceAdd, reduceIte, Nat.add_eq_left, Nat.left_eq_add, Nat.add_left_cancel_iff, Nat.reduceEqDiff, Nat.add_right_cancel_iff, rz_nb0, rz_nb1, rz_nbb, rz_nbi, rz_isr, rz_zle, if_true, if_false, rz_bi0, rz_bi1, Bool.not_eq_true, Bool.not_eq_false, Bool.true_eq_false, Bool.false_eq_true, rz_ix_lit, cl_lit, Nat.reduceLT, oBk_c, oBk_f0, oBk_v0, oBk_f1, oBk_v1, oBk_i2, oBk_a1, oBk_n1, oBk_a2, oBk_n2, o, hz]
    rw [show (0 : Int32) = nI 0 from rfl]
    rw [show flM (ι (a + 1)) 0 = ι (a + 1) from rfl, rz_rw_id rfl] at L
    rw [L, g1_2]
    have c4 : (nI 8 < nI 8) = False := by decide
    simp only [g1_0, g1_1, g1_3, g1_4, g1_7, g1_8, g1_11, g1_12, g1_15, g1_16, g1_17, g1_18, g1_21, g1_24, g1_25, g1_26, g1_29, rz_k_inl, rz_k_inr, Option.toList_some, Option.toList_none, List.cons_append, List.nil_append, List.append_nil, rz_up_s, rz_u_s, rz_up_n, rz_u_n, ne_eq, not_false_eq_true, not_true_eq_false, Nat.add_assoc, Nat.reduceAdd, reduceIte, Nat.add_eq_left, Nat.left_eq_add, Nat.add_left_cancel_iff, Nat.reduceEqDiff, Nat.add_right_cancel_iff, rz_nb0, rz_nb1, rz_nbb, rz_nbi, rz_isr, rz_zle, if_true, if_false, rz_bi0, rz_bi1, Bool.not_eq_true, Bool.not_eq_false, Bool.true_eq_false, Bool.false_eq_true, rz_ix_lit, cl_lit, Nat.reduceLT, oBk_c, oBk_f0, oBk_v0, oBk_f1, oBk_v1, oBk_i2, oBk_a1, oBk_n1, oBk_a2, oBk_n2, o, hz, n8, c4]
    rfl
  · rw [rz_up_n (by omega), rz_rw_s]; exact flM_at _ 8 q hq
  · rw [rz_up_s, rz_u_s]
  · rw [rz_up_n h1, rz_rw_n h2]
theorem hr_needText {c l r : Nat} {pv : Value} (o : oHr h c l r pv) (ot : oTp h (c + 1)) (hz : Z.2.1 ≤ c) (x y : Int32) : rz_f Z (d + 2) 163 [.ref c, .int x, .int y] (rz_mk h ι, w) = if x < 0 ∨ (if y < ι (c + 1) 5 then y else ι (c + 1) 5) < x then some (.inr (rx_xn 0), (rz_mk h (rz_up ι c 17 (ι c 17 + 1)), w)) else some (.inl none, (rz_mk h ι, w)) := by
  have n1 := hr_need1 (Z := Z) (d := d) (ι := ι) (w := w) o
  have n0 := hr_need0 (Z := Z) (d := d) (ι := ι) (w := w) o hz
  rw [e163]
  by_cases h0 : x < 0
  · rw [if_pos (Or.inl h0)]
    simp (decide := true) (maxDischargeDepth := 4) only [g163_0, g163_1, g163_2, g163_3, g163_4, g163_7, g163_10, g163_11, g163_14, g163_17, g163_20, rz_k_inl, rz_k_inr, Option.toList_some, Option.toList_none, List.cons_append, List.nil_append, List.append_nil, rz_up_s, rz_u_s, rz_up_n, rz_u_n, ne_eq, not_false_eq_true, not_true_eq_false, Nat.add_assoc, Nat.reduceAdd, reduceIte, Nat.add_eq_left, Nat.left_eq_add, Nat.add_left_cancel_iff, Nat.reduceEqDiff, Nat.add_right_cancel_iff, rz_nb0, rz_nb1, rz_nbb, rz_nbi, rz_isr, rz_zle, if_true, if_false, rz_bi0, rz_bi1, Bool.not_eq_true, Bool.not_eq_false, Bool.true_eq_false, Bool.false_eq_true, rz_ix_lit, cl_lit, Nat.reduceLT, bi_t, bi_f, decide_true, decide_false, Bool.not_false, Bool.not_true, Bool.and_true, Bool.true_and, Bool.and_false, Bool.false_and, oHr_c o, oHr_f0 o, oHr_v0 o, oHr_f1 o, oHr_v1 o, oHr_f2 o, oHr_v2 o, oHr_f3 o, oHr_v3 o, oHr_f4 o, oHr_v4 o, oHr_f5 o, oHr_v5 o, oHr_f6 o, oHr_v6 o, oHr_f7 o, oHr_v7 o, oHr_f8 o, oHr_v8 o, oHr_f9 o, oHr_v9 o, oHr_f10 o, oHr_v10 o, oHr_f11 o, oHr_v11 o, oHr_f12 o, oHr_v12 o, oHr_i13 o, oHr_i14 o, oHr_i15 o, oHr_i16 o, oHr_i17 o, oTp_c, oTp_f0, oTp_v0, oTp_i1, oTp_i2, oTp_i3, oTp_i4, oTp_i5, oTp_i6, oTp_a1, oTp_n1, o, ot, hr_within, h0, n0]
  · by_cases h1 : (if y < ι (c + 1) 5 then y else ι (c + 1) 5) < x
    · rw [if_pos (Or.inr h1)]
      simp (decide := true) (maxDischargeDepth := 4) only [g163_0, g163_1, g163_2, g163_3, g163_4, g163_7, g163_10, g163_11, g163_14, g163_17, g163_20, oHr_c o, oHr_f0 o, oHr_v0 o, oHr_f1 o, oHr_v1 o, oHr_f2 o, oHr_v2 o, oHr_f3 o, oHr_v3 o, oHr_f4 o, oHr_v4 o, oHr_f5 o, oHr_v5 o, oHr_f6 o, oHr_v6 o, oHr_f7 o, oHr_v7 o, oHr_f8 o, oHr_v8 o, oHr_f9 o, oHr_v9 o, oHr_f10 o, oHr_v10 o, oHr_f11 o, oHr_v11 o, oHr_f12 o, oHr_v12 o, oHr_i13 o, oHr_i14 o, oHr_i15 o, oHr_i16 o, oHr_i17 o, oTp_c, oTp_f0, oTp_v0, oTp_i1, oTp_i2, oTp_i3, oTp_i4, oTp_i5, oTp_i6, oTp_a1, oTp_n1, o, ot, hr_within, h0, h1, n0, rz_k_inl, rz_k_inr, Option.toList_some, Option.toList_none, List.cons_append, List.nil_append, List.append_nil, bi_t, bi_f, decide_true, decide_false, Bool.not_false, Bool.not_true, Bool.and_true, Bool.true_and, Bool.and_false, Bool.false_and]
    · rw [if_neg (by simp only [h0, h1, or_self, not_false_eq_true])]
      simp (decide := true) (maxDischargeDepth := 4) only [g163_0, g163_1, g163_2, g163_3, g163_4, g163_7, g163_10, g163_11, g163_14, g163_17, g163_20, oHr_c o, oHr_f0 o, oHr_v0 o, oHr_f1 o, oHr_v1 o, oHr_f2 o, oHr_v2 o, oHr_f3 o, oHr_v3 o, oHr_f4 o, oHr_v4 o, oHr_f5 o, oHr_v5 o, oHr_f6 o, oHr_v6 o, oHr_f7 o, oHr_v7 o, oHr_f8 o, oHr_v8 o, oHr_f9 o, oHr_v9 o, oHr_f10 o, oHr_v10 o, oHr_f11 o, oHr_v11 o, oHr_f12 o, oHr_v12 o, oHr_i13 o, oHr_i14 o, oHr_i15 o, oHr_i16 o, oHr_i17 o, oTp_c, oTp_f0, oTp_v0, oTp_i1, oTp_i2, oTp_i3, oTp_i4, oTp_i5, oTp_i6, oTp_a1, oTp_n1, o, ot, hr_within, h0, h1, n1, rz_k_inl, rz_k_inr, Option.toList_some, Option.toList_none, List.cons_append, List.nil_append, List.append_nil, bi_t, bi_f, decide_true, decide_false, Bool.not_false, Bool.not_true, Bool.and_true, Bool.true_and, Bool.and_false, Bool.false_and]
end CI4
