/-! the reference keeps an image -/
theorem up_same {ι : Nat → Nat → Int32} {a k : Nat} {x : Int32} (h : ι a k = x) : rz_up ι a k x = ι := by
  funext q
  by_cases hq : q = a
  · subst hq
    rw [rz_up_s]
    funext t
    by_cases ht : t = k
    · subst ht; rw [rz_u_s, h]
    · rw [rz_u_n ht]
  · rw [rz_up_n hq]
def srcI (ι : Nat → Nat → Int32) (b q : Nat) : Int32 := if q = 0 then ι b 30 else if q < 63 then ι (b + 446) (q - 1) else ι (b + (449 + (q - 63) / 62)) ((q - 63) % 62)
def svI (ι : Nat → Nat → Int32) (b A s : Nat) (j : Nat → Nat → Int32) : Prop := (∀ a, a ≠ b → a ≠ A → j a = ι a) ∧ (∀ k, k ≠ 33 → j b k = ι b k) ∧ j b 33 = nI s ∧ ∀ q, q < s → j A q = srcI ι b q
section MI8
variable {Z : rx_Z} {d : Nat} {h : Nat → Option rx_E} {ι : Nat → Nat → Int32} {w : Nat × Nat} {b n : Nat} {pl : Int32} {R : Nat → Int32} {C K : List (Nat × Nat)} {H : List (Nat → Int32)} {G : List ((Nat → Int32) × List (Nat → Int32))} {ld rs ns il : Int32}
theorem svI.step {A s : Nat} {j : Nat → Nat → Int32} (v : svI ι b A s j) (hA : b < A) : svI ι b A (s + 1) (rz_up (rz_up j A s (srcI ι b s)) b 33 (nI (s + 1))) := by
  obtain ⟨v1, v2, v3, v4⟩ := v
  refine ⟨fun a h1 h2 => by rw [rz_up_n h1, rz_up_n h2]; exact v1 a h1 h2, fun k hk => by rw [rz_up_s, rz_u_n hk, rz_up_n (by omega)]; exact v2 k hk, by rw [rz_up_s, rz_u_s], fun q hq => ?_⟩
  rw [rz_up_n (by omega), rz_up_s]
  by_cases h0 : q = s
  · rw [h0, rz_u_s]
  · rw [rz_u_n h0]; exact v4 q (by omega)
theorem sv_puts {g s : Nat} {j : Nat → Nat → Int32} (hb : oMd h b) (hz : Z.2.1 ≤ b) (hg : g < 3) (hs : s < 1055) (hj : j b 33 = nI s) (x : Int32) : rz_f Z (d + 1) 283 [.ref b, .ref (b + (466 + g)), .int x, .int 0] (rz_mk h j, w) = some (.inl (some (.int x)), (rz_mk h (rz_up (rz_up j (b + (466 + g)) s x) b 33 (nI (s + 1))), w)) := by
  have a1 := oMd_ra465 hb hg
  have a2 := oMd_rn465 hb hg
  have ix : rz_ix (nI s) 1055 := rz_ix_nat (by omega) (by omega)
  have cl : (nI s).toNatClampNeg = s := nI_cl (by omega)
  have e1 : rz_up j (b + (466 + g)) s x b 33 = nI s := by rw [rz_up_n (by omega)]; exact hj
  have e2 : nI s + 1 = nI (s + 1) := (nI_succ s).symm
  have e3 : nI (s + 1) - 1 = nI s := nI_prd s
  have e4 : rz_up (rz_up j (b + (466 + g)) s x) b 33 (nI (s + 1)) b 33 = nI (s + 1) := by rw [rz_up_s, rz_u_s]
  have e5 : rz_up (rz_up j (b + (466 + g)) s x) b 33 (nI (s + 1)) (b + (466 + g)) s = x := by rw [rz_up_n (by omega), rz_up_s, rz_u_s]
  rw [e283]
  simp (decide := true) (maxDischargeDepth := 4) only [g283_0, g283_1, g283_4, g283_5, g283_6, g283_9, g283_10, g283_11, g283_12, g283_13, g283_16, g283_17, g283_18, g283_21, g283_22, g283_23, g283_26, g283_27, g283_28, g283_29, reduceIte, rz_k_inl, oMd_c, oMd_i0, oMd_i1, oMd_i2, oMd_i3, oMd_i4, oMd_i5, oMd_i6, oMd_i7, oMd_i8, oMd_f9, oMd_v9, oMd_f10, oMd_v10, oMd_f11, oMd_v11, oMd_f12, oMd_v12, oMd_f13, oMd_v13, oMd_f14, oMd_v14, oMd_i15, oMd_i16, oMd_f17, oMd_v17, oMd_f18, oMd_v18, oMd_f19, oMd_v19, oMd_f20, oMd_v20, oMd_f21, oMd_v21, oMd_f22, oMd_v22, oMd_f23, oMd_v23, oMd_i24, oMd_f25, oMd_v25, oMd_f26, oMd_v26, oMd_f27, oMd_v27, oMd_f28, oMd_v28, oMd_i29, oMd_i30, oMd_i31, oMd_i32, oMd_i33, oMd_i34, oMd_i35, oMd_f36, oMd_v36, oMd_f37, oMd_v37, oMd_f38, oMd_v38, oMd_i39, oMd_f40, oMd_v40, oMd_f41, oMd_v41, oMd_i42, oMd_f43, oMd_v43, oMd_i44, oMd_a1, oMd_n1, oMd_a2, oMd_n2, oMd_a3, oMd_n3, oMd_a4, oMd_n4, oMd_a363, oMd_n363, oMd_a364, oMd_n364, oMd_a446, oMd_n446, oMd_a447, oMd_n447, oMd_a469, oMd_n469, oMd_a470, oMd_n470, oMd_a471, oMd_n471, oMd_a472, oMd_n472, oMd_a473, oMd_n473, oMd_a5, oMd_n5, oMd_e5, oMd_ra5, oMd_rn5, oMd_a14, oMd_n14, oMd_e14, oMd_ra14, oMd_rn14, oMd_a23, oMd_n23, oMd_e23, oMd_ra23, oMd_rn23, oMd_a184, oMd_n184, oMd_e184, oMd_ra184, oMd_rn184, oMd_a345, oMd_n345, oMd_e345, oMd_ra345, oMd_rn345, oMd_a354, oMd_n354, oMd_e354, oMd_ra354, oMd_rn354, oMd_a365, oMd_n365, oMd_e365, oMd_ra365, oMd_rn365, oMd_a448, oMd_n448, oMd_e448, oMd_ra448, oMd_rn448, oMd_a465, oMd_n465, oMd_e465, oMd_ra465, oMd_rn465, hb, hz, hj, a1, a2, ix, cl, e1, e2, e3, e4, e5, show Z.2.1 ≤ b + (466 + g) by omega]
/-- the works, then the realm, then what was before -/
theorem sv_all {g : Nat} {j0 : Nat → Nat → Int32} (hb : oMd h b) (hz : Z.2.1 ≤ b) (hg : g < 3) (hj0 : ∀ k, k ≠ 33 → j0 b k = ι b k) (hj1 : ∀ a, a ≠ b → j0 a = ι a) : ∃ j, rz_f Z (d + 2) 284 [.ref b, .ref (b + (466 + g)), .int 0] (rz_mk h j0, w) = some (.inl none, (rz_mk h j, w)) ∧ svI ι b (b + (466 + g)) 1055 j := by
  have N : ∀ (k t : Nat) (l4 : Option Value) (j : Nat → Nat → Int32), t + k = 62 → svI ι b (b + (466 + g)) (1 + t) j → ∃ j', rg Z (d + 1) rx_m284 21 [some (.ref b), some (.ref (b + (466 + g))), some (.int 0), some (.int (nI t)), l4] [] (rz_mk h j, w) = rg Z (d + 1) rx_m284 51 [some (.ref b), some (.ref (b + (466 + g))), some (.int 0), some (.int (nI 62)), l4] [] (rz_mk h j', w) ∧ svI ι b (b + (466 + g)) 63 j' := by
    intro k
    induction k with
    | zero =>
      intro t l4 j ht v
      have et : t = 62 := by omega
      subst et
      refine ⟨j, ?_, v⟩
      have c : (nI 62 < 62) = False := by decide
      rw [g284_21]
      simp (decide := true) (maxDischargeDepth := 4) only [g284_22, g284_24, rz_k_inl, rz_k_inr, Option.toList_some, Option.toList_none, List.cons_append, List.nil_append, List.append_nil, rz_up_s, rz_u_s, rz_up_n, rz_u_n, ne_eq, not_false_eq_true, not_true_eq_false, Nat.add_assoc, Nat.reduceAdd, reduceIte, Nat.add_eq_left, Nat.left_eq_add, Nat.add_left_cancel_iff, Nat.reduceEqDiff, Nat.add_right_cancel_iff, rz_nb0, rz_nb1, rz_nbb, rz_nbi, rz_isr, rz_zle, if_true, if_false, rz_bi0, rz_bi1, Bool.not_eq_true, Bool.not_eq_false, Bool.true_eq_false, Bool.false_eq_true, rz_ix_lit, cl_lit, Nat.reduceLT, bi_t, bi_f, decide_true, decide_false, Bool.not_false, Bool.not_true, Bool.and_true, Bool.true_and, Bool.and_false, Bool.false_and, c]
    | succ k ih =>
      intro t l4 j ht v
      have c : (nI t < 62) = True := by rw [nI_ltL (by omega) (by decide)]; simp; omega
      have ix : rz_ix (nI t) 62 := rz_ix_nat (by omega) (by omega)
      have cl : (nI t).toNatClampNeg = t := nI_cl (by omega)
      have ev : j (b + 446) t = srcI ι b (1 + t) := by
        rw [v.1 _ (by omega) (by omega)]; unfold srcI; rw [if_neg (by omega), if_pos (by omega), show 1 + t - 1 = t by omega]
      have pu := sv_puts (Z := Z) (d := d) (w := w) hb hz hg (show 1 + t < 1055 by omega) v.2.2.1 (srcI ι b (1 + t))
      have v' := v.step (show b < b + (466 + g) by omega)
      obtain ⟨j1, J1⟩ : ∃ y, y = rz_up (rz_up j (b + (466 + g)) (1 + t) (srcI ι b (1 + t))) b 33 (nI (1 + t + 1)) := ⟨_, rfl⟩
      rw [← J1] at pu v'
      have sm : rz_up j1 (b + 446) t (srcI ι b (1 + t)) = j1 := up_same (by rw [v'.1 _ (by omega) (by omega), ← ev, v.1 (b + 446) (by omega) (by omega)])
      obtain ⟨j', y1, y2⟩ := ih (t + 1) l4 j1 (by omega) (by rw [show 1 + (t + 1) = 1 + t + 1 by omega]; exact v')
      refine ⟨j', ?_, y2⟩
      rw [← y1, g284_21]
      simp (decide := true) (maxDischargeDepth := 4) only [g284_22, g284_24, g284_27, g284_28, g284_31, g284_32, g284_33, g284_34, g284_35, g284_38, g284_39, g284_40, g284_41, g284_44, g284_45, g284_48, rz_k_inl, rz_k_inr, Option.toList_some, Option.toList_none, List.cons_append, List.nil_append, List.append_nil, rz_up_s, rz_u_s, rz_up_n, rz_u_n, ne_eq, not_false_eq_true, not_true_eq_false, Nat.add_assoc, Nat.reduceAdd, reduceIte, Nat.add_eq_left, Nat.left_eq_add, Nat.add_left_cancel_iff, Nat.reduceEqDiff, Nat.add_right_cancel_iff, rz_nb0, rz_nb1, rz_nbb, rz_nbi, rz_isr, rz_zle, if_true, if_false, rz_bi0, rz_bi1, Bool.not_eq_true, Bool.not_eq_false, Bool.true_eq_false, Bool.false_eq_true, rz_ix_lit, cl_lit, Nat.reduceLT, bi_t, bi_f, decide_true, decide_false, Bool.not_false, Bool.not_true, Bool.and_true, Bool.true_and, Bool.and_false, Bool.false_and, oMd_c, oMd_i0, oMd_i1, oMd_i2, oMd_i3, oMd_i4, oMd_i5, oMd_i6, oMd_i7, oMd_i8, oMd_f9, oMd_v9, oMd_f10, oMd_v10, oMd_f11, oMd_v11, oMd_f12, oMd_v12, oMd_f13, oMd_v13, oMd_f14, oMd_v14, oMd_i15, oMd_i16, oMd_f17, oMd_v17, oMd_f18, oMd_v18, oMd_f19, oMd_v19, oMd_f20, oMd_v20, oMd_f21, oMd_v21, oMd_f22, oMd_v22, oMd_f23, oMd_v23, oMd_i24, oMd_f25, oMd_v25, oMd_f26, oMd_v26, oMd_f27, oMd_v27, oMd_f28, oMd_v28, oMd_i29, oMd_i30, oMd_i31, oMd_i32, oMd_i33, oMd_i34, oMd_i35, oMd_f36, oMd_v36, oMd_f37, oMd_v37, oMd_f38, oMd_v38, oMd_i39, oMd_f40, oMd_v40, oMd_f41, oMd_v41, oMd_i42, oMd_f43, oMd_v43, oMd_i44, oMd_a1, oMd_n1, oMd_a2, oMd_n2, oMd_a3, oMd_n3, oMd_a4, oMd_n4, oMd_a363, oMd_n363, oMd_a364, oMd_n364, oMd_a446, oMd_n446, oMd_a447, oMd_n447, oMd_a469, oMd_n469, oMd_a470, oMd_n470, oMd_a471, oMd_n471, oMd_a472, oMd_n472, oMd_a473, oMd_n473, oMd_a5, oMd_n5, oMd_e5, oMd_ra5, oMd_rn5, oMd_a14, oMd_n14, oMd_e14, oMd_ra14, oMd_rn14, oMd_a23, oMd_n23, oMd_e23, oMd_ra23, oMd_rn23, oMd_a184, oMd_n184, oMd_e184, oMd_ra184, oMd_rn184, oMd_a345, oMd_n345, oMd_e345, oMd_ra345, oMd_rn345, oMd_a354, oMd_n354, oMd_e354, oMd_ra354, oMd_rn354, oMd_a365, oMd_n365, oMd_e365, oMd_ra365, oMd_rn365, oMd_a448, oMd_n448, oMd_e448, oMd_ra448, oMd_rn448, oMd_a465, oMd_n465, oMd_e465, oMd_ra465, oMd_rn465, hb, hz, c, ix, cl, ev, pu, sm, show nI t + 1 = nI (t + 1) from (nI_succ t).symm]
  have M : ∀ (k t r : Nat) (j : Nat → Nat → Int32), r < 16 → t + k = 62 → svI ι b (b + (466 + g)) (63 + 62 * r + t) j → ∃ j', rg Z (d + 1) rx_m284 62 [some (.ref b), some (.ref (b + (466 + g))), some (.int 0), some (.int (nI r)), some (.int (nI t))] [] (rz_mk h j, w) = rg Z (d + 1) rx_m284 99 [some (.ref b), some (.ref (b + (466 + g))), some (.int 0), some (.int (nI r)), some (.int (nI 62))] [] (rz_mk h j', w) ∧ svI ι b (b + (466 + g)) (63 + 62 * (r + 1)) j' := by
    intro k
    induction k with
    | zero =>
      intro t r j hr ht v
      have et : t = 62 := by omega
      subst et
      refine ⟨j, ?_, by rw [show 63 + 62 * (r + 1) = 63 + 62 * r + 62 by omega]; exact v⟩
      have c : (nI 62 < 62) = False := by decide
      rw [g284_62]
      simp (decide := true) (maxDischargeDepth := 4) only [g284_64, g284_66, rz_k_inl, rz_k_inr, Option.toList_some, Option.toList_none, List.cons_append, List.nil_append, List.append_nil, rz_up_s, rz_u_s, rz_up_n, rz_u_n, ne_eq, not_false_eq_true, not_true_eq_false, Nat.add_assoc, Nat.reduceAdd, reduceIte, Nat.add_eq_left, Nat.left_eq_add, Nat.add_left_cancel_iff, Nat.reduceEqDiff, Nat.add_right_cancel_iff, rz_nb0, rz_nb1, rz_nbb, rz_nbi, rz_isr, rz_zle, if_true, if_false, rz_bi0, rz_bi1, Bool.not_eq_true, Bool.not_eq_false, Bool.true_eq_false, Bool.false_eq_true, rz_ix_lit, cl_lit, Nat.reduceLT, bi_t, bi_f, decide_true, decide_false, Bool.not_false, Bool.not_true, Bool.and_true, Bool.true_and, Bool.and_false, Bool.false_and, c]
    | succ k ih =>
      intro t r j hr ht v
      have c : (nI t < 62) = True := by rw [nI_ltL (by omega) (by decide)]; simp; omega
      have ix : rz_ix (nI t) 62 := rz_ix_nat (by omega) (by omega)
      have cl : (nI t).toNatClampNeg = t := nI_cl (by omega)
      have ixr : rz_ix (nI r) 16 := rz_ix_nat (by omega) (by omega)
      have clr : (nI r).toNatClampNeg = r := nI_cl (by omega)
      have ra := oMd_ra448 hb hr
      have rn := oMd_rn448 hb hr
      have ev : j (b + (449 + r)) t = srcI ι b (63 + 62 * r + t) := by
        rw [v.1 _ (by omega) (by omega)]; unfold srcI; rw [if_neg (by omega), if_neg (by omega), show (63 + 62 * r + t - 63) / 62 = r by omega, show (63 + 62 * r + t - 63) % 62 = t by omega]
      have pu := sv_puts (Z := Z) (d := d) (w := w) hb hz hg (show 63 + 62 * r + t < 1055 by omega) v.2.2.1 (srcI ι b (63 + 62 * r + t))
      have v' := v.step (show b < b + (466 + g) by omega)
      obtain ⟨j1, J1⟩ : ∃ y, y = rz_up (rz_up j (b + (466 + g)) (63 + 62 * r + t) (srcI ι b (63 + 62 * r + t))) b 33 (nI (63 + 62 * r + t + 1)) := ⟨_, rfl⟩
      rw [← J1] at pu v'
      have sm : rz_up j1 (b + (449 + r)) t (srcI ι b (63 + 62 * r + t)) = j1 := up_same (by rw [v'.1 _ (by omega) (by omega), ← ev, v.1 (b + (449 + r)) (by omega) (by omega)])
      obtain ⟨j', y1, y2⟩ := ih (t + 1) r j1 hr (by omega) (by rw [show 63 + 62 * r + (t + 1) = 63 + 62 * r + t + 1 by omega]; exact v')
      refine ⟨j', ?_, y2⟩
      rw [← y1, g284_62]
      simp (decide := true) (maxDischargeDepth := 4) only [g284_64, g284_66, g284_69, g284_70, g284_73, g284_74, g284_75, g284_77, g284_78, g284_79, g284_80, g284_83, g284_84, g284_85, g284_87, g284_88, g284_89, g284_92, g284_93, g284_96, rz_k_inl, Option.toList_some, List.cons_append, List.nil_append, oMd_c, oMd_i0, oMd_i1, oMd_i2, oMd_i3, oMd_i4, oMd_i5, oMd_i6, oMd_i7, oMd_i8, oMd_f9, oMd_v9, oMd_f10, oMd_v10, oMd_f11, oMd_v11, oMd_f12, oMd_v12, oMd_f13, oMd_v13, oMd_f14, oMd_v14, oMd_i15, oMd_i16, oMd_f17, oMd_v17, oMd_f18, oMd_v18, oMd_f19, oMd_v19, oMd_f20, oMd_v20, oMd_f21, oMd_v21, oMd_f22, oMd_v22, oMd_f23, oMd_v23, oMd_i24, oMd_f25, oMd_v25, oMd_f26, oMd_v26, oMd_f27, oMd_v27, oMd_f28, oMd_v28, oMd_i29, oMd_i30, oMd_i31, oMd_i32, oMd_i33, oMd_i34, oMd_i35, oMd_f36, oMd_v36, oMd_f37, oMd_v37, oMd_f38, oMd_v38, oMd_i39, oMd_f40, oMd_v40, oMd_f41, oMd_v41, oMd_i42, oMd_f43, oMd_v43, oMd_i44, oMd_a1, oMd_n1, oMd_a2, oMd_n2, oMd_a3, oMd_n3, oMd_a4, oMd_n4, oMd_a363, oMd_n363, oMd_a364, oMd_n364, oMd_a446, oMd_n446, oMd_a447, oMd_n447, oMd_a469, oMd_n469, oMd_a470, oMd_n470, oMd_a471, oMd_n471, oMd_a472, oMd_n472, oMd_a473, oMd_n473, oMd_a5, oMd_n5, oMd_e5, oMd_ra5, oMd_rn5, oMd_a14, oMd_n14, oMd_e14, oMd_ra14, oMd_rn14, oMd_a23, oMd_n23, oMd_e23, oMd_ra23, oMd_rn23, oMd_a184, oMd_n184, oMd_e184, oMd_ra184, oMd_rn184, oMd_a345, oMd_n345, oMd_e345, oMd_ra345, oMd_rn345, oMd_a354, oMd_n354, oMd_e354, oMd_ra354, oMd_rn354, oMd_a365, oMd_n365, oMd_e365, oMd_ra365, oMd_rn365, oMd_a448, oMd_n448, oMd_e448, oMd_ra448, oMd_rn448, oMd_a465, oMd_n465, oMd_e465, oMd_ra465, oMd_rn465, hb, hz, c, ix, cl, ixr, clr, ra, rn, ev, pu, sm, reduceIte, show nI t + 1 = nI (t + 1) from (nI_succ t).symm, show Z.2.1 ≤ b + (449 + r) by omega]
  have Q : ∀ (k r : Nat) (l4 : Option Value) (j : Nat → Nat → Int32), r + k = 16 → svI ι b (b + (466 + g)) (63 + 62 * r) j → ∃ j', rg Z (d + 1) rx_m284 53 [some (.ref b), some (.ref (b + (466 + g))), some (.int 0), some (.int (nI r)), l4] [] (rz_mk h j, w) = some (.inl none, (rz_mk h j', w)) ∧ svI ι b (b + (466 + g)) 1055 j' := by
    intro k
    induction k with
    | zero =>
      intro r l4 j hr v
      have et : r = 16 := by omega
      subst et
      refine ⟨j, ?_, v⟩
      have c : (nI 16 < 16) = False := by decide
      rw [g284_53]
      simp (decide := true) (maxDischargeDepth := 4) only [g284_54, g284_56, g284_105, rz_k_inl, rz_k_inr, Option.toList_some, Option.toList_none, List.cons_append, List.nil_append, List.append_nil, rz_up_s, rz_u_s, rz_up_n, rz_u_n, ne_eq, not_false_eq_true, not_true_eq_false, Nat.add_assoc, Nat.reduceAdd, reduceIte, Nat.add_eq_left, Nat.left_eq_add, Nat.add_left_cancel_iff, Nat.reduceEqDiff, Nat.add_right_cancel_iff, rz_nb0, rz_nb1, rz_nbb, rz_nbi, rz_isr, rz_zle, if_true, if_false, rz_bi0, rz_bi1, Bool.not_eq_true, Bool.not_eq_false, Bool.true_eq_false, Bool.false_eq_true, rz_ix_lit, cl_lit, Nat.reduceLT, bi_t, bi_f, decide_true, decide_false, Bool.not_false, Bool.not_true, Bool.and_true, Bool.true_and, Bool.and_false, Bool.false_and, c]
    | succ k ih =>
      intro r l4 j hr v
      have c : (nI r < 16) = True := by rw [nI_ltL (by omega) (by decide)]; simp; omega
      obtain ⟨j1, y1, y2⟩ := M 62 0 r j (by omega) (by omega) v
      obtain ⟨j2, z1, z2⟩ := ih (r + 1) (some (.int (nI 62))) j1 (by omega) y2
      refine ⟨j2, ?_, z2⟩
      rw [g284_53]
      simp (decide := true) (maxDischargeDepth := 4) only [g284_54, g284_56, g284_59, g284_60, rz_k_inl, rz_k_inr, Option.toList_some, Option.toList_none, List.cons_append, List.nil_append, List.append_nil, rz_up_s, rz_u_s, rz_up_n, rz_u_n, ne_eq, not_false_eq_true, not_true_eq_false, Nat.add_assoc, Nat.reduceAdd, reduceIte, Nat.add_eq_left, Nat.left_eq_add, Nat.add_left_cancel_iff, Nat.reduceEqDiff, Nat.add_right_cancel_iff, rz_nb0, rz_nb1, rz_nbb, rz_nbi, rz_isr, rz_zle, if_true, if_false, rz_bi0, rz_bi1, Bool.not_eq_true, Bool.not_eq_false, Bool.true_eq_false, Bool.false_eq_true, rz_ix_lit, cl_lit, Nat.reduceLT, bi_t, bi_f, decide_true, decide_false, Bool.not_false, Bool.not_true, Bool.and_true, Bool.true_and, Bool.and_false, Bool.false_and, c]
      rw [show (0 : Int32) = nI 0 from rfl] at *
      rw [y1, ← z1]
      simp (decide := true) (maxDischargeDepth := 4) only [g284_99, g284_102, rz_k_inl, rz_k_inr, Option.toList_some, Option.toList_none, List.cons_append, List.nil_append, List.append_nil, rz_up_s, rz_u_s, rz_up_n, rz_u_n, ne_eq, not_false_eq_true, not_true_eq_false, Nat.add_assoc, Nat.reduceAdd, reduceIte, Nat.add_eq_left, Nat.left_eq_add, Nat.add_left_cancel_iff, Nat.reduceEqDiff, Nat.add_right_cancel_iff, rz_nb0, rz_nb1, rz_nbb, rz_nbi, rz_isr, rz_zle, if_true, if_false, rz_bi0, rz_bi1, Bool.not_eq_true, Bool.not_eq_false, Bool.true_eq_false, Bool.false_eq_true, rz_ix_lit, cl_lit, Nat.reduceLT, bi_t, bi_f, decide_true, decide_false, Bool.not_false, Bool.not_true, Bool.and_true, Bool.true_and, Bool.and_false, Bool.false_and, show nI r + 1 = nI (r + 1) from (nI_succ r).symm]
  have v0 : svI ι b (b + (466 + g)) 0 (rz_up j0 b 33 0) := ⟨fun a h1 _ => by rw [rz_up_n h1]; exact hj1 a h1, fun k hk => by rw [rz_up_s, rz_u_n hk]; exact hj0 k hk, by rw [rz_up_s, rz_u_s]; rfl, fun q hq => by omega⟩
  have ev : j0 b 30 = srcI ι b 0 := by rw [hj0 30 (by omega)]; unfold srcI; rw [if_pos rfl]
  have pu := sv_puts (Z := Z) (d := d) (w := w) hb hz hg (show 0 < 1055 by omega) v0.2.2.1 (srcI ι b 0)
  have v1 := v0.step (show b < b + (466 + g) by omega)
  obtain ⟨j1, J1⟩ : ∃ y, y = rz_up (rz_up (rz_up j0 b 33 0) (b + (466 + g)) 0 (srcI ι b 0)) b 33 (nI (0 + 1)) := ⟨_, rfl⟩
  rw [← J1] at pu v1
  have sm : rz_up j1 b 30 (srcI ι b 0) = j1 := up_same (by rw [v1.2.1 30 (by omega)]; unfold srcI; rw [if_pos rfl])
  obtain ⟨j2, y1, y2⟩ := N 62 0 none j1 (by omega) v1
  obtain ⟨j3, z1, z2⟩ := Q 16 0 none j2 (by omega) y2
  refine ⟨j3, ?_, z2⟩
  rw [e284]
  simp (decide := true) (maxDischargeDepth := 4) only [g284_0, g284_1, g284_2, g284_5, g284_6, g284_7, g284_8, g284_9, g284_12, g284_13, g284_16, g284_19, g284_20, rz_k_inl, rz_k_inr, Option.toList_some, Option.toList_none, List.cons_append, List.nil_append, List.append_nil, rz_up_s, rz_u_s, rz_up_n, rz_u_n, ne_eq, not_false_eq_true, not_true_eq_false, Nat.add_assoc, Nat.reduceAdd, reduceIte, Nat.add_eq_left, Nat.left_eq_add, Nat.add_left_cancel_iff, Nat.reduceEqDiff, Nat.add_right_cancel_iff, rz_nb0, rz_nb1, rz_nbb, rz_nbi, rz_isr, rz_zle, if_true, if_false, rz_bi0, rz_bi1, Bool.not_eq_true, Bool.not_eq_false, Bool.true_eq_false, Bool.false_eq_true, rz_ix_lit, cl_lit, Nat.reduceLT, bi_t, bi_f, decide_true, decide_false, Bool.not_false, Bool.not_true, Bool.and_true, Bool.true_and, Bool.and_false, Bool.false_and, oMd_c, oMd_i0, oMd_i1, oMd_i2, oMd_i3, oMd_i4, oMd_i5, oMd_i6, oMd_i7, oMd_i8, oMd_f9, oMd_v9, oMd_f10, oMd_v10, oMd_f11, oMd_v11, oMd_f12, oMd_v12, oMd_f13, oMd_v13, oMd_f14, oMd_v14, oMd_i15, oMd_i16, oMd_f17, oMd_v17, oMd_f18, oMd_v18, oMd_f19, oMd_v19, oMd_f20, oMd_v20, oMd_f21, oMd_v21, oMd_f22, oMd_v22, oMd_f23, oMd_v23, oMd_i24, oMd_f25, oMd_v25, oMd_f26, oMd_v26, oMd_f27, oMd_v27, oMd_f28, oMd_v28, oMd_i29, oMd_i30, oMd_i31, oMd_i32, oMd_i33, oMd_i34, oMd_i35, oMd_f36, oMd_v36, oMd_f37, oMd_v37, oMd_f38, oMd_v38, oMd_i39, oMd_f40, oMd_v40, oMd_f41, oMd_v41, oMd_i42, oMd_f43, oMd_v43, oMd_i44, oMd_a1, oMd_n1, oMd_a2, oMd_n2, oMd_a3, oMd_n3, oMd_a4, oMd_n4, oMd_a363, oMd_n363, oMd_a364, oMd_n364, oMd_a446, oMd_n446, oMd_a447, oMd_n447, oMd_a469, oMd_n469, oMd_a470, oMd_n470, oMd_a471, oMd_n471, oMd_a472, oMd_n472, oMd_a473, oMd_n473, oMd_a5, oMd_n5, oMd_e5, oMd_ra5, oMd_rn5, oMd_a14, oMd_n14, oMd_e14, oMd_ra14, oMd_rn14, oMd_a23, oMd_n23, oMd_e23, oMd_ra23, oMd_rn23, oMd_a184, oMd_n184, oMd_e184, oMd_ra184, oMd_rn184, oMd_a345, oMd_n345, oMd_e345, oMd_ra345, oMd_rn345, oMd_a354, oMd_n354, oMd_e354, oMd_ra354, oMd_rn354, oMd_a365, oMd_n365, oMd_e365, oMd_ra365, oMd_rn365, oMd_a448, oMd_n448, oMd_e448, oMd_ra448, oMd_rn448, oMd_a465, oMd_n465, oMd_e465, oMd_ra465, oMd_rn465, hb, hz, ev, pu, sm]
  refine y1.trans ?_
  rw [← z1]
  simp (decide := true) (maxDischargeDepth := 4) only [g284_51, g284_52, rz_k_inl, rz_k_inr, Option.toList_some, Option.toList_none, List.cons_append, List.nil_append, List.append_nil, rz_up_s, rz_u_s, rz_up_n, rz_u_n, ne_eq, not_false_eq_true, not_true_eq_false, Nat.add_assoc, Nat.reduceAdd, reduceIte, Nat.add_eq_left, Nat.left_eq_add, Nat.add_left_cancel_iff, Nat.reduceEqDiff, Nat.add_right_cancel_iff, rz_nb0, rz_nb1, rz_nbb, rz_nbi, rz_isr, rz_zle, if_true, if_false, rz_bi0, rz_bi1, Bool.not_eq_true, Bool.not_eq_false, Bool.true_eq_false, Bool.false_eq_true, rz_ix_lit, cl_lit, Nat.reduceLT, bi_t, bi_f, decide_true, decide_false, Bool.not_false, Bool.not_true, Bool.and_true, Bool.true_and, Bool.and_false, Bool.false_and]
  rfl
theorem mi_image3 (i : MI Z h ι b n pl R C K H G ld rs ns il) (hg : G.length = 3) : rz_f Z (d + 3) 285 [.ref b] (rz_mk h ι, w) = some (.inl (some (.int (-1))), (rz_mk h (rz_up ι b 0 0), w)) := by
  obtain ⟨i1, i2, i3, i4, i5, i6, i7, i8, i9, i10, f1, f2, f3, f4, f5, f6, f7, f8⟩ := i
  rw [hg] at f5
  have f5' : ι b 32 = 3 := f5
  rw [e285]
  simp (decide := true) (maxDischargeDepth := 4) only [g285_0, g285_1, g285_2, g285_5, g285_6, g285_9, g285_10, g285_13, g285_14, g285_15, g285_16, g285_17, g285_20, g285_21, g285_24, g285_25, g285_26, g285_29, g285_30, g285_31, g285_34, g285_35, g285_36, g285_39, g285_40, g285_43, rz_k_inl, rz_k_inr, Option.toList_some, Option.toList_none, List.cons_append, List.nil_append, List.append_nil, rz_up_s, rz_u_s, rz_up_n, rz_u_n, ne_eq, not_false_eq_true, not_true_eq_false, Nat.add_assoc, Nat.reduceAdd, reduceIte, Nat.add_eq_left, Nat.left_eq_add, Nat.add_left_cancel_iff, Nat.reduceEqDiff, Nat.add_right_cancel_iff, rz_nb0, rz_nb1, rz_nbb, rz_nbi, rz_isr, rz_zle, if_true, if_false, rz_bi0, rz_bi1, Bool.not_eq_true, Bool.not_eq_false, Bool.true_eq_false, Bool.false_eq_true, rz_ix_lit, cl_lit, Nat.reduceLT, bi_t, bi_f, decide_true, decide_false, Bool.not_false, Bool.not_true, Bool.and_true, Bool.true_and, Bool.and_false, Bool.false_and, oMd_c, oMd_i0, oMd_i1, oMd_i2, oMd_i3, oMd_i4, oMd_i5, oMd_i6, oMd_i7, oMd_i8, oMd_f9, oMd_v9, oMd_f10, oMd_v10, oMd_f11, oMd_v11, oMd_f12, oMd_v12, oMd_f13, oMd_v13, oMd_f14, oMd_v14, oMd_i15, oMd_i16, oMd_f17, oMd_v17, oMd_f18, oMd_v18, oMd_f19, oMd_v19, oMd_f20, oMd_v20, oMd_f21, oMd_v21, oMd_f22, oMd_v22, oMd_f23, oMd_v23, oMd_i24, oMd_f25, oMd_v25, oMd_f26, oMd_v26, oMd_f27, oMd_v27, oMd_f28, oMd_v28, oMd_i29, oMd_i30, oMd_i31, oMd_i32, oMd_i33, oMd_i34, oMd_i35, oMd_f36, oMd_v36, oMd_f37, oMd_v37, oMd_f38, oMd_v38, oMd_i39, oMd_f40, oMd_v40, oMd_f41, oMd_v41, oMd_i42, oMd_f43, oMd_v43, oMd_i44, oMd_a1, oMd_n1, oMd_a2, oMd_n2, oMd_a3, oMd_n3, oMd_a4, oMd_n4, oMd_a363, oMd_n363, oMd_a364, oMd_n364, oMd_a446, oMd_n446, oMd_a447, oMd_n447, oMd_a469, oMd_n469, oMd_a470, oMd_n470, oMd_a471, oMd_n471, oMd_a472, oMd_n472, oMd_a473, oMd_n473, oMd_a5, oMd_n5, oMd_e5, oMd_ra5, oMd_rn5, oMd_a14, oMd_n14, oMd_e14, oMd_ra14, oMd_rn14, oMd_a23, oMd_n23, oMd_e23, oMd_ra23, oMd_rn23, oMd_a184, oMd_n184, oMd_e184, oMd_ra184, oMd_rn184, oMd_a345, oMd_n345, oMd_e345, oMd_ra345, oMd_rn345, oMd_a354, oMd_n354, oMd_e354, oMd_ra354, oMd_rn354, oMd_a365, oMd_n365, oMd_e365, oMd_ra365, oMd_rn365, oMd_a448, oMd_n448, oMd_e448, oMd_ra448, oMd_rn448, oMd_a465, oMd_n465, oMd_e465, oMd_ra465, oMd_rn465, i2, i1, f5']
theorem mi_image (i : MI Z h ι b n pl R C K H G ld rs ns il) (hg : G.length < 3) : ∃ ι', rz_f Z (d + 3) 285 [.ref b] (rz_mk h ι, w) = some (.inl (some (.int (nI (G.length + 1)))), (rz_mk h ι', w)) ∧ MI Z h ι' b n pl R C K H (G ++ [(R, H)]) ld rs ns il ∧ mdF b h h ι ι' ∧ ι' b 0 = 0 ∧ ι' (b + 1) = ι (b + 1) := by
  have ii := i
  obtain ⟨i1, i2, i3, ⟨x1, x2, x3, x4, x5, x6, x7, x8⟩, i5, i6, i7, i8, ⟨b1, b2⟩, i10, f1, f2, f3, f4, f5, f6, f7, f8⟩ := i
  have f5n : ¬ (nI G.length = 3) := by rw [show (3 : Int32) = nI 3 from rfl, nI_eq2 (by omega) (by omega)]; omega
  obtain ⟨j, a1, a2, a3, a4, a5⟩ := sv_all (Z := Z) (d := d) (w := w) (ι := rz_up ι b 0 0) (j0 := rz_up ι b 0 0) i2 i1 hg (fun _ _ => rfl) (fun _ _ => rfl)
  have ix : rz_ix (nI G.length) 3 := rz_ix_nat (by omega) (by omega)
  have cl : (nI G.length).toNatClampNeg = G.length := nI_cl (by omega)
  have j32 : j b 32 = nI G.length := by rw [a3 32 (by omega), rz_up_s, rz_u_n (by omega)]; exact f5
  have e2 : nI G.length + 1 = nI (G.length + 1) := (nI_succ _).symm
  have u1 : ∀ a, a ≠ b → a ≠ b + (466 + G.length) → rz_up j b 32 (nI (G.length + 1)) a = ι a := fun a h1 h2 => by rw [rz_up_n h1, a2 a h1 h2, rz_up_n h1]
  have u2 : ∀ k, k ≠ 0 → k ≠ 32 → k ≠ 33 → rz_up j b 32 (nI (G.length + 1)) b k = ι b k := fun k h0 h2 h3 => by rw [rz_up_s, rz_u_n h2, a3 k h3, rz_up_s, rz_u_n h0]
  refine ⟨rz_up j b 32 (nI (G.length + 1)), ?_, ii.re (fun a ha => u1 a (by omega) (by omega)) (fun q _ => by rw [u1 _ (by omega) (by omega)]) (fun k hk => u2 k (by omega) (by omega) (by omega)) ⟨x1, x2, x3, x4, x5, x6, by rw [List.length_append]; exact Nat.succ_le_of_lt hg, fun y hy => ?_⟩ ((u1 _ (by omega) (by omega)).trans i7) ⟨fun q hq t ht => by rw [u1 _ (by omega) (by omega)]; exact b1 q hq t ht, fun q hq => (u1 _ (by omega) (by omega)).trans (b2 q hq)⟩ (fun q hq => ?_) (by rw [u2 30 (by omega) (by omega) (by omega)]; exact f3) (by rw [u2 31 (by omega) (by omega) (by omega)]; exact f4) (by rw [rz_up_s, rz_u_s, List.length_append]; rfl), fun a ha => ⟨rfl, u1 a (by omega) (by omega)⟩, by rw [rz_up_s, rz_u_n (by omega), a3 0 (by omega), rz_up_s, rz_u_s], u1 _ (by omega) (by omega)⟩
  · rw [e285]
    simp (decide := true) (maxDischargeDepth := 4) only [g285_0, g285_1, g285_2, g285_5, g285_6, g285_9, g285_10, g285_13, g285_14, g285_15, g285_16, g285_17, g285_20, g285_21, g285_24, g285_25, g285_26, g285_29, g285_30, g285_31, g285_34, g285_35, g285_36, g285_39, g285_40, g285_43, rz_k_inl, rz_k_inr, Option.toList_some, Option.toList_none, List.cons_append, List.nil_append, List.append_nil, rz_up_s, rz_u_s, rz_up_n, rz_u_n, ne_eq, not_false_eq_true, not_true_eq_false, Nat.add_assoc, Nat.reduceAdd, reduceIte, Nat.add_eq_left, Nat.left_eq_add, Nat.add_left_cancel_iff, Nat.reduceEqDiff, Nat.add_right_cancel_iff, rz_nb0, rz_nb1, rz_nbb, rz_nbi, rz_isr, rz_zle, if_true, if_false, rz_bi0, rz_bi1, Bool.not_eq_true, Bool.not_eq_false, Bool.true_eq_false, Bool.false_eq_true, rz_ix_lit, cl_lit, Nat.reduceLT, bi_t, bi_f, decide_true, decide_false, Bool.not_false, Bool.not_true, Bool.and_true, Bool.true_and, Bool.and_false, Bool.false_and, oMd_c, oMd_i0, oMd_i1, oMd_i2, oMd_i3, oMd_i4, oMd_i5, oMd_i6, oMd_i7, oMd_i8, oMd_f9, oMd_v9, oMd_f10, oMd_v10, oMd_f11, oMd_v11, oMd_f12, oMd_v12, oMd_f13, oMd_v13, oMd_f14, oMd_v14, oMd_i15, oMd_i16, oMd_f17, oMd_v17, oMd_f18, oMd_v18, oMd_f19, oMd_v19, oMd_f20, oMd_v20, oMd_f21, oMd_v21, oMd_f22, oMd_v22, oMd_f23, oMd_v23, oMd_i24, oMd_f25, oMd_v25, oMd_f26, oMd_v26, oMd_f27, oMd_v27, oMd_f28, oMd_v28, oMd_i29, oMd_i30, oMd_i31, oMd_i32, oMd_i33, oMd_i34, oMd_i35, oMd_f36, oMd_v36, oMd_f37, oMd_v37, oMd_f38, oMd_v38, oMd_i39, oMd_f40, oMd_v40, oMd_f41, oMd_v41, oMd_i42, oMd_f43, oMd_v43, oMd_i44, oMd_a1, oMd_n1, oMd_a2, oMd_n2, oMd_a3, oMd_n3, oMd_a4, oMd_n4, oMd_a363, oMd_n363, oMd_a364, oMd_n364, oMd_a446, oMd_n446, oMd_a447, oMd_n447, oMd_a469, oMd_n469, oMd_a470, oMd_n470, oMd_a471, oMd_n471, oMd_a472, oMd_n472, oMd_a473, oMd_n473, oMd_a5, oMd_n5, oMd_e5, oMd_ra5, oMd_rn5, oMd_a14, oMd_n14, oMd_e14, oMd_ra14, oMd_rn14, oMd_a23, oMd_n23, oMd_e23, oMd_ra23, oMd_rn23, oMd_a184, oMd_n184, oMd_e184, oMd_ra184, oMd_rn184, oMd_a345, oMd_n345, oMd_e345, oMd_ra345, oMd_rn345, oMd_a354, oMd_n354, oMd_e354, oMd_ra354, oMd_rn354, oMd_a365, oMd_n365, oMd_e365, oMd_ra365, oMd_rn365, oMd_a448, oMd_n448, oMd_e448, oMd_ra448, oMd_rn448, oMd_a465, oMd_n465, oMd_e465, oMd_ra465, oMd_rn465, i2, i1, f5n, f5, ix, cl, a1, j32, e2]
  · rcases List.mem_append.1 hy with hy | hy
    · exact x8 y hy
    · have : y = (R, H) := by simpa using hy
      subst this
      exact ⟨x2, x5, x6⟩
  · by_cases hq2 : q < G.length
    · rw [u1 _ (by omega) (by omega)]
      have e : (G ++ [(R, H)]).getD q (R00, []) = G.getD q (R00, []) := by rw [List.getD_eq_getElem?_getD, List.getD_eq_getElem?_getD, List.getElem?_append_left hq2]
      rw [e]; exact i10 q hq2
    · have eq : q = G.length := by rw [List.length_append, List.length_singleton] at hq; omega
      subst eq
      have e : (G ++ [(R, H)]).getD G.length (R00, []) = (R, H) := by rw [List.getD_eq_getElem?_getD, List.getElem?_append_right (Nat.le_refl _), Nat.sub_self]; rfl
      rw [e, rz_up_n (by omega)]
      refine ⟨?_, fun t ht => ?_, fun r hr t ht => ?_⟩
      · rw [a5 0 (by omega)]; unfold srcI; rw [if_pos rfl, rz_up_s, rz_u_n (by omega)]; exact f3
      · rw [a5 (1 + t) (by omega)]; unfold srcI; rw [if_neg (by omega), if_pos (by omega), rz_up_n (by omega), i7, show 1 + t - 1 = t by omega]
      · have hr' : r < H.length := hr
        rw [a5 (63 + 62 * r + t) (by omega)]; unfold srcI; rw [if_neg (by omega), if_neg (by omega), show (63 + 62 * r + t - 63) / 62 = r by omega, show (63 + 62 * r + t - 63) % 62 = t by omega, rz_up_n (by omega), b2 r hr']
end MI8
