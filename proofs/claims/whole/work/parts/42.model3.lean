/-! the reference: who is farthest, births, deaths, years -/
theorem rFt_0 (R : Nat → Int32) (p : Nat) : (rFt R p = 0) = (rMs R p = 0) := by
  unfold rFt rMs
  have e : ∀ t, (rIs R p t = rSh R p t) = (rSh R p t = rIs R p t) := fun t => propext eq_comm
  simp only [lpI, e]
  by_cases h0 : rSh R p 0 = rIs R p 0 <;> by_cases h1 : rSh R p 1 = rIs R p 1 <;> by_cases h2 : rSh R p 2 = rIs R p 2 <;> simp only [h0, h1, h2, if_true, if_false] <;> decide
theorem farB_56 (C : List (Nat × Nat)) (R : Nat → Int32) (v : Int32) {p q : Nat} (hp : p < 8) (hq : q < 8) : farB C (rz_u R 56 v) p q = farB C R p q := by
  have s : ∀ t x, x < 8 → t < 3 → rSh (rz_u R 56 v) x t = rSh R x t := fun t x hx ht => by unfold rSh; rw [rz_u_n (by omega)]
  have i : ∀ t, t < 3 → rIs (rz_u R 56 v) p t = rIs R p t := fun t ht => by unfold rIs; rw [rz_u_n (by omega)]
  have f : rFt (rz_u R 56 v) p = rFt R p := by
    unfold rFt; simp only [lpI, s 0 p hp (by omega), s 1 p hp (by omega), s 2 p hp (by omega), i 0 (by omega), i 1 (by omega), i 2 (by omega)]
  unfold farB rAp
  rw [f, s 0 p hp (by omega), s 1 p hp (by omega), s 2 p hp (by omega), s 0 q hq (by omega), s 1 q hq (by omega), s 2 q hq (by omega), rz_u_n (by omega), rz_u_n (by omega), rz_u_n (by omega)]
theorem furS_kil (C : List (Nat × Nat)) (R : Nat → Int32) {p : Nat} (hp : p < 8) : ∀ k, k ≤ 8 → furS C (kilR R p) p k = furS C R p k
  | 0, _ => rfl
  | k + 1, hk => by
    unfold furS
    rw [furS_kil C R hp k (by omega)]
    have e1 : farB C (kilR R p) k p = farB C R k p := farB_56 C R _ (by omega) hp
    by_cases hkp : k = p
    · rw [if_neg (fun z => z.2.1 hkp), if_neg (fun z => z.2.1 hkp)]
    · have e2 : rLv (kilR R p) k = rLv R k := by
        rw [rLv_bt (by omega), rLv_bt (by omega)]
        unfold kilR
        rw [rz_u_s, bt_clr (by omega) (by omega)]
        simp [hkp]
      rw [e1, e2]
/-- shown is what is, of the first k -/
def shK (R : Nat → Int32) (p k : Nat) : Nat → Int32 := fun i => if 24 + 3 * p ≤ i ∧ i < 24 + 3 * p + k then R (i - 24) else R i
theorem shK_0 (R : Nat → Int32) (p : Nat) : shK R p 0 = R := by
  funext i; unfold shK; rw [if_neg (by omega)]
theorem shK_s (R : Nat → Int32) (p k : Nat) : rz_u (shK R p k) (24 + (3 * p + k)) (R (3 * p + k)) = shK R p (k + 1) := by
  funext i
  unfold rz_u shK
  by_cases h1 : i = 24 + (3 * p + k)
  · rw [if_pos h1, if_pos (by omega), h1]; congr 1; omega
  · rw [if_neg h1]
    by_cases h2 : 24 + 3 * p ≤ i ∧ i < 24 + 3 * p + k
    · rw [if_pos h2, if_pos (by omega)]
    · rw [if_neg h2, if_neg (by omega)]
/-- a child's traits, the first k -/
def brK (R : Nat → Int32) (m a b : Nat) : Nat → (Nat → Int32)
  | 0 => R
  | t + 1 => rz_u (rz_u (brK R m a b t) (3 * m + t) (rCt R a b t)) (24 + (3 * m + t)) (rCt R a b t)
theorem brK_n {R : Nat → Int32} {m a b i : Nat} : ∀ k, (i < 3 * m ∨ (3 * m + k ≤ i ∧ i < 24 + 3 * m) ∨ 24 + 3 * m + k ≤ i) → brK R m a b k i = R i
  | 0, _ => rfl
  | k + 1, hi => by
    unfold brK
    rw [rz_u_n (by omega), rz_u_n (by omega)]
    exact brK_n k (by omega)
theorem brK_i {R : Nat → Int32} {m a b : Nat} (hm : m < 8) : ∀ k t, k ≤ 3 → t < k → brK R m a b k (3 * m + t) = rCt R a b t
  | 0, t, _, h => by omega
  | k + 1, t, hk, h => by
    unfold brK
    rw [rz_u_n (by omega)]
    by_cases e : t = k
    · subst e; rw [rz_u_s]
    · rw [rz_u_n (by omega)]; exact brK_i hm k t (by omega) (by omega)
theorem brK_s {R : Nat → Int32} {m a b : Nat} (hm : m < 8) : ∀ k t, k ≤ 3 → t < k → brK R m a b k (24 + (3 * m + t)) = rCt R a b t
  | 0, t, _, h => by omega
  | k + 1, t, hk, h => by
    unfold brK
    by_cases e : t = k
    · subst e; rw [rz_u_s]
    · rw [rz_u_n (by omega), rz_u_n (by omega)]; exact brK_s hm k t (by omega) (by omega)
theorem brK_add {R : Nat → Int32} {m a b : Nat} (hm : m < 8) : rz_u (rz_u (rz_u (brK R m a b 3) (48 + m) 0) 56 (R 56 ||| rBit m)) 57 (R 57 + 1) = addR R m (rCt R a b 0) (rCt R a b 1) (rCt R a b 2) 0 := by
  have k0 := brK_i (R := R) (a := a) (b := b) hm 3 0 (by omega) (by omega)
  have k1 := brK_i (R := R) (a := a) (b := b) hm 3 1 (by omega) (by omega)
  have k2 := brK_i (R := R) (a := a) (b := b) hm 3 2 (by omega) (by omega)
  have s0 := brK_s (R := R) (a := a) (b := b) hm 3 0 (by omega) (by omega)
  have s1 := brK_s (R := R) (a := a) (b := b) hm 3 1 (by omega) (by omega)
  have s2 := brK_s (R := R) (a := a) (b := b) hm 3 2 (by omega) (by omega)
  generalize hB : brK R m a b 3 = B at *
  funext i
  unfold addR shIs
  by_cases c : 24 + 3 * m ≤ i ∧ i < 24 + 3 * m + 3
  · rw [if_pos c]
    have : i = 24 + (3 * m + 0) ∨ i = 24 + (3 * m + 1) ∨ i = 24 + (3 * m + 2) := by omega
    rw [rz_u_n (by omega), rz_u_n (by omega), rz_u_n (by omega)]
    rcases this with rfl | rfl | rfl
    · rw [show 24 + (3 * m + 0) - 24 = 3 * m by omega, rz_u_n (by omega), rz_u_n (by omega), rz_u_s, s0]
    · rw [show 24 + (3 * m + 1) - 24 = 3 * m + 1 by omega, rz_u_n (by omega), rz_u_s, s1]
    · rw [show 24 + (3 * m + 2) - 24 = 3 * m + 2 by omega, rz_u_s, s2]
  · rw [if_neg c]
    by_cases c57 : i = 57
    · subst c57; rw [rz_u_s, rz_u_n (by omega), rz_u_n (by omega), rz_u_n (by omega), rz_u_n (by omega), rz_u_n (by omega), rz_u_s]
    · rw [rz_u_n c57]
      by_cases c56 : i = 56
      · subst c56; rw [rz_u_s, rz_u_n (by omega), rz_u_n (by omega), rz_u_n (by omega), rz_u_n (by omega), rz_u_s]
      · rw [rz_u_n c56]
        by_cases c48 : i = 48 + m
        · subst c48; rw [rz_u_s, rz_u_n (by omega), rz_u_n (by omega), rz_u_n (by omega), rz_u_s]
        · rw [rz_u_n c48]
          by_cases c2 : i = 3 * m + 2
          · subst c2; rw [rz_u_s, k2]
          · rw [rz_u_n c2]
            by_cases c1 : i = 3 * m + 1
            · subst c1; rw [rz_u_s, k1]
            · rw [rz_u_n c1]
              by_cases c0 : i = 3 * m
              · subst c0; rw [rz_u_s]; exact k0
              · rw [rz_u_n c0, rz_u_n c48, rz_u_n c56, rz_u_n c57, ← hB]
                exact brK_n 3 (by omega)
/-- the first k are copied -/
def cpK (F T : Nat → Int32) (k : Nat) : Nat → Int32 := fun i => if i < k then F i else T i
theorem cpK_0 (F T : Nat → Int32) : cpK F T 0 = T := by funext i; unfold cpK; rw [if_neg (by omega)]
theorem cpK_s (F T : Nat → Int32) (k : Nat) : rz_u (cpK F T k) k (F k) = cpK F T (k + 1) := by
  funext i
  unfold rz_u cpK
  by_cases h : i = k
  · subst h; rw [if_pos rfl, if_pos (by omega)]
  · rw [if_neg h]
    by_cases h2 : i < k
    · rw [if_pos h2, if_pos (by omega)]
    · rw [if_neg h2, if_neg (by omega)]
theorem cpK_all {F T : Nat → Int32} {n : Nat} (h : ∀ i, n ≤ i → F i = T i) : cpK F T n = F := by
  funext i
  unfold cpK
  by_cases h2 : i < n
  · rw [if_pos h2]
  · rw [if_neg h2, h i (by omega)]
section MODEL3
variable {Z : rx_Z} {d : Nat} {h : Nat → Option rx_E} {ι : Nat → Nat → Int32} {w : Nat × Nat} {b rw : Nat} {C : List (Nat × Nat)}
theorem md_copies {x y : Nat} (hx : oRow h x) (hy : oRow h y) (hz : Z.2.1 ≤ y) (hxy : x ≠ y) : rz_f Z (d + 1) 199 [.ref x, .ref y] (rz_mk h ι, w) = some (.inl none, (rz_mk h (rz_rw ι y (cpK (ι x) (ι y) 62)), w)) := by
  have L := rz_loopE (fun k => rg Z d rx_m199 2 [some (.ref x), some (.ref y), some (.int (nI k))] [] (rz_mk h (rz_rw ι y (cpK (ι x) (ι y) k)), w)) 62 (by
    intro k hk
    have c : (nI k < 62) = True := by rw [nI_ltL (by omega) (by decide)]; simp [hk]
    have i1 : rz_ix (nI k) 62 := rz_ix_nat hk (by omega)
    have n1 : rz_rw ι y (cpK (ι x) (ι y) k) x = ι x := rz_rw_n hxy
    try dsimp only
    rw [g199_2]
    simp (decide := true) (maxDischargeDepth := 4) only [g199_0, g199_1, g199_3, g199_5, g199_8, g199_9, g199_10, g199_11, g199_12, g199_13, g199_14, g199_17, g199_20, rz_k_inl, rz_k_inr, Option.toList_some, Option.toList_none, List.cons_append, List.nil_append, List.append_nil, rz_up_s, rz_u_s, rz_up_n, rz_u_n, ne_eq, not_false_eq_true, not_true_eq_false, Nat.add_assoc, Nat.reduceAdd, reduceIte, Nat.add_eq_left, Nat.left_eq_add, Nat.add_left_cancel_iff, Nat.reduceEqDiff, Nat.add_right_cancel_iff, rz_nb0, rz_nb1, rz_nbb, rz_nbi, rz_isr, rz_zle, if_true, if_false, rz_bi0, rz_bi1, Bool.not_eq_true, Bool.not_eq_false, Bool.true_eq_false, Bool.false_eq_true, rz_ix_lit, cl_lit, Nat.reduceLT, hx.1, hx.2, hy.1, hy.2, hz, c, i1, nI_cl (show k < 2147483648 by omega), n1, rz_rw_up, cpK_s, nI_1])
  try dsimp only at L
  rw [cpK_0, rz_rw_id rfl] at L
  rw [e199]
  simp (decide := true) (maxDischargeDepth := 4) only [g199_0, g199_1, g199_3, g199_5, g199_8, g199_9, g199_10, g199_11, g199_12, g199_13, g199_14, g199_17, g199_20, rz_k_inl, rz_k_inr, Option.toList_some, Option.toList_none, List.cons_append, List.nil_append, List.append_nil, rz_up_s, rz_u_s, rz_up_n, rz_u_n, ne_eq, not_false_eq_true, not_true_eq_false, Nat.add_assoc, Nat.reduceAdd, reduceIte, Nat.add_eq_left, Nat.left_eq_add, Nat.add_left_cancel_iff, Nat.reduceEqDiff, Nat.add_right_cancel_iff, rz_nb0, rz_nb1, rz_nbb, rz_nbi, rz_isr, rz_zle, if_true, if_false, rz_bi0, rz_bi1, Bool.not_eq_true, Bool.not_eq_false, Bool.true_eq_false, Bool.false_eq_true, rz_ix_lit, cl_lit, Nat.reduceLT]
  refine L.trans ?_
  rw [g199_2]
  simp (decide := true) (maxDischargeDepth := 4) only [g199_0, g199_1, g199_3, g199_5, g199_8, g199_9, g199_10, g199_11, g199_12, g199_13, g199_14, g199_17, g199_20, rz_k_inl, rz_k_inr, Option.toList_some, Option.toList_none, List.cons_append, List.nil_append, List.append_nil, rz_up_s, rz_u_s, rz_up_n, rz_u_n, ne_eq, not_false_eq_true, not_true_eq_false, Nat.add_assoc, Nat.reduceAdd, reduceIte, Nat.add_eq_left, Nat.left_eq_add, Nat.add_left_cancel_iff, Nat.reduceEqDiff, Nat.add_right_cancel_iff, rz_nb0, rz_nb1, rz_nbb, rz_nbi, rz_isr, rz_zle, if_true, if_false, rz_bi0, rz_bi1, Bool.not_eq_true, Bool.not_eq_false, Bool.true_eq_false, Bool.false_eq_true, rz_ix_lit, cl_lit, Nat.reduceLT, show (nI 62 < 62) = False by decide]
theorem md_farthest (hb : oMd h b) (hz : Z.2.1 ≤ b) (hC : mlIs ι b C) (hr : oRow h rw) (hs : ¬ mdS b rw) {m : Nat} (hm : ι rw 57 = nI m) (hm8 : m ≤ 8) {q : Nat} (hq : q < 8) : ∃ ι', rz_f Z (d + 8) 223 [.ref b, .ref rw, .int (nI q)] (rz_mk h ι, w) = some (.inl (some (.int (furS (efL C) (ι rw) q m).1)), (rz_mk h ι', w)) ∧ fr (mdS b) ι ι' := by
  have L := rz_loop (fun p (a : (Nat → Nat → Int32)) => rg Z (d + 7) rx_m223 8 [some (.ref b), some (.ref rw), some (.int (nI q)), some (.int (furS (efL C) (ι rw) q p).1), some (.int (furS (efL C) (ι rw) q p).2), some (.int (nI p))] [] (rz_mk h a, w)) m (fun p a => fr (mdS b) ι a) (by
    rintro p ι1 hp hf
    have er : ι1 rw = ι rw := hf rw hs
    have c : (nI p < nI m) = True := by rw [nI_lt2 (by omega) (by omega)]; simp [hp]
    obtain ⟨ι2, h1, h2⟩ := md_farOf (Z := Z) (d := d) (w := w) hb hz (hC.fr hf mdNs0 mdNsl) hr (show p < 8 by omega) hq
    have lv := md_lives (Z := Z) (d := d + 5) (w := w) (ι := ι1) hr p
    rw [er] at h1 lv
    by_cases hpq : p = q
    · have cq : (nI p = nI q) = True := by rw [hpq]; simp
      refine ⟨ι1, hf, ?_⟩
      try dsimp only
      rw [g223_8]
      simp (decide := true) (maxDischargeDepth := 4) only [g223_0, g223_1, g223_2, g223_3, g223_5, g223_6, g223_10, g223_11, g223_13, g223_14, g223_17, g223_19, g223_20, g223_23, g223_24, g223_26, g223_29, g223_32, g223_33, g223_34, g223_36, g223_37, g223_40, g223_42, g223_45, g223_48, g223_50, g223_51, g223_52, g223_53, g223_55, g223_56, g223_59, g223_61, g223_64, g223_67, g223_68, rz_k_inl, rz_k_inr, Option.toList_some, Option.toList_none, List.cons_append, List.nil_append, List.append_nil, rz_up_s, rz_u_s, rz_up_n, rz_u_n, ne_eq, not_false_eq_true, not_true_eq_false, Nat.add_assoc, Nat.reduceAdd, reduceIte, Nat.add_eq_left, Nat.left_eq_add, Nat.add_left_cancel_iff, Nat.reduceEqDiff, Nat.add_right_cancel_iff, rz_nb0, rz_nb1, rz_nbb, rz_nbi, rz_isr, rz_zle, if_true, if_false, rz_bi0, rz_bi1, Bool.not_eq_true, Bool.not_eq_false, Bool.true_eq_false, Bool.false_eq_true, rz_ix_lit, cl_lit, Nat.reduceLT, hr.1, hr.2, er, hm, c, cq, nI_1]
      rw [furS, if_neg (fun z => z.2.1 hpq)]
    · have cq : (nI p = nI q) = False := by rw [nI_eq2 (by omega) (by omega)]; simp [hpq]
      by_cases hlv : rLv (ι rw) p = true
      · obtain ⟨ι3, h3, h4⟩ := md_farOf (Z := Z) (d := d) (w := w) hb hz (hC.fr (hf.trans h2) mdNs0 mdNsl) hr (show p < 8 by omega) hq
        rw [(hf.trans h2) rw hs] at h3
        by_cases hb2 : (furS (efL C) (ι rw) q p).2 < farB (efL C) (ι rw) p q
        · refine ⟨ι3, (hf.trans h2).trans h4, ?_⟩
          try dsimp only
          rw [g223_8]
          simp (decide := true) (maxDischargeDepth := 4) only [g223_0, g223_1, g223_2, g223_3, g223_5, g223_6, g223_10, g223_11, g223_13, g223_14, g223_17, g223_19, g223_20, g223_23, g223_24, g223_26, g223_29, g223_32, g223_33, g223_34, g223_36, g223_37, g223_40, g223_42, g223_45, g223_48, g223_50, g223_51, g223_52, g223_53, g223_55, g223_56, g223_59, g223_61, g223_64, g223_67, g223_68, rz_k_inl, rz_k_inr, Option.toList_some, Option.toList_none, List.cons_append, List.nil_append, List.append_nil, rz_up_s, rz_u_s, rz_up_n, rz_u_n, ne_eq, not_false_eq_true, not_true_eq_false, Nat.add_assoc, Nat.reduceAdd, reduceIte, Nat.add_eq_left, Nat.left_eq_add, Nat.add_left_cancel_iff, Nat.reduceEqDiff, Nat.add_right_cancel_iff, rz_nb0, rz_nb1, rz_nbb, rz_nbi, rz_isr, rz_zle, if_true, if_false, rz_bi0, rz_bi1, Bool.not_eq_true, Bool.not_eq_false, Bool.true_eq_false, Bool.false_eq_true, rz_ix_lit, cl_lit, Nat.reduceLT, oMd_c, oMd_i0, oMd_i1, oMd_i2, oMd_i3, oMd_i4, oMd_i5, oMd_i6, oMd_i7, oMd_i8, oMd_f9, oMd_v9, oMd_f10, oMd_v10, oMd_f11, oMd_v11, oMd_f12, oMd_v12, oMd_f13, oMd_v13, oMd_f14, oMd_v14, oMd_i15, oMd_i16, oMd_f17, oMd_v17, oMd_f18, oMd_v18, oMd_f19, oMd_v19, oMd_f20, oMd_v20, oMd_f21, oMd_v21, oMd_f22, oMd_v22, oMd_f23, oMd_v23, oMd_i24, oMd_f25, oMd_v25, oMd_f26, oMd_v26, oMd_f27, oMd_v27, oMd_f28, oMd_v28, oMd_i29, oMd_i30, oMd_i31, oMd_i32, oMd_i33, oMd_i34, oMd_i35, oMd_f36, oMd_v36, oMd_f37, oMd_v37, oMd_f38, oMd_v38, oMd_i39, oMd_f40, oMd_v40, oMd_f41, oMd_v41, oMd_i42, oMd_f43, oMd_v43, oMd_i44, oMd_a1, oMd_n1, oMd_a2, oMd_n2, oMd_a3, oMd_n3, oMd_a4, oMd_n4, oMd_a363, oMd_n363, oMd_a364, oMd_n364, oMd_a446, oMd_n446, oMd_a447, oMd_n447, oMd_a469, oMd_n469, oMd_a470, oMd_n470, oMd_a471, oMd_n471, oMd_a472, oMd_n472, oMd_a473, oMd_n473, oMd_a5, oMd_n5, oMd_e5, oMd_ra5, oMd_rn5, oMd_a14, oMd_n14, oMd_e14, oMd_ra14, oMd_rn14, oMd_a23, oMd_n23, oMd_e23, oMd_ra23, oMd_rn23, oMd_a184, oMd_n184, oMd_e184, oMd_ra184, oMd_rn184, oMd_a345, oMd_n345, oMd_e345, oMd_ra345, oMd_rn345, oMd_a354, oMd_n354, oMd_e354, oMd_ra354, oMd_rn354, oMd_a365, oMd_n365, oMd_e365, oMd_ra365, oMd_rn365, oMd_a448, oMd_n448, oMd_e448, oMd_ra448, oMd_rn448, oMd_a465, oMd_n465, oMd_e465, oMd_ra465, oMd_rn465, hb, hr.1, hr.2, er, hm, c, cq, lv, hlv, h1, hb2, h3, nI_1]
          rw [furS, if_pos ⟨hlv, hpq, hb2⟩]
        · refine ⟨ι2, hf.trans h2, ?_⟩
          try dsimp only
          rw [g223_8]
          simp (decide := true) (maxDischargeDepth := 4) only [g223_0, g223_1, g223_2, g223_3, g223_5, g223_6, g223_10, g223_11, g223_13, g223_14, g223_17, g223_19, g223_20, g223_23, g223_24, g223_26, g223_29, g223_32, g223_33, g223_34, g223_36, g223_37, g223_40, g223_42, g223_45, g223_48, g223_50, g223_51, g223_52, g223_53, g223_55, g223_56, g223_59, g223_61, g223_64, g223_67, g223_68, rz_k_inl, rz_k_inr, Option.toList_some, Option.toList_none, List.cons_append, List.nil_append, List.append_nil, rz_up_s, rz_u_s, rz_up_n, rz_u_n, ne_eq, not_false_eq_true, not_true_eq_false, Nat.add_assoc, Nat.reduceAdd, reduceIte, Nat.add_eq_left, Nat.left_eq_add, Nat.add_left_cancel_iff, Nat.reduceEqDiff, Nat.add_right_cancel_iff, rz_nb0, rz_nb1, rz_nbb, rz_nbi, rz_isr, rz_zle, if_true, if_false, rz_bi0, rz_bi1, Bool.not_eq_true, Bool.not_eq_false, Bool.true_eq_false, Bool.false_eq_true, rz_ix_lit, cl_lit, Nat.reduceLT, oMd_c, oMd_i0, oMd_i1, oMd_i2, oMd_i3, oMd_i4, oMd_i5, oMd_i6, oMd_i7, oMd_i8, oMd_f9, oMd_v9, oMd_f10, oMd_v10, oMd_f11, oMd_v11, oMd_f12, oMd_v12, oMd_f13, oMd_v13, oMd_f14, oMd_v14, oMd_i15, oMd_i16, oMd_f17, oMd_v17, oMd_f18, oMd_v18, oMd_f19, oMd_v19, oMd_f20, oMd_v20, oMd_f21, oMd_v21, oMd_f22, oMd_v22, oMd_f23, oMd_v23, oMd_i24, oMd_f25, oMd_v25, oMd_f26, oMd_v26, oMd_f27, oMd_v27, oMd_f28, oMd_v28, oMd_i29, oMd_i30, oMd_i31, oMd_i32, oMd_i33, oMd_i34, oMd_i35, oMd_f36, oMd_v36, oMd_f37, oMd_v37, oMd_f38, oMd_v38, oMd_i39, oMd_f40, oMd_v40, oMd_f41, oMd_v41, oMd_i42, oMd_f43, oMd_v43, oMd_i44, oMd_a1, oMd_n1, oMd_a2, oMd_n2, oMd_a3, oMd_n3, oMd_a4, oMd_n4, oMd_a363, oMd_n363, oMd_a364, oMd_n364, oMd_a446, oMd_n446, oMd_a447, oMd_n447, oMd_a469, oMd_n469, oMd_a470, oMd_n470, oMd_a471, oMd_n471, oMd_a472, oMd_n472, oMd_a473, oMd_n473, oMd_a5, oMd_n5, oMd_e5, oMd_ra5, oMd_rn5, oMd_a14, oMd_n14, oMd_e14, oMd_ra14, oMd_rn14, oMd_a23, oMd_n23, oMd_e23, oMd_ra23, oMd_rn23, oMd_a184, oMd_n184, oMd_e184, oMd_ra184, oMd_rn184, oMd_a345, oMd_n345, oMd_e345, oMd_ra345, oMd_rn345, oMd_a354, oMd_n354, oMd_e354, oMd_ra354, oMd_rn354, oMd_a365, oMd_n365, oMd_e365, oMd_ra365, oMd_rn365, oMd_a448, oMd_n448, oMd_e448, oMd_ra448, oMd_rn448, oMd_a465, oMd_n465, oMd_e465, oMd_ra465, oMd_rn465, hb, hr.1, hr.2, er, hm, c, cq, lv, hlv, h1, hb2, nI_1]
          rw [furS, if_neg (fun z => hb2 z.2.2)]
      · rw [Bool.not_eq_true] at hlv
        refine ⟨ι1, hf, ?_⟩
        try dsimp only
        rw [g223_8]
        simp (decide := true) (maxDischargeDepth := 4) only [g223_0, g223_1, g223_2, g223_3, g223_5, g223_6, g223_10, g223_11, g223_13, g223_14, g223_17, g223_19, g223_20, g223_23, g223_24, g223_26, g223_29, g223_32, g223_33, g223_34, g223_36, g223_37, g223_40, g223_42, g223_45, g223_48, g223_50, g223_51, g223_52, g223_53, g223_55, g223_56, g223_59, g223_61, g223_64, g223_67, g223_68, rz_k_inl, rz_k_inr, Option.toList_some, Option.toList_none, List.cons_append, List.nil_append, List.append_nil, rz_up_s, rz_u_s, rz_up_n, rz_u_n, ne_eq, not_false_eq_true, not_true_eq_false, Nat.add_assoc, Nat.reduceAdd, reduceIte, Nat.add_eq_left, Nat.left_eq_add, Nat.add_left_cancel_iff, Nat.reduceEqDiff, Nat.add_right_cancel_iff, rz_nb0, rz_nb1, rz_nbb, rz_nbi, rz_isr, rz_zle, if_true, if_false, rz_bi0, rz_bi1, Bool.not_eq_true, Bool.not_eq_false, Bool.true_eq_false, Bool.false_eq_true, rz_ix_lit, cl_lit, Nat.reduceLT, hr.1, hr.2, er, hm, c, cq, lv, hlv, nI_1]
        rw [furS, if_neg (fun z => by rw [hlv] at z; exact absurd z.1 (by decide))]) m 0 ι (by omega) (fr.refl ι)
  obtain ⟨ι', hf, L⟩ := L
  try dsimp only at L
  refine ⟨ι', ?_, hf⟩
  have c : (nI m < nI m) = False := by rw [nI_lt2 (by omega) (by omega)]; simp
  rw [e223]
  simp (decide := true) (maxDischargeDepth := 4) only [g223_0, g223_1, g223_2, g223_3, g223_5, g223_6, g223_10, g223_11, g223_13, g223_14, g223_17, g223_19, g223_20, g223_23, g223_24, g223_26, g223_29, g223_32, g223_33, g223_34, g223_36, g223_37, g223_40, g223_42, g223_45, g223_48, g223_50, g223_51, g223_52, g223_53, g223_55, g223_56, g223_59, g223_61, g223_64, g223_67, g223_68, rz_k_inl, rz_k_inr, Option.toList_some, Option.toList_none, List.cons_append, List.nil_append, List.append_nil, rz_up_s, rz_u_s, rz_up_n, rz_u_n, ne_eq, not_false_eq_true, not_true_eq_false, Nat.add_assoc, Nat.reduceAdd, reduceIte, Nat.add_eq_left, Nat.left_eq_add, Nat.add_left_cancel_iff, Nat.reduceEqDiff, Nat.add_right_cancel_iff, rz_nb0, rz_nb1, rz_nbb, rz_nbi, rz_isr, rz_zle, if_true, if_false, rz_bi0, rz_bi1, Bool.not_eq_true, Bool.not_eq_false, Bool.true_eq_false, Bool.false_eq_true, rz_ix_lit, cl_lit, Nat.reduceLT]
  refine L.trans ?_
  rw [g223_8]
  simp (decide := true) (maxDischargeDepth := 4) only [g223_0, g223_1, g223_2, g223_3, g223_5, g223_6, g223_10, g223_11, g223_13, g223_14, g223_17, g223_19, g223_20, g223_23, g223_24, g223_26, g223_29, g223_32, g223_33, g223_34, g223_36, g223_37, g223_40, g223_42, g223_45, g223_48, g223_50, g223_51, g223_52, g223_53, g223_55, g223_56, g223_59, g223_61, g223_64, g223_67, g223_68, rz_k_inl, rz_k_inr, Option.toList_some, Option.toList_none, List.cons_append, List.nil_append, List.append_nil, rz_up_s, rz_u_s, rz_up_n, rz_u_n, ne_eq, not_false_eq_true, not_true_eq_false, Nat.add_assoc, Nat.reduceAdd, reduceIte, Nat.add_eq_left, Nat.left_eq_add, Nat.add_left_cancel_iff, Nat.reduceEqDiff, Nat.add_right_cancel_iff, rz_nb0, rz_nb1, rz_nbb, rz_nbi, rz_isr, rz_zle, if_true, if_false, rz_bi0, rz_bi1, Bool.not_eq_true, Bool.not_eq_false, Bool.true_eq_false, Bool.false_eq_true, rz_ix_lit, cl_lit, Nat.reduceLT, hr.1, hr.2, hf rw hs, hm, c]
theorem md_heir (hb : oMd h b) (hz : Z.2.1 ≤ b) (hC : mlIs ι b C) (hr : oRow h rw) (hs : ¬ mdS b rw) {m : Nat} (hm : ι rw 57 = nI m) (hm8 : m ≤ 8) {dk : Option Nat} (hd : ι rw 58 = oN dk) (hd8 : ∀ q, dk = some q → q < 8) : ∃ ι', rz_f Z (d + 9) 224 [.ref b, .ref rw] (rz_mk h ι, w) = some (.inl (some (.int (furO (efL C) (ι rw) dk m))), (rz_mk h ι', w)) ∧ fr (mdS b) ι ι' := by
  cases dk with
  | none =>
    refine ⟨ι, ?_, fr.refl ι⟩
    rw [e224]
    simp (decide := true) (maxDischargeDepth := 4) only [g224_0, g224_1, g224_3, g224_4, g224_5, g224_8, g224_9, g224_12, g224_13, g224_14, g224_15, g224_17, g224_18, g224_21, rz_k_inl, rz_k_inr, Option.toList_some, Option.toList_none, List.cons_append, List.nil_append, List.append_nil, rz_up_s, rz_u_s, rz_up_n, rz_u_n, ne_eq, not_false_eq_true, not_true_eq_false, Nat.add_assoc, Nat.reduceAdd, reduceIte, Nat.add_eq_left, Nat.left_eq_add, Nat.add_left_cancel_iff, Nat.reduceEqDiff, Nat.add_right_cancel_iff, rz_nb0, rz_nb1, rz_nbb, rz_nbi, rz_isr, rz_zle, if_true, if_false, rz_bi0, rz_bi1, Bool.not_eq_true, Bool.not_eq_false, Bool.true_eq_false, Bool.false_eq_true, rz_ix_lit, cl_lit, Nat.reduceLT, hr.1, hr.2, hd, oN]
    rfl
  | some q =>
    obtain ⟨ι', h1, h2⟩ := md_farthest (Z := Z) (d := d) (w := w) hb hz hC hr hs hm hm8 (hd8 q rfl)
    have hq := hd8 q rfl
    refine ⟨ι', ?_, h2⟩
    rw [e224]
    simp (decide := true) (maxDischargeDepth := 4) only [g224_0, g224_1, g224_3, g224_4, g224_5, g224_8, g224_9, g224_12, g224_13, g224_14, g224_15, g224_17, g224_18, g224_21, rz_k_inl, rz_k_inr, Option.toList_some, Option.toList_none, List.cons_append, List.nil_append, List.append_nil, rz_up_s, rz_u_s, rz_up_n, rz_u_n, ne_eq, not_false_eq_true, not_true_eq_false, Nat.add_assoc, Nat.reduceAdd, reduceIte, Nat.add_eq_left, Nat.left_eq_add, Nat.add_left_cancel_iff, Nat.reduceEqDiff, Nat.add_right_cancel_iff, rz_nb0, rz_nb1, rz_nbb, rz_nbi, rz_isr, rz_zle, if_true, if_false, rz_bi0, rz_bi1, Bool.not_eq_true, Bool.not_eq_false, Bool.true_eq_false, Bool.false_eq_true, rz_ix_lit, cl_lit, Nat.reduceLT, oMd_c, oMd_i0, oMd_i1, oMd_i2, oMd_i3, oMd_i4, oMd_i5, oMd_i6, oMd_i7, oMd_i8, oMd_f9, oMd_v9, oMd_f10, oMd_v10, oMd_f11, oMd_v11, oMd_f12, oMd_v12, oMd_f13, oMd_v13, oMd_f14, oMd_v14, oMd_i15, oMd_i16, oMd_f17, oMd_v17, oMd_f18, oMd_v18, oMd_f19, oMd_v19, oMd_f20, oMd_v20, oMd_f21, oMd_v21, oMd_f22, oMd_v22, oMd_f23, oMd_v23, oMd_i24, oMd_f25, oMd_v25, oMd_f26, oMd_v26, oMd_f27, oMd_v27, oMd_f28, oMd_v28, oMd_i29, oMd_i30, oMd_i31, oMd_i32, oMd_i33, oMd_i34, oMd_i35, oMd_f36, oMd_v36, oMd_f37, oMd_v37, oMd_f38, oMd_v38, oMd_i39, oMd_f40, oMd_v40, oMd_f41, oMd_v41, oMd_i42, oMd_f43, oMd_v43, oMd_i44, oMd_a1, oMd_n1, oMd_a2, oMd_n2, oMd_a3, oMd_n3, oMd_a4, oMd_n4, oMd_a363, oMd_n363, oMd_a364, oMd_n364, oMd_a446, oMd_n446, oMd_a447, oMd_n447, oMd_a469, oMd_n469, oMd_a470, oMd_n470, oMd_a471, oMd_n471, oMd_a472, oMd_n472, oMd_a473, oMd_n473, oMd_a5, oMd_n5, oMd_e5, oMd_ra5, oMd_rn5, oMd_a14, oMd_n14, oMd_e14, oMd_ra14, oMd_rn14, oMd_a23, oMd_n23, oMd_e23, oMd_ra23, oMd_rn23, oMd_a184, oMd_n184, oMd_e184, oMd_ra184, oMd_rn184, oMd_a345, oMd_n345, oMd_e345, oMd_ra345, oMd_rn345, oMd_a354, oMd_n354, oMd_e354, oMd_ra354, oMd_rn354, oMd_a365, oMd_n365, oMd_e365, oMd_ra365, oMd_rn365, oMd_a448, oMd_n448, oMd_e448, oMd_ra448, oMd_rn448, oMd_a465, oMd_n465, oMd_e465, oMd_ra465, oMd_rn465, hb, hr.1, hr.2, hd, oN, nI_m1 (show q < 2147483648 by omega), h1]
    rfl
theorem md_farFromDuke (hb : oMd h b) (hz : Z.2.1 ≤ b) (hC : mlIs ι b C) (hr : oRow h rw) {dk : Option Nat} (hd : ι rw 58 = oN dk) (hd8 : ∀ q, dk = some q → q < 8) {p : Nat} (hp : p < 8) : ∃ ι', rz_f Z (d + 8) 237 [.ref b, .ref rw, .int (nI p)] (rz_mk h ι, w) = some (.inl (some (.int (fromD (efL C) (ι rw) dk p))), (rz_mk h ι', w)) ∧ fr (mdS b) ι ι' := by
  cases dk with
  | none =>
    refine ⟨ι, ?_, fr.refl ι⟩
    rw [e237]
    simp (decide := true) (maxDischargeDepth := 4) only [g237_0, g237_1, g237_3, g237_4, g237_5, g237_8, g237_9, g237_11, g237_12, g237_13, g237_16, g237_17, g237_20, g237_21, g237_22, g237_23, g237_24, g237_26, g237_27, g237_30, rz_k_inl, rz_k_inr, Option.toList_some, Option.toList_none, List.cons_append, List.nil_append, List.append_nil, rz_up_s, rz_u_s, rz_up_n, rz_u_n, ne_eq, not_false_eq_true, not_true_eq_false, Nat.add_assoc, Nat.reduceAdd, reduceIte, Nat.add_eq_left, Nat.left_eq_add, Nat.add_left_cancel_iff, Nat.reduceEqDiff, Nat.add_right_cancel_iff, rz_nb0, rz_nb1, rz_nbb, rz_nbi, rz_isr, rz_zle, if_true, if_false, rz_bi0, rz_bi1, Bool.not_eq_true, Bool.not_eq_false, Bool.true_eq_false, Bool.false_eq_true, rz_ix_lit, cl_lit, Nat.reduceLT, hr.1, hr.2, hd, oN]
    rfl
  | some q =>
    have hq := hd8 q rfl
    obtain ⟨ι', h1, h2⟩ := md_farOf (Z := Z) (d := d) (w := w) hb hz hC hr hp hq
    by_cases hqp : q = p
    · refine ⟨ι, ?_, fr.refl ι⟩
      have c : (nI q = nI p) = True := by rw [hqp]; simp
      rw [e237]
      simp (decide := true) (maxDischargeDepth := 4) only [g237_0, g237_1, g237_3, g237_4, g237_5, g237_8, g237_9, g237_11, g237_12, g237_13, g237_16, g237_17, g237_20, g237_21, g237_22, g237_23, g237_24, g237_26, g237_27, g237_30, rz_k_inl, rz_k_inr, Option.toList_some, Option.toList_none, List.cons_append, List.nil_append, List.append_nil, rz_up_s, rz_u_s, rz_up_n, rz_u_n, ne_eq, not_false_eq_true, not_true_eq_false, Nat.add_assoc, Nat.reduceAdd, reduceIte, Nat.add_eq_left, Nat.left_eq_add, Nat.add_left_cancel_iff, Nat.reduceEqDiff, Nat.add_right_cancel_iff, rz_nb0, rz_nb1, rz_nbb, rz_nbi, rz_isr, rz_zle, if_true, if_false, rz_bi0, rz_bi1, Bool.not_eq_true, Bool.not_eq_false, Bool.true_eq_false, Bool.false_eq_true, rz_ix_lit, cl_lit, Nat.reduceLT, hr.1, hr.2, hd, oN, nI_m1 (show q < 2147483648 by omega), c]
      rw [fromD, if_pos hqp]
    · refine ⟨ι', ?_, h2⟩
      have c : (nI q = nI p) = False := by rw [nI_eq2 (by omega) (by omega)]; simp [hqp]
      rw [e237]
      simp (decide := true) (maxDischargeDepth := 4) only [g237_0, g237_1, g237_3, g237_4, g237_5, g237_8, g237_9, g237_11, g237_12, g237_13, g237_16, g237_17, g237_20, g237_21, g237_22, g237_23, g237_24, g237_26, g237_27, g237_30, rz_k_inl, rz_k_inr, Option.toList_some, Option.toList_none, List.cons_append, List.nil_append, List.append_nil, rz_up_s, rz_u_s, rz_up_n, rz_u_n, ne_eq, not_false_eq_true, not_true_eq_false, Nat.add_assoc, Nat.reduceAdd, reduceIte, Nat.add_eq_left, Nat.left_eq_add, Nat.add_left_cancel_iff, Nat.reduceEqDiff, Nat.add_right_cancel_iff, rz_nb0, rz_nb1, rz_nbb, rz_nbi, rz_isr, rz_zle, if_true, if_false, rz_bi0, rz_bi1, Bool.not_eq_true, Bool.not_eq_false, Bool.true_eq_false, Bool.false_eq_true, rz_ix_lit, cl_lit, Nat.reduceLT, oMd_c, oMd_i0, oMd_i1, oMd_i2, oMd_i3, oMd_i4, oMd_i5, oMd_i6, oMd_i7, oMd_i8, oMd_f9, oMd_v9, oMd_f10, oMd_v10, oMd_f11, oMd_v11, oMd_f12, oMd_v12, oMd_f13, oMd_v13, oMd_f14, oMd_v14, oMd_i15, oMd_i16, oMd_f17, oMd_v17, oMd_f18, oMd_v18, oMd_f19, oMd_v19, oMd_f20, oMd_v20, oMd_f21, oMd_v21, oMd_f22, oMd_v22, oMd_f23, oMd_v23, oMd_i24, oMd_f25, oMd_v25, oMd_f26, oMd_v26, oMd_f27, oMd_v27, oMd_f28, oMd_v28, oMd_i29, oMd_i30, oMd_i31, oMd_i32, oMd_i33, oMd_i34, oMd_i35, oMd_f36, oMd_v36, oMd_f37, oMd_v37, oMd_f38, oMd_v38, oMd_i39, oMd_f40, oMd_v40, oMd_f41, oMd_v41, oMd_i42, oMd_f43, oMd_v43, oMd_i44, oMd_a1, oMd_n1, oMd_a2, oMd_n2, oMd_a3, oMd_n3, oMd_a4, oMd_n4, oMd_a363, oMd_n363, oMd_a364, oMd_n364, oMd_a446, oMd_n446, oMd_a447, oMd_n447, oMd_a469, oMd_n469, oMd_a470, oMd_n470, oMd_a471, oMd_n471, oMd_a472, oMd_n472, oMd_a473, oMd_n473, oMd_a5, oMd_n5, oMd_e5, oMd_ra5, oMd_rn5, oMd_a14, oMd_n14, oMd_e14, oMd_ra14, oMd_rn14, oMd_a23, oMd_n23, oMd_e23, oMd_ra23, oMd_rn23, oMd_a184, oMd_n184, oMd_e184, oMd_ra184, oMd_rn184, oMd_a345, oMd_n345, oMd_e345, oMd_ra345, oMd_rn345, oMd_a354, oMd_n354, oMd_e354, oMd_ra354, oMd_rn354, oMd_a365, oMd_n365, oMd_e365, oMd_ra365, oMd_rn365, oMd_a448, oMd_n448, oMd_e448, oMd_ra448, oMd_rn448, oMd_a465, oMd_n465, oMd_e465, oMd_ra465, oMd_rn465, hb, hr.1, hr.2, hd, oN, nI_m1 (show q < 2147483648 by omega), c, h1, fromD, hqp]
theorem md_becomes (hr : oRow h rw) (hz : Z.2.1 ≤ rw) {k : Nat} (hk : k < 62) (n : Int32) : rz_f Z (d + 1) 225 [.ref rw, .int (nI k), .int n] (rz_mk h ι, w) = (if ι rw k = n then some (.inl (some (.int 0)), (rz_mk h ι, w)) else some (.inl (some (.int 1)), (rz_mk h (rz_rw ι rw (rz_u (ι rw) k n)), w))) := by
  have i1 : rz_ix (nI k) 62 := rz_ix_nat hk (by omega)
  rw [e225]
  simp (decide := true) (maxDischargeDepth := 4) only [g225_0, g225_1, g225_2, g225_3, g225_4, g225_7, g225_8, g225_9, g225_10, g225_11, g225_12, g225_13, g225_14, rz_k_inl, rz_k_inr, Option.toList_some, Option.toList_none, List.cons_append, List.nil_append, List.append_nil, rz_up_s, rz_u_s, rz_up_n, rz_u_n, ne_eq, not_false_eq_true, not_true_eq_false, Nat.add_assoc, Nat.reduceAdd, reduceIte, Nat.add_eq_left, Nat.left_eq_add, Nat.add_left_cancel_iff, Nat.reduceEqDiff, Nat.add_right_cancel_iff, rz_nb0, rz_nb1, rz_nbb, rz_nbi, rz_isr, rz_zle, if_true, if_false, rz_bi0, rz_bi1, Bool.not_eq_true, Bool.not_eq_false, Bool.true_eq_false, Bool.false_eq_true, rz_ix_lit, cl_lit, Nat.reduceLT, hr.1, hr.2, hz, i1, nI_cl (show k < 2147483648 by omega), rz_up_rw]
theorem md_drops (hr : oRow h rw) (hz : Z.2.1 ≤ rw) {m : Nat} (hm : ι rw 57 = nI m) (hm8 : m ≤ 8) {p : Nat} (hp : p < 8) : rz_f Z (d + 3) 226 [.ref rw, .int (nI p)] (rz_mk h ι, w) = some (.inl (some (.int (bi (drpR (ι rw) m p).isSome))), (rz_mk h (rz_rw ι rw ((drpR (ι rw) m p).getD (ι rw))), w)) := by
  by_cases hpm : p < m
  · have c : (nI p < nI m) = True := by rw [nI_lt2 (by omega) (by omega)]; simp [hpm]
    by_cases hn : rMs (ι rw) p = 0
    · have e : drpR (ι rw) m p = none := by unfold drpR; rw [if_neg (fun z => z.2 hn)]
      rw [e, show (none : Option (Nat → Int32)).getD (ι rw) = ι rw from rfl, rz_rw_id rfl]
      have hn' : rFt (ι rw) p = 0 := by rw [rFt_0]; exact hn
      rw [e226]
      simp (decide := true) (maxDischargeDepth := 4) only [g226_0, g226_1, g226_2, g226_4, g226_5, g226_8, g226_9, g226_10, g226_13, g226_16, g226_17, g226_18, g226_19, g226_21, g226_22, g226_25, g226_26, g226_28, g226_29, g226_30, g226_31, g226_32, g226_33, g226_34, g226_35, g226_36, g226_37, g226_40, g226_41, g226_44, g226_47, g226_48, rz_k_inl, rz_k_inr, Option.toList_some, Option.toList_none, List.cons_append, List.nil_append, List.append_nil, rz_up_s, rz_u_s, rz_up_n, rz_u_n, ne_eq, not_false_eq_true, not_true_eq_false, Nat.add_assoc, Nat.reduceAdd, reduceIte, Nat.add_eq_left, Nat.left_eq_add, Nat.add_left_cancel_iff, Nat.reduceEqDiff, Nat.add_right_cancel_iff, rz_nb0, rz_nb1, rz_nbb, rz_nbi, rz_isr, rz_zle, if_true, if_false, rz_bi0, rz_bi1, Bool.not_eq_true, Bool.not_eq_false, Bool.true_eq_false, Bool.false_eq_true, rz_ix_lit, cl_lit, Nat.reduceLT, hr.1, hr.2, hm, c, md_feints hr hp, hn']
      rfl
    · have e : drpR (ι rw) m p = some (shIs (ι rw) p) := by unfold drpR; rw [if_pos ⟨hpm, hn⟩]
      have hn' : ¬ rFt (ι rw) p = 0 := by rw [rFt_0]; exact hn
      have L := rz_loopE (fun t => rg Z (d + 2) rx_m226 20 [some (.ref rw), some (.int (nI p)), some (.int (nI t))] [] (rz_mk h (rz_rw ι rw (shK (ι rw) p t)), w)) 3 (by
        intro t ht
        have c : (nI t < 3) = True := by rw [nI_ltL (by omega) (by decide)]; simp [ht]
        have i1 : rz_ix (nI (24 + (3 * p + t))) 62 := rz_ix_nat (by omega) (by omega)
        have is := md_is (Z := Z) (d := d + 1) (w := w) (ι := rz_rw ι rw (shK (ι rw) p t)) hr hp ht
        rw [show rIs (rz_rw ι rw (shK (ι rw) p t) rw) p t = ι rw (3 * p + t) by unfold rIs; rw [rz_rw_s]; unfold shK; rw [if_neg (by omega)]] at is
        try dsimp only
        rw [g226_20]
        simp (decide := true) (maxDischargeDepth := 4) only [g226_0, g226_1, g226_2, g226_4, g226_5, g226_8, g226_9, g226_10, g226_13, g226_16, g226_17, g226_18, g226_19, g226_21, g226_22, g226_25, g226_26, g226_28, g226_29, g226_30, g226_31, g226_32, g226_33, g226_34, g226_35, g226_36, g226_37, g226_40, g226_41, g226_44, g226_47, g226_48, rz_k_inl, rz_k_inr, Option.toList_some, Option.toList_none, List.cons_append, List.nil_append, List.append_nil, rz_up_s, rz_u_s, rz_up_n, rz_u_n, ne_eq, not_false_eq_true, not_true_eq_false, Nat.add_assoc, Nat.reduceAdd, reduceIte, Nat.add_eq_left, Nat.left_eq_add, Nat.add_left_cancel_iff, Nat.reduceEqDiff, Nat.add_right_cancel_iff, rz_nb0, rz_nb1, rz_nbb, rz_nbi, rz_isr, rz_zle, if_true, if_false, rz_bi0, rz_bi1, Bool.not_eq_true, Bool.not_eq_false, Bool.true_eq_false, Bool.false_eq_true, rz_ix_lit, cl_lit, Nat.reduceLT, hr.1, hr.2, hz, c, is, nI_Lm, nI_La, nI_add, i1, nI_cl (show 24 + (3 * p + t) < 2147483648 by omega), rz_rw_up, shK_s, nI_1])
      try dsimp only at L
      rw [shK_0, rz_rw_id rfl] at L
      rw [e, e226]
      simp (decide := true) (maxDischargeDepth := 4) only [g226_0, g226_1, g226_2, g226_4, g226_5, g226_8, g226_9, g226_10, g226_13, g226_16, g226_17, g226_18, g226_19, g226_21, g226_22, g226_25, g226_26, g226_28, g226_29, g226_30, g226_31, g226_32, g226_33, g226_34, g226_35, g226_36, g226_37, g226_40, g226_41, g226_44, g226_47, g226_48, rz_k_inl, rz_k_inr, Option.toList_some, Option.toList_none, List.cons_append, List.nil_append, List.append_nil, rz_up_s, rz_u_s, rz_up_n, rz_u_n, ne_eq, not_false_eq_true, not_true_eq_false, Nat.add_assoc, Nat.reduceAdd, reduceIte, Nat.add_eq_left, Nat.left_eq_add, Nat.add_left_cancel_iff, Nat.reduceEqDiff, Nat.add_right_cancel_iff, rz_nb0, rz_nb1, rz_nbb, rz_nbi, rz_isr, rz_zle, if_true, if_false, rz_bi0, rz_bi1, Bool.not_eq_true, Bool.not_eq_false, Bool.true_eq_false, Bool.false_eq_true, rz_ix_lit, cl_lit, Nat.reduceLT, hr.1, hr.2, hm, c, md_feints hr hp, hn']
      refine L.trans ?_
      rw [g226_20]
      simp (decide := true) (maxDischargeDepth := 4) only [g226_0, g226_1, g226_2, g226_4, g226_5, g226_8, g226_9, g226_10, g226_13, g226_16, g226_17, g226_18, g226_19, g226_21, g226_22, g226_25, g226_26, g226_28, g226_29, g226_30, g226_31, g226_32, g226_33, g226_34, g226_35, g226_36, g226_37, g226_40, g226_41, g226_44, g226_47, g226_48, rz_k_inl, rz_k_inr, Option.toList_some, Option.toList_none, List.cons_append, List.nil_append, List.append_nil, rz_up_s, rz_u_s, rz_up_n, rz_u_n, ne_eq, not_false_eq_true, not_true_eq_false, Nat.add_assoc, Nat.reduceAdd, reduceIte, Nat.add_eq_left, Nat.left_eq_add, Nat.add_left_cancel_iff, Nat.reduceEqDiff, Nat.add_right_cancel_iff, rz_nb0, rz_nb1, rz_nbb, rz_nbi, rz_isr, rz_zle, if_true, if_false, rz_bi0, rz_bi1, Bool.not_eq_true, Bool.not_eq_false, Bool.true_eq_false, Bool.false_eq_true, rz_ix_lit, cl_lit, Nat.reduceLT, show (nI 3 < 3) = False by decide]
      rfl
  · have c : (nI p < nI m) = False := by rw [nI_lt2 (by omega) (by omega)]; simp [hpm]
    have e : drpR (ι rw) m p = none := by unfold drpR; rw [if_neg (fun z => hpm z.1)]
    rw [e, show (none : Option (Nat → Int32)).getD (ι rw) = ι rw from rfl, rz_rw_id rfl]
    rw [e226]
    simp (decide := true) (maxDischargeDepth := 4) only [g226_0, g226_1, g226_2, g226_4, g226_5, g226_8, g226_9, g226_10, g226_13, g226_16, g226_17, g226_18, g226_19, g226_21, g226_22, g226_25, g226_26, g226_28, g226_29, g226_30, g226_31, g226_32, g226_33, g226_34, g226_35, g226_36, g226_37, g226_40, g226_41, g226_44, g226_47, g226_48, rz_k_inl, rz_k_inr, Option.toList_some, Option.toList_none, List.cons_append, List.nil_append, List.append_nil, rz_up_s, rz_u_s, rz_up_n, rz_u_n, ne_eq, not_false_eq_true, not_true_eq_false, Nat.add_assoc, Nat.reduceAdd, reduceIte, Nat.add_eq_left, Nat.left_eq_add, Nat.add_left_cancel_iff, Nat.reduceEqDiff, Nat.add_right_cancel_iff, rz_nb0, rz_nb1, rz_nbb, rz_nbi, rz_isr, rz_zle, if_true, if_false, rz_bi0, rz_bi1, Bool.not_eq_true, Bool.not_eq_false, Bool.true_eq_false, Bool.false_eq_true, rz_ix_lit, cl_lit, Nat.reduceLT, hr.1, hr.2, hm, c]
    rfl
end MODEL3
