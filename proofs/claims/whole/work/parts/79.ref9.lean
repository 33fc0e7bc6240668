/-! the reference: land, middling -/
theorem bdL_nI (cl : Nat → Int32) (n : Int32) : ∀ (k i : Nat), ∃ j, j ≤ i + k ∧ bdL cl n k (i + 1) (nI i) = nI j
  | 0, i => ⟨i, by omega, rfl⟩
  | k + 1, i => by
    unfold bdL
    split
    · exact ⟨i, by omega, rfl⟩
    · obtain ⟨j, h1, h2⟩ := bdL_nI cl n k (i + 1)
      exact ⟨j, by omega, h2⟩
theorem furS_cases (C : List (Nat × Nat)) (R : Nat → Int32) (q : Nat) : ∀ k, (furS C R q k = (-1, -1) ∧ ∀ p, p < k → ¬ (rLv R p = true ∧ p ≠ q)) ∨ ∃ x, x < k ∧ rLv R x = true ∧ furS C R q k = (nI x, farB C R x q)
  | 0 => Or.inl ⟨rfl, fun p hp => by omega⟩
  | k + 1 => by
    unfold furS
    rcases furS_cases C R q k with ⟨e, hn⟩ | ⟨x, h1, h2, e⟩
    · by_cases hc : rLv R k = true ∧ k ≠ q
      · right
        obtain ⟨n, hn1, hn2⟩ := farB_nI C R k q
        have lt : (furS C R q k).2 < farB C R k q := by rw [e, hn2]; show (-1 : Int32) < nI n; rw [nI_m1l (by omega)]; trivial
        exact ⟨k, by omega, hc.1, by rw [if_pos ⟨hc.1, hc.2, lt⟩]⟩
      · left
        refine ⟨by rw [if_neg (fun z => hc ⟨z.1, z.2.1⟩)]; exact e, fun p hp => ?_⟩
        by_cases hpk : p = k
        · rw [hpk]; exact hc
        · exact hn p (by omega)
    · right
      by_cases hc : rLv R k = true ∧ k ≠ q ∧ (furS C R q k).2 < farB C R k q
      · exact ⟨k, by omega, hc.1, by rw [if_pos hc]⟩
      · exact ⟨x, by omega, h2, by rw [if_neg hc]; exact e⟩
theorem two_live : ∀ n, n < 256 → ∀ p, p < 8 → (decide (onS (nI n) < 2) || (List.range 8).any (fun q => n.testBit q && !decide (q = p))) = true := by decide +kernel
theorem mgS_cases (C : List (Nat × Nat)) (R : Nat → Int32) (m : Nat) : ∀ k, mgS C R m k = (-1, 100) ∨ ∃ x y, x < k ∧ y ≤ 99 ∧ mgS C R m k = (nI x, nI y)
  | 0 => Or.inl rfl
  | k + 1 => by
    unfold mgS
    split
    · obtain ⟨n, hn1, hn2⟩ := farB_nI C R (furS C R k m).1.toNatClampNeg k
      exact Or.inr ⟨k, n, by omega, hn1, by rw [hn2]⟩
    · rcases mgS_cases C R m k with e | ⟨x, y, h1, h2, e⟩
      · exact Or.inl e
      · exact Or.inr ⟨x, y, by omega, h2, e⟩
theorem mgS_some {C : List (Nat × Nat)} {R : Nat → Int32} {m : Nat} (hf : ∀ p, p < m → rLv R p = true → (furS C R p m).1 ≠ -1) : ∀ k, k ≤ m → (∃ p, p < k ∧ rLv R p = true) → mgS C R m k ≠ (-1, 100)
  | 0, _, ⟨p, hp, _⟩ => by omega
  | k + 1, hk, ⟨p, hp, hl⟩ => by
    unfold mgS
    by_cases hc : rLv R k = true ∧ (furS C R k m).1 ≠ -1 ∧ farB C R (furS C R k m).1.toNatClampNeg k < (mgS C R m k).2
    · rw [if_pos hc]
      intro e
      have e := congrArg Prod.fst e
      have : (nI k = -1) = False ∨ 2147483648 ≤ k := by
        by_cases h : k < 2147483648
        · exact Or.inl (nI_m1 h)
        · exact Or.inr (by omega)
      have e : nI k = -1 := e
      rcases this with z | z
      · rw [z] at e; exact e
      · obtain ⟨n, hn1, hn2⟩ := farB_nI C R (furS C R k m).1.toNatClampNeg k
        have e2 := congrArg Prod.snd ‹(nI k, farB C R (furS C R k m).1.toNatClampNeg k) = (-1, 100)›
        have e2 : farB C R (furS C R k m).1.toNatClampNeg k = 100 := e2
        rw [hn2, nI_eqL (by omega) (by decide)] at e2
        omega
    · rw [if_neg hc]
      by_cases hpk : p = k
      · subst hpk
        rcases mgS_cases C R m p with e | ⟨x, y, h1, h2, e⟩
        · obtain ⟨n, hn1, hn2⟩ := farB_nI C R (furS C R p m).1.toNatClampNeg p
          exact absurd ⟨hl, hf p (by omega) hl, by rw [e, hn2]; show nI n < 100; rw [nI_ltL (by omega) (by decide)]; omega⟩ hc
        · rw [e]
          intro z
          have z : nI y = 100 := congrArg Prod.snd z
          rw [nI_eqL (by omega) (by decide)] at z
          omega
      · exact mgS_some hf k (by omega) ⟨p, by omega, hl⟩
section REF9
variable {Z : rx_Z} {d : Nat} {h : Nat → Option rx_E} {ι : Nat → Nat → Int32} {w : Nat × Nat} {b m lv : Nat} {C : List (Nat × Nat)} {R : Nat → Int32} {dk : Option Nat}
theorem mo_land (q : QM Z h ι b C R m dk lv) {p : Nat} (hp : p < m) {y z : Int32} (hb : lndB m y z = true) : ansM Z (d + 11) h ι w b 267 [.int (nI p), .int y, .int z] (lndS (efL C) R dk p y z) := by
  obtain ⟨ι0, e0, q0, f0, t0⟩ := mpre q
  obtain ⟨c1, c2, c3, c4⟩ := mbad (Z := Z) (d := d + 9) (w := w) q e0 t0
  have ip := md_isPerson (Z := Z) (d := d + 8) (w := w) q0
  have hm8 := q.2.2.2.2.2.1
  have hr := oMd.row q.2.1
  have h57 : ι0 (b + 446) 57 = nI m := by rw [q0.2.2.2.1]; exact q.2.2.2.2.1
  simp only [lndB, Bool.and_eq_true] at hb
  have b1 : (!decide (y < 0) && !decide ((1 <<< (nI m &&& 31)) - 1 < y)) = true := hb.1
  have b2 : (!decide (z < 0) && !decide ((999 : Int32) < z)) = true := hb.2
  have H : ∀ (k i : Nat) (ι1 : Nat → Nat → Int32), i + k = 99 → frM b ι ι1 → ι1 b 0 = 0 → ∃ ι2, rg Z (d + 10) rx_m267 76 [some (.ref b), some (.int (nI p)), some (.int y), some (.int z), some (.int (nI i))] [] (rz_mk h ι1, w) = rg Z (d + 10) rx_m267 102 [some (.ref b), some (.int (nI p)), some (.int y), some (.int z), some (.int (bdL (clmS (efL C) R dk y) z k (i + 1) (nI i)))] [] (rz_mk h ι2, w) ∧ frM b ι ι2 ∧ ι2 b 0 = 0 := by
    intro k
    induction k with
    | zero =>
      intro i ι1 hi hf ht
      have : i = 99 := by omega
      subst this
      refine ⟨ι1, ?_, hf, ht⟩
      rw [g267_76]
      simp (decide := true) (maxDischargeDepth := 4) only [g267_78, g267_80, g267_83, g267_84, g267_85, g267_87, g267_88, g267_89, g267_92, g267_93, g267_96, g267_99, rz_k_inl, rz_k_inr, Option.toList_some, Option.toList_none, List.cons_append, List.nil_append, List.append_nil, rz_up_s, rz_u_s, rz_up_n, rz_u_n, ne_eq, not_false_eq_true, not_true_eq_false, Nat.add_assoc, Nat.reduceAdd, reduceIte, Nat.add_eq_left, Nat.left_eq_add, Nat.add_left_cancel_iff, Nat.reduceEqDiff, Nat.add_right_cancel_iff, rz_nb0, rz_nb1, rz_nbb, rz_nbi, rz_isr, rz_zle, if_true, if_false, rz_bi0, rz_bi1, Bool.not_eq_true, Bool.not_eq_false, Bool.true_eq_false, Bool.false_eq_true, rz_ix_lit, cl_lit, Nat.reduceLT, bi_t, bi_f, decide_true, decide_false, Bool.not_false, Bool.not_true, Bool.and_true, Bool.true_and, Bool.and_false, Bool.false_and, show (nI 99 < 99) = False by decide]
      rfl
    | succ k ih =>
      intro i ι1 hi hf ht
      have k1 : (nI i < 99) = True := by rw [nI_ltL (by omega) (by decide)]; simp; omega
      have nn : ¬ nI (i + 1) < 0 := by rw [nI_nn (by omega)]; exact id
      obtain ⟨ι2, g1, g2, g3⟩ := md_givenBy (Z := Z) (d := d) (w := w) (q.fr hf) ht y nn
      rw [bdL]
      by_cases hc : z < gvS (clmS (efL C) R dk y) (nI (i + 1))
      · refine ⟨ι2, ?_, hf.trans g2, g3⟩
        rw [if_pos hc, g267_76]
        simp (decide := true) (maxDischargeDepth := 4) only [g267_78, g267_80, g267_83, g267_84, g267_85, g267_87, g267_88, g267_89, g267_92, g267_93, g267_96, g267_99, rz_k_inl, rz_k_inr, Option.toList_some, Option.toList_none, List.cons_append, List.nil_append, List.append_nil, rz_up_s, rz_u_s, rz_up_n, rz_u_n, ne_eq, not_false_eq_true, not_true_eq_false, Nat.add_assoc, Nat.reduceAdd, reduceIte, Nat.add_eq_left, Nat.left_eq_add, Nat.add_left_cancel_iff, Nat.reduceEqDiff, Nat.add_right_cancel_iff, rz_nb0, rz_nb1, rz_nbb, rz_nbi, rz_isr, rz_zle, if_true, if_false, rz_bi0, rz_bi1, Bool.not_eq_true, Bool.not_eq_false, Bool.true_eq_false, Bool.false_eq_true, rz_ix_lit, cl_lit, Nat.reduceLT, bi_t, bi_f, decide_true, decide_false, Bool.not_false, Bool.not_true, Bool.and_true, Bool.true_and, Bool.and_false, Bool.false_and, oMd_c, oMd_i0, oMd_i1, oMd_i2, oMd_i3, oMd_i4, oMd_i5, oMd_i6, oMd_i7, oMd_i8, oMd_f9, oMd_v9, oMd_f10, oMd_v10, oMd_f11, oMd_v11, oMd_f12, oMd_v12, oMd_f13, oMd_v13, oMd_f14, oMd_v14, oMd_i15, oMd_i16, oMd_f17, oMd_v17, oMd_f18, oMd_v18, oMd_f19, oMd_v19, oMd_f20, oMd_v20, oMd_f21, oMd_v21, oMd_f22, oMd_v22, oMd_f23, oMd_v23, oMd_i24, oMd_f25, oMd_v25, oMd_f26, oMd_v26, oMd_f27, oMd_v27, oMd_f28, oMd_v28, oMd_i29, oMd_i30, oMd_i31, oMd_i32, oMd_i33, oMd_i34, oMd_i35, oMd_f36, oMd_v36, oMd_f37, oMd_v37, oMd_f38, oMd_v38, oMd_i39, oMd_f40, oMd_v40, oMd_f41, oMd_v41, oMd_i42, oMd_f43, oMd_v43, oMd_i44, oMd_a1, oMd_n1, oMd_a2, oMd_n2, oMd_a3, oMd_n3, oMd_a4, oMd_n4, oMd_a363, oMd_n363, oMd_a364, oMd_n364, oMd_a446, oMd_n446, oMd_a447, oMd_n447, oMd_a469, oMd_n469, oMd_a470, oMd_n470, oMd_a471, oMd_n471, oMd_a472, oMd_n472, oMd_a473, oMd_n473, oMd_a5, oMd_n5, oMd_e5, oMd_ra5, oMd_rn5, oMd_a14, oMd_n14, oMd_e14, oMd_ra14, oMd_rn14, oMd_a23, oMd_n23, oMd_e23, oMd_ra23, oMd_rn23, oMd_a184, oMd_n184, oMd_e184, oMd_ra184, oMd_rn184, oMd_a345, oMd_n345, oMd_e345, oMd_ra345, oMd_rn345, oMd_a354, oMd_n354, oMd_e354, oMd_ra354, oMd_rn354, oMd_a365, oMd_n365, oMd_e365, oMd_ra365, oMd_rn365, oMd_a448, oMd_n448, oMd_e448, oMd_ra448, oMd_rn448, oMd_a465, oMd_n465, oMd_e465, oMd_ra465, oMd_rn465, q.2.1, k1, nI_1, g1, hc]
      · obtain ⟨ι3, g, gf⟩ := ih (i + 1) ι2 (by omega) (hf.trans g2) g3
        refine ⟨ι3, ?_, gf⟩
        rw [if_neg hc, g267_76]
        simp (decide := true) (maxDischargeDepth := 4) only [g267_78, g267_80, g267_83, g267_84, g267_85, g267_87, g267_88, g267_89, g267_92, g267_93, g267_96, g267_99, rz_k_inl, rz_k_inr, Option.toList_some, Option.toList_none, List.cons_append, List.nil_append, List.append_nil, rz_up_s, rz_u_s, rz_up_n, rz_u_n, ne_eq, not_false_eq_true, not_true_eq_false, Nat.add_assoc, Nat.reduceAdd, reduceIte, Nat.add_eq_left, Nat.left_eq_add, Nat.add_left_cancel_iff, Nat.reduceEqDiff, Nat.add_right_cancel_iff, rz_nb0, rz_nb1, rz_nbb, rz_nbi, rz_isr, rz_zle, if_true, if_false, rz_bi0, rz_bi1, Bool.not_eq_true, Bool.not_eq_false, Bool.true_eq_false, Bool.false_eq_true, rz_ix_lit, cl_lit, Nat.reduceLT, bi_t, bi_f, decide_true, decide_false, Bool.not_false, Bool.not_true, Bool.and_true, Bool.true_and, Bool.and_false, Bool.false_and, oMd_c, oMd_i0, oMd_i1, oMd_i2, oMd_i3, oMd_i4, oMd_i5, oMd_i6, oMd_i7, oMd_i8, oMd_f9, oMd_v9, oMd_f10, oMd_v10, oMd_f11, oMd_v11, oMd_f12, oMd_v12, oMd_f13, oMd_v13, oMd_f14, oMd_v14, oMd_i15, oMd_i16, oMd_f17, oMd_v17, oMd_f18, oMd_v18, oMd_f19, oMd_v19, oMd_f20, oMd_v20, oMd_f21, oMd_v21, oMd_f22, oMd_v22, oMd_f23, oMd_v23, oMd_i24, oMd_f25, oMd_v25, oMd_f26, oMd_v26, oMd_f27, oMd_v27, oMd_f28, oMd_v28, oMd_i29, oMd_i30, oMd_i31, oMd_i32, oMd_i33, oMd_i34, oMd_i35, oMd_f36, oMd_v36, oMd_f37, oMd_v37, oMd_f38, oMd_v38, oMd_i39, oMd_f40, oMd_v40, oMd_f41, oMd_v41, oMd_i42, oMd_f43, oMd_v43, oMd_i44, oMd_a1, oMd_n1, oMd_a2, oMd_n2, oMd_a3, oMd_n3, oMd_a4, oMd_n4, oMd_a363, oMd_n363, oMd_a364, oMd_n364, oMd_a446, oMd_n446, oMd_a447, oMd_n447, oMd_a469, oMd_n469, oMd_a470, oMd_n470, oMd_a471, oMd_n471, oMd_a472, oMd_n472, oMd_a473, oMd_n473, oMd_a5, oMd_n5, oMd_e5, oMd_ra5, oMd_rn5, oMd_a14, oMd_n14, oMd_e14, oMd_ra14, oMd_rn14, oMd_a23, oMd_n23, oMd_e23, oMd_ra23, oMd_rn23, oMd_a184, oMd_n184, oMd_e184, oMd_ra184, oMd_rn184, oMd_a345, oMd_n345, oMd_e345, oMd_ra345, oMd_rn345, oMd_a354, oMd_n354, oMd_e354, oMd_ra354, oMd_rn354, oMd_a365, oMd_n365, oMd_e365, oMd_ra365, oMd_rn365, oMd_a448, oMd_n448, oMd_e448, oMd_ra448, oMd_rn448, oMd_a465, oMd_n465, oMd_e465, oMd_ra465, oMd_rn465, q.2.1, k1, nI_1, g1, hc]
        exact g
  obtain ⟨ι2, G, gf, gt⟩ := H 99 0 ι0 (by omega) f0 t0
  rw [show nI 0 = 0 from rfl] at G
  have fin : ∀ v ι', rg Z (d + 10) rx_m267 102 [some (.ref b), some (.int (nI p)), some (.int y), some (.int z), some (.int (bdL (clmS (efL C) R dk y) z 99 (0 + 1) 0))] [] (rz_mk h ι2, w) = some (.inl (some (.int v)), (rz_mk h ι', w)) → rz_f Z (d + 11) 267 [.ref b, .int (nI p), .int y, .int z] (rz_mk h ι, w) = some (.inl (some (.int v)), (rz_mk h ι', w)) := by
    intro v ι' hv
    rw [e267]
    simp (decide := true) (maxDischargeDepth := 4) only [g267_0, g267_1, g267_2, g267_5, g267_6, g267_7, g267_8, g267_11, g267_14, g267_15, g267_18, g267_19, g267_20, g267_21, g267_24, g267_27, g267_28, g267_29, g267_30, g267_31, g267_32, g267_35, g267_37, g267_38, g267_39, g267_40, g267_41, g267_44, g267_47, g267_48, g267_49, g267_52, g267_55, g267_58, g267_59, g267_62, g267_63, g267_64, g267_65, g267_68, g267_71, g267_72, g267_73, g267_74, rz_k_inl, rz_k_inr, Option.toList_some, Option.toList_none, List.cons_append, List.nil_append, List.append_nil, rz_up_s, rz_u_s, rz_up_n, rz_u_n, ne_eq, not_false_eq_true, not_true_eq_false, Nat.add_assoc, Nat.reduceAdd, reduceIte, Nat.add_eq_left, Nat.left_eq_add, Nat.add_left_cancel_iff, Nat.reduceEqDiff, Nat.add_right_cancel_iff, rz_nb0, rz_nb1, rz_nbb, rz_nbi, rz_isr, rz_zle, if_true, if_false, rz_bi0, rz_bi1, Bool.not_eq_true, Bool.not_eq_false, Bool.true_eq_false, Bool.false_eq_true, rz_ix_lit, cl_lit, Nat.reduceLT, bi_t, bi_f, decide_true, decide_false, Bool.not_false, Bool.not_true, Bool.and_true, Bool.true_and, Bool.and_false, Bool.false_and, oMd_c, oMd_i0, oMd_i1, oMd_i2, oMd_i3, oMd_i4, oMd_i5, oMd_i6, oMd_i7, oMd_i8, oMd_f9, oMd_v9, oMd_f10, oMd_v10, oMd_f11, oMd_v11, oMd_f12, oMd_v12, oMd_f13, oMd_v13, oMd_f14, oMd_v14, oMd_i15, oMd_i16, oMd_f17, oMd_v17, oMd_f18, oMd_v18, oMd_f19, oMd_v19, oMd_f20, oMd_v20, oMd_f21, oMd_v21, oMd_f22, oMd_v22, oMd_f23, oMd_v23, oMd_i24, oMd_f25, oMd_v25, oMd_f26, oMd_v26, oMd_f27, oMd_v27, oMd_f28, oMd_v28, oMd_i29, oMd_i30, oMd_i31, oMd_i32, oMd_i33, oMd_i34, oMd_i35, oMd_f36, oMd_v36, oMd_f37, oMd_v37, oMd_f38, oMd_v38, oMd_i39, oMd_f40, oMd_v40, oMd_f41, oMd_v41, oMd_i42, oMd_f43, oMd_v43, oMd_i44, oMd_a1, oMd_n1, oMd_a2, oMd_n2, oMd_a3, oMd_n3, oMd_a4, oMd_n4, oMd_a363, oMd_n363, oMd_a364, oMd_n364, oMd_a446, oMd_n446, oMd_a447, oMd_n447, oMd_a469, oMd_n469, oMd_a470, oMd_n470, oMd_a471, oMd_n471, oMd_a472, oMd_n472, oMd_a473, oMd_n473, oMd_a5, oMd_n5, oMd_e5, oMd_ra5, oMd_rn5, oMd_a14, oMd_n14, oMd_e14, oMd_ra14, oMd_rn14, oMd_a23, oMd_n23, oMd_e23, oMd_ra23, oMd_rn23, oMd_a184, oMd_n184, oMd_e184, oMd_ra184, oMd_rn184, oMd_a345, oMd_n345, oMd_e345, oMd_ra345, oMd_rn345, oMd_a354, oMd_n354, oMd_e354, oMd_ra354, oMd_rn354, oMd_a365, oMd_n365, oMd_e365, oMd_ra365, oMd_rn365, oMd_a448, oMd_n448, oMd_e448, oMd_ra448, oMd_rn448, oMd_a465, oMd_n465, oMd_e465, oMd_ra465, oMd_rn465, q.2.1, q.1, e0, ip, pnT hm8 hp, c4, hr.1, hr.2, h57, md_in, b1, b2]
    exact G.trans hv
  have hh := md_has (Z := Z) (d := d + 9) (h := h) (ι := ι2) (w := w) y (nI p)
  unfold lndS
  by_cases h1 : (y >>> (nI p &&& 31)) &&& 1 = 1
  · obtain ⟨ι3, g1, g2, g3⟩ := md_wants (Z := Z) (d := d + 1) (w := w) (q.fr gf) gt (show p < 8 by omega)
    rw [← clm_bit h1] at g1
    refine ⟨ι3, fin _ _ ?_, gf.trans g2, g3⟩
    simp (decide := true) (maxDischargeDepth := 4) only [g267_0, g267_1, g267_2, g267_5, g267_6, g267_7, g267_8, g267_11, g267_14, g267_15, g267_18, g267_19, g267_20, g267_21, g267_24, g267_27, g267_28, g267_29, g267_30, g267_31, g267_32, g267_35, g267_37, g267_38, g267_39, g267_40, g267_41, g267_44, g267_47, g267_48, g267_49, g267_52, g267_55, g267_58, g267_59, g267_62, g267_63, g267_64, g267_65, g267_68, g267_71, g267_72, g267_73, g267_74, g267_78, g267_80, g267_83, g267_84, g267_85, g267_87, g267_88, g267_89, g267_92, g267_93, g267_96, g267_99, g267_102, g267_103, g267_104, g267_107, g267_110, g267_112, g267_113, g267_114, g267_117, g267_120, g267_123, g267_124, rz_k_inl, rz_k_inr, Option.toList_some, Option.toList_none, List.cons_append, List.nil_append, List.append_nil, rz_up_s, rz_u_s, rz_up_n, rz_u_n, ne_eq, not_false_eq_true, not_true_eq_false, Nat.add_assoc, Nat.reduceAdd, reduceIte, Nat.add_eq_left, Nat.left_eq_add, Nat.add_left_cancel_iff, Nat.reduceEqDiff, Nat.add_right_cancel_iff, rz_nb0, rz_nb1, rz_nbb, rz_nbi, rz_isr, rz_zle, if_true, if_false, rz_bi0, rz_bi1, Bool.not_eq_true, Bool.not_eq_false, Bool.true_eq_false, Bool.false_eq_true, rz_ix_lit, cl_lit, Nat.reduceLT, bi_t, bi_f, decide_true, decide_false, Bool.not_false, Bool.not_true, Bool.and_true, Bool.true_and, Bool.and_false, Bool.false_and, oMd_c, oMd_i0, oMd_i1, oMd_i2, oMd_i3, oMd_i4, oMd_i5, oMd_i6, oMd_i7, oMd_i8, oMd_f9, oMd_v9, oMd_f10, oMd_v10, oMd_f11, oMd_v11, oMd_f12, oMd_v12, oMd_f13, oMd_v13, oMd_f14, oMd_v14, oMd_i15, oMd_i16, oMd_f17, oMd_v17, oMd_f18, oMd_v18, oMd_f19, oMd_v19, oMd_f20, oMd_v20, oMd_f21, oMd_v21, oMd_f22, oMd_v22, oMd_f23, oMd_v23, oMd_i24, oMd_f25, oMd_v25, oMd_f26, oMd_v26, oMd_f27, oMd_v27, oMd_f28, oMd_v28, oMd_i29, oMd_i30, oMd_i31, oMd_i32, oMd_i33, oMd_i34, oMd_i35, oMd_f36, oMd_v36, oMd_f37, oMd_v37, oMd_f38, oMd_v38, oMd_i39, oMd_f40, oMd_v40, oMd_f41, oMd_v41, oMd_i42, oMd_f43, oMd_v43, oMd_i44, oMd_a1, oMd_n1, oMd_a2, oMd_n2, oMd_a3, oMd_n3, oMd_a4, oMd_n4, oMd_a363, oMd_n363, oMd_a364, oMd_n364, oMd_a446, oMd_n446, oMd_a447, oMd_n447, oMd_a469, oMd_n469, oMd_a470, oMd_n470, oMd_a471, oMd_n471, oMd_a472, oMd_n472, oMd_a473, oMd_n473, oMd_a5, oMd_n5, oMd_e5, oMd_ra5, oMd_rn5, oMd_a14, oMd_n14, oMd_e14, oMd_ra14, oMd_rn14, oMd_a23, oMd_n23, oMd_e23, oMd_ra23, oMd_rn23, oMd_a184, oMd_n184, oMd_e184, oMd_ra184, oMd_rn184, oMd_a345, oMd_n345, oMd_e345, oMd_ra345, oMd_rn345, oMd_a354, oMd_n354, oMd_e354, oMd_ra354, oMd_rn354, oMd_a365, oMd_n365, oMd_e365, oMd_ra365, oMd_rn365, oMd_a448, oMd_n448, oMd_e448, oMd_ra448, oMd_rn448, oMd_a465, oMd_n465, oMd_e465, oMd_ra465, oMd_rn465, q.2.1, hh, h1, g1, md_less]
  · obtain ⟨j, j1, j2⟩ := bdL_nI (clmS (efL C) R dk y) z 99 0
    have nn : ¬ bdL (clmS (efL C) R dk y) z 99 1 0 < 0 := by
      have j2 : bdL (clmS (efL C) R dk y) z 99 1 0 = nI j := j2
      rw [j2, nI_nn (by omega)]; exact id
    refine ⟨ι2, fin _ _ ?_, gf, gt⟩
    rw [clm_nobit h1, if_neg nn]
    simp (decide := true) (maxDischargeDepth := 4) only [g267_0, g267_1, g267_2, g267_5, g267_6, g267_7, g267_8, g267_11, g267_14, g267_15, g267_18, g267_19, g267_20, g267_21, g267_24, g267_27, g267_28, g267_29, g267_30, g267_31, g267_32, g267_35, g267_37, g267_38, g267_39, g267_40, g267_41, g267_44, g267_47, g267_48, g267_49, g267_52, g267_55, g267_58, g267_59, g267_62, g267_63, g267_64, g267_65, g267_68, g267_71, g267_72, g267_73, g267_74, g267_78, g267_80, g267_83, g267_84, g267_85, g267_87, g267_88, g267_89, g267_92, g267_93, g267_96, g267_99, g267_102, g267_103, g267_104, g267_107, g267_110, g267_112, g267_113, g267_114, g267_117, g267_120, g267_123, g267_124, rz_k_inl, rz_k_inr, Option.toList_some, Option.toList_none, List.cons_append, List.nil_append, List.append_nil, rz_up_s, rz_u_s, rz_up_n, rz_u_n, ne_eq, not_false_eq_true, not_true_eq_false, Nat.add_assoc, Nat.reduceAdd, reduceIte, Nat.add_eq_left, Nat.left_eq_add, Nat.add_left_cancel_iff, Nat.reduceEqDiff, Nat.add_right_cancel_iff, rz_nb0, rz_nb1, rz_nbb, rz_nbi, rz_isr, rz_zle, if_true, if_false, rz_bi0, rz_bi1, Bool.not_eq_true, Bool.not_eq_false, Bool.true_eq_false, Bool.false_eq_true, rz_ix_lit, cl_lit, Nat.reduceLT, bi_t, bi_f, decide_true, decide_false, Bool.not_false, Bool.not_true, Bool.and_true, Bool.true_and, Bool.and_false, Bool.false_and, oMd_c, oMd_i0, oMd_i1, oMd_i2, oMd_i3, oMd_i4, oMd_i5, oMd_i6, oMd_i7, oMd_i8, oMd_f9, oMd_v9, oMd_f10, oMd_v10, oMd_f11, oMd_v11, oMd_f12, oMd_v12, oMd_f13, oMd_v13, oMd_f14, oMd_v14, oMd_i15, oMd_i16, oMd_f17, oMd_v17, oMd_f18, oMd_v18, oMd_f19, oMd_v19, oMd_f20, oMd_v20, oMd_f21, oMd_v21, oMd_f22, oMd_v22, oMd_f23, oMd_v23, oMd_i24, oMd_f25, oMd_v25, oMd_f26, oMd_v26, oMd_f27, oMd_v27, oMd_f28, oMd_v28, oMd_i29, oMd_i30, oMd_i31, oMd_i32, oMd_i33, oMd_i34, oMd_i35, oMd_f36, oMd_v36, oMd_f37, oMd_v37, oMd_f38, oMd_v38, oMd_i39, oMd_f40, oMd_v40, oMd_f41, oMd_v41, oMd_i42, oMd_f43, oMd_v43, oMd_i44, oMd_a1, oMd_n1, oMd_a2, oMd_n2, oMd_a3, oMd_n3, oMd_a4, oMd_n4, oMd_a363, oMd_n363, oMd_a364, oMd_n364, oMd_a446, oMd_n446, oMd_a447, oMd_n447, oMd_a469, oMd_n469, oMd_a470, oMd_n470, oMd_a471, oMd_n471, oMd_a472, oMd_n472, oMd_a473, oMd_n473, oMd_a5, oMd_n5, oMd_e5, oMd_ra5, oMd_rn5, oMd_a14, oMd_n14, oMd_e14, oMd_ra14, oMd_rn14, oMd_a23, oMd_n23, oMd_e23, oMd_ra23, oMd_rn23, oMd_a184, oMd_n184, oMd_e184, oMd_ra184, oMd_rn184, oMd_a345, oMd_n345, oMd_e345, oMd_ra345, oMd_rn345, oMd_a354, oMd_n354, oMd_e354, oMd_ra354, oMd_rn354, oMd_a365, oMd_n365, oMd_e365, oMd_ra365, oMd_rn365, oMd_a448, oMd_n448, oMd_e448, oMd_ra448, oMd_rn448, oMd_a465, oMd_n465, oMd_e465, oMd_ra465, oMd_rn465, q.2.1, hh, h1]
end REF9
