/-! the reference: rings -/
def itN (f : Nat → Nat) (p : Nat) : Nat → Nat
  | 0 => p
  | t + 1 => f (itN f p t)
theorem pop_st : ∀ n, n < 256 → ∀ a, a < 8 → n.testBit a = false → popN (stN n a) = popN n + 1 := by decide +kernel
theorem pop_8 : ∀ n, n < 256 → popN n ≤ 8 := by decide +kernel
/-- what is marked after i steps: a set, and the marks -/
def mkd (f : Nat → Nat) (p i bn : Nat) (st : Nat → Int32) : Prop := bn < 256 ∧ popN bn = i ∧ (∀ a, a < 8 → (bn.testBit a = true ∧ ∃ t, t < i ∧ st a = nI t ∧ itN f p t = a ∧ ∀ t', t' < t → itN f p t' ≠ a) ∨ (bn.testBit a = false ∧ st a = -1 ∧ ∀ t, t < i → itN f p t ≠ a))
theorem mkd.step {f : Nat → Nat} {p i bn : Nat} {st : Nat → Int32} (h : mkd f p i bn st) (ha : itN f p i < 8) (hb : bn.testBit (itN f p i) = false) : mkd f p (i + 1) (stN bn (itN f p i)) (rz_u st (itN f p i) (nI i)) := by
  obtain ⟨h1, h2, h3⟩ := h
  refine ⟨stN_256 bn h1 _ ha, by rw [pop_st bn h1 _ ha hb, h2], fun a ha' => ?_⟩
  rw [stN_bit bn h1 _ ha a ha']
  by_cases e : a = itN f p i
  · left
    subst e
    refine ⟨by simp, i, by omega, rz_u_s _ _ _, rfl, fun t' ht' e => ?_⟩
    rcases h3 _ ha with ⟨z, _⟩ | ⟨_, _, z⟩
    · rw [hb] at z; exact absurd z (by decide)
    · exact z t' ht' e
  · rcases h3 a ha' with ⟨z1, t, z2, z3, z4, z5⟩ | ⟨z1, z2, z3⟩
    · left
      exact ⟨by simp [z1], t, by omega, by rw [rz_u_n e]; exact z3, z4, z5⟩
    · right
      refine ⟨by simp [z1, e], by rw [rz_u_n e]; exact z2, fun t ht et => ?_⟩
      by_cases hti : t = i
      · subst hti; exact e et.symm
      · exact z3 t (by omega) et
section REF23
variable {Z : rx_Z} {d : Nat} {h : Nat → Option rx_E} {ι : Nat → Nat → Int32} {w : Nat × Nat} {b m lv : Nat} {C : List (Nat × Nat)} {R : Nat → Int32} {dk : Option Nat}
theorem mo_ring (q : QM Z h ι b C R m dk lv) {p k : Nat} (hp : p < m) (hk : k ≤ 1) (hy : inB (nI k) 1 = true) : ansM Z (d + 9) h ι w b 245 [.int (nI p), .int (nI k)] (rngS (efL C) R m lv p k) := by
  obtain ⟨ι0, e0, q0, f0, t0⟩ := mpre q
  obtain ⟨b1, b2, b3, b4⟩ := mbad (Z := Z) (d := d + 7) (w := w) q e0 t0
  have ip := md_isPerson (Z := Z) (d := d + 6) (w := w) q0
  have hm8 := q.2.2.2.2.2.1
  have hx' := pnT hm8 hp
  have hy : (!decide (nI k < 0) && !decide ((1 : Int32) < nI k)) = true := hy
  have hr := oMd.row q.2.1
  have h56 : ι0 (b + 446) 56 = nI lv := by rw [q0.2.2.2.1]; exact q.2.2.2.2.2.2.2.2.1
  by_cases h2 : onS (nI lv) < 2
  · refine ⟨ι0, ?_, f0, t0⟩
    rw [e245, rngS, if_pos h2]
    simp (decide := true) (maxDischargeDepth := 4) only [g245_0, g245_1, g245_2, g245_5, g245_6, g245_7, g245_8, g245_11, g245_14, g245_15, g245_18, g245_19, g245_20, g245_21, g245_24, g245_27, g245_28, g245_29, g245_30, g245_31, g245_34, g245_37, g245_38, g245_41, g245_42, g245_43, g245_44, g245_47, g245_50, g245_51, g245_52, g245_53, g245_56, g245_58, g245_59, g245_62, g245_63, g245_66, g245_67, g245_68, g245_69, g245_70, g245_71, g245_73, g245_74, g245_76, g245_77, g245_81, g245_82, g245_85, g245_88, g245_90, g245_91, g245_92, g245_93, g245_94, g245_96, g245_97, g245_98, g245_101, g245_102, g245_105, g245_106, g245_109, g245_112, g245_113, g245_117, g245_118, g245_121, g245_124, g245_125, g245_126, g245_129, g245_131, g245_134, g245_136, g245_139, g245_140, g245_143, g245_145, g245_148, g245_150, g245_152, g245_153, rz_k_inl, rz_k_inr, Option.toList_some, Option.toList_none, List.cons_append, List.nil_append, List.append_nil, rz_up_s, rz_u_s, rz_up_n, rz_u_n, ne_eq, not_false_eq_true, not_true_eq_false, Nat.add_assoc, Nat.reduceAdd, reduceIte, Nat.add_eq_left, Nat.left_eq_add, Nat.add_left_cancel_iff, Nat.reduceEqDiff, Nat.add_right_cancel_iff, rz_nb0, rz_nb1, rz_nbb, rz_nbi, rz_isr, rz_zle, if_true, if_false, rz_bi0, rz_bi1, Bool.not_eq_true, Bool.not_eq_false, Bool.true_eq_false, Bool.false_eq_true, rz_ix_lit, cl_lit, Nat.reduceLT, bi_t, bi_f, decide_true, decide_false, Bool.not_false, Bool.not_true, Bool.and_true, Bool.true_and, Bool.and_false, Bool.false_and, oMd_c, oMd_i0, oMd_i1, oMd_i2, oMd_i3, oMd_i4, oMd_i5, oMd_i6, oMd_i7, oMd_i8, oMd_f9, oMd_v9, oMd_f10, oMd_v10, oMd_f11, oMd_v11, oMd_f12, oMd_v12, oMd_f13, oMd_v13, oMd_f14, oMd_v14, oMd_i15, oMd_i16, oMd_f17, oMd_v17, oMd_f18, oMd_v18, oMd_f19, oMd_v19, oMd_f20, oMd_v20, oMd_f21, oMd_v21, oMd_f22, oMd_v22, oMd_f23, oMd_v23, oMd_i24, oMd_f25, oMd_v25, oMd_f26, oMd_v26, oMd_f27, oMd_v27, oMd_f28, oMd_v28, oMd_i29, oMd_i30, oMd_i31, oMd_i32, oMd_i33, oMd_i34, oMd_i35, oMd_f36, oMd_v36, oMd_f37, oMd_v37, oMd_f38, oMd_v38, oMd_i39, oMd_f40, oMd_v40, oMd_f41, oMd_v41, oMd_i42, oMd_f43, oMd_v43, oMd_i44, oMd_a1, oMd_n1, oMd_a2, oMd_n2, oMd_a3, oMd_n3, oMd_a4, oMd_n4, oMd_a363, oMd_n363, oMd_a364, oMd_n364, oMd_a446, oMd_n446, oMd_a447, oMd_n447, oMd_a469, oMd_n469, oMd_a470, oMd_n470, oMd_a471, oMd_n471, oMd_a472, oMd_n472, oMd_a473, oMd_n473, oMd_a5, oMd_n5, oMd_e5, oMd_ra5, oMd_rn5, oMd_a14, oMd_n14, oMd_e14, oMd_ra14, oMd_rn14, oMd_a23, oMd_n23, oMd_e23, oMd_ra23, oMd_rn23, oMd_a184, oMd_n184, oMd_e184, oMd_ra184, oMd_rn184, oMd_a345, oMd_n345, oMd_e345, oMd_ra345, oMd_rn345, oMd_a354, oMd_n354, oMd_e354, oMd_ra354, oMd_rn354, oMd_a365, oMd_n365, oMd_e365, oMd_ra365, oMd_rn365, oMd_a448, oMd_n448, oMd_e448, oMd_ra448, oMd_rn448, oMd_a465, oMd_n465, oMd_e465, oMd_ra465, oMd_rn465, q.2.1, q.1, e0, ip, hx', b4, md_in, hy, hr.1, hr.2, h56, md_ones, h2]
  · have go : ∀ {ι1 : Nat → Nat → Int32} {a : Nat}, frM b ι ι1 → ι1 b 0 = 0 → a < 8 → ∃ ι', rz_f Z (d + 8) 223 [.ref b, .ref (b + 446), .int (nI a)] (rz_mk h ι1, w) = some (.inl (some (.int (nI (nxt (efL C) R m a)))), (rz_mk h ι', w)) ∧ (frM b ι ι' ∧ ι' b 0 = 0) ∧ nxt (efL C) R m a < 8 := by
      intro ι1 a hf ht ha
      have q1 := q.fr hf
      obtain ⟨ι', g1, g2⟩ := md_farthest (Z := Z) (d := d) (w := w) q1.2.1 q1.1 q1.2.2.1 hr (by unfold mdS; omega) (m := m) (by rw [q1.2.2.2.1]; exact q.2.2.2.2.1) hm8 ha
      obtain ⟨n1, n2⟩ := nxt_ok (C := efL C) q.2.2.2.2 h2 ha
      rw [q1.2.2.2.1, n2] at g1
      exact ⟨ι', g1, mans hf ht g2, n1⟩
    -- the walk back from the start
    have tail : ∀ (r i t at' : Nat) (ι1 : Nat → Nat → Int32), frM b ι ι1 → ι1 b 0 = 0 → i + r = t → at' = itN (nxt (efL C) R m) p t → (∀ t', t' < t → itN (nxt (efL C) R m) p t' ≠ at') → (∀ t', t' ≤ t → itN (nxt (efL C) R m) p t' < 8) → ∀ (x4 x5 : Int32), t ≤ 8 → ∃ ι2, rg Z (d + 8) rx_m245 115 [some (.ref b), some (.int (nI p)), some (.int (nI k)), some (.int (nI at')), some (.int x4), some (.int x5), some (.int (nI i)), some (.int (nI (itN (nxt (efL C) R m) p i)))] [] (rz_mk h ι1, w) = rg Z (d + 8) rx_m245 139 [some (.ref b), some (.int (nI p)), some (.int (nI k)), some (.int (nI at')), some (.int x4), some (.int x5), some (.int (nI t)), some (.int (nI at'))] [] (rz_mk h ι2, w) ∧ frM b ι ι2 ∧ ι2 b 0 = 0 := by
      intro r
      induction r with
      | zero =>
        intro i t at' ι1 hf ht hi ha hn h8 x4 x5 ht8
        have : i = t := by omega
        subst this
        refine ⟨ι1, ?_, hf, ht⟩
        rw [← ha, g245_115]
        simp (decide := true) (maxDischargeDepth := 4) only [g245_117, g245_118, g245_121, g245_124, g245_125, g245_126, g245_129, g245_131, g245_134, g245_136, rz_k_inl, rz_k_inr, Option.toList_some, Option.toList_none, List.cons_append, List.nil_append, List.append_nil, rz_up_s, rz_u_s, rz_up_n, rz_u_n, ne_eq, not_false_eq_true, not_true_eq_false, Nat.add_assoc, Nat.reduceAdd, reduceIte, Nat.add_eq_left, Nat.left_eq_add, Nat.add_left_cancel_iff, Nat.reduceEqDiff, Nat.add_right_cancel_iff, rz_nb0, rz_nb1, rz_nbb, rz_nbi, rz_isr, rz_zle, if_true, if_false, rz_bi0, rz_bi1, Bool.not_eq_true, Bool.not_eq_false, Bool.true_eq_false, Bool.false_eq_true, rz_ix_lit, cl_lit, Nat.reduceLT, bi_t, bi_f, decide_true, decide_false, Bool.not_false, Bool.not_true, Bool.and_true, Bool.true_and, Bool.and_false, Bool.false_and]
      | succ r ih =>
        intro i t at' ι1 hf ht hi ha hn h8 x4 x5 ht8
        have i8 := h8 i (by omega)
        have a8 : at' < 8 := by rw [ha]; exact h8 t (by omega)
        have ne : (nI (itN (nxt (efL C) R m) p i) = nI at') = False := by rw [nI_eq2 (by omega) (by omega)]; simp; exact hn i (by omega)
        obtain ⟨ι2, g1, ⟨g2, g3⟩, g4⟩ := go hf ht i8
        obtain ⟨ι3, gg, gf⟩ := ih (i + 1) t at' ι2 g2 g3 (by omega) ha hn h8 x4 x5 ht8
        refine ⟨ι3, ?_, gf⟩
        rw [g245_115]
        simp (decide := true) (maxDischargeDepth := 4) only [g245_117, g245_118, g245_121, g245_124, g245_125, g245_126, g245_129, g245_131, g245_134, g245_136, rz_k_inl, rz_k_inr, Option.toList_some, Option.toList_none, List.cons_append, List.nil_append, List.append_nil, rz_up_s, rz_u_s, rz_up_n, rz_u_n, ne_eq, not_false_eq_true, not_true_eq_false, Nat.add_assoc, Nat.reduceAdd, reduceIte, Nat.add_eq_left, Nat.left_eq_add, Nat.add_left_cancel_iff, Nat.reduceEqDiff, Nat.add_right_cancel_iff, rz_nb0, rz_nb1, rz_nbb, rz_nbi, rz_isr, rz_zle, if_true, if_false, rz_bi0, rz_bi1, Bool.not_eq_true, Bool.not_eq_false, Bool.true_eq_false, Bool.false_eq_true, rz_ix_lit, cl_lit, Nat.reduceLT, bi_t, bi_f, decide_true, decide_false, Bool.not_false, Bool.not_true, Bool.and_true, Bool.true_and, Bool.and_false, Bool.false_and, oMd_c, oMd_i0, oMd_i1, oMd_i2, oMd_i3, oMd_i4, oMd_i5, oMd_i6, oMd_i7, oMd_i8, oMd_f9, oMd_v9, oMd_f10, oMd_v10, oMd_f11, oMd_v11, oMd_f12, oMd_v12, oMd_f13, oMd_v13, oMd_f14, oMd_v14, oMd_i15, oMd_i16, oMd_f17, oMd_v17, oMd_f18, oMd_v18, oMd_f19, oMd_v19, oMd_f20, oMd_v20, oMd_f21, oMd_v21, oMd_f22, oMd_v22, oMd_f23, oMd_v23, oMd_i24, oMd_f25, oMd_v25, oMd_f26, oMd_v26, oMd_f27, oMd_v27, oMd_f28, oMd_v28, oMd_i29, oMd_i30, oMd_i31, oMd_i32, oMd_i33, oMd_i34, oMd_i35, oMd_f36, oMd_v36, oMd_f37, oMd_v37, oMd_f38, oMd_v38, oMd_i39, oMd_f40, oMd_v40, oMd_f41, oMd_v41, oMd_i42, oMd_f43, oMd_v43, oMd_i44, oMd_a1, oMd_n1, oMd_a2, oMd_n2, oMd_a3, oMd_n3, oMd_a4, oMd_n4, oMd_a363, oMd_n363, oMd_a364, oMd_n364, oMd_a446, oMd_n446, oMd_a447, oMd_n447, oMd_a469, oMd_n469, oMd_a470, oMd_n470, oMd_a471, oMd_n471, oMd_a472, oMd_n472, oMd_a473, oMd_n473, oMd_a5, oMd_n5, oMd_e5, oMd_ra5, oMd_rn5, oMd_a14, oMd_n14, oMd_e14, oMd_ra14, oMd_rn14, oMd_a23, oMd_n23, oMd_e23, oMd_ra23, oMd_rn23, oMd_a184, oMd_n184, oMd_e184, oMd_ra184, oMd_rn184, oMd_a345, oMd_n345, oMd_e345, oMd_ra345, oMd_rn345, oMd_a354, oMd_n354, oMd_e354, oMd_ra354, oMd_rn354, oMd_a365, oMd_n365, oMd_e365, oMd_ra365, oMd_rn365, oMd_a448, oMd_n448, oMd_e448, oMd_ra448, oMd_rn448, oMd_a465, oMd_n465, oMd_e465, oMd_ra465, oMd_rn465, q.2.1, ne, g1, nI_1]
        exact gg
    have walk : ∀ (n i bn : Nat) (st : Nat → Int32) (ι1 : Nat → Nat → Int32) (l7 : Option Value), i + n = 9 → frM b ι ι1 → ι1 b 0 = 0 → mkd (nxt (efL C) R m) p i bn st → (∀ t, t ≤ i → itN (nxt (efL C) R m) p t < 8) → ∃ ι2, rg Z (d + 8) rx_m245 79 [some (.ref b), some (.int (nI p)), some (.int (nI k)), some (.int (nI (itN (nxt (efL C) R m) p i))), some (.int (nI i)), some (.int (nI bn)), some (.int 0), l7] [] (rz_mk h ι1, w) = some (.inl (some (.int (if k = 0 then (rgG (nxt (efL C) R m) n i (itN (nxt (efL C) R m) p i) st).1 else (rgG (nxt (efL C) R m) n i (itN (nxt (efL C) R m) p i) st).2))), (rz_mk h ι2, w)) ∧ frM b ι ι2 ∧ ι2 b 0 = 0 := by
      intro n
      induction n with
      | zero =>
        intro i bn st ι1 l7 hi hf ht hm h8
        have := pop_8 bn hm.1
        have := hm.2.1
        omega
      | succ n ih =>
        intro i bn st ι1 l7 hi hf ht hm h8
        have i8 := h8 i (by omega)
        have hh := md_has (Z := Z) (d := d + 7) (h := h) (ι := ι1) (w := w) (nI bn) (nI (itN (nxt (efL C) R m) p i))
        have sb := sh_bit (n := bn) (i := itN (nxt (efL C) R m) p i) (by omega)
        rcases hm.2.2 _ i8 with ⟨z1, t, z2, z3, z4, z5⟩ | ⟨z1, z2, z3⟩
        · rw [if_pos z1] at sb
          rw [sb] at hh
          have st1 : ¬ st (itN (nxt (efL C) R m) p i) = -1 := by rw [z3, nI_m1 (by omega)]; exact id
          obtain ⟨ι2, gg, gf⟩ := tail t 0 t (itN (nxt (efL C) R m) p i) ι1 hf ht (by omega) z4.symm z5 (fun t' ht' => h8 t' (by omega)) (nI i) (nI bn) (by omega)
          rw [show nI 0 = 0 from rfl, show itN (nxt (efL C) R m) p 0 = p from rfl] at gg
          refine ⟨ι2, ?_, gf⟩
          rw [rgG, if_neg st1, z3, g245_79]
          have : k = 0 ∨ k = 1 := by omega
          simp (decide := true) (maxDischargeDepth := 4) only [g245_81, g245_82, g245_85, g245_88, g245_90, g245_91, g245_92, g245_93, g245_94, g245_96, g245_97, g245_98, g245_101, g245_102, g245_105, g245_106, g245_109, g245_112, g245_113, rz_k_inl, rz_k_inr, Option.toList_some, Option.toList_none, List.cons_append, List.nil_append, List.append_nil, rz_up_s, rz_u_s, rz_up_n, rz_u_n, ne_eq, not_false_eq_true, not_true_eq_false, Nat.add_assoc, Nat.reduceAdd, reduceIte, Nat.add_eq_left, Nat.left_eq_add, Nat.add_left_cancel_iff, Nat.reduceEqDiff, Nat.add_right_cancel_iff, rz_nb0, rz_nb1, rz_nbb, rz_nbi, rz_isr, rz_zle, if_true, if_false, rz_bi0, rz_bi1, Bool.not_eq_true, Bool.not_eq_false, Bool.true_eq_false, Bool.false_eq_true, rz_ix_lit, cl_lit, Nat.reduceLT, bi_t, bi_f, decide_true, decide_false, Bool.not_false, Bool.not_true, Bool.and_true, Bool.true_and, Bool.and_false, Bool.false_and, oMd_c, oMd_i0, oMd_i1, oMd_i2, oMd_i3, oMd_i4, oMd_i5, oMd_i6, oMd_i7, oMd_i8, oMd_f9, oMd_v9, oMd_f10, oMd_v10, oMd_f11, oMd_v11, oMd_f12, oMd_v12, oMd_f13, oMd_v13, oMd_f14, oMd_v14, oMd_i15, oMd_i16, oMd_f17, oMd_v17, oMd_f18, oMd_v18, oMd_f19, oMd_v19, oMd_f20, oMd_v20, oMd_f21, oMd_v21, oMd_f22, oMd_v22, oMd_f23, oMd_v23, oMd_i24, oMd_f25, oMd_v25, oMd_f26, oMd_v26, oMd_f27, oMd_v27, oMd_f28, oMd_v28, oMd_i29, oMd_i30, oMd_i31, oMd_i32, oMd_i33, oMd_i34, oMd_i35, oMd_f36, oMd_v36, oMd_f37, oMd_v37, oMd_f38, oMd_v38, oMd_i39, oMd_f40, oMd_v40, oMd_f41, oMd_v41, oMd_i42, oMd_f43, oMd_v43, oMd_i44, oMd_a1, oMd_n1, oMd_a2, oMd_n2, oMd_a3, oMd_n3, oMd_a4, oMd_n4, oMd_a363, oMd_n363, oMd_a364, oMd_n364, oMd_a446, oMd_n446, oMd_a447, oMd_n447, oMd_a469, oMd_n469, oMd_a470, oMd_n470, oMd_a471, oMd_n471, oMd_a472, oMd_n472, oMd_a473, oMd_n473, oMd_a5, oMd_n5, oMd_e5, oMd_ra5, oMd_rn5, oMd_a14, oMd_n14, oMd_e14, oMd_ra14, oMd_rn14, oMd_a23, oMd_n23, oMd_e23, oMd_ra23, oMd_rn23, oMd_a184, oMd_n184, oMd_e184, oMd_ra184, oMd_rn184, oMd_a345, oMd_n345, oMd_e345, oMd_ra345, oMd_rn345, oMd_a354, oMd_n354, oMd_e354, oMd_ra354, oMd_rn354, oMd_a365, oMd_n365, oMd_e365, oMd_ra365, oMd_rn365, oMd_a448, oMd_n448, oMd_e448, oMd_ra448, oMd_rn448, oMd_a465, oMd_n465, oMd_e465, oMd_ra465, oMd_rn465, q.2.1, hh]
          rw [gg]
          rcases this with rfl | rfl
          · simp (decide := true) (maxDischargeDepth := 4) only [g245_0, g245_1, g245_2, g245_5, g245_6, g245_7, g245_8, g245_11, g245_14, g245_15, g245_18, g245_19, g245_20, g245_21, g245_24, g245_27, g245_28, g245_29, g245_30, g245_31, g245_34, g245_37, g245_38, g245_41, g245_42, g245_43, g245_44, g245_47, g245_50, g245_51, g245_52, g245_53, g245_56, g245_58, g245_59, g245_62, g245_63, g245_66, g245_67, g245_68, g245_69, g245_70, g245_71, g245_73, g245_74, g245_76, g245_77, g245_81, g245_82, g245_85, g245_88, g245_90, g245_91, g245_92, g245_93, g245_94, g245_96, g245_97, g245_98, g245_101, g245_102, g245_105, g245_106, g245_109, g245_112, g245_113, g245_117, g245_118, g245_121, g245_124, g245_125, g245_126, g245_129, g245_131, g245_134, g245_136, g245_139, g245_140, g245_143, g245_145, g245_148, g245_150, g245_152, g245_153, rz_k_inl, rz_k_inr, Option.toList_some, Option.toList_none, List.cons_append, List.nil_append, List.append_nil, rz_up_s, rz_u_s, rz_up_n, rz_u_n, ne_eq, not_false_eq_true, not_true_eq_false, Nat.add_assoc, Nat.reduceAdd, reduceIte, Nat.add_eq_left, Nat.left_eq_add, Nat.add_left_cancel_iff, Nat.reduceEqDiff, Nat.add_right_cancel_iff, rz_nb0, rz_nb1, rz_nbb, rz_nbi, rz_isr, rz_zle, if_true, if_false, rz_bi0, rz_bi1, Bool.not_eq_true, Bool.not_eq_false, Bool.true_eq_false, Bool.false_eq_true, rz_ix_lit, cl_lit, Nat.reduceLT, bi_t, bi_f, decide_true, decide_false, Bool.not_false, Bool.not_true, Bool.and_true, Bool.true_and, Bool.and_false, Bool.false_and, show nI 0 = 0 from rfl]
          · simp (decide := true) (maxDischargeDepth := 4) only [g245_0, g245_1, g245_2, g245_5, g245_6, g245_7, g245_8, g245_11, g245_14, g245_15, g245_18, g245_19, g245_20, g245_21, g245_24, g245_27, g245_28, g245_29, g245_30, g245_31, g245_34, g245_37, g245_38, g245_41, g245_42, g245_43, g245_44, g245_47, g245_50, g245_51, g245_52, g245_53, g245_56, g245_58, g245_59, g245_62, g245_63, g245_66, g245_67, g245_68, g245_69, g245_70, g245_71, g245_73, g245_74, g245_76, g245_77, g245_81, g245_82, g245_85, g245_88, g245_90, g245_91, g245_92, g245_93, g245_94, g245_96, g245_97, g245_98, g245_101, g245_102, g245_105, g245_106, g245_109, g245_112, g245_113, g245_117, g245_118, g245_121, g245_124, g245_125, g245_126, g245_129, g245_131, g245_134, g245_136, g245_139, g245_140, g245_143, g245_145, g245_148, g245_150, g245_152, g245_153, rz_k_inl, rz_k_inr, Option.toList_some, Option.toList_none, List.cons_append, List.nil_append, List.append_nil, rz_up_s, rz_u_s, rz_up_n, rz_u_n, ne_eq, not_false_eq_true, not_true_eq_false, Nat.add_assoc, Nat.reduceAdd, reduceIte, Nat.add_eq_left, Nat.left_eq_add, Nat.add_left_cancel_iff, Nat.reduceEqDiff, Nat.add_right_cancel_iff, rz_nb0, rz_nb1, rz_nbb, rz_nbi, rz_isr, rz_zle, if_true, if_false, rz_bi0, rz_bi1, Bool.not_eq_true, Bool.not_eq_false, Bool.true_eq_false, Bool.false_eq_true, rz_ix_lit, cl_lit, Nat.reduceLT, bi_t, bi_f, decide_true, decide_false, Bool.not_false, Bool.not_true, Bool.and_true, Bool.true_and, Bool.and_false, Bool.false_and, show nI 1 = 1 from rfl]
        · rw [if_neg (by rw [z1]; decide)] at sb
          rw [sb] at hh
          obtain ⟨ι2, g1, ⟨g2, g3⟩, g4⟩ := go hf ht i8
          obtain ⟨ι3, gg, gf⟩ := ih (i + 1) (stN bn (itN (nxt (efL C) R m) p i)) (rz_u st (itN (nxt (efL C) R m) p i) (nI i)) ι2 l7 (by omega) g2 g3 (hm.step i8 z1) (fun t ht' => by
            by_cases e : t = i + 1
            · subst e; exact g4
            · exact h8 t (by omega))
          refine ⟨ι3, ?_, gf⟩
          have o1 := stN_I bn hm.1 _ i8
          rw [rgG, if_pos z2, g245_79]
          simp (decide := true) (maxDischargeDepth := 4) only [g245_81, g245_82, g245_85, g245_88, g245_90, g245_91, g245_92, g245_93, g245_94, g245_96, g245_97, g245_98, g245_101, g245_102, g245_105, g245_106, g245_109, rz_k_inl, rz_k_inr, Option.toList_some, Option.toList_none, List.cons_append, List.nil_append, List.append_nil, rz_up_s, rz_u_s, rz_up_n, rz_u_n, ne_eq, not_false_eq_true, not_true_eq_false, Nat.add_assoc, Nat.reduceAdd, reduceIte, Nat.add_eq_left, Nat.left_eq_add, Nat.add_left_cancel_iff, Nat.reduceEqDiff, Nat.add_right_cancel_iff, rz_nb0, rz_nb1, rz_nbb, rz_nbi, rz_isr, rz_zle, if_true, if_false, rz_bi0, rz_bi1, Bool.not_eq_true, Bool.not_eq_false, Bool.true_eq_false, Bool.false_eq_true, rz_ix_lit, cl_lit, Nat.reduceLT, bi_t, bi_f, decide_true, decide_false, Bool.not_false, Bool.not_true, Bool.and_true, Bool.true_and, Bool.and_false, Bool.false_and, oMd_c, oMd_i0, oMd_i1, oMd_i2, oMd_i3, oMd_i4, oMd_i5, oMd_i6, oMd_i7, oMd_i8, oMd_f9, oMd_v9, oMd_f10, oMd_v10, oMd_f11, oMd_v11, oMd_f12, oMd_v12, oMd_f13, oMd_v13, oMd_f14, oMd_v14, oMd_i15, oMd_i16, oMd_f17, oMd_v17, oMd_f18, oMd_v18, oMd_f19, oMd_v19, oMd_f20, oMd_v20, oMd_f21, oMd_v21, oMd_f22, oMd_v22, oMd_f23, oMd_v23, oMd_i24, oMd_f25, oMd_v25, oMd_f26, oMd_v26, oMd_f27, oMd_v27, oMd_f28, oMd_v28, oMd_i29, oMd_i30, oMd_i31, oMd_i32, oMd_i33, oMd_i34, oMd_i35, oMd_f36, oMd_v36, oMd_f37, oMd_v37, oMd_f38, oMd_v38, oMd_i39, oMd_f40, oMd_v40, oMd_f41, oMd_v41, oMd_i42, oMd_f43, oMd_v43, oMd_i44, oMd_a1, oMd_n1, oMd_a2, oMd_n2, oMd_a3, oMd_n3, oMd_a4, oMd_n4, oMd_a363, oMd_n363, oMd_a364, oMd_n364, oMd_a446, oMd_n446, oMd_a447, oMd_n447, oMd_a469, oMd_n469, oMd_a470, oMd_n470, oMd_a471, oMd_n471, oMd_a472, oMd_n472, oMd_a473, oMd_n473, oMd_a5, oMd_n5, oMd_e5, oMd_ra5, oMd_rn5, oMd_a14, oMd_n14, oMd_e14, oMd_ra14, oMd_rn14, oMd_a23, oMd_n23, oMd_e23, oMd_ra23, oMd_rn23, oMd_a184, oMd_n184, oMd_e184, oMd_ra184, oMd_rn184, oMd_a345, oMd_n345, oMd_e345, oMd_ra345, oMd_rn345, oMd_a354, oMd_n354, oMd_e354, oMd_ra354, oMd_rn354, oMd_a365, oMd_n365, oMd_e365, oMd_ra365, oMd_rn365, oMd_a448, oMd_n448, oMd_e448, oMd_ra448, oMd_rn448, oMd_a465, oMd_n465, oMd_e465, oMd_ra465, oMd_rn465, q.2.1, hh, o1, g1, nI_1]
          exact gg
    obtain ⟨ι2, gg, gf⟩ := walk 9 0 0 (fun _ => -1) ι0 none (by omega) f0 t0 ⟨by omega, rfl, fun a ha => Or.inr ⟨by simp, rfl, fun t ht => by omega⟩⟩ (fun t ht => by
      have : t = 0 := by omega
      subst this
      show p < 8
      omega)
    rw [show nI 0 = 0 from rfl, show itN (nxt (efL C) R m) p 0 = p from rfl] at gg
    refine ⟨ι2, ?_, gf⟩
    rw [e245, rngS, if_neg h2]
    simp (decide := true) (maxDischargeDepth := 4) only [g245_0, g245_1, g245_2, g245_5, g245_6, g245_7, g245_8, g245_11, g245_14, g245_15, g245_18, g245_19, g245_20, g245_21, g245_24, g245_27, g245_28, g245_29, g245_30, g245_31, g245_34, g245_37, g245_38, g245_41, g245_42, g245_43, g245_44, g245_47, g245_50, g245_51, g245_52, g245_53, g245_56, g245_58, g245_59, g245_62, g245_63, g245_66, g245_67, g245_68, g245_69, g245_70, g245_71, g245_73, g245_74, g245_76, g245_77, g245_81, g245_82, g245_85, g245_88, g245_90, g245_91, g245_92, g245_93, g245_94, g245_96, g245_97, g245_98, g245_101, g245_102, g245_105, g245_106, g245_109, g245_112, g245_113, g245_117, g245_118, g245_121, g245_124, g245_125, g245_126, g245_129, g245_131, g245_134, g245_136, g245_139, g245_140, g245_143, g245_145, g245_148, g245_150, g245_152, g245_153, rz_k_inl, rz_k_inr, Option.toList_some, Option.toList_none, List.cons_append, List.nil_append, List.append_nil, rz_up_s, rz_u_s, rz_up_n, rz_u_n, ne_eq, not_false_eq_true, not_true_eq_false, Nat.add_assoc, Nat.reduceAdd, reduceIte, Nat.add_eq_left, Nat.left_eq_add, Nat.add_left_cancel_iff, Nat.reduceEqDiff, Nat.add_right_cancel_iff, rz_nb0, rz_nb1, rz_nbb, rz_nbi, rz_isr, rz_zle, if_true, if_false, rz_bi0, rz_bi1, Bool.not_eq_true, Bool.not_eq_false, Bool.true_eq_false, Bool.false_eq_true, rz_ix_lit, cl_lit, Nat.reduceLT, bi_t, bi_f, decide_true, decide_false, Bool.not_false, Bool.not_true, Bool.and_true, Bool.true_and, Bool.and_false, Bool.false_and, oMd_c, oMd_i0, oMd_i1, oMd_i2, oMd_i3, oMd_i4, oMd_i5, oMd_i6, oMd_i7, oMd_i8, oMd_f9, oMd_v9, oMd_f10, oMd_v10, oMd_f11, oMd_v11, oMd_f12, oMd_v12, oMd_f13, oMd_v13, oMd_f14, oMd_v14, oMd_i15, oMd_i16, oMd_f17, oMd_v17, oMd_f18, oMd_v18, oMd_f19, oMd_v19, oMd_f20, oMd_v20, oMd_f21, oMd_v21, oMd_f22, oMd_v22, oMd_f23, oMd_v23, oMd_i24, oMd_f25, oMd_v25, oMd_f26, oMd_v26, oMd_f27, oMd_v27, oMd_f28, oMd_v28, oMd_i29, oMd_i30, oMd_i31, oMd_i32, oMd_i33, oMd_i34, oMd_i35, oMd_f36, oMd_v36, oMd_f37, oMd_v37, oMd_f38, oMd_v38, oMd_i39, oMd_f40, oMd_v40, oMd_f41, oMd_v41, oMd_i42, oMd_f43, oMd_v43, oMd_i44, oMd_a1, oMd_n1, oMd_a2, oMd_n2, oMd_a3, oMd_n3, oMd_a4, oMd_n4, oMd_a363, oMd_n363, oMd_a364, oMd_n364, oMd_a446, oMd_n446, oMd_a447, oMd_n447, oMd_a469, oMd_n469, oMd_a470, oMd_n470, oMd_a471, oMd_n471, oMd_a472, oMd_n472, oMd_a473, oMd_n473, oMd_a5, oMd_n5, oMd_e5, oMd_ra5, oMd_rn5, oMd_a14, oMd_n14, oMd_e14, oMd_ra14, oMd_rn14, oMd_a23, oMd_n23, oMd_e23, oMd_ra23, oMd_rn23, oMd_a184, oMd_n184, oMd_e184, oMd_ra184, oMd_rn184, oMd_a345, oMd_n345, oMd_e345, oMd_ra345, oMd_rn345, oMd_a354, oMd_n354, oMd_e354, oMd_ra354, oMd_rn354, oMd_a365, oMd_n365, oMd_e365, oMd_ra365, oMd_rn365, oMd_a448, oMd_n448, oMd_e448, oMd_ra448, oMd_rn448, oMd_a465, oMd_n465, oMd_e465, oMd_ra465, oMd_rn465, q.2.1, q.1, e0, ip, hx', b4, md_in, hy, hr.1, hr.2, h56, md_ones, h2]
    exact gg
end REF23
