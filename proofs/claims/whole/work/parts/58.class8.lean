/-! FarthestHeir: rings -/
/-- the next one -/
def nxt (C : List (Nat × Nat)) (R : Nat → Int32) (m p : Nat) : Nat := (furS C R p m).1.toNatClampNeg
/-- goes round, marking: TAIL, ROUND -/
def rgG (f : Nat → Nat) : Nat → Nat → Nat → (Nat → Int32) → Int32 × Int32
  | 0, _, _, _ => (0, 0)
  | n + 1, i, a, st => if st a = -1 then rgG f n (i + 1) (f a) (rz_u st a (nI i)) else (st a, nI i - st a)
theorem two_lv : ∀ n, n < 256 → ∀ p, p < 8 → ¬ onS (nI n) < 2 → ∃ q, q < 8 ∧ q ≠ p ∧ n.testBit q = true := by decide +kernel
theorem furS_12 (C : List (Nat × Nat)) (R : Nat → Int32) (p : Nat) : ∀ j, j ≤ 8 → (furS C R p j).1 = -1 → (furS C R p j).2 = -1
  | 0, _, _ => rfl
  | j + 1, h8, h => by
    unfold furS at h ⊢
    split at h
    · rw [nI_m1 (by omega)] at h; exact h.elim
    · rename_i hc
      rw [if_neg hc]
      exact furS_12 C R p j (by omega) h
theorem furS_q (C : List (Nat × Nat)) (R : Nat → Int32) (p : Nat) {q : Nat} (hq : rLv R q = true) (hqp : q ≠ p) : ∀ k, k ≤ 8 → q < k → (furS C R p k).1 ≠ -1
  | 0, _, h => by omega
  | k + 1, h8, h => by
    unfold furS
    split
    · intro z; rw [nI_m1 (by omega)] at z; exact z
    · rename_i hn
      by_cases e : q = k
      · subst e
        intro z
        have h2 := furS_12 C R p q (by omega) z
        obtain ⟨j, hj, ej⟩ := farB_nI C R q p
        exact hn ⟨hq, hqp, by rw [h2, ej, nI_m1l (by omega)]; trivial⟩
      · exact furS_q C R p hq hqp k (by omega) (by omega)
theorem nxt_ok {C : List (Nat × Nat)} {R : Nat → Int32} {m lv : Nat} {dk : Option Nat} (o : okR R m dk lv) (h2 : ¬ onS (nI lv) < 2) {p : Nat} (hp : p < 8) : nxt C R m p < 8 ∧ (furS C R p m).1 = nI (nxt C R m p) := by
  obtain ⟨q, hq, hqp, hb⟩ := two_lv lv o.l256 p hp h2
  have hl : rLv R q = true := by rw [o.lvb (by omega)]; exact hb
  have hn := furS_q C R p hl hqp m o.2.1 (o.lvm hq hl)
  rcases furS_1 C R p m o.2.1 with e | ⟨n, h1, -, -, e⟩
  · exact absurd e hn
  · have hm := o.2.1
    have : nxt C R m p = n := by unfold nxt; rw [e, nI_cl (by omega)]
    rw [this]
    exact ⟨by omega, e⟩
section CLASS8
variable {Z : rx_Z} {d : Nat} {h : Nat → Option rx_E} {ι : Nat → Nat → Int32} {w : Nat × Nat} {c l r m lv : Nat} {C : List (Nat × Nat)} {R : Nat → Int32} {dk : Option Nat}
theorem ct_ringN (q : QC Z h ι c l r C R m dk lv) (h2 : onS (nI lv) < 2) (x y : Int32) : rz_f Z (d + 3) 11 [.ref (c + 16), .ref r, .ref l, .int x, .int y] (rz_mk h ι, w) = some (.inl (some (.int 0)), (rz_mk h ι, w)) := by
  obtain ⟨q1, ⟨pv, q2⟩, q3, q4, q5, q6, q7, q8, q9, q10, q11, q12, q13, q14⟩ := q
  have li := rm_living (Z := Z) (d := d) (w := w) (ι := ι) q6 (by rw [q13]; exact q14.2.2.2.2.1) q14.l256
  rw [e11]
  simp (decide := true) (maxDischargeDepth := 4) only [g11_0, g11_1, g11_4, g11_5, g11_8, g11_9, g11_10, g11_11, g11_15, g11_16, g11_19, g11_20, g11_23, g11_24, g11_27, g11_29, g11_30, g11_31, g11_34, g11_37, g11_38, g11_40, g11_41, g11_45, g11_47, g11_50, g11_52, g11_55, g11_57, g11_58, g11_61, g11_62, g11_65, g11_66, g11_69, g11_71, g11_72, g11_73, g11_76, g11_78, g11_81, g11_82, g11_85, g11_87, g11_88, g11_91, g11_93, g11_94, g11_97, g11_99, g11_100, g11_101, g11_102, g11_103, g11_106, g11_108, g11_110, g11_111, g11_112, g11_113, g11_115, g11_118, g11_120, g11_123, g11_126, g11_127, rz_k_inl, rz_k_inr, Option.toList_some, Option.toList_none, List.cons_append, List.nil_append, List.append_nil, rz_up_s, rz_u_s, rz_up_n, rz_u_n, ne_eq, not_false_eq_true, not_true_eq_false, Nat.add_assoc, Nat.reduceAdd, reduceIte, Nat.add_eq_left, Nat.left_eq_add, Nat.add_left_cancel_iff, Nat.reduceEqDiff, Nat.add_right_cancel_iff, rz_nb0, rz_nb1, rz_nbb, rz_nbi, rz_isr, rz_zle, if_true, if_false, rz_bi0, rz_bi1, Bool.not_eq_true, Bool.not_eq_false, Bool.true_eq_false, Bool.false_eq_true, rz_ix_lit, cl_lit, Nat.reduceLT, bi_t, bi_f, decide_true, decide_false, Bool.not_false, Bool.not_true, Bool.and_true, Bool.true_and, Bool.and_false, Bool.false_and, oRl_c, oRl_f0, oRl_v0, oRl_f1, oRl_v1, oRl_f2, oRl_v2, oRl_i3, oRl_i4, oRl_i5, oRl_i6, oRl_i7, oRl_i8, oRl_a1, oRl_n1, oRl_a2, oRl_n2, oRl_a3, oRl_n3, q6, li, h2]
def mn8 : Nat → (Nat → Int32) → (Nat → Int32)
  | 0, f => f
  | k + 1, f => rz_u (mn8 k f) k (-1)
theorem mn8_at (f : Nat → Int32) : ∀ k i, i < k → mn8 k f i = -1
  | 0, i, h => by omega
  | k + 1, i, h => by
    unfold mn8
    by_cases e : i = k
    · subst e; rw [rz_u_s]
    · rw [rz_u_n e]; exact mn8_at f k i (by omega)
theorem ring_loop (q : QC Z h ι c l r C R m dk lv) (h2 : ¬ onS (nI lv) < 2) {k : Nat} (hk : k ≤ 1) (x0 : Int32) : ∀ (n i a : Nat) (st : Nat → Int32) (ι1 : Nat → Nat → Int32), i + n = 9 → a < 8 → fr (scC c) ι ι1 → ι1 (c + 20) = st → ∃ ι', rg Z (d + 4) rx_m11 43 [some (.ref (c + 16)), some (.ref r), some (.ref l), some (.int x0), some (.int (nI k)), some (.int (nI a)), some (.int (nI i))] [] (rz_mk h ι1, w) = some (.inl (some (.int (if k = 0 then (rgG (nxt C R m) n i a st).1 else (rgG (nxt C R m) n i a st).2))), (rz_mk h ι', w)) ∧ fr (scC c) ι ι' := by
  intro n
  induction n with
  | zero =>
    intro i a st ι1 hi ha hf hs
    obtain ⟨q1, ⟨pv, q2⟩, q3, q4, q5, q6, q7, q8, q9, q10, q11, q12, q13, q14⟩ := q.fr hf
    have e9 : i = 9 := by omega
    subst e9
    refine ⟨ι1, ?_, hf⟩
    rw [g11_43]
    simp (decide := true) (maxDischargeDepth := 4) only [g11_0, g11_1, g11_4, g11_5, g11_8, g11_9, g11_10, g11_11, g11_15, g11_16, g11_19, g11_20, g11_23, g11_24, g11_27, g11_29, g11_30, g11_31, g11_34, g11_37, g11_38, g11_40, g11_41, g11_45, g11_47, g11_50, g11_52, g11_55, g11_57, g11_58, g11_61, g11_62, g11_65, g11_66, g11_69, g11_71, g11_72, g11_73, g11_76, g11_78, g11_81, g11_82, g11_85, g11_87, g11_88, g11_91, g11_93, g11_94, g11_97, g11_99, g11_100, g11_101, g11_102, g11_103, g11_106, g11_108, g11_110, g11_111, g11_112, g11_113, g11_115, g11_118, g11_120, g11_123, g11_126, g11_127, rz_k_inl, rz_k_inr, Option.toList_some, Option.toList_none, List.cons_append, List.nil_append, List.append_nil, rz_up_s, rz_u_s, rz_up_n, rz_u_n, ne_eq, not_false_eq_true, not_true_eq_false, Nat.add_assoc, Nat.reduceAdd, reduceIte, Nat.add_eq_left, Nat.left_eq_add, Nat.add_left_cancel_iff, Nat.reduceEqDiff, Nat.add_right_cancel_iff, rz_nb0, rz_nb1, rz_nbb, rz_nbi, rz_isr, rz_zle, if_true, if_false, rz_bi0, rz_bi1, Bool.not_eq_true, Bool.not_eq_false, Bool.true_eq_false, Bool.false_eq_true, rz_ix_lit, cl_lit, Nat.reduceLT, bi_t, bi_f, decide_true, decide_false, Bool.not_false, Bool.not_true, Bool.and_true, Bool.true_and, Bool.and_false, Bool.false_and, show ((8 : Int32) < nI 9) = True by decide]
    simp [rgG]
  | succ n ih =>
    intro i a st ι1 hi ha hf hs
    have qf := q.fr hf
    obtain ⟨q1, ⟨pv, q2⟩, q3, q4, q5, q6, q7, q8, q9, q10, q11, q12, q13, q14⟩ := q.fr hf
    have c1 : ((8 : Int32) < nI i) = False := by rw [nI_Llt (by omega) (by decide)]; simp; omega
    have c2 : (nI a < Int32.ofNat 8) = True := by
      show (nI a < nI 8) = True
      rw [nI_lt2 (by omega) (by omega)]; simp [ha]
    have i1 : rz_ix (nI a) 8 := rz_ix_nat ha (by omega)
    have hs' : ι1 (c + 20) = st := hs
    rw [g11_43]
    by_cases hst : st a = -1
    · obtain ⟨hn8, hne⟩ := nxt_ok (C := C) q14 h2 ha
      have sc20 : scC c (c + 20) := by unfold scC; omega
      have f2 := hf.up (k := a) (v := nI i) sc20
      obtain ⟨u1, u2, u3, u4, u5, u6, u7, u8, u9, u10, u11, u12, u13, u14⟩ := q.fr f2
      obtain ⟨ι2, g1, g2⟩ := lw_furthest (Z := Z) (d := d) (w := w) (f := some a) u5 (by omega) u6 (by omega) u12 (by rw [u13]; exact u14.1) u14.2.1 (fun q hq => by cases hq; exact ha)
      rw [u13] at g1
      have g1 : rz_f Z (d + 4) 51 [.ref l, .ref r, .int (nI a)] (rz_mk h (rz_up ι1 (c + 20) a (nI i)), w) = some (.inl (some (.int (nI (nxt C R m a)))), (rz_mk h ι2, w)) := by
        rw [← hne]; exact g1
      have hs2 : ι2 (c + 20) = rz_u st a (nI i) := by
        rw [g2 (c + 20) (by unfold lwS; omega), rz_up_s, hs]
      obtain ⟨ι', k1, k2⟩ := ih (i + 1) (nxt C R m a) (rz_u st a (nI i)) ι2 (by omega) hn8 (f2.trans (frLaw q3 g2)) hs2
      refine ⟨ι', ?_, k2⟩
      simp (decide := true) (maxDischargeDepth := 4) only [g11_0, g11_1, g11_4, g11_5, g11_8, g11_9, g11_10, g11_11, g11_15, g11_16, g11_19, g11_20, g11_23, g11_24, g11_27, g11_29, g11_30, g11_31, g11_34, g11_37, g11_38, g11_40, g11_41, g11_45, g11_47, g11_50, g11_52, g11_55, g11_57, g11_58, g11_61, g11_62, g11_65, g11_66, g11_69, g11_71, g11_72, g11_73, g11_76, g11_78, g11_81, g11_82, g11_85, g11_87, g11_88, g11_91, g11_93, g11_94, g11_97, g11_99, g11_100, g11_101, g11_102, g11_103, g11_106, g11_108, g11_110, g11_111, g11_112, g11_113, g11_115, g11_118, g11_120, g11_123, g11_126, g11_127, rz_k_inl, rz_k_inr, Option.toList_some, Option.toList_none, List.cons_append, List.nil_append, List.append_nil, rz_up_s, rz_u_s, rz_up_n, rz_u_n, ne_eq, not_false_eq_true, not_true_eq_false, Nat.add_assoc, Nat.reduceAdd, reduceIte, Nat.add_eq_left, Nat.left_eq_add, Nat.add_left_cancel_iff, Nat.reduceEqDiff, Nat.add_right_cancel_iff, rz_nb0, rz_nb1, rz_nbb, rz_nbi, rz_isr, rz_zle, if_true, if_false, rz_bi0, rz_bi1, Bool.not_eq_true, Bool.not_eq_false, Bool.true_eq_false, Bool.false_eq_true, rz_ix_lit, cl_lit, Nat.reduceLT, bi_t, bi_f, decide_true, decide_false, Bool.not_false, Bool.not_true, Bool.and_true, Bool.true_and, Bool.and_false, Bool.false_and, oCt_c, oCt_f0, oCt_v0, oCt_f1, oCt_v1, oCt_f2, oCt_v2, oCt_f3, oCt_v3, oCt_f4, oCt_v4, oCt_f5, oCt_v5, oCt_a1, oCt_n1, oCt_a2, oCt_n2, oCt_a3, oCt_n3, oCt_a4, oCt_n4, oCt_a5, oCt_n5, oCt_a6, oCt_n6, oRl_c, oRl_f0, oRl_v0, oRl_f1, oRl_v1, oRl_f2, oRl_v2, oRl_i3, oRl_i4, oRl_i5, oRl_i6, oRl_i7, oRl_i8, oRl_a1, oRl_n1, oRl_a2, oRl_n2, oRl_a3, oRl_n3, oLw_c, oLw_f0, oLw_v0, oLw_f1, oLw_v1, oLw_f2, oLw_v2, oLw_i3, oLw_a1, oLw_n1, oLw_a2, oLw_n2, oLw_a3, oLw_n3, q1, q5, q6, q8, c1, c2, nI_nn (show a < 2147483648 by omega), i1, nI_cl (show a < 2147483648 by omega), hs', hst, g1, nI_1]
      rw [k1, rgG, if_pos hst]
    · refine ⟨ι1, ?_, hf⟩
      have : k = 0 ∨ k = 1 := by omega
      rcases this with rfl | rfl
      · simp (decide := true) (maxDischargeDepth := 4) only [g11_0, g11_1, g11_4, g11_5, g11_8, g11_9, g11_10, g11_11, g11_15, g11_16, g11_19, g11_20, g11_23, g11_24, g11_27, g11_29, g11_30, g11_31, g11_34, g11_37, g11_38, g11_40, g11_41, g11_45, g11_47, g11_50, g11_52, g11_55, g11_57, g11_58, g11_61, g11_62, g11_65, g11_66, g11_69, g11_71, g11_72, g11_73, g11_76, g11_78, g11_81, g11_82, g11_85, g11_87, g11_88, g11_91, g11_93, g11_94, g11_97, g11_99, g11_100, g11_101, g11_102, g11_103, g11_106, g11_108, g11_110, g11_111, g11_112, g11_113, g11_115, g11_118, g11_120, g11_123, g11_126, g11_127, rz_k_inl, rz_k_inr, Option.toList_some, Option.toList_none, List.cons_append, List.nil_append, List.append_nil, rz_up_s, rz_u_s, rz_up_n, rz_u_n, ne_eq, not_false_eq_true, not_true_eq_false, Nat.add_assoc, Nat.reduceAdd, reduceIte, Nat.add_eq_left, Nat.left_eq_add, Nat.add_left_cancel_iff, Nat.reduceEqDiff, Nat.add_right_cancel_iff, rz_nb0, rz_nb1, rz_nbb, rz_nbi, rz_isr, rz_zle, if_true, if_false, rz_bi0, rz_bi1, Bool.not_eq_true, Bool.not_eq_false, Bool.true_eq_false, Bool.false_eq_true, rz_ix_lit, cl_lit, Nat.reduceLT, bi_t, bi_f, decide_true, decide_false, Bool.not_false, Bool.not_true, Bool.and_true, Bool.true_and, Bool.and_false, Bool.false_and, oCt_c, oCt_f0, oCt_v0, oCt_f1, oCt_v1, oCt_f2, oCt_v2, oCt_f3, oCt_v3, oCt_f4, oCt_v4, oCt_f5, oCt_v5, oCt_a1, oCt_n1, oCt_a2, oCt_n2, oCt_a3, oCt_n3, oCt_a4, oCt_n4, oCt_a5, oCt_n5, oCt_a6, oCt_n6, q1, q8, c1, c2, nI_nn (show a < 2147483648 by omega), i1, nI_cl (show a < 2147483648 by omega), hs', hst, show nI 0 = 0 from rfl]
        rw [rgG, if_neg hst]
      · simp (decide := true) (maxDischargeDepth := 4) only [g11_0, g11_1, g11_4, g11_5, g11_8, g11_9, g11_10, g11_11, g11_15, g11_16, g11_19, g11_20, g11_23, g11_24, g11_27, g11_29, g11_30, g11_31, g11_34, g11_37, g11_38, g11_40, g11_41, g11_45, g11_47, g11_50, g11_52, g11_55, g11_57, g11_58, g11_61, g11_62, g11_65, g11_66, g11_69, g11_71, g11_72, g11_73, g11_76, g11_78, g11_81, g11_82, g11_85, g11_87, g11_88, g11_91, g11_93, g11_94, g11_97, g11_99, g11_100, g11_101, g11_102, g11_103, g11_106, g11_108, g11_110, g11_111, g11_112, g11_113, g11_115, g11_118, g11_120, g11_123, g11_126, g11_127, rz_k_inl, rz_k_inr, Option.toList_some, Option.toList_none, List.cons_append, List.nil_append, List.append_nil, rz_up_s, rz_u_s, rz_up_n, rz_u_n, ne_eq, not_false_eq_true, not_true_eq_false, Nat.add_assoc, Nat.reduceAdd, reduceIte, Nat.add_eq_left, Nat.left_eq_add, Nat.add_left_cancel_iff, Nat.reduceEqDiff, Nat.add_right_cancel_iff, rz_nb0, rz_nb1, rz_nbb, rz_nbi, rz_isr, rz_zle, if_true, if_false, rz_bi0, rz_bi1, Bool.not_eq_true, Bool.not_eq_false, Bool.true_eq_false, Bool.false_eq_true, rz_ix_lit, cl_lit, Nat.reduceLT, bi_t, bi_f, decide_true, decide_false, Bool.not_false, Bool.not_true, Bool.and_true, Bool.true_and, Bool.and_false, Bool.false_and, oCt_c, oCt_f0, oCt_v0, oCt_f1, oCt_v1, oCt_f2, oCt_v2, oCt_f3, oCt_v3, oCt_f4, oCt_v4, oCt_f5, oCt_v5, oCt_a1, oCt_n1, oCt_a2, oCt_n2, oCt_a3, oCt_n3, oCt_a4, oCt_n4, oCt_a5, oCt_n5, oCt_a6, oCt_n6, q1, q8, c1, c2, nI_nn (show a < 2147483648 by omega), i1, nI_cl (show a < 2147483648 by omega), hs', hst, show nI 1 = 1 from rfl]
        rw [rgG, if_neg hst]
theorem ct_ring (q : QC Z h ι c l r C R m dk lv) (h2 : ¬ onS (nI lv) < 2) {p k : Nat} (hp : p < 8) (hk : k ≤ 1) : ∃ ι' st, rz_f Z (d + 5) 11 [.ref (c + 16), .ref r, .ref l, .int (nI p), .int (nI k)] (rz_mk h ι, w) = some (.inl (some (.int (if k = 0 then (rgG (nxt C R m) 9 0 p st).1 else (rgG (nxt C R m) 9 0 p st).2))), (rz_mk h ι', w)) ∧ fr (scC c) ι ι' ∧ ∀ i, i < 8 → st i = -1 := by
  have qq := q
  obtain ⟨q1, ⟨pv, q2⟩, q3, q4, q5, q6, q7, q8, q9, q10, q11, q12, q13, q14⟩ := q
  have li := rm_living (Z := Z) (d := d + 2) (w := w) (ι := ι) q6 (by rw [q13]; exact q14.2.2.2.2.1) q14.l256
  have L := rz_loopE (fun i => rg Z (d + 4) rx_m11 13 [some (.ref (c + 16)), some (.ref r), some (.ref l), some (.int (nI p)), some (.int (nI k)), some (.int (nI i)), none] [] (rz_mk h (rz_rw ι (c + 20) (mn8 i (ι (c + 20)))), w)) 8 (by
    intro i hi
    have c2 : (nI i < Int32.ofNat 8) = True := by
      show (nI i < nI 8) = True
      rw [nI_lt2 (by omega) (by omega)]; simp [hi]
    have i1 : rz_ix (nI i) 8 := rz_ix_nat hi (by omega)
    try dsimp only
    rw [g11_13]
    simp (decide := true) (maxDischargeDepth := 4) only [g11_0, g11_1, g11_4, g11_5, g11_8, g11_9, g11_10, g11_11, g11_15, g11_16, g11_19, g11_20, g11_23, g11_24, g11_27, g11_29, g11_30, g11_31, g11_34, g11_37, g11_38, g11_40, g11_41, g11_45, g11_47, g11_50, g11_52, g11_55, g11_57, g11_58, g11_61, g11_62, g11_65, g11_66, g11_69, g11_71, g11_72, g11_73, g11_76, g11_78, g11_81, g11_82, g11_85, g11_87, g11_88, g11_91, g11_93, g11_94, g11_97, g11_99, g11_100, g11_101, g11_102, g11_103, g11_106, g11_108, g11_110, g11_111, g11_112, g11_113, g11_115, g11_118, g11_120, g11_123, g11_126, g11_127, rz_k_inl, rz_k_inr, Option.toList_some, Option.toList_none, List.cons_append, List.nil_append, List.append_nil, rz_up_s, rz_u_s, rz_up_n, rz_u_n, ne_eq, not_false_eq_true, not_true_eq_false, Nat.add_assoc, Nat.reduceAdd, reduceIte, Nat.add_eq_left, Nat.left_eq_add, Nat.add_left_cancel_iff, Nat.reduceEqDiff, Nat.add_right_cancel_iff, rz_nb0, rz_nb1, rz_nbb, rz_nbi, rz_isr, rz_zle, if_true, if_false, rz_bi0, rz_bi1, Bool.not_eq_true, Bool.not_eq_false, Bool.true_eq_false, Bool.false_eq_true, rz_ix_lit, cl_lit, Nat.reduceLT, bi_t, bi_f, decide_true, decide_false, Bool.not_false, Bool.not_true, Bool.and_true, Bool.true_and, Bool.and_false, Bool.false_and, oCt_c, oCt_f0, oCt_v0, oCt_f1, oCt_v1, oCt_f2, oCt_v2, oCt_f3, oCt_v3, oCt_f4, oCt_v4, oCt_f5, oCt_v5, oCt_a1, oCt_n1, oCt_a2, oCt_n2, oCt_a3, oCt_n3, oCt_a4, oCt_n4, oCt_a5, oCt_n5, oCt_a6, oCt_n6, q1, q8, c2, i1, nI_cl (show i < 2147483648 by omega), rz_rw_up, nI_1]
    rfl)
  try dsimp only at L
  rw [show mn8 0 (ι (c + 20)) = ι (c + 20) from rfl, rz_rw_id rfl] at L
  have f1 : fr (scC c) ι (rz_rw ι (c + 20) (mn8 8 (ι (c + 20)))) := fun a ha => rz_rw_n (fun e => ha (by rw [e]; unfold scC; omega))
  obtain ⟨ι', k1, k2⟩ := ring_loop (d := d) (w := w) qq h2 hk (nI p) 9 0 p (mn8 8 (ι (c + 20))) _ rfl hp f1 (rz_rw_s _ _ _)
  refine ⟨ι', mn8 8 (ι (c + 20)), ?_, k2, fun i hi => mn8_at _ 8 i hi⟩
  rw [e11]
  simp (decide := true) (maxDischargeDepth := 4) only [g11_0, g11_1, g11_4, g11_5, g11_8, g11_9, g11_10, g11_11, g11_15, g11_16, g11_19, g11_20, g11_23, g11_24, g11_27, g11_29, g11_30, g11_31, g11_34, g11_37, g11_38, g11_40, g11_41, g11_45, g11_47, g11_50, g11_52, g11_55, g11_57, g11_58, g11_61, g11_62, g11_65, g11_66, g11_69, g11_71, g11_72, g11_73, g11_76, g11_78, g11_81, g11_82, g11_85, g11_87, g11_88, g11_91, g11_93, g11_94, g11_97, g11_99, g11_100, g11_101, g11_102, g11_103, g11_106, g11_108, g11_110, g11_111, g11_112, g11_113, g11_115, g11_118, g11_120, g11_123, g11_126, g11_127, rz_k_inl, rz_k_inr, Option.toList_some, Option.toList_none, List.cons_append, List.nil_append, List.append_nil, rz_up_s, rz_u_s, rz_up_n, rz_u_n, ne_eq, not_false_eq_true, not_true_eq_false, Nat.add_assoc, Nat.reduceAdd, reduceIte, Nat.add_eq_left, Nat.left_eq_add, Nat.add_left_cancel_iff, Nat.reduceEqDiff, Nat.add_right_cancel_iff, rz_nb0, rz_nb1, rz_nbb, rz_nbi, rz_isr, rz_zle, if_true, if_false, rz_bi0, rz_bi1, Bool.not_eq_true, Bool.not_eq_false, Bool.true_eq_false, Bool.false_eq_true, rz_ix_lit, cl_lit, Nat.reduceLT, bi_t, bi_f, decide_true, decide_false, Bool.not_false, Bool.not_true, Bool.and_true, Bool.true_and, Bool.and_false, Bool.false_and, oRl_c, oRl_f0, oRl_v0, oRl_f1, oRl_v1, oRl_f2, oRl_v2, oRl_i3, oRl_i4, oRl_i5, oRl_i6, oRl_i7, oRl_i8, oRl_a1, oRl_n1, oRl_a2, oRl_n2, oRl_a3, oRl_n3, q6, li, h2]
  refine L.trans ?_
  rw [g11_13]
  simp (decide := true) (maxDischargeDepth := 4) only [g11_0, g11_1, g11_4, g11_5, g11_8, g11_9, g11_10, g11_11, g11_15, g11_16, g11_19, g11_20, g11_23, g11_24, g11_27, g11_29, g11_30, g11_31, g11_34, g11_37, g11_38, g11_40, g11_41, g11_45, g11_47, g11_50, g11_52, g11_55, g11_57, g11_58, g11_61, g11_62, g11_65, g11_66, g11_69, g11_71, g11_72, g11_73, g11_76, g11_78, g11_81, g11_82, g11_85, g11_87, g11_88, g11_91, g11_93, g11_94, g11_97, g11_99, g11_100, g11_101, g11_102, g11_103, g11_106, g11_108, g11_110, g11_111, g11_112, g11_113, g11_115, g11_118, g11_120, g11_123, g11_126, g11_127, rz_k_inl, rz_k_inr, Option.toList_some, Option.toList_none, List.cons_append, List.nil_append, List.append_nil, rz_up_s, rz_u_s, rz_up_n, rz_u_n, ne_eq, not_false_eq_true, not_true_eq_false, Nat.add_assoc, Nat.reduceAdd, reduceIte, Nat.add_eq_left, Nat.left_eq_add, Nat.add_left_cancel_iff, Nat.reduceEqDiff, Nat.add_right_cancel_iff, rz_nb0, rz_nb1, rz_nbb, rz_nbi, rz_isr, rz_zle, if_true, if_false, rz_bi0, rz_bi1, Bool.not_eq_true, Bool.not_eq_false, Bool.true_eq_false, Bool.false_eq_true, rz_ix_lit, cl_lit, Nat.reduceLT, bi_t, bi_f, decide_true, decide_false, Bool.not_false, Bool.not_true, Bool.and_true, Bool.true_and, Bool.and_false, Bool.false_and, oCt_c, oCt_f0, oCt_v0, oCt_f1, oCt_v1, oCt_f2, oCt_v2, oCt_f3, oCt_v3, oCt_f4, oCt_v4, oCt_f5, oCt_v5, oCt_a1, oCt_n1, oCt_a2, oCt_n2, oCt_a3, oCt_n3, oCt_a4, oCt_n4, oCt_a5, oCt_n5, oCt_a6, oCt_n6, q8, show (nI 8 < Int32.ofNat 8) = False by decide]
  exact k1
theorem rgG_cong (f : Nat → Nat) (hf : ∀ a, a < 8 → f a < 8) : ∀ (n i a : Nat) (st st' : Nat → Int32), a < 8 → (∀ j, j < 8 → st j = st' j) → rgG f n i a st = rgG f n i a st'
  | 0, _, _, _, _, _, _ => rfl
  | n + 1, i, a, st, st', ha, h => by
    unfold rgG
    rw [h a ha]
    split
    · refine rgG_cong f hf n (i + 1) (f a) _ _ (hf a ha) (fun j hj => ?_)
      unfold rz_u
      split
      · rfl
      · exact h j hj
    · rfl
theorem cl_ring1 (q : QC Z h ι c l r C R m dk lv) {x y : Int32} (hx : x < 0 ∨ ¬ x < nI m) : refC Z (d + 3) h ι w c 134 [.int x, .int y] 1 ∧ refC Z (d + 3) h ι w c 133 [.int x, .int y] 1 := by
  unfold refC
  obtain ⟨pv, q2⟩ := q.2.1
  constructor
  · rw [e134]
    simp (decide := true) (maxDischargeDepth := 4) only [g134_0, g134_1, g134_2, g134_5, g134_6, g134_7, g134_8, g134_9, g134_12, g134_15, g134_16, g134_19, g134_20, g134_23, g134_24, g134_27, g134_28, g134_29, g134_32, rz_k_inl, rz_k_inr, Option.toList_some, Option.toList_none, List.cons_append, List.nil_append, List.append_nil, rz_up_s, rz_u_s, rz_up_n, rz_u_n, ne_eq, not_false_eq_true, not_true_eq_false, Nat.add_assoc, Nat.reduceAdd, reduceIte, Nat.add_eq_left, Nat.left_eq_add, Nat.add_left_cancel_iff, Nat.reduceEqDiff, Nat.add_right_cancel_iff, rz_nb0, rz_nb1, rz_nbb, rz_nbi, rz_isr, rz_zle, if_true, if_false, rz_bi0, rz_bi1, Bool.not_eq_true, Bool.not_eq_false, Bool.true_eq_false, Bool.false_eq_true, rz_ix_lit, cl_lit, Nat.reduceLT, bi_t, bi_f, decide_true, decide_false, Bool.not_false, Bool.not_true, Bool.and_true, Bool.true_and, Bool.and_false, Bool.false_and, oHr_c q2, oHr_f0 q2, oHr_v0 q2, oHr_f1 q2, oHr_v1 q2, oHr_f2 q2, oHr_v2 q2, oHr_f3 q2, oHr_v3 q2, oHr_f4 q2, oHr_v4 q2, oHr_f5 q2, oHr_v5 q2, oHr_f6 q2, oHr_v6 q2, oHr_f7 q2, oHr_v7 q2, oHr_f8 q2, oHr_v8 q2, oHr_f9 q2, oHr_v9 q2, oHr_f10 q2, oHr_v10 q2, oHr_f11 q2, oHr_v11 q2, oHr_f12 q2, oHr_v12 q2, oHr_i13 q2, oHr_i14 q2, oHr_i15 q2, oHr_i16 q2, oHr_i17 q2, hr_needP0 q hx]
  · rw [e133]
    simp (decide := true) (maxDischargeDepth := 4) only [g133_0, g133_1, g133_2, g133_5, g133_6, g133_7, g133_8, g133_9, g133_12, g133_15, g133_16, g133_19, g133_20, g133_23, g133_24, g133_27, g133_28, g133_29, g133_32, rz_k_inl, rz_k_inr, Option.toList_some, Option.toList_none, List.cons_append, List.nil_append, List.append_nil, rz_up_s, rz_u_s, rz_up_n, rz_u_n, ne_eq, not_false_eq_true, not_true_eq_false, Nat.add_assoc, Nat.reduceAdd, reduceIte, Nat.add_eq_left, Nat.left_eq_add, Nat.add_left_cancel_iff, Nat.reduceEqDiff, Nat.add_right_cancel_iff, rz_nb0, rz_nb1, rz_nbb, rz_nbi, rz_isr, rz_zle, if_true, if_false, rz_bi0, rz_bi1, Bool.not_eq_true, Bool.not_eq_false, Bool.true_eq_false, Bool.false_eq_true, rz_ix_lit, cl_lit, Nat.reduceLT, bi_t, bi_f, decide_true, decide_false, Bool.not_false, Bool.not_true, Bool.and_true, Bool.true_and, Bool.and_false, Bool.false_and, oHr_c q2, oHr_f0 q2, oHr_v0 q2, oHr_f1 q2, oHr_v1 q2, oHr_f2 q2, oHr_v2 q2, oHr_f3 q2, oHr_v3 q2, oHr_f4 q2, oHr_v4 q2, oHr_f5 q2, oHr_v5 q2, oHr_f6 q2, oHr_v6 q2, oHr_f7 q2, oHr_v7 q2, oHr_f8 q2, oHr_v8 q2, oHr_f9 q2, oHr_v9 q2, oHr_f10 q2, oHr_v10 q2, oHr_f11 q2, oHr_v11 q2, oHr_f12 q2, oHr_v12 q2, oHr_i13 q2, oHr_i14 q2, oHr_i15 q2, oHr_i16 q2, oHr_i17 q2, hr_needP0 q hx]
theorem cl_ring0 (q : QC Z h ι c l r C R m dk lv) {p : Nat} (hp : p < m) {y : Int32} (hy : inB y 1 = false) : refC Z (d + 3) h ι w c 134 [.int (nI p), .int y] 0 ∧ refC Z (d + 3) h ι w c 133 [.int (nI p), .int y] 0 := by
  unfold refC
  obtain ⟨pv, q2⟩ := q.2.1
  have hy : (!decide (y < 0) && !decide ((1 : Int32) < y)) = false := hy
  constructor
  · rw [e134]
    simp (decide := true) (maxDischargeDepth := 4) only [g134_0, g134_1, g134_2, g134_5, g134_6, g134_7, g134_8, g134_9, g134_12, g134_15, g134_16, g134_19, g134_20, g134_23, g134_24, g134_27, g134_28, g134_29, g134_32, rz_k_inl, rz_k_inr, Option.toList_some, Option.toList_none, List.cons_append, List.nil_append, List.append_nil, rz_up_s, rz_u_s, rz_up_n, rz_u_n, ne_eq, not_false_eq_true, not_true_eq_false, Nat.add_assoc, Nat.reduceAdd, reduceIte, Nat.add_eq_left, Nat.left_eq_add, Nat.add_left_cancel_iff, Nat.reduceEqDiff, Nat.add_right_cancel_iff, rz_nb0, rz_nb1, rz_nbb, rz_nbi, rz_isr, rz_zle, if_true, if_false, rz_bi0, rz_bi1, Bool.not_eq_true, Bool.not_eq_false, Bool.true_eq_false, Bool.false_eq_true, rz_ix_lit, cl_lit, Nat.reduceLT, bi_t, bi_f, decide_true, decide_false, Bool.not_false, Bool.not_true, Bool.and_true, Bool.true_and, Bool.and_false, Bool.false_and, oHr_c q2, oHr_f0 q2, oHr_v0 q2, oHr_f1 q2, oHr_v1 q2, oHr_f2 q2, oHr_v2 q2, oHr_f3 q2, oHr_v3 q2, oHr_f4 q2, oHr_v4 q2, oHr_f5 q2, oHr_v5 q2, oHr_f6 q2, oHr_v6 q2, oHr_f7 q2, oHr_v7 q2, oHr_f8 q2, oHr_v8 q2, oHr_f9 q2, oHr_v9 q2, oHr_f10 q2, oHr_v10 q2, oHr_f11 q2, oHr_v11 q2, oHr_f12 q2, oHr_v12 q2, oHr_i13 q2, oHr_i14 q2, oHr_i15 q2, oHr_i16 q2, oHr_i17 q2, hr_needP1 q hp, hr_within, hy, hr_need0 q2 q.1]
  · rw [e133]
    simp (decide := true) (maxDischargeDepth := 4) only [g133_0, g133_1, g133_2, g133_5, g133_6, g133_7, g133_8, g133_9, g133_12, g133_15, g133_16, g133_19, g133_20, g133_23, g133_24, g133_27, g133_28, g133_29, g133_32, rz_k_inl, rz_k_inr, Option.toList_some, Option.toList_none, List.cons_append, List.nil_append, List.append_nil, rz_up_s, rz_u_s, rz_up_n, rz_u_n, ne_eq, not_false_eq_true, not_true_eq_false, Nat.add_assoc, Nat.reduceAdd, reduceIte, Nat.add_eq_left, Nat.left_eq_add, Nat.add_left_cancel_iff, Nat.reduceEqDiff, Nat.add_right_cancel_iff, rz_nb0, rz_nb1, rz_nbb, rz_nbi, rz_isr, rz_zle, if_true, if_false, rz_bi0, rz_bi1, Bool.not_eq_true, Bool.not_eq_false, Bool.true_eq_false, Bool.false_eq_true, rz_ix_lit, cl_lit, Nat.reduceLT, bi_t, bi_f, decide_true, decide_false, Bool.not_false, Bool.not_true, Bool.and_true, Bool.true_and, Bool.and_false, Bool.false_and, oHr_c q2, oHr_f0 q2, oHr_v0 q2, oHr_f1 q2, oHr_v1 q2, oHr_f2 q2, oHr_v2 q2, oHr_f3 q2, oHr_v3 q2, oHr_f4 q2, oHr_v4 q2, oHr_f5 q2, oHr_v5 q2, oHr_f6 q2, oHr_v6 q2, oHr_f7 q2, oHr_v7 q2, oHr_f8 q2, oHr_v8 q2, oHr_f9 q2, oHr_v9 q2, oHr_f10 q2, oHr_v10 q2, oHr_f11 q2, oHr_v11 q2, oHr_f12 q2, oHr_v12 q2, oHr_i13 q2, oHr_i14 q2, oHr_i15 q2, oHr_i16 q2, oHr_i17 q2, hr_needP1 q hp, hr_within, hy, hr_need0 q2 q.1]
def rngS (C : List (Nat × Nat)) (R : Nat → Int32) (m lv p k : Nat) : Int32 := if onS (nI lv) < 2 then 0 else if k = 0 then (rgG (nxt C R m) 9 0 p (fun _ => -1)).1 else (rgG (nxt C R m) 9 0 p (fun _ => -1)).2
theorem cl_ring (q : QC Z h ι c l r C R m dk lv) {p k : Nat} (hp : p < m) (hk : k ≤ 1) (hy : inB (nI k) 1 = true) : ansC Z (d + 6) h ι w c 134 [.int (nI p), .int (nI k)] (rngS C R m lv p k) := by
  have qq := q
  obtain ⟨q1, ⟨pv, q2⟩, q3, q4, q5, q6, q7, q8, q9, q10, q11, q12, q13, q14⟩ := q
  have hm8 := q14.2.1
  have hy : (!decide (nI k < 0) && !decide ((1 : Int32) < nI k)) = true := hy
  by_cases h2 : onS (nI lv) < 2
  · refine ⟨ι, ?_, fr.refl ι⟩
    rw [e134]
    simp (decide := true) (maxDischargeDepth := 4) only [g134_0, g134_1, g134_2, g134_5, g134_6, g134_7, g134_8, g134_9, g134_12, g134_15, g134_16, g134_19, g134_20, g134_23, g134_24, g134_27, g134_28, g134_29, g134_32, rz_k_inl, rz_k_inr, Option.toList_some, Option.toList_none, List.cons_append, List.nil_append, List.append_nil, rz_up_s, rz_u_s, rz_up_n, rz_u_n, ne_eq, not_false_eq_true, not_true_eq_false, Nat.add_assoc, Nat.reduceAdd, reduceIte, Nat.add_eq_left, Nat.left_eq_add, Nat.add_left_cancel_iff, Nat.reduceEqDiff, Nat.add_right_cancel_iff, rz_nb0, rz_nb1, rz_nbb, rz_nbi, rz_isr, rz_zle, if_true, if_false, rz_bi0, rz_bi1, Bool.not_eq_true, Bool.not_eq_false, Bool.true_eq_false, Bool.false_eq_true, rz_ix_lit, cl_lit, Nat.reduceLT, bi_t, bi_f, decide_true, decide_false, Bool.not_false, Bool.not_true, Bool.and_true, Bool.true_and, Bool.and_false, Bool.false_and, oHr_c q2, oHr_f0 q2, oHr_v0 q2, oHr_f1 q2, oHr_v1 q2, oHr_f2 q2, oHr_v2 q2, oHr_f3 q2, oHr_v3 q2, oHr_f4 q2, oHr_v4 q2, oHr_f5 q2, oHr_v5 q2, oHr_f6 q2, oHr_v6 q2, oHr_f7 q2, oHr_v7 q2, oHr_f8 q2, oHr_v8 q2, oHr_f9 q2, oHr_v9 q2, oHr_f10 q2, oHr_v10 q2, oHr_f11 q2, oHr_v11 q2, oHr_f12 q2, oHr_v12 q2, oHr_i13 q2, oHr_i14 q2, oHr_i15 q2, oHr_i16 q2, oHr_i17 q2, oCt_c, oCt_f0, oCt_v0, oCt_f1, oCt_v1, oCt_f2, oCt_v2, oCt_f3, oCt_v3, oCt_f4, oCt_v4, oCt_f5, oCt_v5, oCt_a1, oCt_n1, oCt_a2, oCt_n2, oCt_a3, oCt_n3, oCt_a4, oCt_n4, oCt_a5, oCt_n5, oCt_a6, oCt_n6, q8, hr_needP1 qq hp, hr_within, hy, hr_need1 q2, ct_ringN qq h2]
    rw [rngS, if_pos h2]
  · obtain ⟨ι', st, g1, g2, g3⟩ := ct_ring (d := d) (w := w) qq h2 (show p < 8 by omega) hk
    rw [rgG_cong (nxt C R m) (fun a ha => (nxt_ok q14 h2 ha).1) 9 0 p st (fun _ => -1) (by omega) g3] at g1
    refine ⟨ι', ?_, g2⟩
    rw [e134]
    simp (decide := true) (maxDischargeDepth := 4) only [g134_0, g134_1, g134_2, g134_5, g134_6, g134_7, g134_8, g134_9, g134_12, g134_15, g134_16, g134_19, g134_20, g134_23, g134_24, g134_27, g134_28, g134_29, g134_32, rz_k_inl, rz_k_inr, Option.toList_some, Option.toList_none, List.cons_append, List.nil_append, List.append_nil, rz_up_s, rz_u_s, rz_up_n, rz_u_n, ne_eq, not_false_eq_true, not_true_eq_false, Nat.add_assoc, Nat.reduceAdd, reduceIte, Nat.add_eq_left, Nat.left_eq_add, Nat.add_left_cancel_iff, Nat.reduceEqDiff, Nat.add_right_cancel_iff, rz_nb0, rz_nb1, rz_nbb, rz_nbi, rz_isr, rz_zle, if_true, if_false, rz_bi0, rz_bi1, Bool.not_eq_true, Bool.not_eq_false, Bool.true_eq_false, Bool.false_eq_true, rz_ix_lit, cl_lit, Nat.reduceLT, bi_t, bi_f, decide_true, decide_false, Bool.not_false, Bool.not_true, Bool.and_true, Bool.true_and, Bool.and_false, Bool.false_and, oHr_c q2, oHr_f0 q2, oHr_v0 q2, oHr_f1 q2, oHr_v1 q2, oHr_f2 q2, oHr_v2 q2, oHr_f3 q2, oHr_v3 q2, oHr_f4 q2, oHr_v4 q2, oHr_f5 q2, oHr_v5 q2, oHr_f6 q2, oHr_v6 q2, oHr_f7 q2, oHr_v7 q2, oHr_f8 q2, oHr_v8 q2, oHr_f9 q2, oHr_v9 q2, oHr_f10 q2, oHr_v10 q2, oHr_f11 q2, oHr_v11 q2, oHr_f12 q2, oHr_v12 q2, oHr_i13 q2, oHr_i14 q2, oHr_i15 q2, oHr_i16 q2, oHr_i17 q2, oCt_c, oCt_f0, oCt_v0, oCt_f1, oCt_v1, oCt_f2, oCt_v2, oCt_f3, oCt_v3, oCt_f4, oCt_v4, oCt_f5, oCt_v5, oCt_a1, oCt_n1, oCt_a2, oCt_n2, oCt_a3, oCt_n3, oCt_a4, oCt_n4, oCt_a5, oCt_n5, oCt_a6, oCt_n6, q8, hr_needP1 qq hp, hr_within, hy, hr_need1 q2, g1]
    rw [rngS, if_neg h2]
end CLASS8
