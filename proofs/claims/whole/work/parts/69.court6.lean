/-! the court: the table of the rows, and the row itself -/
theorem nI_pr (m : Nat) : nI (m + 1) + (-1) = nI m := by
  rw [← nI_add, Int32.add_assoc, show nI 1 + (-1) = 0 by decide, Int32.add_zero]
def ltV (F : Nat → Int32) (lv : Nat) (n : Int32) (T : Nat → Int32) (cr j : Nat) : Int32 := if cr.testBit j = true then loS F T lv cr (some j) n else 0
def ltR (F : Nat → Int32) (lv : Nat) (n : Int32) (T : Nat → Int32) (cr : Nat) : Nat → (Nat → Int32)
  | 0 => T
  | j + 1 => rz_u (ltR F lv n T cr j) (cr * 8 + j) (ltV F lv n (ltR F lv n T cr j) cr j)
def ltK (F : Nat → Int32) (lv : Nat) (n : Int32) (f : Nat → Int32) : Nat → (Nat → Int32)
  | 0 => f
  | k + 1 => if nI (255 - k) &&& (nI lv ^^^ (-1)) = 0 then ltR F lv n (ltK F lv n f k) (255 - k) 8 else ltK F lv n f k
def liI (F B : Nat → Int32) (lv : Nat) (n : Int32) : Nat → Nat → Option Nat → Nat → (Nat → Int32) → Nat × (Nat → Int32)
  | 0, i, _, _, f => (i, f)
  | _ + 1, i, none, _, f => (i, f)
  | k + 1, i, some x, cr, f => liI F B lv n k (i + 1) (foS F B lv (stN cr x) (some x) n) (stN cr x) (rz_u f i (nI x))
section COURT6
variable {Z : rx_Z} {d : Nat} {h : Nat → Option rx_E} {ι : Nat → Nat → Int32} {w : Nat × Nat} {a r l lv cr : Nat} {n : Int32}
theorem ct_lineUp_in (ha : oCt h a) (hz : Z.2.1 ≤ a) (hr : oRl h r) (hra : a + 7 ≤ r) (hl : ι r 4 = nI lv) (hlv : lv < 256) (hcr : cr < 256) (T : Nat → Int32) (l6 l7 : Option Value) : ∃ l5', rg Z (d + 4) rx_m15 19 [some (.ref a), some (.ref r), some (.ref l), some (.int n), some (.int (nI cr)), some (.int 0), l6, l7] [] (rz_mk h (rz_rw ι (a + 2) T), w) = rg Z (d + 4) rx_m15 84 [some (.ref a), some (.ref r), some (.ref l), some (.int n), some (.int (nI cr)), l5', l6, l7] [] (rz_mk h (rz_rw ι (a + 2) (if nI cr &&& (nI lv ^^^ (-1)) = 0 then ltR (ι (a + 1)) lv n T cr 8 else T)), w) := by
  have hl' : ∀ G, rz_rw ι (a + 2) G r 4 = nI lv := fun G => by rw [rz_rw_n (by omega)]; exact hl
  by_cases hs : nI cr &&& (nI lv ^^^ (-1)) = 0
  · have L := rz_loopE (fun j => rg Z (d + 4) rx_m15 19 [some (.ref a), some (.ref r), some (.ref l), some (.int n), some (.int (nI cr)), some (.int (nI j)), l6, l7] [] (rz_mk h (rz_rw ι (a + 2) (ltR (ι (a + 1)) lv n T cr j)), w)) 8 (by
      intro j hj
      have c1 : (nI j < 8) = True := by rw [nI_ltL (by omega) (by decide)]; simp [hj]
      have i1 : rz_ix (nI (cr * 8 + j)) 2048 := rz_ix_nat (by omega) (by omega)
      have n1 := nI_cl (show cr * 8 + j < 2147483648 by omega)
      have n2 : nI cr * 8 + nI j = nI (cr * 8 + j) := by rw [show nI cr * 8 = nI (cr * 8) from pk_mul _ 8, nI_add]
      have b1 := sh_bit (n := cr) (i := j) (by omega)
      try dsimp only
      rw [show ltR (ι (a + 1)) lv n T cr (j + 1) = rz_u (ltR (ι (a + 1)) lv n T cr j) (cr * 8 + j) (ltV (ι (a + 1)) lv n (ltR (ι (a + 1)) lv n T cr j) cr j) from rfl]
      generalize ltR (ι (a + 1)) lv n T cr j = G
      rw [g15_19]
      by_cases hb : cr.testBit j = true
      · rw [if_pos hb] at b1
        have lo := ct_longest (Z := Z) (d := d + 2) (ι := rz_rw ι (a + 2) G) (w := w) (la := some j) ha hlv hcr (fun x e => by cases e; exact hj) n
        rw [rz_rw_s, rz_rw_n (show a + 1 ≠ a + 2 by omega), show oN (some j) = nI j from rfl] at lo
        rw [ltV, if_pos hb]
        simp (decide := true) (maxDischargeDepth := 4) only [g15_21, g15_23, g15_26, g15_28, g15_29, g15_32, g15_33, g15_34, g15_35, g15_38, g15_39, g15_42, g15_44, g15_46, g15_47, g15_49, g15_50, g15_52, g15_54, g15_55, g15_56, g15_57, g15_60, g15_61, g15_64, g15_65, g15_66, g15_69, g15_71, g15_73, g15_74, g15_77, g15_78, g15_81, rz_k_inl, rz_k_inr, Option.toList_some, Option.toList_none, List.cons_append, List.nil_append, List.append_nil, rz_up_s, rz_u_s, rz_up_n, rz_u_n, ne_eq, not_false_eq_true, not_true_eq_false, Nat.add_assoc, Nat.reduceAdd, reduceIte, Nat.add_eq_left, Nat.left_eq_add, Nat.add_left_cancel_iff, Nat.reduceEqDiff, Nat.add_right_cancel_iff, rz_nb0, rz_nb1, rz_nbb, rz_nbi, rz_isr, rz_zle, if_true, if_false, rz_bi0, rz_bi1, Bool.not_eq_true, Bool.not_eq_false, Bool.true_eq_false, Bool.false_eq_true, rz_ix_lit, cl_lit, Nat.reduceLT, bi_t, bi_f, decide_true, decide_false, Bool.not_false, Bool.not_true, Bool.and_true, Bool.true_and, Bool.and_false, Bool.false_and, oCt_c, oCt_f0, oCt_v0, oCt_f1, oCt_v1, oCt_f2, oCt_v2, oCt_f3, oCt_v3, oCt_f4, oCt_v4, oCt_f5, oCt_v5, oCt_a1, oCt_n1, oCt_a2, oCt_n2, oCt_a3, oCt_n3, oCt_a4, oCt_n4, oCt_a5, oCt_n5, oCt_a6, oCt_n6, oRl_c, oRl_f0, oRl_v0, oRl_f1, oRl_v1, oRl_f2, oRl_v2, oRl_i3, oRl_i4, oRl_i5, oRl_i6, oRl_i7, oRl_i8, oRl_a1, oRl_n1, oRl_a2, oRl_n2, oRl_a3, oRl_n3, ha, hr, hz, hl', c1, hs, b1, lo, i1, n1, n2, nI_1, rz_rw_up]
      · rw [if_neg hb] at b1
        rw [ltV, if_neg hb]
        simp (decide := true) (maxDischargeDepth := 4) only [g15_21, g15_23, g15_26, g15_28, g15_29, g15_32, g15_33, g15_34, g15_35, g15_38, g15_39, g15_42, g15_44, g15_46, g15_47, g15_49, g15_50, g15_52, g15_54, g15_55, g15_56, g15_57, g15_60, g15_61, g15_64, g15_65, g15_66, g15_69, g15_71, g15_73, g15_74, g15_77, g15_78, g15_81, rz_k_inl, rz_k_inr, Option.toList_some, Option.toList_none, List.cons_append, List.nil_append, List.append_nil, rz_up_s, rz_u_s, rz_up_n, rz_u_n, ne_eq, not_false_eq_true, not_true_eq_false, Nat.add_assoc, Nat.reduceAdd, reduceIte, Nat.add_eq_left, Nat.left_eq_add, Nat.add_left_cancel_iff, Nat.reduceEqDiff, Nat.add_right_cancel_iff, rz_nb0, rz_nb1, rz_nbb, rz_nbi, rz_isr, rz_zle, if_true, if_false, rz_bi0, rz_bi1, Bool.not_eq_true, Bool.not_eq_false, Bool.true_eq_false, Bool.false_eq_true, rz_ix_lit, cl_lit, Nat.reduceLT, bi_t, bi_f, decide_true, decide_false, Bool.not_false, Bool.not_true, Bool.and_true, Bool.true_and, Bool.and_false, Bool.false_and, oCt_c, oCt_f0, oCt_v0, oCt_f1, oCt_v1, oCt_f2, oCt_v2, oCt_f3, oCt_v3, oCt_f4, oCt_v4, oCt_f5, oCt_v5, oCt_a1, oCt_n1, oCt_a2, oCt_n2, oCt_a3, oCt_n3, oCt_a4, oCt_n4, oCt_a5, oCt_n5, oCt_a6, oCt_n6, oRl_c, oRl_f0, oRl_v0, oRl_f1, oRl_v1, oRl_f2, oRl_v2, oRl_i3, oRl_i4, oRl_i5, oRl_i6, oRl_i7, oRl_i8, oRl_a1, oRl_n1, oRl_a2, oRl_n2, oRl_a3, oRl_n3, ha, hr, hz, hl', c1, hs, b1, i1, n1, n2, nI_1, rz_rw_up])
    try dsimp only at L
    refine ⟨some (.int (nI 8)), ?_⟩
    rw [show nI 0 = 0 from rfl] at L
    rw [if_pos hs]
    refine L.trans ?_
    rw [g15_19]
    simp (decide := true) (maxDischargeDepth := 4) only [g15_21, g15_23, g15_26, g15_28, g15_29, g15_32, g15_33, g15_34, g15_35, g15_38, g15_39, g15_42, g15_44, g15_46, g15_47, g15_49, g15_50, g15_52, g15_54, g15_55, g15_56, g15_57, g15_60, g15_61, g15_64, g15_65, g15_66, g15_69, g15_71, g15_73, g15_74, g15_77, g15_78, g15_81, rz_k_inl, rz_k_inr, Option.toList_some, Option.toList_none, List.cons_append, List.nil_append, List.append_nil, rz_up_s, rz_u_s, rz_up_n, rz_u_n, ne_eq, not_false_eq_true, not_true_eq_false, Nat.add_assoc, Nat.reduceAdd, reduceIte, Nat.add_eq_left, Nat.left_eq_add, Nat.add_left_cancel_iff, Nat.reduceEqDiff, Nat.add_right_cancel_iff, rz_nb0, rz_nb1, rz_nbb, rz_nbi, rz_isr, rz_zle, if_true, if_false, rz_bi0, rz_bi1, Bool.not_eq_true, Bool.not_eq_false, Bool.true_eq_false, Bool.false_eq_true, rz_ix_lit, cl_lit, Nat.reduceLT, bi_t, bi_f, decide_true, decide_false, Bool.not_false, Bool.not_true, Bool.and_true, Bool.true_and, Bool.and_false, Bool.false_and, show (nI 8 < 8) = False by decide]
  · refine ⟨some (.int 0), ?_⟩
    rw [if_neg hs, g15_19]
    simp (decide := true) (maxDischargeDepth := 4) only [g15_21, g15_23, g15_26, g15_28, g15_29, g15_32, g15_33, g15_34, g15_35, g15_38, g15_39, g15_42, g15_44, g15_46, g15_47, g15_49, g15_50, g15_52, g15_54, g15_55, g15_56, g15_57, g15_60, g15_61, g15_64, g15_65, g15_66, g15_69, g15_71, g15_73, g15_74, g15_77, g15_78, g15_81, rz_k_inl, rz_k_inr, Option.toList_some, Option.toList_none, List.cons_append, List.nil_append, List.append_nil, rz_up_s, rz_u_s, rz_up_n, rz_u_n, ne_eq, not_false_eq_true, not_true_eq_false, Nat.add_assoc, Nat.reduceAdd, reduceIte, Nat.add_eq_left, Nat.left_eq_add, Nat.add_left_cancel_iff, Nat.reduceEqDiff, Nat.add_right_cancel_iff, rz_nb0, rz_nb1, rz_nbb, rz_nbi, rz_isr, rz_zle, if_true, if_false, rz_bi0, rz_bi1, Bool.not_eq_true, Bool.not_eq_false, Bool.true_eq_false, Bool.false_eq_true, rz_ix_lit, cl_lit, Nat.reduceLT, bi_t, bi_f, decide_true, decide_false, Bool.not_false, Bool.not_true, Bool.and_true, Bool.true_and, Bool.and_false, Bool.false_and, oCt_c, oCt_f0, oCt_v0, oCt_f1, oCt_v1, oCt_f2, oCt_v2, oCt_f3, oCt_v3, oCt_f4, oCt_v4, oCt_f5, oCt_v5, oCt_a1, oCt_n1, oCt_a2, oCt_n2, oCt_a3, oCt_n3, oCt_a4, oCt_n4, oCt_a5, oCt_n5, oCt_a6, oCt_n6, oRl_c, oRl_f0, oRl_v0, oRl_f1, oRl_v1, oRl_f2, oRl_v2, oRl_i3, oRl_i4, oRl_i5, oRl_i6, oRl_i7, oRl_i8, oRl_a1, oRl_n1, oRl_a2, oRl_n2, oRl_a3, oRl_n3, ha, hr, hl', hs]
theorem ct_lineUp (ha : oCt h a) (hz : Z.2.1 ≤ a) (hr : oRl h r) (hra : a + 7 ≤ r) (hl : ι r 4 = nI lv) (hlv : lv < 256) {ι0 : Nat → Nat → Int32} (hms : rz_f Z (d + 4) 10 [.ref a, .ref r, .ref l] (rz_mk h ι0, w) = some (.inl none, (rz_mk h ι, w))) : rz_f Z (d + 5) 15 [.ref a, .ref r, .ref l, .int n] (rz_mk h ι0, w) = some (.inl (some (.int (nI (liI (ι (a + 1)) (ltK (ι (a + 1)) lv n (ι (a + 2)) 255) lv n 8 0 (foS (ι (a + 1)) (ltK (ι (a + 1)) lv n (ι (a + 2)) 255) lv 0 none n) 0 (ι (a + 6))).1))), (rz_mk h (rz_rw (rz_rw ι (a + 2) (ltK (ι (a + 1)) lv n (ι (a + 2)) 255)) (a + 6) (liI (ι (a + 1)) (ltK (ι (a + 1)) lv n (ι (a + 2)) 255) lv n 8 0 (foS (ι (a + 1)) (ltK (ι (a + 1)) lv n (ι (a + 2)) 255) lv 0 none n) 0 (ι (a + 6))).2), w)) := by
  have L := rz_loop (fun k (l5 : Option Value) => rg Z (d + 4) rx_m15 11 [some (.ref a), some (.ref r), some (.ref l), some (.int n), some (.int (nI (255 - k))), l5, none, none] [] (rz_mk h (rz_rw ι (a + 2) (ltK (ι (a + 1)) lv n (ι (a + 2)) k)), w)) 255 (fun _ _ => True) (by
    intro k l5 hk _
    have c1 : (0 < nI (255 - k)) = True := nI_0lt (by omega) (by omega)
    obtain ⟨l5', g⟩ := ct_lineUp_in (Z := Z) (d := d) (ι := ι) (w := w) (l := l) (n := n) ha hz hr hra hl hlv (show 255 - k < 256 by omega) (ltK (ι (a + 1)) lv n (ι (a + 2)) k) none none
    refine ⟨l5', trivial, ?_⟩
    have n1 : nI (255 - k) + (-1) = nI (255 - (k + 1)) := by
      have := nI_pr (255 - (k + 1))
      rw [show 255 - (k + 1) + 1 = 255 - k by omega] at this
      exact this
    try dsimp only
    rw [g15_11]
    simp (decide := true) (maxDischargeDepth := 4) only [g15_13, g15_16, g15_17, rz_k_inl, rz_k_inr, Option.toList_some, Option.toList_none, List.cons_append, List.nil_append, List.append_nil, rz_up_s, rz_u_s, rz_up_n, rz_u_n, ne_eq, not_false_eq_true, not_true_eq_false, Nat.add_assoc, Nat.reduceAdd, reduceIte, Nat.add_eq_left, Nat.left_eq_add, Nat.add_left_cancel_iff, Nat.reduceEqDiff, Nat.add_right_cancel_iff, rz_nb0, rz_nb1, rz_nbb, rz_nbi, rz_isr, rz_zle, if_true, if_false, rz_bi0, rz_bi1, Bool.not_eq_true, Bool.not_eq_false, Bool.true_eq_false, Bool.false_eq_true, rz_ix_lit, cl_lit, Nat.reduceLT, bi_t, bi_f, decide_true, decide_false, Bool.not_false, Bool.not_true, Bool.and_true, Bool.true_and, Bool.and_false, Bool.false_and, c1]
    rw [g]
    simp (decide := true) (maxDischargeDepth := 4) only [g15_84, g15_87, rz_k_inl, rz_k_inr, Option.toList_some, Option.toList_none, List.cons_append, List.nil_append, List.append_nil, rz_up_s, rz_u_s, rz_up_n, rz_u_n, ne_eq, not_false_eq_true, not_true_eq_false, Nat.add_assoc, Nat.reduceAdd, reduceIte, Nat.add_eq_left, Nat.left_eq_add, Nat.add_left_cancel_iff, Nat.reduceEqDiff, Nat.add_right_cancel_iff, rz_nb0, rz_nb1, rz_nbb, rz_nbi, rz_isr, rz_zle, if_true, if_false, rz_bi0, rz_bi1, Bool.not_eq_true, Bool.not_eq_false, Bool.true_eq_false, Bool.false_eq_true, rz_ix_lit, cl_lit, Nat.reduceLT, bi_t, bi_f, decide_true, decide_false, Bool.not_false, Bool.not_true, Bool.and_true, Bool.true_and, Bool.and_false, Bool.false_and, n1]
    rfl) 255 0 none (by omega) trivial
  obtain ⟨l5, _, L⟩ := L
  try dsimp only at L
  generalize hB : ltK (ι (a + 1)) lv n (ι (a + 2)) 255 = B at L ⊢
  have hl1 : ∀ g, rz_rw (rz_rw ι (a + 2) B) (a + 6) g r 4 = nI lv := fun g => by rw [rz_rw_n (by omega), rz_rw_n (by omega)]; exact hl
  have hl2 : rz_rw ι (a + 2) B r 4 = nI lv := by rw [rz_rw_n (by omega)]; exact hl
  have H : ∀ (k i : Nat) (la : Option Nat) (cr : Nat) (f : Nat → Int32), i + k = 8 → cr < 256 → (∀ x, la = some x → x < 8) → ∃ l5' l6' l7', rg Z (d + 4) rx_m15 112 [some (.ref a), some (.ref r), some (.ref l), some (.int n), some (.int (nI i)), some (.int (oN la)), some (.int (nI cr)), some (.int (nI i))] [] (rz_mk h (rz_rw (rz_rw ι (a + 2) B) (a + 6) f), w) = rg Z (d + 4) rx_m15 167 [some (.ref a), some (.ref r), some (.ref l), some (.int n), some (.int (nI (liI (ι (a + 1)) B lv n k i la cr f).1)), l5', l6', l7'] [] (rz_mk h (rz_rw (rz_rw ι (a + 2) B) (a + 6) (liI (ι (a + 1)) B lv n k i la cr f).2), w) := by
    intro k
    induction k with
    | zero =>
      intro i la cr f hi hc hla
      have : i = 8 := by omega
      subst this
      refine ⟨some (.int (oN la)), some (.int (nI cr)), some (.int (nI 8)), ?_⟩
      rw [g15_112]
      simp (decide := true) (maxDischargeDepth := 4) only [g15_114, g15_116, g15_119, g15_121, g15_122, g15_125, g15_126, g15_129, g15_131, g15_133, g15_134, g15_137, g15_139, g15_140, g15_142, g15_143, g15_144, g15_146, g15_147, g15_148, g15_151, g15_153, g15_155, g15_156, g15_159, g15_161, g15_164, rz_k_inl, rz_k_inr, Option.toList_some, Option.toList_none, List.cons_append, List.nil_append, List.append_nil, rz_up_s, rz_u_s, rz_up_n, rz_u_n, ne_eq, not_false_eq_true, not_true_eq_false, Nat.add_assoc, Nat.reduceAdd, reduceIte, Nat.add_eq_left, Nat.left_eq_add, Nat.add_left_cancel_iff, Nat.reduceEqDiff, Nat.add_right_cancel_iff, rz_nb0, rz_nb1, rz_nbb, rz_nbi, rz_isr, rz_zle, if_true, if_false, rz_bi0, rz_bi1, Bool.not_eq_true, Bool.not_eq_false, Bool.true_eq_false, Bool.false_eq_true, rz_ix_lit, cl_lit, Nat.reduceLT, bi_t, bi_f, decide_true, decide_false, Bool.not_false, Bool.not_true, Bool.and_true, Bool.true_and, Bool.and_false, Bool.false_and, show (nI 8 < 8) = False by decide]
      rfl
    | succ k ih =>
      intro i la cr f hi hc hla
      have c1 : (nI i < 8) = True := by rw [nI_ltL (by omega) (by decide)]; simp; omega
      cases la with
      | none =>
        refine ⟨some (.int (oN none)), some (.int (nI cr)), some (.int (nI i)), ?_⟩
        rw [g15_112]
        simp (decide := true) (maxDischargeDepth := 4) only [g15_114, g15_116, g15_119, g15_121, g15_122, g15_125, g15_126, g15_129, g15_131, g15_133, g15_134, g15_137, g15_139, g15_140, g15_142, g15_143, g15_144, g15_146, g15_147, g15_148, g15_151, g15_153, g15_155, g15_156, g15_159, g15_161, g15_164, rz_k_inl, rz_k_inr, Option.toList_some, Option.toList_none, List.cons_append, List.nil_append, List.append_nil, rz_up_s, rz_u_s, rz_up_n, rz_u_n, ne_eq, not_false_eq_true, not_true_eq_false, Nat.add_assoc, Nat.reduceAdd, reduceIte, Nat.add_eq_left, Nat.left_eq_add, Nat.add_left_cancel_iff, Nat.reduceEqDiff, Nat.add_right_cancel_iff, rz_nb0, rz_nb1, rz_nbb, rz_nbi, rz_isr, rz_zle, if_true, if_false, rz_bi0, rz_bi1, Bool.not_eq_true, Bool.not_eq_false, Bool.true_eq_false, Bool.false_eq_true, rz_ix_lit, cl_lit, Nat.reduceLT, bi_t, bi_f, decide_true, decide_false, Bool.not_false, Bool.not_true, Bool.and_true, Bool.true_and, Bool.and_false, Bool.false_and, c1, show (oN none = -1) = True by decide]
        rfl
      | some x =>
        have hx := hla x rfl
        have cx : (oN (some x) = -1) = False := nI_m1 (by omega)
        have o1 : nI cr ||| ((1 : Int32) <<< (oN (some x) &&& 31)) = nI (stN cr x) := stN_I cr hc x hx
        have o2 := stN_256 cr hc x hx
        obtain ⟨l5', l6', l7', g⟩ := ih (i + 1) (foS (ι (a + 1)) B lv (stN cr x) (some x) n) (stN cr x) (rz_u f i (nI x)) (by omega) o2 (fun y e => (foS_lt e).1)
        refine ⟨l5', l6', l7', ?_⟩
        have i1 : rz_ix (nI i) 8 := rz_ix_nat (by omega) (by omega)
        have n1 := nI_cl (show i < 2147483648 by omega)
        have fo := ct_follower (Z := Z) (d := d + 3) (ι := rz_rw (rz_rw ι (a + 2) B) (a + 6) (rz_u f i (nI x))) (w := w) (la := some x) ha hlv o2 hla n
        rw [rz_rw_n (show a + 1 ≠ a + 6 by omega), rz_rw_n (show a + 1 ≠ a + 2 by omega), rz_rw_n (show a + 2 ≠ a + 6 by omega), rz_rw_s] at fo
        rw [g15_112]
        simp (decide := true) (maxDischargeDepth := 4) only [g15_114, g15_116, g15_119, g15_121, g15_122, g15_125, g15_126, g15_129, g15_131, g15_133, g15_134, g15_137, g15_139, g15_140, g15_142, g15_143, g15_144, g15_146, g15_147, g15_148, g15_151, g15_153, g15_155, g15_156, g15_159, g15_161, g15_164, rz_k_inl, rz_k_inr, Option.toList_some, Option.toList_none, List.cons_append, List.nil_append, List.append_nil, rz_up_s, rz_u_s, rz_up_n, rz_u_n, ne_eq, not_false_eq_true, not_true_eq_false, Nat.add_assoc, Nat.reduceAdd, reduceIte, Nat.add_eq_left, Nat.left_eq_add, Nat.add_left_cancel_iff, Nat.reduceEqDiff, Nat.add_right_cancel_iff, rz_nb0, rz_nb1, rz_nbb, rz_nbi, rz_isr, rz_zle, if_true, if_false, rz_bi0, rz_bi1, Bool.not_eq_true, Bool.not_eq_false, Bool.true_eq_false, Bool.false_eq_true, rz_ix_lit, cl_lit, Nat.reduceLT, bi_t, bi_f, decide_true, decide_false, Bool.not_false, Bool.not_true, Bool.and_true, Bool.true_and, Bool.and_false, Bool.false_and, oCt_c, oCt_f0, oCt_v0, oCt_f1, oCt_v1, oCt_f2, oCt_v2, oCt_f3, oCt_v3, oCt_f4, oCt_v4, oCt_f5, oCt_v5, oCt_a1, oCt_n1, oCt_a2, oCt_n2, oCt_a3, oCt_n3, oCt_a4, oCt_n4, oCt_a5, oCt_n5, oCt_a6, oCt_n6, oRl_c, oRl_f0, oRl_v0, oRl_f1, oRl_v1, oRl_f2, oRl_v2, oRl_i3, oRl_i4, oRl_i5, oRl_i6, oRl_i7, oRl_i8, oRl_a1, oRl_n1, oRl_a2, oRl_n2, oRl_a3, oRl_n3, ha, hz, hr, c1, cx, i1, n1, rz_rw_up, hl1, o1]
        rw [show oN (some x) = nI x from rfl] at fo ⊢
        simp (decide := true) (maxDischargeDepth := 4) only [g15_156, g15_159, g15_161, g15_164, rz_k_inl, rz_k_inr, Option.toList_some, Option.toList_none, List.cons_append, List.nil_append, List.append_nil, rz_up_s, rz_u_s, rz_up_n, rz_u_n, ne_eq, not_false_eq_true, not_true_eq_false, Nat.add_assoc, Nat.reduceAdd, reduceIte, Nat.add_eq_left, Nat.left_eq_add, Nat.add_left_cancel_iff, Nat.reduceEqDiff, Nat.add_right_cancel_iff, rz_nb0, rz_nb1, rz_nbb, rz_nbi, rz_isr, rz_zle, if_true, if_false, rz_bi0, rz_bi1, Bool.not_eq_true, Bool.not_eq_false, Bool.true_eq_false, Bool.false_eq_true, rz_ix_lit, cl_lit, Nat.reduceLT, bi_t, bi_f, decide_true, decide_false, Bool.not_false, Bool.not_true, Bool.and_true, Bool.true_and, Bool.and_false, Bool.false_and, fo, nI_1]
        exact g
  have fo := ct_follower (Z := Z) (d := d + 3) (ι := rz_rw ι (a + 2) B) (w := w) (la := none) (cr := 0) ha hlv (by omega) (fun x e => by cases e) n
  rw [rz_rw_n (show a + 1 ≠ a + 2 by omega), rz_rw_s, show oN none = -1 from rfl, show nI 0 = 0 from rfl] at fo
  obtain ⟨l5', l6', l7', G⟩ := H 8 0 (foS (ι (a + 1)) B lv 0 none n) 0 (ι (a + 6)) (by omega) (by omega) (fun y e => (foS_lt e).1)
  rw [show nI 0 = 0 from rfl, rz_rw_id (show rz_rw ι (a + 2) B (a + 6) = ι (a + 6) from rz_rw_n (by omega))] at G
  have e0 : rz_rw ι (a + 2) (ltK (ι (a + 1)) lv n (ι (a + 2)) 0) = ι := rz_rw_id rfl
  rw [e0] at L
  rw [e15]
  simp (decide := true) (maxDischargeDepth := 4) only [g15_0, g15_1, g15_2, g15_3, g15_6, g15_9, rz_k_inl, rz_k_inr, Option.toList_some, Option.toList_none, List.cons_append, List.nil_append, List.append_nil, rz_up_s, rz_u_s, rz_up_n, rz_u_n, ne_eq, not_false_eq_true, not_true_eq_false, Nat.add_assoc, Nat.reduceAdd, reduceIte, Nat.add_eq_left, Nat.left_eq_add, Nat.add_left_cancel_iff, Nat.reduceEqDiff, Nat.add_right_cancel_iff, rz_nb0, rz_nb1, rz_nbb, rz_nbi, rz_isr, rz_zle, if_true, if_false, rz_bi0, rz_bi1, Bool.not_eq_true, Bool.not_eq_false, Bool.true_eq_false, Bool.false_eq_true, rz_ix_lit, cl_lit, Nat.reduceLT, bi_t, bi_f, decide_true, decide_false, Bool.not_false, Bool.not_true, Bool.and_true, Bool.true_and, Bool.and_false, Bool.false_and, oCt_c, oCt_f0, oCt_v0, oCt_f1, oCt_v1, oCt_f2, oCt_v2, oCt_f3, oCt_v3, oCt_f4, oCt_v4, oCt_f5, oCt_v5, oCt_a1, oCt_n1, oCt_a2, oCt_n2, oCt_a3, oCt_n3, oCt_a4, oCt_n4, oCt_a5, oCt_n5, oCt_a6, oCt_n6, ha, hms]
  rw [show (255 : Int32) = nI (255 - 0) from rfl]
  refine L.trans ?_
  rw [g15_11]
  simp (decide := true) (maxDischargeDepth := 4) only [g15_13, g15_90, g15_91, g15_93, g15_94, g15_95, g15_98, g15_99, g15_100, g15_101, g15_104, g15_106, g15_107, g15_109, g15_110, rz_k_inl, rz_k_inr, Option.toList_some, Option.toList_none, List.cons_append, List.nil_append, List.append_nil, rz_up_s, rz_u_s, rz_up_n, rz_u_n, ne_eq, not_false_eq_true, not_true_eq_false, Nat.add_assoc, Nat.reduceAdd, reduceIte, Nat.add_eq_left, Nat.left_eq_add, Nat.add_left_cancel_iff, Nat.reduceEqDiff, Nat.add_right_cancel_iff, rz_nb0, rz_nb1, rz_nbb, rz_nbi, rz_isr, rz_zle, if_true, if_false, rz_bi0, rz_bi1, Bool.not_eq_true, Bool.not_eq_false, Bool.true_eq_false, Bool.false_eq_true, rz_ix_lit, cl_lit, Nat.reduceLT, bi_t, bi_f, decide_true, decide_false, Bool.not_false, Bool.not_true, Bool.and_true, Bool.true_and, Bool.and_false, Bool.false_and, oCt_c, oCt_f0, oCt_v0, oCt_f1, oCt_v1, oCt_f2, oCt_v2, oCt_f3, oCt_v3, oCt_f4, oCt_v4, oCt_f5, oCt_v5, oCt_a1, oCt_n1, oCt_a2, oCt_n2, oCt_a3, oCt_n3, oCt_a4, oCt_n4, oCt_a5, oCt_n5, oCt_a6, oCt_n6, oRl_c, oRl_f0, oRl_v0, oRl_f1, oRl_v1, oRl_f2, oRl_v2, oRl_i3, oRl_i4, oRl_i5, oRl_i6, oRl_i7, oRl_i8, oRl_a1, oRl_n1, oRl_a2, oRl_n2, oRl_a3, oRl_n3, ha, hr, hl2, show (0 < nI (255 - 255)) = False by decide, fo]
  refine G.trans ?_
  simp (decide := true) (maxDischargeDepth := 4) only [g15_167, g15_169, rz_k_inl, rz_k_inr, Option.toList_some, Option.toList_none, List.cons_append, List.nil_append, List.append_nil, rz_up_s, rz_u_s, rz_up_n, rz_u_n, ne_eq, not_false_eq_true, not_true_eq_false, Nat.add_assoc, Nat.reduceAdd, reduceIte, Nat.add_eq_left, Nat.left_eq_add, Nat.add_left_cancel_iff, Nat.reduceEqDiff, Nat.add_right_cancel_iff, rz_nb0, rz_nb1, rz_nbb, rz_nbi, rz_isr, rz_zle, if_true, if_false, rz_bi0, rz_bi1, Bool.not_eq_true, Bool.not_eq_false, Bool.true_eq_false, Bool.false_eq_true, rz_ix_lit, cl_lit, Nat.reduceLT, bi_t, bi_f, decide_true, decide_false, Bool.not_false, Bool.not_true, Bool.and_true, Bool.true_and, Bool.and_false, Bool.false_and]
end COURT6
