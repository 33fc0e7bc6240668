/-! the court: the table of the best, and the mates -/
def bvF (F B : Nat → Int32) (n : Nat) (mt : Nat) (s : Int32) : Int32 := if s < hgV F B n mt then hgV F B n mt else s
def bvS (F B : Nat → Int32) (n : Nat) : Int32 := lpI (bvF F B n) 0 9
def tbV (F : Nat → Int32) (lv : Nat) (B : Nat → Int32) (n : Nat) : Int32 := if n = 0 then 0 else if nI n &&& (nI lv ^^^ (-1)) = 0 then bvS F B n else 0
def tbK (F : Nat → Int32) (lv : Nat) (f : Nat → Int32) : Nat → (Nat → Int32)
  | 0 => f
  | n + 1 => rz_u (tbK F lv f n) n (tbV F lv (tbK F lv f n) n)
def mnK (f : Nat → Int32) : Nat → (Nat → Int32)
  | 0 => f
  | n + 1 => rz_u (mnK f n) n (-1)
def hgI (F B : Nat → Int32) : Nat → Nat × (Nat → Int32) → Nat × (Nat → Int32)
  | 0, s => s
  | k + 1, s => if s.1 = 0 then s else hgI F B k (hgS F B s)
theorem hgS_lt {F B : Nat → Int32} {s : Nat × (Nat → Int32)} (hs : s.1 < 256) : (hgS F B s).1 < 256 := by
  unfold hgS
  have e1 := rmN_le s.1 (tzN s.1)
  cases hgM F B s.1 8 0 with
  | none => show rmN s.1 (tzN s.1) < 256; omega
  | some j =>
    have e2 := rmN_le (rmN s.1 (tzN s.1)) j
    show rmN (rmN s.1 (tzN s.1)) j < 256
    omega
section COURT3
variable {Z : rx_Z} {d : Nat} {h : Nat → Option rx_E} {ι : Nat → Nat → Int32} {w : Nat × Nat} {a r l lv : Nat}
theorem ct_hang_in (ha : oCt h a) (hz : Z.2.1 ≤ a) (hr : oRl h r) (hra : a + 7 ≤ r) (hl : ι r 4 = nI lv) {n : Nat} (h0 : 0 < n) (hn : n < 256) (T : Nat → Int32) : ∃ l4', rg Z (d + 4) rx_m12 32 [some (.ref a), some (.ref r), some (.ref l), some (.int (nI n)), some (.int 0)] [] (rz_mk h (rz_rw ι (a + 2) (rz_u T n 0)), w) = rg Z (d + 4) rx_m12 78 [some (.ref a), some (.ref r), some (.ref l), some (.int (nI n)), l4'] [] (rz_mk h (rz_rw ι (a + 2) (rz_u T n (tbV (ι (a + 1)) lv T n))), w) := by
  have hl' : ∀ G, rz_rw ι (a + 2) G r 4 = nI lv := fun G => by rw [rz_rw_n (by omega)]; exact hl
  have hne : ¬ n = 0 := by omega
  by_cases hs : nI n &&& (nI lv ^^^ (-1)) = 0
  · have L := rz_loopE (fun i => rg Z (d + 4) rx_m12 32 [some (.ref a), some (.ref r), some (.ref l), some (.int (nI n)), some (.int (nI i))] [] (rz_mk h (rz_rw ι (a + 2) (rz_u T n (lpI (bvF (ι (a + 1)) T n) 0 i))), w)) 9 (by
      intro i hi
      have c1 : ((8 : Int32) < nI i) = False := by rw [nI_Llt (by omega) (by decide)]; simp; omega
      have i1 : rz_ix (nI n) 2048 := rz_ix_nat (by omega) (by omega)
      have n1 := nI_cl (show n < 2147483648 by omega)
      try dsimp only
      rw [show lpI (bvF (ι (a + 1)) T n) 0 (i + 1) = bvF (ι (a + 1)) T n i (lpI (bvF (ι (a + 1)) T n) 0 i) from rfl]
      generalize lpI (bvF (ι (a + 1)) T n) 0 i = s
      have hg := ct_hung (Z := Z) (d := d + 2) (ι := rz_rw ι (a + 2) (rz_u T n s)) (w := w) ha h0 hn (show i ≤ 8 by omega)
      rw [rz_rw_s, rz_rw_n (show a + 1 ≠ a + 2 by omega), hgV_cong (B' := T) h0 hn (fun j hj => rz_u_n (by omega))] at hg
      rw [g12_32]
      simp (decide := true) (maxDischargeDepth := 4) only [g12_0, g12_1, g12_2, g12_3, g12_6, g12_7, g12_10, g12_11, g12_12, g12_13, g12_14, g12_16, g12_19, g12_22, g12_23, g12_26, g12_27, g12_28, g12_29, g12_30, g12_34, g12_36, g12_39, g12_40, g12_41, g12_44, g12_45, g12_46, g12_47, g12_50, g12_51, g12_54, g12_55, g12_56, g12_59, g12_60, g12_61, g12_62, g12_63, g12_65, g12_68, g12_71, g12_72, g12_75, g12_78, g12_81, g12_84, g12_85, g12_87, g12_89, g12_92, g12_93, g12_96, g12_97, g12_98, g12_99, g12_102, g12_105, g12_106, g12_109, g12_110, g12_111, g12_115, g12_117, g12_120, g12_121, g12_124, g12_125, g12_126, g12_129, g12_130, g12_133, g12_136, g12_137, g12_140, g12_141, g12_144, g12_147, g12_148, g12_149, rz_k_inl, rz_k_inr, Option.toList_some, Option.toList_none, List.cons_append, List.nil_append, List.append_nil, rz_up_s, rz_u_s, rz_up_n, rz_u_n, ne_eq, not_false_eq_true, not_true_eq_false, Nat.add_assoc, Nat.reduceAdd, reduceIte, Nat.add_eq_left, Nat.left_eq_add, Nat.add_left_cancel_iff, Nat.reduceEqDiff, Nat.add_right_cancel_iff, rz_nb0, rz_nb1, rz_nbb, rz_nbi, rz_isr, rz_zle, if_true, if_false, rz_bi0, rz_bi1, Bool.not_eq_true, Bool.not_eq_false, Bool.true_eq_false, Bool.false_eq_true, rz_ix_lit, cl_lit, Nat.reduceLT, bi_t, bi_f, decide_true, decide_false, Bool.not_false, Bool.not_true, Bool.and_true, Bool.true_and, Bool.and_false, Bool.false_and, oCt_c, oCt_f0, oCt_v0, oCt_f1, oCt_v1, oCt_f2, oCt_v2, oCt_f3, oCt_v3, oCt_f4, oCt_v4, oCt_f5, oCt_v5, oCt_a1, oCt_n1, oCt_a2, oCt_n2, oCt_a3, oCt_n3, oCt_a4, oCt_n4, oCt_a5, oCt_n5, oCt_a6, oCt_n6, oRl_c, oRl_f0, oRl_v0, oRl_f1, oRl_v1, oRl_f2, oRl_v2, oRl_i3, oRl_i4, oRl_i5, oRl_i6, oRl_i7, oRl_i8, oRl_a1, oRl_n1, oRl_a2, oRl_n2, oRl_a3, oRl_n3, ha, hr, hz, hl', c1, hs, hg, i1, n1, nI_1, rz_rw_s, rz_u_s, rz_rw_up, rz_u_u]
      rfl)
    try dsimp only at L
    refine ⟨some (.int (nI 9)), ?_⟩
    rw [show nI 0 = 0 from rfl] at L
    refine L.trans ?_
    rw [g12_32]
    simp (decide := true) (maxDischargeDepth := 4) only [g12_0, g12_1, g12_2, g12_3, g12_6, g12_7, g12_10, g12_11, g12_12, g12_13, g12_14, g12_16, g12_19, g12_22, g12_23, g12_26, g12_27, g12_28, g12_29, g12_30, g12_34, g12_36, g12_39, g12_40, g12_41, g12_44, g12_45, g12_46, g12_47, g12_50, g12_51, g12_54, g12_55, g12_56, g12_59, g12_60, g12_61, g12_62, g12_63, g12_65, g12_68, g12_71, g12_72, g12_75, g12_78, g12_81, g12_84, g12_85, g12_87, g12_89, g12_92, g12_93, g12_96, g12_97, g12_98, g12_99, g12_102, g12_105, g12_106, g12_109, g12_110, g12_111, g12_115, g12_117, g12_120, g12_121, g12_124, g12_125, g12_126, g12_129, g12_130, g12_133, g12_136, g12_137, g12_140, g12_141, g12_144, g12_147, g12_148, g12_149, rz_k_inl, rz_k_inr, Option.toList_some, Option.toList_none, List.cons_append, List.nil_append, List.append_nil, rz_up_s, rz_u_s, rz_up_n, rz_u_n, ne_eq, not_false_eq_true, not_true_eq_false, Nat.add_assoc, Nat.reduceAdd, reduceIte, Nat.add_eq_left, Nat.left_eq_add, Nat.add_left_cancel_iff, Nat.reduceEqDiff, Nat.add_right_cancel_iff, rz_nb0, rz_nb1, rz_nbb, rz_nbi, rz_isr, rz_zle, if_true, if_false, rz_bi0, rz_bi1, Bool.not_eq_true, Bool.not_eq_false, Bool.true_eq_false, Bool.false_eq_true, rz_ix_lit, cl_lit, Nat.reduceLT, bi_t, bi_f, decide_true, decide_false, Bool.not_false, Bool.not_true, Bool.and_true, Bool.true_and, Bool.and_false, Bool.false_and, show ((8 : Int32) < nI 9) = True by decide]
    rw [tbV, if_neg hne, if_pos hs]
    rfl
  · refine ⟨some (.int 0), ?_⟩
    rw [g12_32]
    simp (decide := true) (maxDischargeDepth := 4) only [g12_0, g12_1, g12_2, g12_3, g12_6, g12_7, g12_10, g12_11, g12_12, g12_13, g12_14, g12_16, g12_19, g12_22, g12_23, g12_26, g12_27, g12_28, g12_29, g12_30, g12_34, g12_36, g12_39, g12_40, g12_41, g12_44, g12_45, g12_46, g12_47, g12_50, g12_51, g12_54, g12_55, g12_56, g12_59, g12_60, g12_61, g12_62, g12_63, g12_65, g12_68, g12_71, g12_72, g12_75, g12_78, g12_81, g12_84, g12_85, g12_87, g12_89, g12_92, g12_93, g12_96, g12_97, g12_98, g12_99, g12_102, g12_105, g12_106, g12_109, g12_110, g12_111, g12_115, g12_117, g12_120, g12_121, g12_124, g12_125, g12_126, g12_129, g12_130, g12_133, g12_136, g12_137, g12_140, g12_141, g12_144, g12_147, g12_148, g12_149, rz_k_inl, rz_k_inr, Option.toList_some, Option.toList_none, List.cons_append, List.nil_append, List.append_nil, rz_up_s, rz_u_s, rz_up_n, rz_u_n, ne_eq, not_false_eq_true, not_true_eq_false, Nat.add_assoc, Nat.reduceAdd, reduceIte, Nat.add_eq_left, Nat.left_eq_add, Nat.add_left_cancel_iff, Nat.reduceEqDiff, Nat.add_right_cancel_iff, rz_nb0, rz_nb1, rz_nbb, rz_nbi, rz_isr, rz_zle, if_true, if_false, rz_bi0, rz_bi1, Bool.not_eq_true, Bool.not_eq_false, Bool.true_eq_false, Bool.false_eq_true, rz_ix_lit, cl_lit, Nat.reduceLT, bi_t, bi_f, decide_true, decide_false, Bool.not_false, Bool.not_true, Bool.and_true, Bool.true_and, Bool.and_false, Bool.false_and, oCt_c, oCt_f0, oCt_v0, oCt_f1, oCt_v1, oCt_f2, oCt_v2, oCt_f3, oCt_v3, oCt_f4, oCt_v4, oCt_f5, oCt_v5, oCt_a1, oCt_n1, oCt_a2, oCt_n2, oCt_a3, oCt_n3, oCt_a4, oCt_n4, oCt_a5, oCt_n5, oCt_a6, oCt_n6, oRl_c, oRl_f0, oRl_v0, oRl_f1, oRl_v1, oRl_f2, oRl_v2, oRl_i3, oRl_i4, oRl_i5, oRl_i6, oRl_i7, oRl_i8, oRl_a1, oRl_n1, oRl_a2, oRl_n2, oRl_a3, oRl_n3, ha, hr, hl', hs]
    rw [tbV, if_neg hne, if_neg hs]
theorem ct_hang (ha : oCt h a) (hz : Z.2.1 ≤ a) (hr : oRl h r) (hra : a + 7 ≤ r) (hl : ι r 4 = nI lv) (hlv : lv < 256) {ι0 : Nat → Nat → Int32} (hms : rz_f Z (d + 4) 10 [.ref a, .ref r, .ref l] (rz_mk h ι0, w) = some (.inl none, (rz_mk h ι, w))) : rz_f Z (d + 5) 12 [.ref a, .ref r, .ref l] (rz_mk h ι0, w) = some (.inl (some (.int (tbK (ι (a + 1)) lv (ι (a + 2)) 256 lv))), (rz_mk h (rz_rw (rz_rw ι (a + 2) (tbK (ι (a + 1)) lv (ι (a + 2)) 256)) (a + 5) (hgI (ι (a + 1)) (tbK (ι (a + 1)) lv (ι (a + 2)) 256) 8 (lv, mnK (ι (a + 5)) 8)).2), w)) := by
  -- the table
  have L := rz_loop (fun n (l4 : Option Value) => rg Z (d + 4) rx_m12 15 [some (.ref a), some (.ref r), some (.ref l), some (.int (nI n)), l4] [] (rz_mk h (rz_rw ι (a + 2) (tbK (ι (a + 1)) lv (ι (a + 2)) n)), w)) 256 (fun n _ => 0 < n) (by
    intro n l4 hn h0
    have c1 : (nI n < 256) = True := by rw [nI_ltL (by omega) (by decide)]; simp [hn]
    have i1 : rz_ix (nI n) 2048 := rz_ix_nat (by omega) (by omega)
    have n1 := nI_cl (show n < 2147483648 by omega)
    obtain ⟨l4', g⟩ := ct_hang_in (Z := Z) (d := d) (ι := ι) (w := w) (l := l) ha hz hr hra hl h0 hn (tbK (ι (a + 1)) lv (ι (a + 2)) n)
    refine ⟨l4', by omega, ?_⟩
    try dsimp only
    rw [g12_15]
    simp (decide := true) (maxDischargeDepth := 4) only [g12_0, g12_1, g12_2, g12_3, g12_6, g12_7, g12_10, g12_11, g12_12, g12_13, g12_14, g12_16, g12_19, g12_22, g12_23, g12_26, g12_27, g12_28, g12_29, g12_30, g12_34, g12_36, g12_39, g12_40, g12_41, g12_44, g12_45, g12_46, g12_47, g12_50, g12_51, g12_54, g12_55, g12_56, g12_59, g12_60, g12_61, g12_62, g12_63, g12_65, g12_68, g12_71, g12_72, g12_75, g12_78, g12_81, g12_84, g12_85, g12_87, g12_89, g12_92, g12_93, g12_96, g12_97, g12_98, g12_99, g12_102, g12_105, g12_106, g12_109, g12_110, g12_111, g12_115, g12_117, g12_120, g12_121, g12_124, g12_125, g12_126, g12_129, g12_130, g12_133, g12_136, g12_137, g12_140, g12_141, g12_144, g12_147, g12_148, g12_149, rz_k_inl, rz_k_inr, Option.toList_some, Option.toList_none, List.cons_append, List.nil_append, List.append_nil, rz_up_s, rz_u_s, rz_up_n, rz_u_n, ne_eq, not_false_eq_true, not_true_eq_false, Nat.add_assoc, Nat.reduceAdd, reduceIte, Nat.add_eq_left, Nat.left_eq_add, Nat.add_left_cancel_iff, Nat.reduceEqDiff, Nat.add_right_cancel_iff, rz_nb0, rz_nb1, rz_nbb, rz_nbi, rz_isr, rz_zle, if_true, if_false, rz_bi0, rz_bi1, Bool.not_eq_true, Bool.not_eq_false, Bool.true_eq_false, Bool.false_eq_true, rz_ix_lit, cl_lit, Nat.reduceLT, bi_t, bi_f, decide_true, decide_false, Bool.not_false, Bool.not_true, Bool.and_true, Bool.true_and, Bool.and_false, Bool.false_and, oCt_c, oCt_f0, oCt_v0, oCt_f1, oCt_v1, oCt_f2, oCt_v2, oCt_f3, oCt_v3, oCt_f4, oCt_v4, oCt_f5, oCt_v5, oCt_a1, oCt_n1, oCt_a2, oCt_n2, oCt_a3, oCt_n3, oCt_a4, oCt_n4, oCt_a5, oCt_n5, oCt_a6, oCt_n6, ha, hz, c1, i1, n1, rz_rw_up]
    rw [g]
    simp (decide := true) (maxDischargeDepth := 4) only [g12_78, g12_81, rz_k_inl, rz_k_inr, Option.toList_some, Option.toList_none, List.cons_append, List.nil_append, List.append_nil, rz_up_s, rz_u_s, rz_up_n, rz_u_n, ne_eq, not_false_eq_true, not_true_eq_false, Nat.add_assoc, Nat.reduceAdd, reduceIte, Nat.add_eq_left, Nat.left_eq_add, Nat.add_left_cancel_iff, Nat.reduceEqDiff, Nat.add_right_cancel_iff, rz_nb0, rz_nb1, rz_nbb, rz_nbi, rz_isr, rz_zle, if_true, if_false, rz_bi0, rz_bi1, Bool.not_eq_true, Bool.not_eq_false, Bool.true_eq_false, Bool.false_eq_true, rz_ix_lit, cl_lit, Nat.reduceLT, bi_t, bi_f, decide_true, decide_false, Bool.not_false, Bool.not_true, Bool.and_true, Bool.true_and, Bool.and_false, Bool.false_and, nI_1]
    rfl) 255 1 none (by omega) (by omega)
  obtain ⟨l4, _, L⟩ := L
  try dsimp only at L
  generalize hB : tbK (ι (a + 1)) lv (ι (a + 2)) 256 = B at L ⊢
  -- nobody has a mate
  have M := rz_loopE (fun n => rg Z (d + 4) rx_m12 86 [some (.ref a), some (.ref r), some (.ref l), some (.int (nI n)), l4] [] (rz_mk h (rz_rw (rz_rw ι (a + 2) B) (a + 5) (mnK (ι (a + 5)) n)), w)) 8 (by
    intro n hn
    have c1 : (nI n < 8) = True := by rw [nI_ltL (by omega) (by decide)]; simp [hn]
    have i1 : rz_ix (nI n) 8 := rz_ix_nat (by omega) (by omega)
    have n1 := nI_cl (show n < 2147483648 by omega)
    try dsimp only
    rw [g12_86]
    simp (decide := true) (maxDischargeDepth := 4) only [g12_0, g12_1, g12_2, g12_3, g12_6, g12_7, g12_10, g12_11, g12_12, g12_13, g12_14, g12_16, g12_19, g12_22, g12_23, g12_26, g12_27, g12_28, g12_29, g12_30, g12_34, g12_36, g12_39, g12_40, g12_41, g12_44, g12_45, g12_46, g12_47, g12_50, g12_51, g12_54, g12_55, g12_56, g12_59, g12_60, g12_61, g12_62, g12_63, g12_65, g12_68, g12_71, g12_72, g12_75, g12_78, g12_81, g12_84, g12_85, g12_87, g12_89, g12_92, g12_93, g12_96, g12_97, g12_98, g12_99, g12_102, g12_105, g12_106, g12_109, g12_110, g12_111, g12_115, g12_117, g12_120, g12_121, g12_124, g12_125, g12_126, g12_129, g12_130, g12_133, g12_136, g12_137, g12_140, g12_141, g12_144, g12_147, g12_148, g12_149, rz_k_inl, rz_k_inr, Option.toList_some, Option.toList_none, List.cons_append, List.nil_append, List.append_nil, rz_up_s, rz_u_s, rz_up_n, rz_u_n, ne_eq, not_false_eq_true, not_true_eq_false, Nat.add_assoc, Nat.reduceAdd, reduceIte, Nat.add_eq_left, Nat.left_eq_add, Nat.add_left_cancel_iff, Nat.reduceEqDiff, Nat.add_right_cancel_iff, rz_nb0, rz_nb1, rz_nbb, rz_nbi, rz_isr, rz_zle, if_true, if_false, rz_bi0, rz_bi1, Bool.not_eq_true, Bool.not_eq_false, Bool.true_eq_false, Bool.false_eq_true, rz_ix_lit, cl_lit, Nat.reduceLT, bi_t, bi_f, decide_true, decide_false, Bool.not_false, Bool.not_true, Bool.and_true, Bool.true_and, Bool.and_false, Bool.false_and, oCt_c, oCt_f0, oCt_v0, oCt_f1, oCt_v1, oCt_f2, oCt_v2, oCt_f3, oCt_v3, oCt_f4, oCt_v4, oCt_f5, oCt_v5, oCt_a1, oCt_n1, oCt_a2, oCt_n2, oCt_a3, oCt_n3, oCt_a4, oCt_n4, oCt_a5, oCt_n5, oCt_a6, oCt_n6, ha, hz, c1, i1, n1, rz_rw_up, nI_1]
    rfl)
  try dsimp only at M
  have e0 : rz_rw (rz_rw ι (a + 2) B) (a + 5) (mnK (ι (a + 5)) 0) = rz_rw ι (a + 2) B := rz_rw_id (by rw [rz_rw_n (by omega)]; rfl)
  rw [e0] at M
  -- the mates
  have H : ∀ (k i : Nat) (s : Nat × (Nat → Int32)), i + k = 8 → s.1 < 256 → ∃ i', rg Z (d + 4) rx_m12 113 [some (.ref a), some (.ref r), some (.ref l), some (.int (nI s.1)), some (.int (nI i))] [] (rz_mk h (rz_rw (rz_rw ι (a + 2) B) (a + 5) s.2), w) = rg Z (d + 4) rx_m12 136 [some (.ref a), some (.ref r), some (.ref l), some (.int (nI (hgI (ι (a + 1)) B k s).1)), some (.int (nI i'))] [] (rz_mk h (rz_rw (rz_rw ι (a + 2) B) (a + 5) (hgI (ι (a + 1)) B k s).2), w) := by
    intro k
    induction k with
    | zero =>
      intro i s hi hs
      have : i = 8 := by omega
      subst this
      refine ⟨8, ?_⟩
      rw [g12_113]
      simp (decide := true) (maxDischargeDepth := 4) only [g12_0, g12_1, g12_2, g12_3, g12_6, g12_7, g12_10, g12_11, g12_12, g12_13, g12_14, g12_16, g12_19, g12_22, g12_23, g12_26, g12_27, g12_28, g12_29, g12_30, g12_34, g12_36, g12_39, g12_40, g12_41, g12_44, g12_45, g12_46, g12_47, g12_50, g12_51, g12_54, g12_55, g12_56, g12_59, g12_60, g12_61, g12_62, g12_63, g12_65, g12_68, g12_71, g12_72, g12_75, g12_78, g12_81, g12_84, g12_85, g12_87, g12_89, g12_92, g12_93, g12_96, g12_97, g12_98, g12_99, g12_102, g12_105, g12_106, g12_109, g12_110, g12_111, g12_115, g12_117, g12_120, g12_121, g12_124, g12_125, g12_126, g12_129, g12_130, g12_133, g12_136, g12_137, g12_140, g12_141, g12_144, g12_147, g12_148, g12_149, rz_k_inl, rz_k_inr, Option.toList_some, Option.toList_none, List.cons_append, List.nil_append, List.append_nil, rz_up_s, rz_u_s, rz_up_n, rz_u_n, ne_eq, not_false_eq_true, not_true_eq_false, Nat.add_assoc, Nat.reduceAdd, reduceIte, Nat.add_eq_left, Nat.left_eq_add, Nat.add_left_cancel_iff, Nat.reduceEqDiff, Nat.add_right_cancel_iff, rz_nb0, rz_nb1, rz_nbb, rz_nbi, rz_isr, rz_zle, if_true, if_false, rz_bi0, rz_bi1, Bool.not_eq_true, Bool.not_eq_false, Bool.true_eq_false, Bool.false_eq_true, rz_ix_lit, cl_lit, Nat.reduceLT, bi_t, bi_f, decide_true, decide_false, Bool.not_false, Bool.not_true, Bool.and_true, Bool.true_and, Bool.and_false, Bool.false_and, show (nI 8 < 8) = False by decide]
      rfl
    | succ k ih =>
      intro i s hi hs
      have c1 : (nI i < 8) = True := by rw [nI_ltL (by omega) (by decide)]; simp; omega
      by_cases hs0 : s.1 = 0
      · refine ⟨i, ?_⟩
        have c2 : (nI s.1 = 0) = True := by rw [hs0]; decide
        rw [g12_113]
        simp (decide := true) (maxDischargeDepth := 4) only [g12_0, g12_1, g12_2, g12_3, g12_6, g12_7, g12_10, g12_11, g12_12, g12_13, g12_14, g12_16, g12_19, g12_22, g12_23, g12_26, g12_27, g12_28, g12_29, g12_30, g12_34, g12_36, g12_39, g12_40, g12_41, g12_44, g12_45, g12_46, g12_47, g12_50, g12_51, g12_54, g12_55, g12_56, g12_59, g12_60, g12_61, g12_62, g12_63, g12_65, g12_68, g12_71, g12_72, g12_75, g12_78, g12_81, g12_84, g12_85, g12_87, g12_89, g12_92, g12_93, g12_96, g12_97, g12_98, g12_99, g12_102, g12_105, g12_106, g12_109, g12_110, g12_111, g12_115, g12_117, g12_120, g12_121, g12_124, g12_125, g12_126, g12_129, g12_130, g12_133, g12_136, g12_137, g12_140, g12_141, g12_144, g12_147, g12_148, g12_149, rz_k_inl, rz_k_inr, Option.toList_some, Option.toList_none, List.cons_append, List.nil_append, List.append_nil, rz_up_s, rz_u_s, rz_up_n, rz_u_n, ne_eq, not_false_eq_true, not_true_eq_false, Nat.add_assoc, Nat.reduceAdd, reduceIte, Nat.add_eq_left, Nat.left_eq_add, Nat.add_left_cancel_iff, Nat.reduceEqDiff, Nat.add_right_cancel_iff, rz_nb0, rz_nb1, rz_nbb, rz_nbi, rz_isr, rz_zle, if_true, if_false, rz_bi0, rz_bi1, Bool.not_eq_true, Bool.not_eq_false, Bool.true_eq_false, Bool.false_eq_true, rz_ix_lit, cl_lit, Nat.reduceLT, bi_t, bi_f, decide_true, decide_false, Bool.not_false, Bool.not_true, Bool.and_true, Bool.true_and, Bool.and_false, Bool.false_and, c1, c2]
        rw [hgI, if_pos hs0]
      · obtain ⟨i', g⟩ := ih (i + 1) (hgS (ι (a + 1)) B s) (by omega) (hgS_lt hs)
        refine ⟨i', ?_⟩
        have c2 : (nI s.1 = 0) = False := by rw [nI_eqL (by omega) (by decide)]; simp [hs0]
        have hf := ct_hangFirst (Z := Z) (d := d + 1) (ι := rz_rw (rz_rw ι (a + 2) B) (a + 5) s.2) (w := w) ha hz (show 0 < s.1 by omega) hs
        rw [rz_rw_s, rz_rw_n (show a + 1 ≠ a + 5 by omega), rz_rw_n (show a + 1 ≠ a + 2 by omega), rz_rw_n (show a + 2 ≠ a + 5 by omega), rz_rw_s, rz_rw_rw] at hf
        rw [g12_113]
        simp (decide := true) (maxDischargeDepth := 4) only [g12_115, g12_117, g12_120, g12_121, g12_124, g12_125, g12_126, g12_129, g12_130, g12_133, rz_k_inl, rz_k_inr, Option.toList_some, Option.toList_none, List.cons_append, List.nil_append, List.append_nil, rz_up_s, rz_u_s, rz_up_n, rz_u_n, ne_eq, not_false_eq_true, not_true_eq_false, Nat.add_assoc, Nat.reduceAdd, reduceIte, Nat.add_eq_left, Nat.left_eq_add, Nat.add_left_cancel_iff, Nat.reduceEqDiff, Nat.add_right_cancel_iff, rz_nb0, rz_nb1, rz_nbb, rz_nbi, rz_isr, rz_zle, if_true, if_false, rz_bi0, rz_bi1, Bool.not_eq_true, Bool.not_eq_false, Bool.true_eq_false, Bool.false_eq_true, rz_ix_lit, cl_lit, Nat.reduceLT, bi_t, bi_f, decide_true, decide_false, Bool.not_false, Bool.not_true, Bool.and_true, Bool.true_and, Bool.and_false, Bool.false_and, oCt_c, oCt_f0, oCt_v0, oCt_f1, oCt_v1, oCt_f2, oCt_v2, oCt_f3, oCt_v3, oCt_f4, oCt_v4, oCt_f5, oCt_v5, oCt_a1, oCt_n1, oCt_a2, oCt_n2, oCt_a3, oCt_n3, oCt_a4, oCt_n4, oCt_a5, oCt_n5, oCt_a6, oCt_n6, ha, c1, c2, hf, nI_1]
        rw [hgI, if_neg hs0]
        exact g
  obtain ⟨i', G⟩ := H 8 0 (lv, mnK (ι (a + 5)) 8) (by omega) hlv
  try dsimp only at G
  rw [show nI 0 = 0 from rfl] at G M
  have t1 : rz_rw ι (a + 2) (rz_u (ι (a + 2)) 0 0) = rz_rw ι (a + 2) (tbK (ι (a + 1)) lv (ι (a + 2)) 1) := rfl
  have hl1 : ∀ f g, rz_rw (rz_rw ι (a + 2) f) (a + 5) g r 4 = nI lv := fun f g => by rw [rz_rw_n (by omega), rz_rw_n (by omega)]; exact hl
  rw [e12]
  simp (decide := true) (maxDischargeDepth := 4) only [g12_0, g12_1, g12_2, g12_3, g12_6, g12_7, g12_10, g12_11, g12_12, g12_13, g12_14, g12_16, g12_19, g12_22, g12_23, g12_26, g12_27, g12_28, g12_29, g12_30, g12_34, g12_36, g12_39, g12_40, g12_41, g12_44, g12_45, g12_46, g12_47, g12_50, g12_51, g12_54, g12_55, g12_56, g12_59, g12_60, g12_61, g12_62, g12_63, g12_65, g12_68, g12_71, g12_72, g12_75, g12_78, g12_81, g12_84, g12_85, g12_87, g12_89, g12_92, g12_93, g12_96, g12_97, g12_98, g12_99, g12_102, g12_105, g12_106, g12_109, g12_110, g12_111, g12_115, g12_117, g12_120, g12_121, g12_124, g12_125, g12_126, g12_129, g12_130, g12_133, g12_136, g12_137, g12_140, g12_141, g12_144, g12_147, g12_148, g12_149, rz_k_inl, rz_k_inr, Option.toList_some, Option.toList_none, List.cons_append, List.nil_append, List.append_nil, rz_up_s, rz_u_s, rz_up_n, rz_u_n, ne_eq, not_false_eq_true, not_true_eq_false, Nat.add_assoc, Nat.reduceAdd, reduceIte, Nat.add_eq_left, Nat.left_eq_add, Nat.add_left_cancel_iff, Nat.reduceEqDiff, Nat.add_right_cancel_iff, rz_nb0, rz_nb1, rz_nbb, rz_nbi, rz_isr, rz_zle, if_true, if_false, rz_bi0, rz_bi1, Bool.not_eq_true, Bool.not_eq_false, Bool.true_eq_false, Bool.false_eq_true, rz_ix_lit, cl_lit, Nat.reduceLT, bi_t, bi_f, decide_true, decide_false, Bool.not_false, Bool.not_true, Bool.and_true, Bool.true_and, Bool.and_false, Bool.false_and, oCt_c, oCt_f0, oCt_v0, oCt_f1, oCt_v1, oCt_f2, oCt_v2, oCt_f3, oCt_v3, oCt_f4, oCt_v4, oCt_f5, oCt_v5, oCt_a1, oCt_n1, oCt_a2, oCt_n2, oCt_a3, oCt_n3, oCt_a4, oCt_n4, oCt_a5, oCt_n5, oCt_a6, oCt_n6, ha, hz, hms, rz_up_rw, t1]
  rw [show (1 : Int32) = nI 1 from rfl]
  refine L.trans ?_
  rw [g12_15]
  simp (decide := true) (maxDischargeDepth := 4) only [g12_0, g12_1, g12_2, g12_3, g12_6, g12_7, g12_10, g12_11, g12_12, g12_13, g12_14, g12_16, g12_19, g12_22, g12_23, g12_26, g12_27, g12_28, g12_29, g12_30, g12_34, g12_36, g12_39, g12_40, g12_41, g12_44, g12_45, g12_46, g12_47, g12_50, g12_51, g12_54, g12_55, g12_56, g12_59, g12_60, g12_61, g12_62, g12_63, g12_65, g12_68, g12_71, g12_72, g12_75, g12_78, g12_81, g12_84, g12_85, g12_87, g12_89, g12_92, g12_93, g12_96, g12_97, g12_98, g12_99, g12_102, g12_105, g12_106, g12_109, g12_110, g12_111, g12_115, g12_117, g12_120, g12_121, g12_124, g12_125, g12_126, g12_129, g12_130, g12_133, g12_136, g12_137, g12_140, g12_141, g12_144, g12_147, g12_148, g12_149, rz_k_inl, rz_k_inr, Option.toList_some, Option.toList_none, List.cons_append, List.nil_append, List.append_nil, rz_up_s, rz_u_s, rz_up_n, rz_u_n, ne_eq, not_false_eq_true, not_true_eq_false, Nat.add_assoc, Nat.reduceAdd, reduceIte, Nat.add_eq_left, Nat.left_eq_add, Nat.add_left_cancel_iff, Nat.reduceEqDiff, Nat.add_right_cancel_iff, rz_nb0, rz_nb1, rz_nbb, rz_nbi, rz_isr, rz_zle, if_true, if_false, rz_bi0, rz_bi1, Bool.not_eq_true, Bool.not_eq_false, Bool.true_eq_false, Bool.false_eq_true, rz_ix_lit, cl_lit, Nat.reduceLT, bi_t, bi_f, decide_true, decide_false, Bool.not_false, Bool.not_true, Bool.and_true, Bool.true_and, Bool.and_false, Bool.false_and, show (nI 256 < 256) = False by decide]
  refine M.trans ?_
  rw [g12_86]
  simp (decide := true) (maxDischargeDepth := 4) only [g12_0, g12_1, g12_2, g12_3, g12_6, g12_7, g12_10, g12_11, g12_12, g12_13, g12_14, g12_16, g12_19, g12_22, g12_23, g12_26, g12_27, g12_28, g12_29, g12_30, g12_34, g12_36, g12_39, g12_40, g12_41, g12_44, g12_45, g12_46, g12_47, g12_50, g12_51, g12_54, g12_55, g12_56, g12_59, g12_60, g12_61, g12_62, g12_63, g12_65, g12_68, g12_71, g12_72, g12_75, g12_78, g12_81, g12_84, g12_85, g12_87, g12_89, g12_92, g12_93, g12_96, g12_97, g12_98, g12_99, g12_102, g12_105, g12_106, g12_109, g12_110, g12_111, g12_115, g12_117, g12_120, g12_121, g12_124, g12_125, g12_126, g12_129, g12_130, g12_133, g12_136, g12_137, g12_140, g12_141, g12_144, g12_147, g12_148, g12_149, rz_k_inl, rz_k_inr, Option.toList_some, Option.toList_none, List.cons_append, List.nil_append, List.append_nil, rz_up_s, rz_u_s, rz_up_n, rz_u_n, ne_eq, not_false_eq_true, not_true_eq_false, Nat.add_assoc, Nat.reduceAdd, reduceIte, Nat.add_eq_left, Nat.left_eq_add, Nat.add_left_cancel_iff, Nat.reduceEqDiff, Nat.add_right_cancel_iff, rz_nb0, rz_nb1, rz_nbb, rz_nbi, rz_isr, rz_zle, if_true, if_false, rz_bi0, rz_bi1, Bool.not_eq_true, Bool.not_eq_false, Bool.true_eq_false, Bool.false_eq_true, rz_ix_lit, cl_lit, Nat.reduceLT, bi_t, bi_f, decide_true, decide_false, Bool.not_false, Bool.not_true, Bool.and_true, Bool.true_and, Bool.and_false, Bool.false_and, oRl_c, oRl_f0, oRl_v0, oRl_f1, oRl_v1, oRl_f2, oRl_v2, oRl_i3, oRl_i4, oRl_i5, oRl_i6, oRl_i7, oRl_i8, oRl_a1, oRl_n1, oRl_a2, oRl_n2, oRl_a3, oRl_n3, hr, hl1, show (nI 8 < 8) = False by decide]
  refine G.trans ?_
  have i1 : rz_ix (nI lv) 2048 := rz_ix_nat (by omega) (by omega)
  have n1 := nI_cl (show lv < 2147483648 by omega)
  simp (decide := true) (maxDischargeDepth := 4) only [g12_0, g12_1, g12_2, g12_3, g12_6, g12_7, g12_10, g12_11, g12_12, g12_13, g12_14, g12_16, g12_19, g12_22, g12_23, g12_26, g12_27, g12_28, g12_29, g12_30, g12_34, g12_36, g12_39, g12_40, g12_41, g12_44, g12_45, g12_46, g12_47, g12_50, g12_51, g12_54, g12_55, g12_56, g12_59, g12_60, g12_61, g12_62, g12_63, g12_65, g12_68, g12_71, g12_72, g12_75, g12_78, g12_81, g12_84, g12_85, g12_87, g12_89, g12_92, g12_93, g12_96, g12_97, g12_98, g12_99, g12_102, g12_105, g12_106, g12_109, g12_110, g12_111, g12_115, g12_117, g12_120, g12_121, g12_124, g12_125, g12_126, g12_129, g12_130, g12_133, g12_136, g12_137, g12_140, g12_141, g12_144, g12_147, g12_148, g12_149, rz_k_inl, rz_k_inr, Option.toList_some, Option.toList_none, List.cons_append, List.nil_append, List.append_nil, rz_up_s, rz_u_s, rz_up_n, rz_u_n, ne_eq, not_false_eq_true, not_true_eq_false, Nat.add_assoc, Nat.reduceAdd, reduceIte, Nat.add_eq_left, Nat.left_eq_add, Nat.add_left_cancel_iff, Nat.reduceEqDiff, Nat.add_right_cancel_iff, rz_nb0, rz_nb1, rz_nbb, rz_nbi, rz_isr, rz_zle, if_true, if_false, rz_bi0, rz_bi1, Bool.not_eq_true, Bool.not_eq_false, Bool.true_eq_false, Bool.false_eq_true, rz_ix_lit, cl_lit, Nat.reduceLT, bi_t, bi_f, decide_true, decide_false, Bool.not_false, Bool.not_true, Bool.and_true, Bool.true_and, Bool.and_false, Bool.false_and, oCt_c, oCt_f0, oCt_v0, oCt_f1, oCt_v1, oCt_f2, oCt_v2, oCt_f3, oCt_v3, oCt_f4, oCt_v4, oCt_f5, oCt_v5, oCt_a1, oCt_n1, oCt_a2, oCt_n2, oCt_a3, oCt_n3, oCt_a4, oCt_n4, oCt_a5, oCt_n5, oCt_a6, oCt_n6, oRl_c, oRl_f0, oRl_v0, oRl_f1, oRl_v1, oRl_f2, oRl_v2, oRl_i3, oRl_i4, oRl_i5, oRl_i6, oRl_i7, oRl_i8, oRl_a1, oRl_n1, oRl_a2, oRl_n2, oRl_a3, oRl_n3, ha, hr, hl1, an255 lv hlv, i1, n1]
  rw [rz_rw_n (show a + 2 ≠ a + 5 by omega), rz_rw_s]
end COURT3
