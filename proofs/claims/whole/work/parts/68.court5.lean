/-! the court: the longest row -/
def stN (n i : Nat) : Nat := if n.testBit i then n else n + 2 ^ i
theorem stN_I : ∀ n, n < 256 → ∀ i, i < 8 → nI n ||| ((1 : Int32) <<< (nI i &&& 31)) = nI (stN n i) := by decide +kernel
theorem stN_256 : ∀ n, n < 256 → ∀ i, i < 8 → stN n i < 256 := by decide +kernel
theorem stN_lt {n i : Nat} (h : n.testBit i = false) : n < stN n i := by
  unfold stN
  rw [if_neg (by rw [h]; decide)]
  have := Nat.two_pow_pos i
  omega
/-- p may stand behind the last of a crowd -/
def frB (F : Nat → Int32) (lv cr : Nat) (la : Option Nat) (n : Int32) (p : Nat) : Bool := lv.testBit p && !cr.testBit p && (match la with
  | none => true
  | some x => !decide (F (p * 8 + x) < n))
def foF (F B : Nat → Int32) (lv cr : Nat) (la : Option Nat) (n : Int32) (p : Nat) (s : Option Nat × Int32) : Option Nat × Int32 := if frB F lv cr la n p = true then (if s.2 < B (stN cr p * 8 + p) then some p else s.1, if s.2 < B (stN cr p * 8 + p) then B (stN cr p * 8 + p) else s.2) else s
def foS (F B : Nat → Int32) (lv cr : Nat) (la : Option Nat) (n : Int32) : Option Nat := (lpI (foF F B lv cr la n) (none, 0) 8).1
theorem foF_lt {F B : Nat → Int32} {lv cr : Nat} {la : Option Nat} {n : Int32} : ∀ k, k ≤ 8 → ∀ x, (lpI (foF F B lv cr la n) (none, 0) k).1 = some x → x < k ∧ lv.testBit x = true ∧ cr.testBit x = false
  | 0, _, x, e => by cases e
  | k + 1, hk, x, e => by
    have e : (foF F B lv cr la n k (lpI (foF F B lv cr la n) (none, 0) k)).1 = some x := e
    unfold foF at e
    split at e
    · rename_i hb
      have e : (if (lpI (foF F B lv cr la n) (none, 0) k).2 < B (stN cr k * 8 + k) then some k else (lpI (foF F B lv cr la n) (none, 0) k).1) = some x := e
      split at e
      · cases e
        simp only [frB, Bool.and_eq_true, Bool.not_eq_true'] at hb
        exact ⟨by omega, hb.1.1, hb.1.2⟩
      · have := foF_lt k (by omega) x e
        exact ⟨by omega, this.2⟩
    · have := foF_lt k (by omega) x e
      exact ⟨by omega, this.2⟩
theorem foS_lt {F B : Nat → Int32} {lv cr : Nat} {la : Option Nat} {n : Int32} {x : Nat} (e : foS F B lv cr la n = some x) : x < 8 ∧ lv.testBit x = true ∧ cr.testBit x = false := foF_lt 8 (by omega) x e
def loS (F B : Nat → Int32) (lv cr : Nat) (la : Option Nat) (n : Int32) : Int32 := match foS F B lv cr la n with
  | none => 1
  | some x => 1 + B (stN cr x * 8 + x)
section COURT5
variable {Z : rx_Z} {d : Nat} {h : Nat → Option rx_E} {ι : Nat → Nat → Int32} {w : Nat × Nat} {a lv cr : Nat} {la : Option Nat}
theorem ct_follower (ha : oCt h a) (hlv : lv < 256) (hcr : cr < 256) (hla : ∀ x, la = some x → x < 8) (n : Int32) : rz_f Z (d + 1) 17 [.ref a, .int (nI lv), .int (nI cr), .int (oN la), .int n] (rz_mk h ι, w) = some (.inl (some (.int (oN (foS (ι (a + 1)) (ι (a + 2)) lv cr la n)))), (rz_mk h ι, w)) := by
  have L := rz_loop (fun p (x : Option Value × Option Value) => rg Z d rx_m17 9 [some (.ref a), some (.int (nI lv)), some (.int (nI cr)), some (.int (oN la)), some (.int n), some (.int (oN (lpI (foF (ι (a + 1)) (ι (a + 2)) lv cr la n) (none, 0) p).1)), some (.int (lpI (foF (ι (a + 1)) (ι (a + 2)) lv cr la n) (none, 0) p).2), some (.int (nI p)), x.1, x.2] [] (rz_mk h ι, w)) 8 (fun _ _ => True) (by
    rintro p ⟨l8, l9⟩ hp _
    have c1 : (nI p < 8) = True := by rw [nI_ltL (by omega) (by decide)]; simp [hp]
    try dsimp only
    rw [show lpI (foF (ι (a + 1)) (ι (a + 2)) lv cr la n) (none, 0) (p + 1) = foF (ι (a + 1)) (ι (a + 2)) lv cr la n p (lpI (foF (ι (a + 1)) (ι (a + 2)) lv cr la n) (none, 0) p) from rfl]
    generalize lpI (foF (ι (a + 1)) (ι (a + 2)) lv cr la n) (none, 0) p = s
    obtain ⟨s1, s2⟩ := s
    have b1 := sh_bit (n := lv) (i := p) (by omega)
    have b2 := sh_bit (n := cr) (i := p) (by omega)
    have o1 := stN_I cr hcr p hp
    have o2 := stN_256 cr hcr p hp
    have i1 : rz_ix (nI (stN cr p * 8 + p)) 2048 := rz_ix_nat (by omega) (by omega)
    have n1 := nI_cl (show stN cr p * 8 + p < 2147483648 by omega)
    have n2 : nI (stN cr p) * 8 + nI p = nI (stN cr p * 8 + p) := by rw [show nI (stN cr p) * 8 = nI (stN cr p * 8) from pk_mul _ 8, nI_add]
    by_cases h1 : lv.testBit p = true
    · rw [if_pos h1] at b1
      by_cases h2 : cr.testBit p = true
      · rw [if_pos h2] at b2
        refine ⟨(some (.int 0), l9), trivial, ?_⟩
        have e : frB (ι (a + 1)) lv cr la n p = false := by simp [frB, h2]
        rw [foF, e, if_neg (by decide)]
        rw [g17_9]
        simp (decide := true) (maxDischargeDepth := 4) only [g17_0, g17_1, g17_3, g17_4, g17_6, g17_7, g17_11, g17_13, g17_16, g17_17, g17_19, g17_20, g17_21, g17_22, g17_23, g17_26, g17_27, g17_29, g17_30, g17_31, g17_32, g17_35, g17_36, g17_39, g17_40, g17_42, g17_44, g17_47, g17_48, g17_49, g17_52, g17_53, g17_56, g17_58, g17_60, g17_61, g17_62, g17_63, g17_64, g17_66, g17_69, g17_70, g17_73, g17_74, g17_75, g17_77, g17_78, g17_79, g17_81, g17_82, g17_84, g17_85, g17_86, g17_88, g17_90, g17_92, g17_95, g17_97, g17_100, g17_102, g17_104, g17_106, g17_108, g17_111, g17_113, g17_116, g17_119, g17_121, rz_k_inl, rz_k_inr, Option.toList_some, Option.toList_none, List.cons_append, List.nil_append, List.append_nil, rz_up_s, rz_u_s, rz_up_n, rz_u_n, ne_eq, not_false_eq_true, not_true_eq_false, Nat.add_assoc, Nat.reduceAdd, reduceIte, Nat.add_eq_left, Nat.left_eq_add, Nat.add_left_cancel_iff, Nat.reduceEqDiff, Nat.add_right_cancel_iff, rz_nb0, rz_nb1, rz_nbb, rz_nbi, rz_isr, rz_zle, if_true, if_false, rz_bi0, rz_bi1, Bool.not_eq_true, Bool.not_eq_false, Bool.true_eq_false, Bool.false_eq_true, rz_ix_lit, cl_lit, Nat.reduceLT, bi_t, bi_f, decide_true, decide_false, Bool.not_false, Bool.not_true, Bool.and_true, Bool.true_and, Bool.and_false, Bool.false_and, c1, b1, b2, nI_1]
      · rw [if_neg h2] at b2
        rw [Bool.not_eq_true] at h2
        cases la with
        | none =>
          have e : frB (ι (a + 1)) lv cr none n p = true := by simp [frB, h1, h2]
          refine ⟨(some (.int 1), some (.int (ι (a + 2) (stN cr p * 8 + p)))), trivial, ?_⟩
          rw [foF, if_pos e]
          rw [g17_9]
          by_cases h4 : s2 < ι (a + 2) (stN cr p * 8 + p)
          · simp (decide := true) (maxDischargeDepth := 4) only [g17_0, g17_1, g17_3, g17_4, g17_6, g17_7, g17_11, g17_13, g17_16, g17_17, g17_19, g17_20, g17_21, g17_22, g17_23, g17_26, g17_27, g17_29, g17_30, g17_31, g17_32, g17_35, g17_36, g17_39, g17_40, g17_42, g17_44, g17_47, g17_48, g17_49, g17_52, g17_53, g17_56, g17_58, g17_60, g17_61, g17_62, g17_63, g17_64, g17_66, g17_69, g17_70, g17_73, g17_74, g17_75, g17_77, g17_78, g17_79, g17_81, g17_82, g17_84, g17_85, g17_86, g17_88, g17_90, g17_92, g17_95, g17_97, g17_100, g17_102, g17_104, g17_106, g17_108, g17_111, g17_113, g17_116, g17_119, g17_121, rz_k_inl, rz_k_inr, Option.toList_some, Option.toList_none, List.cons_append, List.nil_append, List.append_nil, rz_up_s, rz_u_s, rz_up_n, rz_u_n, ne_eq, not_false_eq_true, not_true_eq_false, Nat.add_assoc, Nat.reduceAdd, reduceIte, Nat.add_eq_left, Nat.left_eq_add, Nat.add_left_cancel_iff, Nat.reduceEqDiff, Nat.add_right_cancel_iff, rz_nb0, rz_nb1, rz_nbb, rz_nbi, rz_isr, rz_zle, if_true, if_false, rz_bi0, rz_bi1, Bool.not_eq_true, Bool.not_eq_false, Bool.true_eq_false, Bool.false_eq_true, rz_ix_lit, cl_lit, Nat.reduceLT, bi_t, bi_f, decide_true, decide_false, Bool.not_false, Bool.not_true, Bool.and_true, Bool.true_and, Bool.and_false, Bool.false_and, oCt_c, oCt_f0, oCt_v0, oCt_f1, oCt_v1, oCt_f2, oCt_v2, oCt_f3, oCt_v3, oCt_f4, oCt_v4, oCt_f5, oCt_v5, oCt_a1, oCt_n1, oCt_a2, oCt_n2, oCt_a3, oCt_n3, oCt_a4, oCt_n4, oCt_a5, oCt_n5, oCt_a6, oCt_n6, ha, c1, b1, b2, show (oN none = -1) = True by decide, o1, i1, n1, n2, h4, nI_1]
            try rfl
          · simp (decide := true) (maxDischargeDepth := 4) only [g17_0, g17_1, g17_3, g17_4, g17_6, g17_7, g17_11, g17_13, g17_16, g17_17, g17_19, g17_20, g17_21, g17_22, g17_23, g17_26, g17_27, g17_29, g17_30, g17_31, g17_32, g17_35, g17_36, g17_39, g17_40, g17_42, g17_44, g17_47, g17_48, g17_49, g17_52, g17_53, g17_56, g17_58, g17_60, g17_61, g17_62, g17_63, g17_64, g17_66, g17_69, g17_70, g17_73, g17_74, g17_75, g17_77, g17_78, g17_79, g17_81, g17_82, g17_84, g17_85, g17_86, g17_88, g17_90, g17_92, g17_95, g17_97, g17_100, g17_102, g17_104, g17_106, g17_108, g17_111, g17_113, g17_116, g17_119, g17_121, rz_k_inl, rz_k_inr, Option.toList_some, Option.toList_none, List.cons_append, List.nil_append, List.append_nil, rz_up_s, rz_u_s, rz_up_n, rz_u_n, ne_eq, not_false_eq_true, not_true_eq_false, Nat.add_assoc, Nat.reduceAdd, reduceIte, Nat.add_eq_left, Nat.left_eq_add, Nat.add_left_cancel_iff, Nat.reduceEqDiff, Nat.add_right_cancel_iff, rz_nb0, rz_nb1, rz_nbb, rz_nbi, rz_isr, rz_zle, if_true, if_false, rz_bi0, rz_bi1, Bool.not_eq_true, Bool.not_eq_false, Bool.true_eq_false, Bool.false_eq_true, rz_ix_lit, cl_lit, Nat.reduceLT, bi_t, bi_f, decide_true, decide_false, Bool.not_false, Bool.not_true, Bool.and_true, Bool.true_and, Bool.and_false, Bool.false_and, oCt_c, oCt_f0, oCt_v0, oCt_f1, oCt_v1, oCt_f2, oCt_v2, oCt_f3, oCt_v3, oCt_f4, oCt_v4, oCt_f5, oCt_v5, oCt_a1, oCt_n1, oCt_a2, oCt_n2, oCt_a3, oCt_n3, oCt_a4, oCt_n4, oCt_a5, oCt_n5, oCt_a6, oCt_n6, ha, c1, b1, b2, show (oN none = -1) = True by decide, o1, i1, n1, n2, h4, nI_1]
            try rfl
        | some x =>
          have hx := hla x rfl
          have cx : (oN (some x) = -1) = False := nI_m1 (by omega)
          have i3 : rz_ix (nI (p * 8 + x)) 64 := rz_ix_nat (by omega) (by omega)
          have n3 := nI_cl (show p * 8 + x < 2147483648 by omega)
          have n4 : nI p * 8 + oN (some x) = nI (p * 8 + x) := by rw [show nI p * 8 = nI (p * 8) from pk_mul _ 8]; exact nI_add _ _
          by_cases h3 : ι (a + 1) (p * 8 + x) < n
          · have e : frB (ι (a + 1)) lv cr (some x) n p = false := by simp [frB, h3]
            refine ⟨(some (.int 1), l9), trivial, ?_⟩
            rw [foF, e, if_neg (by decide)]
            rw [g17_9]
            simp (decide := true) (maxDischargeDepth := 4) only [g17_0, g17_1, g17_3, g17_4, g17_6, g17_7, g17_11, g17_13, g17_16, g17_17, g17_19, g17_20, g17_21, g17_22, g17_23, g17_26, g17_27, g17_29, g17_30, g17_31, g17_32, g17_35, g17_36, g17_39, g17_40, g17_42, g17_44, g17_47, g17_48, g17_49, g17_52, g17_53, g17_56, g17_58, g17_60, g17_61, g17_62, g17_63, g17_64, g17_66, g17_69, g17_70, g17_73, g17_74, g17_75, g17_77, g17_78, g17_79, g17_81, g17_82, g17_84, g17_85, g17_86, g17_88, g17_90, g17_92, g17_95, g17_97, g17_100, g17_102, g17_104, g17_106, g17_108, g17_111, g17_113, g17_116, g17_119, g17_121, rz_k_inl, rz_k_inr, Option.toList_some, Option.toList_none, List.cons_append, List.nil_append, List.append_nil, rz_up_s, rz_u_s, rz_up_n, rz_u_n, ne_eq, not_false_eq_true, not_true_eq_false, Nat.add_assoc, Nat.reduceAdd, reduceIte, Nat.add_eq_left, Nat.left_eq_add, Nat.add_left_cancel_iff, Nat.reduceEqDiff, Nat.add_right_cancel_iff, rz_nb0, rz_nb1, rz_nbb, rz_nbi, rz_isr, rz_zle, if_true, if_false, rz_bi0, rz_bi1, Bool.not_eq_true, Bool.not_eq_false, Bool.true_eq_false, Bool.false_eq_true, rz_ix_lit, cl_lit, Nat.reduceLT, bi_t, bi_f, decide_true, decide_false, Bool.not_false, Bool.not_true, Bool.and_true, Bool.true_and, Bool.and_false, Bool.false_and, oCt_c, oCt_f0, oCt_v0, oCt_f1, oCt_v1, oCt_f2, oCt_v2, oCt_f3, oCt_v3, oCt_f4, oCt_v4, oCt_f5, oCt_v5, oCt_a1, oCt_n1, oCt_a2, oCt_n2, oCt_a3, oCt_n3, oCt_a4, oCt_n4, oCt_a5, oCt_n5, oCt_a6, oCt_n6, ha, c1, b1, b2, cx, i3, n3, n4, h3, nI_1]
          · have e : frB (ι (a + 1)) lv cr (some x) n p = true := by simp [frB, h1, h2, h3]
            refine ⟨(some (.int 1), some (.int (ι (a + 2) (stN cr p * 8 + p)))), trivial, ?_⟩
            rw [foF, if_pos e]
            rw [g17_9]
            by_cases h4 : s2 < ι (a + 2) (stN cr p * 8 + p)
            · simp (decide := true) (maxDischargeDepth := 4) only [g17_0, g17_1, g17_3, g17_4, g17_6, g17_7, g17_11, g17_13, g17_16, g17_17, g17_19, g17_20, g17_21, g17_22, g17_23, g17_26, g17_27, g17_29, g17_30, g17_31, g17_32, g17_35, g17_36, g17_39, g17_40, g17_42, g17_44, g17_47, g17_48, g17_49, g17_52, g17_53, g17_56, g17_58, g17_60, g17_61, g17_62, g17_63, g17_64, g17_66, g17_69, g17_70, g17_73, g17_74, g17_75, g17_77, g17_78, g17_79, g17_81, g17_82, g17_84, g17_85, g17_86, g17_88, g17_90, g17_92, g17_95, g17_97, g17_100, g17_102, g17_104, g17_106, g17_108, g17_111, g17_113, g17_116, g17_119, g17_121, rz_k_inl, rz_k_inr, Option.toList_some, Option.toList_none, List.cons_append, List.nil_append, List.append_nil, rz_up_s, rz_u_s, rz_up_n, rz_u_n, ne_eq, not_false_eq_true, not_true_eq_false, Nat.add_assoc, Nat.reduceAdd, reduceIte, Nat.add_eq_left, Nat.left_eq_add, Nat.add_left_cancel_iff, Nat.reduceEqDiff, Nat.add_right_cancel_iff, rz_nb0, rz_nb1, rz_nbb, rz_nbi, rz_isr, rz_zle, if_true, if_false, rz_bi0, rz_bi1, Bool.not_eq_true, Bool.not_eq_false, Bool.true_eq_false, Bool.false_eq_true, rz_ix_lit, cl_lit, Nat.reduceLT, bi_t, bi_f, decide_true, decide_false, Bool.not_false, Bool.not_true, Bool.and_true, Bool.true_and, Bool.and_false, Bool.false_and, oCt_c, oCt_f0, oCt_v0, oCt_f1, oCt_v1, oCt_f2, oCt_v2, oCt_f3, oCt_v3, oCt_f4, oCt_v4, oCt_f5, oCt_v5, oCt_a1, oCt_n1, oCt_a2, oCt_n2, oCt_a3, oCt_n3, oCt_a4, oCt_n4, oCt_a5, oCt_n5, oCt_a6, oCt_n6, ha, c1, b1, b2, cx, i3, n3, n4, h3, o1, i1, n1, n2, h4, nI_1]
              try rfl
            · simp (decide := true) (maxDischargeDepth := 4) only [g17_0, g17_1, g17_3, g17_4, g17_6, g17_7, g17_11, g17_13, g17_16, g17_17, g17_19, g17_20, g17_21, g17_22, g17_23, g17_26, g17_27, g17_29, g17_30, g17_31, g17_32, g17_35, g17_36, g17_39, g17_40, g17_42, g17_44, g17_47, g17_48, g17_49, g17_52, g17_53, g17_56, g17_58, g17_60, g17_61, g17_62, g17_63, g17_64, g17_66, g17_69, g17_70, g17_73, g17_74, g17_75, g17_77, g17_78, g17_79, g17_81, g17_82, g17_84, g17_85, g17_86, g17_88, g17_90, g17_92, g17_95, g17_97, g17_100, g17_102, g17_104, g17_106, g17_108, g17_111, g17_113, g17_116, g17_119, g17_121, rz_k_inl, rz_k_inr, Option.toList_some, Option.toList_none, List.cons_append, List.nil_append, List.append_nil, rz_up_s, rz_u_s, rz_up_n, rz_u_n, ne_eq, not_false_eq_true, not_true_eq_false, Nat.add_assoc, Nat.reduceAdd, reduceIte, Nat.add_eq_left, Nat.left_eq_add, Nat.add_left_cancel_iff, Nat.reduceEqDiff, Nat.add_right_cancel_iff, rz_nb0, rz_nb1, rz_nbb, rz_nbi, rz_isr, rz_zle, if_true, if_false, rz_bi0, rz_bi1, Bool.not_eq_true, Bool.not_eq_false, Bool.true_eq_false, Bool.false_eq_true, rz_ix_lit, cl_lit, Nat.reduceLT, bi_t, bi_f, decide_true, decide_false, Bool.not_false, Bool.not_true, Bool.and_true, Bool.true_and, Bool.and_false, Bool.false_and, oCt_c, oCt_f0, oCt_v0, oCt_f1, oCt_v1, oCt_f2, oCt_v2, oCt_f3, oCt_v3, oCt_f4, oCt_v4, oCt_f5, oCt_v5, oCt_a1, oCt_n1, oCt_a2, oCt_n2, oCt_a3, oCt_n3, oCt_a4, oCt_n4, oCt_a5, oCt_n5, oCt_a6, oCt_n6, ha, c1, b1, b2, cx, i3, n3, n4, h3, o1, i1, n1, n2, h4, nI_1]
              try rfl
    · rw [if_neg h1] at b1
      rw [Bool.not_eq_true] at h1
      refine ⟨(some (.int 0), l9), trivial, ?_⟩
      have e : frB (ι (a + 1)) lv cr la n p = false := by simp [frB, h1]
      rw [foF, e, if_neg (by decide)]
      rw [g17_9]
      simp (decide := true) (maxDischargeDepth := 4) only [g17_0, g17_1, g17_3, g17_4, g17_6, g17_7, g17_11, g17_13, g17_16, g17_17, g17_19, g17_20, g17_21, g17_22, g17_23, g17_26, g17_27, g17_29, g17_30, g17_31, g17_32, g17_35, g17_36, g17_39, g17_40, g17_42, g17_44, g17_47, g17_48, g17_49, g17_52, g17_53, g17_56, g17_58, g17_60, g17_61, g17_62, g17_63, g17_64, g17_66, g17_69, g17_70, g17_73, g17_74, g17_75, g17_77, g17_78, g17_79, g17_81, g17_82, g17_84, g17_85, g17_86, g17_88, g17_90, g17_92, g17_95, g17_97, g17_100, g17_102, g17_104, g17_106, g17_108, g17_111, g17_113, g17_116, g17_119, g17_121, rz_k_inl, rz_k_inr, Option.toList_some, Option.toList_none, List.cons_append, List.nil_append, List.append_nil, rz_up_s, rz_u_s, rz_up_n, rz_u_n, ne_eq, not_false_eq_true, not_true_eq_false, Nat.add_assoc, Nat.reduceAdd, reduceIte, Nat.add_eq_left, Nat.left_eq_add, Nat.add_left_cancel_iff, Nat.reduceEqDiff, Nat.add_right_cancel_iff, rz_nb0, rz_nb1, rz_nbb, rz_nbi, rz_isr, rz_zle, if_true, if_false, rz_bi0, rz_bi1, Bool.not_eq_true, Bool.not_eq_false, Bool.true_eq_false, Bool.false_eq_true, rz_ix_lit, cl_lit, Nat.reduceLT, bi_t, bi_f, decide_true, decide_false, Bool.not_false, Bool.not_true, Bool.and_true, Bool.true_and, Bool.and_false, Bool.false_and, c1, b1, b2, nI_1]) 8 0 (none, none) (by omega) trivial
  obtain ⟨⟨l8, l9⟩, _, L⟩ := L
  try dsimp only at L
  rw [e17]
  simp (decide := true) (maxDischargeDepth := 4) only [g17_0, g17_1, g17_3, g17_4, g17_6, g17_7, g17_11, g17_13, g17_16, g17_17, g17_19, g17_20, g17_21, g17_22, g17_23, g17_26, g17_27, g17_29, g17_30, g17_31, g17_32, g17_35, g17_36, g17_39, g17_40, g17_42, g17_44, g17_47, g17_48, g17_49, g17_52, g17_53, g17_56, g17_58, g17_60, g17_61, g17_62, g17_63, g17_64, g17_66, g17_69, g17_70, g17_73, g17_74, g17_75, g17_77, g17_78, g17_79, g17_81, g17_82, g17_84, g17_85, g17_86, g17_88, g17_90, g17_92, g17_95, g17_97, g17_100, g17_102, g17_104, g17_106, g17_108, g17_111, g17_113, g17_116, g17_119, g17_121, rz_k_inl, rz_k_inr, Option.toList_some, Option.toList_none, List.cons_append, List.nil_append, List.append_nil, rz_up_s, rz_u_s, rz_up_n, rz_u_n, ne_eq, not_false_eq_true, not_true_eq_false, Nat.add_assoc, Nat.reduceAdd, reduceIte, Nat.add_eq_left, Nat.left_eq_add, Nat.add_left_cancel_iff, Nat.reduceEqDiff, Nat.add_right_cancel_iff, rz_nb0, rz_nb1, rz_nbb, rz_nbi, rz_isr, rz_zle, if_true, if_false, rz_bi0, rz_bi1, Bool.not_eq_true, Bool.not_eq_false, Bool.true_eq_false, Bool.false_eq_true, rz_ix_lit, cl_lit, Nat.reduceLT, bi_t, bi_f, decide_true, decide_false, Bool.not_false, Bool.not_true, Bool.and_true, Bool.true_and, Bool.and_false, Bool.false_and]
  refine Eq.trans ?_ (L.trans ?_)
  · rfl
  · rw [g17_9]
    simp (decide := true) (maxDischargeDepth := 4) only [g17_0, g17_1, g17_3, g17_4, g17_6, g17_7, g17_11, g17_13, g17_16, g17_17, g17_19, g17_20, g17_21, g17_22, g17_23, g17_26, g17_27, g17_29, g17_30, g17_31, g17_32, g17_35, g17_36, g17_39, g17_40, g17_42, g17_44, g17_47, g17_48, g17_49, g17_52, g17_53, g17_56, g17_58, g17_60, g17_61, g17_62, g17_63, g17_64, g17_66, g17_69, g17_70, g17_73, g17_74, g17_75, g17_77, g17_78, g17_79, g17_81, g17_82, g17_84, g17_85, g17_86, g17_88, g17_90, g17_92, g17_95, g17_97, g17_100, g17_102, g17_104, g17_106, g17_108, g17_111, g17_113, g17_116, g17_119, g17_121, rz_k_inl, rz_k_inr, Option.toList_some, Option.toList_none, List.cons_append, List.nil_append, List.append_nil, rz_up_s, rz_u_s, rz_up_n, rz_u_n, ne_eq, not_false_eq_true, not_true_eq_false, Nat.add_assoc, Nat.reduceAdd, reduceIte, Nat.add_eq_left, Nat.left_eq_add, Nat.add_left_cancel_iff, Nat.reduceEqDiff, Nat.add_right_cancel_iff, rz_nb0, rz_nb1, rz_nbb, rz_nbi, rz_isr, rz_zle, if_true, if_false, rz_bi0, rz_bi1, Bool.not_eq_true, Bool.not_eq_false, Bool.true_eq_false, Bool.false_eq_true, rz_ix_lit, cl_lit, Nat.reduceLT, bi_t, bi_f, decide_true, decide_false, Bool.not_false, Bool.not_true, Bool.and_true, Bool.true_and, Bool.and_false, Bool.false_and, show (nI 8 < 8) = False by decide]
    rfl
theorem ct_longest (ha : oCt h a) (hlv : lv < 256) (hcr : cr < 256) (hla : ∀ x, la = some x → x < 8) (n : Int32) : rz_f Z (d + 2) 16 [.ref a, .int (nI lv), .int (nI cr), .int (oN la), .int n] (rz_mk h ι, w) = some (.inl (some (.int (loS (ι (a + 1)) (ι (a + 2)) lv cr la n))), (rz_mk h ι, w)) := by
  have fo := ct_follower (Z := Z) (d := d) (ι := ι) (w := w) ha hlv hcr hla n
  rw [e16]
  unfold loS
  cases e : foS (ι (a + 1)) (ι (a + 2)) lv cr la n with
  | none =>
    rw [e] at fo
    simp (decide := true) (maxDischargeDepth := 4) only [g16_0, g16_1, g16_2, g16_3, g16_4, g16_6, g16_9, g16_11, g16_13, g16_14, g16_17, g16_18, g16_21, g16_22, g16_23, g16_26, g16_27, g16_28, g16_30, g16_31, g16_32, g16_34, g16_35, g16_37, g16_38, g16_39, g16_40, rz_k_inl, rz_k_inr, Option.toList_some, Option.toList_none, List.cons_append, List.nil_append, List.append_nil, rz_up_s, rz_u_s, rz_up_n, rz_u_n, ne_eq, not_false_eq_true, not_true_eq_false, Nat.add_assoc, Nat.reduceAdd, reduceIte, Nat.add_eq_left, Nat.left_eq_add, Nat.add_left_cancel_iff, Nat.reduceEqDiff, Nat.add_right_cancel_iff, rz_nb0, rz_nb1, rz_nbb, rz_nbi, rz_isr, rz_zle, if_true, if_false, rz_bi0, rz_bi1, Bool.not_eq_true, Bool.not_eq_false, Bool.true_eq_false, Bool.false_eq_true, rz_ix_lit, cl_lit, Nat.reduceLT, bi_t, bi_f, decide_true, decide_false, Bool.not_false, Bool.not_true, Bool.and_true, Bool.true_and, Bool.and_false, Bool.false_and, oCt_c, oCt_f0, oCt_v0, oCt_f1, oCt_v1, oCt_f2, oCt_v2, oCt_f3, oCt_v3, oCt_f4, oCt_v4, oCt_f5, oCt_v5, oCt_a1, oCt_n1, oCt_a2, oCt_n2, oCt_a3, oCt_n3, oCt_a4, oCt_n4, oCt_a5, oCt_n5, oCt_a6, oCt_n6, ha, fo, show (oN none = -1) = True by decide]
  | some x =>
    rw [e] at fo
    have hx := (foS_lt e).1
    have cx : (oN (some x) = -1) = False := nI_m1 (by omega)
    have o1 : nI cr ||| ((1 : Int32) <<< (oN (some x) &&& 31)) = nI (stN cr x) := stN_I cr hcr x hx
    have o2 := stN_256 cr hcr x hx
    have i1 : rz_ix (nI (stN cr x * 8 + x)) 2048 := rz_ix_nat (by omega) (by omega)
    have n1 := nI_cl (show stN cr x * 8 + x < 2147483648 by omega)
    have n2 : nI (stN cr x) * 8 + oN (some x) = nI (stN cr x * 8 + x) := by rw [show nI (stN cr x) * 8 = nI (stN cr x * 8) from pk_mul _ 8]; exact nI_add _ _
    simp (decide := true) (maxDischargeDepth := 4) only [g16_0, g16_1, g16_2, g16_3, g16_4, g16_6, g16_9, g16_11, g16_13, g16_14, g16_17, g16_18, g16_21, g16_22, g16_23, g16_26, g16_27, g16_28, g16_30, g16_31, g16_32, g16_34, g16_35, g16_37, g16_38, g16_39, g16_40, rz_k_inl, rz_k_inr, Option.toList_some, Option.toList_none, List.cons_append, List.nil_append, List.append_nil, rz_up_s, rz_u_s, rz_up_n, rz_u_n, ne_eq, not_false_eq_true, not_true_eq_false, Nat.add_assoc, Nat.reduceAdd, reduceIte, Nat.add_eq_left, Nat.left_eq_add, Nat.add_left_cancel_iff, Nat.reduceEqDiff, Nat.add_right_cancel_iff, rz_nb0, rz_nb1, rz_nbb, rz_nbi, rz_isr, rz_zle, if_true, if_false, rz_bi0, rz_bi1, Bool.not_eq_true, Bool.not_eq_false, Bool.true_eq_false, Bool.false_eq_true, rz_ix_lit, cl_lit, Nat.reduceLT, bi_t, bi_f, decide_true, decide_false, Bool.not_false, Bool.not_true, Bool.and_true, Bool.true_and, Bool.and_false, Bool.false_and, oCt_c, oCt_f0, oCt_v0, oCt_f1, oCt_v1, oCt_f2, oCt_v2, oCt_f3, oCt_v3, oCt_f4, oCt_v4, oCt_f5, oCt_v5, oCt_a1, oCt_n1, oCt_a2, oCt_n2, oCt_a3, oCt_n3, oCt_a4, oCt_n4, oCt_a5, oCt_n5, oCt_a6, oCt_n6, ha, fo, cx, o1, i1, n1, n2]
end COURT5
