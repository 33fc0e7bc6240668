/-! the court: all who live hang in twos -/
def rmN (n i : Nat) : Nat := if n.testBit i then n - 2 ^ i else n
theorem rmN_I : ∀ n, n < 256 → ∀ i, i < 8 → nI n &&& (((1 : Int32) <<< (nI i &&& 31)) ^^^ (-1)) = nI (rmN n i) := by decide +kernel
theorem an255 : ∀ n, n < 256 → nI n &&& 255 = nI n := by decide +kernel
theorem bc_even : ∀ n, n < 256 → (bcF (nI n) - bcF (nI n) / 2 * 2 = 0) = (popN n % 2 = 0) := by
  have : ∀ n, n < 256 → decide (bcF (nI n) - bcF (nI n) / 2 * 2 = 0) = decide (popN n % 2 = 0) := by decide +kernel
  intro n hn
  have := this n hn
  apply propext
  constructor
  · intro e; simpa [e] using this.symm
  · intro e; simpa [e] using this
theorem rmN_le (n i : Nat) : rmN n i ≤ n := by
  unfold rmN
  split
  · exact Nat.sub_le _ _
  · exact Nat.le_refl _
theorem rmN_lt {n i : Nat} (h : n.testBit i = true) : rmN n i < n := by
  unfold rmN
  rw [if_pos h]
  have := Nat.ge_two_pow_of_testBit h
  have := Nat.two_pow_pos i
  omega
theorem sh_bit {n i : Nat} (hi : i < 32) : (nI n >>> (nI i &&& 31)) &&& 1 = if n.testBit i = true then 1 else 0 := by
  rw [bt_shr1 hi, bt_nI hi]
def hgV (F B : Nat → Int32) (n mt : Nat) : Int32 := if mt = 8 then (if popN (rmN n (tzN n)) % 2 = 0 then B (rmN n (tzN n)) else -1) else if (rmN n (tzN n)).testBit mt = true then F (mt * 8 + tzN n) + B (rmN (rmN n (tzN n)) mt) else -1
theorem hgV_cong {F B B' : Nat → Int32} {n mt : Nat} (h0 : 0 < n) (hn : n < 256) (hB : ∀ i, i < n → B i = B' i) : hgV F B n mt = hgV F B' n mt := by
  have e1 := rmN_lt (tzN_ok n hn h0).2.1
  have e2 := rmN_le (rmN n (tzN n)) mt
  unfold hgV
  rw [hB _ e1, hB _ (by omega)]
section COURT2
variable {Z : rx_Z} {d : Nat} {h : Nat → Option rx_E} {ι : Nat → Nat → Int32} {w : Nat × Nat} {a : Nat}
theorem ct_hung (ha : oCt h a) {n mt : Nat} (h0 : 0 < n) (hn : n < 256) (hm : mt ≤ 8) : rz_f Z (d + 2) 13 [.ref a, .int (nI n), .int (nI mt)] (rz_mk h ι, w) = some (.inl (some (.int (hgV (ι (a + 1)) (ι (a + 2)) n mt))), (rz_mk h ι, w)) := by
  have tz := tzF_n n hn h0
  obtain ⟨t1, t2, _⟩ := tzN_ok n hn h0
  have jt := jd_tz (Z := Z) (d := d) (h := h) (ι := ι) (w := w) (nI n)
  rw [tz] at jt
  have o1 := rmN_I n hn _ t1
  have ho : rmN n (tzN n) < 256 := by have := rmN_le n (tzN n); omega
  have o2 := an255 _ ho
  have i1 : rz_ix (nI (rmN n (tzN n))) 2048 := rz_ix_nat (by omega) (by omega)
  have n1 := nI_cl (show rmN n (tzN n) < 2147483648 by omega)
  rw [e13]
  unfold hgV
  by_cases h8 : mt = 8
  · subst h8
    have ev := bc_even _ ho
    by_cases hp : popN (rmN n (tzN n)) % 2 = 0
    · rw [if_pos rfl, if_pos hp]
      simp (decide := true) (maxDischargeDepth := 4) only [g13_0, g13_1, g13_4, g13_5, g13_6, g13_7, g13_8, g13_9, g13_10, g13_11, g13_12, g13_15, g13_16, g13_18, g13_19, g13_21, g13_24, g13_26, g13_29, g13_30, g13_31, g13_34, g13_35, g13_38, g13_40, g13_41, g13_44, g13_45, g13_46, g13_47, g13_49, g13_52, g13_54, g13_55, g13_56, g13_57, g13_58, g13_61, g13_62, g13_63, g13_64, g13_67, g13_68, g13_70, g13_71, g13_72, g13_73, g13_74, g13_75, g13_78, g13_80, g13_81, g13_82, g13_83, g13_84, g13_85, g13_86, g13_87, g13_88, rz_k_inl, rz_k_inr, Option.toList_some, Option.toList_none, List.cons_append, List.nil_append, List.append_nil, rz_up_s, rz_u_s, rz_up_n, rz_u_n, ne_eq, not_false_eq_true, not_true_eq_false, Nat.add_assoc, Nat.reduceAdd, reduceIte, Nat.add_eq_left, Nat.left_eq_add, Nat.add_left_cancel_iff, Nat.reduceEqDiff, Nat.add_right_cancel_iff, rz_nb0, rz_nb1, rz_nbb, rz_nbi, rz_isr, rz_zle, if_true, if_false, rz_bi0, rz_bi1, Bool.not_eq_true, Bool.not_eq_false, Bool.true_eq_false, Bool.false_eq_true, rz_ix_lit, cl_lit, Nat.reduceLT, bi_t, bi_f, decide_true, decide_false, Bool.not_false, Bool.not_true, Bool.and_true, Bool.true_and, Bool.and_false, Bool.false_and, oCt_c, oCt_f0, oCt_v0, oCt_f1, oCt_v1, oCt_f2, oCt_v2, oCt_f3, oCt_v3, oCt_f4, oCt_v4, oCt_f5, oCt_v5, oCt_a1, oCt_n1, oCt_a2, oCt_n2, oCt_a3, oCt_n3, oCt_a4, oCt_n4, oCt_a5, oCt_n5, oCt_a6, oCt_n6, ha, jt, o1, o2, show (nI 8 = 8) = True by decide, jd_bitCount, ev, hp, i1, n1]
    · rw [if_pos rfl, if_neg hp]
      simp (decide := true) (maxDischargeDepth := 4) only [g13_0, g13_1, g13_4, g13_5, g13_6, g13_7, g13_8, g13_9, g13_10, g13_11, g13_12, g13_15, g13_16, g13_18, g13_19, g13_21, g13_24, g13_26, g13_29, g13_30, g13_31, g13_34, g13_35, g13_38, g13_40, g13_41, g13_44, g13_45, g13_46, g13_47, g13_49, g13_52, g13_54, g13_55, g13_56, g13_57, g13_58, g13_61, g13_62, g13_63, g13_64, g13_67, g13_68, g13_70, g13_71, g13_72, g13_73, g13_74, g13_75, g13_78, g13_80, g13_81, g13_82, g13_83, g13_84, g13_85, g13_86, g13_87, g13_88, rz_k_inl, rz_k_inr, Option.toList_some, Option.toList_none, List.cons_append, List.nil_append, List.append_nil, rz_up_s, rz_u_s, rz_up_n, rz_u_n, ne_eq, not_false_eq_true, not_true_eq_false, Nat.add_assoc, Nat.reduceAdd, reduceIte, Nat.add_eq_left, Nat.left_eq_add, Nat.add_left_cancel_iff, Nat.reduceEqDiff, Nat.add_right_cancel_iff, rz_nb0, rz_nb1, rz_nbb, rz_nbi, rz_isr, rz_zle, if_true, if_false, rz_bi0, rz_bi1, Bool.not_eq_true, Bool.not_eq_false, Bool.true_eq_false, Bool.false_eq_true, rz_ix_lit, cl_lit, Nat.reduceLT, bi_t, bi_f, decide_true, decide_false, Bool.not_false, Bool.not_true, Bool.and_true, Bool.true_and, Bool.and_false, Bool.false_and, oCt_c, oCt_f0, oCt_v0, oCt_f1, oCt_v1, oCt_f2, oCt_v2, oCt_f3, oCt_v3, oCt_f4, oCt_v4, oCt_f5, oCt_v5, oCt_a1, oCt_n1, oCt_a2, oCt_n2, oCt_a3, oCt_n3, oCt_a4, oCt_n4, oCt_a5, oCt_n5, oCt_a6, oCt_n6, ha, jt, o1, o2, show (nI 8 = 8) = True by decide, jd_bitCount, ev, hp]
  · have c1 : (nI mt = 8) = False := by rw [nI_eqL (by omega) (by decide)]; simp [h8]
    have c2 : (nI (tzN n) < 8) = True := by rw [nI_ltL (by omega) (by decide)]; simp [t1]
    have b1 := sh_bit (n := rmN n (tzN n)) (i := mt) (by omega)
    rw [if_neg h8]
    by_cases hb : (rmN n (tzN n)).testBit mt = true
    · rw [if_pos hb] at b1 ⊢
      have o3 := rmN_I _ ho mt (by omega)
      have i2 : rz_ix (nI (mt * 8 + tzN n)) 64 := rz_ix_nat (by omega) (by omega)
      have n2 : nI mt * 8 + nI (tzN n) = nI (mt * 8 + tzN n) := by rw [show nI mt * 8 = nI (mt * 8) from pk_mul mt 8, nI_add]
      have n3 := nI_cl (show mt * 8 + tzN n < 2147483648 by omega)
      have l3 : rmN (rmN n (tzN n)) mt < 256 := by have := rmN_le (rmN n (tzN n)) mt; omega
      have i3 : rz_ix (nI (rmN (rmN n (tzN n)) mt)) 2048 := rz_ix_nat (by omega) (by omega)
      have n4 := nI_cl (show rmN (rmN n (tzN n)) mt < 2147483648 by omega)
      simp (decide := true) (maxDischargeDepth := 4) only [g13_0, g13_1, g13_4, g13_5, g13_6, g13_7, g13_8, g13_9, g13_10, g13_11, g13_12, g13_15, g13_16, g13_18, g13_19, g13_21, g13_24, g13_26, g13_29, g13_30, g13_31, g13_34, g13_35, g13_38, g13_40, g13_41, g13_44, g13_45, g13_46, g13_47, g13_49, g13_52, g13_54, g13_55, g13_56, g13_57, g13_58, g13_61, g13_62, g13_63, g13_64, g13_67, g13_68, g13_70, g13_71, g13_72, g13_73, g13_74, g13_75, g13_78, g13_80, g13_81, g13_82, g13_83, g13_84, g13_85, g13_86, g13_87, g13_88, rz_k_inl, rz_k_inr, Option.toList_some, Option.toList_none, List.cons_append, List.nil_append, List.append_nil, rz_up_s, rz_u_s, rz_up_n, rz_u_n, ne_eq, not_false_eq_true, not_true_eq_false, Nat.add_assoc, Nat.reduceAdd, reduceIte, Nat.add_eq_left, Nat.left_eq_add, Nat.add_left_cancel_iff, Nat.reduceEqDiff, Nat.add_right_cancel_iff, rz_nb0, rz_nb1, rz_nbb, rz_nbi, rz_isr, rz_zle, if_true, if_false, rz_bi0, rz_bi1, Bool.not_eq_true, Bool.not_eq_false, Bool.true_eq_false, Bool.false_eq_true, rz_ix_lit, cl_lit, Nat.reduceLT, bi_t, bi_f, decide_true, decide_false, Bool.not_false, Bool.not_true, Bool.and_true, Bool.true_and, Bool.and_false, Bool.false_and, oCt_c, oCt_f0, oCt_v0, oCt_f1, oCt_v1, oCt_f2, oCt_v2, oCt_f3, oCt_v3, oCt_f4, oCt_v4, oCt_f5, oCt_v5, oCt_a1, oCt_n1, oCt_a2, oCt_n2, oCt_a3, oCt_n3, oCt_a4, oCt_n4, oCt_a5, oCt_n5, oCt_a6, oCt_n6, ha, jt, o1, o2, o3, c1, c2, b1, i2, n2, n3, i3, n4]
    · rw [if_neg hb] at b1 ⊢
      simp (decide := true) (maxDischargeDepth := 4) only [g13_0, g13_1, g13_4, g13_5, g13_6, g13_7, g13_8, g13_9, g13_10, g13_11, g13_12, g13_15, g13_16, g13_18, g13_19, g13_21, g13_24, g13_26, g13_29, g13_30, g13_31, g13_34, g13_35, g13_38, g13_40, g13_41, g13_44, g13_45, g13_46, g13_47, g13_49, g13_52, g13_54, g13_55, g13_56, g13_57, g13_58, g13_61, g13_62, g13_63, g13_64, g13_67, g13_68, g13_70, g13_71, g13_72, g13_73, g13_74, g13_75, g13_78, g13_80, g13_81, g13_82, g13_83, g13_84, g13_85, g13_86, g13_87, g13_88, rz_k_inl, rz_k_inr, Option.toList_some, Option.toList_none, List.cons_append, List.nil_append, List.append_nil, rz_up_s, rz_u_s, rz_up_n, rz_u_n, ne_eq, not_false_eq_true, not_true_eq_false, Nat.add_assoc, Nat.reduceAdd, reduceIte, Nat.add_eq_left, Nat.left_eq_add, Nat.add_left_cancel_iff, Nat.reduceEqDiff, Nat.add_right_cancel_iff, rz_nb0, rz_nb1, rz_nbb, rz_nbi, rz_isr, rz_zle, if_true, if_false, rz_bi0, rz_bi1, Bool.not_eq_true, Bool.not_eq_false, Bool.true_eq_false, Bool.false_eq_true, rz_ix_lit, cl_lit, Nat.reduceLT, bi_t, bi_f, decide_true, decide_false, Bool.not_false, Bool.not_true, Bool.and_true, Bool.true_and, Bool.and_false, Bool.false_and, oCt_c, oCt_f0, oCt_v0, oCt_f1, oCt_v1, oCt_f2, oCt_v2, oCt_f3, oCt_v3, oCt_f4, oCt_v4, oCt_f5, oCt_v5, oCt_a1, oCt_n1, oCt_a2, oCt_n2, oCt_a3, oCt_n3, oCt_a4, oCt_n4, oCt_a5, oCt_n5, oCt_a6, oCt_n6, ha, jt, o1, o2, c1, c2, b1]
/-- who is left when the first has a mate -/
def hgM (F B : Nat → Int32) (n : Nat) : Nat → Nat → Option Nat
  | 0, _ => none
  | k + 1, mt => if hgV F B n mt = B n then some mt else hgM F B n k (mt + 1)
def hgS (F B : Nat → Int32) (s : Nat × (Nat → Int32)) : Nat × (Nat → Int32) := match hgM F B s.1 8 0 with
  | none => (rmN s.1 (tzN s.1), s.2)
  | some mt => (rmN (rmN s.1 (tzN s.1)) mt, rz_u (rz_u s.2 (tzN s.1) (nI mt)) mt (nI (tzN s.1)))
theorem hgM_lt {F B : Nat → Int32} {n : Nat} : ∀ {k mt j}, hgM F B n k mt = some j → j < mt + k
  | 0, _, _, e => by cases e
  | k + 1, mt, j, e => by
    unfold hgM at e
    split at e
    · cases e; omega
    · have := hgM_lt e; omega
theorem ct_hangFirst (ha : oCt h a) (hz : Z.2.1 ≤ a) {n : Nat} (h0 : 0 < n) (hn : n < 256) : rz_f Z (d + 3) 14 [.ref a, .int (nI n)] (rz_mk h ι, w) = some (.inl (some (.int (nI (hgS (ι (a + 1)) (ι (a + 2)) (n, ι (a + 5))).1))), (rz_mk h (rz_rw ι (a + 5) (hgS (ι (a + 1)) (ι (a + 2)) (n, ι (a + 5))).2), w)) := by
  have tz := tzF_n n hn h0
  obtain ⟨t1, t2, _⟩ := tzN_ok n hn h0
  have jt := jd_tz (Z := Z) (d := d + 1) (h := h) (ι := ι) (w := w) (nI n)
  rw [tz] at jt
  have o1 := rmN_I n hn _ t1
  have ho : rmN n (tzN n) < 256 := by have := rmN_le n (tzN n); omega
  have c2 : (nI (tzN n) < 8) = True := by rw [nI_ltL (by omega) (by decide)]; simp [t1]
  have o2 := an255 _ hn
  have i1 : rz_ix (nI n) 2048 := rz_ix_nat (by omega) (by omega)
  have n1 := nI_cl (show n < 2147483648 by omega)
  have i4 : rz_ix (nI (tzN n)) 8 := rz_ix_nat (by omega) (by omega)
  have n4 := nI_cl (show tzN n < 2147483648 by omega)
  have L : ∀ (k mt : Nat), mt + k = 8 → rg Z (d + 2) rx_m14 16 [some (.ref a), some (.int (nI n)), some (.int (nI (tzN n))), some (.int (nI (rmN n (tzN n)))), some (.int (nI mt))] [] (rz_mk h ι, w) = match hgM (ι (a + 1)) (ι (a + 2)) n k mt with
      | none => some (.inl (some (.int (nI (rmN n (tzN n))))), (rz_mk h ι, w))
      | some j => some (.inl (some (.int (nI (rmN (rmN n (tzN n)) j)))), (rz_mk h (rz_up (rz_up ι (a + 5) (tzN n) (nI j)) (a + 5) j (nI (tzN n))), w)) := by
    intro k
    induction k with
    | zero =>
      intro mt hk
      have : mt = 8 := by omega
      subst this
      rw [g14_16]
      simp (decide := true) (maxDischargeDepth := 4) only [g14_0, g14_1, g14_4, g14_5, g14_6, g14_7, g14_8, g14_9, g14_10, g14_11, g14_12, g14_13, g14_14, g14_18, g14_20, g14_23, g14_24, g14_26, g14_29, g14_30, g14_31, g14_33, g14_36, g14_37, g14_40, g14_41, g14_44, g14_45, g14_46, g14_49, g14_50, g14_53, g14_54, g14_56, g14_57, g14_58, g14_61, g14_63, g14_64, g14_65, g14_66, g14_67, g14_69, g14_70, g14_71, g14_72, g14_73, g14_74, g14_77, g14_80, g14_81, rz_k_inl, rz_k_inr, Option.toList_some, Option.toList_none, List.cons_append, List.nil_append, List.append_nil, rz_up_s, rz_u_s, rz_up_n, rz_u_n, ne_eq, not_false_eq_true, not_true_eq_false, Nat.add_assoc, Nat.reduceAdd, reduceIte, Nat.add_eq_left, Nat.left_eq_add, Nat.add_left_cancel_iff, Nat.reduceEqDiff, Nat.add_right_cancel_iff, rz_nb0, rz_nb1, rz_nbb, rz_nbi, rz_isr, rz_zle, if_true, if_false, rz_bi0, rz_bi1, Bool.not_eq_true, Bool.not_eq_false, Bool.true_eq_false, Bool.false_eq_true, rz_ix_lit, cl_lit, Nat.reduceLT, bi_t, bi_f, decide_true, decide_false, Bool.not_false, Bool.not_true, Bool.and_true, Bool.true_and, Bool.and_false, Bool.false_and, show (nI 8 < 8) = False by decide]
      rfl
    | succ k ih =>
      intro mt hk
      have c1 : (nI mt < 8) = True := by rw [nI_ltL (by omega) (by decide)]; simp; omega
      have hg := ct_hung (Z := Z) (d := d) (ι := ι) (w := w) ha h0 hn (show mt ≤ 8 by omega)
      have o3 := rmN_I _ ho mt (by omega)
      have i5 : rz_ix (nI mt) 8 := rz_ix_nat (by omega) (by omega)
      have n5 := nI_cl (show mt < 2147483648 by omega)
      unfold hgM
      rw [g14_16]
      by_cases he : hgV (ι (a + 1)) (ι (a + 2)) n mt = ι (a + 2) n
      · rw [if_pos he]
        simp (decide := true) (maxDischargeDepth := 4) only [g14_0, g14_1, g14_4, g14_5, g14_6, g14_7, g14_8, g14_9, g14_10, g14_11, g14_12, g14_13, g14_14, g14_18, g14_20, g14_23, g14_24, g14_26, g14_29, g14_30, g14_31, g14_33, g14_36, g14_37, g14_40, g14_41, g14_44, g14_45, g14_46, g14_49, g14_50, g14_53, g14_54, g14_56, g14_57, g14_58, g14_61, g14_63, g14_64, g14_65, g14_66, g14_67, g14_69, g14_70, g14_71, g14_72, g14_73, g14_74, g14_77, g14_80, g14_81, rz_k_inl, rz_k_inr, Option.toList_some, Option.toList_none, List.cons_append, List.nil_append, List.append_nil, rz_up_s, rz_u_s, rz_up_n, rz_u_n, ne_eq, not_false_eq_true, not_true_eq_false, Nat.add_assoc, Nat.reduceAdd, reduceIte, Nat.add_eq_left, Nat.left_eq_add, Nat.add_left_cancel_iff, Nat.reduceEqDiff, Nat.add_right_cancel_iff, rz_nb0, rz_nb1, rz_nbb, rz_nbi, rz_isr, rz_zle, if_true, if_false, rz_bi0, rz_bi1, Bool.not_eq_true, Bool.not_eq_false, Bool.true_eq_false, Bool.false_eq_true, rz_ix_lit, cl_lit, Nat.reduceLT, bi_t, bi_f, decide_true, decide_false, Bool.not_false, Bool.not_true, Bool.and_true, Bool.true_and, Bool.and_false, Bool.false_and, oCt_c, oCt_f0, oCt_v0, oCt_f1, oCt_v1, oCt_f2, oCt_v2, oCt_f3, oCt_v3, oCt_f4, oCt_v4, oCt_f5, oCt_v5, oCt_a1, oCt_n1, oCt_a2, oCt_n2, oCt_a3, oCt_n3, oCt_a4, oCt_n4, oCt_a5, oCt_n5, oCt_a6, oCt_n6, ha, hz, c1, c2, hg, he, o2, o3, i1, n1, i4, n4, i5, n5]
      · rw [if_neg he]
        simp (decide := true) (maxDischargeDepth := 4) only [g14_0, g14_1, g14_4, g14_5, g14_6, g14_7, g14_8, g14_9, g14_10, g14_11, g14_12, g14_13, g14_14, g14_18, g14_20, g14_23, g14_24, g14_26, g14_29, g14_30, g14_31, g14_33, g14_36, g14_37, g14_40, g14_41, g14_44, g14_45, g14_46, g14_49, g14_50, g14_53, g14_54, g14_56, g14_57, g14_58, g14_61, g14_63, g14_64, g14_65, g14_66, g14_67, g14_69, g14_70, g14_71, g14_72, g14_73, g14_74, g14_77, g14_80, g14_81, rz_k_inl, rz_k_inr, Option.toList_some, Option.toList_none, List.cons_append, List.nil_append, List.append_nil, rz_up_s, rz_u_s, rz_up_n, rz_u_n, ne_eq, not_false_eq_true, not_true_eq_false, Nat.add_assoc, Nat.reduceAdd, reduceIte, Nat.add_eq_left, Nat.left_eq_add, Nat.add_left_cancel_iff, Nat.reduceEqDiff, Nat.add_right_cancel_iff, rz_nb0, rz_nb1, rz_nbb, rz_nbi, rz_isr, rz_zle, if_true, if_false, rz_bi0, rz_bi1, Bool.not_eq_true, Bool.not_eq_false, Bool.true_eq_false, Bool.false_eq_true, rz_ix_lit, cl_lit, Nat.reduceLT, bi_t, bi_f, decide_true, decide_false, Bool.not_false, Bool.not_true, Bool.and_true, Bool.true_and, Bool.and_false, Bool.false_and, oCt_c, oCt_f0, oCt_v0, oCt_f1, oCt_v1, oCt_f2, oCt_v2, oCt_f3, oCt_v3, oCt_f4, oCt_v4, oCt_f5, oCt_v5, oCt_a1, oCt_n1, oCt_a2, oCt_n2, oCt_a3, oCt_n3, oCt_a4, oCt_n4, oCt_a5, oCt_n5, oCt_a6, oCt_n6, ha, c1, c2, hg, he, o2, i1, n1, nI_1]
        exact ih (mt + 1) (by omega)
  have L0 := L 8 0 (by omega)
  rw [show nI 0 = 0 from rfl] at L0
  rw [e14]
  simp (decide := true) (maxDischargeDepth := 4) only [g14_0, g14_1, g14_4, g14_5, g14_6, g14_7, g14_8, g14_9, g14_10, g14_11, g14_12, g14_13, g14_14, g14_18, g14_20, g14_23, g14_24, g14_26, g14_29, g14_30, g14_31, g14_33, g14_36, g14_37, g14_40, g14_41, g14_44, g14_45, g14_46, g14_49, g14_50, g14_53, g14_54, g14_56, g14_57, g14_58, g14_61, g14_63, g14_64, g14_65, g14_66, g14_67, g14_69, g14_70, g14_71, g14_72, g14_73, g14_74, g14_77, g14_80, g14_81, rz_k_inl, rz_k_inr, Option.toList_some, Option.toList_none, List.cons_append, List.nil_append, List.append_nil, rz_up_s, rz_u_s, rz_up_n, rz_u_n, ne_eq, not_false_eq_true, not_true_eq_false, Nat.add_assoc, Nat.reduceAdd, reduceIte, Nat.add_eq_left, Nat.left_eq_add, Nat.add_left_cancel_iff, Nat.reduceEqDiff, Nat.add_right_cancel_iff, rz_nb0, rz_nb1, rz_nbb, rz_nbi, rz_isr, rz_zle, if_true, if_false, rz_bi0, rz_bi1, Bool.not_eq_true, Bool.not_eq_false, Bool.true_eq_false, Bool.false_eq_true, rz_ix_lit, cl_lit, Nat.reduceLT, bi_t, bi_f, decide_true, decide_false, Bool.not_false, Bool.not_true, Bool.and_true, Bool.true_and, Bool.and_false, Bool.false_and, jt, o1]
  refine L0.trans ?_
  unfold hgS
  cases hm : hgM (ι (a + 1)) (ι (a + 2)) n 8 0 with
  | none =>
    try dsimp only
    rw [rz_rw_id rfl]
  | some j =>
    try dsimp only
    rw [rz_up_rw, rz_up_rw, rz_rw_s, rz_rw_rw]
end COURT2
