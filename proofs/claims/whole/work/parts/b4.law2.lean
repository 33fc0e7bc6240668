/-! the class reads a LAW: from words to brackets -/
theorem lwE_op {j : Nat} (h2 : 2 ≤ j) : lwE (j, 0) = nI (j - 2) := by
  unfold lwE
  rw [if_neg (by show ¬ j = 0; omega), if_neg (by show ¬ j = 1; omega)]
section LAW2
variable {Z : rx_Z} {d : Nat} {h : Nat → Option rx_E} {ι ι0 : Nat → Nat → Int32} {w : Nat × Nat} {t a l : Nat}
def lqO (Z : rx_Z) (h : Nat → Option rx_E) (t a l : Nat) : Prop := oLt h a t l ∧ oTp h t ∧ oLw h l ∧ Z.2.1 ≤ t ∧ t + 2 ≤ l
def lqI (t l : Nat) (ι0 ι : Nat → Nat → Int32) (C : List (Nat × Nat)) (p : Nat) : Prop := txF t (fun x => x = l ∨ x = l + 1) ι0 ι ∧ ι t 4 = ι0 t 4 ∧ ι t 6 = ι0 t 6 ∧ ι t 2 = nI p ∧ ι l 3 = nI C.length ∧ ∀ j, j < C.length → ι (l + 1) j = lwE (C.getD j (0, 0))
def lqN (t l : Nat) (ι0 ι : Nat → Nat → Int32) (f : Nat × Nat) : Prop := txF t (fun x => x = l ∨ x = l + 1) ι0 ι ∧ ι t 4 = nI f.1 ∧ ι t 6 = nI f.2
theorem lqI.tp {p q : Nat} {C : List (Nat × Nat)} {ι' : Nat → Nat → Int32} (o : lqO Z h t a l) (i : lqI t l ι0 ι C p) (k : tpOk t ι ι' q) : lqI t l ι0 ι' C q := by
  obtain ⟨i1, i2, i3, i4, i5, i6⟩ := i
  obtain ⟨-, -, -, -, o5⟩ := o
  have e0 := k.1.1 l (by omega)
  have e1 := k.1.1 (l + 1) (by omega)
  exact ⟨i1.trans (txF.tp k.1), k.2.1.trans i2, k.2.2.1.trans i3, k.2.2.2, by rw [e0]; exact i5, fun j hj => by rw [e1]; exact i6 j hj⟩
theorem lqI.no {p : Nat} {C : List (Nat × Nat)} {f : Nat × Nat} {ι' : Nat → Nat → Int32} (i : lqI t l ι0 ι C p) (k : tpNo t ι ι' f) : lqN t l ι0 ι' f := ⟨i.1.trans (txF.tp k.1), k.2.1, k.2.2⟩
theorem lqI.by {p : Nat} {C : List (Nat × Nat)} (o : lqO Z h t a l) (i : lqI t l ι0 ι C p) : ι (t + 1) = ι0 (t + 1) := i.1.1 _ (by omega) (by obtain ⟨-, -, -, -, o5⟩ := o; omega)
def lqC (Z : rx_Z) (h : Nat → Option rx_E) (w : Nat × Nat) (t l : Nat) (ι0 : Nat → Nat → Int32) (D mi : Nat) (vs : List Value) (ι : Nat → Nat → Int32) (X : LwR) : Prop := match X with
  | .inl s => ∃ ι', rz_f Z D mi vs (rz_mk h ι, w) = some (.inl (some (.int 1)), (rz_mk h ι', w)) ∧ lqI t l ι0 ι' s.1 s.2
  | .inr f => ∃ ι', rz_f Z D mi vs (rz_mk h ι, w) = some (.inl (some (.int 0)), (rz_mk h ι', w)) ∧ lqN t l ι0 ι' f
theorem lq_put {p : Nat} {C : List (Nat × Nat)} {q : Nat × Nat} (o : lqO Z h t a l) (i : lqI t l ι0 ι C p) (hC : C.length < 150) : ∃ ι', rz_f Z (d + 2) 62 [.ref a, .int (lwE q)] (rz_mk h ι, w) = some (.inl (some (.int 1)), (rz_mk h ι', w)) ∧ lqI t l ι0 ι' (C ++ [q]) p := by
  obtain ⟨o1, o2, o3, o4, o5⟩ := o
  obtain ⟨i1, i2, i3, i4, i5, i6⟩ := i
  have hzl : Z.2.1 ≤ l := by omega
  have eL : Int32.ofNat 150 = nI 150 := rfl
  have c : (nI C.length < nI 150) = True := by rw [nI_lt2 (by omega) (by omega)]; simp [hC]
  have ix : rz_ix (nI C.length) 150 := rz_ix_nat hC (by omega)
  refine ⟨rz_up (rz_up ι (l + 1) C.length (lwE q)) l 3 (nI (C.length + 1)), ?_, ?_⟩
  · have P : rz_f Z (d + 1) 43 [.ref l, .int (lwE q)] (rz_mk h ι, w) = some (.inl none, (rz_mk h (rz_up (rz_up ι (l + 1) C.length (lwE q)) l 3 (nI (C.length + 1))), w)) := by
      rw [e43]
      simp (decide := true) (maxDischargeDepth := 4) only [g43_0, g43_1, g43_4, g43_5, g43_8, g43_9, g43_12, g43_13, g43_16, g43_17, g43_20, g43_21, g43_22, g43_23, g43_24, g43_27, g43_28, g43_29, g43_32, rz_k_inl, rz_k_inr, Option.toList_some, Option.toList_none, List.cons_append, List.nil_append, List.append_nil, rz_up_s, rz_u_s, rz_up_n, rz_u_n, ne_eq, not_false_eq_true, not_true_eq_false, Nat.add_assoc, Nat.reduceAdd, reduceIte, Nat.add_eq_left, Nat.left_eq_add, Nat.add_left_cancel_iff, Nat.reduceEqDiff, Nat.add_right_cancel_iff, rz_nb0, rz_nb1, rz_nbb, rz_nbi, rz_isr, rz_zle, if_true, if_false, rz_bi0, rz_bi1, Bool.not_eq_true, Bool.not_eq_false, Bool.true_eq_false, Bool.false_eq_true, rz_ix_lit, cl_lit, Nat.reduceLT, bi_t, bi_f, decide_true, decide_false, Bool.not_false, Bool.not_true, Bool.and_true, Bool.true_and, Bool.and_false, Bool.false_and, oLw_c, oLw_f0, oLw_v0, oLw_f1, oLw_v1, oLw_f2, oLw_v2, oLw_i3, oLw_a1, oLw_n1, oLw_a2, oLw_n2, oLw_a3, oLw_n3, o3, hzl, i5, eL, c, ix, nI_cl (show C.length < 2147483648 by omega), nI_1]
    rw [e62]
    simp (decide := true) (maxDischargeDepth := 4) only [g62_0, g62_1, g62_4, g62_5, g62_8, g62_9, rz_k_inl, rz_k_inr, Option.toList_some, Option.toList_none, List.cons_append, List.nil_append, List.append_nil, rz_up_s, rz_u_s, rz_up_n, rz_u_n, ne_eq, not_false_eq_true, not_true_eq_false, Nat.add_assoc, Nat.reduceAdd, reduceIte, Nat.add_eq_left, Nat.left_eq_add, Nat.add_left_cancel_iff, Nat.reduceEqDiff, Nat.add_right_cancel_iff, rz_nb0, rz_nb1, rz_nbb, rz_nbi, rz_isr, rz_zle, if_true, if_false, rz_bi0, rz_bi1, Bool.not_eq_true, Bool.not_eq_false, Bool.true_eq_false, Bool.false_eq_true, rz_ix_lit, cl_lit, Nat.reduceLT, bi_t, bi_f, decide_true, decide_false, Bool.not_false, Bool.not_true, Bool.and_true, Bool.true_and, Bool.and_false, Bool.false_and, oLt_c o1, oLt_f0 o1, oLt_v0 o1, oLt_f1 o1, oLt_v1 o1, oLw_c, oLw_f0, oLw_v0, oLw_f1, oLw_v1, oLw_f2, oLw_v2, oLw_i3, oLw_a1, oLw_n1, oLw_a2, oLw_n2, oLw_a3, oLw_n3, o1, o3, P]
  · refine ⟨(i1.up (Or.inr rfl) (by omega)).up (Or.inl rfl) (by omega), by rw [rz_up_n (by omega), rz_up_n (by omega)]; exact i2, by rw [rz_up_n (by omega), rz_up_n (by omega)]; exact i3, by rw [rz_up_n (by omega), rz_up_n (by omega)]; exact i4, by rw [rz_up_s, rz_u_s, List.length_append]; rfl, fun j hj => ?_⟩
    rw [List.length_append] at hj
    have hj : j < C.length + 1 := hj
    rw [rz_up_n (by omega), rz_up_s]
    by_cases e : j = C.length
    · subst e
      rw [rz_u_s, List.getD_eq_getElem?_getD, List.getElem?_append_right (Nat.le_refl _), Nat.sub_self]
      rfl
    · rw [rz_u_n e, List.getD_eq_getElem?_getD, List.getElem?_append_left (by omega), ← List.getD_eq_getElem?_getD]
      exact i6 j (by omega)
theorem tq_takes_y (ht : oTp h t) (hz : Z.2.1 ≤ t) {e p : Nat} (he : ι t 1 = nI e) (hp : ι t 2 = nI p) (hpe : p ≤ e) (he6 : e ≤ 600) {c : Int32} (hs : sg (ι (t + 1)) e (sk (ι (t + 1)) e p) = c) : ∃ ι', rz_f Z (d + 2) 95 [.ref t, .int c] (rz_mk h ι, w) = some (.inl (some (.int 1)), (rz_mk h ι', w)) ∧ tpOk t ι ι' (sk (ι (t + 1)) e p + 1) := by
  have := tp_takes (Z := Z) (d := d) (w := w) ht hz he hp hpe he6 c
  rw [if_pos hs] at this
  refine ⟨_, this, ⟨fun x hx => by rw [rz_up_n hx], ?_, ?_⟩, ?_, ?_, ?_⟩
  · rw [rz_up_s, rz_u_n (by omega)]
  · rw [rz_up_s, rz_u_n (by omega)]
  · rw [rz_up_s, rz_u_n (by omega)]
  · rw [rz_up_s, rz_u_n (by omega)]
  · rw [rz_up_s, rz_u_s]
theorem tq_takes_n (ht : oTp h t) (hz : Z.2.1 ≤ t) {e p : Nat} (he : ι t 1 = nI e) (hp : ι t 2 = nI p) (hpe : p ≤ e) (he6 : e ≤ 600) {c : Int32} (hs : ¬ sg (ι (t + 1)) e (sk (ι (t + 1)) e p) = c) : ∃ ι', rz_f Z (d + 2) 95 [.ref t, .int c] (rz_mk h ι, w) = some (.inl (some (.int 0)), (rz_mk h ι', w)) ∧ tpOk t ι ι' (sk (ι (t + 1)) e p) := by
  have := tp_takes (Z := Z) (d := d) (w := w) ht hz he hp hpe he6 c
  rw [if_neg hs] at this
  refine ⟨_, this, ⟨fun x hx => by rw [rz_up_n hx], ?_, ?_⟩, ?_, ?_, ?_⟩
  · rw [rz_up_s, rz_u_n (by omega)]
  · rw [rz_up_s, rz_u_n (by omega)]
  · rw [rz_up_s, rz_u_n (by omega)]
  · rw [rz_up_s, rz_u_n (by omega)]
  · rw [rz_up_s, rz_u_s]
theorem lq_opens {o q : Nat} (O : lqO Z h t a l) (ho : o ≤ 6) (hq : ι t 3 = nI q) : (o < 6 ∧ rz_f Z (d + 2) 61 [.ref a, .int (nI o)] (rz_mk h ι, w) = some (.inl (some (.int 1)), (rz_mk h ι, w))) ∨ (¬ o < 6 ∧ ∃ ι', rz_f Z (d + 2) 61 [.ref a, .int (nI o)] (rz_mk h ι, w) = some (.inl (some (.int 0)), (rz_mk h ι', w)) ∧ tpNo t ι ι' (3, q)) := by
  obtain ⟨o1, o2, o3, o4, o5⟩ := O
  have cc : (nI o < 6) = (o < 6) := nI_ltL (by omega) (by decide)
  by_cases h6 : o < 6
  · left
    refine ⟨h6, ?_⟩
    have h6' : (o < 6) = True := by simp [h6]
    rw [e61]
    simp (decide := true) (maxDischargeDepth := 4) only [g61_0, g61_1, g61_3, g61_6, g61_7, g61_10, g61_11, g61_14, g61_17, g61_18, g61_21, g61_22, rz_k_inl, rz_k_inr, Option.toList_some, Option.toList_none, List.cons_append, List.nil_append, List.append_nil, rz_up_s, rz_u_s, rz_up_n, rz_u_n, ne_eq, not_false_eq_true, not_true_eq_false, Nat.add_assoc, Nat.reduceAdd, reduceIte, Nat.add_eq_left, Nat.left_eq_add, Nat.add_left_cancel_iff, Nat.reduceEqDiff, Nat.add_right_cancel_iff, rz_nb0, rz_nb1, rz_nbb, rz_nbi, rz_isr, rz_zle, if_true, if_false, rz_bi0, rz_bi1, Bool.not_eq_true, Bool.not_eq_false, Bool.true_eq_false, Bool.false_eq_true, rz_ix_lit, cl_lit, Nat.reduceLT, bi_t, bi_f, decide_true, decide_false, Bool.not_false, Bool.not_true, Bool.and_true, Bool.true_and, Bool.and_false, Bool.false_and, oLt_c o1, oLt_f0 o1, oLt_v0 o1, oLt_f1 o1, oLt_v1 o1, o1, cc, h6']
  · right
    obtain ⟨ι', g1, g2⟩ := tq_blameT (Z := Z) (d := d) (w := w) (f := 3) o2 o4 hq
    rw [show nI 3 = 3 from rfl] at g1
    refine ⟨h6, ι', ?_, g2⟩
    have h6' : (o < 6) = False := by simp [h6]
    rw [e61]
    simp (decide := true) (maxDischargeDepth := 4) only [g61_0, g61_1, g61_3, g61_6, g61_7, g61_10, g61_11, g61_14, g61_17, g61_18, g61_21, g61_22, rz_k_inl, rz_k_inr, Option.toList_some, Option.toList_none, List.cons_append, List.nil_append, List.append_nil, rz_up_s, rz_u_s, rz_up_n, rz_u_n, ne_eq, not_false_eq_true, not_true_eq_false, Nat.add_assoc, Nat.reduceAdd, reduceIte, Nat.add_eq_left, Nat.left_eq_add, Nat.add_left_cancel_iff, Nat.reduceEqDiff, Nat.add_right_cancel_iff, rz_nb0, rz_nb1, rz_nbb, rz_nbi, rz_isr, rz_zle, if_true, if_false, rz_bi0, rz_bi1, Bool.not_eq_true, Bool.not_eq_false, Bool.true_eq_false, Bool.false_eq_true, rz_ix_lit, cl_lit, Nat.reduceLT, bi_t, bi_f, decide_true, decide_false, Bool.not_false, Bool.not_true, Bool.and_true, Bool.true_and, Bool.and_false, Bool.false_and, oLt_c o1, oLt_f0 o1, oLt_v0 o1, oLt_f1 o1, oLt_v1 o1, oTp_c, oTp_f0, oTp_v0, oTp_i1, oTp_i2, oTp_i3, oTp_i4, oTp_i5, oTp_i6, oTp_a1, oTp_n1, o1, o2, cc, h6', g1]
/-- what a method that reads on answers for -/
def lqH (Z : rx_Z) (h : Nat → Option rx_E) (w : Nat × Nat) (t a l e : Nat) (ι0 : Nat → Nat → Int32) (n m mi k dd : Nat) : Prop := ∀ (o : Nat) (C : List (Nat × Nat)) (p : Nat) (ι : Nat → Nat → Int32) (D : Nat), o ≤ 6 → p ≤ e → C.length ≤ p → 4 * (e - p) + k < n → 4 * (6 - o) + dd ≤ D → lqI t l ι0 ι C p → lqC Z h w t l ι0 D mi [.ref a, .int (nI o)] ι (lwP (ι0 (t + 1)) e n m o C p)
theorem smP_sk {B : Nat → Int32} {e : Nat} {c : Int32} {p : Nat} (hs : sg B e (sk B e p) = c) : smP B e c (sk B e p) = .inl (sk B e p + 1) := by
  unfold smP
  rw [sk_sk, if_pos hs]
theorem lq_bracket {e n o p : Nat} {C : List (Nat × Nat)} (O : lqO Z h t a l) (he : ι0 t 1 = nI e) (he6 : e ≤ 150) (HS : lqH Z h w t a l e ι0 n 0 56 3 10) (ho : o ≤ 6) (hpe : p ≤ e) (hC : C.length ≤ p) (hn : 4 * (e - p) + 1 < n + 1) (hd : 4 * (6 - o) + 8 ≤ d + 8) (i : lqI t l ι0 ι C (sk (ι0 (t + 1)) e p)) (h3 : ι t 3 = nI (sk (ι0 (t + 1)) e p)) : lqC Z h w t l ι0 (d + 7) 59 [.ref a, .int (nI o)] ι (lwI1 (ι0 (t + 1)) e (lwP (ι0 (t + 1)) e n) o C p) := by
  have OO := O
  obtain ⟨o1, o2, o3, o4, o5⟩ := O
  have hsk := sk_le (B := ι0 (t + 1)) hpe
  have hge := sk_ge (ι0 (t + 1)) e p
  have e1 : ι t 1 = nI e := i.1.2.1.trans he
  have eB := i.by OO
  obtain ⟨ι1, g1, g2, g3⟩ := tq_next (Z := Z) (d := d + 5) (w := w) o2 o4 e1 i.2.2.2.1 hsk (by omega)
  rw [eB, sk_sk] at g1 g2
  have i1 := i.tp OO g2
  have e11 : ι1 t 1 = nI e := i1.1.2.1.trans he
  have eB1 := i1.by OO
  rw [h3] at g3
  unfold lwI1
  by_cases hs : sg (ι0 (t + 1)) e (sk (ι0 (t + 1)) e p) = 40
  · rw [if_pos hs]
    rw [hs] at g1
    have hlt := sg_lt (by decide) hs
    rcases lq_opens (Z := Z) (d := d + 4) (w := w) OO ho g3 with ⟨h6, f1⟩ | ⟨h6, ι2, f1, f2⟩
    · rw [if_pos h6]
      obtain ⟨ι2, k1, k2⟩ := tq_needs_ok (Z := Z) (d := d + 4) (w := w) o2 o4 e11 i1.2.2.2.1 hsk (by omega) (c := 40) (by decide) (by rw [eB1]; exact smP_sk hs)
      have i2 := i1.tp OO k2
      have S := HS (o + 1) C (sk (ι0 (t + 1)) e p + 1) ι2 (d + 6) (by omega) (by omega) (by omega) (by omega) (by omega) i2
      cases x0 : lwP (ι0 (t + 1)) e n 0 (o + 1) C (sk (ι0 (t + 1)) e p + 1) with
      | inr f =>
        rw [x0] at S
        obtain ⟨ι3, s1, s2⟩ := S
        refine ⟨ι3, ?_, s2⟩
        rw [e59]
        simp (decide := true) (maxDischargeDepth := 4) only [g59_0, g59_1, g59_4, g59_7, g59_9, g59_12, g59_13, g59_16, g59_17, g59_20, g59_21, g59_22, g59_23, g59_26, g59_29, g59_30, g59_33, g59_35, g59_38, g59_41, g59_42, g59_43, g59_44, g59_45, g59_48, g59_51, g59_52, g59_55, g59_57, g59_60, g59_63, g59_64, g59_67, g59_68, rz_k_inl, rz_k_inr, Option.toList_some, Option.toList_none, List.cons_append, List.nil_append, List.append_nil, rz_up_s, rz_u_s, rz_up_n, rz_u_n, ne_eq, not_false_eq_true, not_true_eq_false, Nat.add_assoc, Nat.reduceAdd, reduceIte, Nat.add_eq_left, Nat.left_eq_add, Nat.add_left_cancel_iff, Nat.reduceEqDiff, Nat.add_right_cancel_iff, rz_nb0, rz_nb1, rz_nbb, rz_nbi, rz_isr, rz_zle, if_true, if_false, rz_bi0, rz_bi1, Bool.not_eq_true, Bool.not_eq_false, Bool.true_eq_false, Bool.false_eq_true, rz_ix_lit, cl_lit, Nat.reduceLT, bi_t, bi_f, decide_true, decide_false, Bool.not_false, Bool.not_true, Bool.and_true, Bool.true_and, Bool.and_false, Bool.false_and, oLt_c o1, oLt_f0 o1, oLt_v0 o1, oLt_f1 o1, oLt_v1 o1, oTp_c, oTp_f0, oTp_v0, oTp_i1, oTp_i2, oTp_i3, oTp_i4, oTp_i5, oTp_i6, oTp_a1, oTp_n1, o1, o2, g1, f1, k1, nI_1, s1, show ¬ ((1 : Int32) = 0) by decide]
      | inl s =>
        rw [x0] at S
        obtain ⟨ι3, s1, i3⟩ := S
        obtain ⟨⟨r1, r2, r3⟩, -⟩ := lwP_pr _ _ _ _ _ _ (by omega) x0
        have e13 : ι3 t 1 = nI e := i3.1.2.1.trans he
        have eB3 := i3.by OO
        rw [rB_l]
        cases x1 : smP (ι0 (t + 1)) e 41 s.2 with
        | inr f =>
          obtain ⟨ι4, l1, l2⟩ := tq_needs_no (Z := Z) (d := d + 4) (w := w) o2 o4 e13 i3.2.2.2.1 r2 (by omega) (c := 41) (by rw [eB3]; exact x1)
          refine ⟨ι4, ?_, i3.no l2⟩
          rw [e59]
          simp (decide := true) (maxDischargeDepth := 4) only [g59_0, g59_1, g59_4, g59_7, g59_9, g59_12, g59_13, g59_16, g59_17, g59_20, g59_21, g59_22, g59_23, g59_26, g59_29, g59_30, g59_33, g59_35, g59_38, g59_41, g59_42, g59_43, g59_44, g59_45, g59_48, g59_51, g59_52, g59_55, g59_57, g59_60, g59_63, g59_64, g59_67, g59_68, rz_k_inl, rz_k_inr, Option.toList_some, Option.toList_none, List.cons_append, List.nil_append, List.append_nil, rz_up_s, rz_u_s, rz_up_n, rz_u_n, ne_eq, not_false_eq_true, not_true_eq_false, Nat.add_assoc, Nat.reduceAdd, reduceIte, Nat.add_eq_left, Nat.left_eq_add, Nat.add_left_cancel_iff, Nat.reduceEqDiff, Nat.add_right_cancel_iff, rz_nb0, rz_nb1, rz_nbb, rz_nbi, rz_isr, rz_zle, if_true, if_false, rz_bi0, rz_bi1, Bool.not_eq_true, Bool.not_eq_false, Bool.true_eq_false, Bool.false_eq_true, rz_ix_lit, cl_lit, Nat.reduceLT, bi_t, bi_f, decide_true, decide_false, Bool.not_false, Bool.not_true, Bool.and_true, Bool.true_and, Bool.and_false, Bool.false_and, oLt_c o1, oLt_f0 o1, oLt_v0 o1, oLt_f1 o1, oLt_v1 o1, oTp_c, oTp_f0, oTp_v0, oTp_i1, oTp_i2, oTp_i3, oTp_i4, oTp_i5, oTp_i6, oTp_a1, oTp_n1, o1, o2, g1, f1, k1, nI_1, s1, l1, show ¬ ((1 : Int32) = 0) by decide]
        | inl q =>
          obtain ⟨ι4, l1, l2⟩ := tq_needs_ok (Z := Z) (d := d + 4) (w := w) o2 o4 e13 i3.2.2.2.1 r2 (by omega) (c := 41) (by decide) (by rw [eB3]; exact x1)
          refine ⟨ι4, ?_, i3.tp OO l2⟩
          rw [e59]
          simp (decide := true) (maxDischargeDepth := 4) only [g59_0, g59_1, g59_4, g59_7, g59_9, g59_12, g59_13, g59_16, g59_17, g59_20, g59_21, g59_22, g59_23, g59_26, g59_29, g59_30, g59_33, g59_35, g59_38, g59_41, g59_42, g59_43, g59_44, g59_45, g59_48, g59_51, g59_52, g59_55, g59_57, g59_60, g59_63, g59_64, g59_67, g59_68, rz_k_inl, rz_k_inr, Option.toList_some, Option.toList_none, List.cons_append, List.nil_append, List.append_nil, rz_up_s, rz_u_s, rz_up_n, rz_u_n, ne_eq, not_false_eq_true, not_true_eq_false, Nat.add_assoc, Nat.reduceAdd, reduceIte, Nat.add_eq_left, Nat.left_eq_add, Nat.add_left_cancel_iff, Nat.reduceEqDiff, Nat.add_right_cancel_iff, rz_nb0, rz_nb1, rz_nbb, rz_nbi, rz_isr, rz_zle, if_true, if_false, rz_bi0, rz_bi1, Bool.not_eq_true, Bool.not_eq_false, Bool.true_eq_false, Bool.false_eq_true, rz_ix_lit, cl_lit, Nat.reduceLT, bi_t, bi_f, decide_true, decide_false, Bool.not_false, Bool.not_true, Bool.and_true, Bool.true_and, Bool.and_false, Bool.false_and, oLt_c o1, oLt_f0 o1, oLt_v0 o1, oLt_f1 o1, oLt_v1 o1, oTp_c, oTp_f0, oTp_v0, oTp_i1, oTp_i2, oTp_i3, oTp_i4, oTp_i5, oTp_i6, oTp_a1, oTp_n1, o1, o2, g1, f1, k1, nI_1, s1, l1, show ¬ ((1 : Int32) = 0) by decide]
    · rw [if_neg h6]
      refine ⟨ι2, ?_, i1.no f2⟩
      rw [e59]
      simp (decide := true) (maxDischargeDepth := 4) only [g59_0, g59_1, g59_4, g59_7, g59_9, g59_12, g59_13, g59_16, g59_17, g59_20, g59_21, g59_22, g59_23, g59_26, g59_29, g59_30, g59_33, g59_35, g59_38, g59_41, g59_42, g59_43, g59_44, g59_45, g59_48, g59_51, g59_52, g59_55, g59_57, g59_60, g59_63, g59_64, g59_67, g59_68, rz_k_inl, rz_k_inr, Option.toList_some, Option.toList_none, List.cons_append, List.nil_append, List.append_nil, rz_up_s, rz_u_s, rz_up_n, rz_u_n, ne_eq, not_false_eq_true, not_true_eq_false, Nat.add_assoc, Nat.reduceAdd, reduceIte, Nat.add_eq_left, Nat.left_eq_add, Nat.add_left_cancel_iff, Nat.reduceEqDiff, Nat.add_right_cancel_iff, rz_nb0, rz_nb1, rz_nbb, rz_nbi, rz_isr, rz_zle, if_true, if_false, rz_bi0, rz_bi1, Bool.not_eq_true, Bool.not_eq_false, Bool.true_eq_false, Bool.false_eq_true, rz_ix_lit, cl_lit, Nat.reduceLT, bi_t, bi_f, decide_true, decide_false, Bool.not_false, Bool.not_true, Bool.and_true, Bool.true_and, Bool.and_false, Bool.false_and, oLt_c o1, oLt_f0 o1, oLt_v0 o1, oLt_f1 o1, oLt_v1 o1, oTp_c, oTp_f0, oTp_v0, oTp_i1, oTp_i2, oTp_i3, oTp_i4, oTp_i5, oTp_i6, oTp_a1, oTp_n1, o1, o2, g1, f1]
  · rw [if_neg hs]
    obtain ⟨ι2, k1, k2⟩ := tq_blameT (Z := Z) (d := d + 5) (w := w) (f := 1) o2 o4 g3
    rw [show nI 1 = 1 from rfl] at k1
    refine ⟨ι2, ?_, i1.no k2⟩
    rw [e59]
    simp (decide := true) (maxDischargeDepth := 4) only [g59_0, g59_1, g59_4, g59_7, g59_9, g59_12, g59_13, g59_16, g59_17, g59_20, g59_21, g59_22, g59_23, g59_26, g59_29, g59_30, g59_33, g59_35, g59_38, g59_41, g59_42, g59_43, g59_44, g59_45, g59_48, g59_51, g59_52, g59_55, g59_57, g59_60, g59_63, g59_64, g59_67, g59_68, rz_k_inl, rz_k_inr, Option.toList_some, Option.toList_none, List.cons_append, List.nil_append, List.append_nil, rz_up_s, rz_u_s, rz_up_n, rz_u_n, ne_eq, not_false_eq_true, not_true_eq_false, Nat.add_assoc, Nat.reduceAdd, reduceIte, Nat.add_eq_left, Nat.left_eq_add, Nat.add_left_cancel_iff, Nat.reduceEqDiff, Nat.add_right_cancel_iff, rz_nb0, rz_nb1, rz_nbb, rz_nbi, rz_isr, rz_zle, if_true, if_false, rz_bi0, rz_bi1, Bool.not_eq_true, Bool.not_eq_false, Bool.true_eq_false, Bool.false_eq_true, rz_ix_lit, cl_lit, Nat.reduceLT, bi_t, bi_f, decide_true, decide_false, Bool.not_false, Bool.not_true, Bool.and_true, Bool.true_and, Bool.and_false, Bool.false_and, oLt_c o1, oLt_f0 o1, oLt_v0 o1, oLt_f1 o1, oLt_v1 o1, oTp_c, oTp_f0, oTp_v0, oTp_i1, oTp_i2, oTp_i3, oTp_i4, oTp_i5, oTp_i6, oTp_a1, oTp_n1, o1, o2, g1, hs, k1]
theorem lq_chosen {e n o p j : Nat} {C : List (Nat × Nat)} (O : lqO Z h t a l) (he : ι0 t 1 = nI e) (he6 : e ≤ 150) (HS : lqH Z h w t a l e ι0 n 0 56 3 10) (ho : o ≤ 6) (hpe : p ≤ e) (hC : C.length ≤ p) (hn : 4 * (e - p) + 1 < n + 1) (hd : 4 * (6 - o) + 8 ≤ d + 8) (hj : j = 7 ∨ j = 8) (hw : sk (ι0 (t + 1)) e p < wdR (ι0 (t + 1)) e p) (i : lqI t l ι0 ι C (wdR (ι0 (t + 1)) e p)) (h3 : ι t 3 = nI (sk (ι0 (t + 1)) e p)) : lqC Z h w t l ι0 (d + 7) 60 [.ref a, .int (nI o), .int (lwE (j, 0))] ι (lwI2 (ι0 (t + 1)) e (lwP (ι0 (t + 1)) e n) o C p j) := by
  have OO := O
  obtain ⟨o1, o2, o3, o4, o5⟩ := O
  have hge := sk_ge (ι0 (t + 1)) e p
  have hwd := (wdR_le (B := ι0 (t + 1)) hpe).2
  have e1 : ι t 1 = nI e := i.1.2.1.trans he
  have eB := i.by OO
  have z1 : ¬ ((1 : Int32) = 0) := by decide
  unfold lwI2
  rcases lq_opens (Z := Z) (d := d + 4) (w := w) OO ho h3 with ⟨h6, f1⟩ | ⟨h6, ι2, f1, f2⟩
  · rw [if_pos h6]
    cases x1 : smP (ι0 (t + 1)) e 91 (wdR (ι0 (t + 1)) e p) with
    | inr f =>
      obtain ⟨ι1, k1, k2⟩ := tq_needs_no (Z := Z) (d := d + 4) (w := w) o2 o4 e1 i.2.2.2.1 hwd (by omega) (c := 91) (by rw [eB]; exact x1)
      refine ⟨ι1, ?_, i.no k2⟩
      rw [e60]
      simp (decide := true) (maxDischargeDepth := 4) only [g60_0, g60_1, g60_2, g60_5, g60_8, g60_9, g60_12, g60_14, g60_17, g60_20, g60_21, g60_22, g60_23, g60_24, g60_27, g60_30, g60_31, g60_34, g60_36, g60_39, g60_42, g60_43, g60_44, g60_45, g60_46, g60_49, g60_52, g60_53, g60_56, g60_58, g60_61, g60_64, g60_65, g60_66, g60_69, g60_72, g60_73, g60_76, g60_77, rz_k_inl, rz_k_inr, Option.toList_some, Option.toList_none, List.cons_append, List.nil_append, List.append_nil, rz_up_s, rz_u_s, rz_up_n, rz_u_n, ne_eq, not_false_eq_true, not_true_eq_false, Nat.add_assoc, Nat.reduceAdd, reduceIte, Nat.add_eq_left, Nat.left_eq_add, Nat.add_left_cancel_iff, Nat.reduceEqDiff, Nat.add_right_cancel_iff, rz_nb0, rz_nb1, rz_nbb, rz_nbi, rz_isr, rz_zle, if_true, if_false, rz_bi0, rz_bi1, Bool.not_eq_true, Bool.not_eq_false, Bool.true_eq_false, Bool.false_eq_true, rz_ix_lit, cl_lit, Nat.reduceLT, bi_t, bi_f, decide_true, decide_false, Bool.not_false, Bool.not_true, Bool.and_true, Bool.true_and, Bool.and_false, Bool.false_and, oLt_c o1, oLt_f0 o1, oLt_v0 o1, oLt_f1 o1, oLt_v1 o1, oTp_c, oTp_f0, oTp_v0, oTp_i1, oTp_i2, oTp_i3, oTp_i4, oTp_i5, oTp_i6, oTp_a1, oTp_n1, o1, o2, f1, k1, z1]
    | inl q =>
      obtain ⟨-, q2, q3⟩ := smP_ok hwd (by decide) x1
      have q4 := sk_ge (ι0 (t + 1)) e (wdR (ι0 (t + 1)) e p)
      obtain ⟨ι1, k1, k2⟩ := tq_needs_ok (Z := Z) (d := d + 4) (w := w) o2 o4 e1 i.2.2.2.1 hwd (by omega) (c := 91) (by decide) (by rw [eB]; exact x1)
      have i1 := i.tp OO k2
      have S := HS (o + 1) C q ι1 (d + 6) (by omega) q3 (by omega) (by omega) (by omega) i1
      rw [rB_l]
      cases x2 : lwP (ι0 (t + 1)) e n 0 (o + 1) C q with
      | inr f =>
        rw [x2] at S
        obtain ⟨ι2, s1, s2⟩ := S
        refine ⟨ι2, ?_, s2⟩
        rw [e60]
        simp (decide := true) (maxDischargeDepth := 4) only [g60_0, g60_1, g60_2, g60_5, g60_8, g60_9, g60_12, g60_14, g60_17, g60_20, g60_21, g60_22, g60_23, g60_24, g60_27, g60_30, g60_31, g60_34, g60_36, g60_39, g60_42, g60_43, g60_44, g60_45, g60_46, g60_49, g60_52, g60_53, g60_56, g60_58, g60_61, g60_64, g60_65, g60_66, g60_69, g60_72, g60_73, g60_76, g60_77, rz_k_inl, rz_k_inr, Option.toList_some, Option.toList_none, List.cons_append, List.nil_append, List.append_nil, rz_up_s, rz_u_s, rz_up_n, rz_u_n, ne_eq, not_false_eq_true, not_true_eq_false, Nat.add_assoc, Nat.reduceAdd, reduceIte, Nat.add_eq_left, Nat.left_eq_add, Nat.add_left_cancel_iff, Nat.reduceEqDiff, Nat.add_right_cancel_iff, rz_nb0, rz_nb1, rz_nbb, rz_nbi, rz_isr, rz_zle, if_true, if_false, rz_bi0, rz_bi1, Bool.not_eq_true, Bool.not_eq_false, Bool.true_eq_false, Bool.false_eq_true, rz_ix_lit, cl_lit, Nat.reduceLT, bi_t, bi_f, decide_true, decide_false, Bool.not_false, Bool.not_true, Bool.and_true, Bool.true_and, Bool.and_false, Bool.false_and, oLt_c o1, oLt_f0 o1, oLt_v0 o1, oLt_f1 o1, oLt_v1 o1, oTp_c, oTp_f0, oTp_v0, oTp_i1, oTp_i2, oTp_i3, oTp_i4, oTp_i5, oTp_i6, oTp_a1, oTp_n1, o1, o2, f1, k1, nI_1, s1, z1]
      | inl s =>
        rw [x2] at S
        obtain ⟨ι2, s1, i2⟩ := S
        obtain ⟨⟨r1, r2, r3⟩, -⟩ := lwP_pr _ _ _ _ _ _ q3 x2
        have e12 : ι2 t 1 = nI e := i2.1.2.1.trans he
        have eB2 := i2.by OO
        rw [rB_l]
        cases x3 : smP (ι0 (t + 1)) e 44 s.2 with
        | inr f =>
          obtain ⟨ι3, l1, l2⟩ := tq_needs_no (Z := Z) (d := d + 4) (w := w) o2 o4 e12 i2.2.2.2.1 r2 (by omega) (c := 44) (by rw [eB2]; exact x3)
          refine ⟨ι3, ?_, i2.no l2⟩
          rw [e60]
          simp (decide := true) (maxDischargeDepth := 4) only [g60_0, g60_1, g60_2, g60_5, g60_8, g60_9, g60_12, g60_14, g60_17, g60_20, g60_21, g60_22, g60_23, g60_24, g60_27, g60_30, g60_31, g60_34, g60_36, g60_39, g60_42, g60_43, g60_44, g60_45, g60_46, g60_49, g60_52, g60_53, g60_56, g60_58, g60_61, g60_64, g60_65, g60_66, g60_69, g60_72, g60_73, g60_76, g60_77, rz_k_inl, rz_k_inr, Option.toList_some, Option.toList_none, List.cons_append, List.nil_append, List.append_nil, rz_up_s, rz_u_s, rz_up_n, rz_u_n, ne_eq, not_false_eq_true, not_true_eq_false, Nat.add_assoc, Nat.reduceAdd, reduceIte, Nat.add_eq_left, Nat.left_eq_add, Nat.add_left_cancel_iff, Nat.reduceEqDiff, Nat.add_right_cancel_iff, rz_nb0, rz_nb1, rz_nbb, rz_nbi, rz_isr, rz_zle, if_true, if_false, rz_bi0, rz_bi1, Bool.not_eq_true, Bool.not_eq_false, Bool.true_eq_false, Bool.false_eq_true, rz_ix_lit, cl_lit, Nat.reduceLT, bi_t, bi_f, decide_true, decide_false, Bool.not_false, Bool.not_true, Bool.and_true, Bool.true_and, Bool.and_false, Bool.false_and, oLt_c o1, oLt_f0 o1, oLt_v0 o1, oLt_f1 o1, oLt_v1 o1, oTp_c, oTp_f0, oTp_v0, oTp_i1, oTp_i2, oTp_i3, oTp_i4, oTp_i5, oTp_i6, oTp_a1, oTp_n1, o1, o2, f1, k1, nI_1, s1, l1, z1]
        | inl u =>
          obtain ⟨-, u2, u3⟩ := smP_ok r2 (by decide) x3
          have u4 := sk_ge (ι0 (t + 1)) e s.2
          obtain ⟨ι3, l1, l2⟩ := tq_needs_ok (Z := Z) (d := d + 4) (w := w) o2 o4 e12 i2.2.2.2.1 r2 (by omega) (c := 44) (by decide) (by rw [eB2]; exact x3)
          have i3 := i2.tp OO l2
          have S2 := HS (o + 1) s.1 u ι3 (d + 6) (by omega) u3 (by omega) (by omega) (by omega) i3
          rw [rB_l]
          cases x4 : lwP (ι0 (t + 1)) e n 0 (o + 1) s.1 u with
          | inr f =>
            rw [x4] at S2
            obtain ⟨ι4, v1, v2⟩ := S2
            refine ⟨ι4, ?_, v2⟩
            rw [e60]
            simp (decide := true) (maxDischargeDepth := 4) only [g60_0, g60_1, g60_2, g60_5, g60_8, g60_9, g60_12, g60_14, g60_17, g60_20, g60_21, g60_22, g60_23, g60_24, g60_27, g60_30, g60_31, g60_34, g60_36, g60_39, g60_42, g60_43, g60_44, g60_45, g60_46, g60_49, g60_52, g60_53, g60_56, g60_58, g60_61, g60_64, g60_65, g60_66, g60_69, g60_72, g60_73, g60_76, g60_77, rz_k_inl, rz_k_inr, Option.toList_some, Option.toList_none, List.cons_append, List.nil_append, List.append_nil, rz_up_s, rz_u_s, rz_up_n, rz_u_n, ne_eq, not_false_eq_true, not_true_eq_false, Nat.add_assoc, Nat.reduceAdd, reduceIte, Nat.add_eq_left, Nat.left_eq_add, Nat.add_left_cancel_iff, Nat.reduceEqDiff, Nat.add_right_cancel_iff, rz_nb0, rz_nb1, rz_nbb, rz_nbi, rz_isr, rz_zle, if_true, if_false, rz_bi0, rz_bi1, Bool.not_eq_true, Bool.not_eq_false, Bool.true_eq_false, Bool.false_eq_true, rz_ix_lit, cl_lit, Nat.reduceLT, bi_t, bi_f, decide_true, decide_false, Bool.not_false, Bool.not_true, Bool.and_true, Bool.true_and, Bool.and_false, Bool.false_and, oLt_c o1, oLt_f0 o1, oLt_v0 o1, oLt_f1 o1, oLt_v1 o1, oTp_c, oTp_f0, oTp_v0, oTp_i1, oTp_i2, oTp_i3, oTp_i4, oTp_i5, oTp_i6, oTp_a1, oTp_n1, o1, o2, f1, k1, nI_1, s1, l1, v1, z1]
          | inl s2 =>
            rw [x4] at S2
            obtain ⟨ι4, v1, i4⟩ := S2
            obtain ⟨⟨b1, b2, b3⟩, -⟩ := lwP_pr _ _ _ _ _ _ u3 x4
            have e14 : ι4 t 1 = nI e := i4.1.2.1.trans he
            have eB4 := i4.by OO
            rw [rB_l]
            cases x5 : smP (ι0 (t + 1)) e 93 s2.2 with
            | inr f =>
              obtain ⟨ι5, m1, m2⟩ := tq_needs_no (Z := Z) (d := d + 4) (w := w) o2 o4 e14 i4.2.2.2.1 b2 (by omega) (c := 93) (by rw [eB4]; exact x5)
              refine ⟨ι5, ?_, i4.no m2⟩
              rw [e60]
              simp (decide := true) (maxDischargeDepth := 4) only [g60_0, g60_1, g60_2, g60_5, g60_8, g60_9, g60_12, g60_14, g60_17, g60_20, g60_21, g60_22, g60_23, g60_24, g60_27, g60_30, g60_31, g60_34, g60_36, g60_39, g60_42, g60_43, g60_44, g60_45, g60_46, g60_49, g60_52, g60_53, g60_56, g60_58, g60_61, g60_64, g60_65, g60_66, g60_69, g60_72, g60_73, g60_76, g60_77, rz_k_inl, rz_k_inr, Option.toList_some, Option.toList_none, List.cons_append, List.nil_append, List.append_nil, rz_up_s, rz_u_s, rz_up_n, rz_u_n, ne_eq, not_false_eq_true, not_true_eq_false, Nat.add_assoc, Nat.reduceAdd, reduceIte, Nat.add_eq_left, Nat.left_eq_add, Nat.add_left_cancel_iff, Nat.reduceEqDiff, Nat.add_right_cancel_iff, rz_nb0, rz_nb1, rz_nbb, rz_nbi, rz_isr, rz_zle, if_true, if_false, rz_bi0, rz_bi1, Bool.not_eq_true, Bool.not_eq_false, Bool.true_eq_false, Bool.false_eq_true, rz_ix_lit, cl_lit, Nat.reduceLT, bi_t, bi_f, decide_true, decide_false, Bool.not_false, Bool.not_true, Bool.and_true, Bool.true_and, Bool.and_false, Bool.false_and, oLt_c o1, oLt_f0 o1, oLt_v0 o1, oLt_f1 o1, oLt_v1 o1, oTp_c, oTp_f0, oTp_v0, oTp_i1, oTp_i2, oTp_i3, oTp_i4, oTp_i5, oTp_i6, oTp_a1, oTp_n1, o1, o2, f1, k1, nI_1, s1, l1, v1, m1, z1]
            | inl q3' =>
              obtain ⟨-, y2, y3⟩ := smP_ok b2 (by decide) x5
              have y4 := sk_ge (ι0 (t + 1)) e s2.2
              obtain ⟨ι5, m1, m2⟩ := tq_needs_ok (Z := Z) (d := d + 4) (w := w) o2 o4 e14 i4.2.2.2.1 b2 (by omega) (c := 93) (by decide) (by rw [eB4]; exact x5)
              obtain ⟨ι6, n1, n2⟩ := lq_put (Z := Z) (d := d + 4) (w := w) (q := (j, 0)) OO (i4.tp OO m2) (by omega)
              refine ⟨ι6, ?_, n2⟩
              rw [e60]
              simp (decide := true) (maxDischargeDepth := 4) only [g60_0, g60_1, g60_2, g60_5, g60_8, g60_9, g60_12, g60_14, g60_17, g60_20, g60_21, g60_22, g60_23, g60_24, g60_27, g60_30, g60_31, g60_34, g60_36, g60_39, g60_42, g60_43, g60_44, g60_45, g60_46, g60_49, g60_52, g60_53, g60_56, g60_58, g60_61, g60_64, g60_65, g60_66, g60_69, g60_72, g60_73, g60_76, g60_77, rz_k_inl, rz_k_inr, Option.toList_some, Option.toList_none, List.cons_append, List.nil_append, List.append_nil, rz_up_s, rz_u_s, rz_up_n, rz_u_n, ne_eq, not_false_eq_true, not_true_eq_false, Nat.add_assoc, Nat.reduceAdd, reduceIte, Nat.add_eq_left, Nat.left_eq_add, Nat.add_left_cancel_iff, Nat.reduceEqDiff, Nat.add_right_cancel_iff, rz_nb0, rz_nb1, rz_nbb, rz_nbi, rz_isr, rz_zle, if_true, if_false, rz_bi0, rz_bi1, Bool.not_eq_true, Bool.not_eq_false, Bool.true_eq_false, Bool.false_eq_true, rz_ix_lit, cl_lit, Nat.reduceLT, bi_t, bi_f, decide_true, decide_false, Bool.not_false, Bool.not_true, Bool.and_true, Bool.true_and, Bool.and_false, Bool.false_and, oLt_c o1, oLt_f0 o1, oLt_v0 o1, oLt_f1 o1, oLt_v1 o1, oTp_c, oTp_f0, oTp_v0, oTp_i1, oTp_i2, oTp_i3, oTp_i4, oTp_i5, oTp_i6, oTp_a1, oTp_n1, o1, o2, f1, k1, nI_1, s1, l1, v1, m1, n1, z1]
  · rw [if_neg h6]
    refine ⟨ι2, ?_, i.no f2⟩
    rw [e60]
    simp (decide := true) (maxDischargeDepth := 4) only [g60_0, g60_1, g60_2, g60_5, g60_8, g60_9, g60_12, g60_14, g60_17, g60_20, g60_21, g60_22, g60_23, g60_24, g60_27, g60_30, g60_31, g60_34, g60_36, g60_39, g60_42, g60_43, g60_44, g60_45, g60_46, g60_49, g60_52, g60_53, g60_56, g60_58, g60_61, g60_64, g60_65, g60_66, g60_69, g60_72, g60_73, g60_76, g60_77, rz_k_inl, rz_k_inr, Option.toList_some, Option.toList_none, List.cons_append, List.nil_append, List.append_nil, rz_up_s, rz_u_s, rz_up_n, rz_u_n, ne_eq, not_false_eq_true, not_true_eq_false, Nat.add_assoc, Nat.reduceAdd, reduceIte, Nat.add_eq_left, Nat.left_eq_add, Nat.add_left_cancel_iff, Nat.reduceEqDiff, Nat.add_right_cancel_iff, rz_nb0, rz_nb1, rz_nbb, rz_nbi, rz_isr, rz_zle, if_true, if_false, rz_bi0, rz_bi1, Bool.not_eq_true, Bool.not_eq_false, Bool.true_eq_false, Bool.false_eq_true, rz_ix_lit, cl_lit, Nat.reduceLT, bi_t, bi_f, decide_true, decide_false, Bool.not_false, Bool.not_true, Bool.and_true, Bool.true_and, Bool.and_false, Bool.false_and, oLt_c o1, oLt_f0 o1, oLt_v0 o1, oLt_f1 o1, oLt_v1 o1, oTp_c, oTp_f0, oTp_v0, oTp_i1, oTp_i2, oTp_i3, oTp_i4, oTp_i5, oTp_i6, oTp_a1, oTp_n1, o1, o2, f1]
end LAW2
