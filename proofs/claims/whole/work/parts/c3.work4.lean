/-! the reference reads WORK: a step without loops -/
/-- how many of the first tokens close no loop -/
def nC (T : Nat → TK) : Nat → Nat
  | 0 => 0
  | i + 1 => nC T i + (if (T i).1 = 6 then 0 else 1)
theorem nC_mono (T : Nat → TK) : ∀ i j, i ≤ j → nC T i ≤ nC T j := by
  intro i j h
  induction j with
  | zero => rw [show i = 0 by omega]; exact Nat.le_refl _
  | succ j ih =>
    by_cases e : i = j + 1
    · rw [e]; exact Nat.le_refl _
    · have := ih (by omega)
      rw [nC]
      omega
theorem nC_lt {T : Nat → TK} {i j : Nat} (h : i < j) (ho : (T i).1 ≠ 6) : nC T i < nC T j := by
  have := nC_mono T (i + 1) j (by omega)
  rw [nC, if_neg ho] at this
  omega
theorem nC_le (T : Nat → TK) : ∀ i, nC T i ≤ i
  | 0 => Nat.le_refl _
  | i + 1 => by
    have := nC_le T i
    rw [nC]
    split <;> omega
theorem nC_cong {T T' : Nat → TK} : ∀ i, (∀ j, j < i → (T' j).1 = (T j).1) → nC T' i = nC T i
  | 0, _ => rfl
  | i + 1, h => by rw [nC, nC, nC_cong i (fun j hj => h j (by omega)), h i (by omega)]
def nxI (T : Nat → TK) (i : Nat) : Nat := if (T i).1 = 5 then nC T (T i).2.2.1 else nC T (i + 1)
def rwI (ι : Nat → Nat → Int32) (b : Nat) (r : Nat) (q : TK) : Prop := ι (b + (366 + r)) 0 = nI q.1 ∧ (q.1 ≠ 4 → ι (b + (366 + r)) 1 = nI q.2.1) ∧ (q.1 = 0 ∨ q.1 = 2 → ι (b + (366 + r)) 2 = nI q.2.2.1) ∧ (q.1 = 0 → ι (b + (366 + r)) 3 = nI q.2.2.2)
def wrQ (b a : Nat) : Prop := b + 366 ≤ a ∧ a < b + 446
def wrS (k : Nat) : Prop := k = 4 ∨ k = 5 ∨ k = 6 ∨ k = 8 ∨ k = 24
def wrR (ι : Nat → Nat → Int32) (b : Nat) (K : List Nat) (T : Nat → TK) (m : Nat) : Prop := ∀ i, i < m → (T i).1 ≠ 6 → rwI ι b (nC T i) (T i) ∧ (i ∉ K → ι (b + (366 + nC T i)) 4 = nI (nxI T i) ∧ ((T i).1 = 5 → (T i).2.2.1 < m))
def wrI (b : Nat) (ι0 ι : Nat → Nat → Int32) (K : List Nat) (T : Nat → TK) (m p : Nat) : Prop := mgF b (wrQ b) wrS ι0 ι ∧ ι b 4 = nI p ∧ ι b 5 = 0 ∧ ι b 8 = nI K.length ∧ ι b 24 = nI (nC T m) ∧ wrR ι b K T m
def wrN (b : Nat) (ι0 ι : Nat → Nat → Int32) (f : Nat × Nat) : Prop := mgF b (wrQ b) wrS ι0 ι ∧ ι b 5 = nI f.1 ∧ ι b 6 = nI f.2 ∧ (∃ p, p ≤ 600 ∧ ι b 4 = nI p) ∧ f.1 ≠ 0 ∧ f.1 < 10
theorem wrN.nz {b : Nat} {f : Nat × Nat} {ι0 ι : Nat → Nat → Int32} (i : wrN b ι0 ι f) : ¬ (ι b 5 = 0) := by rw [i.2.1]; exact fN i.2.2.2.2.1 i.2.2.2.2.2
theorem wrN.row {b a k : Nat} {f : Nat × Nat} {ι0 ι : Nat → Nat → Int32} {v : Int32} (i : wrN b ι0 ι f) (ha : wrQ b a) : wrN b ι0 (rz_up ι a k v) f := by
  have hab : a ≠ b := by unfold wrQ at ha; omega
  obtain ⟨i1, i2⟩ := i
  refine ⟨i1.upA ha hab, ?_⟩
  rw [rz_up_n (Ne.symm hab)]
  exact i2
/-- a step that is being written down -/
def wrH (b : Nat) (ι0 ι : Nat → Nat → Int32) (K : List Nat) (T : Nat → TK) (m q : Nat) : Prop := mgF b (wrQ b) wrS ι0 ι ∧ ι b 4 = nI q ∧ ι b 5 = 0 ∧ ι b 8 = nI K.length ∧ ι b 24 = nI (nC T m + 1) ∧ wrR ι b K T m
theorem wrR.row {b m k : Nat} {ι : Nat → Nat → Int32} {K : List Nat} {T : Nat → TK} {v : Int32} (h : wrR ι b K T m) : wrR (rz_up ι (b + (366 + nC T m)) k v) b K T m := by
  intro i hi ho
  have := nC_lt hi ho
  unfold rwI
  rw [rz_up_n (by omega)]
  exact h i hi ho
theorem wrH.row {b m q k : Nat} {ι0 ι : Nat → Nat → Int32} {K : List Nat} {T : Nat → TK} {v : Int32} (hm : m < 80) (i : wrH b ι0 ι K T m q) : wrH b ι0 (rz_up ι (b + (366 + nC T m)) k v) K T m q := by
  obtain ⟨i1, i2, i3, i4, i5, i6⟩ := i
  have := nC_le T m
  exact ⟨i1.upA (by unfold wrQ; omega) (by omega), by rw [rz_up_n (by omega)]; exact i2, by rw [rz_up_n (by omega)]; exact i3, by rw [rz_up_n (by omega)]; exact i4, by rw [rz_up_n (by omega)]; exact i5, i6.row⟩
theorem wrR.cong {b m : Nat} {ι ι' : Nat → Nat → Int32} {K : List Nat} {T : Nat → TK} (h : wrR ι b K T m) (he : ∀ a, a ≠ b → ι' a = ι a) : wrR ι' b K T m := by
  intro i hi ho
  unfold rwI
  rw [he _ (by omega)]
  exact h i hi ho
theorem wrH.rd {b m q q' : Nat} {ι0 ι ι' : Nat → Nat → Int32} {K : List Nat} {T : Nat → TK} (i : wrH b ι0 ι K T m q) (k : rdOk b ι ι' q') : wrH b ι0 ι' K T m q' := by
  obtain ⟨i1, i2, i3, i4, i5, i6⟩ := i
  obtain ⟨k1, k2, k3, k4⟩ := k
  exact ⟨i1.trans (mgF.rd k1 (by unfold wrS; omega) (by unfold wrS; omega) (by unfold wrS; omega)), k2, k3.trans i3, (k1.2 8 (by omega) (by omega) (by omega)).trans i4, (k1.2 24 (by omega) (by omega) (by omega)).trans i5, i6.cong k1.1⟩
theorem wrH.no {b m q : Nat} {f : Nat × Nat} {ι0 ι ι' : Nat → Nat → Int32} {K : List Nat} {T : Nat → TK} (i : wrH b ι0 ι K T m q) (k : rdNo b ι ι' f) (h1 : f.1 ≠ 0) (h2 : f.1 < 10) : wrN b ι0 ι' f := ⟨i.1.trans (mgF.rd k.1 (by unfold wrS; omega) (by unfold wrS; omega) (by unfold wrS; omega)), k.2.1, k.2.2.1, k.2.2.2, h1, h2⟩
theorem wrI.rd {b m q q' : Nat} {ι0 ι ι' : Nat → Nat → Int32} {K : List Nat} {T : Nat → TK} (i : wrI b ι0 ι K T m q) (k : rdOk b ι ι' q') : wrI b ι0 ι' K T m q' := by
  obtain ⟨i1, i2, i3, i4, i5, i6⟩ := i
  obtain ⟨k1, k2, k3, k4⟩ := k
  exact ⟨i1.trans (mgF.rd k1 (by unfold wrS; omega) (by unfold wrS; omega) (by unfold wrS; omega)), k2, k3.trans i3, (k1.2 8 (by omega) (by omega) (by omega)).trans i4, (k1.2 24 (by omega) (by omega) (by omega)).trans i5, i6.cong k1.1⟩
theorem wrI.no {b m q : Nat} {f : Nat × Nat} {ι0 ι ι' : Nat → Nat → Int32} {K : List Nat} {T : Nat → TK} (i : wrI b ι0 ι K T m q) (k : rdNo b ι ι' f) (h1 : f.1 ≠ 0) (h2 : f.1 < 10) : wrN b ι0 ι' f := ⟨i.1.trans (mgF.rd k.1 (by unfold wrS; omega) (by unfold wrS; omega) (by unfold wrS; omega)), k.2.1, k.2.2.1, k.2.2.2, h1, h2⟩
theorem wrI.e2 {b m p e : Nat} {ι0 ι : Nat → Nat → Int32} {K : List Nat} {T : Nat → TK} (i : wrI b ι0 ι K T m p) (he : ι0 b 2 = nI e) : ι b 2 = nI e := (i.1.2 2 (by unfold wrS; omega)).trans he
theorem wrI.by {b m p : Nat} {ι0 ι : Nat → Nat → Int32} {K : List Nat} {T : Nat → TK} (i : wrI b ι0 ι K T m p) : ι (b + 1) = ι0 (b + 1) := i.1.1 _ (by omega) (by unfold wrQ; omega)
theorem wrH.e2 {b m p e : Nat} {ι0 ι : Nat → Nat → Int32} {K : List Nat} {T : Nat → TK} (i : wrH b ι0 ι K T m p) (he : ι0 b 2 = nI e) : ι b 2 = nI e := (i.1.2 2 (by unfold wrS; omega)).trans he
theorem wrH.by {b m p : Nat} {ι0 ι : Nat → Nat → Int32} {K : List Nat} {T : Nat → TK} (i : wrH b ι0 ι K T m p) : ι (b + 1) = ι0 (b + 1) := i.1.1 _ (by omega) (by unfold wrQ; omega)
/-- .. and stands there -/
theorem wrH.fin {b m q : Nat} {ι0 ι : Nat → Nat → Int32} {K : List Nat} {T : Nat → TK} {x : TK} (hk : ∀ k ∈ K, k < m) (ho : x.1 ≠ 6) (ho5 : x.1 ≠ 5) (i : wrH b ι0 ι K T m q) (hr : rwI ι b (nC T m) x) (h4 : ι (b + (366 + nC T m)) 4 = nI (nC T m + 1)) : wrI b ι0 ι K (upT T m x) (m + 1) q := by
  obtain ⟨i1, i2, i3, i4, i5, i6⟩ := i
  have c1 : ∀ j, j ≤ m → nC (upT T m x) j = nC T j := fun j hj => nC_cong j (fun y hy => by rw [upT_n (by omega)])
  have c2 : nC (upT T m x) (m + 1) = nC T m + 1 := by rw [nC, c1 m (Nat.le_refl _), upT_s, if_neg ho]
  refine ⟨i1, i2, i3, i4, by rw [c2]; exact i5, fun j hj hj6 => ?_⟩
  by_cases e : j = m
  · subst e
    rw [c1 j (Nat.le_refl _), upT_s]
    refine ⟨hr, fun _ => ⟨?_, fun z => absurd z ho5⟩⟩
    unfold nxI
    rw [upT_s, if_neg ho5, c2]
    exact h4
  · rw [upT_n e] at hj6
    rw [c1 j (by omega), upT_n e]
    obtain ⟨a1, a2⟩ := i6 j (by omega) hj6
    refine ⟨a1, fun z => ?_⟩
    obtain ⟨a3, a4⟩ := a2 z
    refine ⟨?_, fun z5 => by have := a4 z5; omega⟩
    rw [a3]
    unfold nxI
    rw [upT_n e]
    by_cases o5 : (T j).1 = 5
    · rw [if_pos o5, if_pos o5, c1 _ (by have := a4 o5; omega)]
    · rw [if_neg o5, if_neg o5, c1 (j + 1) (by omega)]
section WORK4
variable {Z : rx_Z} {d : Nat} {h : Nat → Option rx_E} {ι ι0 : Nat → Nat → Int32} {w : Nat × Nat} {b : Nat}
def stpK (B : Nat → Int32) (e p : Nat) : Int32 := if wdIs B (sk B e p) (wdR B e p) (WD 15) = true then 0 else if wdIs B (sk B e p) (wdR B e p) (WD 16) = true then 1 else if wdIs B (sk B e p) (wdR B e p) (WD 17) = true then 2 else if wdIs B (sk B e p) (wdR B e p) (WD 18) = true then 3 else if wdIs B (sk B e p) (wdR B e p) (WD 19) = true then 4 else if wdIs B (sk B e p) (wdR B e p) (WD 14) = true then 5 else -1
theorem wr_stepHere {e p : Nat} (hb : oMd h b) (hz : Z.2.1 ≤ b) (he : ι b 2 = nI e) (hp : ι b 4 = nI (sk (ι (b + 1)) e p)) (hpe : p ≤ e) (he6 : e ≤ 600) (h5 : ι b 5 = 0) : rz_f Z (d + 5) 210 [.ref b] (rz_mk h ι, w) = some (.inl (some (.int (stpK (ι (b + 1)) e p))), (rz_mk h ι, w)) := by
  have hsk := sk_le (B := ι (b + 1)) hpe
  have W15 := rd_isWord (Z := Z) (d := d) (w := w) hb hz he hp hsk he6 h5 (W := WD 15) ⟨by decide, by decide⟩ (x1 := 6) (x2 := 5) (x3 := 9) (x4 := 7) (x5 := 14) (x6 := 0) (by decide)
  have W16 := rd_isWord (Z := Z) (d := d) (w := w) hb hz he hp hsk he6 h5 (W := WD 16) ⟨by decide, by decide⟩ (x1 := 4) (x2 := 18) (x3 := 15) (x4 := 16) (x5 := 0) (x6 := 0) (by decide)
  have W17 := rd_isWord (Z := Z) (d := d) (w := w) hb hz he hp hsk he6 h5 (W := WD 17) ⟨by decide, by decide⟩ (x1 := 2) (x2 := 9) (x3 := 18) (x4 := 20) (x5 := 8) (x6 := 0) (by decide)
  have W18 := rd_isWord (Z := Z) (d := d) (w := w) hb hz he hp hsk he6 h5 (W := WD 18) ⟨by decide, by decide⟩ (x1 := 4) (x2 := 9) (x3 := 5) (x4 := 0) (x5 := 0) (x6 := 0) (by decide)
  have W19 := rd_isWord (Z := Z) (d := d) (w := w) hb hz he hp hsk he6 h5 (W := WD 19) ⟨by decide, by decide⟩ (x1 := 25) (x2 := 5) (x3 := 1) (x4 := 18) (x5 := 0) (x6 := 0) (by decide)
  have W14 := rd_isWord (Z := Z) (d := d) (w := w) hb hz he hp hsk he6 h5 (W := WD 14) ⟨by decide, by decide⟩ (x1 := 1) (x2 := 7) (x3 := 1) (x4 := 9) (x5 := 14) (x6 := 0) (by decide)
  rw [sk_sk, rz_up_id hp] at W15 W16 W17 W18 W19 W14
  unfold stpK wdR
  cases c15 : wdIs (ι (b + 1)) (sk (ι (b + 1)) e p) (wdE (ι (b + 1)) (e - sk (ι (b + 1)) e p) (sk (ι (b + 1)) e p)) (WD 15) with
  | true =>
    rw [c15] at W15
    rw [e210]
    simp (decide := true) (maxDischargeDepth := 4) only [g210_0, g210_1, g210_3, g210_4, g210_6, g210_8, g210_10, g210_11, g210_14, g210_17, g210_18, g210_19, g210_20, g210_21, g210_23, g210_25, g210_27, g210_28, g210_29, g210_32, g210_35, g210_36, g210_37, g210_38, g210_39, g210_41, g210_43, g210_45, g210_47, g210_48, g210_51, g210_54, g210_55, g210_56, g210_57, g210_58, g210_60, g210_61, g210_62, g210_63, g210_64, g210_67, g210_70, g210_71, g210_72, g210_73, g210_75, g210_76, g210_77, g210_79, g210_80, g210_81, g210_84, g210_87, g210_88, g210_89, g210_90, g210_91, g210_93, g210_94, g210_96, g210_98, g210_99, g210_102, g210_105, g210_106, g210_109, g210_110, rz_k_inl, rz_k_inr, Option.toList_some, Option.toList_none, List.cons_append, List.nil_append, List.append_nil, rz_up_s, rz_u_s, rz_up_n, rz_u_n, ne_eq, not_false_eq_true, not_true_eq_false, Nat.add_assoc, Nat.reduceAdd, reduceIte, Nat.add_eq_left, Nat.left_eq_add, Nat.add_left_cancel_iff, Nat.reduceEqDiff, Nat.add_right_cancel_iff, rz_nb0, rz_nb1, rz_nbb, rz_nbi, rz_isr, rz_zle, if_true, if_false, rz_bi0, rz_bi1, Bool.not_eq_true, Bool.not_eq_false, Bool.true_eq_false, Bool.false_eq_true, rz_ix_lit, cl_lit, Nat.reduceLT, bi_t, bi_f, decide_true, decide_false, Bool.not_false, Bool.not_true, Bool.and_true, Bool.true_and, Bool.and_false, Bool.false_and, oMd_c, oMd_i0, oMd_i1, oMd_i2, oMd_i3, oMd_i4, oMd_i5, oMd_i6, oMd_i7, oMd_i8, oMd_f9, oMd_v9, oMd_f10, oMd_v10, oMd_f11, oMd_v11, oMd_f12, oMd_v12, oMd_f13, oMd_v13, oMd_f14, oMd_v14, oMd_i15, oMd_i16, oMd_f17, oMd_v17, oMd_f18, oMd_v18, oMd_f19, oMd_v19, oMd_f20, oMd_v20, oMd_f21, oMd_v21, oMd_f22, oMd_v22, oMd_f23, oMd_v23, oMd_i24, oMd_f25, oMd_v25, oMd_f26, oMd_v26, oMd_f27, oMd_v27, oMd_f28, oMd_v28, oMd_i29, oMd_i30, oMd_i31, oMd_i32, oMd_i33, oMd_i34, oMd_i35, oMd_f36, oMd_v36, oMd_f37, oMd_v37, oMd_f38, oMd_v38, oMd_i39, oMd_f40, oMd_v40, oMd_f41, oMd_v41, oMd_i42, oMd_f43, oMd_v43, oMd_i44, oMd_a1, oMd_n1, oMd_a2, oMd_n2, oMd_a3, oMd_n3, oMd_a4, oMd_n4, oMd_a363, oMd_n363, oMd_a364, oMd_n364, oMd_a446, oMd_n446, oMd_a447, oMd_n447, oMd_a469, oMd_n469, oMd_a470, oMd_n470, oMd_a471, oMd_n471, oMd_a472, oMd_n472, oMd_a473, oMd_n473, oMd_a5, oMd_n5, oMd_e5, oMd_ra5, oMd_rn5, oMd_a14, oMd_n14, oMd_e14, oMd_ra14, oMd_rn14, oMd_a23, oMd_n23, oMd_e23, oMd_ra23, oMd_rn23, oMd_a184, oMd_n184, oMd_e184, oMd_ra184, oMd_rn184, oMd_a345, oMd_n345, oMd_e345, oMd_ra345, oMd_rn345, oMd_a354, oMd_n354, oMd_e354, oMd_ra354, oMd_rn354, oMd_a365, oMd_n365, oMd_e365, oMd_ra365, oMd_rn365, oMd_a448, oMd_n448, oMd_e448, oMd_ra448, oMd_rn448, oMd_a465, oMd_n465, oMd_e465, oMd_ra465, oMd_rn465, hb, W15]
  | false =>
    rw [c15] at W15
    cases c16 : wdIs (ι (b + 1)) (sk (ι (b + 1)) e p) (wdE (ι (b + 1)) (e - sk (ι (b + 1)) e p) (sk (ι (b + 1)) e p)) (WD 16) with
    | true =>
      rw [c16] at W16
      rw [e210]
      simp (decide := true) (maxDischargeDepth := 4) only [g210_0, g210_1, g210_3, g210_4, g210_6, g210_8, g210_10, g210_11, g210_14, g210_17, g210_18, g210_19, g210_20, g210_21, g210_23, g210_25, g210_27, g210_28, g210_29, g210_32, g210_35, g210_36, g210_37, g210_38, g210_39, g210_41, g210_43, g210_45, g210_47, g210_48, g210_51, g210_54, g210_55, g210_56, g210_57, g210_58, g210_60, g210_61, g210_62, g210_63, g210_64, g210_67, g210_70, g210_71, g210_72, g210_73, g210_75, g210_76, g210_77, g210_79, g210_80, g210_81, g210_84, g210_87, g210_88, g210_89, g210_90, g210_91, g210_93, g210_94, g210_96, g210_98, g210_99, g210_102, g210_105, g210_106, g210_109, g210_110, rz_k_inl, rz_k_inr, Option.toList_some, Option.toList_none, List.cons_append, List.nil_append, List.append_nil, rz_up_s, rz_u_s, rz_up_n, rz_u_n, ne_eq, not_false_eq_true, not_true_eq_false, Nat.add_assoc, Nat.reduceAdd, reduceIte, Nat.add_eq_left, Nat.left_eq_add, Nat.add_left_cancel_iff, Nat.reduceEqDiff, Nat.add_right_cancel_iff, rz_nb0, rz_nb1, rz_nbb, rz_nbi, rz_isr, rz_zle, if_true, if_false, rz_bi0, rz_bi1, Bool.not_eq_true, Bool.not_eq_false, Bool.true_eq_false, Bool.false_eq_true, rz_ix_lit, cl_lit, Nat.reduceLT, bi_t, bi_f, decide_true, decide_false, Bool.not_false, Bool.not_true, Bool.and_true, Bool.true_and, Bool.and_false, Bool.false_and, oMd_c, oMd_i0, oMd_i1, oMd_i2, oMd_i3, oMd_i4, oMd_i5, oMd_i6, oMd_i7, oMd_i8, oMd_f9, oMd_v9, oMd_f10, oMd_v10, oMd_f11, oMd_v11, oMd_f12, oMd_v12, oMd_f13, oMd_v13, oMd_f14, oMd_v14, oMd_i15, oMd_i16, oMd_f17, oMd_v17, oMd_f18, oMd_v18, oMd_f19, oMd_v19, oMd_f20, oMd_v20, oMd_f21, oMd_v21, oMd_f22, oMd_v22, oMd_f23, oMd_v23, oMd_i24, oMd_f25, oMd_v25, oMd_f26, oMd_v26, oMd_f27, oMd_v27, oMd_f28, oMd_v28, oMd_i29, oMd_i30, oMd_i31, oMd_i32, oMd_i33, oMd_i34, oMd_i35, oMd_f36, oMd_v36, oMd_f37, oMd_v37, oMd_f38, oMd_v38, oMd_i39, oMd_f40, oMd_v40, oMd_f41, oMd_v41, oMd_i42, oMd_f43, oMd_v43, oMd_i44, oMd_a1, oMd_n1, oMd_a2, oMd_n2, oMd_a3, oMd_n3, oMd_a4, oMd_n4, oMd_a363, oMd_n363, oMd_a364, oMd_n364, oMd_a446, oMd_n446, oMd_a447, oMd_n447, oMd_a469, oMd_n469, oMd_a470, oMd_n470, oMd_a471, oMd_n471, oMd_a472, oMd_n472, oMd_a473, oMd_n473, oMd_a5, oMd_n5, oMd_e5, oMd_ra5, oMd_rn5, oMd_a14, oMd_n14, oMd_e14, oMd_ra14, oMd_rn14, oMd_a23, oMd_n23, oMd_e23, oMd_ra23, oMd_rn23, oMd_a184, oMd_n184, oMd_e184, oMd_ra184, oMd_rn184, oMd_a345, oMd_n345, oMd_e345, oMd_ra345, oMd_rn345, oMd_a354, oMd_n354, oMd_e354, oMd_ra354, oMd_rn354, oMd_a365, oMd_n365, oMd_e365, oMd_ra365, oMd_rn365, oMd_a448, oMd_n448, oMd_e448, oMd_ra448, oMd_rn448, oMd_a465, oMd_n465, oMd_e465, oMd_ra465, oMd_rn465, hb, W15, W16]
    | false =>
      rw [c16] at W16
      cases c17 : wdIs (ι (b + 1)) (sk (ι (b + 1)) e p) (wdE (ι (b + 1)) (e - sk (ι (b + 1)) e p) (sk (ι (b + 1)) e p)) (WD 17) with
      | true =>
        rw [c17] at W17
        rw [e210]
        simp (decide := true) (maxDischargeDepth := 4) only [g210_0, g210_1, g210_3, g210_4, g210_6, g210_8, g210_10, g210_11, g210_14, g210_17, g210_18, g210_19, g210_20, g210_21, g210_23, g210_25, g210_27, g210_28, g210_29, g210_32, g210_35, g210_36, g210_37, g210_38, g210_39, g210_41, g210_43, g210_45, g210_47, g210_48, g210_51, g210_54, g210_55, g210_56, g210_57, g210_58, g210_60, g210_61, g210_62, g210_63, g210_64, g210_67, g210_70, g210_71, g210_72, g210_73, g210_75, g210_76, g210_77, g210_79, g210_80, g210_81, g210_84, g210_87, g210_88, g210_89, g210_90, g210_91, g210_93, g210_94, g210_96, g210_98, g210_99, g210_102, g210_105, g210_106, g210_109, g210_110, rz_k_inl, rz_k_inr, Option.toList_some, Option.toList_none, List.cons_append, List.nil_append, List.append_nil, rz_up_s, rz_u_s, rz_up_n, rz_u_n, ne_eq, not_false_eq_true, not_true_eq_false, Nat.add_assoc, Nat.reduceAdd, reduceIte, Nat.add_eq_left, Nat.left_eq_add, Nat.add_left_cancel_iff, Nat.reduceEqDiff, Nat.add_right_cancel_iff, rz_nb0, rz_nb1, rz_nbb, rz_nbi, rz_isr, rz_zle, if_true, if_false, rz_bi0, rz_bi1, Bool.not_eq_true, Bool.not_eq_false, Bool.true_eq_false, Bool.false_eq_true, rz_ix_lit, cl_lit, Nat.reduceLT, bi_t, bi_f, decide_true, decide_false, Bool.not_false, Bool.not_true, Bool.and_true, Bool.true_and, Bool.and_false, Bool.false_and, oMd_c, oMd_i0, oMd_i1, oMd_i2, oMd_i3, oMd_i4, oMd_i5, oMd_i6, oMd_i7, oMd_i8, oMd_f9, oMd_v9, oMd_f10, oMd_v10, oMd_f11, oMd_v11, oMd_f12, oMd_v12, oMd_f13, oMd_v13, oMd_f14, oMd_v14, oMd_i15, oMd_i16, oMd_f17, oMd_v17, oMd_f18, oMd_v18, oMd_f19, oMd_v19, oMd_f20, oMd_v20, oMd_f21, oMd_v21, oMd_f22, oMd_v22, oMd_f23, oMd_v23, oMd_i24, oMd_f25, oMd_v25, oMd_f26, oMd_v26, oMd_f27, oMd_v27, oMd_f28, oMd_v28, oMd_i29, oMd_i30, oMd_i31, oMd_i32, oMd_i33, oMd_i34, oMd_i35, oMd_f36, oMd_v36, oMd_f37, oMd_v37, oMd_f38, oMd_v38, oMd_i39, oMd_f40, oMd_v40, oMd_f41, oMd_v41, oMd_i42, oMd_f43, oMd_v43, oMd_i44, oMd_a1, oMd_n1, oMd_a2, oMd_n2, oMd_a3, oMd_n3, oMd_a4, oMd_n4, oMd_a363, oMd_n363, oMd_a364, oMd_n364, oMd_a446, oMd_n446, oMd_a447, oMd_n447, oMd_a469, oMd_n469, oMd_a470, oMd_n470, oMd_a471, oMd_n471, oMd_a472, oMd_n472, oMd_a473, oMd_n473, oMd_a5, oMd_n5, oMd_e5, oMd_ra5, oMd_rn5, oMd_a14, oMd_n14, oMd_e14, oMd_ra14, oMd_rn14, oMd_a23, oMd_n23, oMd_e23, oMd_ra23, oMd_rn23, oMd_a184, oMd_n184, oMd_e184, oMd_ra184, oMd_rn184, oMd_a345, oMd_n345, oMd_e345, oMd_ra345, oMd_rn345, oMd_a354, oMd_n354, oMd_e354, oMd_ra354, oMd_rn354, oMd_a365, oMd_n365, oMd_e365, oMd_ra365, oMd_rn365, oMd_a448, oMd_n448, oMd_e448, oMd_ra448, oMd_rn448, oMd_a465, oMd_n465, oMd_e465, oMd_ra465, oMd_rn465, hb, W15, W16, W17]
      | false =>
        rw [c17] at W17
        cases c18 : wdIs (ι (b + 1)) (sk (ι (b + 1)) e p) (wdE (ι (b + 1)) (e - sk (ι (b + 1)) e p) (sk (ι (b + 1)) e p)) (WD 18) with
        | true =>
          rw [c18] at W18
          rw [e210]
          simp (decide := true) (maxDischargeDepth := 4) only [g210_0, g210_1, g210_3, g210_4, g210_6, g210_8, g210_10, g210_11, g210_14, g210_17, g210_18, g210_19, g210_20, g210_21, g210_23, g210_25, g210_27, g210_28, g210_29, g210_32, g210_35, g210_36, g210_37, g210_38, g210_39, g210_41, g210_43, g210_45, g210_47, g210_48, g210_51, g210_54, g210_55, g210_56, g210_57, g210_58, g210_60, g210_61, g210_62, g210_63, g210_64, g210_67, g210_70, g210_71, g210_72, g210_73, g210_75, g210_76, g210_77, g210_79, g210_80, g210_81, g210_84, g210_87, g210_88, g210_89, g210_90, g210_91, g210_93, g210_94, g210_96, g210_98, g210_99, g210_102, g210_105, g210_106, g210_109, g210_110, rz_k_inl, rz_k_inr, Option.toList_some, Option.toList_none, List.cons_append, List.nil_append, List.append_nil, rz_up_s, rz_u_s, rz_up_n, rz_u_n, ne_eq, not_false_eq_true, not_true_eq_false, Nat.add_assoc, Nat.reduceAdd, reduceIte, Nat.add_eq_left, Nat.left_eq_add, Nat.add_left_cancel_iff, Nat.reduceEqDiff, Nat.add_right_cancel_iff, rz_nb0, rz_nb1, rz_nbb, rz_nbi, rz_isr, rz_zle, if_true, if_false, rz_bi0, rz_bi1, Bool.not_eq_true, Bool.not_eq_false, Bool.true_eq_false, Bool.false_eq_true, rz_ix_lit, cl_lit, Nat.reduceLT, bi_t, bi_f, decide_true, decide_false, Bool.not_false, Bool.not_true, Bool.and_true, Bool.true_and, Bool.and_false, Bool.false_and, oMd_c, oMd_i0, oMd_i1, oMd_i2, oMd_i3, oMd_i4, oMd_i5, oMd_i6, oMd_i7, oMd_i8, oMd_f9, oMd_v9, oMd_f10, oMd_v10, oMd_f11, oMd_v11, oMd_f12, oMd_v12, oMd_f13, oMd_v13, oMd_f14, oMd_v14, oMd_i15, oMd_i16, oMd_f17, oMd_v17, oMd_f18, oMd_v18, oMd_f19, oMd_v19, oMd_f20, oMd_v20, oMd_f21, oMd_v21, oMd_f22, oMd_v22, oMd_f23, oMd_v23, oMd_i24, oMd_f25, oMd_v25, oMd_f26, oMd_v26, oMd_f27, oMd_v27, oMd_f28, oMd_v28, oMd_i29, oMd_i30, oMd_i31, oMd_i32, oMd_i33, oMd_i34, oMd_i35, oMd_f36, oMd_v36, oMd_f37, oMd_v37, oMd_f38, oMd_v38, oMd_i39, oMd_f40, oMd_v40, oMd_f41, oMd_v41, oMd_i42, oMd_f43, oMd_v43, oMd_i44, oMd_a1, oMd_n1, oMd_a2, oMd_n2, oMd_a3, oMd_n3, oMd_a4, oMd_n4, oMd_a363, oMd_n363, oMd_a364, oMd_n364, oMd_a446, oMd_n446, oMd_a447, oMd_n447, oMd_a469, oMd_n469, oMd_a470, oMd_n470, oMd_a471, oMd_n471, oMd_a472, oMd_n472, oMd_a473, oMd_n473, oMd_a5, oMd_n5, oMd_e5, oMd_ra5, oMd_rn5, oMd_a14, oMd_n14, oMd_e14, oMd_ra14, oMd_rn14, oMd_a23, oMd_n23, oMd_e23, oMd_ra23, oMd_rn23, oMd_a184, oMd_n184, oMd_e184, oMd_ra184, oMd_rn184, oMd_a345, oMd_n345, oMd_e345, oMd_ra345, oMd_rn345, oMd_a354, oMd_n354, oMd_e354, oMd_ra354, oMd_rn354, oMd_a365, oMd_n365, oMd_e365, oMd_ra365, oMd_rn365, oMd_a448, oMd_n448, oMd_e448, oMd_ra448, oMd_rn448, oMd_a465, oMd_n465, oMd_e465, oMd_ra465, oMd_rn465, hb, W15, W16, W17, W18]
        | false =>
          rw [c18] at W18
          cases c19 : wdIs (ι (b + 1)) (sk (ι (b + 1)) e p) (wdE (ι (b + 1)) (e - sk (ι (b + 1)) e p) (sk (ι (b + 1)) e p)) (WD 19) with
          | true =>
            rw [c19] at W19
            rw [e210]
            simp (decide := true) (maxDischargeDepth := 4) only [g210_0, g210_1, g210_3, g210_4, g210_6, g210_8, g210_10, g210_11, g210_14, g210_17, g210_18, g210_19, g210_20, g210_21, g210_23, g210_25, g210_27, g210_28, g210_29, g210_32, g210_35, g210_36, g210_37, g210_38, g210_39, g210_41, g210_43, g210_45, g210_47, g210_48, g210_51, g210_54, g210_55, g210_56, g210_57, g210_58, g210_60, g210_61, g210_62, g210_63, g210_64, g210_67, g210_70, g210_71, g210_72, g210_73, g210_75, g210_76, g210_77, g210_79, g210_80, g210_81, g210_84, g210_87, g210_88, g210_89, g210_90, g210_91, g210_93, g210_94, g210_96, g210_98, g210_99, g210_102, g210_105, g210_106, g210_109, g210_110, rz_k_inl, rz_k_inr, Option.toList_some, Option.toList_none, List.cons_append, List.nil_append, List.append_nil, rz_up_s, rz_u_s, rz_up_n, rz_u_n, ne_eq, not_false_eq_true, not_true_eq_false, Nat.add_assoc, Nat.reduceAdd, reduceIte, Nat.add_eq_left, Nat.left_eq_add, Nat.add_left_cancel_iff, Nat.reduceEqDiff, Nat.add_right_cancel_iff, rz_nb0, rz_nb1, rz_nbb, rz_nbi, rz_isr, rz_zle, if_true, if_false, rz_bi0, rz_bi1, Bool.not_eq_true, Bool.not_eq_false, Bool.true_eq_false, Bool.false_eq_true, rz_ix_lit, cl_lit, Nat.reduceLT, bi_t, bi_f, decide_true, decide_false, Bool.not_false, Bool.not_true, Bool.and_true, Bool.true_and, Bool.and_false, Bool.false_and, oMd_c, oMd_i0, oMd_i1, oMd_i2, oMd_i3, oMd_i4, oMd_i5, oMd_i6, oMd_i7, oMd_i8, oMd_f9, oMd_v9, oMd_f10, oMd_v10, oMd_f11, oMd_v11, oMd_f12, oMd_v12, oMd_f13, oMd_v13, oMd_f14, oMd_v14, oMd_i15, oMd_i16, oMd_f17, oMd_v17, oMd_f18, oMd_v18, oMd_f19, oMd_v19, oMd_f20, oMd_v20, oMd_f21, oMd_v21, oMd_f22, oMd_v22, oMd_f23, oMd_v23, oMd_i24, oMd_f25, oMd_v25, oMd_f26, oMd_v26, oMd_f27, oMd_v27, oMd_f28, oMd_v28, oMd_i29, oMd_i30, oMd_i31, oMd_i32, oMd_i33, oMd_i34, oMd_i35, oMd_f36, oMd_v36, oMd_f37, oMd_v37, oMd_f38, oMd_v38, oMd_i39, oMd_f40, oMd_v40, oMd_f41, oMd_v41, oMd_i42, oMd_f43, oMd_v43, oMd_i44, oMd_a1, oMd_n1, oMd_a2, oMd_n2, oMd_a3, oMd_n3, oMd_a4, oMd_n4, oMd_a363, oMd_n363, oMd_a364, oMd_n364, oMd_a446, oMd_n446, oMd_a447, oMd_n447, oMd_a469, oMd_n469, oMd_a470, oMd_n470, oMd_a471, oMd_n471, oMd_a472, oMd_n472, oMd_a473, oMd_n473, oMd_a5, oMd_n5, oMd_e5, oMd_ra5, oMd_rn5, oMd_a14, oMd_n14, oMd_e14, oMd_ra14, oMd_rn14, oMd_a23, oMd_n23, oMd_e23, oMd_ra23, oMd_rn23, oMd_a184, oMd_n184, oMd_e184, oMd_ra184, oMd_rn184, oMd_a345, oMd_n345, oMd_e345, oMd_ra345, oMd_rn345, oMd_a354, oMd_n354, oMd_e354, oMd_ra354, oMd_rn354, oMd_a365, oMd_n365, oMd_e365, oMd_ra365, oMd_rn365, oMd_a448, oMd_n448, oMd_e448, oMd_ra448, oMd_rn448, oMd_a465, oMd_n465, oMd_e465, oMd_ra465, oMd_rn465, hb, W15, W16, W17, W18, W19]
          | false =>
            rw [c19] at W19
            cases c14 : wdIs (ι (b + 1)) (sk (ι (b + 1)) e p) (wdE (ι (b + 1)) (e - sk (ι (b + 1)) e p) (sk (ι (b + 1)) e p)) (WD 14) with
            | true =>
              rw [c14] at W14
              rw [e210]
              simp (decide := true) (maxDischargeDepth := 4) only [g210_0, g210_1, g210_3, g210_4, g210_6, g210_8, g210_10, g210_11, g210_14, g210_17, g210_18, g210_19, g210_20, g210_21, g210_23, g210_25, g210_27, g210_28, g210_29, g210_32, g210_35, g210_36, g210_37, g210_38, g210_39, g210_41, g210_43, g210_45, g210_47, g210_48, g210_51, g210_54, g210_55, g210_56, g210_57, g210_58, g210_60, g210_61, g210_62, g210_63, g210_64, g210_67, g210_70, g210_71, g210_72, g210_73, g210_75, g210_76, g210_77, g210_79, g210_80, g210_81, g210_84, g210_87, g210_88, g210_89, g210_90, g210_91, g210_93, g210_94, g210_96, g210_98, g210_99, g210_102, g210_105, g210_106, g210_109, g210_110, rz_k_inl, rz_k_inr, Option.toList_some, Option.toList_none, List.cons_append, List.nil_append, List.append_nil, rz_up_s, rz_u_s, rz_up_n, rz_u_n, ne_eq, not_false_eq_true, not_true_eq_false, Nat.add_assoc, Nat.reduceAdd, reduceIte, Nat.add_eq_left, Nat.left_eq_add, Nat.add_left_cancel_iff, Nat.reduceEqDiff, Nat.add_right_cancel_iff, rz_nb0, rz_nb1, rz_nbb, rz_nbi, rz_isr, rz_zle, if_true, if_false, rz_bi0, rz_bi1, Bool.not_eq_true, Bool.not_eq_false, Bool.true_eq_false, Bool.false_eq_true, rz_ix_lit, cl_lit, Nat.reduceLT, bi_t, bi_f, decide_true, decide_false, Bool.not_false, Bool.not_true, Bool.and_true, Bool.true_and, Bool.and_false, Bool.false_and, oMd_c, oMd_i0, oMd_i1, oMd_i2, oMd_i3, oMd_i4, oMd_i5, oMd_i6, oMd_i7, oMd_i8, oMd_f9, oMd_v9, oMd_f10, oMd_v10, oMd_f11, oMd_v11, oMd_f12, oMd_v12, oMd_f13, oMd_v13, oMd_f14, oMd_v14, oMd_i15, oMd_i16, oMd_f17, oMd_v17, oMd_f18, oMd_v18, oMd_f19, oMd_v19, oMd_f20, oMd_v20, oMd_f21, oMd_v21, oMd_f22, oMd_v22, oMd_f23, oMd_v23, oMd_i24, oMd_f25, oMd_v25, oMd_f26, oMd_v26, oMd_f27, oMd_v27, oMd_f28, oMd_v28, oMd_i29, oMd_i30, oMd_i31, oMd_i32, oMd_i33, oMd_i34, oMd_i35, oMd_f36, oMd_v36, oMd_f37, oMd_v37, oMd_f38, oMd_v38, oMd_i39, oMd_f40, oMd_v40, oMd_f41, oMd_v41, oMd_i42, oMd_f43, oMd_v43, oMd_i44, oMd_a1, oMd_n1, oMd_a2, oMd_n2, oMd_a3, oMd_n3, oMd_a4, oMd_n4, oMd_a363, oMd_n363, oMd_a364, oMd_n364, oMd_a446, oMd_n446, oMd_a447, oMd_n447, oMd_a469, oMd_n469, oMd_a470, oMd_n470, oMd_a471, oMd_n471, oMd_a472, oMd_n472, oMd_a473, oMd_n473, oMd_a5, oMd_n5, oMd_e5, oMd_ra5, oMd_rn5, oMd_a14, oMd_n14, oMd_e14, oMd_ra14, oMd_rn14, oMd_a23, oMd_n23, oMd_e23, oMd_ra23, oMd_rn23, oMd_a184, oMd_n184, oMd_e184, oMd_ra184, oMd_rn184, oMd_a345, oMd_n345, oMd_e345, oMd_ra345, oMd_rn345, oMd_a354, oMd_n354, oMd_e354, oMd_ra354, oMd_rn354, oMd_a365, oMd_n365, oMd_e365, oMd_ra365, oMd_rn365, oMd_a448, oMd_n448, oMd_e448, oMd_ra448, oMd_rn448, oMd_a465, oMd_n465, oMd_e465, oMd_ra465, oMd_rn465, hb, W15, W16, W17, W18, W19, W14]
            | false =>
              rw [c14] at W14
              rw [e210]
              simp (decide := true) (maxDischargeDepth := 4) only [g210_0, g210_1, g210_3, g210_4, g210_6, g210_8, g210_10, g210_11, g210_14, g210_17, g210_18, g210_19, g210_20, g210_21, g210_23, g210_25, g210_27, g210_28, g210_29, g210_32, g210_35, g210_36, g210_37, g210_38, g210_39, g210_41, g210_43, g210_45, g210_47, g210_48, g210_51, g210_54, g210_55, g210_56, g210_57, g210_58, g210_60, g210_61, g210_62, g210_63, g210_64, g210_67, g210_70, g210_71, g210_72, g210_73, g210_75, g210_76, g210_77, g210_79, g210_80, g210_81, g210_84, g210_87, g210_88, g210_89, g210_90, g210_91, g210_93, g210_94, g210_96, g210_98, g210_99, g210_102, g210_105, g210_106, g210_109, g210_110, rz_k_inl, rz_k_inr, Option.toList_some, Option.toList_none, List.cons_append, List.nil_append, List.append_nil, rz_up_s, rz_u_s, rz_up_n, rz_u_n, ne_eq, not_false_eq_true, not_true_eq_false, Nat.add_assoc, Nat.reduceAdd, reduceIte, Nat.add_eq_left, Nat.left_eq_add, Nat.add_left_cancel_iff, Nat.reduceEqDiff, Nat.add_right_cancel_iff, rz_nb0, rz_nb1, rz_nbb, rz_nbi, rz_isr, rz_zle, if_true, if_false, rz_bi0, rz_bi1, Bool.not_eq_true, Bool.not_eq_false, Bool.true_eq_false, Bool.false_eq_true, rz_ix_lit, cl_lit, Nat.reduceLT, bi_t, bi_f, decide_true, decide_false, Bool.not_false, Bool.not_true, Bool.and_true, Bool.true_and, Bool.and_false, Bool.false_and, oMd_c, oMd_i0, oMd_i1, oMd_i2, oMd_i3, oMd_i4, oMd_i5, oMd_i6, oMd_i7, oMd_i8, oMd_f9, oMd_v9, oMd_f10, oMd_v10, oMd_f11, oMd_v11, oMd_f12, oMd_v12, oMd_f13, oMd_v13, oMd_f14, oMd_v14, oMd_i15, oMd_i16, oMd_f17, oMd_v17, oMd_f18, oMd_v18, oMd_f19, oMd_v19, oMd_f20, oMd_v20, oMd_f21, oMd_v21, oMd_f22, oMd_v22, oMd_f23, oMd_v23, oMd_i24, oMd_f25, oMd_v25, oMd_f26, oMd_v26, oMd_f27, oMd_v27, oMd_f28, oMd_v28, oMd_i29, oMd_i30, oMd_i31, oMd_i32, oMd_i33, oMd_i34, oMd_i35, oMd_f36, oMd_v36, oMd_f37, oMd_v37, oMd_f38, oMd_v38, oMd_i39, oMd_f40, oMd_v40, oMd_f41, oMd_v41, oMd_i42, oMd_f43, oMd_v43, oMd_i44, oMd_a1, oMd_n1, oMd_a2, oMd_n2, oMd_a3, oMd_n3, oMd_a4, oMd_n4, oMd_a363, oMd_n363, oMd_a364, oMd_n364, oMd_a446, oMd_n446, oMd_a447, oMd_n447, oMd_a469, oMd_n469, oMd_a470, oMd_n470, oMd_a471, oMd_n471, oMd_a472, oMd_n472, oMd_a473, oMd_n473, oMd_a5, oMd_n5, oMd_e5, oMd_ra5, oMd_rn5, oMd_a14, oMd_n14, oMd_e14, oMd_ra14, oMd_rn14, oMd_a23, oMd_n23, oMd_e23, oMd_ra23, oMd_rn23, oMd_a184, oMd_n184, oMd_e184, oMd_ra184, oMd_rn184, oMd_a345, oMd_n345, oMd_e345, oMd_ra345, oMd_rn345, oMd_a354, oMd_n354, oMd_e354, oMd_ra354, oMd_rn354, oMd_a365, oMd_n365, oMd_e365, oMd_ra365, oMd_rn365, oMd_a448, oMd_n448, oMd_e448, oMd_ra448, oMd_rn448, oMd_a465, oMd_n465, oMd_e465, oMd_ra465, oMd_rn465, hb, W15, W16, W17, W18, W19, W14]
theorem wr_num {e m q : Nat} {K : List Nat} {T : Nat → TK} (hb : oMd h b) (hz : Z.2.1 ≤ b) (he : ι0 b 2 = nI e) (he6 : e ≤ 600) (hqe : q ≤ e) (i : wrH b ι0 ι K T m q) {x : Int32} (hx : x < 1000) : match nmN (ι0 (b + 1)) e x q with
    | .inl y => y.2 ≤ e ∧ y.1 ≤ 10000 ∧ ∃ ι', rz_f Z (d + 3) 185 [.ref b, .int 0, .int x] (rz_mk h ι, w) = some (.inl (some (.int (nI y.1))), (rz_mk h ι', w)) ∧ wrH b ι0 ι' K T m y.2 ∧ ∀ a, a ≠ b → ι' a = ι a
    | .inr f => ∃ ι', rz_f Z (d + 3) 185 [.ref b, .int 0, .int x] (rz_mk h ι, w) = some (.inl (some (.int 0)), (rz_mk h ι', w)) ∧ wrN b ι0 ι' f := by
  cases n1 : nmN (ι0 (b + 1)) e x q with
  | inl y =>
    obtain ⟨a1, a2, a3, a4, a5⟩ := nmN_ok hqe n1
    obtain ⟨ι', g1, g2⟩ := rd_num_ok (Z := Z) (d := d) (w := w) hb hz (i.e2 he) i.2.1 hqe he6 i.2.2.1 hx (by rw [i.by]; exact a1)
    exact ⟨a5, a2, ι', g1, i.rd g2, g2.1.1⟩
  | inr f =>
    obtain ⟨ι', g1, g2⟩ := rd_num_no (Z := Z) (d := d) (w := w) hb hz (i.e2 he) i.2.1 hqe he6 i.2.2.1 hx (by rw [i.by]; exact nmN_no n1)
    have := nmN_f n1
    exact ⟨ι', g1, i.no g2 (by omega) (by omega)⟩
/-- what the end of a step without loops comes to -/
def wrE (Z : rx_Z) (h : Nat → Option rx_E) (w : Nat × Nat) (b e : Nat) (ι0 : Nat → Nat → Int32) (D pc : Nat) (L : rx_L) (K : List Nat) (T : Nat → TK) (m : Nat) (ι : Nat → Nat → Int32) (X : (TK × Nat) ⊕ (Nat × Nat)) : Prop := match rB X (fun x => rB (smP (ι0 (b + 1)) e 59 x.2) (fun q => (.inl (x.1, q) : (TK × Nat) ⊕ (Nat × Nat)))) with
  | .inl s => ∃ ι', rg Z D rx_m211 pc L [] (rz_mk h ι, w) = some (.inl none, (rz_mk h ι', w)) ∧ wrI b ι0 ι' K (upT T m s.1) (m + 1) s.2
  | .inr f => ∃ ι', rg Z D rx_m211 pc L [] (rz_mk h ι, w) = some (.inl none, (rz_mk h ι', w)) ∧ wrN b ι0 ι' f
/-- its last sign -/
theorem wr_semi {e m q : Nat} {K : List Nat} {T : Nat → TK} {x : TK} (hb : oMd h b) (hz : Z.2.1 ≤ b) (he : ι0 b 2 = nI e) (he6 : e ≤ 600) (hqe : q ≤ e) (hm : m < 80) (hk : ∀ k ∈ K, k < m) (ho : x.1 ≠ 6) (ho5 : x.1 ≠ 5) (i : wrH b ι0 ι K T m q) (hr : rwI ι b (nC T m) x) (l1 : Option Value) : wrE Z h w b e ι0 (d + 3) 193 [some (.ref b), l1, some (.ref (b + (366 + nC T m)))] K T m ι (.inl (x, q)) := by
  have hn := nC_le T m
  have h24 := i.2.2.2.2.1
  have r1 := oMd_ra365 hb (show nC T m < 80 by omega)
  have r2 := oMd_rn365 hb (show nC T m < 80 by omega)
  have i1 := i.row (k := 4) (v := nI (nC T m + 1)) hm
  have hr1 : rwI (rz_up ι (b + (366 + nC T m)) 4 (nI (nC T m + 1))) b (nC T m) x := by
    unfold rwI at hr ⊢
    rw [rz_up_s, rz_u_n (by omega), rz_u_n (by omega), rz_u_n (by omega), rz_u_n (by omega)]
    exact hr
  have h41 : rz_up ι (b + (366 + nC T m)) 4 (nI (nC T m + 1)) (b + (366 + nC T m)) 4 = nI (nC T m + 1) := by rw [rz_up_s, rz_u_s]
  obtain ⟨ι1, e1⟩ : ∃ ι1, rz_up ι (b + (366 + nC T m)) 4 (nI (nC T m + 1)) = ι1 := ⟨_, rfl⟩
  rw [e1] at i1 hr1 h41
  have sg := rd_sign (Z := Z) (d := d) (w := w) hb hz (i1.e2 he) i1.2.1 hqe he6 i1.2.2.1 59
  rw [i1.by] at sg
  unfold wrE
  rw [rB_l]
  dsimp only
  cases x1 : smP (ι0 (b + 1)) e 59 q with
  | inr f =>
    obtain ⟨t1, t2⟩ := smP_no x1
    rw [if_neg t1] at sg
    subst t2
    have hk := sk_le (B := ι0 (b + 1)) hqe
    refine ⟨_, ?_, i1.no (rdNo.of b (1, sk (ι0 (b + 1)) e q) (show sk (ι0 (b + 1)) e q ≤ 600 by omega) ι1) (show (1 : Nat) ≠ 0 by decide) (show (1 : Nat) < 10 by decide)⟩
    rw [show nI (1, sk (ι0 (b + 1)) e q).1 = 1 from rfl]
    simp (decide := true) (maxDischargeDepth := 4) only [g211_193, g211_194, g211_195, g211_196, g211_199, g211_200, g211_201, g211_203, g211_206, rz_k_inl, rz_k_inr, Option.toList_some, Option.toList_none, List.cons_append, List.nil_append, List.append_nil, rz_up_s, rz_u_s, rz_up_n, rz_u_n, ne_eq, not_false_eq_true, not_true_eq_false, Nat.add_assoc, Nat.reduceAdd, reduceIte, Nat.add_eq_left, Nat.left_eq_add, Nat.add_left_cancel_iff, Nat.reduceEqDiff, Nat.add_right_cancel_iff, rz_nb0, rz_nb1, rz_nbb, rz_nbi, rz_isr, rz_zle, if_true, if_false, rz_bi0, rz_bi1, Bool.not_eq_true, Bool.not_eq_false, Bool.true_eq_false, Bool.false_eq_true, rz_ix_lit, cl_lit, Nat.reduceLT, bi_t, bi_f, decide_true, decide_false, Bool.not_false, Bool.not_true, Bool.and_true, Bool.true_and, Bool.and_false, Bool.false_and, oMd_c, oMd_i0, oMd_i1, oMd_i2, oMd_i3, oMd_i4, oMd_i5, oMd_i6, oMd_i7, oMd_i8, oMd_f9, oMd_v9, oMd_f10, oMd_v10, oMd_f11, oMd_v11, oMd_f12, oMd_v12, oMd_f13, oMd_v13, oMd_f14, oMd_v14, oMd_i15, oMd_i16, oMd_f17, oMd_v17, oMd_f18, oMd_v18, oMd_f19, oMd_v19, oMd_f20, oMd_v20, oMd_f21, oMd_v21, oMd_f22, oMd_v22, oMd_f23, oMd_v23, oMd_i24, oMd_f25, oMd_v25, oMd_f26, oMd_v26, oMd_f27, oMd_v27, oMd_f28, oMd_v28, oMd_i29, oMd_i30, oMd_i31, oMd_i32, oMd_i33, oMd_i34, oMd_i35, oMd_f36, oMd_v36, oMd_f37, oMd_v37, oMd_f38, oMd_v38, oMd_i39, oMd_f40, oMd_v40, oMd_f41, oMd_v41, oMd_i42, oMd_f43, oMd_v43, oMd_i44, oMd_a1, oMd_n1, oMd_a2, oMd_n2, oMd_a3, oMd_n3, oMd_a4, oMd_n4, oMd_a363, oMd_n363, oMd_a364, oMd_n364, oMd_a446, oMd_n446, oMd_a447, oMd_n447, oMd_a469, oMd_n469, oMd_a470, oMd_n470, oMd_a471, oMd_n471, oMd_a472, oMd_n472, oMd_a473, oMd_n473, oMd_a5, oMd_n5, oMd_e5, oMd_ra5, oMd_rn5, oMd_a14, oMd_n14, oMd_e14, oMd_ra14, oMd_rn14, oMd_a23, oMd_n23, oMd_e23, oMd_ra23, oMd_rn23, oMd_a184, oMd_n184, oMd_e184, oMd_ra184, oMd_rn184, oMd_a345, oMd_n345, oMd_e345, oMd_ra345, oMd_rn345, oMd_a354, oMd_n354, oMd_e354, oMd_ra354, oMd_rn354, oMd_a365, oMd_n365, oMd_e365, oMd_ra365, oMd_rn365, oMd_a448, oMd_n448, oMd_e448, oMd_ra448, oMd_rn448, oMd_a465, oMd_n465, oMd_e465, oMd_ra465, oMd_rn465, hb, hz, h24, r1, r2, e1, sg]
  | inl q' =>
    obtain ⟨t1, t2, t3⟩ := smP_ok hqe (by decide) x1
    rw [if_pos t1, ← t2] at sg
    have i2 := i1.rd (rdOk.of b q' ι1)
    refine ⟨rz_up ι1 b 4 (nI q'), ?_, i2.fin hk ho ho5 ?_ ?_⟩
    · simp (decide := true) (maxDischargeDepth := 4) only [g211_193, g211_194, g211_195, g211_196, g211_199, g211_200, g211_201, g211_203, g211_206, rz_k_inl, rz_k_inr, Option.toList_some, Option.toList_none, List.cons_append, List.nil_append, List.append_nil, rz_up_s, rz_u_s, rz_up_n, rz_u_n, ne_eq, not_false_eq_true, not_true_eq_false, Nat.add_assoc, Nat.reduceAdd, reduceIte, Nat.add_eq_left, Nat.left_eq_add, Nat.add_left_cancel_iff, Nat.reduceEqDiff, Nat.add_right_cancel_iff, rz_nb0, rz_nb1, rz_nbb, rz_nbi, rz_isr, rz_zle, if_true, if_false, rz_bi0, rz_bi1, Bool.not_eq_true, Bool.not_eq_false, Bool.true_eq_false, Bool.false_eq_true, rz_ix_lit, cl_lit, Nat.reduceLT, bi_t, bi_f, decide_true, decide_false, Bool.not_false, Bool.not_true, Bool.and_true, Bool.true_and, Bool.and_false, Bool.false_and, oMd_c, oMd_i0, oMd_i1, oMd_i2, oMd_i3, oMd_i4, oMd_i5, oMd_i6, oMd_i7, oMd_i8, oMd_f9, oMd_v9, oMd_f10, oMd_v10, oMd_f11, oMd_v11, oMd_f12, oMd_v12, oMd_f13, oMd_v13, oMd_f14, oMd_v14, oMd_i15, oMd_i16, oMd_f17, oMd_v17, oMd_f18, oMd_v18, oMd_f19, oMd_v19, oMd_f20, oMd_v20, oMd_f21, oMd_v21, oMd_f22, oMd_v22, oMd_f23, oMd_v23, oMd_i24, oMd_f25, oMd_v25, oMd_f26, oMd_v26, oMd_f27, oMd_v27, oMd_f28, oMd_v28, oMd_i29, oMd_i30, oMd_i31, oMd_i32, oMd_i33, oMd_i34, oMd_i35, oMd_f36, oMd_v36, oMd_f37, oMd_v37, oMd_f38, oMd_v38, oMd_i39, oMd_f40, oMd_v40, oMd_f41, oMd_v41, oMd_i42, oMd_f43, oMd_v43, oMd_i44, oMd_a1, oMd_n1, oMd_a2, oMd_n2, oMd_a3, oMd_n3, oMd_a4, oMd_n4, oMd_a363, oMd_n363, oMd_a364, oMd_n364, oMd_a446, oMd_n446, oMd_a447, oMd_n447, oMd_a469, oMd_n469, oMd_a470, oMd_n470, oMd_a471, oMd_n471, oMd_a472, oMd_n472, oMd_a473, oMd_n473, oMd_a5, oMd_n5, oMd_e5, oMd_ra5, oMd_rn5, oMd_a14, oMd_n14, oMd_e14, oMd_ra14, oMd_rn14, oMd_a23, oMd_n23, oMd_e23, oMd_ra23, oMd_rn23, oMd_a184, oMd_n184, oMd_e184, oMd_ra184, oMd_rn184, oMd_a345, oMd_n345, oMd_e345, oMd_ra345, oMd_rn345, oMd_a354, oMd_n354, oMd_e354, oMd_ra354, oMd_rn354, oMd_a365, oMd_n365, oMd_e365, oMd_ra365, oMd_rn365, oMd_a448, oMd_n448, oMd_e448, oMd_ra448, oMd_rn448, oMd_a465, oMd_n465, oMd_e465, oMd_ra465, oMd_rn465, hb, hz, h24, r1, r2, e1, sg]
    · unfold rwI
      rw [rz_up_n (by omega)]
      exact hr1
    · show rz_up ι1 b 4 (nI q') (b + (366 + nC T m)) 4 = _
      rw [rz_up_n (by omega)]
      exact h41
end WORK4
