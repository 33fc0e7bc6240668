/-! the class does WORK to its end -/
theorem mS_60 {C : List (Nat × Nat)} {T : Nat → TK} {m a : Nat} {K V : List Nat} {s : MS} {x : Nat × List Nat × MS} (hb : bst T m K a) (hV : ∀ v ∈ V, v ≤ 60) (hs : s.1 ≤ 200) (h : mS C T m a V s = some x) : (∀ v ∈ x.2.1, v ≤ 60) ∧ x.2.2.1 ≤ 200 := by
  unfold mS at h
  by_cases ha : a < m
  · rw [if_neg (fun z => z ha)] at h
    split at h
    · split at h
      · cases h; exact ⟨hV, hs⟩
      · rename_i v V
        split at h
        · cases h
          refine ⟨fun y hy => ?_, hs⟩
          rcases List.mem_cons.mp hy with z | z
          · have := hV v List.mem_cons_self; omega
          · exact hV y (List.mem_cons_of_mem _ z)
        · cases h; exact ⟨fun y hy => hV y (List.mem_cons_of_mem _ hy), hs⟩
    · rename_i h6
      split at h
      · cases h
      · rename_i hg
        split at h
        · rename_i h5
          split at h
          · cases h; exact ⟨hV, by show s.1 + 1 ≤ 200; omega⟩
          · cases h
            refine ⟨fun y hy => ?_, by show s.1 + 1 ≤ 200; omega⟩
            rcases List.mem_cons.mp hy with z | z
            · rw [z]
              rcases bst_head hb ha with ⟨j, j1, j2, j3⟩ | ⟨k, K', e1, e2, -⟩
              · rcases j2.inv j1 with ⟨q1, q2⟩ | ⟨c, q1, q2, q3, q4, q5, -⟩
                · exact absurd h5 (plK_n q1).2
                · exact q5
              · exact absurd e2 h6
            · exact hV y z
        · cases h
          refine ⟨hV, ?_⟩
          have : (dS C (T a) s).1 = s.1 + 1 := by unfold dS; split <;> rfl
          show (dS C (T a) s).1 ≤ 200
          omega
  · rw [if_pos ha] at h; cases h
section WORK11
variable {Z : rx_Z} {d : Nat} {h : Nat → Option rx_E} {ι ι0 : Nat → Nat → Int32} {w : Nat × Nat} {t a r l : Nat}
def rnQ (a r l x : Nat) : Prop := x = a ∨ x = a + 3 ∨ rlW r l x
def rnO (Z : rx_Z) (h : Nat → Option rx_E) (t a r l : Nat) : Prop := oWt h a t ∧ oRl h r ∧ oLw h l ∧ Z.2.1 ≤ a ∧ Z.2.1 ≤ l ∧ a + 4 ≤ r ∧ (l + 4 ≤ a ∨ a + 4 ≤ l) ∧ l + 4 ≤ r
def rnI (a r l : Nat) (ι0 ι : Nat → Nat → Int32) (C : List (Nat × Nat)) (m : Nat) (V : List Nat) (s : MS) : Prop := fr (rnQ a r l) ι0 ι ∧ ι a 4 = nI m ∧ lfI ι a V ∧ ι a 6 = nI s.1 ∧ ι a 7 = nI s.2.1 ∧ ι a 8 = nI s.2.2.1 ∧ rl ι r = s.2.2.2 ∧ lwIs ι l C ∧ ∃ mm dk, wkR s.2.2.2 mm dk
def rnE (a r l : Nat) (ι0 ι : Nat → Nat → Int32) (C : List (Nat × Nat)) (s : MS) : Prop := fr (rnQ a r l) ι0 ι ∧ ι a 7 = nI s.2.1 ∧ ι a 8 = nI s.2.2.1 ∧ rl ι r = s.2.2.2 ∧ lwIs ι l C
/-- what a loop's begin and end change -/
theorem rnI.lf {C : List (Nat × Nat)} {m : Nat} {V V' : List Nat} {s s' : MS} {ι' : Nat → Nat → Int32} (O : rnO Z h t a r l) (i : rnI a r l ι0 ι C m V s) (hl : lfI ι' a V') (hx : ∀ x, x ≠ a → x ≠ a + 3 → ι' x = ι x) (hk : ∀ k, k ≠ 5 → k ≠ 6 → ι' a k = ι a k) (h6 : ι' a 6 = nI s'.1) (e2 : s'.2 = s.2) : rnI a r l ι0 ι' C m V' s' := by
  obtain ⟨o1, o2, o3, o4, o5, o6, o7, o8⟩ := O
  obtain ⟨i1, i2, i3, i4, i5, i6, i7, i8, i9⟩ := i
  refine ⟨i1.trans (fun x hx2 => hx x (fun z => hx2 (Or.inl z)) (fun z => hx2 (Or.inr (Or.inl z)))), by rw [hk 4 (by omega) (by omega)]; exact i2, hl, h6, by rw [hk 7 (by omega) (by omega), e2]; exact i5, by rw [hk 8 (by omega) (by omega), e2]; exact i6, ?_, ?_, by rw [e2]; exact i9⟩
  · rw [e2, ← i7]
    exact rl_eq (hx _ (by omega) (by omega)) (hx _ (by omega) (by omega)) (hx _ (by omega) (by omega)) (hx _ (by omega) (by omega))
  · refine ⟨by rw [hx l (by omega) (by omega)]; exact i8.1, fun j hj => by rw [hx (l + 1) (by omega) (by omega)]; exact i8.2.1 j hj, i8.2.2⟩
theorem rn_loop {C : List (Nat × Nat)} {T : Nat → TK} {m : Nat} (O : rnO Z h t a r l) (HT : ∀ i, i < m → tkI ι0 a i (T i)) (hm : m < 37) : ∀ (n at_ i : Nat) (K V : List Nat) (s : MS) (ι : Nat → Nat → Int32) (l5 : Option Value), n + i ≤ 12462 → phi V s.1 < n → bst T m K at_ → K.length = V.length → K.length ≤ 6 → okV V → (∀ v ∈ V, v ≤ 60) → s.1 ≤ 200 → rnI a r l ι0 ι C m V s → ∃ ι', rg Z (d + 6) rx_m114 25 [some (.ref a), some (.ref r), some (.ref l), some (.int (nI at_)), some (.int (nI i)), l5] [] (rz_mk h ι, w) = some (.inl none, (rz_mk h ι', w)) ∧ rnE a r l ι0 ι' C (mR C T m n at_ V s) := by
  intro n
  induction n with
  | zero => intro at_ i K V s ι l5 hn hp; omega
  | succ n ih =>
    intro at_ i K V s ι l5 hn hp hb hl hK hV hV6 hs ii
    have OO := O
    obtain ⟨o1, o2, o3, o4, o5, o6, o7, o8⟩ := O
    have hbl := bst_le hb
    have I0 := ii
    obtain ⟨i1, i2, i3, i4, i5, i6, i7, i8, mm, dk, i9⟩ := ii
    have ci : (nI i < 12462) = True := by rw [nI_ltL (by omega) (by decide)]; simp; omega
    have ca : (nI at_ < nI m) = (at_ < m) := nI_lt2 (by omega) (by omega)
    rw [mR]
    by_cases ha : at_ < m
    · have ha' : (at_ < m) = True := by simp [ha]
      have tk : tkI ι a at_ (T at_) := by
        have e1 : ι (a + 1) = ι0 (a + 1) := i1 _ (by unfold rnQ rlW rlP lwS; omega)
        have := HT at_ ha
        unfold tkI at this ⊢
        rw [e1]; exact this
      have p0 := rn_part (Z := Z) (d := d + 4) (w := w) (ι := ι) (k := 0) o1 (show at_ < 37 by omega) (by omega)
      rw [show nI 0 = 0 from rfl, show at_ * 4 + 0 = at_ * 4 from rfl, tk.1] at p0
      have cg : (nI s.1 < 200) = (s.1 < 200) := nI_ltL (by omega) (by decide)
      rcases bst_head hb ha with ⟨j, j1, j2, j3⟩ | ⟨k, K', e1, e2, e3, e4, e5⟩
      · have n6 : (T at_).1 ≠ 6 := by
          rcases j2.inv j1 with ⟨q1, q2⟩ | ⟨c, q1, q2, q3, q4, -⟩
          · exact (plK_n q1).1
          · rw [q4]; decide
        have opb : (T at_).1 ≤ 5 := by
          rcases j2.inv j1 with ⟨q1, q2⟩ | ⟨c, q1, q2, q3, q4, -⟩
          · unfold plK at q1; omega
          · omega
        have c6 : (nI (T at_).1 = 6) = False := by rw [nI_eqL (by omega) (by decide)]; simp [n6]
        have c5 : (nI (T at_).1 = 5) = ((T at_).1 = 5) := nI_eqL (by omega) (by decide)
        by_cases hg : s.1 < 200
        · have hg' : (s.1 < 200) = True := by simp [hg]
          obtain ⟨J, eJ⟩ : ∃ J, rz_up ι a 6 (nI (s.1 + 1)) = J := ⟨_, rfl⟩
          have Jx : ∀ x, x ≠ a → J x = ι x := fun x hx => by rw [← eJ, rz_up_n hx]
          have Jk : ∀ k, k ≠ 6 → J a k = ι a k := fun k hk => by rw [← eJ, rz_up_s, rz_u_n hk]
          have J6 : J a 6 = nI (s.1 + 1) := by rw [← eJ, rz_up_s, rz_u_s]
          have tkJ : tkI J a at_ (T at_) := by unfold tkI; rw [Jx _ (by omega)]; exact tk
          rcases j2.inv j1 with ⟨q1, q2⟩ | ⟨c, q1, q2, q3, q4, q5, q6, q7, q8, q9, q10⟩
          · obtain ⟨-, n5⟩ := plK_n q1
            have n5' : ((T at_).1 = 5) = False := by simp [n5]
            have x0 : mS C T m at_ V s = some (at_ + 1, V, dS C (T at_) s) := by
              unfold mS
              rw [if_neg (fun z => z ha), if_neg n6, if_neg (by omega), if_neg n5]
            have rJ : rl J r = s.2.2.2 := by rw [← i7]; exact rl_eq (Jx _ (by omega)) (Jx _ (by omega)) (Jx _ (by omega)) (Jx _ (by omega))
            have lJ : lwIs J l C := ⟨by rw [Jx l (by omega)]; exact i8.1, fun j hj => by rw [Jx (l + 1) (by omega)]; exact i8.2.1 j hj, i8.2.2⟩
            obtain ⟨J2, d1, d2, d3⟩ := rn_does (Z := Z) (d := d) (w := w) (ι := J) o1 o2 (by omega) o3 o5 o8 lJ (by rw [rJ]; exact i9) q1 (show at_ < 37 by omega) tkJ
            rw [rJ] at d1 d2
            have na : ¬ rlW r l a := by unfold rlW rlP lwS; omega
            have na3 : ¬ rlW r l (a + 3) := by unfold rlW rlP lwS; omega
            have J2a : J2 a = J a := d3 a na
            have ty := rn_tally (Z := Z) (d := d + 5) (w := w) (ι := J2) (dn := s.2.1) (rf := s.2.2.1) o1 o4 (by rw [J2a, Jk 7 (by omega)]; exact i5) (by rw [J2a, Jk 8 (by omega)]; exact i6) (doR C s.2.2.2 (T at_)).isSome
            obtain ⟨K2, k1, k2, k3, k4, k5⟩ := mS_ok hb hl hK hV x0
            obtain ⟨v6, g2⟩ := mS_60 hb hV6 hs x0
            obtain ⟨mm', dk', wk⟩ := i9.dos (C := C) q1
            have ds1 : (dS C (T at_) s).1 = s.1 + 1 := by unfold dS; split <;> rfl
            have ds2 : (dS C (T at_) s).2.1 = (if (doR C s.2.2.2 (T at_)).isSome = true then s.2.1 + 1 else s.2.1) := by unfold dS; cases doR C s.2.2.2 (T at_) <;> rfl
            have ds3 : (dS C (T at_) s).2.2.1 = (if (doR C s.2.2.2 (T at_)).isSome = true then s.2.2.1 else s.2.2.1 + 1) := by unfold dS; cases doR C s.2.2.2 (T at_) <;> rfl
            have ds4 : (dS C (T at_) s).2.2.2 = (doR C s.2.2.2 (T at_)).getD s.2.2.2 := by unfold dS; cases doR C s.2.2.2 (T at_) <;> rfl
            rw [← ds2, ← ds3] at ty
            obtain ⟨J3, e3⟩ : ∃ J3, rz_up (rz_up J2 a 7 (nI (dS C (T at_) s).2.1)) a 8 (nI (dS C (T at_) s).2.2.1) = J3 := ⟨_, rfl⟩
            rw [e3] at ty
            have J3x : ∀ x, x ≠ a → J3 x = J2 x := fun x hx => by rw [← e3, rz_up_n hx, rz_up_n hx]
            have J3k : ∀ k, k ≠ 7 → k ≠ 8 → J3 a k = J2 a k := fun k a1 a2 => by rw [← e3, rz_up_s, rz_u_n a2, rz_up_s, rz_u_n a1]
            have i' : rnI a r l ι0 J3 C m V (dS C (T at_) s) := by
              refine ⟨i1.trans (fun x hx => ?_), ?_, ⟨?_, fun j hj => ?_⟩, ?_, ?_, ?_, ?_, ?_, ?_⟩
              · rw [J3x x (fun z => hx (Or.inl z)), d3 x (fun z => hx (Or.inr (Or.inr z))), Jx x (fun z => hx (Or.inl z))]
              · rw [J3k 4 (by omega) (by omega), J2a, Jk 4 (by omega)]; exact i2
              · rw [J3k 5 (by omega) (by omega), J2a, Jk 5 (by omega)]; exact i3.1
              · rw [J3x _ (by omega), d3 _ na3, Jx _ (by omega)]; exact i3.2 j hj
              · rw [J3k 6 (by omega) (by omega), J2a, J6, ds1]
              · rw [← e3, rz_up_s, rz_u_n (by omega), rz_up_s, rz_u_s]
              · rw [← e3, rz_up_s, rz_u_s]
              · rw [ds4, ← d2]; exact rl_eq (J3x _ (by omega)) (J3x _ (by omega)) (J3x _ (by omega)) (J3x _ (by omega))
              · have ll : ∀ x, (x = l ∨ x = l + 1) → J3 x = J x := fun x hx => by
                  rw [J3x x (by omega), d3 x (by unfold rlW rlP lwS; omega)]
                exact ⟨by rw [ll l (by omega)]; exact lJ.1, fun j hj => by rw [ll (l + 1) (by omega)]; exact lJ.2.1 j hj, lJ.2.2⟩
              · rw [ds4]; exact ⟨mm', dk', wk⟩
            obtain ⟨ι', y1, y2⟩ := ih (at_ + 1) (i + 1) K2 V (dS C (T at_) s) J3 (some (.int (nI (T at_).1))) (by omega) (Nat.lt_of_lt_of_le k5 (Nat.le_of_lt_succ hp)) k1 k2 k3 k4 v6 g2 i'
            rw [x0]
            refine ⟨ι', ?_, y2⟩
            rw [g114_25, ← y1]
            simp (decide := true) (maxDischargeDepth := 4) only [g114_27, g114_30, g114_33, g114_34, g114_35, g114_38, g114_41, g114_42, g114_43, g114_44, g114_47, g114_49, g114_51, g114_53, g114_56, g114_57, g114_58, g114_61, g114_62, g114_65, g114_66, g114_69, g114_72, g114_75, g114_78, g114_79, g114_80, g114_83, g114_84, g114_85, g114_88, g114_90, g114_91, g114_94, g114_95, g114_96, g114_99, g114_100, g114_103, g114_104, g114_105, g114_106, g114_107, g114_108, g114_110, g114_113, g114_116, g114_119, g114_122, rz_k_inl, rz_k_inr, Option.toList_some, Option.toList_none, List.cons_append, List.nil_append, List.append_nil, rz_up_s, rz_u_s, rz_up_n, rz_u_n, ne_eq, not_false_eq_true, not_true_eq_false, Nat.add_assoc, Nat.reduceAdd, reduceIte, Nat.add_eq_left, Nat.left_eq_add, Nat.add_left_cancel_iff, Nat.reduceEqDiff, Nat.add_right_cancel_iff, rz_nb0, rz_nb1, rz_nbb, rz_nbi, rz_isr, rz_zle, if_true, if_false, rz_bi0, rz_bi1, Bool.not_eq_true, Bool.not_eq_false, Bool.true_eq_false, Bool.false_eq_true, rz_ix_lit, cl_lit, Nat.reduceLT, bi_t, bi_f, decide_true, decide_false, Bool.not_false, Bool.not_true, Bool.and_true, Bool.true_and, Bool.and_false, Bool.false_and, oWt_c o1, oWt_f0 o1, oWt_v0 o1, oWt_f1 o1, oWt_v1 o1, oWt_f2 o1, oWt_v2 o1, oWt_f3 o1, oWt_v3 o1, oWt_i4 o1, oWt_i5 o1, oWt_i6 o1, oWt_i7 o1, oWt_i8 o1, oWt_a1 o1, oWt_n1 o1, oWt_a2 o1, oWt_n2 o1, oWt_a3 o1, oWt_n3 o1, o1, o4, ci, ca, ha', i2, p0, c6, i4, cg, hg', nI_1, eJ, c5, n5', d1, ty]
          · have n5' : ((T at_).1 = 5) = True := by simp [q4]
            obtain ⟨J2, d1, d2, d3, d4⟩ := rn_entered (Z := Z) (d := d + 3) (w := w) (ι := J) (V := V) o1 o4 (show at_ < 37 by omega) (by omega) q5 tkJ ⟨by rw [Jk 5 (by omega)]; exact i3.1, fun j hj => by rw [Jx _ (by omega)]; exact i3.2 j hj⟩
            have x0 : mS C T m at_ V s = some (if (T at_).2.1 = 0 ∨ 6 ≤ V.length then (T at_).2.2.1 + 1 else at_ + 1, if (T at_).2.1 = 0 ∨ 6 ≤ V.length then V else (T at_).2.1 :: V, (s.1 + 1, s.2)) := by
              unfold mS
              rw [if_neg (fun z => z ha), if_neg n6, if_neg (by omega), if_pos q4]
              split <;> rfl
            obtain ⟨K2, k1, k2, k3, k4, k5⟩ := mS_ok hb hl hK hV x0
            obtain ⟨v6, g2⟩ := mS_60 hb hV6 hs x0
            have i' : rnI a r l ι0 J2 C m (if (T at_).2.1 = 0 ∨ 6 ≤ V.length then V else (T at_).2.1 :: V) (s.1 + 1, s.2) := I0.lf OO d2 (fun x a1 a2 => by rw [d3 x a1 a2, Jx x a1]) (fun k a1 a2 => by rw [d4 k a1, Jk k a2]) (by rw [d4 6 (by omega), J6]) rfl
            obtain ⟨ι', y1, y2⟩ := ih _ (i + 1) K2 _ (s.1 + 1, s.2) J2 (some (.int (nI (T at_).1))) (by omega) (Nat.lt_of_lt_of_le k5 (Nat.le_of_lt_succ hp)) k1 k2 k3 k4 v6 g2 i'
            rw [x0]
            refine ⟨ι', ?_, y2⟩
            rw [g114_25, ← y1]
            simp (decide := true) (maxDischargeDepth := 4) only [g114_27, g114_30, g114_33, g114_34, g114_35, g114_38, g114_41, g114_42, g114_43, g114_44, g114_47, g114_49, g114_51, g114_53, g114_56, g114_57, g114_58, g114_61, g114_62, g114_65, g114_66, g114_69, g114_72, g114_75, g114_78, g114_79, g114_80, g114_83, g114_84, g114_85, g114_88, g114_90, g114_91, g114_94, g114_95, g114_96, g114_99, g114_100, g114_103, g114_104, g114_105, g114_106, g114_107, g114_108, g114_110, g114_113, g114_116, g114_119, g114_122, rz_k_inl, rz_k_inr, Option.toList_some, Option.toList_none, List.cons_append, List.nil_append, List.append_nil, rz_up_s, rz_u_s, rz_up_n, rz_u_n, ne_eq, not_false_eq_true, not_true_eq_false, Nat.add_assoc, Nat.reduceAdd, reduceIte, Nat.add_eq_left, Nat.left_eq_add, Nat.add_left_cancel_iff, Nat.reduceEqDiff, Nat.add_right_cancel_iff, rz_nb0, rz_nb1, rz_nbb, rz_nbi, rz_isr, rz_zle, if_true, if_false, rz_bi0, rz_bi1, Bool.not_eq_true, Bool.not_eq_false, Bool.true_eq_false, Bool.false_eq_true, rz_ix_lit, cl_lit, Nat.reduceLT, bi_t, bi_f, decide_true, decide_false, Bool.not_false, Bool.not_true, Bool.and_true, Bool.true_and, Bool.and_false, Bool.false_and, oWt_c o1, oWt_f0 o1, oWt_v0 o1, oWt_f1 o1, oWt_v1 o1, oWt_f2 o1, oWt_v2 o1, oWt_f3 o1, oWt_v3 o1, oWt_i4 o1, oWt_i5 o1, oWt_i6 o1, oWt_i7 o1, oWt_i8 o1, oWt_a1 o1, oWt_n1 o1, oWt_a2 o1, oWt_n2 o1, oWt_a3 o1, oWt_n3 o1, o1, o4, ci, ca, ha', i2, p0, c6, i4, cg, hg', nI_1, eJ, c5, n5', d1]
        · have hg' : (s.1 < 200) = False := by simp [hg]
          have x0 : mS C T m at_ V s = none := by
            unfold mS
            rw [if_neg (fun z => z ha), if_neg n6, if_pos (by omega)]
          rw [x0]
          refine ⟨ι, ?_, i1, i5, i6, i7, i8⟩
          rw [g114_25]
          simp (decide := true) (maxDischargeDepth := 4) only [g114_27, g114_30, g114_33, g114_34, g114_35, g114_38, g114_41, g114_42, g114_43, g114_44, g114_47, g114_49, g114_51, g114_53, g114_56, g114_57, g114_58, g114_61, g114_62, g114_65, g114_66, g114_69, g114_72, g114_75, g114_125, rz_k_inl, rz_k_inr, Option.toList_some, Option.toList_none, List.cons_append, List.nil_append, List.append_nil, rz_up_s, rz_u_s, rz_up_n, rz_u_n, ne_eq, not_false_eq_true, not_true_eq_false, Nat.add_assoc, Nat.reduceAdd, reduceIte, Nat.add_eq_left, Nat.left_eq_add, Nat.add_left_cancel_iff, Nat.reduceEqDiff, Nat.add_right_cancel_iff, rz_nb0, rz_nb1, rz_nbb, rz_nbi, rz_isr, rz_zle, if_true, if_false, rz_bi0, rz_bi1, Bool.not_eq_true, Bool.not_eq_false, Bool.true_eq_false, Bool.false_eq_true, rz_ix_lit, cl_lit, Nat.reduceLT, bi_t, bi_f, decide_true, decide_false, Bool.not_false, Bool.not_true, Bool.and_true, Bool.true_and, Bool.and_false, Bool.false_and, oWt_c o1, oWt_f0 o1, oWt_v0 o1, oWt_f1 o1, oWt_v1 o1, oWt_f2 o1, oWt_v2 o1, oWt_f3 o1, oWt_v3 o1, oWt_i4 o1, oWt_i5 o1, oWt_i6 o1, oWt_i7 o1, oWt_i8 o1, oWt_a1 o1, oWt_n1 o1, oWt_a2 o1, oWt_n2 o1, oWt_a3 o1, oWt_n3 o1, o1, ci, ca, ha', i2, p0, c6, i4, cg, hg']
      · cases V with
        | nil => rw [e1] at hl; cases hl
        | cons v V =>
          have c6 : (nI (T at_).1 = 6) = True := by rw [e2]; simp; rfl
          have lV : V.length < 6 := by
            have hl : K.length = V.length + 1 := hl
            omega
          obtain ⟨J2, d1, d2, d3, d4⟩ := rn_closed (Z := Z) (d := d + 3) (w := w) (ι := ι) (T := T) (v := v) (V := V) o1 o4 (show at_ < 37 by omega) lV (hV v List.mem_cons_self) (hV6 v List.mem_cons_self) tk i3
          have x0 : mS C T m at_ (v :: V) s = some (if 1 < v then (T at_).2.1 + 1 else at_ + 1, if 1 < v then (v - 1) :: V else V, s) := by
            unfold mS
            rw [if_neg (fun z => z ha), if_pos e2]
            dsimp only
            split <;> rfl
          obtain ⟨K2, k1, k2, k3, k4, k5⟩ := mS_ok hb hl hK hV x0
          obtain ⟨v6, g2⟩ := mS_60 hb hV6 hs x0
          have i' : rnI a r l ι0 J2 C m (if 1 < v then (v - 1) :: V else V) s := I0.lf OO d2 d3 (fun k a1 _ => d4 k a1) (by rw [d4 6 (by omega)]; exact i4) rfl
          obtain ⟨ι', y1, y2⟩ := ih _ (i + 1) K2 _ s J2 (some (.int (nI (T at_).1))) (by omega) (Nat.lt_of_lt_of_le k5 (Nat.le_of_lt_succ hp)) k1 k2 k3 k4 v6 g2 i'
          rw [x0]
          refine ⟨ι', ?_, y2⟩
          rw [g114_25, ← y1]
          simp (decide := true) (maxDischargeDepth := 4) only [g114_27, g114_30, g114_33, g114_34, g114_35, g114_38, g114_41, g114_42, g114_43, g114_44, g114_47, g114_49, g114_51, g114_53, g114_56, g114_57, g114_58, g114_61, g114_62, g114_119, g114_122, rz_k_inl, rz_k_inr, Option.toList_some, Option.toList_none, List.cons_append, List.nil_append, List.append_nil, rz_up_s, rz_u_s, rz_up_n, rz_u_n, ne_eq, not_false_eq_true, not_true_eq_false, Nat.add_assoc, Nat.reduceAdd, reduceIte, Nat.add_eq_left, Nat.left_eq_add, Nat.add_left_cancel_iff, Nat.reduceEqDiff, Nat.add_right_cancel_iff, rz_nb0, rz_nb1, rz_nbb, rz_nbi, rz_isr, rz_zle, if_true, if_false, rz_bi0, rz_bi1, Bool.not_eq_true, Bool.not_eq_false, Bool.true_eq_false, Bool.false_eq_true, rz_ix_lit, cl_lit, Nat.reduceLT, bi_t, bi_f, decide_true, decide_false, Bool.not_false, Bool.not_true, Bool.and_true, Bool.true_and, Bool.and_false, Bool.false_and, oWt_c o1, oWt_f0 o1, oWt_v0 o1, oWt_f1 o1, oWt_v1 o1, oWt_f2 o1, oWt_v2 o1, oWt_f3 o1, oWt_v3 o1, oWt_i4 o1, oWt_i5 o1, oWt_i6 o1, oWt_i7 o1, oWt_i8 o1, oWt_a1 o1, oWt_n1 o1, oWt_a2 o1, oWt_n2 o1, oWt_a3 o1, oWt_n3 o1, o1, o4, ci, ca, ha', i2, p0, c6, d1, nI_1]
    · have ha' : (at_ < m) = False := by simp [ha]
      have x0 : mS C T m at_ V s = none := by
        unfold mS
        rw [if_pos ha]
      rw [x0]
      refine ⟨ι, ?_, i1, i5, i6, i7, i8⟩
      rw [g114_25]
      simp (decide := true) (maxDischargeDepth := 4) only [g114_27, g114_30, g114_33, g114_34, g114_35, g114_38, g114_125, rz_k_inl, rz_k_inr, Option.toList_some, Option.toList_none, List.cons_append, List.nil_append, List.append_nil, rz_up_s, rz_u_s, rz_up_n, rz_u_n, ne_eq, not_false_eq_true, not_true_eq_false, Nat.add_assoc, Nat.reduceAdd, reduceIte, Nat.add_eq_left, Nat.left_eq_add, Nat.add_left_cancel_iff, Nat.reduceEqDiff, Nat.add_right_cancel_iff, rz_nb0, rz_nb1, rz_nbb, rz_nbi, rz_isr, rz_zle, if_true, if_false, rz_bi0, rz_bi1, Bool.not_eq_true, Bool.not_eq_false, Bool.true_eq_false, Bool.false_eq_true, rz_ix_lit, cl_lit, Nat.reduceLT, bi_t, bi_f, decide_true, decide_false, Bool.not_false, Bool.not_true, Bool.and_true, Bool.true_and, Bool.and_false, Bool.false_and, oWt_c o1, oWt_f0 o1, oWt_v0 o1, oWt_f1 o1, oWt_v1 o1, oWt_f2 o1, oWt_v2 o1, oWt_f3 o1, oWt_v3 o1, oWt_i4 o1, oWt_i5 o1, oWt_i6 o1, oWt_i7 o1, oWt_i8 o1, oWt_a1 o1, oWt_n1 o1, oWt_a2 o1, oWt_n2 o1, oWt_a3 o1, oWt_n3 o1, o1, ci, ca, ha', i2]
theorem rn_run {C : List (Nat × Nat)} {T : Nat → TK} {m mm : Nat} {dk : Option Nat} {f : MS} (O : rnO Z h t a r l) (hb : Bal T 6 0 m) (hm : m < 37) (h4 : ι a 4 = nI m) (HT : ∀ i, i < m → tkI ι a i (T i)) (hC : lwIs ι l C) (hW : wkR (rl ι r) mm dk) (hr : Rn C T m 0 [] (0, 0, 0, rl ι r) f) : ∃ ι', rz_f Z (d + 7) 114 [.ref a, .ref r, .ref l] (rz_mk h ι, w) = some (.inl none, (rz_mk h ι', w)) ∧ rnE a r l ι ι' C f := by
  have OO := O
  obtain ⟨o1, o2, o3, o4, o5, o6, o7, o8⟩ := O
  obtain ⟨J, eJ⟩ : ∃ J, rz_up (rz_up (rz_up (rz_up ι a 6 0) a 7 0) a 8 0) a 5 0 = J := ⟨_, rfl⟩
  have Jx : ∀ x, x ≠ a → J x = ι x := fun x hx => by rw [← eJ, rz_up_n hx, rz_up_n hx, rz_up_n hx, rz_up_n hx]
  have i0 : rnI a r l ι J C m [] (0, 0, 0, rl ι r) := by
    refine ⟨fun x hx => Jx x (fun z => hx (Or.inl z)), ?_, ⟨?_, fun j hj => by cases hj⟩, ?_, ?_, ?_, ?_, ?_, mm, dk, hW⟩
    · rw [← eJ]; simp [rz_up, rz_u]; exact h4
    · rw [← eJ]; simp [rz_up, rz_u]; rfl
    · rw [← eJ]; simp [rz_up, rz_u]; rfl
    · rw [← eJ]; simp [rz_up, rz_u]; rfl
    · rw [← eJ]; simp [rz_up, rz_u]; rfl
    · exact rl_eq (Jx _ (by omega)) (Jx _ (by omega)) (Jx _ (by omega)) (Jx _ (by omega))
    · exact ⟨by rw [Jx l (by omega)]; exact hC.1, fun j hj => by rw [Jx (l + 1) (by omega)]; exact hC.2.1 j hj, hC.2.2⟩
  have L := rn_loop (Z := Z) (d := d) (w := w) (ι0 := ι) OO HT hm 12462 0 0 [] [] (0, 0, 0, rl ι r) J none (by omega) (show phi [] 0 < 12462 by decide) hb rfl (by decide) (fun v hv => by cases hv) (fun v hv => by cases hv) (show (0 : Nat) ≤ 200 by decide) i0
  rw [mR_run hb rfl hr] at L
  obtain ⟨ι', y1, y2⟩ := L
  refine ⟨ι', ?_, y2⟩
  rw [e114, ← y1, show nI 0 = 0 from rfl]
  simp (decide := true) (maxDischargeDepth := 4) only [g114_0, g114_1, g114_2, g114_5, g114_6, g114_7, g114_10, g114_11, g114_12, g114_15, g114_16, g114_17, g114_20, g114_21, g114_22, g114_23, rz_k_inl, rz_k_inr, Option.toList_some, Option.toList_none, List.cons_append, List.nil_append, List.append_nil, rz_up_s, rz_u_s, rz_up_n, rz_u_n, ne_eq, not_false_eq_true, not_true_eq_false, Nat.add_assoc, Nat.reduceAdd, reduceIte, Nat.add_eq_left, Nat.left_eq_add, Nat.add_left_cancel_iff, Nat.reduceEqDiff, Nat.add_right_cancel_iff, rz_nb0, rz_nb1, rz_nbb, rz_nbi, rz_isr, rz_zle, if_true, if_false, rz_bi0, rz_bi1, Bool.not_eq_true, Bool.not_eq_false, Bool.true_eq_false, Bool.false_eq_true, rz_ix_lit, cl_lit, Nat.reduceLT, bi_t, bi_f, decide_true, decide_false, Bool.not_false, Bool.not_true, Bool.and_true, Bool.true_and, Bool.and_false, Bool.false_and, oWt_c o1, oWt_f0 o1, oWt_v0 o1, oWt_f1 o1, oWt_v1 o1, oWt_f2 o1, oWt_v2 o1, oWt_f3 o1, oWt_v3 o1, oWt_i4 o1, oWt_i5 o1, oWt_i6 o1, oWt_i7 o1, oWt_i8 o1, oWt_a1 o1, oWt_n1 o1, oWt_a2 o1, oWt_n2 o1, oWt_a3 o1, oWt_n3 o1, o1, o4, eJ]
end WORK11
