/-! the reference reads WORK: loops -/
def wW (B : Nat → Int32) (e : Nat) (K : List Nat) (T : Nat → TK) (m p : Nat) : ((Nat → TK) × Nat) ⊕ (Nat × Nat) := wtR B e (e + 1 - p) K T m p
theorem wtR_fuel {B : Nat → Int32} {e : Nat} : ∀ (n n' : Nat) (K : List Nat) (T : Nat → TK) (m p : Nat), p ≤ e → K.length ≤ 6 → 9 * m + 5 * K.length ≤ 2 * p → e - p < n → e - p < n' → wtR B e n K T m p = wtR B e n' K T m p
  | 0, _, _, _, _, _, _, _, _, h, _ => by omega
  | _, 0, _, _, _, _, _, _, _, _, h => by omega
  | n + 1, n' + 1, K, T, m, p, hp, hK, hm, h1, h2 => by
    rw [wtR, wtR]
    by_cases hA : ¬ sk B e p < e ∧ K = []
    · rw [if_pos hA, if_pos hA]
    · rw [if_neg hA, if_neg hA]
      cases x0 : wt1 B e K T m p with
      | inr f => rfl
      | inl s =>
        obtain ⟨p1, p2, p3, p4⟩ := wt1_pr hp hK hm x0
        exact wtR_fuel n n' _ _ _ _ p2 p3 p4 (by omega) (by omega)
theorem wW_step {B : Nat → Int32} {e m p : Nat} {K : List Nat} {T : Nat → TK} (hp : p ≤ e) (hK : K.length ≤ 6) (hm : 9 * m + 5 * K.length ≤ 2 * p) (hA : ¬ (¬ sk B e p < e ∧ K = [])) : wW B e K T m p = rB (wt1 B e K T m p) (fun s => wW B e s.1 s.2.1 s.2.2.1 s.2.2.2) := by
  unfold wW
  rw [show e + 1 - p = (e - p) + 1 by omega, wtR, if_neg hA]
  cases x0 : wt1 B e K T m p with
  | inr f => rfl
  | inl s =>
    obtain ⟨p1, p2, p3, p4⟩ := wt1_pr hp hK hm x0
    rw [rB_l, rB_l]
    exact wtR_fuel _ _ _ _ _ _ p2 p3 p4 (by omega) (by omega)
theorem wd_first {B : Nat → Int32} {q r : Nat} {W : List Nat} (h : wdIs B q r W = true) (hW : 0 < W.length) : B q = nI (W.getD 0 0) := by
  unfold wdIs at h
  split at h
  · exact (wdM_iff _ 0).mp h 0 (by omega) (by omega)
  · cases h
theorem wd_again {B : Nat → Int32} {q r : Nat} (h : wdIs B q r (WD 14) = true) : wdIs B q r (WD 15) = false ∧ wdIs B q r (WD 16) = false ∧ wdIs B q r (WD 17) = false ∧ wdIs B q r (WD 18) = false ∧ wdIs B q r (WD 19) = false := by
  have a := wd_first h (by decide)
  refine ⟨?_, ?_, ?_, ?_, ?_⟩
  all_goals
    apply Bool.eq_false_iff.mpr
    intro z
    have c := wd_first z (by decide)
    rw [a] at c
    exact absurd c (by decide)
theorem wrR.cons {b m : Nat} {ι : Nat → Nat → Int32} {K : List Nat} {T : Nat → TK} (h : wrR ι b K T m) : wrR ι b (m :: K) T m := by
  intro i hi ho
  obtain ⟨a1, a2⟩ := h i hi ho
  exact ⟨a1, fun z => a2 (fun z2 => z (List.mem_cons_of_mem _ z2))⟩
/-- a loop is begun -/
theorem wrH.fin5 {b m q x : Nat} {ι0 ι : Nat → Nat → Int32} {K : List Nat} {T : Nat → TK} (i : wrH b ι0 ι (m :: K) T m q) (hr : rwI ι b (nC T m) (5, x, 0, 0)) : wrI b ι0 ι (m :: K) (upT T m (5, x, 0, 0)) (m + 1) q := by
  obtain ⟨i1, i2, i3, i4, i5, i6⟩ := i
  have c1 : ∀ j, j ≤ m → nC (upT T m (5, x, 0, 0)) j = nC T j := fun j hj => nC_cong j (fun y hy => by rw [upT_n (by omega)])
  have c2 : nC (upT T m (5, x, 0, 0)) (m + 1) = nC T m + 1 := by rw [nC, c1 m (Nat.le_refl _), upT_s, if_neg (show ¬ ((5 : Nat) = 6) by decide)]
  refine ⟨i1, i2, i3, i4, by rw [c2]; exact i5, fun j hj hj6 => ?_⟩
  by_cases e : j = m
  · subst e
    rw [c1 j (Nat.le_refl _), upT_s]
    exact ⟨hr, fun z => absurd List.mem_cons_self z⟩
  · rw [upT_n e] at hj6
    rw [c1 j (by omega), upT_n e]
    obtain ⟨a1, a2⟩ := i6 j (by omega) hj6
    refine ⟨a1, fun z => ?_⟩
    obtain ⟨a3, a4⟩ := a2 z
    refine ⟨?_, fun z5 => by have := a4 z5; omega⟩
    rw [a3]
    unfold nxI
    rw [upT_n e]
    by_cases o5 : (T j).1 = 5
    · rw [if_pos o5, if_pos o5, c1 _ (by have := a4 o5; omega)]
    · rw [if_neg o5, if_neg o5, c1 (j + 1) (by omega)]
/-- .. and closed: its row knows what comes behind it -/
theorem wrI.close {b k m q : Nat} {ι0 ι : Nat → Nat → Int32} {K : List Nat} {T : Nat → TK} (hk : k < m) (h5 : (T k).1 = 5) (hm : m < 80) (i : wrI b ι0 ι (k :: K) T m q) : wrI b ι0 (rz_up (rz_up ι b 8 (nI K.length)) (b + (366 + nC T k)) 4 (nI (nC T m))) K (wtC k T m) (m + 1) q := by
  obtain ⟨i1, i2, i3, i4, i5, i6⟩ := i
  have op : ∀ j, j < m → (wtC k T m j).1 = (T j).1 := by
    intro j hj
    unfold wtC
    rw [upT_n (by omega)]
    by_cases e : j = k
    · subst e; rw [upT_s]
    · rw [upT_n e]
  have c1 : ∀ j, j ≤ m → nC (wtC k T m) j = nC T j := fun j hj => nC_cong j (fun y hy => op y (by omega))
  have c2 : nC (wtC k T m) (m + 1) = nC T m := by
    rw [nC, c1 m (Nat.le_refl _)]
    unfold wtC
    rw [upT_s, if_pos rfl]; rfl
  have hl := nC_le T k
  refine ⟨(i1.up (by unfold wrS; omega)).upA (by unfold wrQ; omega) (by omega), ?_, ?_, ?_, ?_, fun j hj hj6 => ?_⟩
  · rw [rz_up_n (by omega), rz_up_s, rz_u_n (by omega)]; exact i2
  · rw [rz_up_n (by omega), rz_up_s, rz_u_n (by omega)]; exact i3
  · rw [rz_up_n (by omega), rz_up_s, rz_u_s]
  · rw [rz_up_n (by omega), rz_up_s, rz_u_n (by omega), c2]; exact i5
  · by_cases em : j = m
    · subst em
      unfold wtC at hj6
      rw [upT_s] at hj6
      exact absurd rfl hj6
    · have hjm : j < m := by omega
      rw [op j hjm] at hj6
      obtain ⟨a1, a2⟩ := i6 j hjm hj6
      rw [c1 j (by omega)]
      by_cases ek : j = k
      · subst ek
        have hT : wtC j T m j = ((T j).1, (T j).2.1, m, (T j).2.2.2) := by
          unfold wtC
          rw [upT_n em, upT_s]
        rw [hT]
        refine ⟨?_, fun _ => ⟨?_, fun _ => by show m < m + 1; omega⟩⟩
        · unfold rwI at a1 ⊢
          rw [rz_up_s, rz_u_n (by omega), rz_u_n (by omega), rz_u_n (by omega), rz_u_n (by omega), rz_up_n (by omega)]
          refine ⟨a1.1, a1.2.1, fun z => ?_, a1.2.2.2⟩
          rw [h5] at z
          exact absurd z (by decide)
        · unfold nxI
          rw [hT, if_pos h5, rz_up_s, rz_u_s]
          show nI (nC T m) = nI (nC (wtC j T m) m)
          rw [c1 m (Nat.le_refl _)]
      · have hT : wtC k T m j = T j := by
          unfold wtC
          rw [upT_n em, upT_n ek]
        have hr : nC T j ≠ nC T k := by
          rcases Nat.lt_or_gt_of_ne ek with z | z
          · have := nC_lt z hj6; omega
          · have := nC_lt (T := T) z (by rw [h5]; decide); omega
        rw [hT]
        unfold rwI
        rw [rz_up_n (by omega), rz_up_n (by omega)]
        refine ⟨a1, fun z => ?_⟩
        obtain ⟨a3, a4⟩ := a2 (fun z2 => by rcases List.mem_cons.mp z2 with y | y; exact ek y; exact z y)
        refine ⟨?_, fun z5 => by have := a4 z5; omega⟩
        rw [a3]
        unfold nxI
        rw [hT]
        by_cases o5 : (T j).1 = 5
        · rw [if_pos o5, if_pos o5, c1 _ (by have := a4 o5; omega)]
        · rw [if_neg o5, if_neg o5, c1 (j + 1) (by omega)]
section WORK6
variable {Z : rx_Z} {d : Nat} {h : Nat → Option rx_E} {ι ι0 : Nat → Nat → Int32} {w : Nat × Nat} {b : Nat}
/-- what reading a step comes to -/
def wrC (Z : rx_Z) (h : Nat → Option rx_E) (w : Nat × Nat) (b e : Nat) (ι0 : Nat → Nat → Int32) (n : Nat) : Prop := ∀ (K : List Nat) (T : Nat → TK) (m p : Nat) (ι : Nat → Nat → Int32) (D : Nat), p ≤ e → e - p < n → K.length ≤ 6 → 9 * m + 5 * K.length ≤ 2 * p → (∀ k ∈ K, k < m) → ¬ (¬ sk (ι0 (b + 1)) e p < e ∧ K = []) → ¬ (sg (ι0 (b + 1)) e (sk (ι0 (b + 1)) e p) = 93 ∧ K ≠ []) → (6 - K.length) + 8 ≤ D → wrI b ι0 ι K T m (sk (ι0 (b + 1)) e p) →
  (∃ f ι', rz_f Z D 211 [.ref b] (rz_mk h ι, w) = some (.inl none, (rz_mk h ι', w)) ∧ wrN b ι0 ι' f ∧ wW (ι0 (b + 1)) e K T m p = .inr f) ∨
  (∃ T' m' p' ι', rz_f Z D 211 [.ref b] (rz_mk h ι, w) = some (.inl none, (rz_mk h ι', w)) ∧ wrI b ι0 ι' K T' m' p' ∧ p < p' ∧ p' ≤ e ∧ 9 * m' + 5 * K.length ≤ 2 * p' ∧ m < m' ∧ (∀ i, i < m → T' i = T i) ∧ wW (ι0 (b + 1)) e K T m p = wW (ι0 (b + 1)) e K T' m' p')
theorem wr_bF {e : Nat} {f : Nat × Nat} (hb : oMd h b) (hz : Z.2.1 ≤ b) (he : ι0 b 2 = nI e) (he6 : e ≤ 600) (hN : wrN b ι0 ι f) : ∃ ι', rz_f Z (d + 2) 181 [.ref b] (rz_mk h ι, w) = some (.inl none, (rz_mk h ι', w)) ∧ wrN b ι0 ι' f := by
  obtain ⟨n1, n2, n3, ⟨p, p1, p2⟩, n5, n6⟩ := hN
  have bb := rd_blanksG (Z := Z) (d := d) (w := w) hb hz ((n1.2 2 (by unfold wrS; omega)).trans he) p2 p1 he6
  refine ⟨_, bb, n1.up (by unfold wrS; omega), by rw [rz_up_s, rz_u_n (by omega)]; exact n2, by rw [rz_up_s, rz_u_n (by omega)]; exact n3, ⟨_, ?_, by rw [rz_up_s, rz_u_s]⟩, n5, n6⟩
  by_cases hpe : p ≤ e
  · exact Nat.le_trans (sk_le hpe) he6
  · rw [sk_end (by omega)]; exact p1
theorem wr_inner {e n : Nat} (hb : oMd h b) (hz : Z.2.1 ≤ b) (he : ι0 b 2 = nI e) (he6 : e ≤ 150) (IH : wrC Z h w b e ι0 n) {K : List Nat} (hK : K.length ≤ 6) (hK0 : K ≠ []) {D : Nat} (hD : (6 - K.length) + 8 ≤ D) (l1 l2 : Option Value) : ∀ (n2 : Nat) (T : Nat → TK) (m p : Nat) (ι : Nat → Nat → Int32), p ≤ e → e - p < n2 → e - p < n → 9 * m + 5 * K.length ≤ 2 * p → (∀ k ∈ K, k < m) → wrI b ι0 ι K T m (sk (ι0 (b + 1)) e p) →
    (∃ f ι', rg Z D rx_m211 146 [some (.ref b), l1, l2] [] (rz_mk h ι, w) = rg Z D rx_m211 177 [some (.ref b), l1, l2] [] (rz_mk h ι', w) ∧ wrN b ι0 ι' f ∧ wW (ι0 (b + 1)) e K T m p = .inr f) ∨
    (∃ T' m' p' ι', rg Z D rx_m211 146 [some (.ref b), l1, l2] [] (rz_mk h ι, w) = rg Z D rx_m211 177 [some (.ref b), l1, l2] [] (rz_mk h ι', w) ∧ wrI b ι0 ι' K T' m' (sk (ι0 (b + 1)) e p') ∧ sg (ι0 (b + 1)) e (sk (ι0 (b + 1)) e p') = 93 ∧ p ≤ p' ∧ p' ≤ e ∧ 9 * m' + 5 * K.length ≤ 2 * p' ∧ m ≤ m' ∧ (∀ i, i < m → T' i = T i) ∧ wW (ι0 (b + 1)) e K T m p = wW (ι0 (b + 1)) e K T' m' p') := by
  intro n2
  induction n2 with
  | zero => intro T m p ι hp hn; omega
  | succ n2 ih =>
    intro T m p ι hpe hn2 hn hm hk i
    obtain ⟨d, rfl⟩ : ∃ d, D = d + 8 := ⟨D - 8, by omega⟩
    have hsk := sk_le (B := ι0 (b + 1)) hpe
    have h5 := i.2.2.1
    have h4 := i.2.1
    have by1 := rd_byteAt (Z := Z) (d := d + 7) (w := w) (k := sk (ι0 (b + 1)) e p) hb (i.e2 he) (by omega) (by omega)
    rw [i.by] at by1
    by_cases hs : sg (ι0 (b + 1)) e (sk (ι0 (b + 1)) e p) = 93
    · right
      refine ⟨T, m, p, ι, ?_, i, hs, Nat.le_refl _, hpe, hm, Nat.le_refl _, fun _ _ => rfl, rfl⟩
      rw [hs] at by1
      rw [g211_146]
      simp (decide := true) (maxDischargeDepth := 4) only [g211_147, g211_150, g211_153, g211_154, g211_155, g211_158, g211_161, g211_163, rz_k_inl, rz_k_inr, Option.toList_some, Option.toList_none, List.cons_append, List.nil_append, List.append_nil, rz_up_s, rz_u_s, rz_up_n, rz_u_n, ne_eq, not_false_eq_true, not_true_eq_false, Nat.add_assoc, Nat.reduceAdd, reduceIte, Nat.add_eq_left, Nat.left_eq_add, Nat.add_left_cancel_iff, Nat.reduceEqDiff, Nat.add_right_cancel_iff, rz_nb0, rz_nb1, rz_nbb, rz_nbi, rz_isr, rz_zle, if_true, if_false, rz_bi0, rz_bi1, Bool.not_eq_true, Bool.not_eq_false, Bool.true_eq_false, Bool.false_eq_true, rz_ix_lit, cl_lit, Nat.reduceLT, bi_t, bi_f, decide_true, decide_false, Bool.not_false, Bool.not_true, Bool.and_true, Bool.true_and, Bool.and_false, Bool.false_and, oMd_c, oMd_i0, oMd_i1, oMd_i2, oMd_i3, oMd_i4, oMd_i5, oMd_i6, oMd_i7, oMd_i8, oMd_f9, oMd_v9, oMd_f10, oMd_v10, oMd_f11, oMd_v11, oMd_f12, oMd_v12, oMd_f13, oMd_v13, oMd_f14, oMd_v14, oMd_i15, oMd_i16, oMd_f17, oMd_v17, oMd_f18, oMd_v18, oMd_f19, oMd_v19, oMd_f20, oMd_v20, oMd_f21, oMd_v21, oMd_f22, oMd_v22, oMd_f23, oMd_v23, oMd_i24, oMd_f25, oMd_v25, oMd_f26, oMd_v26, oMd_f27, oMd_v27, oMd_f28, oMd_v28, oMd_i29, oMd_i30, oMd_i31, oMd_i32, oMd_i33, oMd_i34, oMd_i35, oMd_f36, oMd_v36, oMd_f37, oMd_v37, oMd_f38, oMd_v38, oMd_i39, oMd_f40, oMd_v40, oMd_f41, oMd_v41, oMd_i42, oMd_f43, oMd_v43, oMd_i44, oMd_a1, oMd_n1, oMd_a2, oMd_n2, oMd_a3, oMd_n3, oMd_a4, oMd_n4, oMd_a363, oMd_n363, oMd_a364, oMd_n364, oMd_a446, oMd_n446, oMd_a447, oMd_n447, oMd_a469, oMd_n469, oMd_a470, oMd_n470, oMd_a471, oMd_n471, oMd_a472, oMd_n472, oMd_a473, oMd_n473, oMd_a5, oMd_n5, oMd_e5, oMd_ra5, oMd_rn5, oMd_a14, oMd_n14, oMd_e14, oMd_ra14, oMd_rn14, oMd_a23, oMd_n23, oMd_e23, oMd_ra23, oMd_rn23, oMd_a184, oMd_n184, oMd_e184, oMd_ra184, oMd_rn184, oMd_a345, oMd_n345, oMd_e345, oMd_ra345, oMd_rn345, oMd_a354, oMd_n354, oMd_e354, oMd_ra354, oMd_rn354, oMd_a365, oMd_n365, oMd_e365, oMd_ra365, oMd_rn365, oMd_a448, oMd_n448, oMd_e448, oMd_ra448, oMd_rn448, oMd_a465, oMd_n465, oMd_e465, oMd_ra465, oMd_rn465, hb, h5, h4, by1]
    · rcases IH K T m p ι (d + 8) hpe hn hK hm hk (fun z => hK0 z.2) (fun z => hs z.1) hD i with ⟨f, ι1, f1, hN, f3⟩ | ⟨T1, m1, p1, ι1, f1, i1, p2, p3, p4, p5, p6, p7⟩
      · left
        obtain ⟨ι2, b1, hN2⟩ := wr_bF (Z := Z) (d := d + 6) (w := w) hb hz he (by omega) hN
        have nz := hN2.nz
        refine ⟨f, ι2, ?_, hN2, f3⟩
        rw [g211_146]
        simp (decide := true) (maxDischargeDepth := 4) only [g211_147, g211_150, g211_153, g211_154, g211_155, g211_158, g211_161, g211_163, g211_166, g211_167, g211_170, g211_171, g211_174, rz_k_inl, rz_k_inr, Option.toList_some, Option.toList_none, List.cons_append, List.nil_append, List.append_nil, rz_up_s, rz_u_s, rz_up_n, rz_u_n, ne_eq, not_false_eq_true, not_true_eq_false, Nat.add_assoc, Nat.reduceAdd, reduceIte, Nat.add_eq_left, Nat.left_eq_add, Nat.add_left_cancel_iff, Nat.reduceEqDiff, Nat.add_right_cancel_iff, rz_nb0, rz_nb1, rz_nbb, rz_nbi, rz_isr, rz_zle, if_true, if_false, rz_bi0, rz_bi1, Bool.not_eq_true, Bool.not_eq_false, Bool.true_eq_false, Bool.false_eq_true, rz_ix_lit, cl_lit, Nat.reduceLT, bi_t, bi_f, decide_true, decide_false, Bool.not_false, Bool.not_true, Bool.and_true, Bool.true_and, Bool.and_false, Bool.false_and, oMd_c, oMd_i0, oMd_i1, oMd_i2, oMd_i3, oMd_i4, oMd_i5, oMd_i6, oMd_i7, oMd_i8, oMd_f9, oMd_v9, oMd_f10, oMd_v10, oMd_f11, oMd_v11, oMd_f12, oMd_v12, oMd_f13, oMd_v13, oMd_f14, oMd_v14, oMd_i15, oMd_i16, oMd_f17, oMd_v17, oMd_f18, oMd_v18, oMd_f19, oMd_v19, oMd_f20, oMd_v20, oMd_f21, oMd_v21, oMd_f22, oMd_v22, oMd_f23, oMd_v23, oMd_i24, oMd_f25, oMd_v25, oMd_f26, oMd_v26, oMd_f27, oMd_v27, oMd_f28, oMd_v28, oMd_i29, oMd_i30, oMd_i31, oMd_i32, oMd_i33, oMd_i34, oMd_i35, oMd_f36, oMd_v36, oMd_f37, oMd_v37, oMd_f38, oMd_v38, oMd_i39, oMd_f40, oMd_v40, oMd_f41, oMd_v41, oMd_i42, oMd_f43, oMd_v43, oMd_i44, oMd_a1, oMd_n1, oMd_a2, oMd_n2, oMd_a3, oMd_n3, oMd_a4, oMd_n4, oMd_a363, oMd_n363, oMd_a364, oMd_n364, oMd_a446, oMd_n446, oMd_a447, oMd_n447, oMd_a469, oMd_n469, oMd_a470, oMd_n470, oMd_a471, oMd_n471, oMd_a472, oMd_n472, oMd_a473, oMd_n473, oMd_a5, oMd_n5, oMd_e5, oMd_ra5, oMd_rn5, oMd_a14, oMd_n14, oMd_e14, oMd_ra14, oMd_rn14, oMd_a23, oMd_n23, oMd_e23, oMd_ra23, oMd_rn23, oMd_a184, oMd_n184, oMd_e184, oMd_ra184, oMd_rn184, oMd_a345, oMd_n345, oMd_e345, oMd_ra345, oMd_rn345, oMd_a354, oMd_n354, oMd_e354, oMd_ra354, oMd_rn354, oMd_a365, oMd_n365, oMd_e365, oMd_ra365, oMd_rn365, oMd_a448, oMd_n448, oMd_e448, oMd_ra448, oMd_rn448, oMd_a465, oMd_n465, oMd_e465, oMd_ra465, oMd_rn465, hb, h5, h4, by1, hs, f1, b1]
        rw [g211_146]
        simp (decide := true) (maxDischargeDepth := 4) only [g211_147, g211_150, rz_k_inl, rz_k_inr, Option.toList_some, Option.toList_none, List.cons_append, List.nil_append, List.append_nil, rz_up_s, rz_u_s, rz_up_n, rz_u_n, ne_eq, not_false_eq_true, not_true_eq_false, Nat.add_assoc, Nat.reduceAdd, reduceIte, Nat.add_eq_left, Nat.left_eq_add, Nat.add_left_cancel_iff, Nat.reduceEqDiff, Nat.add_right_cancel_iff, rz_nb0, rz_nb1, rz_nbb, rz_nbi, rz_isr, rz_zle, if_true, if_false, rz_bi0, rz_bi1, Bool.not_eq_true, Bool.not_eq_false, Bool.true_eq_false, Bool.false_eq_true, rz_ix_lit, cl_lit, Nat.reduceLT, bi_t, bi_f, decide_true, decide_false, Bool.not_false, Bool.not_true, Bool.and_true, Bool.true_and, Bool.and_false, Bool.false_and, oMd_c, oMd_i0, oMd_i1, oMd_i2, oMd_i3, oMd_i4, oMd_i5, oMd_i6, oMd_i7, oMd_i8, oMd_f9, oMd_v9, oMd_f10, oMd_v10, oMd_f11, oMd_v11, oMd_f12, oMd_v12, oMd_f13, oMd_v13, oMd_f14, oMd_v14, oMd_i15, oMd_i16, oMd_f17, oMd_v17, oMd_f18, oMd_v18, oMd_f19, oMd_v19, oMd_f20, oMd_v20, oMd_f21, oMd_v21, oMd_f22, oMd_v22, oMd_f23, oMd_v23, oMd_i24, oMd_f25, oMd_v25, oMd_f26, oMd_v26, oMd_f27, oMd_v27, oMd_f28, oMd_v28, oMd_i29, oMd_i30, oMd_i31, oMd_i32, oMd_i33, oMd_i34, oMd_i35, oMd_f36, oMd_v36, oMd_f37, oMd_v37, oMd_f38, oMd_v38, oMd_i39, oMd_f40, oMd_v40, oMd_f41, oMd_v41, oMd_i42, oMd_f43, oMd_v43, oMd_i44, oMd_a1, oMd_n1, oMd_a2, oMd_n2, oMd_a3, oMd_n3, oMd_a4, oMd_n4, oMd_a363, oMd_n363, oMd_a364, oMd_n364, oMd_a446, oMd_n446, oMd_a447, oMd_n447, oMd_a469, oMd_n469, oMd_a470, oMd_n470, oMd_a471, oMd_n471, oMd_a472, oMd_n472, oMd_a473, oMd_n473, oMd_a5, oMd_n5, oMd_e5, oMd_ra5, oMd_rn5, oMd_a14, oMd_n14, oMd_e14, oMd_ra14, oMd_rn14, oMd_a23, oMd_n23, oMd_e23, oMd_ra23, oMd_rn23, oMd_a184, oMd_n184, oMd_e184, oMd_ra184, oMd_rn184, oMd_a345, oMd_n345, oMd_e345, oMd_ra345, oMd_rn345, oMd_a354, oMd_n354, oMd_e354, oMd_ra354, oMd_rn354, oMd_a365, oMd_n365, oMd_e365, oMd_ra365, oMd_rn365, oMd_a448, oMd_n448, oMd_e448, oMd_ra448, oMd_rn448, oMd_a465, oMd_n465, oMd_e465, oMd_ra465, oMd_rn465, hb, nz]
      · have bl := rd_blanks (Z := Z) (d := d + 6) (w := w) hb hz (i1.e2 he) i1.2.1 p3 (by omega)
        rw [i1.by] at bl
        have i2 := i1.rd (rdOk.of b (sk (ι0 (b + 1)) e p1) ι1)
        have step : rg Z (d + 8) rx_m211 146 [some (.ref b), l1, l2] [] (rz_mk h ι, w) = rg Z (d + 8) rx_m211 146 [some (.ref b), l1, l2] [] (rz_mk h (rz_up ι1 b 4 (nI (sk (ι0 (b + 1)) e p1))), w) := by
          rw [g211_146]
          simp (decide := true) (maxDischargeDepth := 4) only [g211_147, g211_150, g211_153, g211_154, g211_155, g211_158, g211_161, g211_163, g211_166, g211_167, g211_170, g211_171, g211_174, rz_k_inl, rz_k_inr, Option.toList_some, Option.toList_none, List.cons_append, List.nil_append, List.append_nil, rz_up_s, rz_u_s, rz_up_n, rz_u_n, ne_eq, not_false_eq_true, not_true_eq_false, Nat.add_assoc, Nat.reduceAdd, reduceIte, Nat.add_eq_left, Nat.left_eq_add, Nat.add_left_cancel_iff, Nat.reduceEqDiff, Nat.add_right_cancel_iff, rz_nb0, rz_nb1, rz_nbb, rz_nbi, rz_isr, rz_zle, if_true, if_false, rz_bi0, rz_bi1, Bool.not_eq_true, Bool.not_eq_false, Bool.true_eq_false, Bool.false_eq_true, rz_ix_lit, cl_lit, Nat.reduceLT, bi_t, bi_f, decide_true, decide_false, Bool.not_false, Bool.not_true, Bool.and_true, Bool.true_and, Bool.and_false, Bool.false_and, oMd_c, oMd_i0, oMd_i1, oMd_i2, oMd_i3, oMd_i4, oMd_i5, oMd_i6, oMd_i7, oMd_i8, oMd_f9, oMd_v9, oMd_f10, oMd_v10, oMd_f11, oMd_v11, oMd_f12, oMd_v12, oMd_f13, oMd_v13, oMd_f14, oMd_v14, oMd_i15, oMd_i16, oMd_f17, oMd_v17, oMd_f18, oMd_v18, oMd_f19, oMd_v19, oMd_f20, oMd_v20, oMd_f21, oMd_v21, oMd_f22, oMd_v22, oMd_f23, oMd_v23, oMd_i24, oMd_f25, oMd_v25, oMd_f26, oMd_v26, oMd_f27, oMd_v27, oMd_f28, oMd_v28, oMd_i29, oMd_i30, oMd_i31, oMd_i32, oMd_i33, oMd_i34, oMd_i35, oMd_f36, oMd_v36, oMd_f37, oMd_v37, oMd_f38, oMd_v38, oMd_i39, oMd_f40, oMd_v40, oMd_f41, oMd_v41, oMd_i42, oMd_f43, oMd_v43, oMd_i44, oMd_a1, oMd_n1, oMd_a2, oMd_n2, oMd_a3, oMd_n3, oMd_a4, oMd_n4, oMd_a363, oMd_n363, oMd_a364, oMd_n364, oMd_a446, oMd_n446, oMd_a447, oMd_n447, oMd_a469, oMd_n469, oMd_a470, oMd_n470, oMd_a471, oMd_n471, oMd_a472, oMd_n472, oMd_a473, oMd_n473, oMd_a5, oMd_n5, oMd_e5, oMd_ra5, oMd_rn5, oMd_a14, oMd_n14, oMd_e14, oMd_ra14, oMd_rn14, oMd_a23, oMd_n23, oMd_e23, oMd_ra23, oMd_rn23, oMd_a184, oMd_n184, oMd_e184, oMd_ra184, oMd_rn184, oMd_a345, oMd_n345, oMd_e345, oMd_ra345, oMd_rn345, oMd_a354, oMd_n354, oMd_e354, oMd_ra354, oMd_rn354, oMd_a365, oMd_n365, oMd_e365, oMd_ra365, oMd_rn365, oMd_a448, oMd_n448, oMd_e448, oMd_ra448, oMd_rn448, oMd_a465, oMd_n465, oMd_e465, oMd_ra465, oMd_rn465, hb, h5, h4, by1, hs, f1, bl]
        rcases ih T1 m1 p1 _ p3 (by omega) (by omega) p4 (fun k hk2 => by have := hk k hk2; omega) i2 with ⟨f, ι3, x1, x2, x3⟩ | ⟨T3, m3, p3', ι3, x1, x2, x3, x4, x5, x6, x7, x8, x9⟩
        · left; exact ⟨f, ι3, step.trans x1, x2, p7.trans x3⟩
        · right; exact ⟨T3, m3, p3', ι3, step.trans x1, x2, x3, by omega, x5, x6, by omega, fun j hj => (x8 j (by omega)).trans (p6 j hj), p7.trans x9⟩
end WORK6
