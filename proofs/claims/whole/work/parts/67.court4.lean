/-! FarthestHeir: pairs, mate -/
theorem lpI_cong2 {α : Type} {f g : Nat → α → α} (a : α) : ∀ k, (∀ i s, i < k → f i s = g i s) → lpI f a k = lpI g a k
  | 0, _ => rfl
  | k + 1, h => by
    show f k (lpI f a k) = g k (lpI g a k)
    rw [lpI_cong2 a k (fun i s hi => h i s (by omega)), h k _ (by omega)]
theorem hgV_congF {F F' B : Nat → Int32} {n mt : Nat} (h0 : 0 < n) (hn : n < 256) (hm : mt ≤ 8) (hF : ∀ i, i < 64 → F i = F' i) : hgV F B n mt = hgV F' B n mt := by
  have e1 := (tzN_ok n hn h0).1
  unfold hgV
  by_cases h8 : mt = 8
  · rw [if_pos h8, if_pos h8]
  · rw [if_neg h8, if_neg h8, hF _ (by omega)]
theorem tbV_cong {F F' B B' : Nat → Int32} {lv n : Nat} (hn : n < 256) (hF : ∀ i, i < 64 → F i = F' i) (hB : ∀ i, i < n → B i = B' i) : tbV F lv B n = tbV F' lv B' n := by
  unfold tbV
  by_cases h0 : n = 0
  · rw [if_pos h0, if_pos h0]
  · rw [if_neg h0, if_neg h0]
    have : bvS F B n = bvS F' B' n := by
      unfold bvS
      apply lpI_cong2
      intro i s hi
      unfold bvF
      rw [hgV_congF (by omega) hn (by omega) hF, hgV_cong (by omega) hn hB]
    rw [this]
theorem tbK_cong {F F' f f' : Nat → Int32} {lv : Nat} (hF : ∀ i, i < 64 → F i = F' i) : ∀ k, k ≤ 256 → ∀ i, i < k → tbK F lv f k i = tbK F' lv f' k i
  | 0, _, i, h => by omega
  | k + 1, hk, i, h => by
    unfold tbK
    by_cases e : i = k
    · subst e
      rw [rz_u_s, rz_u_s]
      exact tbV_cong (by omega) hF (tbK_cong hF i (by omega))
    · rw [rz_u_n e, rz_u_n e]; exact tbK_cong hF k (by omega) i (by omega)
theorem hgM_cong {F F' B B' : Nat → Int32} {n : Nat} (h0 : 0 < n) (hn : n < 256) (hF : ∀ i, i < 64 → F i = F' i) (hB : ∀ i, i < 256 → B i = B' i) : ∀ k mt, mt + k ≤ 8 → hgM F B n k mt = hgM F' B' n k mt
  | 0, _, _ => rfl
  | k + 1, mt, hk => by
    unfold hgM
    rw [hgV_congF h0 hn (by omega) hF, hgV_cong (B' := B') h0 hn (fun i hi => hB i (by omega)), hB n hn, hgM_cong h0 hn hF hB k (mt + 1) (by omega)]
theorem hgS_cong {F F' B B' : Nat → Int32} (hF : ∀ i, i < 64 → F i = F' i) (hB : ∀ i, i < 256 → B i = B' i) {n : Nat} (h0 : 0 < n) (hn : n < 256) {f f' : Nat → Int32} (hf : ∀ i, i < 8 → f i = f' i) : (hgS F B (n, f)).1 = (hgS F' B' (n, f')).1 ∧ ∀ i, i < 8 → (hgS F B (n, f)).2 i = (hgS F' B' (n, f')).2 i := by
  unfold hgS
  have e := hgM_cong h0 hn hF hB 8 0 (by omega)
  show (match hgM F B n 8 0 with
    | none => (rmN n (tzN n), f)
    | some mt => (rmN (rmN n (tzN n)) mt, rz_u (rz_u f (tzN n) (nI mt)) mt (nI (tzN n)))).1 = (match hgM F' B' n 8 0 with
    | none => (rmN n (tzN n), f')
    | some mt => (rmN (rmN n (tzN n)) mt, rz_u (rz_u f' (tzN n) (nI mt)) mt (nI (tzN n)))).1 ∧ ∀ i, i < 8 → (match hgM F B n 8 0 with
    | none => (rmN n (tzN n), f)
    | some mt => (rmN (rmN n (tzN n)) mt, rz_u (rz_u f (tzN n) (nI mt)) mt (nI (tzN n)))).2 i = (match hgM F' B' n 8 0 with
    | none => (rmN n (tzN n), f')
    | some mt => (rmN (rmN n (tzN n)) mt, rz_u (rz_u f' (tzN n) (nI mt)) mt (nI (tzN n)))).2 i
  rw [e]
  cases hgM F' B' n 8 0 with
  | none => exact ⟨rfl, hf⟩
  | some j =>
    refine ⟨rfl, fun i hi => ?_⟩
    show rz_u (rz_u f (tzN n) (nI j)) j (nI (tzN n)) i = rz_u (rz_u f' (tzN n) (nI j)) j (nI (tzN n)) i
    by_cases e1 : i = j
    · subst e1; rw [rz_u_s, rz_u_s]
    · rw [rz_u_n e1, rz_u_n e1]
      by_cases e2 : i = tzN n
      · subst e2; rw [rz_u_s, rz_u_s]
      · rw [rz_u_n e2, rz_u_n e2]; exact hf i hi
theorem hgI_cong {F F' B B' : Nat → Int32} (hF : ∀ i, i < 64 → F i = F' i) (hB : ∀ i, i < 256 → B i = B' i) : ∀ (k : Nat) {n : Nat} (_ : n < 256) {f f' : Nat → Int32} (_ : ∀ i, i < 8 → f i = f' i), ∀ i, i < 8 → (hgI F B k (n, f)).2 i = (hgI F' B' k (n, f')).2 i
  | 0, _, _, _, _, hf, i, hi => hf i hi
  | k + 1, n, hn, f, f', hf, i, hi => by
    unfold hgI
    by_cases h0 : n = 0
    · rw [if_pos (show (n, f).1 = 0 from h0), if_pos (show (n, f').1 = 0 from h0)]; exact hf i hi
    · rw [if_neg (show ¬ (n, f).1 = 0 from h0), if_neg (show ¬ (n, f').1 = 0 from h0)]
      obtain ⟨e1, e2⟩ := hgS_cong hF hB (show 0 < n by omega) hn hf
      have l1 : (hgS F B (n, f)).1 < 256 := hgS_lt hn
      generalize hgS F B (n, f) = s at e1 e2 l1 ⊢
      generalize hgS F' B' (n, f') = s' at e1 e2 ⊢
      obtain ⟨s1, s2⟩ := s
      obtain ⟨s1', s2'⟩ := s'
      have e1 : s1 = s1' := e1
      subst e1
      exact hgI_cong hF hB k l1 e2 i hi
theorem mnK_at (f : Nat → Int32) : ∀ k i, i < k → mnK f k i = -1
  | 0, i, h => by omega
  | k + 1, i, h => by
    unfold mnK
    by_cases e : i = k
    · subst e; rw [rz_u_s]
    · rw [rz_u_n e]; exact mnK_at f k i (by omega)
def prB (C : List (Nat × Nat)) (R : Nat → Int32) (lv : Nat) : Nat → Int32 := tbK (meS C R) lv (fun _ => 0) 256
def prM (C : List (Nat × Nat)) (R : Nat → Int32) (lv : Nat) (p : Nat) : Int32 := (hgI (meS C R) (prB C R lv) 8 (lv, fun _ => -1)).2 p
section COURT4
variable {Z : rx_Z} {d : Nat} {h : Nat → Option rx_E} {ι : Nat → Nat → Int32} {w : Nat × Nat} {c l r m lv : Nat} {C : List (Nat × Nat)} {R : Nat → Int32} {dk : Option Nat}
theorem ct_pairs (q : QC Z h ι c l r C R m dk lv) : ∃ ι', rz_f Z (d + 5) 12 [.ref (c + 16), .ref r, .ref l] (rz_mk h ι, w) = some (.inl (some (.int (prB C R lv lv))), (rz_mk h ι', w)) ∧ fr (scC c) ι ι' ∧ ∀ p, p < 8 → ι' (c + 21) p = prM C R lv p := by
  obtain ⟨ι1, g1, g2, g3⟩ := ct_measure (d := d) (w := w) q
  have hlv := q.2.2.2.2.2.2.2.2.2.2.2.2.2.l256
  have h4 : ι1 r 4 = nI lv := by
    have := (q.fr g2).2.2.2.2.2.2.2.2.2.2.2.2.1
    have h56 : rl ι1 r 56 = nI lv := by rw [this]; exact q.2.2.2.2.2.2.2.2.2.2.2.2.2.2.2.2.2.1
    exact h56
  obtain ⟨q1, ⟨pv, q2⟩, q3, q4, q5, q6, q7, q8, q9, q10, q11, q12, q13, q14⟩ := q
  have H := ct_hang (ι := ι1) (ι0 := ι) (w := w) (d := d) (l := l) q8 (by omega) q6 (by omega) h4 hlv g1
  have bb : ∀ i, i < 256 → tbK (ι1 (c + 16 + 1)) lv (ι1 (c + 16 + 2)) 256 i = prB C R lv i := fun i hi => tbK_cong g3 256 (by omega) i hi
  refine ⟨_, H.trans (by rw [bb lv hlv]), ?_, fun p hp => ?_⟩
  · intro x hx
    rw [rz_rw_n (fun e => hx (by unfold scC; omega)), rz_rw_n (fun e => hx (by unfold scC; omega))]
    exact g2 x hx
  · rw [show c + 21 = c + 16 + 5 by omega, rz_rw_s]
    exact hgI_cong g3 bb 8 hlv (fun i hi => mnK_at _ 8 i hi) p hp
theorem cl_pairs (q : QC Z h ι c l r C R m dk lv) : ansC Z (d + 6) h ι w c 137 [] (prB C R lv lv) := by
  obtain ⟨ι', g1, g2, _⟩ := ct_pairs (d := d) (w := w) q
  obtain ⟨q1, ⟨pv, q2⟩, q3, q4, q5, q6, q7, q8, q9, q10, q11, q12, q13, q14⟩ := q
  refine ⟨ι', ?_, g2⟩
  rw [e137]
  simp (decide := true) (maxDischargeDepth := 4) only [g137_0, g137_1, g137_4, g137_5, g137_8, g137_9, g137_12, g137_15, rz_k_inl, rz_k_inr, Option.toList_some, Option.toList_none, List.cons_append, List.nil_append, List.append_nil, rz_up_s, rz_u_s, rz_up_n, rz_u_n, ne_eq, not_false_eq_true, not_true_eq_false, Nat.add_assoc, Nat.reduceAdd, reduceIte, Nat.add_eq_left, Nat.left_eq_add, Nat.add_left_cancel_iff, Nat.reduceEqDiff, Nat.add_right_cancel_iff, rz_nb0, rz_nb1, rz_nbb, rz_nbi, rz_isr, rz_zle, if_true, if_false, rz_bi0, rz_bi1, Bool.not_eq_true, Bool.not_eq_false, Bool.true_eq_false, Bool.false_eq_true, rz_ix_lit, cl_lit, Nat.reduceLT, bi_t, bi_f, decide_true, decide_false, Bool.not_false, Bool.not_true, Bool.and_true, Bool.true_and, Bool.and_false, Bool.false_and, oHr_c q2, oHr_f0 q2, oHr_v0 q2, oHr_f1 q2, oHr_v1 q2, oHr_f2 q2, oHr_v2 q2, oHr_f3 q2, oHr_v3 q2, oHr_f4 q2, oHr_v4 q2, oHr_f5 q2, oHr_v5 q2, oHr_f6 q2, oHr_v6 q2, oHr_f7 q2, oHr_v7 q2, oHr_f8 q2, oHr_v8 q2, oHr_f9 q2, oHr_v9 q2, oHr_f10 q2, oHr_v10 q2, oHr_f11 q2, oHr_v11 q2, oHr_f12 q2, oHr_v12 q2, oHr_i13 q2, oHr_i14 q2, oHr_i15 q2, oHr_i16 q2, oHr_i17 q2, oCt_c, oCt_f0, oCt_v0, oCt_f1, oCt_v1, oCt_f2, oCt_v2, oCt_f3, oCt_v3, oCt_f4, oCt_v4, oCt_f5, oCt_v5, oCt_a1, oCt_n1, oCt_a2, oCt_n2, oCt_a3, oCt_n3, oCt_a4, oCt_n4, oCt_a5, oCt_n5, oCt_a6, oCt_n6, q8, g1]
theorem cl_mate1 (q : QC Z h ι c l r C R m dk lv) {x : Int32} (hx : x < 0 ∨ ¬ x < nI m) : refC Z (d + 3) h ι w c 138 [.int x] 1 := by
  unfold refC
  rw [e138]
  obtain ⟨pv, q2⟩ := q.2.1
  simp (decide := true) (maxDischargeDepth := 4) only [g138_0, g138_1, g138_2, g138_5, g138_6, g138_9, g138_10, g138_13, g138_14, g138_17, g138_20, g138_21, g138_22, g138_25, g138_28, g138_29, g138_30, rz_k_inl, rz_k_inr, Option.toList_some, Option.toList_none, List.cons_append, List.nil_append, List.append_nil, rz_up_s, rz_u_s, rz_up_n, rz_u_n, ne_eq, not_false_eq_true, not_true_eq_false, Nat.add_assoc, Nat.reduceAdd, reduceIte, Nat.add_eq_left, Nat.left_eq_add, Nat.add_left_cancel_iff, Nat.reduceEqDiff, Nat.add_right_cancel_iff, rz_nb0, rz_nb1, rz_nbb, rz_nbi, rz_isr, rz_zle, if_true, if_false, rz_bi0, rz_bi1, Bool.not_eq_true, Bool.not_eq_false, Bool.true_eq_false, Bool.false_eq_true, rz_ix_lit, cl_lit, Nat.reduceLT, bi_t, bi_f, decide_true, decide_false, Bool.not_false, Bool.not_true, Bool.and_true, Bool.true_and, Bool.and_false, Bool.false_and, oHr_c q2, oHr_f0 q2, oHr_v0 q2, oHr_f1 q2, oHr_v1 q2, oHr_f2 q2, oHr_v2 q2, oHr_f3 q2, oHr_v3 q2, oHr_f4 q2, oHr_v4 q2, oHr_f5 q2, oHr_v5 q2, oHr_f6 q2, oHr_v6 q2, oHr_f7 q2, oHr_v7 q2, oHr_f8 q2, oHr_v8 q2, oHr_f9 q2, oHr_v9 q2, oHr_f10 q2, oHr_v10 q2, oHr_f11 q2, oHr_v11 q2, oHr_f12 q2, oHr_v12 q2, oHr_i13 q2, oHr_i14 q2, oHr_i15 q2, oHr_i16 q2, oHr_i17 q2, hr_needP0 q hx]
theorem cl_mate (q : QC Z h ι c l r C R m dk lv) {p : Nat} (hp : p < m) : ansC Z (d + 6) h ι w c 138 [.int (nI p)] (prM C R lv p) := by
  obtain ⟨ι', g1, g2, g3⟩ := ct_pairs (d := d) (w := w) q
  have qq := q
  obtain ⟨q1, ⟨pv, q2⟩, q3, q4, q5, q6, q7, q8, q9, q10, q11, q12, q13, q14⟩ := q
  have hm8 := q14.2.1
  have i1 : rz_ix (nI p) 8 := rz_ix_nat (by omega) (by omega)
  have n1 := nI_cl (show p < 2147483648 by omega)
  refine ⟨ι', ?_, g2⟩
  rw [e138]
  simp (decide := true) (maxDischargeDepth := 4) only [g138_0, g138_1, g138_2, g138_5, g138_6, g138_9, g138_10, g138_13, g138_14, g138_17, g138_20, g138_21, g138_22, g138_25, g138_28, g138_29, g138_30, rz_k_inl, rz_k_inr, Option.toList_some, Option.toList_none, List.cons_append, List.nil_append, List.append_nil, rz_up_s, rz_u_s, rz_up_n, rz_u_n, ne_eq, not_false_eq_true, not_true_eq_false, Nat.add_assoc, Nat.reduceAdd, reduceIte, Nat.add_eq_left, Nat.left_eq_add, Nat.add_left_cancel_iff, Nat.reduceEqDiff, Nat.add_right_cancel_iff, rz_nb0, rz_nb1, rz_nbb, rz_nbi, rz_isr, rz_zle, if_true, if_false, rz_bi0, rz_bi1, Bool.not_eq_true, Bool.not_eq_false, Bool.true_eq_false, Bool.false_eq_true, rz_ix_lit, cl_lit, Nat.reduceLT, bi_t, bi_f, decide_true, decide_false, Bool.not_false, Bool.not_true, Bool.and_true, Bool.true_and, Bool.and_false, Bool.false_and, oHr_c q2, oHr_f0 q2, oHr_v0 q2, oHr_f1 q2, oHr_v1 q2, oHr_f2 q2, oHr_v2 q2, oHr_f3 q2, oHr_v3 q2, oHr_f4 q2, oHr_v4 q2, oHr_f5 q2, oHr_v5 q2, oHr_f6 q2, oHr_v6 q2, oHr_f7 q2, oHr_v7 q2, oHr_f8 q2, oHr_v8 q2, oHr_f9 q2, oHr_v9 q2, oHr_f10 q2, oHr_v10 q2, oHr_f11 q2, oHr_v11 q2, oHr_f12 q2, oHr_v12 q2, oHr_i13 q2, oHr_i14 q2, oHr_i15 q2, oHr_i16 q2, oHr_i17 q2, oCt_c, oCt_f0, oCt_v0, oCt_f1, oCt_v1, oCt_f2, oCt_v2, oCt_f3, oCt_v3, oCt_f4, oCt_v4, oCt_f5, oCt_v5, oCt_a1, oCt_n1, oCt_a2, oCt_n2, oCt_a3, oCt_n3, oCt_a4, oCt_n4, oCt_a5, oCt_n5, oCt_a6, oCt_n6, q8, hr_needP1 qq hp, g1, i1, n1, g3 p (by omega)]
end COURT4
