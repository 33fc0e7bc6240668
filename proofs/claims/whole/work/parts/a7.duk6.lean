/-! the reference begins anew: rows laid over, the realm out of what was told -/
/-- the first n rows, laid over -/
def lyI (ι : Nat → Nat → Int32) (fA tA : Nat → Nat) (L : Nat) : Nat → (Nat → Nat → Int32)
  | 0 => ι
  | n + 1 => rz_rw (lyI ι fA tA L n) (tA n) (cpK (ι (fA n)) (ι (tA n)) L)
theorem lyI_n {ι : Nat → Nat → Int32} {fA tA : Nat → Nat} {L a : Nat} : ∀ n, (∀ j, j < n → a ≠ tA j) → lyI ι fA tA L n a = ι a
  | 0, _ => rfl
  | n + 1, h => by rw [lyI, rz_rw_n (h n (by omega)), lyI_n n (fun j hj => h j (by omega))]
theorem lyI_s {ι : Nat → Nat → Int32} {fA tA : Nat → Nat} {L : Nat} : ∀ n j, j < n → (∀ i, i < n → ∀ k, k < n → tA i = tA k → i = k) → lyI ι fA tA L n (tA j) = cpK (ι (fA j)) (ι (tA j)) L
  | 0, j, h, _ => by omega
  | n + 1, j, h, hi => by
    rw [lyI]
    by_cases e : j = n
    · subst e; rw [rz_rw_s]
    · rw [rz_rw_n (fun z => e (hi j (by omega) n (by omega) z)), lyI_s n j (by omega) (fun i h1 k h2 => hi i (by omega) k (by omega))]
section DUK6
variable {Z : rx_Z} {d : Nat} {h : Nat → Option rx_E} {ι ι0 : Nat → Nat → Int32} {w : Nat × Nat} {b : Nat}
theorem md_lays {A T n L : Nat} {fA tA : Nat → Nat} (hA : rz_ar h A 3) (hT : rz_ar h T 3) (hAn : n ≤ rz_ln h A) (hTn : n ≤ rz_ln h T) (hT6 : rz_ln h A < 10000) (hT7 : rz_ln h T < 10000) (hfe : ∀ j, rz_el h A j = .ref (fA j)) (hte : ∀ j, rz_el h T j = .ref (tA j)) (hfr : ∀ j, j < n → rz_ar h (fA j) 0 ∧ rz_ln h (fA j) = L) (htr : ∀ j, j < n → rz_ar h (tA j) 0 ∧ rz_ln h (tA j) = L ∧ Z.2.1 ≤ tA j) (hL : L < 10000) (hft : ∀ i j, i < n → j < n → fA i ≠ tA j) (hi : ∀ i, i < n → ∀ k, k < n → tA i = tA k → i = k) : rz_f Z (d + 1) 198 [.ref A, .ref T, .int (nI n)] (rz_mk h ι, w) = some (.inl none, (rz_mk h (lyI ι fA tA L n), w)) := by
  have O : ∀ (k j : Nat) (l4 : Option Value), j + k = n → rg Z d rx_m198 2 [some (.ref A), some (.ref T), some (.int (nI n)), some (.int (nI j)), l4] [] (rz_mk h (lyI ι fA tA L j), w) = some (.inl none, (rz_mk h (lyI ι fA tA L n), w)) := by
    intro k
    induction k with
    | zero =>
      intro j l4 hj
      have ej : j = n := by omega
      subst ej
      have c : (nI j < nI j) = False := by simp
      rw [g198_2]
      simp (decide := true) (maxDischargeDepth := 4) only [g198_3, g198_4, g198_43, rz_k_inl, rz_k_inr, Option.toList_some, Option.toList_none, List.cons_append, List.nil_append, List.append_nil, rz_up_s, rz_u_s, rz_up_n, rz_u_n, ne_eq, not_false_eq_true, not_true_eq_false, Nat.add_assoc, Nat.reduceAdd, reduceIte, Nat.add_eq_left, Nat.left_eq_add, Nat.add_left_cancel_iff, Nat.reduceEqDiff, Nat.add_right_cancel_iff, rz_nb0, rz_nb1, rz_nbb, rz_nbi, rz_isr, rz_zle, if_true, if_false, rz_bi0, rz_bi1, Bool.not_eq_true, Bool.not_eq_false, Bool.true_eq_false, Bool.false_eq_true, rz_ix_lit, cl_lit, Nat.reduceLT, bi_t, bi_f, decide_true, decide_false, Bool.not_false, Bool.not_true, Bool.and_true, Bool.true_and, Bool.and_false, Bool.false_and, c]
    | succ k ih =>
      intro j l4 hj
      have hjn : j < n := by omega
      have c : (nI j < nI n) = True := by rw [nI_lt2 (by omega) (by omega)]; simp [hjn]
      obtain ⟨f1, f2⟩ := hfr j hjn
      obtain ⟨t1, t2, t3⟩ := htr j hjn
      have iA : rz_ix (nI j) (rz_ln h A) := rz_ix_nat (by omega) (by omega)
      have iT : rz_ix (nI j) (rz_ln h T) := rz_ix_nat (by omega) (by omega)
      have cj := nI_cl (show j < 2147483648 by omega)
      have e1 : lyI ι fA tA L j (fA j) = ι (fA j) := lyI_n j (fun i hi2 => hft j i hjn (by omega))
      have e2 : lyI ι fA tA L j (tA j) = ι (tA j) := lyI_n j (fun i hi2 z => by have := hi j hjn i (by omega) z; omega)
      have IN := rz_loopE (fun i => rg Z d rx_m198 10 [some (.ref A), some (.ref T), some (.int (nI n)), some (.int (nI j)), some (.int (nI i))] [] (rz_mk h (rz_rw (lyI ι fA tA L j) (tA j) (cpK (ι (fA j)) (ι (tA j)) i)), w)) L (by
        intro i hiL
        have c2 : (nI i < nI L) = True := by rw [nI_lt2 (by omega) (by omega)]; simp [hiL]
        have i1 : rz_ix (nI i) L := rz_ix_nat hiL (by omega)
        have n1 : rz_rw (lyI ι fA tA L j) (tA j) (cpK (ι (fA j)) (ι (tA j)) i) (fA j) = ι (fA j) := by rw [rz_rw_n (hft j j hjn hjn), e1]
        try dsimp only
        rw [g198_10]
        have eL : Int32.ofNat L = nI L := rfl
        simp (decide := true) (maxDischargeDepth := 4) only [g198_12, g198_13, g198_14, g198_15, g198_16, g198_19, g198_20, g198_21, g198_22, g198_24, g198_25, g198_26, g198_27, g198_29, g198_30, g198_31, g198_34, rz_k_inl, rz_k_inr, Option.toList_some, Option.toList_none, List.cons_append, List.nil_append, List.append_nil, rz_up_s, rz_u_s, rz_up_n, rz_u_n, ne_eq, not_false_eq_true, not_true_eq_false, Nat.add_assoc, Nat.reduceAdd, reduceIte, Nat.add_eq_left, Nat.left_eq_add, Nat.add_left_cancel_iff, Nat.reduceEqDiff, Nat.add_right_cancel_iff, rz_nb0, rz_nb1, rz_nbb, rz_nbi, rz_isr, rz_zle, if_true, if_false, rz_bi0, rz_bi1, Bool.not_eq_true, Bool.not_eq_false, Bool.true_eq_false, Bool.false_eq_true, rz_ix_lit, cl_lit, Nat.reduceLT, bi_t, bi_f, decide_true, decide_false, Bool.not_false, Bool.not_true, Bool.and_true, Bool.true_and, Bool.and_false, Bool.false_and, hA, hT, iA, iT, cj, hfe, hte, f1, f2, t1, t2, t3, eL, c2, i1, nI_cl (show i < 2147483648 by omega), n1, rz_rw_up, cpK_s, nI_1])
      try dsimp only at IN
      rw [cpK_0, rz_rw_id e2] at IN
      have nxt := ih (j + 1) (some (.int (nI L))) (by omega)
      rw [g198_2]
      simp (decide := true) (maxDischargeDepth := 4) only [g198_3, g198_4, g198_7, g198_8, rz_k_inl, rz_k_inr, Option.toList_some, Option.toList_none, List.cons_append, List.nil_append, List.append_nil, rz_up_s, rz_u_s, rz_up_n, rz_u_n, ne_eq, not_false_eq_true, not_true_eq_false, Nat.add_assoc, Nat.reduceAdd, reduceIte, Nat.add_eq_left, Nat.left_eq_add, Nat.add_left_cancel_iff, Nat.reduceEqDiff, Nat.add_right_cancel_iff, rz_nb0, rz_nb1, rz_nbb, rz_nbi, rz_isr, rz_zle, if_true, if_false, rz_bi0, rz_bi1, Bool.not_eq_true, Bool.not_eq_false, Bool.true_eq_false, Bool.false_eq_true, rz_ix_lit, cl_lit, Nat.reduceLT, bi_t, bi_f, decide_true, decide_false, Bool.not_false, Bool.not_true, Bool.and_true, Bool.true_and, Bool.and_false, Bool.false_and, c]
      have eL : Int32.ofNat L = nI L := rfl
      have cL : (nI L < nI L) = False := by simp
      refine (show _ = _ from IN).trans ?_
      rw [g198_10, ← nxt, lyI]
      simp (decide := true) (maxDischargeDepth := 4) only [g198_12, g198_13, g198_14, g198_15, g198_16, g198_37, g198_40, rz_k_inl, rz_k_inr, Option.toList_some, Option.toList_none, List.cons_append, List.nil_append, List.append_nil, rz_up_s, rz_u_s, rz_up_n, rz_u_n, ne_eq, not_false_eq_true, not_true_eq_false, Nat.add_assoc, Nat.reduceAdd, reduceIte, Nat.add_eq_left, Nat.left_eq_add, Nat.add_left_cancel_iff, Nat.reduceEqDiff, Nat.add_right_cancel_iff, rz_nb0, rz_nb1, rz_nbb, rz_nbi, rz_isr, rz_zle, if_true, if_false, rz_bi0, rz_bi1, Bool.not_eq_true, Bool.not_eq_false, Bool.true_eq_false, Bool.false_eq_true, rz_ix_lit, cl_lit, Nat.reduceLT, bi_t, bi_f, decide_true, decide_false, Bool.not_false, Bool.not_true, Bool.and_true, Bool.true_and, Bool.and_false, Bool.false_and, hT, iT, cj, hte, t1, t2, eL, cL, nI_1]
  rw [e198]
  have := O n 0 none (by omega)
  simp (decide := true) (maxDischargeDepth := 4) only [g198_0, g198_1, rz_k_inl, rz_k_inr, Option.toList_some, Option.toList_none, List.cons_append, List.nil_append, List.append_nil, rz_up_s, rz_u_s, rz_up_n, rz_u_n, ne_eq, not_false_eq_true, not_true_eq_false, Nat.add_assoc, Nat.reduceAdd, reduceIte, Nat.add_eq_left, Nat.left_eq_add, Nat.add_left_cancel_iff, Nat.reduceEqDiff, Nat.add_right_cancel_iff, rz_nb0, rz_nb1, rz_nbb, rz_nbi, rz_isr, rz_zle, if_true, if_false, rz_bi0, rz_bi1, Bool.not_eq_true, Bool.not_eq_false, Bool.true_eq_false, Bool.false_eq_true, rz_ix_lit, cl_lit, Nat.reduceLT, bi_t, bi_f, decide_true, decide_false, Bool.not_false, Bool.not_true, Bool.and_true, Bool.true_and, Bool.and_false, Bool.false_and]
  exact this
/-- the realm's row, one PERSON more -/
def pwR (P : List P3) : Nat → (Nat → Int32)
  | 0 => fun _ => 0
  | p + 1 => rz_u (rz_u (rz_u (rz_u (rz_u (rz_u (rz_u (pwR P p) (48 + p) 20) (3 * p + 0) (nI (P.getD p (0, 0, 0)).1)) (24 + (3 * p + 0)) (nI (P.getD p (0, 0, 0)).1)) (3 * p + 1) (nI (P.getD p (0, 0, 0)).2.1)) (24 + (3 * p + 1)) (nI (P.getD p (0, 0, 0)).2.1)) (3 * p + 2) (nI (P.getD p (0, 0, 0)).2.2)) (24 + (3 * p + 2)) (nI (P.getD p (0, 0, 0)).2.2)
theorem pwR_dk {P : List P3} (hP : P.length ≤ 8) : ∀ n, n ≤ P.length → (∀ i, i ≠ 56 → i ≠ 57 → i ≠ 58 → pwR P n i = dkR (P.take n) i) ∧ dkR (P.take n) 56 = nI (2 ^ n - 1) ∧ dkR (P.take n) 58 = -1
  | 0, _ => by
    refine ⟨fun i _ _ h => ?_, rfl, rfl⟩
    show (0 : Int32) = R00 i
    unfold R00; rw [if_neg h]
  | n + 1, hn => by
    obtain ⟨i1, i2, i3⟩ := pwR_dk hP n (by omega)
    have et : P.take (n + 1) = P.take n ++ [P.getD n (0, 0, 0)] := by
      rw [List.take_succ, List.getElem?_eq_getElem (by omega), List.getD_eq_getElem?_getD, List.getElem?_eq_getElem (by omega)]
      rfl
    have ln : (P.take n).length = n := by rw [List.length_take]; omega
    obtain ⟨q, hq⟩ : ∃ q, P.getD n (0, 0, 0) = q := ⟨_, rfl⟩
    rw [hq] at et
    rw [et, dkR_app, ln]
    have n8 : n < 8 := by omega
    have ha : ∀ i, addR (dkR (P.take n)) n (nI q.1) (nI q.2.1) (nI q.2.2) 20 i = if 24 + 3 * n ≤ i ∧ i < 24 + 3 * n + 3 then (if i - 24 = 3 * n + 2 then nI q.2.2 else if i - 24 = 3 * n + 1 then nI q.2.1 else nI q.1) else if i = 3 * n + 2 then nI q.2.2 else if i = 3 * n + 1 then nI q.2.1 else if i = 3 * n then nI q.1 else if i = 48 + n then 20 else if i = 56 then dkR (P.take n) 56 ||| rBit n else if i = 57 then dkR (P.take n) 57 + 1 else dkR (P.take n) i := by
      intro i
      unfold addR shIs rz_u
      by_cases hc : 24 + 3 * n ≤ i ∧ i < 24 + 3 * n + 3
      · rw [if_pos hc, if_pos hc]
        by_cases h2 : i - 24 = 3 * n + 2
        · rw [if_pos h2, if_pos h2]
        · rw [if_neg h2, if_neg h2]
          by_cases h1 : i - 24 = 3 * n + 1
          · rw [if_pos h1, if_pos h1]
          · rw [if_neg h1, if_neg h1, if_pos (by omega)]
      · rw [if_neg hc, if_neg hc]
    refine ⟨fun i h1 h2 h3 => ?_, ?_, ?_⟩
    · rw [ha, pwR, hq]
      have q1 := i1 i h1 h2 h3
      unfold rz_u
      by_cases hc : 24 + 3 * n ≤ i ∧ i < 24 + 3 * n + 3
      · rw [if_pos hc]
        by_cases c2 : i = 24 + (3 * n + 2)
        · rw [if_pos c2, if_pos (by omega)]
        · rw [if_neg c2, if_neg (show i ≠ 3 * n + 2 by omega), if_neg (show i - 24 ≠ 3 * n + 2 by omega)]
          by_cases c1 : i = 24 + (3 * n + 1)
          · rw [if_pos c1, if_pos (by omega)]
          · rw [if_neg c1, if_neg (show i ≠ 3 * n + 1 by omega), if_neg (show i - 24 ≠ 3 * n + 1 by omega), if_pos (show i = 24 + (3 * n + 0) by omega)]
      · rw [if_neg hc, if_neg (show i ≠ 24 + (3 * n + 2) by omega)]
        by_cases c2 : i = 3 * n + 2
        · rw [if_pos c2, if_pos c2]
        · rw [if_neg c2, if_neg c2, if_neg (show i ≠ 24 + (3 * n + 1) by omega)]
          by_cases c1 : i = 3 * n + 1
          · rw [if_pos c1, if_pos c1]
          · rw [if_neg c1, if_neg c1, if_neg (show i ≠ 24 + (3 * n + 0) by omega)]
            by_cases c0 : i = 3 * n
            · rw [if_pos (show i = 3 * n + 0 by omega), if_pos c0]
            · rw [if_neg (show i ≠ 3 * n + 0 by omega), if_neg c0]
              by_cases c8 : i = 48 + n
              · rw [if_pos c8, if_pos c8]
              · rw [if_neg c8, if_neg c8, if_neg h1, if_neg h2]; exact q1
    · rw [ha, if_neg (by omega), if_neg (by omega), if_neg (by omega), if_neg (by omega), if_neg (by omega), if_pos rfl, i2]
      have : ∀ n, n < 8 → nI (2 ^ n - 1) ||| rBit n = nI (2 ^ (n + 1) - 1) := by decide
      exact this n n8
    · rw [ha, if_neg (by omega), if_neg (by omega), if_neg (by omega), if_neg (by omega), if_neg (by omega), if_neg (by omega), if_neg (by omega)]
      exact i3
end DUK6
