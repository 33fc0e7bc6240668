/-! FarthestHeir$Realm: deaths, years, copies -/
def agI (ι : Nat → Nat → Int32) (r : Nat) (R : Nat → Int32) : Nat → (Nat → Nat → Int32)
  | 0 => ι
  | p + 1 => if rLv R p = true then rz_up (agI ι r R p) (r + 3) p (ι (r + 3) p + 1) else agI ι r R p
theorem agI_n {ι : Nat → Nat → Int32} {r a : Nat} {R : Nat → Int32} (ha : a ≠ r + 3) : ∀ p, agI ι r R p a = ι a
  | 0 => rfl
  | p + 1 => by
    unfold agI
    split
    · rw [rz_up_n ha]; exact agI_n ha p
    · exact agI_n ha p
theorem agI_q {ι : Nat → Nat → Int32} {r : Nat} {R : Nat → Int32} : ∀ p q, p ≤ q → agI ι r R p (r + 3) q = ι (r + 3) q
  | 0, _, _ => rfl
  | p + 1, q, hq => by
    unfold agI
    split
    · rw [rz_up_s, rz_u_n (by omega)]; exact agI_q p q (by omega)
    · exact agI_q p q (by omega)
theorem agI_rl {ι : Nat → Nat → Int32} {r : Nat} : ∀ p, p ≤ 8 → rl (agI ι r (rl ι r) p) r = agdR (rl ι r) p
  | 0, _ => rfl
  | p + 1, h8 => by
    unfold agI agdR
    split
    · rw [rl_wa (by omega), agI_rl p (by omega), rl_ag (by omega)]
    · exact agI_rl p (by omega)
theorem agdR_n {R : Nat → Int32} {i : Nat} : ∀ p, (i < 48 ∨ 48 + p ≤ i) → agdR R p i = R i
  | 0, _ => rfl
  | p + 1, hi => by
    unfold agdR
    split
    · rw [rz_u_n (by omega)]; exact agdR_n p (by omega)
    · exact agdR_n p (by omega)
section REALM3
variable {Z : rx_Z} {d : Nat} {h : Nat → Option rx_E} {ι : Nat → Nat → Int32} {w : Nat × Nat} {r l : Nat}
theorem rm_passYear (hr : oRl h r) (hz : Z.2.1 ≤ r) {m : Nat} (hm : rl ι r 57 = nI m) (hm8 : m ≤ 8) : ∃ ι', rz_f Z (d + 2) 86 [.ref r] (rz_mk h ι, w) = some (.inl none, (rz_mk h ι', w)) ∧ rl ι' r = yerR (rl ι r) m ∧ fr (rlP r) ι ι' := by
  have hm' : ι r 3 = nI m := hm
  have L := rz_loopE (fun p => rg Z (d + 1) rx_m86 2 [some (.ref r), some (.int (nI p))] [] (rz_mk h (agI ι r (rl ι r) p), w)) m (by
    intro p hp
    have c : (nI p < nI m) = True := by rw [nI_lt2 (by omega) (by omega)]; simp [hp]
    have n0 : agI ι r (rl ι r) p r = ι r := agI_n (by omega) p
    have lv := rm_lives (Z := Z) (d := d) (w := w) (ι := agI ι r (rl ι r) p) hr (show p < 8 by omega)
    have elv : rLv (rl (agI ι r (rl ι r) p) r) p = rLv (rl ι r) p := by
      unfold rLv
      rw [agI_rl p (by omega), agdR_n p (by omega)]
    rw [elv] at lv
    have i1 : rz_ix (nI p) 8 := rz_ix_nat (by omega) (by omega)
    try dsimp only
    rw [g86_2]
    by_cases hlv : rLv (rl ι r) p = true
    · simp (decide := true) (maxDischargeDepth := 4) only [g86_3, g86_4, g86_7, g86_10, g86_11, g86_12, g86_15, g86_18, g86_19, g86_22, g86_23, g86_24, g86_25, g86_26, g86_27, g86_28, g86_31, rz_k_inl, rz_k_inr, Option.toList_some, Option.toList_none, List.cons_append, List.nil_append, List.append_nil, rz_up_s, rz_u_s, rz_up_n, rz_u_n, ne_eq, not_false_eq_true, not_true_eq_false, Nat.add_assoc, Nat.reduceAdd, reduceIte, Nat.add_eq_left, Nat.left_eq_add, Nat.add_left_cancel_iff, Nat.reduceEqDiff, Nat.add_right_cancel_iff, rz_nb0, rz_nb1, rz_nbb, rz_nbi, rz_isr, rz_zle, if_true, if_false, rz_bi0, rz_bi1, Bool.not_eq_true, Bool.not_eq_false, Bool.true_eq_false, Bool.false_eq_true, rz_ix_lit, cl_lit, Nat.reduceLT, oRl_c, oRl_f0, oRl_v0, oRl_f1, oRl_v1, oRl_f2, oRl_v2, oRl_i3, oRl_i4, oRl_i5, oRl_i6, oRl_i7, oRl_i8, oRl_a1, oRl_n1, oRl_a2, oRl_n2, oRl_a3, oRl_n3, hr, hz, n0, hm', c, lv, hlv, i1, nI_cl (show p < 2147483648 by omega), nI_1, agI_q p p (Nat.le_refl p)]
      rw [agI, if_pos hlv]
    · rw [Bool.not_eq_true] at hlv
      simp (decide := true) (maxDischargeDepth := 4) only [g86_3, g86_4, g86_7, g86_10, g86_11, g86_12, g86_15, g86_18, g86_19, g86_22, g86_23, g86_24, g86_25, g86_26, g86_27, g86_28, g86_31, rz_k_inl, rz_k_inr, Option.toList_some, Option.toList_none, List.cons_append, List.nil_append, List.append_nil, rz_up_s, rz_u_s, rz_up_n, rz_u_n, ne_eq, not_false_eq_true, not_true_eq_false, Nat.add_assoc, Nat.reduceAdd, reduceIte, Nat.add_eq_left, Nat.left_eq_add, Nat.add_left_cancel_iff, Nat.reduceEqDiff, Nat.add_right_cancel_iff, rz_nb0, rz_nb1, rz_nbb, rz_nbi, rz_isr, rz_zle, if_true, if_false, rz_bi0, rz_bi1, Bool.not_eq_true, Bool.not_eq_false, Bool.true_eq_false, Bool.false_eq_true, rz_ix_lit, cl_lit, Nat.reduceLT, oRl_c, oRl_f0, oRl_v0, oRl_f1, oRl_v1, oRl_f2, oRl_v2, oRl_i3, oRl_i4, oRl_i5, oRl_i6, oRl_i7, oRl_i8, oRl_a1, oRl_n1, oRl_a2, oRl_n2, oRl_a3, oRl_n3, hr, hz, n0, hm', c, lv, hlv, nI_1]
      rw [agI, if_neg (by rw [hlv]; decide)])
  try dsimp only at L
  have n0 : agI ι r (rl ι r) m r = ι r := agI_n (by omega) m
  have c : (nI m < nI m) = False := by rw [nI_lt2 (by omega) (by omega)]; simp
  refine ⟨rz_up (rz_up (agI ι r (rl ι r) m) r 6 (ι r 6 + (if ι r 5 = -1 then 0 else 1))) r 7 (ι r 7 + 1), ?_, ?_, ?_⟩
  · rw [e86]
    simp (decide := true) (maxDischargeDepth := 4) only [g86_0, g86_1, g86_3, g86_4, g86_7, g86_10, g86_11, g86_12, g86_15, g86_18, g86_19, g86_22, g86_23, g86_24, g86_25, g86_26, g86_27, g86_28, g86_31, g86_34, g86_35, g86_36, g86_39, g86_40, g86_43, g86_44, g86_47, g86_48, g86_51, g86_52, g86_53, g86_56, g86_57, g86_58, g86_61, g86_62, g86_63, g86_66, rz_k_inl, rz_k_inr, Option.toList_some, Option.toList_none, List.cons_append, List.nil_append, List.append_nil, rz_up_s, rz_u_s, rz_up_n, rz_u_n, ne_eq, not_false_eq_true, not_true_eq_false, Nat.add_assoc, Nat.reduceAdd, reduceIte, Nat.add_eq_left, Nat.left_eq_add, Nat.add_left_cancel_iff, Nat.reduceEqDiff, Nat.add_right_cancel_iff, rz_nb0, rz_nb1, rz_nbb, rz_nbi, rz_isr, rz_zle, if_true, if_false, rz_bi0, rz_bi1, Bool.not_eq_true, Bool.not_eq_false, Bool.true_eq_false, Bool.false_eq_true, rz_ix_lit, cl_lit, Nat.reduceLT]
    refine L.trans ?_
    rw [g86_2]
    try simp (decide := true) (maxDischargeDepth := 4) only [g86_0, g86_1, g86_3, g86_4, g86_7, g86_10, g86_11, g86_12, g86_15, g86_18, g86_19, g86_22, g86_23, g86_24, g86_25, g86_26, g86_27, g86_28, g86_31, g86_34, g86_35, g86_36, g86_39, g86_40, g86_43, g86_44, g86_47, g86_48, g86_51, g86_53, g86_56, g86_57, g86_58, g86_61, g86_62, g86_63, g86_66, rz_join, rz_k_inl, rz_k_inr, Option.toList_some, Option.toList_none, List.cons_append, List.nil_append, List.append_nil, rz_up_s, rz_u_s, rz_up_n, rz_u_n, ne_eq, not_false_eq_true, not_true_eq_false, Nat.add_assoc, Nat.reduceAdd, reduceIte, Nat.add_eq_left, Nat.left_eq_add, Nat.add_left_cancel_iff, Nat.reduceEqDiff, Nat.add_right_cancel_iff, rz_nb0, rz_nb1, rz_nbb, rz_nbi, rz_isr, rz_zle, if_true, if_false, rz_bi0, rz_bi1, Bool.not_eq_true, Bool.not_eq_false, Bool.true_eq_false, Bool.false_eq_true, rz_ix_lit, cl_lit, Nat.reduceLT, oRl_c, oRl_f0, oRl_v0, oRl_f1, oRl_v1, oRl_f2, oRl_v2, oRl_i3, oRl_i4, oRl_i5, oRl_i6, oRl_i7, oRl_i8, oRl_a1, oRl_n1, oRl_a2, oRl_n2, oRl_a3, oRl_n3, hr, hz, n0, hm', c]
    try simp (decide := true) (maxDischargeDepth := 4) only [g86_0, g86_1, g86_3, g86_4, g86_7, g86_10, g86_11, g86_12, g86_15, g86_18, g86_19, g86_22, g86_23, g86_24, g86_25, g86_26, g86_27, g86_28, g86_31, g86_34, g86_35, g86_36, g86_39, g86_40, g86_43, g86_44, g86_47, g86_48, g86_51, g86_52, g86_53, g86_56, g86_57, g86_58, g86_61, g86_62, g86_63, g86_66, rz_join, rz_k_inl, rz_k_inr, Option.toList_some, Option.toList_none, List.cons_append, List.nil_append, List.append_nil, rz_up_s, rz_u_s, rz_up_n, rz_u_n, ne_eq, not_false_eq_true, not_true_eq_false, Nat.add_assoc, Nat.reduceAdd, reduceIte, Nat.add_eq_left, Nat.left_eq_add, Nat.add_left_cancel_iff, Nat.reduceEqDiff, Nat.add_right_cancel_iff, rz_nb0, rz_nb1, rz_nbb, rz_nbi, rz_isr, rz_zle, if_true, if_false, rz_bi0, rz_bi1, Bool.not_eq_true, Bool.not_eq_false, Bool.true_eq_false, Bool.false_eq_true, rz_ix_lit, cl_lit, Nat.reduceLT, oRl_c, oRl_f0, oRl_v0, oRl_f1, oRl_v1, oRl_f2, oRl_v2, oRl_i3, oRl_i4, oRl_i5, oRl_i6, oRl_i7, oRl_i8, oRl_a1, oRl_n1, oRl_a2, oRl_n2, oRl_a3, oRl_n3, hr, hz, n0, hm', c]
  · rw [rl_w7, rl_w6, agI_rl m hm8]
    rfl
  · refine (fr.up (fr.up ?_ (by unfold rlP; omega)) (by unfold rlP; omega))
    intro a ha
    exact agI_n (fun e => ha (by unfold rlP; omega)) m
theorem rm_stepYear (hr : oRl h r) (hz : Z.2.1 ≤ r) {m : Nat} (hm : rl ι r 57 = nI m) (hm8 : m ≤ 8) : ∃ ι', rz_f Z (d + 3) 85 [.ref r] (rz_mk h ι, w) = some (.inl (some (.int (if rl ι r 61 < 900 then 1 else 0))), (rz_mk h ι', w)) ∧ rl ι' r = (if rl ι r 61 < 900 then yerR (rl ι r) m else rl ι r) ∧ fr (rlP r) ι ι' := by
  have hy : rl ι r 61 = ι r 7 := rfl
  by_cases hb : rl ι r 61 < 900
  · obtain ⟨ι', g1, g2, g3⟩ := rm_passYear (Z := Z) (d := d) (w := w) hr hz hm hm8
    refine ⟨ι', ?_, by rw [if_pos hb]; exact g2, g3⟩
    rw [hy] at hb ⊢
    rw [e85]
    simp (decide := true) (maxDischargeDepth := 4) only [g85_0, g85_1, g85_4, g85_7, g85_10, g85_11, g85_12, g85_13, g85_16, g85_17, rz_k_inl, rz_k_inr, Option.toList_some, Option.toList_none, List.cons_append, List.nil_append, List.append_nil, rz_up_s, rz_u_s, rz_up_n, rz_u_n, ne_eq, not_false_eq_true, not_true_eq_false, Nat.add_assoc, Nat.reduceAdd, reduceIte, Nat.add_eq_left, Nat.left_eq_add, Nat.add_left_cancel_iff, Nat.reduceEqDiff, Nat.add_right_cancel_iff, rz_nb0, rz_nb1, rz_nbb, rz_nbi, rz_isr, rz_zle, if_true, if_false, rz_bi0, rz_bi1, Bool.not_eq_true, Bool.not_eq_false, Bool.true_eq_false, Bool.false_eq_true, rz_ix_lit, cl_lit, Nat.reduceLT, oRl_c, oRl_f0, oRl_v0, oRl_f1, oRl_v1, oRl_f2, oRl_v2, oRl_i3, oRl_i4, oRl_i5, oRl_i6, oRl_i7, oRl_i8, oRl_a1, oRl_n1, oRl_a2, oRl_n2, oRl_a3, oRl_n3, hr, hb, g1]
  · refine ⟨ι, ?_, by rw [if_neg hb], fr.refl ι⟩
    rw [hy] at hb ⊢
    rw [e85]
    simp (decide := true) (maxDischargeDepth := 4) only [g85_0, g85_1, g85_4, g85_7, g85_10, g85_11, g85_12, g85_13, g85_16, g85_17, rz_k_inl, rz_k_inr, Option.toList_some, Option.toList_none, List.cons_append, List.nil_append, List.append_nil, rz_up_s, rz_u_s, rz_up_n, rz_u_n, ne_eq, not_false_eq_true, not_true_eq_false, Nat.add_assoc, Nat.reduceAdd, reduceIte, Nat.add_eq_left, Nat.left_eq_add, Nat.add_left_cancel_iff, Nat.reduceEqDiff, Nat.add_right_cancel_iff, rz_nb0, rz_nb1, rz_nbb, rz_nbi, rz_isr, rz_zle, if_true, if_false, rz_bi0, rz_bi1, Bool.not_eq_true, Bool.not_eq_false, Bool.true_eq_false, Bool.false_eq_true, rz_ix_lit, cl_lit, Nat.reduceLT, oRl_c, oRl_f0, oRl_v0, oRl_f1, oRl_v1, oRl_f2, oRl_v2, oRl_i3, oRl_i4, oRl_i5, oRl_i6, oRl_i7, oRl_i8, oRl_a1, oRl_n1, oRl_a2, oRl_n2, oRl_a3, oRl_n3, hr, hb]
def rlW (r l a : Nat) : Prop := rlP r a ∨ lwS l a
theorem rm_bury (hr : oRl h r) (hz : Z.2.1 ≤ r) (hl : oLw h l) (hzl : Z.2.1 ≤ l) (hlr : r + 4 ≤ l ∨ l + 4 ≤ r) {C : List (Nat × Nat)} (hC : lwIs ι l C) {m : Nat} (hm : rl ι r 57 = nI m) (hm8 : m ≤ 8) {p : Nat} (hp : p < 8) : ∃ ι', rz_f Z (d + 5) 84 [.ref r, .int (nI p), .ref l] (rz_mk h ι, w) = some (.inl (some (.int (bi (burR C (rl ι r) m p).isSome))), (rz_mk h ι', w)) ∧ rl ι' r = (burR C (rl ι r) m p).getD (rl ι r) ∧ fr (rlW r l) ι ι' := by
  have la := rm_lives (Z := Z) (d := d + 3) (w := w) (ι := ι) hr hp
  by_cases h1 : rLv (rl ι r) p = true
  · obtain ⟨ι1, hι1⟩ : ∃ ι1, ι1 = rz_up ι r 4 (ι r 4 &&& (1 <<< (nI p &&& 31) ^^^ (-1))) := ⟨_, rfl⟩
    have k1 : rl ι1 r = kilR (rl ι r) p := by rw [hι1, rl_w4]; rfl
    have f1 : fr (rlP r) ι ι1 := by rw [hι1]; exact (fr.refl ι).up (by unfold rlP; omega)
    have r5 : ι1 r 5 = ι r 5 := by rw [hι1, rz_up_s, rz_u_n (by decide)]
    by_cases h2 : nI p = rl ι r 58
    · have e : burR C (rl ι r) m p = some (crnR (kilR (rl ι r) p) (furO C (kilR (rl ι r) p) (some p) m)) := by unfold burR; rw [if_pos h1, if_pos h2]
      have hC1 := hC.fr f1 (by unfold rlP; omega) (by unfold rlP; omega)
      have hm1 : rl ι1 r 57 = nI m := by rw [k1]; unfold kilR; rw [rz_u_n (by decide)]; exact hm
      obtain ⟨ι2, g1, g2⟩ := lw_furthest (Z := Z) (d := d) (w := w) (f := some p) hl hzl hr hlr hC1 hm1 hm8 (fun q hq => by cases hq; exact hp)
      have er : rl ι2 r = rl ι1 r := rl_fr g2 (lwSep hlr)
      rw [k1] at g1
      obtain ⟨ι3, g3, g4, g5⟩ := rm_crown (Z := Z) (d := d + 3) (w := w) (ι := ι2) hr hz (furO C (kilR (rl ι r) p) (some p) m)
      refine ⟨ι3, ?_, by rw [e, g4, er, k1]; rfl, ?_⟩
      · have h2' : ι r 5 = nI p := h2.symm
        have g1' : rz_f Z (d + 4) 51 [.ref l, .ref r, .int (nI p)] (rz_mk h ι1, w) = some (.inl (some (.int (furO C (kilR (rl ι r) p) (some p) m))), (rz_mk h ι2, w)) := g1
        rw [e84, e]
        simp (decide := true) (maxDischargeDepth := 4) only [g84_0, g84_1, g84_2, g84_5, g84_8, g84_9, g84_10, g84_11, g84_12, g84_15, g84_16, g84_17, g84_18, g84_19, g84_20, g84_21, g84_24, g84_25, g84_26, g84_29, g84_32, g84_33, g84_34, g84_35, g84_36, g84_39, g84_42, g84_43, rz_k_inl, rz_k_inr, Option.toList_some, Option.toList_none, List.cons_append, List.nil_append, List.append_nil, rz_up_s, rz_u_s, rz_up_n, rz_u_n, ne_eq, not_false_eq_true, not_true_eq_false, Nat.add_assoc, Nat.reduceAdd, reduceIte, Nat.add_eq_left, Nat.left_eq_add, Nat.add_left_cancel_iff, Nat.reduceEqDiff, Nat.add_right_cancel_iff, rz_nb0, rz_nb1, rz_nbb, rz_nbi, rz_isr, rz_zle, if_true, if_false, rz_bi0, rz_bi1, Bool.not_eq_true, Bool.not_eq_false, Bool.true_eq_false, Bool.false_eq_true, rz_ix_lit, cl_lit, Nat.reduceLT, oRl_c, oRl_f0, oRl_v0, oRl_f1, oRl_v1, oRl_f2, oRl_v2, oRl_i3, oRl_i4, oRl_i5, oRl_i6, oRl_i7, oRl_i8, oRl_a1, oRl_n1, oRl_a2, oRl_n2, oRl_a3, oRl_n3, oLw_c, oLw_f0, oLw_v0, oLw_f1, oLw_v1, oLw_f2, oLw_v2, oLw_i3, oLw_a1, oLw_n1, oLw_a2, oLw_n2, oLw_a3, oLw_n3, hl, hr, hz, la, h1, ← hι1, r5, h2', g1', g3]
        rfl
      · exact (fr.mono f1 (fun a ha => Or.inl ha)).trans ((fr.mono g2 (fun a ha => Or.inr ha)).trans (fr.mono g5 (fun a ha => Or.inl ha)))
    · have e : burR C (rl ι r) m p = some (kilR (rl ι r) p) := by unfold burR; rw [if_pos h1, if_neg h2]
      refine ⟨ι1, ?_, by rw [e, k1]; rfl, fr.mono f1 (fun a ha => Or.inl ha)⟩
      have h2' : ¬ nI p = ι r 5 := h2
      rw [e84, e]
      simp (decide := true) (maxDischargeDepth := 4) only [g84_0, g84_1, g84_2, g84_5, g84_8, g84_9, g84_10, g84_11, g84_12, g84_15, g84_16, g84_17, g84_18, g84_19, g84_20, g84_21, g84_24, g84_25, g84_26, g84_29, g84_32, g84_33, g84_34, g84_35, g84_36, g84_39, g84_42, g84_43, rz_k_inl, rz_k_inr, Option.toList_some, Option.toList_none, List.cons_append, List.nil_append, List.append_nil, rz_up_s, rz_u_s, rz_up_n, rz_u_n, ne_eq, not_false_eq_true, not_true_eq_false, Nat.add_assoc, Nat.reduceAdd, reduceIte, Nat.add_eq_left, Nat.left_eq_add, Nat.add_left_cancel_iff, Nat.reduceEqDiff, Nat.add_right_cancel_iff, rz_nb0, rz_nb1, rz_nbb, rz_nbi, rz_isr, rz_zle, if_true, if_false, rz_bi0, rz_bi1, Bool.not_eq_true, Bool.not_eq_false, Bool.true_eq_false, Bool.false_eq_true, rz_ix_lit, cl_lit, Nat.reduceLT, oRl_c, oRl_f0, oRl_v0, oRl_f1, oRl_v1, oRl_f2, oRl_v2, oRl_i3, oRl_i4, oRl_i5, oRl_i6, oRl_i7, oRl_i8, oRl_a1, oRl_n1, oRl_a2, oRl_n2, oRl_a3, oRl_n3, oLw_c, oLw_f0, oLw_v0, oLw_f1, oLw_v1, oLw_f2, oLw_v2, oLw_i3, oLw_a1, oLw_n1, oLw_a2, oLw_n2, oLw_a3, oLw_n3, hl, hr, hz, la, h1, ← hι1, r5, h2']
      rfl
  · have e : burR C (rl ι r) m p = none := by unfold burR; rw [if_neg h1]
    rw [Bool.not_eq_true] at h1
    refine ⟨ι, ?_, by rw [e]; rfl, fr.refl ι⟩
    rw [e84, e]
    simp (decide := true) (maxDischargeDepth := 4) only [g84_0, g84_1, g84_2, g84_5, g84_8, g84_9, g84_10, g84_11, g84_12, g84_15, g84_16, g84_17, g84_18, g84_19, g84_20, g84_21, g84_24, g84_25, g84_26, g84_29, g84_32, g84_33, g84_34, g84_35, g84_36, g84_39, g84_42, g84_43, rz_k_inl, rz_k_inr, Option.toList_some, Option.toList_none, List.cons_append, List.nil_append, List.append_nil, rz_up_s, rz_u_s, rz_up_n, rz_u_n, ne_eq, not_false_eq_true, not_true_eq_false, Nat.add_assoc, Nat.reduceAdd, reduceIte, Nat.add_eq_left, Nat.left_eq_add, Nat.add_left_cancel_iff, Nat.reduceEqDiff, Nat.add_right_cancel_iff, rz_nb0, rz_nb1, rz_nbb, rz_nbi, rz_isr, rz_zle, if_true, if_false, rz_bi0, rz_bi1, Bool.not_eq_true, Bool.not_eq_false, Bool.true_eq_false, Bool.false_eq_true, rz_ix_lit, cl_lit, Nat.reduceLT, oRl_c, oRl_f0, oRl_v0, oRl_f1, oRl_v1, oRl_f2, oRl_v2, oRl_i3, oRl_i4, oRl_i5, oRl_i6, oRl_i7, oRl_i8, oRl_a1, oRl_n1, oRl_a2, oRl_n2, oRl_a3, oRl_n3, hr, hz, la, h1]
    rfl
theorem rm_buryN (hr : oRl h r) : rz_f Z (d + 2) 84 [.ref r, .int (-1), .ref l] (rz_mk h ι, w) = some (.inl (some (.int 0)), (rz_mk h ι, w)) := by
  rw [e84]
  simp (decide := true) (maxDischargeDepth := 4) only [g84_0, g84_1, g84_2, g84_5, g84_8, g84_9, g84_10, g84_11, g84_12, g84_15, g84_16, g84_17, g84_18, g84_19, g84_20, g84_21, g84_24, g84_25, g84_26, g84_29, g84_32, g84_33, g84_34, g84_35, g84_36, g84_39, g84_42, g84_43, rz_k_inl, rz_k_inr, Option.toList_some, Option.toList_none, List.cons_append, List.nil_append, List.append_nil, rz_up_s, rz_u_s, rz_up_n, rz_u_n, ne_eq, not_false_eq_true, not_true_eq_false, Nat.add_assoc, Nat.reduceAdd, reduceIte, Nat.add_eq_left, Nat.left_eq_add, Nat.add_left_cancel_iff, Nat.reduceEqDiff, Nat.add_right_cancel_iff, rz_nb0, rz_nb1, rz_nbb, rz_nbi, rz_isr, rz_zle, if_true, if_false, rz_bi0, rz_bi1, Bool.not_eq_true, Bool.not_eq_false, Bool.true_eq_false, Bool.false_eq_true, rz_ix_lit, cl_lit, Nat.reduceLT, oRl_c, oRl_f0, oRl_v0, oRl_f1, oRl_v1, oRl_f2, oRl_v2, oRl_i3, oRl_i4, oRl_i5, oRl_i6, oRl_i7, oRl_i8, oRl_a1, oRl_n1, oRl_a2, oRl_n2, oRl_a3, oRl_n3, hr, rm_livesN hr]
theorem rm_become (hr : oRl h r) (hz : Z.2.1 ≤ r) {q : Nat} (hq : oRl h q) (hrq : r + 4 ≤ q ∨ q + 4 ≤ r) : ∃ ι', rz_f Z (d + 1) 66 [.ref r, .ref q] (rz_mk h ι, w) = some (.inl none, (rz_mk h ι', w)) ∧ rl ι' r = rl ι q ∧ fr (rlP r) ι ι' := by
  have n1 : q ≠ r := by omega
  have n2 : q + 1 ≠ r + 1 := by omega
  have n3 : q + 2 ≠ r + 1 := by omega
  have n4 : q + 3 ≠ r + 1 := by omega
  have n5 : q + 2 ≠ r + 2 := by omega
  have n6 : q + 3 ≠ r + 2 := by omega
  have n7 : q + 3 ≠ r + 3 := by omega
  have n8 : q ≠ r + 1 := by omega
  have n9 : q ≠ r + 2 := by omega
  have n10 : q ≠ r + 3 := by omega
  have z24 : (Int32.ofNat 24) = nI 24 := rfl
  have z8 : (Int32.ofNat 8) = nI 8 := rfl
  refine ⟨rz_up (rz_up (rz_up (rz_up (rz_up (rz_up (rz_cp (rz_cp (rz_cp ι (q + 1) (r + 1) 0 0 24) (q + 2) (r + 2) 0 0 24) (q + 3) (r + 3) 0 0 8) r 3 (ι q 3)) r 4 (ι q 4)) r 5 (ι q 5)) r 6 (ι q 6)) r 7 (ι q 7)) r 8 (ι q 8), ?_, ?_, ?_⟩
  · rw [e66]
    simp (decide := true) (maxDischargeDepth := 4) only [g66_0, g66_1, g66_4, g66_5, g66_6, g66_9, g66_10, g66_11, g66_14, g66_15, g66_18, g66_19, g66_22, g66_23, g66_24, g66_27, g66_28, g66_29, g66_32, g66_33, g66_36, g66_37, g66_40, g66_41, g66_42, g66_45, g66_46, g66_47, g66_50, g66_51, g66_54, g66_55, g66_56, g66_59, g66_62, g66_63, g66_64, g66_67, g66_70, g66_71, g66_72, g66_75, g66_78, g66_79, g66_80, g66_83, g66_86, g66_87, g66_88, g66_91, g66_94, g66_95, g66_96, g66_99, g66_102, rz_k_inl, rz_k_inr, Option.toList_some, Option.toList_none, List.cons_append, List.nil_append, List.append_nil, rz_up_s, rz_u_s, rz_up_n, rz_u_n, ne_eq, not_false_eq_true, not_true_eq_false, Nat.add_assoc, Nat.reduceAdd, reduceIte, Nat.add_eq_left, Nat.left_eq_add, Nat.add_left_cancel_iff, Nat.reduceEqDiff, Nat.add_right_cancel_iff, rz_nb0, rz_nb1, rz_nbb, rz_nbi, rz_isr, rz_zle, if_true, if_false, rz_bi0, rz_bi1, Bool.not_eq_true, Bool.not_eq_false, Bool.true_eq_false, Bool.false_eq_true, rz_ix_lit, cl_lit, Nat.reduceLT, oRl_c, oRl_f0, oRl_v0, oRl_f1, oRl_v1, oRl_f2, oRl_v2, oRl_i3, oRl_i4, oRl_i5, oRl_i6, oRl_i7, oRl_i8, oRl_a1, oRl_n1, oRl_a2, oRl_n2, oRl_a3, oRl_n3, hr, hq, hz, z24, z8, nI_nn (show 24 < 2147483648 by omega), nI_nn (show 8 < 2147483648 by omega), nI_cl (show 24 < 2147483648 by omega), nI_cl (show 8 < 2147483648 by omega), rz_cp_n, n1, n2, n3, n4, n5, n6, n7, n8, n9, n10]
  · refine rl_ext ?_ ?_ ?_ ?_ ?_ ?_ ?_ ?_ ?_ (fun i hi => rl_top hi)
    · intro i hi
      rw [rz_up_n (by omega), rz_up_n (by omega), rz_up_n (by omega), rz_up_n (by omega), rz_up_n (by omega), rz_up_n (by omega), rz_cp_n (by omega), rz_cp_n (by omega), rz_cp_s, va_cpy, if_pos (by omega), rl_is hi]
      congr 1; omega
    · intro i hi
      rw [rz_up_n (by omega), rz_up_n (by omega), rz_up_n (by omega), rz_up_n (by omega), rz_up_n (by omega), rz_up_n (by omega), rz_cp_n (by omega), rz_cp_s, va_cpy, if_pos (by omega), rl_sh hi, rz_cp_n n3]
      congr 1; omega
    · intro i hi
      rw [rz_up_n (by omega), rz_up_n (by omega), rz_up_n (by omega), rz_up_n (by omega), rz_up_n (by omega), rz_up_n (by omega), rz_cp_s, va_cpy, if_pos (by omega), rl_ag hi, rz_cp_n n6, rz_cp_n n4]
      congr 1; omega
    all_goals simp only [rz_up_s, rz_u_s, rz_u_n, ne_eq, Nat.reduceEqDiff, not_false_eq_true]; rfl
  · refine (((((((((fr.refl ι).cp ?_).cp ?_).cp ?_).up ?_).up ?_).up ?_).up ?_).up ?_).up ?_ <;> (unfold rlP; omega)
end REALM3
