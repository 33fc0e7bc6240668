/-! FarthestHeir$Guess: feints -/
def trN (k t : Nat) : Nat := if t = 0 then k / 100 else if t = 1 then k / 10 % 10 else k % 10
theorem trN_lt {k t : Nat} (hk : k < 1000) : trN k t < 10 := by unfold trN; split; omega; split <;> omega
def nfS (C : List (Nat × Nat)) (R : Nat → Int32) (dk : Option Nat) (p : Nat) : Nat → Int32
  | 0 => 0
  | q + 1 => if rLv R q = true ∧ q ≠ p ∧ nI q ≠ oN dk then (if nfS C R dk p q < (if q < p then fromD C R dk q + 1 else fromD C R dk q) then (if q < p then fromD C R dk q + 1 else fromD C R dk q) else nfS C R dk p q) else nfS C R dk p q
def chgS (R : Nat → Int32) (p k : Nat) : Int32 := lpI (fun t s => s + apI (nI (trN k t)) (rSh R p t)) 0 3
def ftK (R : Nat → Int32) (p k : Nat) : Int32 := lpI (fun t n => n + (if nI (trN k t) = rIs R p t then 0 else 1)) 0 3
/-- FAR of one, were it to show such numbers -/
def fisS (C : List (Nat × Nat)) (R : Nat → Int32) (x p k : Nat) : Int32 := farK C (apI (nI (trN k 0)) (rSh R x 0)) (apI (nI (trN k 1)) (rSh R x 1)) (apI (nI (trN k 2)) (rSh R x 2)) (ftK R p k) (R (48 + p)) (R 59) (R 61) (nI p)
def lfS (C : List (Nat × Nat)) (R : Nat → Int32) (m x p : Nat) : Nat → Int32 × Int32
  | 0 => (30, -1)
  | k + 1 => if chgS R p k < (lfS C R m x p k).1 ∧ ¬ fisS C R x p k < nfS C R (some x) p m then (chgS R p k, nI k) else lfS C R m x p k
/-- how far each number is from what one shows -/
def gpS (R : Nat → Int32) (x i : Nat) : Int32 := apI (nI (i % 10)) (rSh R x (i / 10))
def gpK (R : Nat → Int32) (x : Nat) (f : Nat → Int32) : Nat → (Nat → Int32)
  | 0 => f
  | i + 1 => rz_u (gpK R x f i) i (gpS R x i)
theorem gpK_at (R : Nat → Int32) (x : Nat) (f : Nat → Int32) : ∀ k i, i < k → gpK R x f k i = gpS R x i
  | 0, i, h => by omega
  | k + 1, i, h => by
    unfold gpK
    by_cases e : i = k
    · subst e; rw [rz_u_s]
    · rw [rz_u_n e]; exact gpK_at R x f k i (by omega)
section CLASS9
variable {Z : rx_Z} {d : Nat} {h : Nat → Option rx_E} {ι : Nat → Nat → Int32} {w : Nat × Nat} {c l r m lv : Nat} {C : List (Nat × Nat)} {R : Nat → Int32} {dk : Option Nat}
theorem gs_traitOf {k t : Nat} (hk : k < 1000) (ht : t < 3) : rz_f Z (d + 1) 29 [.int (nI k), .int (nI t)] (rz_mk h ι, w) = some (.inl (some (.int (nI (trN k t)))), (rz_mk h ι, w)) := by
  have d100 : nI k / 100 = nI (k / 100) := pk_div (d := 100) (by omega) (by decide) (by decide)
  have d10 : nI k / 10 = nI (k / 10) := pk_div (d := 10) (by omega) (by decide) (by decide)
  have m1 : nI (k / 10) - nI (k / 10) / 10 * 10 = nI (k / 10 % 10) := pk_rem (d := 10) (by omega) (by decide) (by decide)
  have m2 : nI k - nI k / 10 * 10 = nI (k % 10) := pk_rem (d := 10) (by omega) (by decide) (by decide)
  rw [e29]
  have : t = 0 ∨ t = 1 ∨ t = 2 := by omega
  rcases this with rfl | rfl | rfl
  · simp (decide := true) (maxDischargeDepth := 4) only [g29_0, g29_1, g29_28, g29_29, g29_31, g29_32, g29_33, g29_34, g29_36, g29_37, g29_39, g29_40, g29_41, g29_42, g29_44, g29_45, rz_k_inl, rz_k_inr, Option.toList_some, Option.toList_none, List.cons_append, List.nil_append, List.append_nil, rz_up_s, rz_u_s, rz_up_n, rz_u_n, ne_eq, not_false_eq_true, not_true_eq_false, Nat.add_assoc, Nat.reduceAdd, reduceIte, Nat.add_eq_left, Nat.left_eq_add, Nat.add_left_cancel_iff, Nat.reduceEqDiff, Nat.add_right_cancel_iff, rz_nb0, rz_nb1, rz_nbb, rz_nbi, rz_isr, rz_zle, if_true, if_false, rz_bi0, rz_bi1, Bool.not_eq_true, Bool.not_eq_false, Bool.true_eq_false, Bool.false_eq_true, rz_ix_lit, cl_lit, Nat.reduceLT, bi_t, bi_f, decide_true, decide_false, Bool.not_false, Bool.not_true, Bool.and_true, Bool.true_and, Bool.and_false, Bool.false_and, show nI 0 = 0 from rfl, d100]
    rfl
  · simp (decide := true) (maxDischargeDepth := 4) only [g29_0, g29_1, g29_28, g29_29, g29_31, g29_32, g29_33, g29_34, g29_36, g29_37, g29_39, g29_40, g29_41, g29_42, g29_44, g29_45, rz_k_inl, rz_k_inr, Option.toList_some, Option.toList_none, List.cons_append, List.nil_append, List.append_nil, rz_up_s, rz_u_s, rz_up_n, rz_u_n, ne_eq, not_false_eq_true, not_true_eq_false, Nat.add_assoc, Nat.reduceAdd, reduceIte, Nat.add_eq_left, Nat.left_eq_add, Nat.add_left_cancel_iff, Nat.reduceEqDiff, Nat.add_right_cancel_iff, rz_nb0, rz_nb1, rz_nbb, rz_nbi, rz_isr, rz_zle, if_true, if_false, rz_bi0, rz_bi1, Bool.not_eq_true, Bool.not_eq_false, Bool.true_eq_false, Bool.false_eq_true, rz_ix_lit, cl_lit, Nat.reduceLT, bi_t, bi_f, decide_true, decide_false, Bool.not_false, Bool.not_true, Bool.and_true, Bool.true_and, Bool.and_false, Bool.false_and, show nI 1 = 1 from rfl]
    rw [d10, m1]
    rfl
  · simp (decide := true) (maxDischargeDepth := 4) only [g29_0, g29_1, g29_28, g29_29, g29_31, g29_32, g29_33, g29_34, g29_36, g29_37, g29_39, g29_40, g29_41, g29_42, g29_44, g29_45, rz_k_inl, rz_k_inr, Option.toList_some, Option.toList_none, List.cons_append, List.nil_append, List.append_nil, rz_up_s, rz_u_s, rz_up_n, rz_u_n, ne_eq, not_false_eq_true, not_true_eq_false, Nat.add_assoc, Nat.reduceAdd, reduceIte, Nat.add_eq_left, Nat.left_eq_add, Nat.add_left_cancel_iff, Nat.reduceEqDiff, Nat.add_right_cancel_iff, rz_nb0, rz_nb1, rz_nbb, rz_nbi, rz_isr, rz_zle, if_true, if_false, rz_bi0, rz_bi1, Bool.not_eq_true, Bool.not_eq_false, Bool.true_eq_false, Bool.false_eq_true, rz_ix_lit, cl_lit, Nat.reduceLT, bi_t, bi_f, decide_true, decide_false, Bool.not_false, Bool.not_true, Bool.and_true, Bool.true_and, Bool.and_false, Bool.false_and, show nI 2 = 2 from rfl]
    rw [m2]
    rfl
theorem gs_mind (q : QC Z h ι c l r C R m dk lv) {x : Nat} (hx : x < 8) : rz_f Z (d + 2) 34 [.ref (c + 23), .ref r, .int (nI x)] (rz_mk h ι, w) = some (.inl none, (rz_mk h (rz_rw ι (c + 25) (gpK R x (ι (c + 25)) 30)), w)) := by
  obtain ⟨q1, ⟨pv, q2⟩, q3, q4, q5, q6, q7, q8, q9, q10, q11, q12, q13, q14⟩ := q
  have L := rz_loopE (fun i => rg Z (d + 1) rx_m34 2 [some (.ref (c + 23)), some (.ref r), some (.int (nI x)), some (.int (nI i))] [] (rz_mk h (rz_rw ι (c + 25) (gpK R x (ι (c + 25)) i)), w)) 30 (by
    intro i hi
    have c2 : (nI i < Int32.ofNat 30) = True := by
      show (nI i < nI 30) = True
      rw [nI_lt2 (by omega) (by omega)]; simp [hi]
    have i1 : rz_ix (nI i) 30 := rz_ix_nat hi (by omega)
    have d10 : nI i / 10 = nI (i / 10) := pk_div (d := 10) (by omega) (by decide) (by decide)
    have m1 : nI i - nI i / 10 * 10 = nI (i % 10) := pk_rem (d := 10) (by omega) (by decide) (by decide)
    have er : rl (rz_rw ι (c + 25) (gpK R x (ι (c + 25)) i)) r = R := (rl_eq (rz_rw_n (by omega)) (rz_rw_n (by omega)) (rz_rw_n (by omega)) (rz_rw_n (by omega))).trans q13
    have sh := rm_shown (Z := Z) (d := d) (w := w) (ι := rz_rw ι (c + 25) (gpK R x (ι (c + 25)) i)) q6 hx (show i / 10 < 3 by omega)
    rw [er, ← d10] at sh
    try dsimp only
    rw [g34_2]
    simp (decide := true) (maxDischargeDepth := 4) only [g34_0, g34_1, g34_3, g34_4, g34_7, g34_8, g34_11, g34_12, g34_15, g34_16, g34_17, g34_19, g34_20, g34_21, g34_22, g34_23, g34_25, g34_26, g34_29, g34_30, g34_33, g34_34, g34_37, g34_40, rz_k_inl, rz_k_inr, Option.toList_some, Option.toList_none, List.cons_append, List.nil_append, List.append_nil, rz_up_s, rz_u_s, rz_up_n, rz_u_n, ne_eq, not_false_eq_true, not_true_eq_false, Nat.add_assoc, Nat.reduceAdd, reduceIte, Nat.add_eq_left, Nat.left_eq_add, Nat.add_left_cancel_iff, Nat.reduceEqDiff, Nat.add_right_cancel_iff, rz_nb0, rz_nb1, rz_nbb, rz_nbi, rz_isr, rz_zle, if_true, if_false, rz_bi0, rz_bi1, Bool.not_eq_true, Bool.not_eq_false, Bool.true_eq_false, Bool.false_eq_true, rz_ix_lit, cl_lit, Nat.reduceLT, bi_t, bi_f, decide_true, decide_false, Bool.not_false, Bool.not_true, Bool.and_true, Bool.true_and, Bool.and_false, Bool.false_and, oGs_c, oGs_f0, oGs_v0, oGs_f1, oGs_v1, oGs_f2, oGs_v2, oGs_i3, oGs_i4, oGs_i5, oGs_a1, oGs_n1, oGs_a2, oGs_n2, oGs_a3, oGs_n3, oRl_c, oRl_f0, oRl_v0, oRl_f1, oRl_v1, oRl_f2, oRl_v2, oRl_i3, oRl_i4, oRl_i5, oRl_i6, oRl_i7, oRl_i8, oRl_a1, oRl_n1, oRl_a2, oRl_n2, oRl_a3, oRl_n3, q1, q6, q9, c2, i1, nI_cl (show i < 2147483648 by omega), sh, rz_rw_up, nI_1]
    rw [m1]
    rfl)
  try dsimp only at L
  rw [show gpK R x (ι (c + 25)) 0 = ι (c + 25) from rfl, rz_rw_id rfl] at L
  rw [e34]
  simp (decide := true) (maxDischargeDepth := 4) only [g34_0, g34_1, g34_3, g34_4, g34_7, g34_8, g34_11, g34_12, g34_15, g34_16, g34_17, g34_19, g34_20, g34_21, g34_22, g34_23, g34_25, g34_26, g34_29, g34_30, g34_33, g34_34, g34_37, g34_40, rz_k_inl, rz_k_inr, Option.toList_some, Option.toList_none, List.cons_append, List.nil_append, List.append_nil, rz_up_s, rz_u_s, rz_up_n, rz_u_n, ne_eq, not_false_eq_true, not_true_eq_false, Nat.add_assoc, Nat.reduceAdd, reduceIte, Nat.add_eq_left, Nat.left_eq_add, Nat.add_left_cancel_iff, Nat.reduceEqDiff, Nat.add_right_cancel_iff, rz_nb0, rz_nb1, rz_nbb, rz_nbi, rz_isr, rz_zle, if_true, if_false, rz_bi0, rz_bi1, Bool.not_eq_true, Bool.not_eq_false, Bool.true_eq_false, Bool.false_eq_true, rz_ix_lit, cl_lit, Nat.reduceLT, bi_t, bi_f, decide_true, decide_false, Bool.not_false, Bool.not_true, Bool.and_true, Bool.true_and, Bool.and_false, Bool.false_and]
  refine L.trans ?_
  rw [g34_2]
  simp (decide := true) (maxDischargeDepth := 4) only [g34_0, g34_1, g34_3, g34_4, g34_7, g34_8, g34_11, g34_12, g34_15, g34_16, g34_17, g34_19, g34_20, g34_21, g34_22, g34_23, g34_25, g34_26, g34_29, g34_30, g34_33, g34_34, g34_37, g34_40, rz_k_inl, rz_k_inr, Option.toList_some, Option.toList_none, List.cons_append, List.nil_append, List.append_nil, rz_up_s, rz_u_s, rz_up_n, rz_u_n, ne_eq, not_false_eq_true, not_true_eq_false, Nat.add_assoc, Nat.reduceAdd, reduceIte, Nat.add_eq_left, Nat.left_eq_add, Nat.add_left_cancel_iff, Nat.reduceEqDiff, Nat.add_right_cancel_iff, rz_nb0, rz_nb1, rz_nbb, rz_nbi, rz_isr, rz_zle, if_true, if_false, rz_bi0, rz_bi1, Bool.not_eq_true, Bool.not_eq_false, Bool.true_eq_false, Bool.false_eq_true, rz_ix_lit, cl_lit, Nat.reduceLT, bi_t, bi_f, decide_true, decide_false, Bool.not_false, Bool.not_true, Bool.and_true, Bool.true_and, Bool.and_false, Bool.false_and, oGs_c, oGs_f0, oGs_v0, oGs_f1, oGs_v1, oGs_f2, oGs_v2, oGs_i3, oGs_i4, oGs_i5, oGs_a1, oGs_n1, oGs_a2, oGs_n2, oGs_a3, oGs_n3, q9, show (nI 30 < Int32.ofNat 30) = False by decide]
theorem gs_ffk (q : QC Z h ι c l r C R m dk lv) {gp kn : Nat → Int32} (hg : ∀ i, i < 30 → ι (c + 25) i = gp i) (hk : ∀ j, 3 ≤ j → j < 8 → ι (l + 3) j = kn j) {k : Nat} (hk3 : k < 1000) : ∃ ι', rz_f Z (d + 3) 35 [.ref (c + 23), .ref l, .int (nI k)] (rz_mk h ι, w) = some (.inl (some (.int (farK C (gp (k / 100)) (gp (10 + k / 10 % 10)) (gp (20 + k % 10)) (kn 3) (kn 4) (kn 5) (kn 6) (kn 7)))), (rz_mk h ι', w)) ∧ fr (lwS l) ι ι' ∧ ∀ j, 3 ≤ j → j < 8 → ι' (l + 3) j = kn j := by
  obtain ⟨q1, ⟨pv, q2⟩, q3, q4, q5, q6, q7, q8, q9, q10, q11, q12, q13, q14⟩ := q
  have d100 : nI k / 100 = nI (k / 100) := pk_div (d := 100) (by omega) (by decide) (by decide)
  have d10 : nI k / 10 = nI (k / 10) := pk_div (d := 10) (by omega) (by decide) (by decide)
  have m1 : nI (k / 10) - nI (k / 10) / 10 * 10 = nI (k / 10 % 10) := pk_rem (d := 10) (by omega) (by decide) (by decide)
  have m2 : nI k - nI (k / 10) * 10 = nI (k % 10) := by
    have := pk_rem (a := k) (d := 10) (by omega) (by decide) (by decide)
    rw [show nI 10 = 10 from rfl, d10] at this; exact this
  have c1 := nI_nn (show k < 2147483648 by omega)
  have c2 : (nI k < 1000) = True := by rw [nI_ltL (by omega) (by decide)]; simp [hk3]
  have i1 : rz_ix (nI (k / 100)) 30 := rz_ix_nat (by omega) (by omega)
  have i2 : rz_ix (nI (10 + k / 10 % 10)) 30 := rz_ix_nat (by omega) (by omega)
  have i3 : rz_ix (nI (20 + k % 10)) 30 := rz_ix_nat (by omega) (by omega)
  obtain ⟨s, hs⟩ := lw_measured (Z := Z) (d := d) (w := w) (ι := ι) q5 (by omega) q12 (gp (k / 100)) (gp (10 + k / 10 % 10)) (gp (20 + k % 10))
  have ev : lawV (sn3 (ι (l + 3)) (gp (k / 100)) (gp (10 + k / 10 % 10)) (gp (20 + k % 10))) C = lawV (kn8 (gp (k / 100)) (gp (10 + k / 10 % 10)) (gp (20 + k % 10)) (kn 3) (kn 4) (kn 5) (kn 6) (kn 7)) C := lawV_eq (fun j hj => by
    have : j = 0 ∨ j = 1 ∨ j = 2 ∨ j = 3 ∨ j = 4 ∨ j = 5 ∨ j = 6 ∨ j = 7 := by omega
    rcases this with rfl | rfl | rfl | rfl | rfl | rfl | rfl | rfl <;> simp [sn3, rz_u, kn8, hk]) q12.2.2 _
  rw [ev] at hs
  refine ⟨rz_rw (rz_rw ι (l + 3) (sn3 (ι (l + 3)) (gp (k / 100)) (gp (10 + k / 10 % 10)) (gp (20 + k % 10)))) (l + 2) s, ?_, ?_, ?_⟩
  · rw [e35]
    simp (decide := true) (maxDischargeDepth := 4) only [g35_0, g35_1, g35_4, g35_5, g35_8, g35_11, g35_12, g35_13, g35_14, g35_15, g35_18, g35_19, g35_21, g35_22, g35_23, g35_24, g35_27, g35_29, g35_30, g35_32, g35_33, g35_35, g35_36, g35_37, g35_38, g35_39, g35_42, g35_44, g35_45, g35_47, g35_48, g35_49, g35_50, g35_53, rz_k_inl, rz_k_inr, Option.toList_some, Option.toList_none, List.cons_append, List.nil_append, List.append_nil, rz_up_s, rz_u_s, rz_up_n, rz_u_n, ne_eq, not_false_eq_true, not_true_eq_false, Nat.add_assoc, Nat.reduceAdd, reduceIte, Nat.add_eq_left, Nat.left_eq_add, Nat.add_left_cancel_iff, Nat.reduceEqDiff, Nat.add_right_cancel_iff, rz_nb0, rz_nb1, rz_nbb, rz_nbi, rz_isr, rz_zle, if_true, if_false, rz_bi0, rz_bi1, Bool.not_eq_true, Bool.not_eq_false, Bool.true_eq_false, Bool.false_eq_true, rz_ix_lit, cl_lit, Nat.reduceLT, bi_t, bi_f, decide_true, decide_false, Bool.not_false, Bool.not_true, Bool.and_true, Bool.true_and, Bool.and_false, Bool.false_and, oGs_c, oGs_f0, oGs_v0, oGs_f1, oGs_v1, oGs_f2, oGs_v2, oGs_i3, oGs_i4, oGs_i5, oGs_a1, oGs_n1, oGs_a2, oGs_n2, oGs_a3, oGs_n3, oLw_c, oLw_f0, oLw_v0, oLw_f1, oLw_v1, oLw_f2, oLw_v2, oLw_i3, oLw_a1, oLw_n1, oLw_a2, oLw_n2, oLw_a3, oLw_n3, q5, q9, c1, c2, d100, d10, m1, m2, nI_La, i1, i2, i3, nI_cl (show k / 100 < 2147483648 by omega), nI_cl (show 10 + k / 10 % 10 < 2147483648 by omega), nI_cl (show 20 + k % 10 < 2147483648 by omega), hg (k / 100) (by omega), hg (10 + k / 10 % 10) (by omega), hg (20 + k % 10) (by omega), hs]
    simp only [farK]
  · intro a ha
    rw [rz_rw_n (fun e => ha (Or.inl e)), rz_rw_n (fun e => ha (Or.inr e))]
  · intro j h3 h8
    rw [rz_rw_n (by omega), rz_rw_s]
    unfold sn3
    rw [rz_u_n (by omega), rz_u_n (by omega), rz_u_n (by omega)]
    exact hk j h3 h8
theorem gs_needed (q : QC Z h ι c l r C R m dk lv) {p : Nat} (hp : p < m) : ∃ ι', rz_f Z (d + 5) 31 [.ref (c + 23), .ref r, .ref l, .int (nI p)] (rz_mk h ι, w) = some (.inl (some (.int (nfS C R dk p m))), (rz_mk h ι', w)) ∧ fr (lwS l) ι ι' := by
  have hsc : ∀ ι1, fr (lwS l) ι ι1 → fr (scC c) ι ι1 := fun ι1 hf => frLaw q.2.2.1 hf
  have L := rz_loop (fun x (a : (Nat → Nat → Int32) × Option Value) => rg Z (d + 4) rx_m31 6 [some (.ref (c + 23)), some (.ref r), some (.ref l), some (.int (nI p)), some (.int (nfS C R dk p x)), some (.int (nI x)), a.2] [] (rz_mk h a.1, w)) m (fun _ a => fr (lwS l) ι a.1) (by
    rintro x ⟨ι1, l6⟩ hx hf
    have hf : fr (lwS l) ι ι1 := hf
    obtain ⟨q1, ⟨pv, q2⟩, q3, q4, q5, q6, q7, q8, q9, q10, q11, q12, q13, q14⟩ := q.fr (hsc ι1 hf)
    have hm8 := q14.2.1
    have hm : ι1 r 3 = nI m := by
      have : rl ι1 r 57 = nI m := by rw [q13]; exact q14.1
      exact this
    have hd5 : ι1 r 5 = oN dk := by
      have : rl ι1 r 58 = oN dk := by rw [q13]; exact q14.2.2.1
      exact this
    have c1 : (nI x < nI m) = True := by rw [nI_lt2 (by omega) (by omega)]; simp [hx]
    have lvs := rm_lives (Z := Z) (d := d + 3) (w := w) (ι := ι1) q6 (show x < 8 by omega)
    rw [q13] at lvs
    by_cases hlv : rLv R x = true
    · by_cases hxp : x = p
      · refine ⟨(ι1, l6), hf, ?_⟩
        have cq : (nI x = nI p) = True := by rw [hxp]; simp
        try dsimp only
        rw [g31_6]
        simp (decide := true) (maxDischargeDepth := 4) only [g31_0, g31_1, g31_3, g31_4, g31_8, g31_9, g31_12, g31_15, g31_16, g31_18, g31_21, g31_24, g31_26, g31_27, g31_30, g31_32, g31_33, g31_36, g31_39, g31_40, g31_41, g31_43, g31_46, g31_48, g31_50, g31_52, g31_53, g31_56, g31_58, g31_59, g31_60, g31_63, g31_65, g31_68, g31_70, g31_73, g31_76, g31_78, rz_k_inl, rz_k_inr, Option.toList_some, Option.toList_none, List.cons_append, List.nil_append, List.append_nil, rz_up_s, rz_u_s, rz_up_n, rz_u_n, ne_eq, not_false_eq_true, not_true_eq_false, Nat.add_assoc, Nat.reduceAdd, reduceIte, Nat.add_eq_left, Nat.left_eq_add, Nat.add_left_cancel_iff, Nat.reduceEqDiff, Nat.add_right_cancel_iff, rz_nb0, rz_nb1, rz_nbb, rz_nbi, rz_isr, rz_zle, if_true, if_false, rz_bi0, rz_bi1, Bool.not_eq_true, Bool.not_eq_false, Bool.true_eq_false, Bool.false_eq_true, rz_ix_lit, cl_lit, Nat.reduceLT, bi_t, bi_f, decide_true, decide_false, Bool.not_false, Bool.not_true, Bool.and_true, Bool.true_and, Bool.and_false, Bool.false_and, oRl_c, oRl_f0, oRl_v0, oRl_f1, oRl_v1, oRl_f2, oRl_v2, oRl_i3, oRl_i4, oRl_i5, oRl_i6, oRl_i7, oRl_i8, oRl_a1, oRl_n1, oRl_a2, oRl_n2, oRl_a3, oRl_n3, q6, hm, hd5, c1, lvs, hlv, cq, nI_1]
        rw [nfS, if_neg (fun z => z.2.1 hxp)]
      · have cq : (nI x = nI p) = False := by rw [nI_eq2 (by omega) (by omega)]; simp [hxp]
        by_cases hpd : nI x = oN dk
        · refine ⟨(ι1, l6), hf, ?_⟩
          have cd : (nI x = oN dk) = True := by simp [hpd]
          try dsimp only
          rw [g31_6]
          simp (decide := true) (maxDischargeDepth := 4) only [g31_0, g31_1, g31_3, g31_4, g31_8, g31_9, g31_12, g31_15, g31_16, g31_18, g31_21, g31_24, g31_26, g31_27, g31_30, g31_32, g31_33, g31_36, g31_39, g31_40, g31_41, g31_43, g31_46, g31_48, g31_50, g31_52, g31_53, g31_56, g31_58, g31_59, g31_60, g31_63, g31_65, g31_68, g31_70, g31_73, g31_76, g31_78, rz_k_inl, rz_k_inr, Option.toList_some, Option.toList_none, List.cons_append, List.nil_append, List.append_nil, rz_up_s, rz_u_s, rz_up_n, rz_u_n, ne_eq, not_false_eq_true, not_true_eq_false, Nat.add_assoc, Nat.reduceAdd, reduceIte, Nat.add_eq_left, Nat.left_eq_add, Nat.add_left_cancel_iff, Nat.reduceEqDiff, Nat.add_right_cancel_iff, rz_nb0, rz_nb1, rz_nbb, rz_nbi, rz_isr, rz_zle, if_true, if_false, rz_bi0, rz_bi1, Bool.not_eq_true, Bool.not_eq_false, Bool.true_eq_false, Bool.false_eq_true, rz_ix_lit, cl_lit, Nat.reduceLT, bi_t, bi_f, decide_true, decide_false, Bool.not_false, Bool.not_true, Bool.and_true, Bool.true_and, Bool.and_false, Bool.false_and, oRl_c, oRl_f0, oRl_v0, oRl_f1, oRl_v1, oRl_f2, oRl_v2, oRl_i3, oRl_i4, oRl_i5, oRl_i6, oRl_i7, oRl_i8, oRl_a1, oRl_n1, oRl_a2, oRl_n2, oRl_a3, oRl_n3, q6, hm, hd5, c1, lvs, hlv, cq, cd, nI_1]
          rw [nfS, if_neg (fun z => z.2.2 hpd)]
        · obtain ⟨ι2, h1, h2⟩ := lw_fromDuke (Z := Z) (d := d) (w := w) q5 (by omega) q6 (by omega) q12 (by rw [q13]; exact q14.2.2.1) q14.d8 (show x < 8 by omega)
          rw [q13] at h1
          have cl : (nI x < nI p) = (x < p) := nI_lt2 (by omega) (by omega)
          refine ⟨(ι2, some (.int (fromD C R dk x))), hf.trans h2, ?_⟩
          try dsimp only
          rw [g31_6]
          try simp (decide := true) (maxDischargeDepth := 4) only [g31_0, g31_1, g31_3, g31_4, g31_8, g31_9, g31_12, g31_15, g31_16, g31_18, g31_21, g31_24, g31_26, g31_27, g31_30, g31_32, g31_33, g31_36, g31_39, g31_40, g31_41, g31_43, g31_46, g31_48, g31_50, g31_52, g31_53, g31_56, g31_58, g31_59, g31_60, g31_63, g31_68, g31_70, g31_73, g31_76, g31_78, rz_join, rz_k_inl, rz_k_inr, Option.toList_some, Option.toList_none, List.cons_append, List.nil_append, List.append_nil, rz_up_s, rz_u_s, rz_up_n, rz_u_n, ne_eq, not_false_eq_true, not_true_eq_false, Nat.add_assoc, Nat.reduceAdd, reduceIte, Nat.add_eq_left, Nat.left_eq_add, Nat.add_left_cancel_iff, Nat.reduceEqDiff, Nat.add_right_cancel_iff, rz_nb0, rz_nb1, rz_nbb, rz_nbi, rz_isr, rz_zle, if_true, if_false, rz_bi0, rz_bi1, Bool.not_eq_true, Bool.not_eq_false, Bool.true_eq_false, Bool.false_eq_true, rz_ix_lit, cl_lit, Nat.reduceLT, bi_t, bi_f, decide_true, decide_false, Bool.not_false, Bool.not_true, Bool.and_true, Bool.true_and, Bool.and_false, Bool.false_and, oRl_c, oRl_f0, oRl_v0, oRl_f1, oRl_v1, oRl_f2, oRl_v2, oRl_i3, oRl_i4, oRl_i5, oRl_i6, oRl_i7, oRl_i8, oRl_a1, oRl_n1, oRl_a2, oRl_n2, oRl_a3, oRl_n3, oLw_c, oLw_f0, oLw_v0, oLw_f1, oLw_v1, oLw_f2, oLw_v2, oLw_i3, oLw_a1, oLw_n1, oLw_a2, oLw_n2, oLw_a3, oLw_n3, q5, q6, hm, hd5, c1, lvs, hlv, cq, hpd, h1, cl, nI_1]
          try simp (decide := true) (maxDischargeDepth := 4) only [g31_0, g31_1, g31_3, g31_4, g31_8, g31_9, g31_12, g31_15, g31_16, g31_18, g31_21, g31_24, g31_26, g31_27, g31_30, g31_32, g31_33, g31_36, g31_39, g31_40, g31_41, g31_43, g31_46, g31_48, g31_50, g31_52, g31_53, g31_56, g31_58, g31_59, g31_60, g31_63, g31_65, g31_68, g31_70, g31_73, g31_76, g31_78, rz_join, rz_k_inl, rz_k_inr, Option.toList_some, Option.toList_none, List.cons_append, List.nil_append, List.append_nil, rz_up_s, rz_u_s, rz_up_n, rz_u_n, ne_eq, not_false_eq_true, not_true_eq_false, Nat.add_assoc, Nat.reduceAdd, reduceIte, Nat.add_eq_left, Nat.left_eq_add, Nat.add_left_cancel_iff, Nat.reduceEqDiff, Nat.add_right_cancel_iff, rz_nb0, rz_nb1, rz_nbb, rz_nbi, rz_isr, rz_zle, if_true, if_false, rz_bi0, rz_bi1, Bool.not_eq_true, Bool.not_eq_false, Bool.true_eq_false, Bool.false_eq_true, rz_ix_lit, cl_lit, Nat.reduceLT, bi_t, bi_f, decide_true, decide_false, Bool.not_false, Bool.not_true, Bool.and_true, Bool.true_and, Bool.and_false, Bool.false_and, oRl_c, oRl_f0, oRl_v0, oRl_f1, oRl_v1, oRl_f2, oRl_v2, oRl_i3, oRl_i4, oRl_i5, oRl_i6, oRl_i7, oRl_i8, oRl_a1, oRl_n1, oRl_a2, oRl_n2, oRl_a3, oRl_n3, oLw_c, oLw_f0, oLw_v0, oLw_f1, oLw_v1, oLw_f2, oLw_v2, oLw_i3, oLw_a1, oLw_n1, oLw_a2, oLw_n2, oLw_a3, oLw_n3, q5, q6, hm, hd5, c1, lvs, hlv, cq, hpd, h1, cl, nI_1]
          rw [nfS, if_pos (show rLv R x = true ∧ x ≠ p ∧ nI x ≠ oN dk from ⟨hlv, hxp, hpd⟩)]
    · rw [Bool.not_eq_true] at hlv
      refine ⟨(ι1, l6), hf, ?_⟩
      try dsimp only
      rw [g31_6]
      simp (decide := true) (maxDischargeDepth := 4) only [g31_0, g31_1, g31_3, g31_4, g31_8, g31_9, g31_12, g31_15, g31_16, g31_18, g31_21, g31_24, g31_26, g31_27, g31_30, g31_32, g31_33, g31_36, g31_39, g31_40, g31_41, g31_43, g31_46, g31_48, g31_50, g31_52, g31_53, g31_56, g31_58, g31_59, g31_60, g31_63, g31_65, g31_68, g31_70, g31_73, g31_76, g31_78, rz_k_inl, rz_k_inr, Option.toList_some, Option.toList_none, List.cons_append, List.nil_append, List.append_nil, rz_up_s, rz_u_s, rz_up_n, rz_u_n, ne_eq, not_false_eq_true, not_true_eq_false, Nat.add_assoc, Nat.reduceAdd, reduceIte, Nat.add_eq_left, Nat.left_eq_add, Nat.add_left_cancel_iff, Nat.reduceEqDiff, Nat.add_right_cancel_iff, rz_nb0, rz_nb1, rz_nbb, rz_nbi, rz_isr, rz_zle, if_true, if_false, rz_bi0, rz_bi1, Bool.not_eq_true, Bool.not_eq_false, Bool.true_eq_false, Bool.false_eq_true, rz_ix_lit, cl_lit, Nat.reduceLT, bi_t, bi_f, decide_true, decide_false, Bool.not_false, Bool.not_true, Bool.and_true, Bool.true_and, Bool.and_false, Bool.false_and, oRl_c, oRl_f0, oRl_v0, oRl_f1, oRl_v1, oRl_f2, oRl_v2, oRl_i3, oRl_i4, oRl_i5, oRl_i6, oRl_i7, oRl_i8, oRl_a1, oRl_n1, oRl_a2, oRl_n2, oRl_a3, oRl_n3, q6, hm, c1, lvs, hlv, nI_1]
      rw [nfS, if_neg (fun z => by rw [hlv] at z; exact absurd z.1 (by decide))]) m 0 (ι, none) (by omega) (fr.refl ι)
  obtain ⟨⟨ι1, l6⟩, hf, L⟩ := L
  have hf : fr (lwS l) ι ι1 := hf
  try dsimp only at L
  obtain ⟨q1, ⟨pv, q2⟩, q3, q4, q5, q6, q7, q8, q9, q10, q11, q12, q13, q14⟩ := q.fr (hsc ι1 hf)
  have hm8 := q14.2.1
  have hm : ι1 r 3 = nI m := by
    have : rl ι1 r 57 = nI m := by rw [q13]; exact q14.1
    exact this
  have cm : (nI m < nI m) = False := by rw [nI_lt2 (by omega) (by omega)]; simp
  refine ⟨ι1, ?_, hf⟩
  rw [e31]
  simp (decide := true) (maxDischargeDepth := 4) only [g31_0, g31_1, g31_3, g31_4, g31_8, g31_9, g31_12, g31_15, g31_16, g31_18, g31_21, g31_24, g31_26, g31_27, g31_30, g31_32, g31_33, g31_36, g31_39, g31_40, g31_41, g31_43, g31_46, g31_48, g31_50, g31_52, g31_53, g31_56, g31_58, g31_59, g31_60, g31_63, g31_65, g31_68, g31_70, g31_73, g31_76, g31_78, rz_k_inl, rz_k_inr, Option.toList_some, Option.toList_none, List.cons_append, List.nil_append, List.append_nil, rz_up_s, rz_u_s, rz_up_n, rz_u_n, ne_eq, not_false_eq_true, not_true_eq_false, Nat.add_assoc, Nat.reduceAdd, reduceIte, Nat.add_eq_left, Nat.left_eq_add, Nat.add_left_cancel_iff, Nat.reduceEqDiff, Nat.add_right_cancel_iff, rz_nb0, rz_nb1, rz_nbb, rz_nbi, rz_isr, rz_zle, if_true, if_false, rz_bi0, rz_bi1, Bool.not_eq_true, Bool.not_eq_false, Bool.true_eq_false, Bool.false_eq_true, rz_ix_lit, cl_lit, Nat.reduceLT, bi_t, bi_f, decide_true, decide_false, Bool.not_false, Bool.not_true, Bool.and_true, Bool.true_and, Bool.and_false, Bool.false_and]
  refine L.trans ?_
  rw [g31_6]
  simp (decide := true) (maxDischargeDepth := 4) only [g31_0, g31_1, g31_3, g31_4, g31_8, g31_9, g31_12, g31_15, g31_16, g31_18, g31_21, g31_24, g31_26, g31_27, g31_30, g31_32, g31_33, g31_36, g31_39, g31_40, g31_41, g31_43, g31_46, g31_48, g31_50, g31_52, g31_53, g31_56, g31_58, g31_59, g31_60, g31_63, g31_65, g31_68, g31_70, g31_73, g31_76, g31_78, rz_k_inl, rz_k_inr, Option.toList_some, Option.toList_none, List.cons_append, List.nil_append, List.append_nil, rz_up_s, rz_u_s, rz_up_n, rz_u_n, ne_eq, not_false_eq_true, not_true_eq_false, Nat.add_assoc, Nat.reduceAdd, reduceIte, Nat.add_eq_left, Nat.left_eq_add, Nat.add_left_cancel_iff, Nat.reduceEqDiff, Nat.add_right_cancel_iff, rz_nb0, rz_nb1, rz_nbb, rz_nbi, rz_isr, rz_zle, if_true, if_false, rz_bi0, rz_bi1, Bool.not_eq_true, Bool.not_eq_false, Bool.true_eq_false, Bool.false_eq_true, rz_ix_lit, cl_lit, Nat.reduceLT, bi_t, bi_f, decide_true, decide_false, Bool.not_false, Bool.not_true, Bool.and_true, Bool.true_and, Bool.and_false, Bool.false_and, oRl_c, oRl_f0, oRl_v0, oRl_f1, oRl_v1, oRl_f2, oRl_v2, oRl_i3, oRl_i4, oRl_i5, oRl_i6, oRl_i7, oRl_i8, oRl_a1, oRl_n1, oRl_a2, oRl_n2, oRl_a3, oRl_n3, q6, hm, cm]
theorem gs_changed (q : QC Z h ι c l r C R m dk lv) {p k : Nat} (hp : p < 8) (hk : k < 1000) : rz_f Z (d + 2) 32 [.ref (c + 23), .ref r, .int (nI p), .int (nI k)] (rz_mk h ι, w) = some (.inl (some (.int (chgS R p k))), (rz_mk h ι, w)) := by
  obtain ⟨q1, ⟨pv, q2⟩, q3, q4, q5, q6, q7, q8, q9, q10, q11, q12, q13, q14⟩ := q
  have L := rz_loopE (fun t => rg Z (d + 1) rx_m32 6 [some (.ref (c + 23)), some (.ref r), some (.int (nI p)), some (.int (nI k)), some (.int (lpI (fun t s => s + apI (nI (trN k t)) (rSh R p t)) 0 t)), some (.int (nI t))] [] (rz_mk h ι, w)) 3 (by
    intro t ht
    have c1 : (nI t < 3) = True := by rw [nI_ltL (by omega) (by decide)]; simp [ht]
    have sh := rm_shown (Z := Z) (d := d) (w := w) (ι := ι) q6 hp ht
    rw [q13] at sh
    try dsimp only
    rw [g32_6]
    simp (decide := true) (maxDischargeDepth := 4) only [g32_0, g32_1, g32_3, g32_4, g32_8, g32_9, g32_12, g32_14, g32_15, g32_17, g32_20, g32_21, g32_22, g32_24, g32_27, g32_28, g32_31, g32_32, g32_34, g32_37, g32_40, g32_42, rz_k_inl, rz_k_inr, Option.toList_some, Option.toList_none, List.cons_append, List.nil_append, List.append_nil, rz_up_s, rz_u_s, rz_up_n, rz_u_n, ne_eq, not_false_eq_true, not_true_eq_false, Nat.add_assoc, Nat.reduceAdd, reduceIte, Nat.add_eq_left, Nat.left_eq_add, Nat.add_left_cancel_iff, Nat.reduceEqDiff, Nat.add_right_cancel_iff, rz_nb0, rz_nb1, rz_nbb, rz_nbi, rz_isr, rz_zle, if_true, if_false, rz_bi0, rz_bi1, Bool.not_eq_true, Bool.not_eq_false, Bool.true_eq_false, Bool.false_eq_true, rz_ix_lit, cl_lit, Nat.reduceLT, bi_t, bi_f, decide_true, decide_false, Bool.not_false, Bool.not_true, Bool.and_true, Bool.true_and, Bool.and_false, Bool.false_and, oRl_c, oRl_f0, oRl_v0, oRl_f1, oRl_v1, oRl_f2, oRl_v2, oRl_i3, oRl_i4, oRl_i5, oRl_i6, oRl_i7, oRl_i8, oRl_a1, oRl_n1, oRl_a2, oRl_n2, oRl_a3, oRl_n3, q6, c1, gs_traitOf hk ht, sh, nI_1]
    rfl)
  try dsimp only at L
  rw [e32]
  simp (decide := true) (maxDischargeDepth := 4) only [g32_0, g32_1, g32_3, g32_4, g32_8, g32_9, g32_12, g32_14, g32_15, g32_17, g32_20, g32_21, g32_22, g32_24, g32_27, g32_28, g32_31, g32_32, g32_34, g32_37, g32_40, g32_42, rz_k_inl, rz_k_inr, Option.toList_some, Option.toList_none, List.cons_append, List.nil_append, List.append_nil, rz_up_s, rz_u_s, rz_up_n, rz_u_n, ne_eq, not_false_eq_true, not_true_eq_false, Nat.add_assoc, Nat.reduceAdd, reduceIte, Nat.add_eq_left, Nat.left_eq_add, Nat.add_left_cancel_iff, Nat.reduceEqDiff, Nat.add_right_cancel_iff, rz_nb0, rz_nb1, rz_nbb, rz_nbi, rz_isr, rz_zle, if_true, if_false, rz_bi0, rz_bi1, Bool.not_eq_true, Bool.not_eq_false, Bool.true_eq_false, Bool.false_eq_true, rz_ix_lit, cl_lit, Nat.reduceLT, bi_t, bi_f, decide_true, decide_false, Bool.not_false, Bool.not_true, Bool.and_true, Bool.true_and, Bool.and_false, Bool.false_and]
  refine L.trans ?_
  rw [g32_6]
  simp (decide := true) (maxDischargeDepth := 4) only [g32_0, g32_1, g32_3, g32_4, g32_8, g32_9, g32_12, g32_14, g32_15, g32_17, g32_20, g32_21, g32_22, g32_24, g32_27, g32_28, g32_31, g32_32, g32_34, g32_37, g32_40, g32_42, rz_k_inl, rz_k_inr, Option.toList_some, Option.toList_none, List.cons_append, List.nil_append, List.append_nil, rz_up_s, rz_u_s, rz_up_n, rz_u_n, ne_eq, not_false_eq_true, not_true_eq_false, Nat.add_assoc, Nat.reduceAdd, reduceIte, Nat.add_eq_left, Nat.left_eq_add, Nat.add_left_cancel_iff, Nat.reduceEqDiff, Nat.add_right_cancel_iff, rz_nb0, rz_nb1, rz_nbb, rz_nbi, rz_isr, rz_zle, if_true, if_false, rz_bi0, rz_bi1, Bool.not_eq_true, Bool.not_eq_false, Bool.true_eq_false, Bool.false_eq_true, rz_ix_lit, cl_lit, Nat.reduceLT, bi_t, bi_f, decide_true, decide_false, Bool.not_false, Bool.not_true, Bool.and_true, Bool.true_and, Bool.and_false, Bool.false_and, show (nI 3 < 3) = False by decide]
  rfl
theorem gs_fis (q : QC Z h ι c l r C R m dk lv) {x p k : Nat} (hx : x < 8) (hp : p < 8) (hk : k < 1000) (hg : ∀ i, i < 30 → ι (c + 25) i = gpS R x i) : ∃ ι', rz_f Z (d + 4) 33 [.ref (c + 23), .ref r, .ref l, .int (nI p), .int (nI k)] (rz_mk h ι, w) = some (.inl (some (.int (fisS C R x p k))), (rz_mk h ι', w)) ∧ fr (lwS l) ι ι' := by
  have qq := q
  obtain ⟨q1, ⟨pv, q2⟩, q3, q4, q5, q6, q7, q8, q9, q10, q11, q12, q13, q14⟩ := q
  have L := rz_loopE (fun t => rg Z (d + 3) rx_m33 6 [some (.ref (c + 23)), some (.ref r), some (.ref l), some (.int (nI p)), some (.int (nI k)), some (.int (lpI (fun t n => n + (if nI (trN k t) = rIs R p t then 0 else 1)) 0 t)), some (.int (nI t))] [] (rz_mk h ι, w)) 3 (by
    intro t ht
    have c1 : (nI t < 3) = True := by rw [nI_ltL (by omega) (by decide)]; simp [ht]
    have ow := rm_own (Z := Z) (d := d + 2) (w := w) (ι := ι) q6 hp ht
    rw [q13] at ow
    try dsimp only
    rw [g33_6]
    try simp (decide := true) (maxDischargeDepth := 4) only [g33_0, g33_1, g33_3, g33_4, g33_8, g33_9, g33_12, g33_14, g33_16, g33_18, g33_21, g33_22, g33_23, g33_25, g33_28, g33_31, g33_32, g33_35, g33_37, g33_39, g33_42, g33_45, g33_46, g33_48, g33_49, g33_50, g33_53, g33_54, g33_57, g33_58, g33_61, g33_62, g33_65, g33_66, g33_67, g33_69, g33_72, rz_join, rz_k_inl, rz_k_inr, Option.toList_some, Option.toList_none, List.cons_append, List.nil_append, List.append_nil, rz_up_s, rz_u_s, rz_up_n, rz_u_n, ne_eq, not_false_eq_true, not_true_eq_false, Nat.add_assoc, Nat.reduceAdd, reduceIte, Nat.add_eq_left, Nat.left_eq_add, Nat.add_left_cancel_iff, Nat.reduceEqDiff, Nat.add_right_cancel_iff, rz_nb0, rz_nb1, rz_nbb, rz_nbi, rz_isr, rz_zle, if_true, if_false, rz_bi0, rz_bi1, Bool.not_eq_true, Bool.not_eq_false, Bool.true_eq_false, Bool.false_eq_true, rz_ix_lit, cl_lit, Nat.reduceLT, bi_t, bi_f, decide_true, decide_false, Bool.not_false, Bool.not_true, Bool.and_true, Bool.true_and, Bool.and_false, Bool.false_and, oRl_c, oRl_f0, oRl_v0, oRl_f1, oRl_v1, oRl_f2, oRl_v2, oRl_i3, oRl_i4, oRl_i5, oRl_i6, oRl_i7, oRl_i8, oRl_a1, oRl_n1, oRl_a2, oRl_n2, oRl_a3, oRl_n3, q6, c1, gs_traitOf hk ht, ow, nI_1]
    try simp (decide := true) (maxDischargeDepth := 4) only [g33_0, g33_1, g33_3, g33_4, g33_8, g33_9, g33_12, g33_14, g33_16, g33_18, g33_21, g33_22, g33_23, g33_25, g33_28, g33_31, g33_32, g33_35, g33_36, g33_37, g33_39, g33_42, g33_45, g33_46, g33_48, g33_49, g33_50, g33_53, g33_54, g33_57, g33_58, g33_61, g33_62, g33_65, g33_66, g33_67, g33_69, g33_72, rz_join, rz_k_inl, rz_k_inr, Option.toList_some, Option.toList_none, List.cons_append, List.nil_append, List.append_nil, rz_up_s, rz_u_s, rz_up_n, rz_u_n, ne_eq, not_false_eq_true, not_true_eq_false, Nat.add_assoc, Nat.reduceAdd, reduceIte, Nat.add_eq_left, Nat.left_eq_add, Nat.add_left_cancel_iff, Nat.reduceEqDiff, Nat.add_right_cancel_iff, rz_nb0, rz_nb1, rz_nbb, rz_nbi, rz_isr, rz_zle, if_true, if_false, rz_bi0, rz_bi1, Bool.not_eq_true, Bool.not_eq_false, Bool.true_eq_false, Bool.false_eq_true, rz_ix_lit, cl_lit, Nat.reduceLT, bi_t, bi_f, decide_true, decide_false, Bool.not_false, Bool.not_true, Bool.and_true, Bool.true_and, Bool.and_false, Bool.false_and, oRl_c, oRl_f0, oRl_v0, oRl_f1, oRl_v1, oRl_f2, oRl_v2, oRl_i3, oRl_i4, oRl_i5, oRl_i6, oRl_i7, oRl_i8, oRl_a1, oRl_n1, oRl_a2, oRl_n2, oRl_a3, oRl_n3, q6, c1, gs_traitOf hk ht, ow, nI_1]
    rfl)
  try dsimp only at L
  have yr := rm_years (Z := Z) (d := d + 2) (w := w) (ι := ι) q6 hp
  rw [q13] at yr
  have r6 : ι r 6 = R 59 := by rw [← q13]; rfl
  have r7 : ι r 7 = R 61 := by rw [← q13]; rfl
  obtain ⟨F, hF⟩ : ∃ F, F = rz_u (rz_u (rz_u (rz_u (rz_u (ι (l + 3)) 3 (ftK R p k)) 4 (R (48 + p))) 5 (R 59)) 6 (R 61)) 7 (nI p) := ⟨_, rfl⟩
  have sp := lw_suppose (Z := Z) (d := d + 2) (w := w) (ι := ι) q5 (by omega) (ftK R p k) (R (48 + p)) (R 59) (R 61) (nI p)
  rw [← hF] at sp
  have f1 : fr (lwS l) ι (rz_rw ι (l + 3) F) := fun a ha => rz_rw_n (fun e => ha (Or.inr e))
  have hg1 : ∀ i, i < 30 → rz_rw ι (l + 3) F (c + 25) i = gpS R x i := fun i hi => by rw [rz_rw_n (by omega)]; exact hg i hi
  obtain ⟨ι2, g1, g2, -⟩ := gs_ffk (d := d) (w := w) (kn := F) (qq.fr (frLaw q3 f1)) hg1 (fun j _ _ => by rw [rz_rw_s]) hk
  have v0 : gpS R x (k / 100) = apI (nI (trN k 0)) (rSh R x 0) := by
    unfold gpS trN; rw [show k / 100 % 10 = k / 100 by omega, show k / 100 / 10 = 0 by omega]; rfl
  have v1 : gpS R x (10 + k / 10 % 10) = apI (nI (trN k 1)) (rSh R x 1) := by
    unfold gpS trN; rw [show (10 + k / 10 % 10) % 10 = k / 10 % 10 by omega, show (10 + k / 10 % 10) / 10 = 1 by omega]; rfl
  have v2 : gpS R x (20 + k % 10) = apI (nI (trN k 2)) (rSh R x 2) := by
    unfold gpS trN; rw [show (20 + k % 10) % 10 = k % 10 by omega, show (20 + k % 10) / 10 = 2 by omega]; rfl
  have k3 : F 3 = ftK R p k := by rw [hF]; rfl
  have k4 : F 4 = R (48 + p) := by rw [hF]; rfl
  have k5 : F 5 = R 59 := by rw [hF]; rfl
  have k6 : F 6 = R 61 := by rw [hF]; rfl
  have k7 : F 7 = nI p := by rw [hF]; rfl
  rw [v0, v1, v2, k3, k4, k5, k6, k7] at g1
  refine ⟨ι2, ?_, f1.trans g2⟩
  rw [e33]
  simp (decide := true) (maxDischargeDepth := 4) only [g33_0, g33_1, g33_3, g33_4, g33_8, g33_9, g33_12, g33_14, g33_16, g33_18, g33_21, g33_22, g33_23, g33_25, g33_28, g33_31, g33_32, g33_35, g33_36, g33_37, g33_39, g33_42, g33_45, g33_46, g33_48, g33_49, g33_50, g33_53, g33_54, g33_57, g33_58, g33_61, g33_62, g33_65, g33_66, g33_67, g33_69, g33_72, rz_k_inl, rz_k_inr, Option.toList_some, Option.toList_none, List.cons_append, List.nil_append, List.append_nil, rz_up_s, rz_u_s, rz_up_n, rz_u_n, ne_eq, not_false_eq_true, not_true_eq_false, Nat.add_assoc, Nat.reduceAdd, reduceIte, Nat.add_eq_left, Nat.left_eq_add, Nat.add_left_cancel_iff, Nat.reduceEqDiff, Nat.add_right_cancel_iff, rz_nb0, rz_nb1, rz_nbb, rz_nbi, rz_isr, rz_zle, if_true, if_false, rz_bi0, rz_bi1, Bool.not_eq_true, Bool.not_eq_false, Bool.true_eq_false, Bool.false_eq_true, rz_ix_lit, cl_lit, Nat.reduceLT, bi_t, bi_f, decide_true, decide_false, Bool.not_false, Bool.not_true, Bool.and_true, Bool.true_and, Bool.and_false, Bool.false_and]
  refine L.trans ?_
  rw [g33_6]
  have eft : lpI (fun t n => n + (if nI (trN k t) = rIs R p t then 0 else 1)) 0 3 = ftK R p k := rfl
  rw [eft]
  simp (decide := true) (maxDischargeDepth := 4) only [g33_0, g33_1, g33_3, g33_4, g33_8, g33_9, g33_12, g33_14, g33_16, g33_18, g33_21, g33_22, g33_23, g33_25, g33_28, g33_31, g33_32, g33_35, g33_36, g33_37, g33_39, g33_42, g33_45, g33_46, g33_48, g33_49, g33_50, g33_53, g33_54, g33_57, g33_58, g33_61, g33_62, g33_65, g33_66, g33_67, g33_69, g33_72, rz_k_inl, rz_k_inr, Option.toList_some, Option.toList_none, List.cons_append, List.nil_append, List.append_nil, rz_up_s, rz_u_s, rz_up_n, rz_u_n, ne_eq, not_false_eq_true, not_true_eq_false, Nat.add_assoc, Nat.reduceAdd, reduceIte, Nat.add_eq_left, Nat.left_eq_add, Nat.add_left_cancel_iff, Nat.reduceEqDiff, Nat.add_right_cancel_iff, rz_nb0, rz_nb1, rz_nbb, rz_nbi, rz_isr, rz_zle, if_true, if_false, rz_bi0, rz_bi1, Bool.not_eq_true, Bool.not_eq_false, Bool.true_eq_false, Bool.false_eq_true, rz_ix_lit, cl_lit, Nat.reduceLT, bi_t, bi_f, decide_true, decide_false, Bool.not_false, Bool.not_true, Bool.and_true, Bool.true_and, Bool.and_false, Bool.false_and, oRl_c, oRl_f0, oRl_v0, oRl_f1, oRl_v1, oRl_f2, oRl_v2, oRl_i3, oRl_i4, oRl_i5, oRl_i6, oRl_i7, oRl_i8, oRl_a1, oRl_n1, oRl_a2, oRl_n2, oRl_a3, oRl_n3, oLw_c, oLw_f0, oLw_v0, oLw_f1, oLw_v1, oLw_f2, oLw_v2, oLw_i3, oLw_a1, oLw_n1, oLw_a2, oLw_n2, oLw_a3, oLw_n3, oGs_c, oGs_f0, oGs_v0, oGs_f1, oGs_v1, oGs_f2, oGs_v2, oGs_i3, oGs_i4, oGs_i5, oGs_a1, oGs_n1, oGs_a2, oGs_n2, oGs_a3, oGs_n3, q5, q6, q9, show (nI 3 < 3) = False by decide, yr, r6, r7, sp, g1]
  rfl
theorem gs_leastN (q : QC Z h ι c l r C R m dk lv) {p : Nat} (hp : p < m) (hn : dk = none ∨ dk = some p ∨ rLv R p = false) (y : Int32) : rz_f Z (d + 2) 30 [.ref (c + 23), .ref r, .ref l, .int (nI p), .int y] (rz_mk h ι, w) = some (.inl (some (.int (-1))), (rz_mk h ι, w)) := by
  obtain ⟨q1, ⟨pv, q2⟩, q3, q4, q5, q6, q7, q8, q9, q10, q11, q12, q13, q14⟩ := q
  have hm8 := q14.2.1
  have hd5 : ι r 5 = oN dk := by
    have : rl ι r 58 = oN dk := by rw [q13]; exact q14.2.2.1
    exact this
  have lvs := rm_lives (Z := Z) (d := d) (w := w) (ι := ι) q6 (show p < 8 by omega)
  rw [q13] at lvs
  rw [e30]
  rcases hn with rfl | rfl | hlv
  · simp (decide := true) (maxDischargeDepth := 4) only [g30_0, g30_1, g30_4, g30_5, g30_8, g30_9, g30_12, g30_13, g30_16, g30_17, g30_18, g30_21, g30_24, g30_25, g30_26, g30_27, g30_28, g30_29, g30_30, g30_33, g30_35, g30_36, g30_37, g30_38, g30_41, g30_44, g30_46, g30_48, g30_49, g30_51, g30_52, g30_56, g30_59, g30_62, g30_63, g30_64, g30_65, g30_67, g30_70, g30_72, g30_74, g30_76, g30_79, g30_80, g30_81, g30_82, g30_83, g30_85, g30_88, g30_90, g30_93, g30_95, g30_97, g30_99, g30_101, g30_104, g30_107, g30_109, g30_110, g30_113, g30_115, g30_116, g30_119, g30_121, g30_124, g30_126, rz_k_inl, rz_k_inr, Option.toList_some, Option.toList_none, List.cons_append, List.nil_append, List.append_nil, rz_up_s, rz_u_s, rz_up_n, rz_u_n, ne_eq, not_false_eq_true, not_true_eq_false, Nat.add_assoc, Nat.reduceAdd, reduceIte, Nat.add_eq_left, Nat.left_eq_add, Nat.add_left_cancel_iff, Nat.reduceEqDiff, Nat.add_right_cancel_iff, rz_nb0, rz_nb1, rz_nbb, rz_nbi, rz_isr, rz_zle, if_true, if_false, rz_bi0, rz_bi1, Bool.not_eq_true, Bool.not_eq_false, Bool.true_eq_false, Bool.false_eq_true, rz_ix_lit, cl_lit, Nat.reduceLT, bi_t, bi_f, decide_true, decide_false, Bool.not_false, Bool.not_true, Bool.and_true, Bool.true_and, Bool.and_false, Bool.false_and, oRl_c, oRl_f0, oRl_v0, oRl_f1, oRl_v1, oRl_f2, oRl_v2, oRl_i3, oRl_i4, oRl_i5, oRl_i6, oRl_i7, oRl_i8, oRl_a1, oRl_n1, oRl_a2, oRl_n2, oRl_a3, oRl_n3, q6, hd5, oN]
  · simp (decide := true) (maxDischargeDepth := 4) only [g30_0, g30_1, g30_4, g30_5, g30_8, g30_9, g30_12, g30_13, g30_16, g30_17, g30_18, g30_21, g30_24, g30_25, g30_26, g30_27, g30_28, g30_29, g30_30, g30_33, g30_35, g30_36, g30_37, g30_38, g30_41, g30_44, g30_46, g30_48, g30_49, g30_51, g30_52, g30_56, g30_59, g30_62, g30_63, g30_64, g30_65, g30_67, g30_70, g30_72, g30_74, g30_76, g30_79, g30_80, g30_81, g30_82, g30_83, g30_85, g30_88, g30_90, g30_93, g30_95, g30_97, g30_99, g30_101, g30_104, g30_107, g30_109, g30_110, g30_113, g30_115, g30_116, g30_119, g30_121, g30_124, g30_126, rz_k_inl, rz_k_inr, Option.toList_some, Option.toList_none, List.cons_append, List.nil_append, List.append_nil, rz_up_s, rz_u_s, rz_up_n, rz_u_n, ne_eq, not_false_eq_true, not_true_eq_false, Nat.add_assoc, Nat.reduceAdd, reduceIte, Nat.add_eq_left, Nat.left_eq_add, Nat.add_left_cancel_iff, Nat.reduceEqDiff, Nat.add_right_cancel_iff, rz_nb0, rz_nb1, rz_nbb, rz_nbi, rz_isr, rz_zle, if_true, if_false, rz_bi0, rz_bi1, Bool.not_eq_true, Bool.not_eq_false, Bool.true_eq_false, Bool.false_eq_true, rz_ix_lit, cl_lit, Nat.reduceLT, bi_t, bi_f, decide_true, decide_false, Bool.not_false, Bool.not_true, Bool.and_true, Bool.true_and, Bool.and_false, Bool.false_and, oRl_c, oRl_f0, oRl_v0, oRl_f1, oRl_v1, oRl_f2, oRl_v2, oRl_i3, oRl_i4, oRl_i5, oRl_i6, oRl_i7, oRl_i8, oRl_a1, oRl_n1, oRl_a2, oRl_n2, oRl_a3, oRl_n3, q6, hd5, oN, nI_m1 (show p < 2147483648 by omega)]
  · cases dk with
    | none => simp (decide := true) (maxDischargeDepth := 4) only [g30_0, g30_1, g30_4, g30_5, g30_8, g30_9, g30_12, g30_13, g30_16, g30_17, g30_18, g30_21, g30_24, g30_25, g30_26, g30_27, g30_28, g30_29, g30_30, g30_33, g30_35, g30_36, g30_37, g30_38, g30_41, g30_44, g30_46, g30_48, g30_49, g30_51, g30_52, g30_56, g30_59, g30_62, g30_63, g30_64, g30_65, g30_67, g30_70, g30_72, g30_74, g30_76, g30_79, g30_80, g30_81, g30_82, g30_83, g30_85, g30_88, g30_90, g30_93, g30_95, g30_97, g30_99, g30_101, g30_104, g30_107, g30_109, g30_110, g30_113, g30_115, g30_116, g30_119, g30_121, g30_124, g30_126, rz_k_inl, rz_k_inr, Option.toList_some, Option.toList_none, List.cons_append, List.nil_append, List.append_nil, rz_up_s, rz_u_s, rz_up_n, rz_u_n, ne_eq, not_false_eq_true, not_true_eq_false, Nat.add_assoc, Nat.reduceAdd, reduceIte, Nat.add_eq_left, Nat.left_eq_add, Nat.add_left_cancel_iff, Nat.reduceEqDiff, Nat.add_right_cancel_iff, rz_nb0, rz_nb1, rz_nbb, rz_nbi, rz_isr, rz_zle, if_true, if_false, rz_bi0, rz_bi1, Bool.not_eq_true, Bool.not_eq_false, Bool.true_eq_false, Bool.false_eq_true, rz_ix_lit, cl_lit, Nat.reduceLT, bi_t, bi_f, decide_true, decide_false, Bool.not_false, Bool.not_true, Bool.and_true, Bool.true_and, Bool.and_false, Bool.false_and, oRl_c, oRl_f0, oRl_v0, oRl_f1, oRl_v1, oRl_f2, oRl_v2, oRl_i3, oRl_i4, oRl_i5, oRl_i6, oRl_i7, oRl_i8, oRl_a1, oRl_n1, oRl_a2, oRl_n2, oRl_a3, oRl_n3, q6, hd5, oN]
    | some x =>
      have hx := q14.d8 x rfl
      by_cases hxp : x = p
      · subst hxp
        simp (decide := true) (maxDischargeDepth := 4) only [g30_0, g30_1, g30_4, g30_5, g30_8, g30_9, g30_12, g30_13, g30_16, g30_17, g30_18, g30_21, g30_24, g30_25, g30_26, g30_27, g30_28, g30_29, g30_30, g30_33, g30_35, g30_36, g30_37, g30_38, g30_41, g30_44, g30_46, g30_48, g30_49, g30_51, g30_52, g30_56, g30_59, g30_62, g30_63, g30_64, g30_65, g30_67, g30_70, g30_72, g30_74, g30_76, g30_79, g30_80, g30_81, g30_82, g30_83, g30_85, g30_88, g30_90, g30_93, g30_95, g30_97, g30_99, g30_101, g30_104, g30_107, g30_109, g30_110, g30_113, g30_115, g30_116, g30_119, g30_121, g30_124, g30_126, rz_k_inl, rz_k_inr, Option.toList_some, Option.toList_none, List.cons_append, List.nil_append, List.append_nil, rz_up_s, rz_u_s, rz_up_n, rz_u_n, ne_eq, not_false_eq_true, not_true_eq_false, Nat.add_assoc, Nat.reduceAdd, reduceIte, Nat.add_eq_left, Nat.left_eq_add, Nat.add_left_cancel_iff, Nat.reduceEqDiff, Nat.add_right_cancel_iff, rz_nb0, rz_nb1, rz_nbb, rz_nbi, rz_isr, rz_zle, if_true, if_false, rz_bi0, rz_bi1, Bool.not_eq_true, Bool.not_eq_false, Bool.true_eq_false, Bool.false_eq_true, rz_ix_lit, cl_lit, Nat.reduceLT, bi_t, bi_f, decide_true, decide_false, Bool.not_false, Bool.not_true, Bool.and_true, Bool.true_and, Bool.and_false, Bool.false_and, oRl_c, oRl_f0, oRl_v0, oRl_f1, oRl_v1, oRl_f2, oRl_v2, oRl_i3, oRl_i4, oRl_i5, oRl_i6, oRl_i7, oRl_i8, oRl_a1, oRl_n1, oRl_a2, oRl_n2, oRl_a3, oRl_n3, q6, hd5, oN, nI_m1 (show x < 2147483648 by omega)]
      · have cq : (nI x = nI p) = False := by rw [nI_eq2 (by omega) (by omega)]; simp [hxp]
        simp (decide := true) (maxDischargeDepth := 4) only [g30_0, g30_1, g30_4, g30_5, g30_8, g30_9, g30_12, g30_13, g30_16, g30_17, g30_18, g30_21, g30_24, g30_25, g30_26, g30_27, g30_28, g30_29, g30_30, g30_33, g30_35, g30_36, g30_37, g30_38, g30_41, g30_44, g30_46, g30_48, g30_49, g30_51, g30_52, g30_56, g30_59, g30_62, g30_63, g30_64, g30_65, g30_67, g30_70, g30_72, g30_74, g30_76, g30_79, g30_80, g30_81, g30_82, g30_83, g30_85, g30_88, g30_90, g30_93, g30_95, g30_97, g30_99, g30_101, g30_104, g30_107, g30_109, g30_110, g30_113, g30_115, g30_116, g30_119, g30_121, g30_124, g30_126, rz_k_inl, rz_k_inr, Option.toList_some, Option.toList_none, List.cons_append, List.nil_append, List.append_nil, rz_up_s, rz_u_s, rz_up_n, rz_u_n, ne_eq, not_false_eq_true, not_true_eq_false, Nat.add_assoc, Nat.reduceAdd, reduceIte, Nat.add_eq_left, Nat.left_eq_add, Nat.add_left_cancel_iff, Nat.reduceEqDiff, Nat.add_right_cancel_iff, rz_nb0, rz_nb1, rz_nbb, rz_nbi, rz_isr, rz_zle, if_true, if_false, rz_bi0, rz_bi1, Bool.not_eq_true, Bool.not_eq_false, Bool.true_eq_false, Bool.false_eq_true, rz_ix_lit, cl_lit, Nat.reduceLT, bi_t, bi_f, decide_true, decide_false, Bool.not_false, Bool.not_true, Bool.and_true, Bool.true_and, Bool.and_false, Bool.false_and, oRl_c, oRl_f0, oRl_v0, oRl_f1, oRl_v1, oRl_f2, oRl_v2, oRl_i3, oRl_i4, oRl_i5, oRl_i6, oRl_i7, oRl_i8, oRl_a1, oRl_n1, oRl_a2, oRl_n2, oRl_a3, oRl_n3, q6, hd5, oN, nI_m1 (show x < 2147483648 by omega), cq, lvs, hlv]
theorem gs_least (q : QC Z h ι c l r C R m dk lv) {p x : Nat} (hp : p < m) (hd : dk = some x) (hxp : x ≠ p) (hlv : rLv R p = true) {k : Nat} (hk : k ≤ 1) : ∃ ι', rz_f Z (d + 6) 30 [.ref (c + 23), .ref r, .ref l, .int (nI p), .int (nI k)] (rz_mk h ι, w) = some (.inl (some (.int (if k = 1 ∨ (lfS C R m x p 1000).2 = -1 then (lfS C R m x p 1000).2 else (lfS C R m x p 1000).1))), (rz_mk h ι', w)) ∧ fr (scC c) ι ι' := by
  have qq := q
  obtain ⟨q1, ⟨pv, q2⟩, q3, q4, q5, q6, q7, q8, q9, q10, q11, q12, q13, q14⟩ := q
  have hm8 := q14.2.1
  have hx8 := q14.d8 x hd
  have hd5 : ι r 5 = nI x := by
    have : rl ι r 58 = oN dk := by rw [q13]; exact q14.2.2.1
    rw [hd] at this
    exact this
  have lvs := rm_lives (Z := Z) (d := d + 4) (w := w) (ι := ι) q6 (show p < 8 by omega)
  rw [q13] at lvs
  obtain ⟨ι0, n1, n2⟩ := gs_needed (d := d) (w := w) qq hp
  have f0 := frLaw q3 n2
  have md := gs_mind (d := d + 3) (w := w) (qq.fr f0) hx8
  obtain ⟨ι1, hι1⟩ : ∃ ι1, ι1 = rz_rw ι0 (c + 25) (gpK R x (ι0 (c + 25)) 30) := ⟨_, rfl⟩
  rw [← hι1] at md
  have f1 : fr (scC c) ι ι1 := f0.trans (fun a ha => by rw [hι1]; exact rz_rw_n (fun e => ha (by rw [e]; unfold scC; omega)))
  have G1 : ∀ i, i < 30 → ι1 (c + 25) i = gpS R x i := fun i hi => by rw [hι1, rz_rw_s]; exact gpK_at _ _ _ 30 i hi
  have L := rz_loop (fun j (a : (Nat → Nat → Int32) × Option Value) => rg Z (d + 5) rx_m30 54 [some (.ref (c + 23)), some (.ref r), some (.ref l), some (.int (nI p)), some (.int (nI k)), some (.int (nfS C R dk p m)), some (.int (lfS C R m x p j).1), some (.int (lfS C R m x p j).2), some (.int (nI j)), a.2] [] (rz_mk h a.1, w)) 1000 (fun _ a => fr (scC c) ι a.1 ∧ ∀ i, i < 30 → a.1 (c + 25) i = gpS R x i) (by
    rintro j ⟨ι2, l9⟩ hj ⟨hf, hG⟩
    have hf : fr (scC c) ι ι2 := hf
    have hG : ∀ i, i < 30 → ι2 (c + 25) i = gpS R x i := hG
    have qf := qq.fr hf
    have c1 : (nI j < 1000) = True := by rw [nI_ltL (by omega) (by decide)]; simp [hj]
    have ch := gs_changed (d := d + 3) (w := w) qf (show p < 8 by omega) hj
    by_cases hby : chgS R p j < (lfS C R m x p j).1
    · obtain ⟨ι3, g1, g2⟩ := gs_fis (d := d + 1) (w := w) qf hx8 (show p < 8 by omega) hj hG
      refine ⟨(ι3, some (.int (chgS R p j))), ⟨hf.trans (frLaw q3 g2), fun i hi => ?_⟩, ?_⟩
      · show ι3 (c + 25) i = _
        rw [g2 (c + 25) (by unfold lwS; omega)]; exact hG i hi
      · try dsimp only
        rw [g30_54]
        by_cases hfi : fisS C R x p j < nfS C R dk p m
        · simp (decide := true) (maxDischargeDepth := 4) only [g30_0, g30_1, g30_4, g30_5, g30_8, g30_9, g30_12, g30_13, g30_16, g30_17, g30_18, g30_21, g30_24, g30_25, g30_26, g30_27, g30_28, g30_29, g30_30, g30_33, g30_35, g30_36, g30_37, g30_38, g30_41, g30_44, g30_46, g30_48, g30_49, g30_51, g30_52, g30_56, g30_59, g30_62, g30_63, g30_64, g30_65, g30_67, g30_70, g30_72, g30_74, g30_76, g30_79, g30_80, g30_81, g30_82, g30_83, g30_85, g30_88, g30_90, g30_93, g30_95, g30_97, g30_99, g30_101, g30_104, g30_107, g30_109, g30_110, g30_113, g30_115, g30_116, g30_119, g30_121, g30_124, g30_126, rz_k_inl, rz_k_inr, Option.toList_some, Option.toList_none, List.cons_append, List.nil_append, List.append_nil, rz_up_s, rz_u_s, rz_up_n, rz_u_n, ne_eq, not_false_eq_true, not_true_eq_false, Nat.add_assoc, Nat.reduceAdd, reduceIte, Nat.add_eq_left, Nat.left_eq_add, Nat.add_left_cancel_iff, Nat.reduceEqDiff, Nat.add_right_cancel_iff, rz_nb0, rz_nb1, rz_nbb, rz_nbi, rz_isr, rz_zle, if_true, if_false, rz_bi0, rz_bi1, Bool.not_eq_true, Bool.not_eq_false, Bool.true_eq_false, Bool.false_eq_true, rz_ix_lit, cl_lit, Nat.reduceLT, bi_t, bi_f, decide_true, decide_false, Bool.not_false, Bool.not_true, Bool.and_true, Bool.true_and, Bool.and_false, Bool.false_and, oGs_c, oGs_f0, oGs_v0, oGs_f1, oGs_v1, oGs_f2, oGs_v2, oGs_i3, oGs_i4, oGs_i5, oGs_a1, oGs_n1, oGs_a2, oGs_n2, oGs_a3, oGs_n3, q9, c1, ch, hby, g1, hfi, nI_1]
          rw [lfS, if_neg (fun z => z.2 (by rw [← hd]; exact hfi))]
        · simp (decide := true) (maxDischargeDepth := 4) only [g30_0, g30_1, g30_4, g30_5, g30_8, g30_9, g30_12, g30_13, g30_16, g30_17, g30_18, g30_21, g30_24, g30_25, g30_26, g30_27, g30_28, g30_29, g30_30, g30_33, g30_35, g30_36, g30_37, g30_38, g30_41, g30_44, g30_46, g30_48, g30_49, g30_51, g30_52, g30_56, g30_59, g30_62, g30_63, g30_64, g30_65, g30_67, g30_70, g30_72, g30_74, g30_76, g30_79, g30_80, g30_81, g30_82, g30_83, g30_85, g30_88, g30_90, g30_93, g30_95, g30_97, g30_99, g30_101, g30_104, g30_107, g30_109, g30_110, g30_113, g30_115, g30_116, g30_119, g30_121, g30_124, g30_126, rz_k_inl, rz_k_inr, Option.toList_some, Option.toList_none, List.cons_append, List.nil_append, List.append_nil, rz_up_s, rz_u_s, rz_up_n, rz_u_n, ne_eq, not_false_eq_true, not_true_eq_false, Nat.add_assoc, Nat.reduceAdd, reduceIte, Nat.add_eq_left, Nat.left_eq_add, Nat.add_left_cancel_iff, Nat.reduceEqDiff, Nat.add_right_cancel_iff, rz_nb0, rz_nb1, rz_nbb, rz_nbi, rz_isr, rz_zle, if_true, if_false, rz_bi0, rz_bi1, Bool.not_eq_true, Bool.not_eq_false, Bool.true_eq_false, Bool.false_eq_true, rz_ix_lit, cl_lit, Nat.reduceLT, bi_t, bi_f, decide_true, decide_false, Bool.not_false, Bool.not_true, Bool.and_true, Bool.true_and, Bool.and_false, Bool.false_and, oGs_c, oGs_f0, oGs_v0, oGs_f1, oGs_v1, oGs_f2, oGs_v2, oGs_i3, oGs_i4, oGs_i5, oGs_a1, oGs_n1, oGs_a2, oGs_n2, oGs_a3, oGs_n3, q9, c1, ch, hby, g1, hfi, nI_1]
          rw [lfS, if_pos ⟨hby, by rw [← hd]; exact hfi⟩]
    · refine ⟨(ι2, some (.int (chgS R p j))), ⟨hf, hG⟩, ?_⟩
      try dsimp only
      rw [g30_54]
      simp (decide := true) (maxDischargeDepth := 4) only [g30_0, g30_1, g30_4, g30_5, g30_8, g30_9, g30_12, g30_13, g30_16, g30_17, g30_18, g30_21, g30_24, g30_25, g30_26, g30_27, g30_28, g30_29, g30_30, g30_33, g30_35, g30_36, g30_37, g30_38, g30_41, g30_44, g30_46, g30_48, g30_49, g30_51, g30_52, g30_56, g30_59, g30_62, g30_63, g30_64, g30_65, g30_67, g30_70, g30_72, g30_74, g30_76, g30_79, g30_80, g30_81, g30_82, g30_83, g30_85, g30_88, g30_90, g30_93, g30_95, g30_97, g30_99, g30_101, g30_104, g30_107, g30_109, g30_110, g30_113, g30_115, g30_116, g30_119, g30_121, g30_124, g30_126, rz_k_inl, rz_k_inr, Option.toList_some, Option.toList_none, List.cons_append, List.nil_append, List.append_nil, rz_up_s, rz_u_s, rz_up_n, rz_u_n, ne_eq, not_false_eq_true, not_true_eq_false, Nat.add_assoc, Nat.reduceAdd, reduceIte, Nat.add_eq_left, Nat.left_eq_add, Nat.add_left_cancel_iff, Nat.reduceEqDiff, Nat.add_right_cancel_iff, rz_nb0, rz_nb1, rz_nbb, rz_nbi, rz_isr, rz_zle, if_true, if_false, rz_bi0, rz_bi1, Bool.not_eq_true, Bool.not_eq_false, Bool.true_eq_false, Bool.false_eq_true, rz_ix_lit, cl_lit, Nat.reduceLT, bi_t, bi_f, decide_true, decide_false, Bool.not_false, Bool.not_true, Bool.and_true, Bool.true_and, Bool.and_false, Bool.false_and, oGs_c, oGs_f0, oGs_v0, oGs_f1, oGs_v1, oGs_f2, oGs_v2, oGs_i3, oGs_i4, oGs_i5, oGs_a1, oGs_n1, oGs_a2, oGs_n2, oGs_a3, oGs_n3, q9, c1, ch, hby, nI_1]
      rw [lfS, if_neg (fun z => hby z.1)]) 1000 0 (ι1, none) (by omega) ⟨f1, G1⟩
  obtain ⟨⟨ι2, l9⟩, ⟨hf, -⟩, L⟩ := L
  have hf : fr (scC c) ι ι2 := hf
  try dsimp only at L
  have hd50 : ι0 r 5 = nI x := by rw [n2 r (by unfold lwS; omega)]; exact hd5
  have cq : (nI x = nI p) = False := by rw [nI_eq2 (by omega) (by omega)]; simp [hxp]
  refine ⟨ι2, ?_, hf⟩
  rw [e30]
  simp (decide := true) (maxDischargeDepth := 4) only [g30_0, g30_1, g30_4, g30_5, g30_8, g30_9, g30_12, g30_13, g30_16, g30_17, g30_18, g30_21, g30_24, g30_25, g30_26, g30_27, g30_28, g30_29, g30_30, g30_33, g30_35, g30_36, g30_37, g30_38, g30_41, g30_44, g30_46, g30_48, g30_49, g30_51, g30_52, g30_56, g30_59, g30_62, g30_63, g30_64, g30_65, g30_67, g30_70, g30_72, g30_74, g30_76, g30_79, g30_80, g30_81, g30_82, g30_83, g30_85, g30_88, g30_90, g30_93, g30_95, g30_97, g30_99, g30_101, g30_104, g30_107, g30_109, g30_110, g30_113, g30_115, g30_116, g30_119, g30_121, g30_124, g30_126, rz_k_inl, rz_k_inr, Option.toList_some, Option.toList_none, List.cons_append, List.nil_append, List.append_nil, rz_up_s, rz_u_s, rz_up_n, rz_u_n, ne_eq, not_false_eq_true, not_true_eq_false, Nat.add_assoc, Nat.reduceAdd, reduceIte, Nat.add_eq_left, Nat.left_eq_add, Nat.add_left_cancel_iff, Nat.reduceEqDiff, Nat.add_right_cancel_iff, rz_nb0, rz_nb1, rz_nbb, rz_nbi, rz_isr, rz_zle, if_true, if_false, rz_bi0, rz_bi1, Bool.not_eq_true, Bool.not_eq_false, Bool.true_eq_false, Bool.false_eq_true, rz_ix_lit, cl_lit, Nat.reduceLT, bi_t, bi_f, decide_true, decide_false, Bool.not_false, Bool.not_true, Bool.and_true, Bool.true_and, Bool.and_false, Bool.false_and, oGs_c, oGs_f0, oGs_v0, oGs_f1, oGs_v1, oGs_f2, oGs_v2, oGs_i3, oGs_i4, oGs_i5, oGs_a1, oGs_n1, oGs_a2, oGs_n2, oGs_a3, oGs_n3, oRl_c, oRl_f0, oRl_v0, oRl_f1, oRl_v1, oRl_f2, oRl_v2, oRl_i3, oRl_i4, oRl_i5, oRl_i6, oRl_i7, oRl_i8, oRl_a1, oRl_n1, oRl_a2, oRl_n2, oRl_a3, oRl_n3, q6, q9, hd5, nI_m1 (show x < 2147483648 by omega), cq, lvs, hlv, n1, hd50, md]
  refine L.trans ?_
  rw [g30_54]
  have : k = 0 ∨ k = 1 := by omega
  rcases this with rfl | rfl
  · by_cases hb : (lfS C R m x p 1000).2 = -1
    · simp (decide := true) (maxDischargeDepth := 4) only [g30_0, g30_1, g30_4, g30_5, g30_8, g30_9, g30_12, g30_13, g30_16, g30_17, g30_18, g30_21, g30_24, g30_25, g30_26, g30_27, g30_28, g30_29, g30_30, g30_33, g30_35, g30_36, g30_37, g30_38, g30_41, g30_44, g30_46, g30_48, g30_49, g30_51, g30_52, g30_56, g30_59, g30_62, g30_63, g30_64, g30_65, g30_67, g30_70, g30_72, g30_74, g30_76, g30_79, g30_80, g30_81, g30_82, g30_83, g30_85, g30_88, g30_90, g30_93, g30_95, g30_97, g30_99, g30_101, g30_104, g30_107, g30_109, g30_110, g30_113, g30_115, g30_116, g30_119, g30_121, g30_124, g30_126, rz_k_inl, rz_k_inr, Option.toList_some, Option.toList_none, List.cons_append, List.nil_append, List.append_nil, rz_up_s, rz_u_s, rz_up_n, rz_u_n, ne_eq, not_false_eq_true, not_true_eq_false, Nat.add_assoc, Nat.reduceAdd, reduceIte, Nat.add_eq_left, Nat.left_eq_add, Nat.add_left_cancel_iff, Nat.reduceEqDiff, Nat.add_right_cancel_iff, rz_nb0, rz_nb1, rz_nbb, rz_nbi, rz_isr, rz_zle, if_true, if_false, rz_bi0, rz_bi1, Bool.not_eq_true, Bool.not_eq_false, Bool.true_eq_false, Bool.false_eq_true, rz_ix_lit, cl_lit, Nat.reduceLT, bi_t, bi_f, decide_true, decide_false, Bool.not_false, Bool.not_true, Bool.and_true, Bool.true_and, Bool.and_false, Bool.false_and, show (nI 1000 < 1000) = False by decide, show nI 0 = 0 from rfl, hb, or_true]
    · simp (decide := true) (maxDischargeDepth := 4) only [g30_0, g30_1, g30_4, g30_5, g30_8, g30_9, g30_12, g30_13, g30_16, g30_17, g30_18, g30_21, g30_24, g30_25, g30_26, g30_27, g30_28, g30_29, g30_30, g30_33, g30_35, g30_36, g30_37, g30_38, g30_41, g30_44, g30_46, g30_48, g30_49, g30_51, g30_52, g30_56, g30_59, g30_62, g30_63, g30_64, g30_65, g30_67, g30_70, g30_72, g30_74, g30_76, g30_79, g30_80, g30_81, g30_82, g30_83, g30_85, g30_88, g30_90, g30_93, g30_95, g30_97, g30_99, g30_101, g30_104, g30_107, g30_109, g30_110, g30_113, g30_115, g30_116, g30_119, g30_121, g30_124, g30_126, rz_k_inl, rz_k_inr, Option.toList_some, Option.toList_none, List.cons_append, List.nil_append, List.append_nil, rz_up_s, rz_u_s, rz_up_n, rz_u_n, ne_eq, not_false_eq_true, not_true_eq_false, Nat.add_assoc, Nat.reduceAdd, reduceIte, Nat.add_eq_left, Nat.left_eq_add, Nat.add_left_cancel_iff, Nat.reduceEqDiff, Nat.add_right_cancel_iff, rz_nb0, rz_nb1, rz_nbb, rz_nbi, rz_isr, rz_zle, if_true, if_false, rz_bi0, rz_bi1, Bool.not_eq_true, Bool.not_eq_false, Bool.true_eq_false, Bool.false_eq_true, rz_ix_lit, cl_lit, Nat.reduceLT, bi_t, bi_f, decide_true, decide_false, Bool.not_false, Bool.not_true, Bool.and_true, Bool.true_and, Bool.and_false, Bool.false_and, show (nI 1000 < 1000) = False by decide, show nI 0 = 0 from rfl, hb, or_false]
  · simp (decide := true) (maxDischargeDepth := 4) only [g30_0, g30_1, g30_4, g30_5, g30_8, g30_9, g30_12, g30_13, g30_16, g30_17, g30_18, g30_21, g30_24, g30_25, g30_26, g30_27, g30_28, g30_29, g30_30, g30_33, g30_35, g30_36, g30_37, g30_38, g30_41, g30_44, g30_46, g30_48, g30_49, g30_51, g30_52, g30_56, g30_59, g30_62, g30_63, g30_64, g30_65, g30_67, g30_70, g30_72, g30_74, g30_76, g30_79, g30_80, g30_81, g30_82, g30_83, g30_85, g30_88, g30_90, g30_93, g30_95, g30_97, g30_99, g30_101, g30_104, g30_107, g30_109, g30_110, g30_113, g30_115, g30_116, g30_119, g30_121, g30_124, g30_126, rz_k_inl, rz_k_inr, Option.toList_some, Option.toList_none, List.cons_append, List.nil_append, List.append_nil, rz_up_s, rz_u_s, rz_up_n, rz_u_n, ne_eq, not_false_eq_true, not_true_eq_false, Nat.add_assoc, Nat.reduceAdd, reduceIte, Nat.add_eq_left, Nat.left_eq_add, Nat.add_left_cancel_iff, Nat.reduceEqDiff, Nat.add_right_cancel_iff, rz_nb0, rz_nb1, rz_nbb, rz_nbi, rz_isr, rz_zle, if_true, if_false, rz_bi0, rz_bi1, Bool.not_eq_true, Bool.not_eq_false, Bool.true_eq_false, Bool.false_eq_true, rz_ix_lit, cl_lit, Nat.reduceLT, bi_t, bi_f, decide_true, decide_false, Bool.not_false, Bool.not_true, Bool.and_true, Bool.true_and, Bool.and_false, Bool.false_and, show (nI 1000 < 1000) = False by decide, show nI 1 = 1 from rfl, true_or]
def fntS (C : List (Nat × Nat)) (R : Nat → Int32) (m : Nat) (dk : Option Nat) (p k : Nat) : Int32 := match dk with
  | none => -1
  | some x => if x = p ∨ rLv R p = false then -1 else if k = 1 ∨ (lfS C R m x p 1000).2 = -1 then (lfS C R m x p 1000).2 else (lfS C R m x p 1000).1
theorem cl_feint (q : QC Z h ι c l r C R m dk lv) {p k : Nat} (hp : p < m) (hk : k ≤ 1) (hy : inB (nI k) 1 = true) : ansC Z (d + 7) h ι w c 133 [.int (nI p), .int (nI k)] (fntS C R m dk p k) := by
  have qq := q
  obtain ⟨q1, ⟨pv, q2⟩, q3, q4, q5, q6, q7, q8, q9, q10, q11, q12, q13, q14⟩ := q
  have hy : (!decide (nI k < 0) && !decide ((1 : Int32) < nI k)) = true := hy
  cases hdk : dk with
  | none =>
    refine ⟨ι, ?_, fr.refl ι⟩
    rw [e133]
    simp (decide := true) (maxDischargeDepth := 4) only [g133_0, g133_1, g133_2, g133_5, g133_6, g133_7, g133_8, g133_9, g133_12, g133_15, g133_16, g133_19, g133_20, g133_23, g133_24, g133_27, g133_28, g133_29, g133_32, rz_k_inl, rz_k_inr, Option.toList_some, Option.toList_none, List.cons_append, List.nil_append, List.append_nil, rz_up_s, rz_u_s, rz_up_n, rz_u_n, ne_eq, not_false_eq_true, not_true_eq_false, Nat.add_assoc, Nat.reduceAdd, reduceIte, Nat.add_eq_left, Nat.left_eq_add, Nat.add_left_cancel_iff, Nat.reduceEqDiff, Nat.add_right_cancel_iff, rz_nb0, rz_nb1, rz_nbb, rz_nbi, rz_isr, rz_zle, if_true, if_false, rz_bi0, rz_bi1, Bool.not_eq_true, Bool.not_eq_false, Bool.true_eq_false, Bool.false_eq_true, rz_ix_lit, cl_lit, Nat.reduceLT, bi_t, bi_f, decide_true, decide_false, Bool.not_false, Bool.not_true, Bool.and_true, Bool.true_and, Bool.and_false, Bool.false_and, oHr_c q2, oHr_f0 q2, oHr_v0 q2, oHr_f1 q2, oHr_v1 q2, oHr_f2 q2, oHr_v2 q2, oHr_f3 q2, oHr_v3 q2, oHr_f4 q2, oHr_v4 q2, oHr_f5 q2, oHr_v5 q2, oHr_f6 q2, oHr_v6 q2, oHr_f7 q2, oHr_v7 q2, oHr_f8 q2, oHr_v8 q2, oHr_f9 q2, oHr_v9 q2, oHr_f10 q2, oHr_v10 q2, oHr_f11 q2, oHr_v11 q2, oHr_f12 q2, oHr_v12 q2, oHr_i13 q2, oHr_i14 q2, oHr_i15 q2, oHr_i16 q2, oHr_i17 q2, oGs_c, oGs_f0, oGs_v0, oGs_f1, oGs_v1, oGs_f2, oGs_v2, oGs_i3, oGs_i4, oGs_i5, oGs_a1, oGs_n1, oGs_a2, oGs_n2, oGs_a3, oGs_n3, q9, hr_needP1 qq hp, hr_within, hy, hr_need1 q2, gs_leastN qq hp (Or.inl hdk)]
    rfl
  | some x =>
    by_cases hn : x = p ∨ rLv R p = false
    · refine ⟨ι, ?_, fr.refl ι⟩
      have hn' : dk = none ∨ dk = some p ∨ rLv R p = false := by
        rcases hn with e | e
        · right; left; rw [hdk, e]
        · right; right; exact e
      rw [e133]
      simp (decide := true) (maxDischargeDepth := 4) only [g133_0, g133_1, g133_2, g133_5, g133_6, g133_7, g133_8, g133_9, g133_12, g133_15, g133_16, g133_19, g133_20, g133_23, g133_24, g133_27, g133_28, g133_29, g133_32, rz_k_inl, rz_k_inr, Option.toList_some, Option.toList_none, List.cons_append, List.nil_append, List.append_nil, rz_up_s, rz_u_s, rz_up_n, rz_u_n, ne_eq, not_false_eq_true, not_true_eq_false, Nat.add_assoc, Nat.reduceAdd, reduceIte, Nat.add_eq_left, Nat.left_eq_add, Nat.add_left_cancel_iff, Nat.reduceEqDiff, Nat.add_right_cancel_iff, rz_nb0, rz_nb1, rz_nbb, rz_nbi, rz_isr, rz_zle, if_true, if_false, rz_bi0, rz_bi1, Bool.not_eq_true, Bool.not_eq_false, Bool.true_eq_false, Bool.false_eq_true, rz_ix_lit, cl_lit, Nat.reduceLT, bi_t, bi_f, decide_true, decide_false, Bool.not_false, Bool.not_true, Bool.and_true, Bool.true_and, Bool.and_false, Bool.false_and, oHr_c q2, oHr_f0 q2, oHr_v0 q2, oHr_f1 q2, oHr_v1 q2, oHr_f2 q2, oHr_v2 q2, oHr_f3 q2, oHr_v3 q2, oHr_f4 q2, oHr_v4 q2, oHr_f5 q2, oHr_v5 q2, oHr_f6 q2, oHr_v6 q2, oHr_f7 q2, oHr_v7 q2, oHr_f8 q2, oHr_v8 q2, oHr_f9 q2, oHr_v9 q2, oHr_f10 q2, oHr_v10 q2, oHr_f11 q2, oHr_v11 q2, oHr_f12 q2, oHr_v12 q2, oHr_i13 q2, oHr_i14 q2, oHr_i15 q2, oHr_i16 q2, oHr_i17 q2, oGs_c, oGs_f0, oGs_v0, oGs_f1, oGs_v1, oGs_f2, oGs_v2, oGs_i3, oGs_i4, oGs_i5, oGs_a1, oGs_n1, oGs_a2, oGs_n2, oGs_a3, oGs_n3, q9, hr_needP1 qq hp, hr_within, hy, hr_need1 q2, gs_leastN qq hp hn']
      simp only [fntS, hn, if_true]
    · obtain ⟨ι', g1, g2⟩ := gs_least (d := d) (w := w) qq hp hdk (fun e => hn (Or.inl e)) (by cases e : rLv R p; exact absurd (Or.inr e) hn; rfl) hk
      refine ⟨ι', ?_, g2⟩
      rw [e133]
      simp (decide := true) (maxDischargeDepth := 4) only [g133_0, g133_1, g133_2, g133_5, g133_6, g133_7, g133_8, g133_9, g133_12, g133_15, g133_16, g133_19, g133_20, g133_23, g133_24, g133_27, g133_28, g133_29, g133_32, rz_k_inl, rz_k_inr, Option.toList_some, Option.toList_none, List.cons_append, List.nil_append, List.append_nil, rz_up_s, rz_u_s, rz_up_n, rz_u_n, ne_eq, not_false_eq_true, not_true_eq_false, Nat.add_assoc, Nat.reduceAdd, reduceIte, Nat.add_eq_left, Nat.left_eq_add, Nat.add_left_cancel_iff, Nat.reduceEqDiff, Nat.add_right_cancel_iff, rz_nb0, rz_nb1, rz_nbb, rz_nbi, rz_isr, rz_zle, if_true, if_false, rz_bi0, rz_bi1, Bool.not_eq_true, Bool.not_eq_false, Bool.true_eq_false, Bool.false_eq_true, rz_ix_lit, cl_lit, Nat.reduceLT, bi_t, bi_f, decide_true, decide_false, Bool.not_false, Bool.not_true, Bool.and_true, Bool.true_and, Bool.and_false, Bool.false_and, oHr_c q2, oHr_f0 q2, oHr_v0 q2, oHr_f1 q2, oHr_v1 q2, oHr_f2 q2, oHr_v2 q2, oHr_f3 q2, oHr_v3 q2, oHr_f4 q2, oHr_v4 q2, oHr_f5 q2, oHr_v5 q2, oHr_f6 q2, oHr_v6 q2, oHr_f7 q2, oHr_v7 q2, oHr_f8 q2, oHr_v8 q2, oHr_f9 q2, oHr_v9 q2, oHr_f10 q2, oHr_v10 q2, oHr_f11 q2, oHr_v11 q2, oHr_f12 q2, oHr_v12 q2, oHr_i13 q2, oHr_i14 q2, oHr_i15 q2, oHr_i16 q2, oHr_i17 q2, oGs_c, oGs_f0, oGs_v0, oGs_f1, oGs_v1, oGs_f2, oGs_v2, oGs_i3, oGs_i4, oGs_i5, oGs_a1, oGs_n1, oGs_a2, oGs_n2, oGs_a3, oGs_n3, q9, hr_needP1 qq hp, hr_within, hy, hr_need1 q2, g1]
      simp only [fntS, hn, if_false]
end CLASS9
