/-! FarthestHeir$Law: who is furthest, who is beyond -/
def oN : Option Nat → Int32
  | none => -1
  | some q => nI q
def fromD (C : List (Nat × Nat)) (R : Nat → Int32) (dk : Option Nat) (p : Nat) : Int32 := match dk with
  | none => 0
  | some q => if q = p then 0 else farB C R p q
/-- the furthest of the first k, and how far -/
def furS (C : List (Nat × Nat)) (R : Nat → Int32) (q : Nat) : Nat → Int32 × Int32
  | 0 => (-1, -1)
  | p + 1 => if rLv R p = true ∧ p ≠ q ∧ (furS C R q p).2 < farB C R p q then (nI p, farB C R p q) else furS C R q p
def furO (C : List (Nat × Nat)) (R : Nat → Int32) (f : Option Nat) (m : Nat) : Int32 := match f with
  | none => -1
  | some q => (furS C R q m).1
def bynS (C : List (Nat × Nat)) (R : Nat → Int32) (q : Nat) (n : Int32) : Nat → Int32
  | 0 => 0
  | p + 1 => if rLv R p = true ∧ p ≠ q ∧ ¬ farB C R p q < n then bynS C R q n p ||| rBit p else bynS C R q n p
def bynO (C : List (Nat × Nat)) (R : Nat → Int32) (f : Option Nat) (n : Int32) (m : Nat) : Int32 := match f with
  | none => 0
  | some q => bynS C R q n m
theorem farB_nI (C : List (Nat × Nat)) (R : Nat → Int32) (p q : Nat) : ∃ n : Nat, n ≤ 99 ∧ farB C R p q = nI n := clp_nI _
theorem furS_2 (C : List (Nat × Nat)) (R : Nat → Int32) (q : Nat) : ∀ p, (furS C R q p).2 = -1 ∨ ∃ n : Nat, n ≤ 99 ∧ (furS C R q p).2 = nI n
  | 0 => Or.inl rfl
  | p + 1 => by
    unfold furS
    split
    · exact Or.inr (farB_nI C R p q)
    · exact furS_2 C R q p
theorem furS_m1 (C : List (Nat × Nat)) (R : Nat → Int32) (q p : Nat) : ¬ (furS C R q p).2 < -1 := by
  rcases furS_2 C R q p with e | ⟨n, hn, e⟩
  · rw [e]; decide
  · rw [e]
    intro hlt
    have := nI_m1l (a := n) (by omega)
    have h2 : (-1 : Int32) < nI n := by rw [this]; trivial
    exact absurd (Int32.lt_trans hlt h2) (Int32.lt_irrefl)
/-- who is furthest is one of those who live -/
theorem furS_1 (C : List (Nat × Nat)) (R : Nat → Int32) (q : Nat) : ∀ p, p ≤ 8 → (furS C R q p).1 = -1 ∨ ∃ n : Nat, n < p ∧ rLv R n = true ∧ n ≠ q ∧ (furS C R q p).1 = nI n
  | 0, _ => Or.inl rfl
  | p + 1, h8 => by
    unfold furS
    split
    · rename_i h; exact Or.inr ⟨p, by omega, h.1, h.2.1, rfl⟩
    · rcases furS_1 C R q p (by omega) with e | ⟨n, h1, h2, h3, h4⟩
      · exact Or.inl e
      · exact Or.inr ⟨n, by omega, h2, h3, h4⟩
section LAW2
variable {Z : rx_Z} {d : Nat} {h : Nat → Option rx_E} {ι : Nat → Nat → Int32} {w : Nat × Nat} {l r : Nat}
theorem lwSep (hlr : r + 4 ≤ l ∨ l + 4 ≤ r) : ∀ a, r ≤ a → a < r + 4 → ¬ lwS l a := fun a h1 h2 h3 => by unfold lwS at h3; omega
theorem lwNs0 : ¬ lwS l l := by unfold lwS; omega
theorem lwNs1 : ¬ lwS l (l + 1) := by unfold lwS; omega
theorem lw_fromDuke (hl : oLw h l) (hz : Z.2.1 ≤ l) (hr : oRl h r) (hlr : r + 4 ≤ l ∨ l + 4 ≤ r) {C : List (Nat × Nat)} (hC : lwIs ι l C) {dk : Option Nat} (hd : rl ι r 58 = oN dk) (hd8 : ∀ q, dk = some q → q < 8) {p : Nat} (hp : p < 8) : ∃ ι', rz_f Z (d + 4) 49 [.ref l, .ref r, .int (nI p)] (rz_mk h ι, w) = some (.inl (some (.int (fromD C (rl ι r) dk p))), (rz_mk h ι', w)) ∧ fr (lwS l) ι ι' := by
  have hd' : ι r 5 = oN dk := hd
  cases dk with
  | none =>
    refine ⟨ι, ?_, fr.refl ι⟩
    rw [e49]
    simp (decide := true) (maxDischargeDepth := 4) only [g49_0, g49_1, g49_4, g49_5, g49_8, g49_9, g49_12, g49_13, g49_16, g49_17, g49_20, g49_21, g49_22, g49_23, g49_24, g49_27, g49_30, rz_k_inl, rz_k_inr, Option.toList_some, Option.toList_none, List.cons_append, List.nil_append, List.append_nil, rz_up_s, rz_u_s, rz_up_n, rz_u_n, ne_eq, not_false_eq_true, not_true_eq_false, Nat.add_assoc, Nat.reduceAdd, reduceIte, Nat.add_eq_left, Nat.left_eq_add, Nat.add_left_cancel_iff, Nat.reduceEqDiff, Nat.add_right_cancel_iff, rz_nb0, rz_nb1, rz_nbb, rz_nbi, rz_isr, rz_zle, if_true, if_false, rz_bi0, rz_bi1, Bool.not_eq_true, Bool.not_eq_false, Bool.true_eq_false, Bool.false_eq_true, rz_ix_lit, cl_lit, Nat.reduceLT, oRl_c, oRl_f0, oRl_v0, oRl_f1, oRl_v1, oRl_f2, oRl_v2, oRl_i3, oRl_i4, oRl_i5, oRl_i6, oRl_i7, oRl_i8, oRl_a1, oRl_n1, oRl_a2, oRl_n2, oRl_a3, oRl_n3, hr, hd', oN]
    rfl
  | some q =>
    have hq := hd8 q rfl
    obtain ⟨ι', h1, h2⟩ := lw_between (Z := Z) (d := d) (w := w) hl hz hr hlr hC hp hq
    by_cases hqp : q = p
    · refine ⟨ι, ?_, fr.refl ι⟩
      have c : (nI q = nI p) = True := by rw [hqp]; simp
      rw [e49]
      simp (decide := true) (maxDischargeDepth := 4) only [g49_0, g49_1, g49_4, g49_5, g49_8, g49_9, g49_12, g49_13, g49_16, g49_17, g49_20, g49_21, g49_22, g49_23, g49_24, g49_27, g49_30, rz_k_inl, rz_k_inr, Option.toList_some, Option.toList_none, List.cons_append, List.nil_append, List.append_nil, rz_up_s, rz_u_s, rz_up_n, rz_u_n, ne_eq, not_false_eq_true, not_true_eq_false, Nat.add_assoc, Nat.reduceAdd, reduceIte, Nat.add_eq_left, Nat.left_eq_add, Nat.add_left_cancel_iff, Nat.reduceEqDiff, Nat.add_right_cancel_iff, rz_nb0, rz_nb1, rz_nbb, rz_nbi, rz_isr, rz_zle, if_true, if_false, rz_bi0, rz_bi1, Bool.not_eq_true, Bool.not_eq_false, Bool.true_eq_false, Bool.false_eq_true, rz_ix_lit, cl_lit, Nat.reduceLT, oRl_c, oRl_f0, oRl_v0, oRl_f1, oRl_v1, oRl_f2, oRl_v2, oRl_i3, oRl_i4, oRl_i5, oRl_i6, oRl_i7, oRl_i8, oRl_a1, oRl_n1, oRl_a2, oRl_n2, oRl_a3, oRl_n3, hr, hd', oN, nI_m1 (show q < 2147483648 by omega), c]
      rw [fromD, if_pos hqp]
    · refine ⟨ι', ?_, h2⟩
      have c : (nI q = nI p) = False := by rw [nI_eq2 (by omega) (by omega)]; simp [hqp]
      rw [e49]
      simp (decide := true) (maxDischargeDepth := 4) only [g49_0, g49_1, g49_4, g49_5, g49_8, g49_9, g49_12, g49_13, g49_16, g49_17, g49_20, g49_21, g49_22, g49_23, g49_24, g49_27, g49_30, rz_k_inl, rz_k_inr, Option.toList_some, Option.toList_none, List.cons_append, List.nil_append, List.append_nil, rz_up_s, rz_u_s, rz_up_n, rz_u_n, ne_eq, not_false_eq_true, not_true_eq_false, Nat.add_assoc, Nat.reduceAdd, reduceIte, Nat.add_eq_left, Nat.left_eq_add, Nat.add_left_cancel_iff, Nat.reduceEqDiff, Nat.add_right_cancel_iff, rz_nb0, rz_nb1, rz_nbb, rz_nbi, rz_isr, rz_zle, if_true, if_false, rz_bi0, rz_bi1, Bool.not_eq_true, Bool.not_eq_false, Bool.true_eq_false, Bool.false_eq_true, rz_ix_lit, cl_lit, Nat.reduceLT, oRl_c, oRl_f0, oRl_v0, oRl_f1, oRl_v1, oRl_f2, oRl_v2, oRl_i3, oRl_i4, oRl_i5, oRl_i6, oRl_i7, oRl_i8, oRl_a1, oRl_n1, oRl_a2, oRl_n2, oRl_a3, oRl_n3, oLw_c, oLw_f0, oLw_v0, oLw_f1, oLw_v1, oLw_f2, oLw_v2, oLw_i3, oLw_a1, oLw_n1, oLw_a2, oLw_n2, oLw_a3, oLw_n3, hl, hr, hd', oN, nI_m1 (show q < 2147483648 by omega), c, h1, fromD, hqp]
theorem lw_furthest (hl : oLw h l) (hz : Z.2.1 ≤ l) (hr : oRl h r) (hlr : r + 4 ≤ l ∨ l + 4 ≤ r) {C : List (Nat × Nat)} (hC : lwIs ι l C) {m : Nat} (hm : rl ι r 57 = nI m) (hm8 : m ≤ 8) {f : Option Nat} (hf8 : ∀ q, f = some q → q < 8) : ∃ ι', rz_f Z (d + 4) 51 [.ref l, .ref r, .int (oN f)] (rz_mk h ι, w) = some (.inl (some (.int (furO C (rl ι r) f m))), (rz_mk h ι', w)) ∧ fr (lwS l) ι ι' := by
  have hm' : ι r 3 = nI m := hm
  cases f with
  | none =>
    refine ⟨ι, ?_, fr.refl ι⟩
    rw [e51]
    simp (decide := true) (maxDischargeDepth := 4) only [g51_0, g51_1, g51_2, g51_3, g51_5, g51_6, g51_10, g51_11, g51_14, g51_17, g51_18, g51_19, g51_22, g51_23, g51_25, g51_28, g51_31, g51_33, g51_34, g51_37, g51_38, g51_39, g51_41, g51_42, g51_45, g51_48, g51_49, g51_51, g51_53, g51_55, g51_58, g51_60, g51_62, g51_64, g51_65, g51_68, g51_71, g51_72, rz_k_inl, rz_k_inr, Option.toList_some, Option.toList_none, List.cons_append, List.nil_append, List.append_nil, rz_up_s, rz_u_s, rz_up_n, rz_u_n, ne_eq, not_false_eq_true, not_true_eq_false, Nat.add_assoc, Nat.reduceAdd, reduceIte, Nat.add_eq_left, Nat.left_eq_add, Nat.add_left_cancel_iff, Nat.reduceEqDiff, Nat.add_right_cancel_iff, rz_nb0, rz_nb1, rz_nbb, rz_nbi, rz_isr, rz_zle, if_true, if_false, rz_bi0, rz_bi1, Bool.not_eq_true, Bool.not_eq_false, Bool.true_eq_false, Bool.false_eq_true, rz_ix_lit, cl_lit, Nat.reduceLT, oN]
    rw [g51_8]
    simp (decide := true) (maxDischargeDepth := 4) only [g51_0, g51_1, g51_2, g51_3, g51_5, g51_6, g51_10, g51_11, g51_14, g51_17, g51_18, g51_19, g51_22, g51_23, g51_25, g51_28, g51_31, g51_33, g51_34, g51_37, g51_38, g51_39, g51_41, g51_42, g51_45, g51_48, g51_49, g51_51, g51_53, g51_55, g51_58, g51_60, g51_62, g51_64, g51_65, g51_68, g51_71, g51_72, rz_k_inl, rz_k_inr, Option.toList_some, Option.toList_none, List.cons_append, List.nil_append, List.append_nil, rz_up_s, rz_u_s, rz_up_n, rz_u_n, ne_eq, not_false_eq_true, not_true_eq_false, Nat.add_assoc, Nat.reduceAdd, reduceIte, Nat.add_eq_left, Nat.left_eq_add, Nat.add_left_cancel_iff, Nat.reduceEqDiff, Nat.add_right_cancel_iff, rz_nb0, rz_nb1, rz_nbb, rz_nbi, rz_isr, rz_zle, if_true, if_false, rz_bi0, rz_bi1, Bool.not_eq_true, Bool.not_eq_false, Bool.true_eq_false, Bool.false_eq_true, rz_ix_lit, cl_lit, Nat.reduceLT, oRl_c, oRl_f0, oRl_v0, oRl_f1, oRl_v1, oRl_f2, oRl_v2, oRl_i3, oRl_i4, oRl_i5, oRl_i6, oRl_i7, oRl_i8, oRl_a1, oRl_n1, oRl_a2, oRl_n2, oRl_a3, oRl_n3, hr, hm']
    rw [rz_same (fun _ => rfl) (fun _ => rfl)]
    rfl
  | some q =>
    have hq := hf8 q rfl
    have L := rz_loop (fun p (a : (Nat → Nat → Int32) × Option Value) => rg Z (d + 3) rx_m51 8 [some (.ref l), some (.ref r), some (.int (nI q)), some (.int (furS C (rl ι r) q p).1), some (.int (furS C (rl ι r) q p).2), some (.int (nI p)), a.2] [] (rz_mk h a.1, w)) m (fun p a => fr (lwS l) ι a.1) (by
      rintro p ⟨ι1, l6⟩ hp hf
      have hf : fr (lwS l) ι ι1 := hf
      have er : rl ι1 r = rl ι r := rl_fr hf (lwSep hlr)
      have hm1 : ι1 r 3 = nI m := by rw [hf r (lwSep hlr r (by omega) (by omega))]; exact hm'
      have c : (nI p < nI m) = True := by rw [nI_lt2 (by omega) (by omega)]; simp [hp]
      obtain ⟨ι2, h1, h2⟩ := lw_between (Z := Z) (d := d) (w := w) hl hz hr hlr (hC.fr hf lwNs0 lwNs1) (show p < 8 by omega) hq
      have lv := rm_lives (Z := Z) (d := d + 2) (w := w) (ι := ι1) hr (show p < 8 by omega)
      rw [er] at h1 lv
      have m1 := nI_m1 (show q < 2147483648 by omega)
      by_cases hlv : rLv (rl ι r) p = true
      · by_cases hpq : p = q
        · refine ⟨(ι1, some (.int (-1))), hf, ?_⟩
          have cq : (nI p = nI q) = True := by rw [hpq]; simp
          try dsimp only
          rw [g51_8]
          try simp (decide := true) (maxDischargeDepth := 4) only [g51_0, g51_1, g51_2, g51_3, g51_5, g51_6, g51_10, g51_11, g51_14, g51_17, g51_18, g51_19, g51_22, g51_23, g51_25, g51_28, g51_31, g51_33, g51_34, g51_37, g51_38, g51_39, g51_41, g51_42, g51_45, g51_48, g51_51, g51_53, g51_55, g51_58, g51_60, g51_62, g51_64, g51_65, g51_68, g51_71, g51_72, rz_join, rz_k_inl, rz_k_inr, Option.toList_some, Option.toList_none, List.cons_append, List.nil_append, List.append_nil, rz_up_s, rz_u_s, rz_up_n, rz_u_n, ne_eq, not_false_eq_true, not_true_eq_false, Nat.add_assoc, Nat.reduceAdd, reduceIte, Nat.add_eq_left, Nat.left_eq_add, Nat.add_left_cancel_iff, Nat.reduceEqDiff, Nat.add_right_cancel_iff, rz_nb0, rz_nb1, rz_nbb, rz_nbi, rz_isr, rz_zle, if_true, if_false, rz_bi0, rz_bi1, Bool.not_eq_true, Bool.not_eq_false, Bool.true_eq_false, Bool.false_eq_true, rz_ix_lit, cl_lit, Nat.reduceLT, oRl_c, oRl_f0, oRl_v0, oRl_f1, oRl_v1, oRl_f2, oRl_v2, oRl_i3, oRl_i4, oRl_i5, oRl_i6, oRl_i7, oRl_i8, oRl_a1, oRl_n1, oRl_a2, oRl_n2, oRl_a3, oRl_n3, hr, hm1, c, m1, lv, hlv, cq, furS_m1, nI_1]
          try simp (decide := true) (maxDischargeDepth := 4) only [g51_0, g51_1, g51_2, g51_3, g51_5, g51_6, g51_10, g51_11, g51_14, g51_17, g51_18, g51_19, g51_22, g51_23, g51_25, g51_28, g51_31, g51_33, g51_34, g51_37, g51_38, g51_39, g51_41, g51_42, g51_45, g51_48, g51_49, g51_51, g51_53, g51_55, g51_58, g51_60, g51_62, g51_64, g51_65, g51_68, g51_71, g51_72, rz_join, rz_k_inl, rz_k_inr, Option.toList_some, Option.toList_none, List.cons_append, List.nil_append, List.append_nil, rz_up_s, rz_u_s, rz_up_n, rz_u_n, ne_eq, not_false_eq_true, not_true_eq_false, Nat.add_assoc, Nat.reduceAdd, reduceIte, Nat.add_eq_left, Nat.left_eq_add, Nat.add_left_cancel_iff, Nat.reduceEqDiff, Nat.add_right_cancel_iff, rz_nb0, rz_nb1, rz_nbb, rz_nbi, rz_isr, rz_zle, if_true, if_false, rz_bi0, rz_bi1, Bool.not_eq_true, Bool.not_eq_false, Bool.true_eq_false, Bool.false_eq_true, rz_ix_lit, cl_lit, Nat.reduceLT, oRl_c, oRl_f0, oRl_v0, oRl_f1, oRl_v1, oRl_f2, oRl_v2, oRl_i3, oRl_i4, oRl_i5, oRl_i6, oRl_i7, oRl_i8, oRl_a1, oRl_n1, oRl_a2, oRl_n2, oRl_a3, oRl_n3, hr, hm1, c, m1, lv, hlv, cq, furS_m1, nI_1]
          rw [furS, if_neg (fun z => z.2.1 hpq)]
        · have cq : (nI p = nI q) = False := by rw [nI_eq2 (by omega) (by omega)]; simp [hpq]
          refine ⟨(ι2, some (.int (farB C (rl ι r) p q))), hf.trans h2, ?_⟩
          try dsimp only
          rw [g51_8]
          try simp (decide := true) (maxDischargeDepth := 4) only [g51_0, g51_1, g51_2, g51_3, g51_5, g51_6, g51_10, g51_11, g51_14, g51_17, g51_18, g51_19, g51_22, g51_23, g51_25, g51_28, g51_31, g51_33, g51_34, g51_37, g51_38, g51_39, g51_41, g51_42, g51_45, g51_48, g51_51, g51_53, g51_55, g51_58, g51_60, g51_62, g51_64, g51_65, g51_68, g51_71, g51_72, rz_join, rz_k_inl, rz_k_inr, Option.toList_some, Option.toList_none, List.cons_append, List.nil_append, List.append_nil, rz_up_s, rz_u_s, rz_up_n, rz_u_n, ne_eq, not_false_eq_true, not_true_eq_false, Nat.add_assoc, Nat.reduceAdd, reduceIte, Nat.add_eq_left, Nat.left_eq_add, Nat.add_left_cancel_iff, Nat.reduceEqDiff, Nat.add_right_cancel_iff, rz_nb0, rz_nb1, rz_nbb, rz_nbi, rz_isr, rz_zle, if_true, if_false, rz_bi0, rz_bi1, Bool.not_eq_true, Bool.not_eq_false, Bool.true_eq_false, Bool.false_eq_true, rz_ix_lit, cl_lit, Nat.reduceLT, oRl_c, oRl_f0, oRl_v0, oRl_f1, oRl_v1, oRl_f2, oRl_v2, oRl_i3, oRl_i4, oRl_i5, oRl_i6, oRl_i7, oRl_i8, oRl_a1, oRl_n1, oRl_a2, oRl_n2, oRl_a3, oRl_n3, oLw_c, oLw_f0, oLw_v0, oLw_f1, oLw_v1, oLw_f2, oLw_v2, oLw_i3, oLw_a1, oLw_n1, oLw_a2, oLw_n2, oLw_a3, oLw_n3, hl, hr, hm1, c, m1, lv, hlv, cq, h1, nI_1]
          try simp (decide := true) (maxDischargeDepth := 4) only [g51_0, g51_1, g51_2, g51_3, g51_5, g51_6, g51_10, g51_11, g51_14, g51_17, g51_18, g51_19, g51_22, g51_23, g51_25, g51_28, g51_31, g51_33, g51_34, g51_37, g51_38, g51_39, g51_41, g51_42, g51_45, g51_48, g51_49, g51_51, g51_53, g51_55, g51_58, g51_60, g51_62, g51_64, g51_65, g51_68, g51_71, g51_72, rz_join, rz_k_inl, rz_k_inr, Option.toList_some, Option.toList_none, List.cons_append, List.nil_append, List.append_nil, rz_up_s, rz_u_s, rz_up_n, rz_u_n, ne_eq, not_false_eq_true, not_true_eq_false, Nat.add_assoc, Nat.reduceAdd, reduceIte, Nat.add_eq_left, Nat.left_eq_add, Nat.add_left_cancel_iff, Nat.reduceEqDiff, Nat.add_right_cancel_iff, rz_nb0, rz_nb1, rz_nbb, rz_nbi, rz_isr, rz_zle, if_true, if_false, rz_bi0, rz_bi1, Bool.not_eq_true, Bool.not_eq_false, Bool.true_eq_false, Bool.false_eq_true, rz_ix_lit, cl_lit, Nat.reduceLT, oRl_c, oRl_f0, oRl_v0, oRl_f1, oRl_v1, oRl_f2, oRl_v2, oRl_i3, oRl_i4, oRl_i5, oRl_i6, oRl_i7, oRl_i8, oRl_a1, oRl_n1, oRl_a2, oRl_n2, oRl_a3, oRl_n3, oLw_c, oLw_f0, oLw_v0, oLw_f1, oLw_v1, oLw_f2, oLw_v2, oLw_i3, oLw_a1, oLw_n1, oLw_a2, oLw_n2, oLw_a3, oLw_n3, hl, hr, hm1, c, m1, lv, hlv, cq, h1, nI_1]
          refine rz_same (fun hb => ?_) (fun hb => ?_)
          · rw [furS, if_pos ⟨hlv, hpq, hb⟩]
          · rw [furS, if_neg (fun z => hb z.2.2)]
      · refine ⟨(ι1, some (.int (-1))), hf, ?_⟩
        rw [Bool.not_eq_true] at hlv
        try dsimp only
        rw [g51_8]
        try simp (decide := true) (maxDischargeDepth := 4) only [g51_0, g51_1, g51_2, g51_3, g51_5, g51_6, g51_10, g51_11, g51_14, g51_17, g51_18, g51_19, g51_22, g51_23, g51_25, g51_28, g51_31, g51_33, g51_34, g51_37, g51_38, g51_39, g51_41, g51_42, g51_45, g51_48, g51_51, g51_53, g51_55, g51_58, g51_60, g51_62, g51_64, g51_65, g51_68, g51_71, g51_72, rz_join, rz_k_inl, rz_k_inr, Option.toList_some, Option.toList_none, List.cons_append, List.nil_append, List.append_nil, rz_up_s, rz_u_s, rz_up_n, rz_u_n, ne_eq, not_false_eq_true, not_true_eq_false, Nat.add_assoc, Nat.reduceAdd, reduceIte, Nat.add_eq_left, Nat.left_eq_add, Nat.add_left_cancel_iff, Nat.reduceEqDiff, Nat.add_right_cancel_iff, rz_nb0, rz_nb1, rz_nbb, rz_nbi, rz_isr, rz_zle, if_true, if_false, rz_bi0, rz_bi1, Bool.not_eq_true, Bool.not_eq_false, Bool.true_eq_false, Bool.false_eq_true, rz_ix_lit, cl_lit, Nat.reduceLT, oRl_c, oRl_f0, oRl_v0, oRl_f1, oRl_v1, oRl_f2, oRl_v2, oRl_i3, oRl_i4, oRl_i5, oRl_i6, oRl_i7, oRl_i8, oRl_a1, oRl_n1, oRl_a2, oRl_n2, oRl_a3, oRl_n3, hr, hm1, c, m1, lv, hlv, furS_m1, nI_1]
        try simp (decide := true) (maxDischargeDepth := 4) only [g51_0, g51_1, g51_2, g51_3, g51_5, g51_6, g51_10, g51_11, g51_14, g51_17, g51_18, g51_19, g51_22, g51_23, g51_25, g51_28, g51_31, g51_33, g51_34, g51_37, g51_38, g51_39, g51_41, g51_42, g51_45, g51_48, g51_49, g51_51, g51_53, g51_55, g51_58, g51_60, g51_62, g51_64, g51_65, g51_68, g51_71, g51_72, rz_join, rz_k_inl, rz_k_inr, Option.toList_some, Option.toList_none, List.cons_append, List.nil_append, List.append_nil, rz_up_s, rz_u_s, rz_up_n, rz_u_n, ne_eq, not_false_eq_true, not_true_eq_false, Nat.add_assoc, Nat.reduceAdd, reduceIte, Nat.add_eq_left, Nat.left_eq_add, Nat.add_left_cancel_iff, Nat.reduceEqDiff, Nat.add_right_cancel_iff, rz_nb0, rz_nb1, rz_nbb, rz_nbi, rz_isr, rz_zle, if_true, if_false, rz_bi0, rz_bi1, Bool.not_eq_true, Bool.not_eq_false, Bool.true_eq_false, Bool.false_eq_true, rz_ix_lit, cl_lit, Nat.reduceLT, oRl_c, oRl_f0, oRl_v0, oRl_f1, oRl_v1, oRl_f2, oRl_v2, oRl_i3, oRl_i4, oRl_i5, oRl_i6, oRl_i7, oRl_i8, oRl_a1, oRl_n1, oRl_a2, oRl_n2, oRl_a3, oRl_n3, hr, hm1, c, m1, lv, hlv, furS_m1, nI_1]
        rw [furS, if_neg (fun z => by rw [hlv] at z; exact absurd z.1 (by decide))]) m 0 (ι, none) (by omega) (fr.refl ι)
    obtain ⟨⟨ι', l6⟩, hf, L⟩ := L
    have hf : fr (lwS l) ι ι' := hf
    try dsimp only at L
    refine ⟨ι', ?_, hf⟩
    have hm1 : ι' r 3 = nI m := by rw [hf r (lwSep hlr r (by omega) (by omega))]; exact hm'
    have c : (nI m < nI m) = False := by rw [nI_lt2 (by omega) (by omega)]; simp
    rw [e51]
    simp (decide := true) (maxDischargeDepth := 4) only [g51_0, g51_1, g51_2, g51_3, g51_5, g51_6, g51_10, g51_11, g51_14, g51_17, g51_18, g51_19, g51_22, g51_23, g51_25, g51_28, g51_31, g51_33, g51_34, g51_37, g51_38, g51_39, g51_41, g51_42, g51_45, g51_48, g51_49, g51_51, g51_53, g51_55, g51_58, g51_60, g51_62, g51_64, g51_65, g51_68, g51_71, g51_72, rz_k_inl, rz_k_inr, Option.toList_some, Option.toList_none, List.cons_append, List.nil_append, List.append_nil, rz_up_s, rz_u_s, rz_up_n, rz_u_n, ne_eq, not_false_eq_true, not_true_eq_false, Nat.add_assoc, Nat.reduceAdd, reduceIte, Nat.add_eq_left, Nat.left_eq_add, Nat.add_left_cancel_iff, Nat.reduceEqDiff, Nat.add_right_cancel_iff, rz_nb0, rz_nb1, rz_nbb, rz_nbi, rz_isr, rz_zle, if_true, if_false, rz_bi0, rz_bi1, Bool.not_eq_true, Bool.not_eq_false, Bool.true_eq_false, Bool.false_eq_true, rz_ix_lit, cl_lit, Nat.reduceLT, oN]
    refine L.trans ?_
    rw [g51_8]
    simp (decide := true) (maxDischargeDepth := 4) only [g51_0, g51_1, g51_2, g51_3, g51_5, g51_6, g51_10, g51_11, g51_14, g51_17, g51_18, g51_19, g51_22, g51_23, g51_25, g51_28, g51_31, g51_33, g51_34, g51_37, g51_38, g51_39, g51_41, g51_42, g51_45, g51_48, g51_49, g51_51, g51_53, g51_55, g51_58, g51_60, g51_62, g51_64, g51_65, g51_68, g51_71, g51_72, rz_k_inl, rz_k_inr, Option.toList_some, Option.toList_none, List.cons_append, List.nil_append, List.append_nil, rz_up_s, rz_u_s, rz_up_n, rz_u_n, ne_eq, not_false_eq_true, not_true_eq_false, Nat.add_assoc, Nat.reduceAdd, reduceIte, Nat.add_eq_left, Nat.left_eq_add, Nat.add_left_cancel_iff, Nat.reduceEqDiff, Nat.add_right_cancel_iff, rz_nb0, rz_nb1, rz_nbb, rz_nbi, rz_isr, rz_zle, if_true, if_false, rz_bi0, rz_bi1, Bool.not_eq_true, Bool.not_eq_false, Bool.true_eq_false, Bool.false_eq_true, rz_ix_lit, cl_lit, Nat.reduceLT, oRl_c, oRl_f0, oRl_v0, oRl_f1, oRl_v1, oRl_f2, oRl_v2, oRl_i3, oRl_i4, oRl_i5, oRl_i6, oRl_i7, oRl_i8, oRl_a1, oRl_n1, oRl_a2, oRl_n2, oRl_a3, oRl_n3, hr, hm1, c]
    rfl
theorem lw_beyond (hl : oLw h l) (hz : Z.2.1 ≤ l) (hr : oRl h r) (hlr : r + 4 ≤ l ∨ l + 4 ≤ r) {C : List (Nat × Nat)} (hC : lwIs ι l C) {m : Nat} (hm : rl ι r 57 = nI m) (hm8 : m ≤ 8) {f : Option Nat} (hf8 : ∀ q, f = some q → q < 8) (n : Int32) : ∃ ι', rz_f Z (d + 4) 52 [.ref l, .ref r, .int (oN f), .int n] (rz_mk h ι, w) = some (.inl (some (.int (bynO C (rl ι r) f n m))), (rz_mk h ι', w)) ∧ fr (lwS l) ι ι' := by
  have hm' : ι r 3 = nI m := hm
  cases f with
  | none =>
    refine ⟨ι, ?_, fr.refl ι⟩
    rw [e52]
    simp (decide := true) (maxDischargeDepth := 4) only [g52_0, g52_1, g52_3, g52_4, g52_8, g52_9, g52_12, g52_15, g52_16, g52_17, g52_20, g52_21, g52_23, g52_26, g52_29, g52_31, g52_32, g52_35, g52_36, g52_37, g52_39, g52_40, g52_43, g52_44, g52_47, g52_49, g52_50, g52_52, g52_53, g52_54, g52_56, g52_59, g52_62, g52_64, rz_k_inl, rz_k_inr, Option.toList_some, Option.toList_none, List.cons_append, List.nil_append, List.append_nil, rz_up_s, rz_u_s, rz_up_n, rz_u_n, ne_eq, not_false_eq_true, not_true_eq_false, Nat.add_assoc, Nat.reduceAdd, reduceIte, Nat.add_eq_left, Nat.left_eq_add, Nat.add_left_cancel_iff, Nat.reduceEqDiff, Nat.add_right_cancel_iff, rz_nb0, rz_nb1, rz_nbb, rz_nbi, rz_isr, rz_zle, if_true, if_false, rz_bi0, rz_bi1, Bool.not_eq_true, Bool.not_eq_false, Bool.true_eq_false, Bool.false_eq_true, rz_ix_lit, cl_lit, Nat.reduceLT, oN]
    rw [g52_6]
    simp (decide := true) (maxDischargeDepth := 4) only [g52_0, g52_1, g52_3, g52_4, g52_8, g52_9, g52_12, g52_15, g52_16, g52_17, g52_20, g52_21, g52_23, g52_26, g52_29, g52_31, g52_32, g52_35, g52_36, g52_37, g52_39, g52_40, g52_43, g52_44, g52_47, g52_49, g52_50, g52_52, g52_53, g52_54, g52_56, g52_59, g52_62, g52_64, rz_k_inl, rz_k_inr, Option.toList_some, Option.toList_none, List.cons_append, List.nil_append, List.append_nil, rz_up_s, rz_u_s, rz_up_n, rz_u_n, ne_eq, not_false_eq_true, not_true_eq_false, Nat.add_assoc, Nat.reduceAdd, reduceIte, Nat.add_eq_left, Nat.left_eq_add, Nat.add_left_cancel_iff, Nat.reduceEqDiff, Nat.add_right_cancel_iff, rz_nb0, rz_nb1, rz_nbb, rz_nbi, rz_isr, rz_zle, if_true, if_false, rz_bi0, rz_bi1, Bool.not_eq_true, Bool.not_eq_false, Bool.true_eq_false, Bool.false_eq_true, rz_ix_lit, cl_lit, Nat.reduceLT, oRl_c, oRl_f0, oRl_v0, oRl_f1, oRl_v1, oRl_f2, oRl_v2, oRl_i3, oRl_i4, oRl_i5, oRl_i6, oRl_i7, oRl_i8, oRl_a1, oRl_n1, oRl_a2, oRl_n2, oRl_a3, oRl_n3, hr, hm']
    rw [rz_same (fun _ => rfl) (fun _ => rfl)]
    rfl
  | some q =>
    have hq := hf8 q rfl
    have L := rz_loop (fun p (a : (Nat → Nat → Int32)) => rg Z (d + 3) rx_m52 6 [some (.ref l), some (.ref r), some (.int (nI q)), some (.int n), some (.int (bynS C (rl ι r) q n p)), some (.int (nI p))] [] (rz_mk h a, w)) m (fun p a => fr (lwS l) ι a) (by
      rintro p ι1 hp hf
      have er : rl ι1 r = rl ι r := rl_fr hf (lwSep hlr)
      have hm1 : ι1 r 3 = nI m := by rw [hf r (lwSep hlr r (by omega) (by omega))]; exact hm'
      have c : (nI p < nI m) = True := by rw [nI_lt2 (by omega) (by omega)]; simp [hp]
      obtain ⟨ι2, h1, h2⟩ := lw_between (Z := Z) (d := d) (w := w) hl hz hr hlr (hC.fr hf lwNs0 lwNs1) (show p < 8 by omega) hq
      have lv := rm_lives (Z := Z) (d := d + 2) (w := w) (ι := ι1) hr (show p < 8 by omega)
      rw [er] at h1 lv
      have m1 := nI_m1 (show q < 2147483648 by omega)
      by_cases hlv : rLv (rl ι r) p = true
      · by_cases hpq : p = q
        · refine ⟨ι1, hf, ?_⟩
          have cq : (nI p = nI q) = True := by rw [hpq]; simp
          try dsimp only
          rw [g52_6]
          simp (decide := true) (maxDischargeDepth := 4) only [g52_0, g52_1, g52_3, g52_4, g52_8, g52_9, g52_12, g52_15, g52_16, g52_17, g52_20, g52_21, g52_23, g52_26, g52_29, g52_31, g52_32, g52_35, g52_36, g52_37, g52_39, g52_40, g52_43, g52_44, g52_47, g52_49, g52_50, g52_52, g52_53, g52_54, g52_56, g52_59, g52_62, g52_64, rz_k_inl, rz_k_inr, Option.toList_some, Option.toList_none, List.cons_append, List.nil_append, List.append_nil, rz_up_s, rz_u_s, rz_up_n, rz_u_n, ne_eq, not_false_eq_true, not_true_eq_false, Nat.add_assoc, Nat.reduceAdd, reduceIte, Nat.add_eq_left, Nat.left_eq_add, Nat.add_left_cancel_iff, Nat.reduceEqDiff, Nat.add_right_cancel_iff, rz_nb0, rz_nb1, rz_nbb, rz_nbi, rz_isr, rz_zle, if_true, if_false, rz_bi0, rz_bi1, Bool.not_eq_true, Bool.not_eq_false, Bool.true_eq_false, Bool.false_eq_true, rz_ix_lit, cl_lit, Nat.reduceLT, oRl_c, oRl_f0, oRl_v0, oRl_f1, oRl_v1, oRl_f2, oRl_v2, oRl_i3, oRl_i4, oRl_i5, oRl_i6, oRl_i7, oRl_i8, oRl_a1, oRl_n1, oRl_a2, oRl_n2, oRl_a3, oRl_n3, hr, hm1, c, m1, lv, hlv, cq, nI_1]
          rw [bynS, if_neg (fun z => z.2.1 hpq)]
        · have cq : (nI p = nI q) = False := by rw [nI_eq2 (by omega) (by omega)]; simp [hpq]
          refine ⟨ι2, hf.trans h2, ?_⟩
          try dsimp only
          rw [g52_6]
          simp (decide := true) (maxDischargeDepth := 4) only [g52_0, g52_1, g52_3, g52_4, g52_8, g52_9, g52_12, g52_15, g52_16, g52_17, g52_20, g52_21, g52_23, g52_26, g52_29, g52_31, g52_32, g52_35, g52_36, g52_37, g52_39, g52_40, g52_43, g52_44, g52_47, g52_49, g52_50, g52_52, g52_53, g52_54, g52_56, g52_59, g52_62, g52_64, rz_k_inl, rz_k_inr, Option.toList_some, Option.toList_none, List.cons_append, List.nil_append, List.append_nil, rz_up_s, rz_u_s, rz_up_n, rz_u_n, ne_eq, not_false_eq_true, not_true_eq_false, Nat.add_assoc, Nat.reduceAdd, reduceIte, Nat.add_eq_left, Nat.left_eq_add, Nat.add_left_cancel_iff, Nat.reduceEqDiff, Nat.add_right_cancel_iff, rz_nb0, rz_nb1, rz_nbb, rz_nbi, rz_isr, rz_zle, if_true, if_false, rz_bi0, rz_bi1, Bool.not_eq_true, Bool.not_eq_false, Bool.true_eq_false, Bool.false_eq_true, rz_ix_lit, cl_lit, Nat.reduceLT, oRl_c, oRl_f0, oRl_v0, oRl_f1, oRl_v1, oRl_f2, oRl_v2, oRl_i3, oRl_i4, oRl_i5, oRl_i6, oRl_i7, oRl_i8, oRl_a1, oRl_n1, oRl_a2, oRl_n2, oRl_a3, oRl_n3, oLw_c, oLw_f0, oLw_v0, oLw_f1, oLw_v1, oLw_f2, oLw_v2, oLw_i3, oLw_a1, oLw_n1, oLw_a2, oLw_n2, oLw_a3, oLw_n3, hl, hr, hm1, c, m1, lv, hlv, cq, h1, nI_1]
          refine rz_same (fun hb => ?_) (fun hb => ?_)
          · rw [bynS, if_neg (fun z => z.2.2 hb)]
          · rw [bynS, if_pos ⟨hlv, hpq, hb⟩]
            rfl
      · refine ⟨ι1, hf, ?_⟩
        rw [Bool.not_eq_true] at hlv
        try dsimp only
        rw [g52_6]
        simp (decide := true) (maxDischargeDepth := 4) only [g52_0, g52_1, g52_3, g52_4, g52_8, g52_9, g52_12, g52_15, g52_16, g52_17, g52_20, g52_21, g52_23, g52_26, g52_29, g52_31, g52_32, g52_35, g52_36, g52_37, g52_39, g52_40, g52_43, g52_44, g52_47, g52_49, g52_50, g52_52, g52_53, g52_54, g52_56, g52_59, g52_62, g52_64, rz_k_inl, rz_k_inr, Option.toList_some, Option.toList_none, List.cons_append, List.nil_append, List.append_nil, rz_up_s, rz_u_s, rz_up_n, rz_u_n, ne_eq, not_false_eq_true, not_true_eq_false, Nat.add_assoc, Nat.reduceAdd, reduceIte, Nat.add_eq_left, Nat.left_eq_add, Nat.add_left_cancel_iff, Nat.reduceEqDiff, Nat.add_right_cancel_iff, rz_nb0, rz_nb1, rz_nbb, rz_nbi, rz_isr, rz_zle, if_true, if_false, rz_bi0, rz_bi1, Bool.not_eq_true, Bool.not_eq_false, Bool.true_eq_false, Bool.false_eq_true, rz_ix_lit, cl_lit, Nat.reduceLT, oRl_c, oRl_f0, oRl_v0, oRl_f1, oRl_v1, oRl_f2, oRl_v2, oRl_i3, oRl_i4, oRl_i5, oRl_i6, oRl_i7, oRl_i8, oRl_a1, oRl_n1, oRl_a2, oRl_n2, oRl_a3, oRl_n3, hr, hm1, c, m1, lv, hlv, nI_1]
        rw [bynS, if_neg (fun z => by rw [hlv] at z; exact absurd z.1 (by decide))]) m 0 ι (by omega) (fr.refl ι)
    obtain ⟨ι', hf, L⟩ := L
    try dsimp only at L
    refine ⟨ι', ?_, hf⟩
    have hm1 : ι' r 3 = nI m := by rw [hf r (lwSep hlr r (by omega) (by omega))]; exact hm'
    have c : (nI m < nI m) = False := by rw [nI_lt2 (by omega) (by omega)]; simp
    rw [e52]
    simp (decide := true) (maxDischargeDepth := 4) only [g52_0, g52_1, g52_3, g52_4, g52_8, g52_9, g52_12, g52_15, g52_16, g52_17, g52_20, g52_21, g52_23, g52_26, g52_29, g52_31, g52_32, g52_35, g52_36, g52_37, g52_39, g52_40, g52_43, g52_44, g52_47, g52_49, g52_50, g52_52, g52_53, g52_54, g52_56, g52_59, g52_62, g52_64, rz_k_inl, rz_k_inr, Option.toList_some, Option.toList_none, List.cons_append, List.nil_append, List.append_nil, rz_up_s, rz_u_s, rz_up_n, rz_u_n, ne_eq, not_false_eq_true, not_true_eq_false, Nat.add_assoc, Nat.reduceAdd, reduceIte, Nat.add_eq_left, Nat.left_eq_add, Nat.add_left_cancel_iff, Nat.reduceEqDiff, Nat.add_right_cancel_iff, rz_nb0, rz_nb1, rz_nbb, rz_nbi, rz_isr, rz_zle, if_true, if_false, rz_bi0, rz_bi1, Bool.not_eq_true, Bool.not_eq_false, Bool.true_eq_false, Bool.false_eq_true, rz_ix_lit, cl_lit, Nat.reduceLT, oN]
    refine L.trans ?_
    rw [g52_6]
    simp (decide := true) (maxDischargeDepth := 4) only [g52_0, g52_1, g52_3, g52_4, g52_8, g52_9, g52_12, g52_15, g52_16, g52_17, g52_20, g52_21, g52_23, g52_26, g52_29, g52_31, g52_32, g52_35, g52_36, g52_37, g52_39, g52_40, g52_43, g52_44, g52_47, g52_49, g52_50, g52_52, g52_53, g52_54, g52_56, g52_59, g52_62, g52_64, rz_k_inl, rz_k_inr, Option.toList_some, Option.toList_none, List.cons_append, List.nil_append, List.append_nil, rz_up_s, rz_u_s, rz_up_n, rz_u_n, ne_eq, not_false_eq_true, not_true_eq_false, Nat.add_assoc, Nat.reduceAdd, reduceIte, Nat.add_eq_left, Nat.left_eq_add, Nat.add_left_cancel_iff, Nat.reduceEqDiff, Nat.add_right_cancel_iff, rz_nb0, rz_nb1, rz_nbb, rz_nbi, rz_isr, rz_zle, if_true, if_false, rz_bi0, rz_bi1, Bool.not_eq_true, Bool.not_eq_false, Bool.true_eq_false, Bool.false_eq_true, rz_ix_lit, cl_lit, Nat.reduceLT, oRl_c, oRl_f0, oRl_v0, oRl_f1, oRl_v1, oRl_f2, oRl_v2, oRl_i3, oRl_i4, oRl_i5, oRl_i6, oRl_i7, oRl_i8, oRl_a1, oRl_n1, oRl_a2, oRl_n2, oRl_a3, oRl_n3, hr, hm1, c]
    rfl
end LAW2
