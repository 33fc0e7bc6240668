/-! FarthestHeir$Tape -/
/-- blanks passed over -/
def skB (B : Nat → Int32) (e : Nat) : Nat → Nat → Nat
  | 0, p => p
  | k + 1, p => if B p = 32 then skB B e k (p + 1) else p
def sk (B : Nat → Int32) (e p : Nat) : Nat := skB B e (e - p) p
theorem sk_end {B : Nat → Int32} {e p : Nat} (h : e ≤ p) : sk B e p = p := by
  unfold sk; rw [show e - p = 0 by omega]; rfl
theorem sk_no {B : Nat → Int32} {e p : Nat} (h : B p ≠ 32) : sk B e p = p := by
  unfold sk
  cases e - p with
  | zero => rfl
  | succ k => simp [skB, h]
theorem sk_yes {B : Nat → Int32} {e p : Nat} (hp : p < e) (h : B p = 32) : sk B e p = sk B e (p + 1) := by
  unfold sk
  rw [show e - p = e - (p + 1) + 1 by omega]
  simp [skB, h]
theorem skB_le (B : Nat → Int32) (e : Nat) : ∀ k p, p ≤ skB B e k p ∧ skB B e k p ≤ p + k
  | 0, p => ⟨Nat.le_refl _, Nat.le_refl _⟩
  | k + 1, p => by
    unfold skB
    split
    · have := skB_le B e k (p + 1)
      omega
    · omega
theorem sk_ge (B : Nat → Int32) (e p : Nat) : p ≤ sk B e p := (skB_le B e (e - p) p).1
theorem sk_le {B : Nat → Int32} {e p : Nat} (h : p ≤ e) : sk B e p ≤ e := by
  have := (skB_le B e (e - p) p).2
  unfold sk; omega
/-- the sign that stands there, or the end -/
def sg (B : Nat → Int32) (e p : Nat) : Int32 := if p < e then B p else -1
section TAPE
variable {Z : rx_Z} {d : Nat} {h : Nat → Option rx_E} {ι : Nat → Nat → Int32} {w : Nat × Nat} {t : Nat}
theorem tp_next0 (ht : oTp h t) (hz : Z.2.1 ≤ t) {e : Nat} (he6 : e ≤ 600) : ∀ (k p : Nat) (ι : Nat → Nat → Int32), e - p = k → ι t 1 = nI e → ι t 2 = nI p → rg Z d rx_m94 0 [some (.ref t)] [] (rz_mk h ι, w) = some (.inl (some (.int (sg (ι (t + 1)) e (sk (ι (t + 1)) e p)))), (rz_mk h (rz_up ι t 2 (nI (sk (ι (t + 1)) e p))), w)) := by
  intro k
  induction k with
  | zero =>
    intro p ι hk he hp
    rw [g94_0]
    try simp only [g94_1, g94_4, g94_5, g94_8, g94_11, g94_12, g94_15, g94_16, g94_19, g94_20, g94_22, g94_25, g94_26, g94_27, g94_30, g94_31, g94_32, g94_35, g94_38, g94_39, g94_42, g94_43, g94_46, g94_49, g94_50, g94_53, g94_54, g94_57, g94_58, g94_61, rz_join, rz_k_inl, rz_k_inr, Option.toList_some, Option.toList_none, List.cons_append, List.nil_append, List.append_nil, rz_up_s, rz_u_s, rz_up_n, rz_u_n, ne_eq, not_false_eq_true, not_true_eq_false, Nat.add_assoc, Nat.reduceAdd, reduceIte, Nat.add_eq_left, Nat.left_eq_add, Nat.add_left_cancel_iff, Nat.reduceEqDiff, Nat.add_right_cancel_iff, rz_nb0, rz_nb1, rz_nbb, rz_isr, rz_zle, if_true, if_false, rz_bi0, rz_bi1, Bool.not_eq_true, Bool.not_eq_false, Bool.true_eq_false, Bool.false_eq_true, rz_ix_nat, oTp_c, oTp_f0, oTp_v0, oTp_i1, oTp_i2, oTp_i3, oTp_i4, oTp_i5, oTp_i6, oTp_a1, oTp_n1, ht, hz, he, hp]
    try simp only [g94_1, g94_4, g94_5, g94_8, g94_11, g94_12, g94_15, g94_16, g94_19, g94_20, g94_22, g94_25, g94_26, g94_27, g94_30, g94_31, g94_32, g94_35, g94_38, g94_39, g94_42, g94_43, g94_46, g94_49, g94_50, g94_53, g94_54, g94_57, g94_58, g94_61, g94_62, rz_join, rz_k_inl, rz_k_inr, Option.toList_some, Option.toList_none, List.cons_append, List.nil_append, List.append_nil, rz_up_s, rz_u_s, rz_up_n, rz_u_n, ne_eq, not_false_eq_true, not_true_eq_false, Nat.add_assoc, Nat.reduceAdd, reduceIte, Nat.add_eq_left, Nat.left_eq_add, Nat.add_left_cancel_iff, Nat.reduceEqDiff, Nat.add_right_cancel_iff, rz_nb0, rz_nb1, rz_nbb, rz_isr, rz_zle, if_true, if_false, rz_bi0, rz_bi1, Bool.not_eq_true, Bool.not_eq_false, Bool.true_eq_false, Bool.false_eq_true, rz_ix_nat, oTp_c, oTp_f0, oTp_v0, oTp_i1, oTp_i2, oTp_i3, oTp_i4, oTp_i5, oTp_i6, oTp_a1, oTp_n1, ht, hz, he, hp]
    sorry
  | succ k ih =>
    intro p ι hk he hp
    rw [g94_0]
    try simp only [g94_1, g94_4, g94_5, g94_8, g94_11, g94_12, g94_15, g94_16, g94_19, g94_20, g94_22, g94_25, g94_26, g94_27, g94_30, g94_31, g94_32, g94_35, g94_38, g94_39, g94_42, g94_43, g94_46, g94_49, g94_50, g94_53, g94_54, g94_57, g94_58, g94_61, rz_join, rz_k_inl, rz_k_inr, Option.toList_some, Option.toList_none, List.cons_append, List.nil_append, List.append_nil, rz_up_s, rz_u_s, rz_up_n, rz_u_n, ne_eq, not_false_eq_true, not_true_eq_false, Nat.add_assoc, Nat.reduceAdd, reduceIte, Nat.add_eq_left, Nat.left_eq_add, Nat.add_left_cancel_iff, Nat.reduceEqDiff, Nat.add_right_cancel_iff, rz_nb0, rz_nb1, rz_nbb, rz_isr, rz_zle, if_true, if_false, rz_bi0, rz_bi1, Bool.not_eq_true, Bool.not_eq_false, Bool.true_eq_false, Bool.false_eq_true, rz_ix_nat, oTp_c, oTp_f0, oTp_v0, oTp_i1, oTp_i2, oTp_i3, oTp_i4, oTp_i5, oTp_i6, oTp_a1, oTp_n1, ht, hz, he, hp]
    try simp only [g94_1, g94_4, g94_5, g94_8, g94_11, g94_12, g94_15, g94_16, g94_19, g94_20, g94_22, g94_25, g94_26, g94_27, g94_30, g94_31, g94_32, g94_35, g94_38, g94_39, g94_42, g94_43, g94_46, g94_49, g94_50, g94_53, g94_54, g94_57, g94_58, g94_61, g94_62, rz_join, rz_k_inl, rz_k_inr, Option.toList_some, Option.toList_none, List.cons_append, List.nil_append, List.append_nil, rz_up_s, rz_u_s, rz_up_n, rz_u_n, ne_eq, not_false_eq_true, not_true_eq_false, Nat.add_assoc, Nat.reduceAdd, reduceIte, Nat.add_eq_left, Nat.left_eq_add, Nat.add_left_cancel_iff, Nat.reduceEqDiff, Nat.add_right_cancel_iff, rz_nb0, rz_nb1, rz_nbb, rz_isr, rz_zle, if_true, if_false, rz_bi0, rz_bi1, Bool.not_eq_true, Bool.not_eq_false, Bool.true_eq_false, Bool.false_eq_true, rz_ix_nat, oTp_c, oTp_f0, oTp_v0, oTp_i1, oTp_i2, oTp_i3, oTp_i4, oTp_i5, oTp_i6, oTp_a1, oTp_n1, ht, hz, he, hp]
    sorry
end TAPE
