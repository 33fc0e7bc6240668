/-! FarthestHeir$Tape -/
/-- blanks passed over -/
def skB (B : Nat → Int32) (e : Nat) : Nat → Nat → Nat
  | 0, p => p
  | k + 1, p => if B p = 32 then skB B e k (p + 1) else p
def sk (B : Nat → Int32) (e p : Nat) : Nat := skB B e (e - p) p
theorem sk_end {B : Nat → Int32} {e p : Nat} (h : e ≤ p) : sk B e p = p := by
  unfold sk; rw [show e - p = 0 by omega]; rfl
theorem sk_no {B : Nat → Int32} {e p : Nat} (h : B p ≠ 32) : sk B e p = p := by
  unfold sk
  cases e - p with
  | zero => rfl
  | succ k => simp [skB, h]
theorem sk_yes {B : Nat → Int32} {e p : Nat} (hp : p < e) (h : B p = 32) : sk B e p = sk B e (p + 1) := by
  unfold sk
  rw [show e - p = e - (p + 1) + 1 by omega]
  simp [skB, h]
theorem skB_le (B : Nat → Int32) (e : Nat) : ∀ k p, p ≤ skB B e k p ∧ skB B e k p ≤ p + k
  | 0, p => ⟨Nat.le_refl _, Nat.le_refl _⟩
  | k + 1, p => by
    unfold skB
    split
    · have := skB_le B e k (p + 1)
      omega
    · omega
theorem sk_ge (B : Nat → Int32) (e p : Nat) : p ≤ sk B e p := (skB_le B e (e - p) p).1
theorem sk_le {B : Nat → Int32} {e p : Nat} (h : p ≤ e) : sk B e p ≤ e := by
  have := (skB_le B e (e - p) p).2
  unfold sk; omega
/-- the sign that stands there, or the end -/
def sg (B : Nat → Int32) (e p : Nat) : Int32 := if p < e then B p else -1
def isD (x : Int32) : Bool := !decide (x < 48) && !decide (57 < x)
def isS (x : Int32) : Bool := !decide (x < 97) && !decide (122 < x)
/-- a run of digits: where it ends, and what it comes to, by a way of reckoning -/
def dgW (f : Int32 → Int32 → Int32) (B : Nat → Int32) : Nat → Nat → Int32 → Nat × Int32
  | 0, p, v => (p, v)
  | k + 1, p, v => if isD (B p) = true then dgW f B k (p + 1) (f v (B p)) else (p, v)
def dgF1 (v x : Int32) : Int32 := if 999 < v then v else v * 10 + x - 48
/-- a run of small letters: where it ends -/
def wdE (B : Nat → Int32) : Nat → Nat → Nat
  | 0, p => p
  | k + 1, p => if isS (B p) = true then wdE B k (p + 1) else p
theorem dgW_le (f : Int32 → Int32 → Int32) (B : Nat → Int32) : ∀ k p v, p ≤ (dgW f B k p v).1 ∧ (dgW f B k p v).1 ≤ p + k
  | 0, p, v => ⟨Nat.le_refl _, Nat.le_refl _⟩
  | k + 1, p, v => by
    unfold dgW
    split
    · have := dgW_le f B k (p + 1) (f v (B p))
      omega
    · dsimp only; omega
theorem wdE_le (B : Nat → Int32) : ∀ k p, p ≤ wdE B k p ∧ wdE B k p ≤ p + k
  | 0, p => ⟨Nat.le_refl _, Nat.le_refl _⟩
  | k + 1, p => by
    unfold wdE
    split
    · have := wdE_le B k (p + 1)
      omega
    · omega
theorem isD_eq (x : Int32) : (if x < 48 then (0 : Int32) else if 57 < x then 0 else 1) = bi (isD x) := by
  unfold isD bi
  by_cases h1 : x < 48
  · simp [h1]
  · by_cases h2 : 57 < x
    · simp [h1, h2]
    · simp [h1, h2]
theorem isS_eq (x : Int32) : (if x < 97 then (0 : Int32) else if 122 < x then 0 else 1) = bi (isS x) := by
  unfold isS bi
  by_cases h1 : x < 97
  · simp [h1]
  · by_cases h2 : 122 < x
    · simp [h1, h2]
    · simp [h1, h2]
section TAPE
variable {Z : rx_Z} {d : Nat} {h : Nat → Option rx_E} {ι : Nat → Nat → Int32} {w : Nat × Nat} {t : Nat}
theorem tp_next0 (ht : oTp h t) (hz : Z.2.1 ≤ t) {e : Nat} (he6 : e ≤ 600) : ∀ (k p : Nat) (ι : Nat → Nat → Int32), p ≤ e → e - p = k → ι t 1 = nI e → ι t 2 = nI p → rg Z d rx_m94 0 [some (.ref t)] [] (rz_mk h ι, w) = some (.inl (some (.int (sg (ι (t + 1)) e (sk (ι (t + 1)) e p)))), (rz_mk h (rz_up ι t 2 (nI (sk (ι (t + 1)) e p))), w)) := by
  intro k
  induction k with
  | zero =>
    intro p ι hpe hk he hp
    rw [g94_0]
    have c : (nI p < nI e) = False := by rw [nI_lt2 (by omega) (by omega)]; simp; omega
    try simp (decide := true) (maxDischargeDepth := 4) only [g94_1, g94_4, g94_5, g94_8, g94_11, g94_12, g94_15, g94_16, g94_19, g94_20, g94_22, g94_25, g94_26, g94_27, g94_30, g94_31, g94_32, g94_35, g94_38, g94_39, g94_42, g94_43, g94_46, g94_49, g94_50, g94_53, g94_54, g94_57, g94_58, g94_61, rz_join, rz_k_inl, rz_k_inr, Option.toList_some, Option.toList_none, List.cons_append, List.nil_append, List.append_nil, rz_up_s, rz_u_s, rz_up_n, rz_u_n, ne_eq, not_false_eq_true, not_true_eq_false, Nat.add_assoc, Nat.reduceAdd, reduceIte, Nat.add_eq_left, Nat.left_eq_add, Nat.add_left_cancel_iff, Nat.reduceEqDiff, Nat.add_right_cancel_iff, rz_nb0, rz_nb1, rz_nbb, rz_nbi, rz_isr, rz_zle, if_true, if_false, rz_bi0, rz_bi1, Bool.not_eq_true, Bool.not_eq_false, Bool.true_eq_false, Bool.false_eq_true, rz_ix_lit, cl_lit, Nat.reduceLT, oTp_c, oTp_f0, oTp_v0, oTp_i1, oTp_i2, oTp_i3, oTp_i4, oTp_i5, oTp_i6, oTp_a1, oTp_n1, ht, hz, he, hp, c]
    try simp (decide := true) (maxDischargeDepth := 4) only [g94_1, g94_4, g94_5, g94_8, g94_11, g94_12, g94_15, g94_16, g94_19, g94_20, g94_22, g94_25, g94_26, g94_27, g94_30, g94_31, g94_32, g94_35, g94_38, g94_39, g94_42, g94_43, g94_46, g94_49, g94_50, g94_53, g94_54, g94_57, g94_58, g94_61, g94_62, rz_join, rz_k_inl, rz_k_inr, Option.toList_some, Option.toList_none, List.cons_append, List.nil_append, List.append_nil, rz_up_s, rz_u_s, rz_up_n, rz_u_n, ne_eq, not_false_eq_true, not_true_eq_false, Nat.add_assoc, Nat.reduceAdd, reduceIte, Nat.add_eq_left, Nat.left_eq_add, Nat.add_left_cancel_iff, Nat.reduceEqDiff, Nat.add_right_cancel_iff, rz_nb0, rz_nb1, rz_nbb, rz_nbi, rz_isr, rz_zle, if_true, if_false, rz_bi0, rz_bi1, Bool.not_eq_true, Bool.not_eq_false, Bool.true_eq_false, Bool.false_eq_true, rz_ix_lit, cl_lit, Nat.reduceLT, oTp_c, oTp_f0, oTp_v0, oTp_i1, oTp_i2, oTp_i3, oTp_i4, oTp_i5, oTp_i6, oTp_a1, oTp_n1, ht, hz, he, hp, c]
    rw [sk_end (by omega)]
    simp [sg, show ¬ p < e by omega, rz_up_id hp]
  | succ k ih =>
    intro p ι hpe hk he hp
    rw [g94_0]
    have c : (nI p < nI e) = True := by rw [nI_lt2 (by omega) (by omega)]; simp; omega
    have i1 : rz_ix (nI p) 600 := rz_ix_nat (by omega) (by omega)
    have cl : (nI p).toNatClampNeg = p := nI_cl (by omega)
    try simp (decide := true) (maxDischargeDepth := 4) only [g94_1, g94_4, g94_5, g94_8, g94_11, g94_12, g94_15, g94_16, g94_19, g94_20, g94_22, g94_25, g94_26, g94_27, g94_30, g94_31, g94_32, g94_35, g94_38, g94_39, g94_42, g94_43, g94_46, g94_49, g94_50, g94_53, g94_54, g94_57, g94_58, g94_61, rz_join, rz_k_inl, rz_k_inr, Option.toList_some, Option.toList_none, List.cons_append, List.nil_append, List.append_nil, rz_up_s, rz_u_s, rz_up_n, rz_u_n, ne_eq, not_false_eq_true, not_true_eq_false, Nat.add_assoc, Nat.reduceAdd, reduceIte, Nat.add_eq_left, Nat.left_eq_add, Nat.add_left_cancel_iff, Nat.reduceEqDiff, Nat.add_right_cancel_iff, rz_nb0, rz_nb1, rz_nbb, rz_nbi, rz_isr, rz_zle, if_true, if_false, rz_bi0, rz_bi1, Bool.not_eq_true, Bool.not_eq_false, Bool.true_eq_false, Bool.false_eq_true, rz_ix_lit, cl_lit, Nat.reduceLT, oTp_c, oTp_f0, oTp_v0, oTp_i1, oTp_i2, oTp_i3, oTp_i4, oTp_i5, oTp_i6, oTp_a1, oTp_n1, ht, hz, he, hp, c, i1, cl]
    try simp (decide := true) (maxDischargeDepth := 4) only [g94_1, g94_4, g94_5, g94_8, g94_11, g94_12, g94_15, g94_16, g94_19, g94_20, g94_22, g94_25, g94_26, g94_27, g94_30, g94_31, g94_32, g94_35, g94_38, g94_39, g94_42, g94_43, g94_46, g94_49, g94_50, g94_53, g94_54, g94_57, g94_58, g94_61, g94_62, rz_join, rz_k_inl, rz_k_inr, Option.toList_some, Option.toList_none, List.cons_append, List.nil_append, List.append_nil, rz_up_s, rz_u_s, rz_up_n, rz_u_n, ne_eq, not_false_eq_true, not_true_eq_false, Nat.add_assoc, Nat.reduceAdd, reduceIte, Nat.add_eq_left, Nat.left_eq_add, Nat.add_left_cancel_iff, Nat.reduceEqDiff, Nat.add_right_cancel_iff, rz_nb0, rz_nb1, rz_nbb, rz_nbi, rz_isr, rz_zle, if_true, if_false, rz_bi0, rz_bi1, Bool.not_eq_true, Bool.not_eq_false, Bool.true_eq_false, Bool.false_eq_true, rz_ix_lit, cl_lit, Nat.reduceLT, oTp_c, oTp_f0, oTp_v0, oTp_i1, oTp_i2, oTp_i3, oTp_i4, oTp_i5, oTp_i6, oTp_a1, oTp_n1, ht, hz, he, hp, c, i1, cl]
    refine rz_same (fun hb => ?_) (fun hb => ?_)
    · rw [ih (p + 1) _ (by omega) (by omega) (by simp only [rz_k_inl, rz_k_inr, Option.toList_some, Option.toList_none, List.cons_append, List.nil_append, List.append_nil, rz_up_s, rz_u_s, rz_up_n, rz_u_n, ne_eq, not_false_eq_true, not_true_eq_false, Nat.add_assoc, Nat.reduceAdd, reduceIte, Nat.add_eq_left, Nat.left_eq_add, Nat.add_left_cancel_iff, Nat.reduceEqDiff, Nat.add_right_cancel_iff, rz_nb0, rz_nb1, rz_nbb, rz_nbi, rz_isr, rz_zle, if_true, if_false, rz_bi0, rz_bi1, Bool.not_eq_true, Bool.not_eq_false, Bool.true_eq_false, Bool.false_eq_true, rz_ix_lit, cl_lit, Nat.reduceLT, he]) (by simp only [rz_k_inl, rz_k_inr, Option.toList_some, Option.toList_none, List.cons_append, List.nil_append, List.append_nil, rz_up_s, rz_u_s, rz_up_n, rz_u_n, ne_eq, not_false_eq_true, not_true_eq_false, Nat.add_assoc, Nat.reduceAdd, reduceIte, Nat.add_eq_left, Nat.left_eq_add, Nat.add_left_cancel_iff, Nat.reduceEqDiff, Nat.add_right_cancel_iff, rz_nb0, rz_nb1, rz_nbb, rz_nbi, rz_isr, rz_zle, if_true, if_false, rz_bi0, rz_bi1, Bool.not_eq_true, Bool.not_eq_false, Bool.true_eq_false, Bool.false_eq_true, rz_ix_lit, cl_lit, Nat.reduceLT, nI_1]), sk_yes (by omega) hb]
      simp only [rz_k_inl, rz_k_inr, Option.toList_some, Option.toList_none, List.cons_append, List.nil_append, List.append_nil, rz_up_s, rz_u_s, rz_up_n, rz_u_n, ne_eq, not_false_eq_true, not_true_eq_false, Nat.add_assoc, Nat.reduceAdd, reduceIte, Nat.add_eq_left, Nat.left_eq_add, Nat.add_left_cancel_iff, Nat.reduceEqDiff, Nat.add_right_cancel_iff, rz_nb0, rz_nb1, rz_nbb, rz_nbi, rz_isr, rz_zle, if_true, if_false, rz_bi0, rz_bi1, Bool.not_eq_true, Bool.not_eq_false, Bool.true_eq_false, Bool.false_eq_true, rz_ix_lit, cl_lit, Nat.reduceLT, rz_up_up]
    · rw [sk_no hb]
      simp [sg, show p < e by omega, rz_up_id hp]
theorem tp_next (ht : oTp h t) (hz : Z.2.1 ≤ t) {e p : Nat} (he : ι t 1 = nI e) (hp : ι t 2 = nI p) (hpe : p ≤ e) (he6 : e ≤ 600) : rz_f Z (d + 1) 94 [.ref t] (rz_mk h ι, w) = some (.inl (some (.int (sg (ι (t + 1)) e (sk (ι (t + 1)) e p)))), (rz_mk h (rz_up ι t 2 (nI (sk (ι (t + 1)) e p))), w)) := by
  rw [e94]
  exact tp_next0 ht hz he6 _ p ι hpe rfl he hp
theorem tp_takes (ht : oTp h t) (hz : Z.2.1 ≤ t) {e p : Nat} (he : ι t 1 = nI e) (hp : ι t 2 = nI p) (hpe : p ≤ e) (he6 : e ≤ 600) (s : Int32) : rz_f Z (d + 2) 95 [.ref t, .int s] (rz_mk h ι, w) = (if sg (ι (t + 1)) e (sk (ι (t + 1)) e p) = s then some (.inl (some (.int 1)), (rz_mk h (rz_up ι t 2 (nI (sk (ι (t + 1)) e p + 1))), w)) else some (.inl (some (.int 0)), (rz_mk h (rz_up ι t 2 (nI (sk (ι (t + 1)) e p))), w))) := by
  rw [e95]
  simp (decide := true) (maxDischargeDepth := 4) only [g95_0, g95_1, g95_4, g95_5, g95_8, g95_9, g95_10, g95_11, g95_12, g95_15, g95_16, g95_17, g95_20, g95_21, rz_k_inl, rz_k_inr, Option.toList_some, Option.toList_none, List.cons_append, List.nil_append, List.append_nil, rz_up_s, rz_u_s, rz_up_n, rz_u_n, ne_eq, not_false_eq_true, not_true_eq_false, Nat.add_assoc, Nat.reduceAdd, reduceIte, Nat.add_eq_left, Nat.left_eq_add, Nat.add_left_cancel_iff, Nat.reduceEqDiff, Nat.add_right_cancel_iff, rz_nb0, rz_nb1, rz_nbb, rz_nbi, rz_isr, rz_zle, if_true, if_false, rz_bi0, rz_bi1, Bool.not_eq_true, Bool.not_eq_false, Bool.true_eq_false, Bool.false_eq_true, rz_ix_lit, cl_lit, Nat.reduceLT, oTp_c, oTp_f0, oTp_v0, oTp_i1, oTp_i2, oTp_i3, oTp_i4, oTp_i5, oTp_i6, oTp_a1, oTp_n1, ht, hz, tp_next ht hz he hp hpe he6, rz_up_up, nI_1]
theorem tp_blame (ht : oTp h t) (hz : Z.2.1 ≤ t) (x y : Int32) : rz_f Z (d + 1) 91 [.ref t, .int x, .int y] (rz_mk h ι, w) = some (.inl (some (.int 0)), (rz_mk h (rz_up (rz_up ι t 4 x) t 6 y), w)) := by
  rw [e91]
  simp (decide := true) (maxDischargeDepth := 4) only [g91_0, g91_1, g91_2, g91_5, g91_6, g91_7, g91_10, g91_11, rz_k_inl, rz_k_inr, Option.toList_some, Option.toList_none, List.cons_append, List.nil_append, List.append_nil, rz_up_s, rz_u_s, rz_up_n, rz_u_n, ne_eq, not_false_eq_true, not_true_eq_false, Nat.add_assoc, Nat.reduceAdd, reduceIte, Nat.add_eq_left, Nat.left_eq_add, Nat.add_left_cancel_iff, Nat.reduceEqDiff, Nat.add_right_cancel_iff, rz_nb0, rz_nb1, rz_nbb, rz_nbi, rz_isr, rz_zle, if_true, if_false, rz_bi0, rz_bi1, Bool.not_eq_true, Bool.not_eq_false, Bool.true_eq_false, Bool.false_eq_true, rz_ix_lit, cl_lit, Nat.reduceLT, oTp_c, oTp_f0, oTp_v0, oTp_i1, oTp_i2, oTp_i3, oTp_i4, oTp_i5, oTp_i6, oTp_a1, oTp_n1, ht, hz]
theorem tp_blameT (ht : oTp h t) (hz : Z.2.1 ≤ t) (x : Int32) : rz_f Z (d + 1) 92 [.ref t, .int x] (rz_mk h ι, w) = some (.inl (some (.int 0)), (rz_mk h (rz_up (rz_up ι t 4 x) t 6 (ι t 3)), w)) := by
  rw [e92]
  simp (decide := true) (maxDischargeDepth := 4) only [g92_0, g92_1, g92_2, g92_5, g92_6, g92_7, g92_10, g92_13, g92_14, rz_k_inl, rz_k_inr, Option.toList_some, Option.toList_none, List.cons_append, List.nil_append, List.append_nil, rz_up_s, rz_u_s, rz_up_n, rz_u_n, ne_eq, not_false_eq_true, not_true_eq_false, Nat.add_assoc, Nat.reduceAdd, reduceIte, Nat.add_eq_left, Nat.left_eq_add, Nat.add_left_cancel_iff, Nat.reduceEqDiff, Nat.add_right_cancel_iff, rz_nb0, rz_nb1, rz_nbb, rz_nbi, rz_isr, rz_zle, if_true, if_false, rz_bi0, rz_bi1, Bool.not_eq_true, Bool.not_eq_false, Bool.true_eq_false, Bool.false_eq_true, rz_ix_lit, cl_lit, Nat.reduceLT, oTp_c, oTp_f0, oTp_v0, oTp_i1, oTp_i2, oTp_i3, oTp_i4, oTp_i5, oTp_i6, oTp_a1, oTp_n1, ht, hz]
theorem tp_needs (ht : oTp h t) (hz : Z.2.1 ≤ t) {e p : Nat} (he : ι t 1 = nI e) (hp : ι t 2 = nI p) (hpe : p ≤ e) (he6 : e ≤ 600) (s : Int32) : rz_f Z (d + 2) 96 [.ref t, .int s] (rz_mk h ι, w) = (if sg (ι (t + 1)) e (sk (ι (t + 1)) e p) = s then some (.inl (some (.int 1)), (rz_mk h (rz_up ι t 2 (nI (sk (ι (t + 1)) e p + 1))), w)) else some (.inl (some (.int 0)), (rz_mk h (rz_up (rz_up (rz_up ι t 2 (nI (sk (ι (t + 1)) e p))) t 4 1) t 6 (nI (sk (ι (t + 1)) e p))), w))) := by
  rw [e96]
  simp (decide := true) (maxDischargeDepth := 4) only [g96_0, g96_1, g96_4, g96_5, g96_8, g96_9, g96_10, g96_11, g96_14, g96_17, g96_18, g96_19, g96_20, g96_23, g96_24, g96_25, g96_28, g96_29, rz_k_inl, rz_k_inr, Option.toList_some, Option.toList_none, List.cons_append, List.nil_append, List.append_nil, rz_up_s, rz_u_s, rz_up_n, rz_u_n, ne_eq, not_false_eq_true, not_true_eq_false, Nat.add_assoc, Nat.reduceAdd, reduceIte, Nat.add_eq_left, Nat.left_eq_add, Nat.add_left_cancel_iff, Nat.reduceEqDiff, Nat.add_right_cancel_iff, rz_nb0, rz_nb1, rz_nbb, rz_nbi, rz_isr, rz_zle, if_true, if_false, rz_bi0, rz_bi1, Bool.not_eq_true, Bool.not_eq_false, Bool.true_eq_false, Bool.false_eq_true, rz_ix_lit, cl_lit, Nat.reduceLT, oTp_c, oTp_f0, oTp_v0, oTp_i1, oTp_i2, oTp_i3, oTp_i4, oTp_i5, oTp_i6, oTp_a1, oTp_n1, ht, hz, tp_next ht hz he hp hpe he6, tp_blame ht hz, rz_up_up, nI_1]
theorem tp_needsEnd (ht : oTp h t) (hz : Z.2.1 ≤ t) {e p : Nat} (he : ι t 1 = nI e) (hp : ι t 2 = nI p) (hpe : p ≤ e) (he6 : e ≤ 600) : rz_f Z (d + 2) 97 [.ref t] (rz_mk h ι, w) = (if sg (ι (t + 1)) e (sk (ι (t + 1)) e p) = -1 then some (.inl (some (.int 1)), (rz_mk h (rz_up ι t 2 (nI (sk (ι (t + 1)) e p))), w)) else some (.inl (some (.int 0)), (rz_mk h (rz_up (rz_up (rz_up ι t 2 (nI (sk (ι (t + 1)) e p))) t 4 1) t 6 (nI (sk (ι (t + 1)) e p))), w))) := by
  rw [e97]
  try simp (decide := true) (maxDischargeDepth := 4) only [g97_0, g97_1, g97_4, g97_5, g97_8, g97_9, g97_10, g97_11, g97_14, g97_17, g97_20, g97_21, g97_24, rz_join, rz_k_inl, rz_k_inr, Option.toList_some, Option.toList_none, List.cons_append, List.nil_append, List.append_nil, rz_up_s, rz_u_s, rz_up_n, rz_u_n, ne_eq, not_false_eq_true, not_true_eq_false, Nat.add_assoc, Nat.reduceAdd, reduceIte, Nat.add_eq_left, Nat.left_eq_add, Nat.add_left_cancel_iff, Nat.reduceEqDiff, Nat.add_right_cancel_iff, rz_nb0, rz_nb1, rz_nbb, rz_nbi, rz_isr, rz_zle, if_true, if_false, rz_bi0, rz_bi1, Bool.not_eq_true, Bool.not_eq_false, Bool.true_eq_false, Bool.false_eq_true, rz_ix_lit, cl_lit, Nat.reduceLT, oTp_c, oTp_f0, oTp_v0, oTp_i1, oTp_i2, oTp_i3, oTp_i4, oTp_i5, oTp_i6, oTp_a1, oTp_n1, ht, hz, tp_next ht hz he hp hpe he6, tp_blame ht hz, rz_up_up, nI_1]
  try simp (decide := true) (maxDischargeDepth := 4) only [g97_0, g97_1, g97_4, g97_5, g97_8, g97_9, g97_10, g97_11, g97_14, g97_17, g97_20, g97_21, g97_24, g97_25, rz_join, rz_k_inl, rz_k_inr, Option.toList_some, Option.toList_none, List.cons_append, List.nil_append, List.append_nil, rz_up_s, rz_u_s, rz_up_n, rz_u_n, ne_eq, not_false_eq_true, not_true_eq_false, Nat.add_assoc, Nat.reduceAdd, reduceIte, Nat.add_eq_left, Nat.left_eq_add, Nat.add_left_cancel_iff, Nat.reduceEqDiff, Nat.add_right_cancel_iff, rz_nb0, rz_nb1, rz_nbb, rz_nbi, rz_isr, rz_zle, if_true, if_false, rz_bi0, rz_bi1, Bool.not_eq_true, Bool.not_eq_false, Bool.true_eq_false, Bool.false_eq_true, rz_ix_lit, cl_lit, Nat.reduceLT, oTp_c, oTp_f0, oTp_v0, oTp_i1, oTp_i2, oTp_i3, oTp_i4, oTp_i5, oTp_i6, oTp_a1, oTp_n1, ht, hz, tp_next ht hz he hp hpe he6, tp_blame ht hz, rz_up_up, nI_1]
theorem tp_isDigit (x : Int32) : rz_f Z (d + 1) 93 [.int x] (rz_mk h ι, w) = some (.inl (some (.int (bi (isD x)))), (rz_mk h ι, w)) := by
  rw [e93]
  try simp (decide := true) (maxDischargeDepth := 4) only [g93_0, g93_1, g93_3, g93_6, g93_7, g93_9, g93_12, g93_13, g93_16, rz_join, rz_k_inl, rz_k_inr, Option.toList_some, Option.toList_none, List.cons_append, List.nil_append, List.append_nil, rz_up_s, rz_u_s, rz_up_n, rz_u_n, ne_eq, not_false_eq_true, not_true_eq_false, Nat.add_assoc, Nat.reduceAdd, reduceIte, Nat.add_eq_left, Nat.left_eq_add, Nat.add_left_cancel_iff, Nat.reduceEqDiff, Nat.add_right_cancel_iff, rz_nb0, rz_nb1, rz_nbb, rz_nbi, rz_isr, rz_zle, if_true, if_false, rz_bi0, rz_bi1, Bool.not_eq_true, Bool.not_eq_false, Bool.true_eq_false, Bool.false_eq_true, rz_ix_lit, cl_lit, Nat.reduceLT, isD_eq]
  try simp (decide := true) (maxDischargeDepth := 4) only [g93_0, g93_1, g93_3, g93_6, g93_7, g93_9, g93_12, g93_13, g93_16, g93_17, rz_join, rz_k_inl, rz_k_inr, Option.toList_some, Option.toList_none, List.cons_append, List.nil_append, List.append_nil, rz_up_s, rz_u_s, rz_up_n, rz_u_n, ne_eq, not_false_eq_true, not_true_eq_false, Nat.add_assoc, Nat.reduceAdd, reduceIte, Nat.add_eq_left, Nat.left_eq_add, Nat.add_left_cancel_iff, Nat.reduceEqDiff, Nat.add_right_cancel_iff, rz_nb0, rz_nb1, rz_nbb, rz_nbi, rz_isr, rz_zle, if_true, if_false, rz_bi0, rz_bi1, Bool.not_eq_true, Bool.not_eq_false, Bool.true_eq_false, Bool.false_eq_true, rz_ix_lit, cl_lit, Nat.reduceLT, isD_eq]
theorem tp_nextIsNumber (ht : oTp h t) (hz : Z.2.1 ≤ t) {e p : Nat} (he : ι t 1 = nI e) (hp : ι t 2 = nI p) (hpe : p ≤ e) (he6 : e ≤ 600) : rz_f Z (d + 2) 98 [.ref t] (rz_mk h ι, w) = some (.inl (some (.int (bi (isD (sg (ι (t + 1)) e (sk (ι (t + 1)) e p)))))), (rz_mk h (rz_up ι t 2 (nI (sk (ι (t + 1)) e p))), w)) := by
  rw [e98]
  simp (decide := true) (maxDischargeDepth := 4) only [g98_0, g98_1, g98_4, g98_7, rz_k_inl, rz_k_inr, Option.toList_some, Option.toList_none, List.cons_append, List.nil_append, List.append_nil, rz_up_s, rz_u_s, rz_up_n, rz_u_n, ne_eq, not_false_eq_true, not_true_eq_false, Nat.add_assoc, Nat.reduceAdd, reduceIte, Nat.add_eq_left, Nat.left_eq_add, Nat.add_left_cancel_iff, Nat.reduceEqDiff, Nat.add_right_cancel_iff, rz_nb0, rz_nb1, rz_nbb, rz_nbi, rz_isr, rz_zle, if_true, if_false, rz_bi0, rz_bi1, Bool.not_eq_true, Bool.not_eq_false, Bool.true_eq_false, Bool.false_eq_true, rz_ix_lit, cl_lit, Nat.reduceLT, oTp_c, oTp_f0, oTp_v0, oTp_i1, oTp_i2, oTp_i3, oTp_i4, oTp_i5, oTp_i6, oTp_a1, oTp_n1, ht, hz, tp_next ht hz he hp hpe he6, tp_isDigit]
theorem tp_num0 (ht : oTp h t) (hz : Z.2.1 ≤ t) {e : Nat} (he6 : e ≤ 600) (m : Int32) : ∀ (k p : Nat) (v : Int32) (ι : Nat → Nat → Int32), p ≤ e → e - p = k → ι t 1 = nI e → ι t 2 = nI p → rg Z (d + 1) rx_m99 29 [some (.ref t), some (.int m), some (.int v)] [] (rz_mk h ι, w) = rg Z (d + 1) rx_m99 97 [some (.ref t), some (.int m), some (.int (dgW dgF1 (ι (t + 1)) k p v).2)] [] (rz_mk h (rz_up ι t 2 (nI (dgW dgF1 (ι (t + 1)) k p v).1)), w) := by
  intro k
  induction k with
  | zero =>
    intro p v ι hpe hk he hp
    rw [g99_29]
    have c : (nI p < nI e) = False := by rw [nI_lt2 (by omega) (by omega)]; simp; omega
    simp only [g99_30, g99_33, g99_34, g99_37, g99_40, g99_41, g99_44, g99_45, g99_48, g99_49, g99_52, g99_55, g99_56, g99_59, g99_62, g99_63, g99_66, g99_67, g99_69, g99_70, g99_71, g99_74, g99_75, g99_78, g99_79, g99_80, g99_82, g99_83, g99_84, g99_85, g99_86, g99_89, g99_90, g99_91, g99_94, rz_k_inl, rz_k_inr, Option.toList_some, Option.toList_none, List.cons_append, List.nil_append, List.append_nil, rz_up_s, rz_u_s, rz_up_n, rz_u_n, ne_eq, not_false_eq_true, not_true_eq_false, Nat.add_assoc, Nat.reduceAdd, reduceIte, Nat.add_eq_left, Nat.left_eq_add, Nat.add_left_cancel_iff, Nat.reduceEqDiff, Nat.add_right_cancel_iff, rz_nb0, rz_nb1, rz_nbb, rz_nbi, rz_isr, rz_zle, if_true, if_false, rz_bi0, rz_bi1, Bool.not_eq_true, Bool.not_eq_false, Bool.true_eq_false, Bool.false_eq_true, rz_ix_lit, cl_lit, Nat.reduceLT, oTp_c, oTp_f0, oTp_v0, oTp_i1, oTp_i2, oTp_i3, oTp_i4, oTp_i5, oTp_i6, oTp_a1, oTp_n1, ht, hz, he, hp, c, dgW, rz_up_id hp]
  | succ k ih =>
    intro p v ι hpe hk he hp
    rw [g99_29]
    have c : (nI p < nI e) = True := by rw [nI_lt2 (by omega) (by omega)]; simp; omega
    have i1 : rz_ix (nI p) 600 := rz_ix_nat (by omega) (by omega)
    have cl : (nI p).toNatClampNeg = p := nI_cl (by omega)
    simp only [g99_30, g99_33, g99_34, g99_37, g99_40, g99_41, g99_44, g99_45, g99_48, g99_49, g99_52, g99_55, g99_56, g99_59, g99_62, g99_63, g99_66, g99_67, g99_69, g99_70, g99_71, g99_74, g99_75, g99_78, g99_79, g99_80, g99_82, rz_join, rz_k_inl, rz_k_inr, Option.toList_some, Option.toList_none, List.cons_append, List.nil_append, List.append_nil, rz_up_s, rz_u_s, rz_up_n, rz_u_n, ne_eq, not_false_eq_true, not_true_eq_false, Nat.add_assoc, Nat.reduceAdd, reduceIte, Nat.add_eq_left, Nat.left_eq_add, Nat.add_left_cancel_iff, Nat.reduceEqDiff, Nat.add_right_cancel_iff, rz_nb0, rz_nb1, rz_nbb, rz_nbi, rz_isr, rz_zle, if_true, if_false, rz_bi0, rz_bi1, Bool.not_eq_true, Bool.not_eq_false, Bool.true_eq_false, Bool.false_eq_true, rz_ix_lit, cl_lit, Nat.reduceLT, oTp_c, oTp_f0, oTp_v0, oTp_i1, oTp_i2, oTp_i3, oTp_i4, oTp_i5, oTp_i6, oTp_a1, oTp_n1, ht, hz, he, hp, c, i1, cl, tp_isDigit]
    simp only [g99_83, g99_84, g99_85, g99_86, g99_89, g99_90, g99_91, g99_94, rz_k_inl, rz_k_inr, Option.toList_some, Option.toList_none, List.cons_append, List.nil_append, List.append_nil, rz_up_s, rz_u_s, rz_up_n, rz_u_n, ne_eq, not_false_eq_true, not_true_eq_false, Nat.add_assoc, Nat.reduceAdd, reduceIte, Nat.add_eq_left, Nat.left_eq_add, Nat.add_left_cancel_iff, Nat.reduceEqDiff, Nat.add_right_cancel_iff, rz_nb0, rz_nb1, rz_nbb, rz_nbi, rz_isr, rz_zle, if_true, if_false, rz_bi0, rz_bi1, Bool.not_eq_true, Bool.not_eq_false, Bool.true_eq_false, Bool.false_eq_true, rz_ix_lit, cl_lit, Nat.reduceLT, oTp_c, oTp_f0, oTp_v0, oTp_i1, oTp_i2, oTp_i3, oTp_i4, oTp_i5, oTp_i6, oTp_a1, oTp_n1, ht, hz, he, hp, c, i1, cl, nI_1]
    refine rz_same (fun hb => ?_) (fun hb => ?_)
    · simp only [dgW, hb, Bool.false_eq_true, if_false, rz_up_id hp]
    · rw [Bool.not_eq_false] at hb
      rw [ih (p + 1) _ _ (by omega) (by omega) (by simp only [rz_k_inl, rz_k_inr, Option.toList_some, Option.toList_none, List.cons_append, List.nil_append, List.append_nil, rz_up_s, rz_u_s, rz_up_n, rz_u_n, ne_eq, not_false_eq_true, not_true_eq_false, Nat.add_assoc, Nat.reduceAdd, reduceIte, Nat.add_eq_left, Nat.left_eq_add, Nat.add_left_cancel_iff, Nat.reduceEqDiff, Nat.add_right_cancel_iff, rz_nb0, rz_nb1, rz_nbb, rz_nbi, rz_isr, rz_zle, if_true, if_false, rz_bi0, rz_bi1, Bool.not_eq_true, Bool.not_eq_false, Bool.true_eq_false, Bool.false_eq_true, rz_ix_lit, cl_lit, Nat.reduceLT, he]) (by simp only [rz_k_inl, rz_k_inr, Option.toList_some, Option.toList_none, List.cons_append, List.nil_append, List.append_nil, rz_up_s, rz_u_s, rz_up_n, rz_u_n, ne_eq, not_false_eq_true, not_true_eq_false, Nat.add_assoc, Nat.reduceAdd, reduceIte, Nat.add_eq_left, Nat.left_eq_add, Nat.add_left_cancel_iff, Nat.reduceEqDiff, Nat.add_right_cancel_iff, rz_nb0, rz_nb1, rz_nbb, rz_nbi, rz_isr, rz_zle, if_true, if_false, rz_bi0, rz_bi1, Bool.not_eq_true, Bool.not_eq_false, Bool.true_eq_false, Bool.false_eq_true, rz_ix_lit, cl_lit, Nat.reduceLT])]
      simp only [rz_k_inl, rz_k_inr, Option.toList_some, Option.toList_none, List.cons_append, List.nil_append, List.append_nil, rz_up_s, rz_u_s, rz_up_n, rz_u_n, ne_eq, not_false_eq_true, not_true_eq_false, Nat.add_assoc, Nat.reduceAdd, reduceIte, Nat.add_eq_left, Nat.left_eq_add, Nat.add_left_cancel_iff, Nat.reduceEqDiff, Nat.add_right_cancel_iff, rz_nb0, rz_nb1, rz_nbb, rz_nbi, rz_isr, rz_zle, if_true, if_false, rz_bi0, rz_bi1, Bool.not_eq_true, Bool.not_eq_false, Bool.true_eq_false, Bool.false_eq_true, rz_ix_lit, cl_lit, Nat.reduceLT, rz_up_up, dgW, hb, dgF1]
/-- a number that is no more than m: what it is, and where it ends; or the fault -/
def nmP (B : Nat → Int32) (e : Nat) (m : Int32) (p : Nat) : (Int32 × Nat) ⊕ (Nat × Nat) :=
  if isD (sg B e (sk B e p)) = true then
    (if m < (dgW dgF1 B (e - sk B e p) (sk B e p) 0).2 then .inr (2, sk B e p) else .inl ((dgW dgF1 B (e - sk B e p) (sk B e p) 0).2, (dgW dgF1 B (e - sk B e p) (sk B e p) 0).1))
  else .inr (1, sk B e p)
/-- what else of the tape stays -/
def tpF (t : Nat) (ι ι' : Nat → Nat → Int32) : Prop := (∀ a, a ≠ t → ι' a = ι a) ∧ ι' t 1 = ι t 1 ∧ ι' t 5 = ι t 5
def tpOk (t : Nat) (ι ι' : Nat → Nat → Int32) (p : Nat) : Prop := tpF t ι ι' ∧ ι' t 4 = ι t 4 ∧ ι' t 6 = ι t 6 ∧ ι' t 2 = nI p
def tpNo (t : Nat) (ι ι' : Nat → Nat → Int32) (f : Nat × Nat) : Prop := tpF t ι ι' ∧ ι' t 4 = nI f.1 ∧ ι' t 6 = nI f.2
theorem tpF.refl (t : Nat) (ι : Nat → Nat → Int32) : tpF t ι ι := ⟨fun _ _ => rfl, rfl, rfl⟩
theorem tpF.trans {t : Nat} {ι ι' ι'' : Nat → Nat → Int32} (h1 : tpF t ι ι') (h2 : tpF t ι' ι'') : tpF t ι ι'' := ⟨fun a ha => (h2.1 a ha).trans (h1.1 a ha), h2.2.1.trans h1.2.1, h2.2.2.trans h1.2.2⟩
theorem tpF.up {t k : Nat} {ι ι' : Nat → Nat → Int32} {x : Int32} (h : tpF t ι ι') (h1 : 1 ≠ k) (h5 : 5 ≠ k) : tpF t ι (rz_up ι' t k x) := ⟨fun a ha => by rw [rz_up_n ha]; exact h.1 a ha, by rw [rz_up_s, rz_u_n h1]; exact h.2.1, by rw [rz_up_s, rz_u_n h5]; exact h.2.2⟩
theorem tp_num_ok (ht : oTp h t) (hz : Z.2.1 ≤ t) {e p : Nat} (he : ι t 1 = nI e) (hp : ι t 2 = nI p) (hpe : p ≤ e) (he6 : e ≤ 600) {m v : Int32} {q : Nat} (hn : nmP (ι (t + 1)) e m p = .inl (v, q)) : ∃ ι', rz_f Z (d + 3) 99 [.ref t, .int m] (rz_mk h ι, w) = some (.inl (some (.int v)), (rz_mk h ι', w)) ∧ tpOk t ι ι' q := by
  have hsk := sk_le (B := ι (t + 1)) hpe
  unfold nmP at hn
  split at hn
  · rename_i hD
    split at hn
    · cases hn
    · rename_i hm
      rw [e99]
      simp only [g99_0, g99_1, g99_4, g99_7, g99_8, g99_9, g99_10, g99_13, g99_16, g99_17, g99_18, g99_19, g99_20, g99_21, g99_24, g99_27, g99_28, rz_k_inl, rz_k_inr, Option.toList_some, Option.toList_none, List.cons_append, List.nil_append, List.append_nil, rz_up_s, rz_u_s, rz_up_n, rz_u_n, ne_eq, not_false_eq_true, not_true_eq_false, Nat.add_assoc, Nat.reduceAdd, reduceIte, Nat.add_eq_left, Nat.left_eq_add, Nat.add_left_cancel_iff, Nat.reduceEqDiff, Nat.add_right_cancel_iff, rz_nb0, rz_nb1, rz_nbb, rz_nbi, rz_isr, rz_zle, if_true, if_false, rz_bi0, rz_bi1, Bool.not_eq_true, Bool.not_eq_false, Bool.true_eq_false, Bool.false_eq_true, rz_ix_lit, cl_lit, Nat.reduceLT, oTp_c, oTp_f0, oTp_v0, oTp_i1, oTp_i2, oTp_i3, oTp_i4, oTp_i5, oTp_i6, oTp_a1, oTp_n1, ht, hz, tp_nextIsNumber ht hz he hp hpe he6, hD]
      rw [tp_num0 ht hz he6 m (e - sk (ι (t + 1)) e p) (sk (ι (t + 1)) e p) 0 _ hsk rfl (by simp only [rz_k_inl, rz_k_inr, Option.toList_some, Option.toList_none, List.cons_append, List.nil_append, List.append_nil, rz_up_s, rz_u_s, rz_up_n, rz_u_n, ne_eq, not_false_eq_true, not_true_eq_false, Nat.add_assoc, Nat.reduceAdd, reduceIte, Nat.add_eq_left, Nat.left_eq_add, Nat.add_left_cancel_iff, Nat.reduceEqDiff, Nat.add_right_cancel_iff, rz_nb0, rz_nb1, rz_nbb, rz_nbi, rz_isr, rz_zle, if_true, if_false, rz_bi0, rz_bi1, Bool.not_eq_true, Bool.not_eq_false, Bool.true_eq_false, Bool.false_eq_true, rz_ix_lit, cl_lit, Nat.reduceLT, he]) (by simp only [rz_k_inl, rz_k_inr, Option.toList_some, Option.toList_none, List.cons_append, List.nil_append, List.append_nil, rz_up_s, rz_u_s, rz_up_n, rz_u_n, ne_eq, not_false_eq_true, not_true_eq_false, Nat.add_assoc, Nat.reduceAdd, reduceIte, Nat.add_eq_left, Nat.left_eq_add, Nat.add_left_cancel_iff, Nat.reduceEqDiff, Nat.add_right_cancel_iff, rz_nb0, rz_nb1, rz_nbb, rz_nbi, rz_isr, rz_zle, if_true, if_false, rz_bi0, rz_bi1, Bool.not_eq_true, Bool.not_eq_false, Bool.true_eq_false, Bool.false_eq_true, rz_ix_lit, cl_lit, Nat.reduceLT])]
      simp only [g99_97, g99_98, g99_99, g99_102, g99_103, g99_104, g99_107, g99_108, g99_109, g99_110, g99_111, rz_k_inl, rz_k_inr, Option.toList_some, Option.toList_none, List.cons_append, List.nil_append, List.append_nil, rz_up_s, rz_u_s, rz_up_n, rz_u_n, ne_eq, not_false_eq_true, not_true_eq_false, Nat.add_assoc, Nat.reduceAdd, reduceIte, Nat.add_eq_left, Nat.left_eq_add, Nat.add_left_cancel_iff, Nat.reduceEqDiff, Nat.add_right_cancel_iff, rz_nb0, rz_nb1, rz_nbb, rz_nbi, rz_isr, rz_zle, if_true, if_false, rz_bi0, rz_bi1, Bool.not_eq_true, Bool.not_eq_false, Bool.true_eq_false, Bool.false_eq_true, rz_ix_lit, cl_lit, Nat.reduceLT, oTp_c, oTp_f0, oTp_v0, oTp_i1, oTp_i2, oTp_i3, oTp_i4, oTp_i5, oTp_i6, oTp_a1, oTp_n1, ht, hz, tp_blameT ht hz, rz_up_up, hm]
      simp only [Sum.inl.injEq, Prod.mk.injEq] at hn
      rw [hn.1, hn.2]
      refine ⟨_, rfl, ⟨⟨fun a ha => ?_, ?_, ?_⟩, ?_, ?_, ?_⟩⟩ <;> simp [rz_up, rz_u, *]
  · cases hn
theorem tp_num_no (ht : oTp h t) (hz : Z.2.1 ≤ t) {e p : Nat} (he : ι t 1 = nI e) (hp : ι t 2 = nI p) (hpe : p ≤ e) (he6 : e ≤ 600) {m : Int32} {f : Nat × Nat} (hn : nmP (ι (t + 1)) e m p = .inr f) : ∃ ι', rz_f Z (d + 3) 99 [.ref t, .int m] (rz_mk h ι, w) = some (.inl (some (.int (-1))), (rz_mk h ι', w)) ∧ tpNo t ι ι' f := by
  have hsk := sk_le (B := ι (t + 1)) hpe
  unfold nmP at hn
  split at hn
  · rename_i hD
    split at hn
    · rename_i hm
      rw [e99]
      simp only [g99_0, g99_1, g99_4, g99_7, g99_8, g99_9, g99_10, g99_13, g99_16, g99_17, g99_18, g99_19, g99_20, g99_21, g99_24, g99_27, g99_28, rz_k_inl, rz_k_inr, Option.toList_some, Option.toList_none, List.cons_append, List.nil_append, List.append_nil, rz_up_s, rz_u_s, rz_up_n, rz_u_n, ne_eq, not_false_eq_true, not_true_eq_false, Nat.add_assoc, Nat.reduceAdd, reduceIte, Nat.add_eq_left, Nat.left_eq_add, Nat.add_left_cancel_iff, Nat.reduceEqDiff, Nat.add_right_cancel_iff, rz_nb0, rz_nb1, rz_nbb, rz_nbi, rz_isr, rz_zle, if_true, if_false, rz_bi0, rz_bi1, Bool.not_eq_true, Bool.not_eq_false, Bool.true_eq_false, Bool.false_eq_true, rz_ix_lit, cl_lit, Nat.reduceLT, oTp_c, oTp_f0, oTp_v0, oTp_i1, oTp_i2, oTp_i3, oTp_i4, oTp_i5, oTp_i6, oTp_a1, oTp_n1, ht, hz, tp_nextIsNumber ht hz he hp hpe he6, hD]
      rw [tp_num0 ht hz he6 m (e - sk (ι (t + 1)) e p) (sk (ι (t + 1)) e p) 0 _ hsk rfl (by simp only [rz_k_inl, rz_k_inr, Option.toList_some, Option.toList_none, List.cons_append, List.nil_append, List.append_nil, rz_up_s, rz_u_s, rz_up_n, rz_u_n, ne_eq, not_false_eq_true, not_true_eq_false, Nat.add_assoc, Nat.reduceAdd, reduceIte, Nat.add_eq_left, Nat.left_eq_add, Nat.add_left_cancel_iff, Nat.reduceEqDiff, Nat.add_right_cancel_iff, rz_nb0, rz_nb1, rz_nbb, rz_nbi, rz_isr, rz_zle, if_true, if_false, rz_bi0, rz_bi1, Bool.not_eq_true, Bool.not_eq_false, Bool.true_eq_false, Bool.false_eq_true, rz_ix_lit, cl_lit, Nat.reduceLT, he]) (by simp only [rz_k_inl, rz_k_inr, Option.toList_some, Option.toList_none, List.cons_append, List.nil_append, List.append_nil, rz_up_s, rz_u_s, rz_up_n, rz_u_n, ne_eq, not_false_eq_true, not_true_eq_false, Nat.add_assoc, Nat.reduceAdd, reduceIte, Nat.add_eq_left, Nat.left_eq_add, Nat.add_left_cancel_iff, Nat.reduceEqDiff, Nat.add_right_cancel_iff, rz_nb0, rz_nb1, rz_nbb, rz_nbi, rz_isr, rz_zle, if_true, if_false, rz_bi0, rz_bi1, Bool.not_eq_true, Bool.not_eq_false, Bool.true_eq_false, Bool.false_eq_true, rz_ix_lit, cl_lit, Nat.reduceLT])]
      simp only [g99_97, g99_98, g99_99, g99_102, g99_103, g99_104, g99_107, g99_108, g99_109, g99_110, g99_111, rz_k_inl, rz_k_inr, Option.toList_some, Option.toList_none, List.cons_append, List.nil_append, List.append_nil, rz_up_s, rz_u_s, rz_up_n, rz_u_n, ne_eq, not_false_eq_true, not_true_eq_false, Nat.add_assoc, Nat.reduceAdd, reduceIte, Nat.add_eq_left, Nat.left_eq_add, Nat.add_left_cancel_iff, Nat.reduceEqDiff, Nat.add_right_cancel_iff, rz_nb0, rz_nb1, rz_nbb, rz_nbi, rz_isr, rz_zle, if_true, if_false, rz_bi0, rz_bi1, Bool.not_eq_true, Bool.not_eq_false, Bool.true_eq_false, Bool.false_eq_true, rz_ix_lit, cl_lit, Nat.reduceLT, oTp_c, oTp_f0, oTp_v0, oTp_i1, oTp_i2, oTp_i3, oTp_i4, oTp_i5, oTp_i6, oTp_a1, oTp_n1, ht, hz, tp_blameT ht hz, rz_up_up, hm]
      cases hn
      refine ⟨_, rfl, ⟨⟨fun a ha => ?_, ?_, ?_⟩, ?_, ?_⟩⟩ <;> simp [rz_up, rz_u, *] <;> rfl
    · cases hn
  · rename_i hD
    rw [Bool.not_eq_true] at hD
    rw [e99]
    simp only [g99_0, g99_1, g99_4, g99_7, g99_8, g99_9, g99_10, g99_13, g99_16, g99_17, g99_18, g99_19, g99_20, g99_21, g99_24, g99_27, g99_28, rz_k_inl, rz_k_inr, Option.toList_some, Option.toList_none, List.cons_append, List.nil_append, List.append_nil, rz_up_s, rz_u_s, rz_up_n, rz_u_n, ne_eq, not_false_eq_true, not_true_eq_false, Nat.add_assoc, Nat.reduceAdd, reduceIte, Nat.add_eq_left, Nat.left_eq_add, Nat.add_left_cancel_iff, Nat.reduceEqDiff, Nat.add_right_cancel_iff, rz_nb0, rz_nb1, rz_nbb, rz_nbi, rz_isr, rz_zle, if_true, if_false, rz_bi0, rz_bi1, Bool.not_eq_true, Bool.not_eq_false, Bool.true_eq_false, Bool.false_eq_true, rz_ix_lit, cl_lit, Nat.reduceLT, oTp_c, oTp_f0, oTp_v0, oTp_i1, oTp_i2, oTp_i3, oTp_i4, oTp_i5, oTp_i6, oTp_a1, oTp_n1, ht, hz, tp_nextIsNumber ht hz he hp hpe he6, hD, tp_blame ht hz]
    cases hn
    refine ⟨_, rfl, ⟨⟨fun a ha => ?_, ?_, ?_⟩, ?_, ?_⟩⟩ <;> simp [rz_up, rz_u, *] <;> rfl
theorem tp_word0 (ht : oTp h t) (hz : Z.2.1 ≤ t) {e : Nat} (he6 : e ≤ 600) : ∀ (k p : Nat) (ι : Nat → Nat → Int32), p ≤ e → e - p = k → ι t 1 = nI e → ι t 2 = nI p → rg Z (d + 1) rx_m100 13 [some (.ref t)] [] (rz_mk h ι, w) = some (.inl none, (rz_mk h (rz_up ι t 2 (nI (wdE (ι (t + 1)) k p))), w)) := by
  intro k
  induction k with
  | zero =>
    intro p ι hpe hk he hp
    rw [g100_13]
    have c : (nI p < nI e) = False := by rw [nI_lt2 (by omega) (by omega)]; simp; omega
    simp only [g100_0, g100_1, g100_4, g100_5, g100_6, g100_7, g100_10, g100_14, g100_17, g100_18, g100_21, g100_24, g100_25, g100_28, g100_29, g100_32, g100_33, g100_35, g100_38, g100_39, g100_42, g100_43, g100_46, g100_47, g100_49, g100_52, g100_53, g100_54, g100_57, g100_58, g100_59, g100_62, g100_65, rz_k_inl, rz_k_inr, Option.toList_some, Option.toList_none, List.cons_append, List.nil_append, List.append_nil, rz_up_s, rz_u_s, rz_up_n, rz_u_n, ne_eq, not_false_eq_true, not_true_eq_false, Nat.add_assoc, Nat.reduceAdd, reduceIte, Nat.add_eq_left, Nat.left_eq_add, Nat.add_left_cancel_iff, Nat.reduceEqDiff, Nat.add_right_cancel_iff, rz_nb0, rz_nb1, rz_nbb, rz_nbi, rz_isr, rz_zle, if_true, if_false, rz_bi0, rz_bi1, Bool.not_eq_true, Bool.not_eq_false, Bool.true_eq_false, Bool.false_eq_true, rz_ix_lit, cl_lit, Nat.reduceLT, oTp_c, oTp_f0, oTp_v0, oTp_i1, oTp_i2, oTp_i3, oTp_i4, oTp_i5, oTp_i6, oTp_a1, oTp_n1, ht, hz, he, hp, c, wdE, rz_up_id hp]
  | succ k ih =>
    intro p ι hpe hk he hp
    rw [g100_13]
    have c : (nI p < nI e) = True := by rw [nI_lt2 (by omega) (by omega)]; simp; omega
    have i1 : rz_ix (nI p) 600 := rz_ix_nat (by omega) (by omega)
    have cl : (nI p).toNatClampNeg = p := nI_cl (by omega)
    simp only [g100_0, g100_1, g100_4, g100_5, g100_6, g100_7, g100_10, g100_14, g100_17, g100_18, g100_21, g100_24, g100_25, g100_28, g100_29, g100_32, g100_33, g100_35, g100_38, g100_39, g100_42, g100_43, g100_46, g100_47, g100_49, g100_52, g100_53, g100_54, g100_57, g100_58, g100_59, g100_62, g100_65, rz_join, rz_k_inl, rz_k_inr, Option.toList_some, Option.toList_none, List.cons_append, List.nil_append, List.append_nil, rz_up_s, rz_u_s, rz_up_n, rz_u_n, ne_eq, not_false_eq_true, not_true_eq_false, Nat.add_assoc, Nat.reduceAdd, reduceIte, Nat.add_eq_left, Nat.left_eq_add, Nat.add_left_cancel_iff, Nat.reduceEqDiff, Nat.add_right_cancel_iff, rz_nb0, rz_nb1, rz_nbb, rz_nbi, rz_isr, rz_zle, if_true, if_false, rz_bi0, rz_bi1, Bool.not_eq_true, Bool.not_eq_false, Bool.true_eq_false, Bool.false_eq_true, rz_ix_lit, cl_lit, Nat.reduceLT, oTp_c, oTp_f0, oTp_v0, oTp_i1, oTp_i2, oTp_i3, oTp_i4, oTp_i5, oTp_i6, oTp_a1, oTp_n1, ht, hz, he, hp, c, i1, cl, nI_1]
    rw [ih (p + 1) _ (by omega) (by omega) (by simp only [rz_k_inl, rz_k_inr, Option.toList_some, Option.toList_none, List.cons_append, List.nil_append, List.append_nil, rz_up_s, rz_u_s, rz_up_n, rz_u_n, ne_eq, not_false_eq_true, not_true_eq_false, Nat.add_assoc, Nat.reduceAdd, reduceIte, Nat.add_eq_left, Nat.left_eq_add, Nat.add_left_cancel_iff, Nat.reduceEqDiff, Nat.add_right_cancel_iff, rz_nb0, rz_nb1, rz_nbb, rz_nbi, rz_isr, rz_zle, if_true, if_false, rz_bi0, rz_bi1, Bool.not_eq_true, Bool.not_eq_false, Bool.true_eq_false, Bool.false_eq_true, rz_ix_lit, cl_lit, Nat.reduceLT, he]) (by simp only [rz_k_inl, rz_k_inr, Option.toList_some, Option.toList_none, List.cons_append, List.nil_append, List.append_nil, rz_up_s, rz_u_s, rz_up_n, rz_u_n, ne_eq, not_false_eq_true, not_true_eq_false, Nat.add_assoc, Nat.reduceAdd, reduceIte, Nat.add_eq_left, Nat.left_eq_add, Nat.add_left_cancel_iff, Nat.reduceEqDiff, Nat.add_right_cancel_iff, rz_nb0, rz_nb1, rz_nbb, rz_nbi, rz_isr, rz_zle, if_true, if_false, rz_bi0, rz_bi1, Bool.not_eq_true, Bool.not_eq_false, Bool.true_eq_false, Bool.false_eq_true, rz_ix_lit, cl_lit, Nat.reduceLT])]
    simp only [rz_k_inl, rz_k_inr, Option.toList_some, Option.toList_none, List.cons_append, List.nil_append, List.append_nil, rz_up_s, rz_u_s, rz_up_n, rz_u_n, ne_eq, not_false_eq_true, not_true_eq_false, Nat.add_assoc, Nat.reduceAdd, reduceIte, Nat.add_eq_left, Nat.left_eq_add, Nat.add_left_cancel_iff, Nat.reduceEqDiff, Nat.add_right_cancel_iff, rz_nb0, rz_nb1, rz_nbb, rz_nbi, rz_isr, rz_zle, if_true, if_false, rz_bi0, rz_bi1, Bool.not_eq_true, Bool.not_eq_false, Bool.true_eq_false, Bool.false_eq_true, rz_ix_lit, cl_lit, Nat.reduceLT, rz_up_up, wdE, isS]
    by_cases h1 : ι (t + 1) p < 97
    · simp [h1, rz_up_id hp]
    · by_cases h2 : 122 < ι (t + 1) p
      · simp [h1, h2, rz_up_id hp]
      · simp [h1, h2]
theorem tp_word (ht : oTp h t) (hz : Z.2.1 ≤ t) {e p : Nat} (he : ι t 1 = nI e) (hp : ι t 2 = nI p) (hpe : p ≤ e) (he6 : e ≤ 600) : rz_f Z (d + 2) 100 [.ref t] (rz_mk h ι, w) = some (.inl none, (rz_mk h (rz_up (rz_up ι t 3 (nI (sk (ι (t + 1)) e p))) t 2 (nI (wdE (ι (t + 1)) (e - sk (ι (t + 1)) e p) (sk (ι (t + 1)) e p)))), w)) := by
  have hsk := sk_le (B := ι (t + 1)) hpe
  rw [e100]
  simp only [g100_0, g100_1, g100_4, g100_5, g100_6, g100_7, g100_10, g100_14, g100_17, g100_18, g100_21, g100_24, g100_25, g100_28, g100_29, g100_32, g100_33, g100_35, g100_38, g100_39, g100_42, g100_43, g100_46, g100_47, g100_49, g100_52, g100_53, g100_54, g100_57, g100_58, g100_59, g100_62, g100_65, rz_k_inl, rz_k_inr, Option.toList_some, Option.toList_none, List.cons_append, List.nil_append, List.append_nil, rz_up_s, rz_u_s, rz_up_n, rz_u_n, ne_eq, not_false_eq_true, not_true_eq_false, Nat.add_assoc, Nat.reduceAdd, reduceIte, Nat.add_eq_left, Nat.left_eq_add, Nat.add_left_cancel_iff, Nat.reduceEqDiff, Nat.add_right_cancel_iff, rz_nb0, rz_nb1, rz_nbb, rz_nbi, rz_isr, rz_zle, if_true, if_false, rz_bi0, rz_bi1, Bool.not_eq_true, Bool.not_eq_false, Bool.true_eq_false, Bool.false_eq_true, rz_ix_lit, cl_lit, Nat.reduceLT, oTp_c, oTp_f0, oTp_v0, oTp_i1, oTp_i2, oTp_i3, oTp_i4, oTp_i5, oTp_i6, oTp_a1, oTp_n1, ht, hz, tp_next ht hz he hp hpe he6]
  rw [tp_word0 ht hz he6 _ (sk (ι (t + 1)) e p) _ hsk rfl (by simp only [rz_k_inl, rz_k_inr, Option.toList_some, Option.toList_none, List.cons_append, List.nil_append, List.append_nil, rz_up_s, rz_u_s, rz_up_n, rz_u_n, ne_eq, not_false_eq_true, not_true_eq_false, Nat.add_assoc, Nat.reduceAdd, reduceIte, Nat.add_eq_left, Nat.left_eq_add, Nat.add_left_cancel_iff, Nat.reduceEqDiff, Nat.add_right_cancel_iff, rz_nb0, rz_nb1, rz_nbb, rz_nbi, rz_isr, rz_zle, if_true, if_false, rz_bi0, rz_bi1, Bool.not_eq_true, Bool.not_eq_false, Bool.true_eq_false, Bool.false_eq_true, rz_ix_lit, cl_lit, Nat.reduceLT, he]) (by simp only [rz_k_inl, rz_k_inr, Option.toList_some, Option.toList_none, List.cons_append, List.nil_append, List.append_nil, rz_up_s, rz_u_s, rz_up_n, rz_u_n, ne_eq, not_false_eq_true, not_true_eq_false, Nat.add_assoc, Nat.reduceAdd, reduceIte, Nat.add_eq_left, Nat.left_eq_add, Nat.add_left_cancel_iff, Nat.reduceEqDiff, Nat.add_right_cancel_iff, rz_nb0, rz_nb1, rz_nbb, rz_nbi, rz_isr, rz_zle, if_true, if_false, rz_bi0, rz_bi1, Bool.not_eq_true, Bool.not_eq_false, Bool.true_eq_false, Bool.false_eq_true, rz_ix_lit, cl_lit, Nat.reduceLT])]
  simp only [rz_k_inl, rz_k_inr, Option.toList_some, Option.toList_none, List.cons_append, List.nil_append, List.append_nil, rz_up_s, rz_u_s, rz_up_n, rz_u_n, ne_eq, not_false_eq_true, not_true_eq_false, Nat.add_assoc, Nat.reduceAdd, reduceIte, Nat.add_eq_left, Nat.left_eq_add, Nat.add_left_cancel_iff, Nat.reduceEqDiff, Nat.add_right_cancel_iff, rz_nb0, rz_nb1, rz_nbb, rz_nbi, rz_isr, rz_zle, if_true, if_false, rz_bi0, rz_bi1, Bool.not_eq_true, Bool.not_eq_false, Bool.true_eq_false, Bool.false_eq_true, rz_ix_lit, cl_lit, Nat.reduceLT]
  congr 4
  funext a
  by_cases ha : a = t
  · subst ha
    funext k
    simp only [rz_k_inl, rz_k_inr, Option.toList_some, Option.toList_none, List.cons_append, List.nil_append, List.append_nil, rz_up_s, rz_u_s, rz_up_n, rz_u_n, ne_eq, not_false_eq_true, not_true_eq_false, Nat.add_assoc, Nat.reduceAdd, reduceIte, Nat.add_eq_left, Nat.left_eq_add, Nat.add_left_cancel_iff, Nat.reduceEqDiff, Nat.add_right_cancel_iff, rz_nb0, rz_nb1, rz_nbb, rz_nbi, rz_isr, rz_zle, if_true, if_false, rz_bi0, rz_bi1, Bool.not_eq_true, Bool.not_eq_false, Bool.true_eq_false, Bool.false_eq_true, rz_ix_lit, cl_lit, Nat.reduceLT]
    by_cases h2 : k = 2 <;> by_cases h3 : k = 3 <;> simp [rz_u, h2, h3]
  · simp [rz_up, ha]
/-- a String constant -/
def oSt (h : Nat → Option rx_E) (s v : Nat) (W : List Nat) : Prop := h s = some (.inl (9, v, fun _ => .null)) ∧ h v = some (.inl (8, W.length, fun i => .int (nI (W.getD i 0)))) ∧ W.length < 100 ∧ ∀ x ∈ W, x < 128
theorem st_coder {s v : Nat} {W : List Nat} (hs : oSt h s v W) : rz_f Z (d + 1) 294 [.ref s] (rz_mk h ι, w) = some (.inl (some (.int 0)), (rz_mk h ι, w)) := by
  have h1 : rz_ar h s 9 := ⟨_, _, hs.1⟩
  rw [e294]
  try simp (decide := true) (maxDischargeDepth := 4) only [g294_0, g294_3, g294_6, g294_7, g294_10, g294_13, rz_join, rz_k_inl, rz_k_inr, Option.toList_some, Option.toList_none, List.cons_append, List.nil_append, List.append_nil, rz_up_s, rz_u_s, rz_up_n, rz_u_n, ne_eq, not_false_eq_true, not_true_eq_false, Nat.add_assoc, Nat.reduceAdd, reduceIte, Nat.add_eq_left, Nat.left_eq_add, Nat.add_left_cancel_iff, Nat.reduceEqDiff, Nat.add_right_cancel_iff, rz_nb0, rz_nb1, rz_nbb, rz_nbi, rz_isr, rz_zle, if_true, if_false, rz_bi0, rz_bi1, Bool.not_eq_true, Bool.not_eq_false, Bool.true_eq_false, Bool.false_eq_true, rz_ix_lit, cl_lit, Nat.reduceLT, h1, show (narrow .byte (.int 0) = .int 0) from by decide, show ¬ ((1 : Int32) = 0) from by decide]
  try simp (decide := true) (maxDischargeDepth := 4) only [g294_0, g294_3, g294_6, g294_7, g294_10, g294_13, g294_14, rz_join, rz_k_inl, rz_k_inr, Option.toList_some, Option.toList_none, List.cons_append, List.nil_append, List.append_nil, rz_up_s, rz_u_s, rz_up_n, rz_u_n, ne_eq, not_false_eq_true, not_true_eq_false, Nat.add_assoc, Nat.reduceAdd, reduceIte, Nat.add_eq_left, Nat.left_eq_add, Nat.add_left_cancel_iff, Nat.reduceEqDiff, Nat.add_right_cancel_iff, rz_nb0, rz_nb1, rz_nbb, rz_nbi, rz_isr, rz_zle, if_true, if_false, rz_bi0, rz_bi1, Bool.not_eq_true, Bool.not_eq_false, Bool.true_eq_false, Bool.false_eq_true, rz_ix_lit, cl_lit, Nat.reduceLT, h1, show (narrow .byte (.int 0) = .int 0) from by decide, show ¬ ((1 : Int32) = 0) from by decide]
theorem st_length {s v : Nat} {W : List Nat} (hs : oSt h s v W) : rz_f Z (d + 2) 292 [.ref s] (rz_mk h ι, w) = some (.inl (some (.int (nI W.length))), (rz_mk h ι, w)) := by
  have h1 : rz_ar h s 9 := ⟨_, _, hs.1⟩
  have h2 : rz_ln h s = v := by unfold rz_ln; rw [hs.1]
  have h3 : rz_ar h v 8 := ⟨_, _, hs.2.1⟩
  have h4 : rz_ln h v = W.length := by unfold rz_ln; rw [hs.2.1]
  rw [e292]
  simp (decide := true) (maxDischargeDepth := 4) only [g292_0, g292_1, g292_4, g292_5, g292_6, g292_9, g292_10, rz_k_inl, rz_k_inr, Option.toList_some, Option.toList_none, List.cons_append, List.nil_append, List.append_nil, rz_up_s, rz_u_s, rz_up_n, rz_u_n, ne_eq, not_false_eq_true, not_true_eq_false, Nat.add_assoc, Nat.reduceAdd, reduceIte, Nat.add_eq_left, Nat.left_eq_add, Nat.add_left_cancel_iff, Nat.reduceEqDiff, Nat.add_right_cancel_iff, rz_nb0, rz_nb1, rz_nbb, rz_nbi, rz_isr, rz_zle, if_true, if_false, rz_bi0, rz_bi1, Bool.not_eq_true, Bool.not_eq_false, Bool.true_eq_false, Bool.false_eq_true, rz_ix_lit, cl_lit, Nat.reduceLT, h1, h2, h3, h4, st_coder hs]
  rw [show Int32.ofNat W.length = nI W.length from rfl, sc_shr0 (by have := hs.2.2.1; omega)]
theorem st_latin {s v : Nat} {W : List Nat} (hs : oSt h s v W) : rz_f Z (d + 1) 295 [.ref s] (rz_mk h ι, w) = some (.inl (some (.int 1)), (rz_mk h ι, w)) := by
  have h1 : rz_ar h s 9 := ⟨_, _, hs.1⟩
  rw [e295]
  try simp (decide := true) (maxDischargeDepth := 4) only [g295_0, g295_3, g295_6, g295_7, g295_10, g295_13, g295_14, g295_17, rz_join, rz_k_inl, rz_k_inr, Option.toList_some, Option.toList_none, List.cons_append, List.nil_append, List.append_nil, rz_up_s, rz_u_s, rz_up_n, rz_u_n, ne_eq, not_false_eq_true, not_true_eq_false, Nat.add_assoc, Nat.reduceAdd, reduceIte, Nat.add_eq_left, Nat.left_eq_add, Nat.add_left_cancel_iff, Nat.reduceEqDiff, Nat.add_right_cancel_iff, rz_nb0, rz_nb1, rz_nbb, rz_nbi, rz_isr, rz_zle, if_true, if_false, rz_bi0, rz_bi1, Bool.not_eq_true, Bool.not_eq_false, Bool.true_eq_false, Bool.false_eq_true, rz_ix_lit, cl_lit, Nat.reduceLT, h1, show ¬ ((1 : Int32) = 0) from by decide]
  try simp (decide := true) (maxDischargeDepth := 4) only [g295_0, g295_3, g295_6, g295_7, g295_10, g295_13, g295_14, g295_17, g295_18, rz_join, rz_k_inl, rz_k_inr, Option.toList_some, Option.toList_none, List.cons_append, List.nil_append, List.append_nil, rz_up_s, rz_u_s, rz_up_n, rz_u_n, ne_eq, not_false_eq_true, not_true_eq_false, Nat.add_assoc, Nat.reduceAdd, reduceIte, Nat.add_eq_left, Nat.left_eq_add, Nat.add_left_cancel_iff, Nat.reduceEqDiff, Nat.add_right_cancel_iff, rz_nb0, rz_nb1, rz_nbb, rz_nbi, rz_isr, rz_zle, if_true, if_false, rz_bi0, rz_bi1, Bool.not_eq_true, Bool.not_eq_false, Bool.true_eq_false, Bool.false_eq_true, rz_ix_lit, cl_lit, Nat.reduceLT, h1, show ¬ ((1 : Int32) = 0) from by decide]
theorem st_ci2 {n i : Nat} (hi : i < n) (hn : n < 100) (f : Nat) : rz_f Z (d + 1) 298 [.int (nI i), .int (nI n), .ref f] (rz_mk h ι, w) = some (.inl (some (.int (nI i))), (rz_mk h ι, w)) := by
  rw [e298]
  simp (decide := true) (maxDischargeDepth := 4) only [g298_0, g298_1, g298_4, g298_5, g298_6, g298_9, g298_9n, g298_10, g298_11, g298_16, g298_17, rz_k_inl, rz_k_inr, Option.toList_some, Option.toList_none, List.cons_append, List.nil_append, List.append_nil, rz_up_s, rz_u_s, rz_up_n, rz_u_n, ne_eq, not_false_eq_true, not_true_eq_false, Nat.add_assoc, Nat.reduceAdd, reduceIte, Nat.add_eq_left, Nat.left_eq_add, Nat.add_left_cancel_iff, Nat.reduceEqDiff, Nat.add_right_cancel_iff, rz_nb0, rz_nb1, rz_nbb, rz_nbi, rz_isr, rz_zle, if_true, if_false, rz_bi0, rz_bi1, Bool.not_eq_true, Bool.not_eq_false, Bool.true_eq_false, Bool.false_eq_true, rz_ix_lit, cl_lit, Nat.reduceLT, nI_nn (show i < 2147483648 by omega), nI_lt2 (show i < 2147483648 by omega) (show n < 2147483648 by omega), hi]
theorem st_ci2n {n i : Nat} (hi : i < n) (hn : n < 100) : rz_f Z (d + 1) 298 [.int (nI i), .int (nI n), .null] (rz_mk h ι, w) = some (.inl (some (.int (nI i))), (rz_mk h ι, w)) := by
  rw [e298n]
  simp (decide := true) (maxDischargeDepth := 4) only [g298_0, g298_1, g298_4, g298_5, g298_6, g298_9, g298_9n, g298_10, g298_11, g298_16, g298_17, rz_k_inl, rz_k_inr, Option.toList_some, Option.toList_none, List.cons_append, List.nil_append, List.append_nil, rz_up_s, rz_u_s, rz_up_n, rz_u_n, ne_eq, not_false_eq_true, not_true_eq_false, Nat.add_assoc, Nat.reduceAdd, reduceIte, Nat.add_eq_left, Nat.left_eq_add, Nat.add_left_cancel_iff, Nat.reduceEqDiff, Nat.add_right_cancel_iff, rz_nb0, rz_nb1, rz_nbb, rz_nbi, rz_isr, rz_zle, if_true, if_false, rz_bi0, rz_bi1, Bool.not_eq_true, Bool.not_eq_false, Bool.true_eq_false, Bool.false_eq_true, rz_ix_lit, cl_lit, Nat.reduceLT, nI_nn (show i < 2147483648 by omega), nI_lt2 (show i < 2147483648 by omega) (show n < 2147483648 by omega), hi]
theorem st_ci {n i : Nat} (hi : i < n) (hn : n < 100) : rz_f Z (d + 2) 296 [.int (nI i), .int (nI n)] (rz_mk h ι, w) = some (.inl none, (rz_mk h ι, w)) := by
  rw [e296]
  by_cases hc : Z.2.2.2 40 = 0
  · simp (decide := true) (maxDischargeDepth := 4) only [g296_0, g296_1, g296_2, g296_5, g296_8, g296_9, rz_k_inl, rz_k_inr, Option.toList_some, Option.toList_none, List.cons_append, List.nil_append, List.append_nil, rz_up_s, rz_u_s, rz_up_n, rz_u_n, ne_eq, not_false_eq_true, not_true_eq_false, Nat.add_assoc, Nat.reduceAdd, reduceIte, Nat.add_eq_left, Nat.left_eq_add, Nat.add_left_cancel_iff, Nat.reduceEqDiff, Nat.add_right_cancel_iff, rz_nb0, rz_nb1, rz_nbb, rz_nbi, rz_isr, rz_zle, if_true, if_false, rz_bi0, rz_bi1, Bool.not_eq_true, Bool.not_eq_false, Bool.true_eq_false, Bool.false_eq_true, rz_ix_lit, cl_lit, Nat.reduceLT, hc, st_ci2n hi hn]
  · simp (decide := true) (maxDischargeDepth := 4) only [g296_0, g296_1, g296_2, g296_5, g296_8, g296_9, rz_k_inl, rz_k_inr, Option.toList_some, Option.toList_none, List.cons_append, List.nil_append, List.append_nil, rz_up_s, rz_u_s, rz_up_n, rz_u_n, ne_eq, not_false_eq_true, not_true_eq_false, Nat.add_assoc, Nat.reduceAdd, reduceIte, Nat.add_eq_left, Nat.left_eq_add, Nat.add_left_cancel_iff, Nat.reduceEqDiff, Nat.add_right_cancel_iff, rz_nb0, rz_nb1, rz_nbb, rz_nbi, rz_isr, rz_zle, if_true, if_false, rz_bi0, rz_bi1, Bool.not_eq_true, Bool.not_eq_false, Bool.true_eq_false, Bool.false_eq_true, rz_ix_lit, cl_lit, Nat.reduceLT, hc, st_ci2 hi hn]
theorem st_char1 {s v i : Nat} {W : List Nat} (hs : oSt h s v W) (hi : i < W.length) : rz_f Z (d + 3) 297 [.ref v, .int (nI i)] (rz_mk h ι, w) = some (.inl (some (.int (nI (W.getD i 0)))), (rz_mk h ι, w)) := by
  have h3 : rz_ar h v 8 := ⟨_, _, hs.2.1⟩
  have h4 : rz_ln h v = W.length := by unfold rz_ln; rw [hs.2.1]
  have h5 : rz_el h v i = .int (nI (W.getD i 0)) := by unfold rz_el; rw [hs.2.1]
  have hn := hs.2.2.1
  have i1 : rz_ix (nI i) W.length := rz_ix_nat hi (by omega)
  have hx : W.getD i 0 < 128 := hs.2.2.2 _ (by rw [List.getD_eq_getElem?_getD, List.getElem?_eq_getElem hi]; exact List.getElem_mem hi)
  have e1 : Int32.ofNat W.length = nI W.length := rfl
  rw [e297]
  simp (decide := true) (maxDischargeDepth := 4) only [g297_0, g297_1, g297_2, g297_3, g297_6, g297_7, g297_8, g297_9, g297_12, g297_13, g297_14, rz_k_inl, rz_k_inr, Option.toList_some, Option.toList_none, List.cons_append, List.nil_append, List.append_nil, rz_up_s, rz_u_s, rz_up_n, rz_u_n, ne_eq, not_false_eq_true, not_true_eq_false, Nat.add_assoc, Nat.reduceAdd, reduceIte, Nat.add_eq_left, Nat.left_eq_add, Nat.add_left_cancel_iff, Nat.reduceEqDiff, Nat.add_right_cancel_iff, rz_nb0, rz_nb1, rz_nbb, rz_nbi, rz_isr, rz_zle, if_true, if_false, rz_bi0, rz_bi1, Bool.not_eq_true, Bool.not_eq_false, Bool.true_eq_false, Bool.false_eq_true, rz_ix_lit, cl_lit, Nat.reduceLT, h3, h4, h5, e1, i1, nI_cl (show i < 2147483648 by omega), st_ci hi hn, pk_nc, sc_c2, sc_nar]
  rw [pk_andN (by omega) 8 (by decide), Nat.mod_eq_of_lt (by omega)]
theorem st_charAt {s v i : Nat} {W : List Nat} (hs : oSt h s v W) (hi : i < W.length) : rz_f Z (d + 4) 293 [.ref s, .int (nI i)] (rz_mk h ι, w) = some (.inl (some (.int (nI (W.getD i 0)))), (rz_mk h ι, w)) := by
  have h1 : rz_ar h s 9 := ⟨_, _, hs.1⟩
  have h2 : rz_ln h s = v := by unfold rz_ln; rw [hs.1]
  have hx : W.getD i 0 < 128 := hs.2.2.2 _ (by rw [List.getD_eq_getElem?_getD, List.getElem?_eq_getElem hi]; exact List.getElem_mem hi)
  have e2 : narrow .char (.int (nI (W.getD i 0))) = .int (nI (W.getD i 0)) := by
    have := sc_nar (nI (W.getD i 0))
    rwa [pk_andN (by omega) 8 (by decide), Nat.mod_eq_of_lt (by omega)] at this
  rw [e293]
  simp (decide := true) (maxDischargeDepth := 4) only [g293_0, g293_1, g293_4, g293_7, g293_8, g293_11, g293_12, g293_15, g293_16, g293_17, g293_20, rz_k_inl, rz_k_inr, Option.toList_some, Option.toList_none, List.cons_append, List.nil_append, List.append_nil, rz_up_s, rz_u_s, rz_up_n, rz_u_n, ne_eq, not_false_eq_true, not_true_eq_false, Nat.add_assoc, Nat.reduceAdd, reduceIte, Nat.add_eq_left, Nat.left_eq_add, Nat.add_left_cancel_iff, Nat.reduceEqDiff, Nat.add_right_cancel_iff, rz_nb0, rz_nb1, rz_nbb, rz_nbi, rz_isr, rz_zle, if_true, if_false, rz_bi0, rz_bi1, Bool.not_eq_true, Bool.not_eq_false, Bool.true_eq_false, Bool.false_eq_true, rz_ix_lit, cl_lit, Nat.reduceLT, h1, h2, st_latin hs, st_char1 hs hi, e2, show ¬ ((1 : Int32) = 0) from by decide]
/-- the letters from q on are this word's, from its i-th on -/
def wdM (B : Nat → Int32) (q : Nat) (W : List Nat) : Nat → Nat → Bool
  | 0, _ => true
  | k + 1, i => if B (q + i) = nI (W.getD i 0) then wdM B q W k (i + 1) else false
/-- from q to r this word stands -/
def wdIs (B : Nat → Int32) (q r : Nat) (W : List Nat) : Bool := if r - q = W.length then wdM B q W W.length 0 else false
theorem tp_wordIs0 (ht : oTp h t) {q e s v : Nat} {W : List Nat} (hs : oSt h s v W) (hq : ι t 3 = nI q) (hqe : q + W.length ≤ e) (he6 : e ≤ 600) : ∀ (k i : Nat), i + k = W.length → rg Z (d + 4) rx_m101 38 [some (.ref t), some (.ref s), some (.int (nI i))] [] (rz_mk h ι, w) = some (.inl (some (.int (bi (wdM (ι (t + 1)) q W k i)))), (rz_mk h ι, w)) := by
  have hn := hs.2.2.1
  have hs9 : rz_ar h s 9 := ⟨_, _, hs.1⟩
  intro k
  induction k with
  | zero =>
    intro i hk
    rw [g101_38]
    have c : (nI i < nI W.length) = False := by rw [nI_lt2 (by omega) (by omega)]; simp; omega
    simp only [g101_0, g101_1, g101_4, g101_5, g101_8, g101_9, g101_10, g101_13, g101_16, g101_17, g101_20, g101_23, g101_24, g101_27, g101_28, g101_31, g101_34, g101_35, g101_36, g101_37, g101_39, g101_40, g101_43, g101_46, g101_47, g101_50, g101_51, g101_54, g101_55, g101_56, g101_57, g101_58, g101_59, g101_62, g101_65, g101_66, g101_67, g101_70, g101_73, g101_74, rz_k_inl, rz_k_inr, Option.toList_some, Option.toList_none, List.cons_append, List.nil_append, List.append_nil, rz_up_s, rz_u_s, rz_up_n, rz_u_n, ne_eq, not_false_eq_true, not_true_eq_false, Nat.add_assoc, Nat.reduceAdd, reduceIte, Nat.add_eq_left, Nat.left_eq_add, Nat.add_left_cancel_iff, Nat.reduceEqDiff, Nat.add_right_cancel_iff, rz_nb0, rz_nb1, rz_nbb, rz_nbi, rz_isr, rz_zle, if_true, if_false, rz_bi0, rz_bi1, Bool.not_eq_true, Bool.not_eq_false, Bool.true_eq_false, Bool.false_eq_true, rz_ix_lit, cl_lit, Nat.reduceLT, oTp_c, oTp_f0, oTp_v0, oTp_i1, oTp_i2, oTp_i3, oTp_i4, oTp_i5, oTp_i6, oTp_a1, oTp_n1, ht, st_length hs, hs9, c, wdM]
    rfl
  | succ k ih =>
    intro i hk
    rw [g101_38]
    have c : (nI i < nI W.length) = True := by rw [nI_lt2 (by omega) (by omega)]; simp; omega
    have i1 : rz_ix (nI (q + i)) 600 := rz_ix_nat (by omega) (by omega)
    have cl : (nI (q + i)).toNatClampNeg = q + i := nI_cl (by omega)
    simp only [g101_0, g101_1, g101_4, g101_5, g101_8, g101_9, g101_10, g101_13, g101_16, g101_17, g101_20, g101_23, g101_24, g101_27, g101_28, g101_31, g101_34, g101_35, g101_36, g101_37, g101_39, g101_40, g101_43, g101_46, g101_47, g101_50, g101_51, g101_54, g101_55, g101_56, g101_57, g101_58, g101_59, g101_62, g101_65, g101_66, g101_67, g101_70, g101_73, g101_74, rz_k_inl, rz_k_inr, Option.toList_some, Option.toList_none, List.cons_append, List.nil_append, List.append_nil, rz_up_s, rz_u_s, rz_up_n, rz_u_n, ne_eq, not_false_eq_true, not_true_eq_false, Nat.add_assoc, Nat.reduceAdd, reduceIte, Nat.add_eq_left, Nat.left_eq_add, Nat.add_left_cancel_iff, Nat.reduceEqDiff, Nat.add_right_cancel_iff, rz_nb0, rz_nb1, rz_nbb, rz_nbi, rz_isr, rz_zle, if_true, if_false, rz_bi0, rz_bi1, Bool.not_eq_true, Bool.not_eq_false, Bool.true_eq_false, Bool.false_eq_true, rz_ix_lit, cl_lit, Nat.reduceLT, oTp_c, oTp_f0, oTp_v0, oTp_i1, oTp_i2, oTp_i3, oTp_i4, oTp_i5, oTp_i6, oTp_a1, oTp_n1, ht, st_length hs, hs9, c, hq, nI_add, i1, cl, st_charAt hs (show i < W.length by omega), nI_1]
    rw [ih (i + 1) (by omega)]
    refine rz_same (fun hb => ?_) (fun hb => ?_)
    · simp only [wdM, hb, if_true]
    · simp only [wdM, hb, if_false]
      rfl
theorem tp_wordIs (ht : oTp h t) {e q r s v : Nat} {W : List Nat} (hs : oSt h s v W) (he : ι t 1 = nI e) (hp : ι t 2 = nI r) (hq : ι t 3 = nI q) (hqr : q ≤ r) (hpe : r ≤ e) (he6 : e ≤ 600) : rz_f Z (d + 5) 101 [.ref t, .ref s] (rz_mk h ι, w) = some (.inl (some (.int (bi (wdIs (ι (t + 1)) q r W)))), (rz_mk h ι, w)) := by
  have hn := hs.2.2.1
  have hs9 : rz_ar h s 9 := ⟨_, _, hs.1⟩
  have c1 : (nI e < nI r) = False := by rw [nI_lt2 (by omega) (by omega)]; simp; omega
  rw [e101]
  by_cases hl : r - q = W.length
  · simp only [g101_0, g101_1, g101_4, g101_5, g101_8, g101_9, g101_10, g101_13, g101_16, g101_17, g101_20, g101_23, g101_24, g101_27, g101_28, g101_31, g101_34, g101_35, g101_36, g101_37, g101_39, g101_40, g101_43, g101_46, g101_47, g101_50, g101_51, g101_54, g101_55, g101_56, g101_57, g101_58, g101_59, g101_62, g101_65, g101_66, g101_67, g101_70, g101_73, g101_74, rz_k_inl, rz_k_inr, Option.toList_some, Option.toList_none, List.cons_append, List.nil_append, List.append_nil, rz_up_s, rz_u_s, rz_up_n, rz_u_n, ne_eq, not_false_eq_true, not_true_eq_false, Nat.add_assoc, Nat.reduceAdd, reduceIte, Nat.add_eq_left, Nat.left_eq_add, Nat.add_left_cancel_iff, Nat.reduceEqDiff, Nat.add_right_cancel_iff, rz_nb0, rz_nb1, rz_nbb, rz_nbi, rz_isr, rz_zle, if_true, if_false, rz_bi0, rz_bi1, Bool.not_eq_true, Bool.not_eq_false, Bool.true_eq_false, Bool.false_eq_true, rz_ix_lit, cl_lit, Nat.reduceLT, oTp_c, oTp_f0, oTp_v0, oTp_i1, oTp_i2, oTp_i3, oTp_i4, oTp_i5, oTp_i6, oTp_a1, oTp_n1, ht, st_length hs, hs9, he, hp, hq, pk_sub hqr, hl, nI_nn (show q < 2147483648 by omega), c1]
    rw [show (0 : Int32) = nI 0 from rfl, tp_wordIs0 ht hs hq (by omega) he6 W.length 0 (by omega)]
    simp only [wdIs, hl, if_true]
  · have c2 : (nI (r - q) = nI W.length) = False := by rw [nI_eq2 (by omega) (by omega)]; simp [hl]
    simp only [g101_0, g101_1, g101_4, g101_5, g101_8, g101_9, g101_10, g101_13, g101_16, g101_17, g101_20, g101_23, g101_24, g101_27, g101_28, g101_31, g101_34, g101_35, g101_36, g101_37, g101_39, g101_40, g101_43, g101_46, g101_47, g101_50, g101_51, g101_54, g101_55, g101_56, g101_57, g101_58, g101_59, g101_62, g101_65, g101_66, g101_67, g101_70, g101_73, g101_74, rz_k_inl, rz_k_inr, Option.toList_some, Option.toList_none, List.cons_append, List.nil_append, List.append_nil, rz_up_s, rz_u_s, rz_up_n, rz_u_n, ne_eq, not_false_eq_true, not_true_eq_false, Nat.add_assoc, Nat.reduceAdd, reduceIte, Nat.add_eq_left, Nat.left_eq_add, Nat.add_left_cancel_iff, Nat.reduceEqDiff, Nat.add_right_cancel_iff, rz_nb0, rz_nb1, rz_nbb, rz_nbi, rz_isr, rz_zle, if_true, if_false, rz_bi0, rz_bi1, Bool.not_eq_true, Bool.not_eq_false, Bool.true_eq_false, Bool.false_eq_true, rz_ix_lit, cl_lit, Nat.reduceLT, oTp_c, oTp_f0, oTp_v0, oTp_i1, oTp_i2, oTp_i3, oTp_i4, oTp_i5, oTp_i6, oTp_a1, oTp_n1, ht, st_length hs, hs9, he, hp, hq, pk_sub hqr, c2]
    simp only [wdIs, hl, if_false]
    rfl
theorem tp_begin (ht : oTp h t) (hz : Z.2.1 ≤ t) {n : Nat} (hn : n ≤ 600) : rz_f Z (d + 1) 89 [.ref t, .int (nI n)] (rz_mk h ι, w) = some (.inl none, (rz_mk h (rz_up (rz_up (rz_up (rz_up (rz_up ι t 1 (nI n)) t 2 0) t 4 0) t 6 (-1)) t 5 0), w)) := by
  have e1 : Int32.ofNat 600 = nI 600 := rfl
  rw [e89]
  have c1 : (nI 600 < nI n) = False := by rw [nI_lt2 (by omega) (by omega)]; simp; omega
  have c2 : (if 0 < nI n then nI n else 0) = nI n := by
    by_cases h0 : n = 0
    · subst h0; rfl
    · simp only [nI_0lt (show 0 < n by omega) (by omega), if_true]
  simp (decide := true) (maxDischargeDepth := 4) only [g89_0, g89_1, g89_2, g89_3, g89_4, g89_7, g89_8, g89_11, g89_14, g89_17, g89_18, g89_19, g89_22, g89_23, g89_24, g89_27, g89_28, g89_29, g89_32, g89_33, g89_34, g89_37, rz_k_inl, rz_k_inr, Option.toList_some, Option.toList_none, List.cons_append, List.nil_append, List.append_nil, rz_up_s, rz_u_s, rz_up_n, rz_u_n, ne_eq, not_false_eq_true, not_true_eq_false, Nat.add_assoc, Nat.reduceAdd, reduceIte, Nat.add_eq_left, Nat.left_eq_add, Nat.add_left_cancel_iff, Nat.reduceEqDiff, Nat.add_right_cancel_iff, rz_nb0, rz_nb1, rz_nbb, rz_nbi, rz_isr, rz_zle, if_true, if_false, rz_bi0, rz_bi1, Bool.not_eq_true, Bool.not_eq_false, Bool.true_eq_false, Bool.false_eq_true, rz_ix_lit, cl_lit, Nat.reduceLT, oTp_c, oTp_f0, oTp_v0, oTp_i1, oTp_i2, oTp_i3, oTp_i4, oTp_i5, oTp_i6, oTp_a1, oTp_n1, ht, hz, e1, c1, c2]
theorem tp_verdict (ht : oTp h t) : rz_f Z (d + 1) 90 [.ref t] (rz_mk h ι, w) = some (.inl (some (.int (ι t 4 - 10))), (rz_mk h ι, w)) := by
  rw [e90]
  simp (decide := true) (maxDischargeDepth := 4) only [g90_0, g90_1, g90_4, g90_6, g90_7, rz_k_inl, rz_k_inr, Option.toList_some, Option.toList_none, List.cons_append, List.nil_append, List.append_nil, rz_up_s, rz_u_s, rz_up_n, rz_u_n, ne_eq, not_false_eq_true, not_true_eq_false, Nat.add_assoc, Nat.reduceAdd, reduceIte, Nat.add_eq_left, Nat.left_eq_add, Nat.add_left_cancel_iff, Nat.reduceEqDiff, Nat.add_right_cancel_iff, rz_nb0, rz_nb1, rz_nbb, rz_nbi, rz_isr, rz_zle, if_true, if_false, rz_bi0, rz_bi1, Bool.not_eq_true, Bool.not_eq_false, Bool.true_eq_false, Bool.false_eq_true, rz_ix_lit, cl_lit, Nat.reduceLT, oTp_c, oTp_f0, oTp_v0, oTp_i1, oTp_i2, oTp_i3, oTp_i4, oTp_i5, oTp_i6, oTp_a1, oTp_n1, ht]
/-- a number's bytes come on the tape -/
def ptB (B : Nat → Int32) (n : Nat) (x : Int32) : Nat → Nat → Int32
  | 0 => B
  | k + 1 => rz_u (ptB B n x k) (n + k) ((x.toUInt32 >>> ((24 - 8 * nI k).toUInt32 &&& Int32.toUInt32 31)).toInt32 &&& 255)
theorem tp_put (ht : oTp h t) (hz : Z.2.1 ≤ t) {n : Nat} (hn : n + 4 ≤ 600) (hl : ι t 5 = nI n) (x : Int32) : rz_f Z (d + 1) 88 [.ref t, .int x] (rz_mk h ι, w) = some (.inl none, (rz_mk h (rz_up (rz_rw ι (t + 1) (ptB (ι (t + 1)) n x 4)) t 5 (nI (n + 4))), w)) := by
  have e1 : Int32.ofNat 600 = nI 600 := rfl
  have c0 : (nI 600 < nI (n + 4)) = False := by rw [nI_lt2 (by omega) (by omega)]; simp; omega
  have L := rz_loopE (fun i => rg Z d rx_m88 16 [some (.ref t), some (.int x), some (.int (nI i))] [] (rz_mk h (rz_rw ι (t + 1) (ptB (ι (t + 1)) n x i)), w)) 4 (by
    intro i hi
    have c : (nI i < 4) = True := by rw [nI_ltL (by omega) (by decide)]; simp [hi]
    have i1 : rz_ix (nI (n + i)) 600 := rz_ix_nat (by omega) (by omega)
    have cl : (nI (n + i)).toNatClampNeg = n + i := nI_cl (by omega)
    try dsimp only
    rw [g88_16]
    have l5 : rz_rw ι (t + 1) (ptB (ι (t + 1)) n x i) t 5 = nI n := by rw [rz_rw_n (by omega)]; exact hl
    simp only [g88_0, g88_1, g88_4, g88_5, g88_6, g88_7, g88_10, g88_11, g88_14, g88_15, g88_17, g88_18, g88_21, g88_22, g88_25, g88_26, g88_29, g88_30, g88_31, g88_32, g88_34, g88_36, g88_37, g88_38, g88_39, g88_40, g88_43, g88_44, g88_45, g88_48, g88_51, g88_52, g88_53, g88_56, g88_57, g88_58, g88_61, rz_k_inl, rz_k_inr, Option.toList_some, Option.toList_none, List.cons_append, List.nil_append, List.append_nil, rz_up_s, rz_u_s, rz_up_n, rz_u_n, ne_eq, not_false_eq_true, not_true_eq_false, Nat.add_assoc, Nat.reduceAdd, reduceIte, Nat.add_eq_left, Nat.left_eq_add, Nat.add_left_cancel_iff, Nat.reduceEqDiff, Nat.add_right_cancel_iff, rz_nb0, rz_nb1, rz_nbb, rz_nbi, rz_isr, rz_zle, if_true, if_false, rz_bi0, rz_bi1, Bool.not_eq_true, Bool.not_eq_false, Bool.true_eq_false, Bool.false_eq_true, rz_ix_lit, cl_lit, Nat.reduceLT, oTp_c, oTp_f0, oTp_v0, oTp_i1, oTp_i2, oTp_i3, oTp_i4, oTp_i5, oTp_i6, oTp_a1, oTp_n1, ht, hz, c, l5, nI_add, i1, cl, nI_1, rz_rw_up]
    rfl)
  try dsimp only at L
  rw [e88]
  simp only [g88_0, g88_1, g88_4, g88_5, g88_6, g88_7, g88_10, g88_11, g88_14, g88_15, g88_17, g88_18, g88_21, g88_22, g88_25, g88_26, g88_29, g88_30, g88_31, g88_32, g88_34, g88_36, g88_37, g88_38, g88_39, g88_40, g88_43, g88_44, g88_45, g88_48, g88_51, g88_52, g88_53, g88_56, g88_57, g88_58, g88_61, rz_k_inl, rz_k_inr, Option.toList_some, Option.toList_none, List.cons_append, List.nil_append, List.append_nil, rz_up_s, rz_u_s, rz_up_n, rz_u_n, ne_eq, not_false_eq_true, not_true_eq_false, Nat.add_assoc, Nat.reduceAdd, reduceIte, Nat.add_eq_left, Nat.left_eq_add, Nat.add_left_cancel_iff, Nat.reduceEqDiff, Nat.add_right_cancel_iff, rz_nb0, rz_nb1, rz_nbb, rz_nbi, rz_isr, rz_zle, if_true, if_false, rz_bi0, rz_bi1, Bool.not_eq_true, Bool.not_eq_false, Bool.true_eq_false, Bool.false_eq_true, rz_ix_lit, cl_lit, Nat.reduceLT, oTp_c, oTp_f0, oTp_v0, oTp_i1, oTp_i2, oTp_i3, oTp_i4, oTp_i5, oTp_i6, oTp_a1, oTp_n1, ht, hz, hl, e1, nI_aL, c0]
  rw [show (0 : Int32) = nI 0 from rfl]
  rw [show ptB (ι (t + 1)) n x 0 = ι (t + 1) from rfl, rz_rw_id rfl] at L
  rw [L, g88_16]
  have l5 : rz_rw ι (t + 1) (ptB (ι (t + 1)) n x 4) t 5 = nI n := by rw [rz_rw_n (by omega)]; exact hl
  have c4 : (nI 4 < 4) = False := by decide
  simp only [g88_0, g88_1, g88_4, g88_5, g88_6, g88_7, g88_10, g88_11, g88_14, g88_15, g88_17, g88_18, g88_21, g88_22, g88_25, g88_26, g88_29, g88_30, g88_31, g88_32, g88_34, g88_36, g88_37, g88_38, g88_39, g88_40, g88_43, g88_44, g88_45, g88_48, g88_51, g88_52, g88_53, g88_56, g88_57, g88_58, g88_61, rz_k_inl, rz_k_inr, Option.toList_some, Option.toList_none, List.cons_append, List.nil_append, List.append_nil, rz_up_s, rz_u_s, rz_up_n, rz_u_n, ne_eq, not_false_eq_true, not_true_eq_false, Nat.add_assoc, Nat.reduceAdd, reduceIte, Nat.add_eq_left, Nat.left_eq_add, Nat.add_left_cancel_iff, Nat.reduceEqDiff, Nat.add_right_cancel_iff, rz_nb0, rz_nb1, rz_nbb, rz_nbi, rz_isr, rz_zle, if_true, if_false, rz_bi0, rz_bi1, Bool.not_eq_true, Bool.not_eq_false, Bool.true_eq_false, Bool.false_eq_true, rz_ix_lit, cl_lit, Nat.reduceLT, oTp_c, oTp_f0, oTp_v0, oTp_i1, oTp_i2, oTp_i3, oTp_i4, oTp_i5, oTp_i6, oTp_a1, oTp_n1, ht, hz, l5, c4, nI_aL]
end TAPE
