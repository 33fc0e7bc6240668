/-! FarthestHeir$Realm: what changes it -/
theorem rl_ext {ι : Nat → Nat → Int32} {r : Nat} {R : Nat → Int32} (h1 : ∀ i, i < 24 → ι (r + 1) i = R i) (h2 : ∀ i, i < 24 → ι (r + 2) i = R (24 + i)) (h3 : ∀ i, i < 8 → ι (r + 3) i = R (48 + i)) (h56 : ι r 4 = R 56) (h57 : ι r 3 = R 57) (h58 : ι r 5 = R 58) (h59 : ι r 6 = R 59) (h60 : ι r 8 = R 60) (h61 : ι r 7 = R 61) (ht : ∀ i, 62 ≤ i → R i = 0) : rl ι r = R := by
  funext i
  by_cases c1 : i < 24
  · rw [rl_is c1, h1 i c1]
  · by_cases c2 : i < 48
    · have : i = 24 + (i - 24) := by omega
      rw [this, rl_sh (by omega), h2 _ (by omega)]
    · by_cases c3 : i < 56
      · have : i = 48 + (i - 48) := by omega
        rw [this, rl_ag (by omega), h3 _ (by omega)]
      · by_cases c4 : 62 ≤ i
        · rw [rl_top c4, ht i c4]
        · have : i = 56 ∨ i = 57 ∨ i = 58 ∨ i = 59 ∨ i = 60 ∨ i = 61 := by omega
          rcases this with rfl | rfl | rfl | rfl | rfl | rfl
          · exact h56
          · exact h57
          · exact h58
          · exact h59
          · exact h60
          · exact h61
theorem rl_w3 (ι : Nat → Nat → Int32) (r : Nat) (v : Int32) : rl (rz_up ι r 3 v) r = rz_u (rl ι r) 57 v := rl_ext (fun i hi => by rw [rz_up_n (by omega), rz_u_n (by omega), rl_is hi]) (fun i hi => by rw [rz_up_n (by omega), rz_u_n (by omega), rl_sh hi]) (fun i hi => by rw [rz_up_n (by omega), rz_u_n (by omega), rl_ag hi]) (by rw [rz_up_s, rz_u_n (by decide), rz_u_n (by decide)]; rfl) (by rw [rz_up_s, rz_u_s, rz_u_s]) (by rw [rz_up_s, rz_u_n (by decide), rz_u_n (by decide)]; rfl) (by rw [rz_up_s, rz_u_n (by decide), rz_u_n (by decide)]; rfl) (by rw [rz_up_s, rz_u_n (by decide), rz_u_n (by decide)]; rfl) (by rw [rz_up_s, rz_u_n (by decide), rz_u_n (by decide)]; rfl) (fun i hi => by rw [rz_u_n (by omega), rl_top hi])
theorem rl_w4 (ι : Nat → Nat → Int32) (r : Nat) (v : Int32) : rl (rz_up ι r 4 v) r = rz_u (rl ι r) 56 v := rl_ext (fun i hi => by rw [rz_up_n (by omega), rz_u_n (by omega), rl_is hi]) (fun i hi => by rw [rz_up_n (by omega), rz_u_n (by omega), rl_sh hi]) (fun i hi => by rw [rz_up_n (by omega), rz_u_n (by omega), rl_ag hi]) (by rw [rz_up_s, rz_u_s, rz_u_s]) (by rw [rz_up_s, rz_u_n (by decide), rz_u_n (by decide)]; rfl) (by rw [rz_up_s, rz_u_n (by decide), rz_u_n (by decide)]; rfl) (by rw [rz_up_s, rz_u_n (by decide), rz_u_n (by decide)]; rfl) (by rw [rz_up_s, rz_u_n (by decide), rz_u_n (by decide)]; rfl) (by rw [rz_up_s, rz_u_n (by decide), rz_u_n (by decide)]; rfl) (fun i hi => by rw [rz_u_n (by omega), rl_top hi])
theorem rl_w5 (ι : Nat → Nat → Int32) (r : Nat) (v : Int32) : rl (rz_up ι r 5 v) r = rz_u (rl ι r) 58 v := rl_ext (fun i hi => by rw [rz_up_n (by omega), rz_u_n (by omega), rl_is hi]) (fun i hi => by rw [rz_up_n (by omega), rz_u_n (by omega), rl_sh hi]) (fun i hi => by rw [rz_up_n (by omega), rz_u_n (by omega), rl_ag hi]) (by rw [rz_up_s, rz_u_n (by decide), rz_u_n (by decide)]; rfl) (by rw [rz_up_s, rz_u_n (by decide), rz_u_n (by decide)]; rfl) (by rw [rz_up_s, rz_u_s, rz_u_s]) (by rw [rz_up_s, rz_u_n (by decide), rz_u_n (by decide)]; rfl) (by rw [rz_up_s, rz_u_n (by decide), rz_u_n (by decide)]; rfl) (by rw [rz_up_s, rz_u_n (by decide), rz_u_n (by decide)]; rfl) (fun i hi => by rw [rz_u_n (by omega), rl_top hi])
theorem rl_w6 (ι : Nat → Nat → Int32) (r : Nat) (v : Int32) : rl (rz_up ι r 6 v) r = rz_u (rl ι r) 59 v := rl_ext (fun i hi => by rw [rz_up_n (by omega), rz_u_n (by omega), rl_is hi]) (fun i hi => by rw [rz_up_n (by omega), rz_u_n (by omega), rl_sh hi]) (fun i hi => by rw [rz_up_n (by omega), rz_u_n (by omega), rl_ag hi]) (by rw [rz_up_s, rz_u_n (by decide), rz_u_n (by decide)]; rfl) (by rw [rz_up_s, rz_u_n (by decide), rz_u_n (by decide)]; rfl) (by rw [rz_up_s, rz_u_n (by decide), rz_u_n (by decide)]; rfl) (by rw [rz_up_s, rz_u_s, rz_u_s]) (by rw [rz_up_s, rz_u_n (by decide), rz_u_n (by decide)]; rfl) (by rw [rz_up_s, rz_u_n (by decide), rz_u_n (by decide)]; rfl) (fun i hi => by rw [rz_u_n (by omega), rl_top hi])
theorem rl_w7 (ι : Nat → Nat → Int32) (r : Nat) (v : Int32) : rl (rz_up ι r 7 v) r = rz_u (rl ι r) 61 v := rl_ext (fun i hi => by rw [rz_up_n (by omega), rz_u_n (by omega), rl_is hi]) (fun i hi => by rw [rz_up_n (by omega), rz_u_n (by omega), rl_sh hi]) (fun i hi => by rw [rz_up_n (by omega), rz_u_n (by omega), rl_ag hi]) (by rw [rz_up_s, rz_u_n (by decide), rz_u_n (by decide)]; rfl) (by rw [rz_up_s, rz_u_n (by decide), rz_u_n (by decide)]; rfl) (by rw [rz_up_s, rz_u_n (by decide), rz_u_n (by decide)]; rfl) (by rw [rz_up_s, rz_u_n (by decide), rz_u_n (by decide)]; rfl) (by rw [rz_up_s, rz_u_n (by decide), rz_u_n (by decide)]; rfl) (by rw [rz_up_s, rz_u_s, rz_u_s]) (fun i hi => by rw [rz_u_n (by omega), rl_top hi])
theorem rl_w8 (ι : Nat → Nat → Int32) (r : Nat) (v : Int32) : rl (rz_up ι r 8 v) r = rz_u (rl ι r) 60 v := rl_ext (fun i hi => by rw [rz_up_n (by omega), rz_u_n (by omega), rl_is hi]) (fun i hi => by rw [rz_up_n (by omega), rz_u_n (by omega), rl_sh hi]) (fun i hi => by rw [rz_up_n (by omega), rz_u_n (by omega), rl_ag hi]) (by rw [rz_up_s, rz_u_n (by decide), rz_u_n (by decide)]; rfl) (by rw [rz_up_s, rz_u_n (by decide), rz_u_n (by decide)]; rfl) (by rw [rz_up_s, rz_u_n (by decide), rz_u_n (by decide)]; rfl) (by rw [rz_up_s, rz_u_n (by decide), rz_u_n (by decide)]; rfl) (by rw [rz_up_s, rz_u_s, rz_u_s]) (by rw [rz_up_s, rz_u_n (by decide), rz_u_n (by decide)]; rfl) (fun i hi => by rw [rz_u_n (by omega), rl_top hi])
theorem rl_wi {ι : Nat → Nat → Int32} {r k : Nat} {v : Int32} (hk : k < 24) : rl (rz_up ι (r + 1) k v) r = rz_u (rl ι r) k v := rl_ext (fun i hi => by
    by_cases e : i = k
    · subst e; rw [rz_up_s, rz_u_s, rz_u_s]
    · rw [rz_up_s, rz_u_n e, rz_u_n (by omega), rl_is hi]) (fun i hi => by rw [rz_up_n (by omega), rz_u_n (by omega), rl_sh hi]) (fun i hi => by rw [rz_up_n (by omega), rz_u_n (by omega), rl_ag hi]) (by rw [rz_up_n (by omega), rz_u_n (by omega)]; rfl) (by rw [rz_up_n (by omega), rz_u_n (by omega)]; rfl) (by rw [rz_up_n (by omega), rz_u_n (by omega)]; rfl) (by rw [rz_up_n (by omega), rz_u_n (by omega)]; rfl) (by rw [rz_up_n (by omega), rz_u_n (by omega)]; rfl) (by rw [rz_up_n (by omega), rz_u_n (by omega)]; rfl) (fun i hi => by rw [rz_u_n (by omega), rl_top hi])
theorem rl_ws {ι : Nat → Nat → Int32} {r k : Nat} {v : Int32} (hk : k < 24) : rl (rz_up ι (r + 2) k v) r = rz_u (rl ι r) (24 + k) v := rl_ext (fun i hi => by rw [rz_up_n (by omega), rz_u_n (by omega), rl_is hi]) (fun i hi => by
    by_cases e : i = k
    · subst e; rw [rz_up_s, rz_u_s, rz_u_s]
    · rw [rz_up_s, rz_u_n e, rz_u_n (by omega), rl_sh hi]) (fun i hi => by rw [rz_up_n (by omega), rz_u_n (by omega), rl_ag hi]) (by rw [rz_up_n (by omega), rz_u_n (by omega)]; rfl) (by rw [rz_up_n (by omega), rz_u_n (by omega)]; rfl) (by rw [rz_up_n (by omega), rz_u_n (by omega)]; rfl) (by rw [rz_up_n (by omega), rz_u_n (by omega)]; rfl) (by rw [rz_up_n (by omega), rz_u_n (by omega)]; rfl) (by rw [rz_up_n (by omega), rz_u_n (by omega)]; rfl) (fun i hi => by rw [rz_u_n (by omega), rl_top hi])
theorem rl_wa {ι : Nat → Nat → Int32} {r k : Nat} {v : Int32} (hk : k < 8) : rl (rz_up ι (r + 3) k v) r = rz_u (rl ι r) (48 + k) v := rl_ext (fun i hi => by rw [rz_up_n (by omega), rz_u_n (by omega), rl_is hi]) (fun i hi => by rw [rz_up_n (by omega), rz_u_n (by omega), rl_sh hi]) (fun i hi => by
    by_cases e : i = k
    · subst e; rw [rz_up_s, rz_u_s, rz_u_s]
    · rw [rz_up_s, rz_u_n e, rz_u_n (by omega), rl_ag hi]) (by rw [rz_up_n (by omega), rz_u_n (by omega)]; rfl) (by rw [rz_up_n (by omega), rz_u_n (by omega)]; rfl) (by rw [rz_up_n (by omega), rz_u_n (by omega)]; rfl) (by rw [rz_up_n (by omega), rz_u_n (by omega)]; rfl) (by rw [rz_up_n (by omega), rz_u_n (by omega)]; rfl) (by rw [rz_up_n (by omega), rz_u_n (by omega)]; rfl) (fun i hi => by rw [rz_u_n (by omega), rl_top hi])
/-- shown is what is -/
def shIs (R : Nat → Int32) (p : Nat) : Nat → Int32 := fun i => if 24 + 3 * p ≤ i ∧ i < 24 + 3 * p + 3 then R (i - 24) else R i
theorem rl_wc {ι : Nat → Nat → Int32} {r p : Nat} (hp : p < 8) : rl (rz_cp ι (r + 1) (r + 2) (p * 3) (p * 3) 3) r = shIs (rl ι r) p := by
  funext i
  unfold shIs
  have h0 : rz_cp ι (r + 1) (r + 2) (p * 3) (p * 3) 3 r = ι r := rz_cp_n (by omega)
  have h1 : rz_cp ι (r + 1) (r + 2) (p * 3) (p * 3) 3 (r + 1) = ι (r + 1) := rz_cp_n (by omega)
  have h3 : rz_cp ι (r + 1) (r + 2) (p * 3) (p * 3) 3 (r + 3) = ι (r + 3) := rz_cp_n (by omega)
  unfold rl
  simp only [h0, h1, h3, rz_cp_s, va_cpy]
  by_cases hi : 24 + 3 * p ≤ i ∧ i < 24 + 3 * p + 3
  · rw [if_pos hi, if_neg (by omega), if_pos (by omega), if_pos (by omega), if_pos (by omega)]
    congr 1
    omega
  · rw [if_neg hi]
    by_cases h24 : i < 24
    · simp [h24]
    · by_cases h48 : i < 48
      · simp only [h24, h48, if_true, if_false]
        rw [if_neg (by omega)]
      · simp [h24, h48]
/-- a person more -/
def addR (R : Nat → Int32) (m : Nat) (x y z e : Int32) : Nat → Int32 := shIs (rz_u (rz_u (rz_u (rz_u (rz_u (rz_u R 57 (R 57 + 1)) 56 (R 56 ||| rBit m)) (48 + m) e) (3 * m) x) (3 * m + 1) y) (3 * m + 2) z) m
def crnR (R : Nat → Int32) (x : Int32) : Nat → Int32 := rz_u (rz_u (rz_u R 58 x) 59 0) 60 (R 60 + (if x = -1 then 0 else 1))
def rlP (r a : Nat) : Prop := r ≤ a ∧ a < r + 4
section REALM2
variable {Z : rx_Z} {d : Nat} {h : Nat → Option rx_E} {ι : Nat → Nat → Int32} {w : Nat × Nat} {r : Nat}
theorem rm_crown (hr : oRl h r) (hz : Z.2.1 ≤ r) (x : Int32) : ∃ ι', rz_f Z (d + 1) 80 [.ref r, .int x] (rz_mk h ι, w) = some (.inl none, (rz_mk h ι', w)) ∧ rl ι' r = crnR (rl ι r) x ∧ fr (rlP r) ι ι' := by
  refine ⟨rz_up (rz_up (rz_up ι r 5 x) r 6 0) r 8 (ι r 8 + (if x = -1 then 0 else 1)), ?_, ?_, ?_⟩
  · rw [e80]
    try simp (decide := true) (maxDischargeDepth := 4) only [g80_0, g80_1, g80_2, g80_5, g80_6, g80_7, g80_10, g80_11, g80_12, g80_15, g80_16, g80_17, g80_20, g80_21, g80_24, g80_26, g80_29, rz_join, rz_k_inl, rz_k_inr, Option.toList_some, Option.toList_none, List.cons_append, List.nil_append, List.append_nil, rz_up_s, rz_u_s, rz_up_n, rz_u_n, ne_eq, not_false_eq_true, not_true_eq_false, Nat.add_assoc, Nat.reduceAdd, reduceIte, Nat.add_eq_left, Nat.left_eq_add, Nat.add_left_cancel_iff, Nat.reduceEqDiff, Nat.add_right_cancel_iff, rz_nb0, rz_nb1, rz_nbb, rz_nbi, rz_isr, rz_zle, if_true, if_false, rz_bi0, rz_bi1, Bool.not_eq_true, Bool.not_eq_false, Bool.true_eq_false, Bool.false_eq_true, rz_ix_lit, cl_lit, Nat.reduceLT, oRl_c, oRl_f0, oRl_v0, oRl_f1, oRl_v1, oRl_f2, oRl_v2, oRl_i3, oRl_i4, oRl_i5, oRl_i6, oRl_i7, oRl_i8, oRl_a1, oRl_n1, oRl_a2, oRl_n2, oRl_a3, oRl_n3, hr, hz]
    try simp (decide := true) (maxDischargeDepth := 4) only [g80_0, g80_1, g80_2, g80_5, g80_6, g80_7, g80_10, g80_11, g80_12, g80_15, g80_16, g80_17, g80_20, g80_21, g80_24, g80_25, g80_26, g80_29, rz_join, rz_k_inl, rz_k_inr, Option.toList_some, Option.toList_none, List.cons_append, List.nil_append, List.append_nil, rz_up_s, rz_u_s, rz_up_n, rz_u_n, ne_eq, not_false_eq_true, not_true_eq_false, Nat.add_assoc, Nat.reduceAdd, reduceIte, Nat.add_eq_left, Nat.left_eq_add, Nat.add_left_cancel_iff, Nat.reduceEqDiff, Nat.add_right_cancel_iff, rz_nb0, rz_nb1, rz_nbb, rz_nbi, rz_isr, rz_zle, if_true, if_false, rz_bi0, rz_bi1, Bool.not_eq_true, Bool.not_eq_false, Bool.true_eq_false, Bool.false_eq_true, rz_ix_lit, cl_lit, Nat.reduceLT, oRl_c, oRl_f0, oRl_v0, oRl_f1, oRl_v1, oRl_f2, oRl_v2, oRl_i3, oRl_i4, oRl_i5, oRl_i6, oRl_i7, oRl_i8, oRl_a1, oRl_n1, oRl_a2, oRl_n2, oRl_a3, oRl_n3, hr, hz]
  · rw [rl_w8, rl_w6, rl_w5]
    rfl
  · exact ((((fr.refl ι).up (by unfold rlP; omega)).up (by unfold rlP; omega)).up (by unfold rlP; omega))
theorem rm_add (hr : oRl h r) (hz : Z.2.1 ≤ r) {m : Nat} (hm : rl ι r 57 = nI m) (hm8 : m < 8) (x y z e : Int32) : ∃ ι', rz_f Z (d + 1) 79 [.ref r, .int x, .int y, .int z, .int e] (rz_mk h ι, w) = some (.inl (some (.int 1)), (rz_mk h ι', w)) ∧ rl ι' r = addR (rl ι r) m x y z e ∧ fr (rlP r) ι ι' := by
  have hm' : ι r 3 = nI m := hm
  have c1 := nI_nn (show m < 2147483648 by omega)
  have c2 : (nI m < 8) = True := by rw [nI_ltL (by omega) (by decide)]; simp [hm8]
  have i0 : rz_ix (nI m) 8 := rz_ix_nat hm8 (by omega)
  have i1 : rz_ix (nI (m * 3)) 24 := rz_ix_nat (by omega) (by omega)
  have i2 : rz_ix (nI (m * 3 + 1)) 24 := rz_ix_nat (by omega) (by omega)
  have i3 : rz_ix (nI (m * 3 + 2)) 24 := rz_ix_nat (by omega) (by omega)
  have c3 := nI_nn (show m * 3 < 2147483648 by omega)
  refine ⟨rz_cp (rz_up (rz_up (rz_up (rz_up (rz_up (rz_up ι r 3 (nI (m + 1))) r 4 (ι r 4 ||| 1 <<< (nI m &&& 31))) (r + 3) m e) (r + 1) (m * 3) x) (r + 1) (m * 3 + 1) y) (r + 1) (m * 3 + 2) z) (r + 1) (r + 2) (m * 3) (m * 3) 3, ?_, ?_, ?_⟩
  · rw [e79]
    simp (decide := true) (maxDischargeDepth := 4) only [g79_0, g79_1, g79_4, g79_7, g79_8, g79_11, g79_13, g79_16, g79_17, g79_18, g79_19, g79_22, g79_24, g79_25, g79_26, g79_29, g79_30, g79_31, g79_34, g79_35, g79_36, g79_39, g79_40, g79_42, g79_43, g79_44, g79_47, g79_48, g79_51, g79_53, g79_55, g79_56, g79_57, g79_60, g79_62, g79_63, g79_64, g79_65, g79_66, g79_67, g79_70, g79_72, g79_73, g79_74, g79_75, g79_76, g79_77, g79_78, g79_79, g79_82, g79_84, g79_85, g79_86, g79_87, g79_88, g79_89, g79_90, g79_91, g79_94, g79_96, g79_97, g79_98, g79_99, g79_102, g79_104, g79_105, g79_106, g79_107, g79_110, g79_111, rz_k_inl, rz_k_inr, Option.toList_some, Option.toList_none, List.cons_append, List.nil_append, List.append_nil, rz_up_s, rz_u_s, rz_up_n, rz_u_n, ne_eq, not_false_eq_true, not_true_eq_false, Nat.add_assoc, Nat.reduceAdd, reduceIte, Nat.add_eq_left, Nat.left_eq_add, Nat.add_left_cancel_iff, Nat.reduceEqDiff, Nat.add_right_cancel_iff, rz_nb0, rz_nb1, rz_nbb, rz_nbi, rz_isr, rz_zle, if_true, if_false, rz_bi0, rz_bi1, Bool.not_eq_true, Bool.not_eq_false, Bool.true_eq_false, Bool.false_eq_true, rz_ix_lit, cl_lit, Nat.reduceLT, oRl_c, oRl_f0, oRl_v0, oRl_f1, oRl_v1, oRl_f2, oRl_v2, oRl_i3, oRl_i4, oRl_i5, oRl_i6, oRl_i7, oRl_i8, oRl_a1, oRl_n1, oRl_a2, oRl_n2, oRl_a3, oRl_n3, hr, hz, hm', c1, c2, c3, i0, i1, i2, i3, nI_1, nI_aL, nI_mL, nI_cl (show m < 2147483648 by omega), nI_cl (show m * 3 < 2147483648 by omega), nI_cl (show m * 3 + 1 < 2147483648 by omega), nI_cl (show m * 3 + 2 < 2147483648 by omega), show m * 3 + 3 ≤ 24 by omega]
  · rw [rl_wc hm8, rl_wi (by omega), rl_wi (by omega), rl_wi (by omega), rl_wa hm8, rl_w4, rl_w3]
    unfold addR
    rw [hm, nI_1, Nat.mul_comm m 3]
    rfl
  · exact ((((((((fr.refl ι).up (by unfold rlP; omega)).up (by unfold rlP; omega)).up (by unfold rlP; omega)).up (by unfold rlP; omega)).up (by unfold rlP; omega)).up (by unfold rlP; omega)).cp (by unfold rlP; omega))
theorem rm_addFull (hr : oRl h r) (hm : rl ι r 57 = nI 8) (x y z e : Int32) : rz_f Z (d + 1) 79 [.ref r, .int x, .int y, .int z, .int e] (rz_mk h ι, w) = some (.inl (some (.int 0)), (rz_mk h ι, w)) := by
  have hm' : ι r 3 = nI 8 := hm
  rw [e79]
  simp (decide := true) (maxDischargeDepth := 4) only [g79_0, g79_1, g79_4, g79_7, g79_8, g79_11, g79_13, g79_16, g79_17, g79_18, g79_19, g79_22, g79_24, g79_25, g79_26, g79_29, g79_30, g79_31, g79_34, g79_35, g79_36, g79_39, g79_40, g79_42, g79_43, g79_44, g79_47, g79_48, g79_51, g79_53, g79_55, g79_56, g79_57, g79_60, g79_62, g79_63, g79_64, g79_65, g79_66, g79_67, g79_70, g79_72, g79_73, g79_74, g79_75, g79_76, g79_77, g79_78, g79_79, g79_82, g79_84, g79_85, g79_86, g79_87, g79_88, g79_89, g79_90, g79_91, g79_94, g79_96, g79_97, g79_98, g79_99, g79_102, g79_104, g79_105, g79_106, g79_107, g79_110, g79_111, rz_k_inl, rz_k_inr, Option.toList_some, Option.toList_none, List.cons_append, List.nil_append, List.append_nil, rz_up_s, rz_u_s, rz_up_n, rz_u_n, ne_eq, not_false_eq_true, not_true_eq_false, Nat.add_assoc, Nat.reduceAdd, reduceIte, Nat.add_eq_left, Nat.left_eq_add, Nat.add_left_cancel_iff, Nat.reduceEqDiff, Nat.add_right_cancel_iff, rz_nb0, rz_nb1, rz_nbb, rz_nbi, rz_isr, rz_zle, if_true, if_false, rz_bi0, rz_bi1, Bool.not_eq_true, Bool.not_eq_false, Bool.true_eq_false, Bool.false_eq_true, rz_ix_lit, cl_lit, Nat.reduceLT, oRl_c, oRl_f0, oRl_v0, oRl_f1, oRl_v1, oRl_f2, oRl_v2, oRl_i3, oRl_i4, oRl_i5, oRl_i6, oRl_i7, oRl_i8, oRl_a1, oRl_n1, oRl_a2, oRl_n2, oRl_a3, oRl_n3, hr, hm', show (nI 8 < 0) = False by decide, show (nI 8 < 8) = False by decide]
/-- feign -/
def fgnR (R : Nat → Int32) (p t : Nat) (n : Int32) : Option (Nat → Int32) := if rLv R p = true ∧ rSh R p t ≠ n then some (rz_u R (24 + (3 * p + t)) n) else none
def drpR (R : Nat → Int32) (m p : Nat) : Option (Nat → Int32) := if p < m ∧ rMs R p ≠ 0 then some (shIs R p) else none
def berR (R : Nat → Int32) (m a b : Nat) : Option (Nat → Int32) := if rLv R a = true ∧ rLv R b = true ∧ a ≠ b ∧ m < 8 then some (addR R m (rCt R a b 0) (rCt R a b 1) (rCt R a b 2) 0) else none
def kilR (R : Nat → Int32) (p : Nat) : Nat → Int32 := rz_u R 56 (R 56 &&& (rBit p ^^^ (-1)))
def burR (C : List (Nat × Nat)) (R : Nat → Int32) (m p : Nat) : Option (Nat → Int32) := if rLv R p = true then some (if nI p = R 58 then crnR (kilR R p) (furO C (kilR R p) (some p) m) else kilR R p) else none
/-- all who live are a year older -/
def agdR (R : Nat → Int32) : Nat → (Nat → Int32)
  | 0 => R
  | p + 1 => if rLv R p = true then rz_u (agdR R p) (48 + p) (R (48 + p) + 1) else agdR R p
def yerR (R : Nat → Int32) (m : Nat) : Nat → Int32 := rz_u (rz_u (agdR R m) 59 (R 59 + (if R 58 = -1 then 0 else 1))) 61 (R 61 + 1)
theorem rm_pretend (hr : oRl h r) (hz : Z.2.1 ≤ r) {p t : Nat} (hp : p < 8) (ht : t < 3) (n : Int32) : ∃ ι', rz_f Z (d + 2) 81 [.ref r, .int (nI p), .int (nI t), .int n] (rz_mk h ι, w) = some (.inl (some (.int (bi (fgnR (rl ι r) p t n).isSome))), (rz_mk h ι', w)) ∧ rl ι' r = (fgnR (rl ι r) p t n).getD (rl ι r) ∧ fr (rlP r) ι ι' := by
  have c1 : (nI (p * 3 + t) < Int32.ofNat 24) = True := by
    show (nI (p * 3 + t) < nI 24) = True
    rw [nI_lt2 (by omega) (by omega)]; simp; omega
  have i1 : rz_ix (nI (p * 3 + t)) 24 := rz_ix_nat (by omega) (by omega)
  have r2 : rSh (rl ι r) p t = ι (r + 2) (p * 3 + t) := by unfold rSh; rw [rl_sh (by omega), Nat.mul_comm]
  by_cases hlv : rLv (rl ι r) p = true
  · by_cases hn : rSh (rl ι r) p t = n
    · have e : fgnR (rl ι r) p t n = none := by unfold fgnR; rw [if_neg (fun z => z.2 hn)]
      rw [r2] at hn
      refine ⟨ι, ?_, by rw [e]; rfl, fr.refl ι⟩
      rw [e81, e]
      simp (decide := true) (maxDischargeDepth := 4) only [g81_0, g81_1, g81_2, g81_3, g81_4, g81_5, g81_7, g81_8, g81_9, g81_12, g81_15, g81_17, g81_20, g81_22, g81_23, g81_26, g81_27, g81_30, g81_31, g81_34, g81_36, g81_37, g81_38, g81_41, g81_42, g81_43, g81_44, g81_47, g81_49, g81_50, g81_51, g81_52, rz_k_inl, rz_k_inr, Option.toList_some, Option.toList_none, List.cons_append, List.nil_append, List.append_nil, rz_up_s, rz_u_s, rz_up_n, rz_u_n, ne_eq, not_false_eq_true, not_true_eq_false, Nat.add_assoc, Nat.reduceAdd, reduceIte, Nat.add_eq_left, Nat.left_eq_add, Nat.add_left_cancel_iff, Nat.reduceEqDiff, Nat.add_right_cancel_iff, rz_nb0, rz_nb1, rz_nbb, rz_nbi, rz_isr, rz_zle, if_true, if_false, rz_bi0, rz_bi1, Bool.not_eq_true, Bool.not_eq_false, Bool.true_eq_false, Bool.false_eq_true, rz_ix_lit, cl_lit, Nat.reduceLT, oRl_c, oRl_f0, oRl_v0, oRl_f1, oRl_v1, oRl_f2, oRl_v2, oRl_i3, oRl_i4, oRl_i5, oRl_i6, oRl_i7, oRl_i8, oRl_a1, oRl_n1, oRl_a2, oRl_n2, oRl_a3, oRl_n3, hr, hz, rm_lives hr hp, hlv, nI_mL, nI_add, nI_nn (show p * 3 + t < 2147483648 by omega), c1, i1, nI_cl (show p * 3 + t < 2147483648 by omega), hn]
      rfl
    · have e : fgnR (rl ι r) p t n = some (rz_u (rl ι r) (24 + (3 * p + t)) n) := by unfold fgnR; rw [if_pos ⟨hlv, hn⟩]
      rw [r2] at hn
      refine ⟨rz_up ι (r + 2) (p * 3 + t) n, ?_, by rw [e, rl_ws (by omega), Nat.mul_comm]; rfl, (fr.refl ι).up (by unfold rlP; omega)⟩
      rw [e81, e]
      simp (decide := true) (maxDischargeDepth := 4) only [g81_0, g81_1, g81_2, g81_3, g81_4, g81_5, g81_7, g81_8, g81_9, g81_12, g81_15, g81_17, g81_20, g81_22, g81_23, g81_26, g81_27, g81_30, g81_31, g81_34, g81_36, g81_37, g81_38, g81_41, g81_42, g81_43, g81_44, g81_47, g81_49, g81_50, g81_51, g81_52, rz_k_inl, rz_k_inr, Option.toList_some, Option.toList_none, List.cons_append, List.nil_append, List.append_nil, rz_up_s, rz_u_s, rz_up_n, rz_u_n, ne_eq, not_false_eq_true, not_true_eq_false, Nat.add_assoc, Nat.reduceAdd, reduceIte, Nat.add_eq_left, Nat.left_eq_add, Nat.add_left_cancel_iff, Nat.reduceEqDiff, Nat.add_right_cancel_iff, rz_nb0, rz_nb1, rz_nbb, rz_nbi, rz_isr, rz_zle, if_true, if_false, rz_bi0, rz_bi1, Bool.not_eq_true, Bool.not_eq_false, Bool.true_eq_false, Bool.false_eq_true, rz_ix_lit, cl_lit, Nat.reduceLT, oRl_c, oRl_f0, oRl_v0, oRl_f1, oRl_v1, oRl_f2, oRl_v2, oRl_i3, oRl_i4, oRl_i5, oRl_i6, oRl_i7, oRl_i8, oRl_a1, oRl_n1, oRl_a2, oRl_n2, oRl_a3, oRl_n3, hr, hz, rm_lives hr hp, hlv, nI_mL, nI_add, nI_nn (show p * 3 + t < 2147483648 by omega), c1, i1, nI_cl (show p * 3 + t < 2147483648 by omega), hn]
      rfl
  · have e : fgnR (rl ι r) p t n = none := by unfold fgnR; rw [if_neg (fun z => hlv z.1)]
    rw [Bool.not_eq_true] at hlv
    refine ⟨ι, ?_, by rw [e]; rfl, fr.refl ι⟩
    rw [e81, e]
    simp (decide := true) (maxDischargeDepth := 4) only [g81_0, g81_1, g81_2, g81_3, g81_4, g81_5, g81_7, g81_8, g81_9, g81_12, g81_15, g81_17, g81_20, g81_22, g81_23, g81_26, g81_27, g81_30, g81_31, g81_34, g81_36, g81_37, g81_38, g81_41, g81_42, g81_43, g81_44, g81_47, g81_49, g81_50, g81_51, g81_52, rz_k_inl, rz_k_inr, Option.toList_some, Option.toList_none, List.cons_append, List.nil_append, List.append_nil, rz_up_s, rz_u_s, rz_up_n, rz_u_n, ne_eq, not_false_eq_true, not_true_eq_false, Nat.add_assoc, Nat.reduceAdd, reduceIte, Nat.add_eq_left, Nat.left_eq_add, Nat.add_left_cancel_iff, Nat.reduceEqDiff, Nat.add_right_cancel_iff, rz_nb0, rz_nb1, rz_nbb, rz_nbi, rz_isr, rz_zle, if_true, if_false, rz_bi0, rz_bi1, Bool.not_eq_true, Bool.not_eq_false, Bool.true_eq_false, Bool.false_eq_true, rz_ix_lit, cl_lit, Nat.reduceLT, oRl_c, oRl_f0, oRl_v0, oRl_f1, oRl_v1, oRl_f2, oRl_v2, oRl_i3, oRl_i4, oRl_i5, oRl_i6, oRl_i7, oRl_i8, oRl_a1, oRl_n1, oRl_a2, oRl_n2, oRl_a3, oRl_n3, hr, hz, rm_lives hr hp, hlv, nI_mL, nI_add]
    rfl
theorem rm_unmask (hr : oRl h r) (hz : Z.2.1 ≤ r) {m : Nat} (hm : rl ι r 57 = nI m) (hm8 : m ≤ 8) {p : Nat} (hp : p < 8) : ∃ ι', rz_f Z (d + 3) 82 [.ref r, .int (nI p)] (rz_mk h ι, w) = some (.inl (some (.int (bi (drpR (rl ι r) m p).isSome))), (rz_mk h ι', w)) ∧ rl ι' r = (drpR (rl ι r) m p).getD (rl ι r) ∧ fr (rlP r) ι ι' := by
  have hh := rm_has (Z := Z) (d := d + 1) (w := w) hr hm hm8 (nI p)
  rw [show (!decide (nI p < 0) && decide (nI p < nI m)) = decide (p < m) by simp [nI_nn (show p < 2147483648 by omega), nI_lt2 (show p < 2147483648 by omega) (show m < 2147483648 by omega)]] at hh
  by_cases hpm : p < m
  · by_cases hn : rMs (rl ι r) p = 0
    · have e : drpR (rl ι r) m p = none := by unfold drpR; rw [if_neg (fun z => z.2 hn)]
      refine ⟨ι, ?_, by rw [e]; rfl, fr.refl ι⟩
      rw [e82, e]
      simp (decide := true) (maxDischargeDepth := 4) only [g82_0, g82_1, g82_2, g82_5, g82_8, g82_9, g82_10, g82_13, g82_16, g82_17, g82_18, g82_19, g82_22, g82_23, g82_24, g82_25, g82_26, g82_29, g82_30, g82_31, g82_32, g82_33, g82_36, g82_37, rz_k_inl, rz_k_inr, Option.toList_some, Option.toList_none, List.cons_append, List.nil_append, List.append_nil, rz_up_s, rz_u_s, rz_up_n, rz_u_n, ne_eq, not_false_eq_true, not_true_eq_false, Nat.add_assoc, Nat.reduceAdd, reduceIte, Nat.add_eq_left, Nat.left_eq_add, Nat.add_left_cancel_iff, Nat.reduceEqDiff, Nat.add_right_cancel_iff, rz_nb0, rz_nb1, rz_nbb, rz_nbi, rz_isr, rz_zle, if_true, if_false, rz_bi0, rz_bi1, Bool.not_eq_true, Bool.not_eq_false, Bool.true_eq_false, Bool.false_eq_true, rz_ix_lit, cl_lit, Nat.reduceLT, oRl_c, oRl_f0, oRl_v0, oRl_f1, oRl_v1, oRl_f2, oRl_v2, oRl_i3, oRl_i4, oRl_i5, oRl_i6, oRl_i7, oRl_i8, oRl_a1, oRl_n1, oRl_a2, oRl_n2, oRl_a3, oRl_n3, hr, hz, hh, hpm, rm_masked hr hp, hn, decide_true]
      rfl
    · have e : drpR (rl ι r) m p = some (shIs (rl ι r) p) := by unfold drpR; rw [if_pos ⟨hpm, hn⟩]
      refine ⟨rz_cp ι (r + 1) (r + 2) (p * 3) (p * 3) 3, ?_, by rw [e, rl_wc hp]; rfl, (fr.refl ι).cp (by unfold rlP; omega)⟩
      rw [e82, e]
      simp (decide := true) (maxDischargeDepth := 4) only [g82_0, g82_1, g82_2, g82_5, g82_8, g82_9, g82_10, g82_13, g82_16, g82_17, g82_18, g82_19, g82_22, g82_23, g82_24, g82_25, g82_26, g82_29, g82_30, g82_31, g82_32, g82_33, g82_36, g82_37, rz_k_inl, rz_k_inr, Option.toList_some, Option.toList_none, List.cons_append, List.nil_append, List.append_nil, rz_up_s, rz_u_s, rz_up_n, rz_u_n, ne_eq, not_false_eq_true, not_true_eq_false, Nat.add_assoc, Nat.reduceAdd, reduceIte, Nat.add_eq_left, Nat.left_eq_add, Nat.add_left_cancel_iff, Nat.reduceEqDiff, Nat.add_right_cancel_iff, rz_nb0, rz_nb1, rz_nbb, rz_nbi, rz_isr, rz_zle, if_true, if_false, rz_bi0, rz_bi1, Bool.not_eq_true, Bool.not_eq_false, Bool.true_eq_false, Bool.false_eq_true, rz_ix_lit, cl_lit, Nat.reduceLT, oRl_c, oRl_f0, oRl_v0, oRl_f1, oRl_v1, oRl_f2, oRl_v2, oRl_i3, oRl_i4, oRl_i5, oRl_i6, oRl_i7, oRl_i8, oRl_a1, oRl_n1, oRl_a2, oRl_n2, oRl_a3, oRl_n3, hr, hz, hh, hpm, rm_masked hr hp, hn, decide_true, nI_mL, nI_nn (show p * 3 < 2147483648 by omega), nI_cl (show p * 3 < 2147483648 by omega), show p * 3 + 3 ≤ 24 by omega]
      rfl
  · have e : drpR (rl ι r) m p = none := by unfold drpR; rw [if_neg (fun z => hpm z.1)]
    refine ⟨ι, ?_, by rw [e]; rfl, fr.refl ι⟩
    rw [e82, e]
    simp (decide := true) (maxDischargeDepth := 4) only [g82_0, g82_1, g82_2, g82_5, g82_8, g82_9, g82_10, g82_13, g82_16, g82_17, g82_18, g82_19, g82_22, g82_23, g82_24, g82_25, g82_26, g82_29, g82_30, g82_31, g82_32, g82_33, g82_36, g82_37, rz_k_inl, rz_k_inr, Option.toList_some, Option.toList_none, List.cons_append, List.nil_append, List.append_nil, rz_up_s, rz_u_s, rz_up_n, rz_u_n, ne_eq, not_false_eq_true, not_true_eq_false, Nat.add_assoc, Nat.reduceAdd, reduceIte, Nat.add_eq_left, Nat.left_eq_add, Nat.add_left_cancel_iff, Nat.reduceEqDiff, Nat.add_right_cancel_iff, rz_nb0, rz_nb1, rz_nbb, rz_nbi, rz_isr, rz_zle, if_true, if_false, rz_bi0, rz_bi1, Bool.not_eq_true, Bool.not_eq_false, Bool.true_eq_false, Bool.false_eq_true, rz_ix_lit, cl_lit, Nat.reduceLT, oRl_c, oRl_f0, oRl_v0, oRl_f1, oRl_v1, oRl_f2, oRl_v2, oRl_i3, oRl_i4, oRl_i5, oRl_i6, oRl_i7, oRl_i8, oRl_a1, oRl_n1, oRl_a2, oRl_n2, oRl_a3, oRl_n3, hr, hz, hh, hpm, decide_false]
    rfl
theorem rm_bear (hr : oRl h r) (hz : Z.2.1 ≤ r) {m : Nat} (hm : rl ι r 57 = nI m) (hm8 : m ≤ 8) {a b : Nat} (ha : a < 8) (hb : b < 8) : ∃ ι', rz_f Z (d + 3) 83 [.ref r, .int (nI a), .int (nI b)] (rz_mk h ι, w) = some (.inl (some (.int (bi (berR (rl ι r) m a b).isSome))), (rz_mk h ι', w)) ∧ rl ι' r = (berR (rl ι r) m a b).getD (rl ι r) ∧ fr (rlP r) ι ι' := by
  have la := rm_lives (Z := Z) (d := d + 1) (w := w) (ι := ι) hr ha
  have lb := rm_lives (Z := Z) (d := d + 1) (w := w) (ι := ι) hr hb
  have c0 := rm_childTrait (Z := Z) (d := d) (w := w) (ι := ι) hr ha hb (show 0 < 3 by omega)
  have c1 := rm_childTrait (Z := Z) (d := d) (w := w) (ι := ι) hr ha hb (show 1 < 3 by omega)
  have c2 := rm_childTrait (Z := Z) (d := d) (w := w) (ι := ι) hr ha hb (show 2 < 3 by omega)
  rw [show nI 0 = 0 from rfl] at c0
  rw [show nI 1 = 1 from rfl] at c1
  rw [show nI 2 = 2 from rfl] at c2
  by_cases h1 : rLv (rl ι r) a = true
  · by_cases h2 : rLv (rl ι r) b = true
    · by_cases h3 : a = b
      · have cq : (nI a = nI b) = True := by rw [h3]; simp
        have e : berR (rl ι r) m a b = none := by unfold berR; rw [if_neg (fun z => z.2.2.1 h3)]
        refine ⟨ι, ?_, by rw [e]; rfl, fr.refl ι⟩
        rw [e83, e]
        simp (decide := true) (maxDischargeDepth := 4) only [g83_0, g83_1, g83_2, g83_5, g83_8, g83_9, g83_10, g83_13, g83_16, g83_17, g83_18, g83_21, g83_22, g83_23, g83_24, g83_25, g83_26, g83_27, g83_28, g83_31, g83_32, g83_33, g83_34, g83_35, g83_38, g83_39, g83_40, g83_41, g83_42, g83_45, g83_46, g83_49, rz_k_inl, rz_k_inr, Option.toList_some, Option.toList_none, List.cons_append, List.nil_append, List.append_nil, rz_up_s, rz_u_s, rz_up_n, rz_u_n, ne_eq, not_false_eq_true, not_true_eq_false, Nat.add_assoc, Nat.reduceAdd, reduceIte, Nat.add_eq_left, Nat.left_eq_add, Nat.add_left_cancel_iff, Nat.reduceEqDiff, Nat.add_right_cancel_iff, rz_nb0, rz_nb1, rz_nbb, rz_nbi, rz_isr, rz_zle, if_true, if_false, rz_bi0, rz_bi1, Bool.not_eq_true, Bool.not_eq_false, Bool.true_eq_false, Bool.false_eq_true, rz_ix_lit, cl_lit, Nat.reduceLT, oRl_c, oRl_f0, oRl_v0, oRl_f1, oRl_v1, oRl_f2, oRl_v2, oRl_i3, oRl_i4, oRl_i5, oRl_i6, oRl_i7, oRl_i8, oRl_a1, oRl_n1, oRl_a2, oRl_n2, oRl_a3, oRl_n3, hr, hz, la, lb, h1, h2, cq]
        rfl
      · have cq : (nI a = nI b) = False := by rw [nI_eq2 (by omega) (by omega)]; simp [h3]
        by_cases h4 : m < 8
        · have e : berR (rl ι r) m a b = some (addR (rl ι r) m (rCt (rl ι r) a b 0) (rCt (rl ι r) a b 1) (rCt (rl ι r) a b 2) 0) := by unfold berR; rw [if_pos ⟨h1, h2, h3, h4⟩]
          obtain ⟨ι', g1, g2, g3⟩ := rm_add (Z := Z) (d := d + 1) (w := w) hr hz hm h4 (rCt (rl ι r) a b 0) (rCt (rl ι r) a b 1) (rCt (rl ι r) a b 2) 0
          refine ⟨ι', ?_, by rw [e, g2]; rfl, g3⟩
          rw [e83, e]
          simp (decide := true) (maxDischargeDepth := 4) only [g83_0, g83_1, g83_2, g83_5, g83_8, g83_9, g83_10, g83_13, g83_16, g83_17, g83_18, g83_21, g83_22, g83_23, g83_24, g83_25, g83_26, g83_27, g83_28, g83_31, g83_32, g83_33, g83_34, g83_35, g83_38, g83_39, g83_40, g83_41, g83_42, g83_45, g83_46, g83_49, rz_k_inl, rz_k_inr, Option.toList_some, Option.toList_none, List.cons_append, List.nil_append, List.append_nil, rz_up_s, rz_u_s, rz_up_n, rz_u_n, ne_eq, not_false_eq_true, not_true_eq_false, Nat.add_assoc, Nat.reduceAdd, reduceIte, Nat.add_eq_left, Nat.left_eq_add, Nat.add_left_cancel_iff, Nat.reduceEqDiff, Nat.add_right_cancel_iff, rz_nb0, rz_nb1, rz_nbb, rz_nbi, rz_isr, rz_zle, if_true, if_false, rz_bi0, rz_bi1, Bool.not_eq_true, Bool.not_eq_false, Bool.true_eq_false, Bool.false_eq_true, rz_ix_lit, cl_lit, Nat.reduceLT, oRl_c, oRl_f0, oRl_v0, oRl_f1, oRl_v1, oRl_f2, oRl_v2, oRl_i3, oRl_i4, oRl_i5, oRl_i6, oRl_i7, oRl_i8, oRl_a1, oRl_n1, oRl_a2, oRl_n2, oRl_a3, oRl_n3, hr, hz, la, lb, h1, h2, cq, c0, c1, c2, g1]
          rfl
        · have hm88 : m = 8 := by omega
          subst hm88
          have e : berR (rl ι r) 8 a b = none := by unfold berR; rw [if_neg (fun z => h4 z.2.2.2)]
          refine ⟨ι, ?_, by rw [e]; rfl, fr.refl ι⟩
          rw [e83, e]
          simp (decide := true) (maxDischargeDepth := 4) only [g83_0, g83_1, g83_2, g83_5, g83_8, g83_9, g83_10, g83_13, g83_16, g83_17, g83_18, g83_21, g83_22, g83_23, g83_24, g83_25, g83_26, g83_27, g83_28, g83_31, g83_32, g83_33, g83_34, g83_35, g83_38, g83_39, g83_40, g83_41, g83_42, g83_45, g83_46, g83_49, rz_k_inl, rz_k_inr, Option.toList_some, Option.toList_none, List.cons_append, List.nil_append, List.append_nil, rz_up_s, rz_u_s, rz_up_n, rz_u_n, ne_eq, not_false_eq_true, not_true_eq_false, Nat.add_assoc, Nat.reduceAdd, reduceIte, Nat.add_eq_left, Nat.left_eq_add, Nat.add_left_cancel_iff, Nat.reduceEqDiff, Nat.add_right_cancel_iff, rz_nb0, rz_nb1, rz_nbb, rz_nbi, rz_isr, rz_zle, if_true, if_false, rz_bi0, rz_bi1, Bool.not_eq_true, Bool.not_eq_false, Bool.true_eq_false, Bool.false_eq_true, rz_ix_lit, cl_lit, Nat.reduceLT, oRl_c, oRl_f0, oRl_v0, oRl_f1, oRl_v1, oRl_f2, oRl_v2, oRl_i3, oRl_i4, oRl_i5, oRl_i6, oRl_i7, oRl_i8, oRl_a1, oRl_n1, oRl_a2, oRl_n2, oRl_a3, oRl_n3, hr, hz, la, lb, h1, h2, cq, c0, c1, c2, rm_addFull hr hm]
          rfl
    · have e : berR (rl ι r) m a b = none := by unfold berR; rw [if_neg (fun z => h2 z.2.1)]
      rw [Bool.not_eq_true] at h2
      refine ⟨ι, ?_, by rw [e]; rfl, fr.refl ι⟩
      rw [e83, e]
      simp (decide := true) (maxDischargeDepth := 4) only [g83_0, g83_1, g83_2, g83_5, g83_8, g83_9, g83_10, g83_13, g83_16, g83_17, g83_18, g83_21, g83_22, g83_23, g83_24, g83_25, g83_26, g83_27, g83_28, g83_31, g83_32, g83_33, g83_34, g83_35, g83_38, g83_39, g83_40, g83_41, g83_42, g83_45, g83_46, g83_49, rz_k_inl, rz_k_inr, Option.toList_some, Option.toList_none, List.cons_append, List.nil_append, List.append_nil, rz_up_s, rz_u_s, rz_up_n, rz_u_n, ne_eq, not_false_eq_true, not_true_eq_false, Nat.add_assoc, Nat.reduceAdd, reduceIte, Nat.add_eq_left, Nat.left_eq_add, Nat.add_left_cancel_iff, Nat.reduceEqDiff, Nat.add_right_cancel_iff, rz_nb0, rz_nb1, rz_nbb, rz_nbi, rz_isr, rz_zle, if_true, if_false, rz_bi0, rz_bi1, Bool.not_eq_true, Bool.not_eq_false, Bool.true_eq_false, Bool.false_eq_true, rz_ix_lit, cl_lit, Nat.reduceLT, oRl_c, oRl_f0, oRl_v0, oRl_f1, oRl_v1, oRl_f2, oRl_v2, oRl_i3, oRl_i4, oRl_i5, oRl_i6, oRl_i7, oRl_i8, oRl_a1, oRl_n1, oRl_a2, oRl_n2, oRl_a3, oRl_n3, hr, hz, la, lb, h1, h2]
      rfl
  · have e : berR (rl ι r) m a b = none := by unfold berR; rw [if_neg (fun z => h1 z.1)]
    rw [Bool.not_eq_true] at h1
    refine ⟨ι, ?_, by rw [e]; rfl, fr.refl ι⟩
    rw [e83, e]
    simp (decide := true) (maxDischargeDepth := 4) only [g83_0, g83_1, g83_2, g83_5, g83_8, g83_9, g83_10, g83_13, g83_16, g83_17, g83_18, g83_21, g83_22, g83_23, g83_24, g83_25, g83_26, g83_27, g83_28, g83_31, g83_32, g83_33, g83_34, g83_35, g83_38, g83_39, g83_40, g83_41, g83_42, g83_45, g83_46, g83_49, rz_k_inl, rz_k_inr, Option.toList_some, Option.toList_none, List.cons_append, List.nil_append, List.append_nil, rz_up_s, rz_u_s, rz_up_n, rz_u_n, ne_eq, not_false_eq_true, not_true_eq_false, Nat.add_assoc, Nat.reduceAdd, reduceIte, Nat.add_eq_left, Nat.left_eq_add, Nat.add_left_cancel_iff, Nat.reduceEqDiff, Nat.add_right_cancel_iff, rz_nb0, rz_nb1, rz_nbb, rz_nbi, rz_isr, rz_zle, if_true, if_false, rz_bi0, rz_bi1, Bool.not_eq_true, Bool.not_eq_false, Bool.true_eq_false, Bool.false_eq_true, rz_ix_lit, cl_lit, Nat.reduceLT, oRl_c, oRl_f0, oRl_v0, oRl_f1, oRl_v1, oRl_f2, oRl_v2, oRl_i3, oRl_i4, oRl_i5, oRl_i6, oRl_i7, oRl_i8, oRl_a1, oRl_n1, oRl_a2, oRl_n2, oRl_a3, oRl_n3, hr, hz, la, lb, h1]
    rfl
end REALM2
