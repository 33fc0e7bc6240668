/-! the reference begins anew; its call of a DUKEDOM -/
section DUK7
variable {Z : rx_Z} {d : Nat} {h : Nat → Option rx_E} {ι ι0 : Nat → Nat → Int32} {w : Nat × Nat} {b : Nat}
def inR (V : Nat → Int32) (R : Nat → Int32) (p : Nat) : Nat → (Nat → Int32)
  | 0 => rz_u R (48 + p) 20
  | t + 1 => rz_u (rz_u (inR V R p t) (3 * p + t) (V t)) (24 + (3 * p + t)) (V t)
def anF (b : Nat) (ι ι' : Nat → Nat → Int32) : Prop := (∀ a, a ≠ b → a ≠ b + 4 → a ≠ b + 446 → ¬ (b + 15 ≤ a ∧ a < b + 23) → ι' a = ι a) ∧ ι' b = rz_u (rz_u (rz_u (rz_u (rz_u (ι b) 15 0) 29 0) 30 0) 31 0) 32 0
theorem pwR_hi (P : List P3) : ∀ n, n ≤ 8 → ∀ i, 56 ≤ i → pwR P n i = 0
  | 0, _, _, _ => rfl
  | n + 1, hn, i, hi => by
    rw [pwR, rz_u_n (by omega), rz_u_n (by omega), rz_u_n (by omega), rz_u_n (by omega), rz_u_n (by omega), rz_u_n (by omega), rz_u_n (by omega)]
    exact pwR_hi P n (by omega) i hi
theorem mk_anew {P : List P3} {dk ld : Nat} (hdk : dk < 2147483648) (hb : oMd h b) (hz : Z.2.1 ≤ b) (hP : P.length ≤ 8) (h0 : ι (b + 3) 0 = nI P.length) (h1 : ι (b + 3) 1 = nI dk) (h2 : ι (b + 3) 2 = nI ld) (hp : prJ b ι P) (ht : ∀ i, 62 ≤ i → ι (b + 446) i = 0) : ∃ ι', rz_f Z (d + 2) 200 [.ref b] (rz_mk h ι, w) = some (.inl none, (rz_mk h ι', w)) ∧ ι' (b + 446) = crnR (dkR P) (if P.length = 0 then -1 else nI dk) ∧ ι' (b + 4) 0 = nI P.length ∧ ι' (b + 4) 2 = nI ld ∧ anF b ι ι' := by
  have S1 := rz_loopE (fun k => rg Z (d + 1) rx_m200 2 [some (.ref b), some (.int (nI k)), none] [] (rz_mk h (rz_rw ι (b + 4) (cpK (ι (b + 3)) (ι (b + 4)) k)), w)) 3 (by
    intro k hk
    have c : (nI k < 3) = True := by rw [nI_ltL (by omega) (by decide)]; simp [hk]
    have i1 : rz_ix (nI k) 3 := rz_ix_nat hk (by omega)
    have n1 : rz_rw ι (b + 4) (cpK (ι (b + 3)) (ι (b + 4)) k) (b + 3) = ι (b + 3) := rz_rw_n (by omega)
    try dsimp only
    rw [g200_2]
    simp (decide := true) (maxDischargeDepth := 4) only [g200_3, g200_4, g200_7, g200_8, g200_11, g200_12, g200_13, g200_16, g200_17, g200_18, g200_19, g200_22, rz_k_inl, rz_k_inr, Option.toList_some, Option.toList_none, List.cons_append, List.nil_append, List.append_nil, rz_up_s, rz_u_s, rz_up_n, rz_u_n, ne_eq, not_false_eq_true, not_true_eq_false, Nat.add_assoc, Nat.reduceAdd, reduceIte, Nat.add_eq_left, Nat.left_eq_add, Nat.add_left_cancel_iff, Nat.reduceEqDiff, Nat.add_right_cancel_iff, rz_nb0, rz_nb1, rz_nbb, rz_nbi, rz_isr, rz_zle, if_true, if_false, rz_bi0, rz_bi1, Bool.not_eq_true, Bool.not_eq_false, Bool.true_eq_false, Bool.false_eq_true, rz_ix_lit, cl_lit, Nat.reduceLT, bi_t, bi_f, decide_true, decide_false, Bool.not_false, Bool.not_true, Bool.and_true, Bool.true_and, Bool.and_false, Bool.false_and, oMd_c, oMd_i0, oMd_i1, oMd_i2, oMd_i3, oMd_i4, oMd_i5, oMd_i6, oMd_i7, oMd_i8, oMd_f9, oMd_v9, oMd_f10, oMd_v10, oMd_f11, oMd_v11, oMd_f12, oMd_v12, oMd_f13, oMd_v13, oMd_f14, oMd_v14, oMd_i15, oMd_i16, oMd_f17, oMd_v17, oMd_f18, oMd_v18, oMd_f19, oMd_v19, oMd_f20, oMd_v20, oMd_f21, oMd_v21, oMd_f22, oMd_v22, oMd_f23, oMd_v23, oMd_i24, oMd_f25, oMd_v25, oMd_f26, oMd_v26, oMd_f27, oMd_v27, oMd_f28, oMd_v28, oMd_i29, oMd_i30, oMd_i31, oMd_i32, oMd_i33, oMd_i34, oMd_i35, oMd_f36, oMd_v36, oMd_f37, oMd_v37, oMd_f38, oMd_v38, oMd_i39, oMd_f40, oMd_v40, oMd_f41, oMd_v41, oMd_i42, oMd_f43, oMd_v43, oMd_i44, oMd_a1, oMd_n1, oMd_a2, oMd_n2, oMd_a3, oMd_n3, oMd_a4, oMd_n4, oMd_a363, oMd_n363, oMd_a364, oMd_n364, oMd_a446, oMd_n446, oMd_a447, oMd_n447, oMd_a469, oMd_n469, oMd_a470, oMd_n470, oMd_a471, oMd_n471, oMd_a472, oMd_n472, oMd_a473, oMd_n473, oMd_a5, oMd_n5, oMd_e5, oMd_ra5, oMd_rn5, oMd_a14, oMd_n14, oMd_e14, oMd_ra14, oMd_rn14, oMd_a23, oMd_n23, oMd_e23, oMd_ra23, oMd_rn23, oMd_a184, oMd_n184, oMd_e184, oMd_ra184, oMd_rn184, oMd_a345, oMd_n345, oMd_e345, oMd_ra345, oMd_rn345, oMd_a354, oMd_n354, oMd_e354, oMd_ra354, oMd_rn354, oMd_a365, oMd_n365, oMd_e365, oMd_ra365, oMd_rn365, oMd_a448, oMd_n448, oMd_e448, oMd_ra448, oMd_rn448, oMd_a465, oMd_n465, oMd_e465, oMd_ra465, oMd_rn465, hb, hz, c, i1, nI_cl (show k < 2147483648 by omega), n1, rz_rw_up, cpK_s, nI_1])
  try dsimp only at S1
  rw [cpK_0, rz_rw_id rfl] at S1
  obtain ⟨ι1, e1⟩ : ∃ ι1, rz_rw ι (b + 4) (cpK (ι (b + 3)) (ι (b + 4)) 3) = ι1 := ⟨_, rfl⟩
  rw [e1] at S1
  have t10 : ι1 (b + 4) 0 = nI P.length := by rw [← e1, rz_rw_s]; unfold cpK; rw [if_pos (by omega)]; exact h0
  have t11 : ι1 (b + 4) 1 = nI dk := by rw [← e1, rz_rw_s]; unfold cpK; rw [if_pos (by omega)]; exact h1
  have t12 : ι1 (b + 4) 2 = nI ld := by rw [← e1, rz_rw_s]; unfold cpK; rw [if_pos (by omega)]; exact h2
  have n1 : ∀ a, a ≠ b + 4 → ι1 a = ι a := fun a ha => by rw [← e1, rz_rw_n ha]
  have LY := md_lays (Z := Z) (d := d) (w := w) (ι := ι1) (A := b + 5) (T := b + 14) (n := P.length) (L := 3) (fA := fun j => b + (6 + j)) (tA := fun j => b + (15 + j)) (oMd_a5 hb) (oMd_a14 hb) (by rw [oMd_n5 hb]; exact hP) (by rw [oMd_n14 hb]; exact hP) (by rw [oMd_n5 hb]; decide) (by rw [oMd_n14 hb]; decide) (oMd_e5 hb) (oMd_e14 hb) (fun j hj => ⟨oMd_ra5 hb (by omega), oMd_rn5 hb (by omega)⟩) (fun j hj => ⟨oMd_ra14 hb (by omega), oMd_rn14 hb (by omega), by omega⟩) (by decide) (fun i j h1 h2 => by omega) (fun i h1 k h2 z => by omega)
  obtain ⟨ι2, e2⟩ : ∃ ι2, lyI ι1 (fun j => b + (6 + j)) (fun j => b + (15 + j)) 3 P.length = ι2 := ⟨_, rfl⟩
  rw [e2] at LY
  have n2 : ∀ a, ¬ (b + 15 ≤ a ∧ a < b + 23) → ι2 a = ι1 a := fun a ha => by rw [← e2]; exact lyI_n P.length (fun j hj => by omega)
  have v2 : ∀ p t, p < P.length → t < 3 → ι2 (b + (15 + p)) t = ι (b + (6 + p)) t := fun p t h1 h2 => by
    rw [← e2]
    have := lyI_s (ι := ι1) (fA := fun j => b + (6 + j)) (tA := fun j => b + (15 + j)) (L := 3) P.length p h1 (fun i h1 k h2 z => by omega)
    try dsimp only at this
    rw [this]
    unfold cpK
    rw [if_pos h2, n1 _ (by omega)]
  have S3 := rz_loopE (fun k => rg Z (d + 1) rx_m200 44 [some (.ref b), some (.int (nI k)), none] [] (rz_mk h (rz_rw ι2 (b + 446) (cpK (fun _ => 0) (ι2 (b + 446)) k)), w)) 62 (by
    intro k hk
    have c : (nI k < 62) = True := by rw [nI_ltL (by omega) (by decide)]; simp [hk]
    have i1 : rz_ix (nI k) 62 := rz_ix_nat hk (by omega)
    have cs := cpK_s (fun _ => 0) (ι2 (b + 446)) k
    try dsimp only at cs
    try dsimp only
    rw [g200_44]
    simp (decide := true) (maxDischargeDepth := 4) only [g200_45, g200_47, g200_50, g200_51, g200_54, g200_55, g200_56, g200_57, g200_60, rz_k_inl, rz_k_inr, Option.toList_some, Option.toList_none, List.cons_append, List.nil_append, List.append_nil, rz_up_s, rz_u_s, rz_up_n, rz_u_n, ne_eq, not_false_eq_true, not_true_eq_false, Nat.add_assoc, Nat.reduceAdd, reduceIte, Nat.add_eq_left, Nat.left_eq_add, Nat.add_left_cancel_iff, Nat.reduceEqDiff, Nat.add_right_cancel_iff, rz_nb0, rz_nb1, rz_nbb, rz_nbi, rz_isr, rz_zle, if_true, if_false, rz_bi0, rz_bi1, Bool.not_eq_true, Bool.not_eq_false, Bool.true_eq_false, Bool.false_eq_true, rz_ix_lit, cl_lit, Nat.reduceLT, bi_t, bi_f, decide_true, decide_false, Bool.not_false, Bool.not_true, Bool.and_true, Bool.true_and, Bool.and_false, Bool.false_and, oMd_c, oMd_i0, oMd_i1, oMd_i2, oMd_i3, oMd_i4, oMd_i5, oMd_i6, oMd_i7, oMd_i8, oMd_f9, oMd_v9, oMd_f10, oMd_v10, oMd_f11, oMd_v11, oMd_f12, oMd_v12, oMd_f13, oMd_v13, oMd_f14, oMd_v14, oMd_i15, oMd_i16, oMd_f17, oMd_v17, oMd_f18, oMd_v18, oMd_f19, oMd_v19, oMd_f20, oMd_v20, oMd_f21, oMd_v21, oMd_f22, oMd_v22, oMd_f23, oMd_v23, oMd_i24, oMd_f25, oMd_v25, oMd_f26, oMd_v26, oMd_f27, oMd_v27, oMd_f28, oMd_v28, oMd_i29, oMd_i30, oMd_i31, oMd_i32, oMd_i33, oMd_i34, oMd_i35, oMd_f36, oMd_v36, oMd_f37, oMd_v37, oMd_f38, oMd_v38, oMd_i39, oMd_f40, oMd_v40, oMd_f41, oMd_v41, oMd_i42, oMd_f43, oMd_v43, oMd_i44, oMd_a1, oMd_n1, oMd_a2, oMd_n2, oMd_a3, oMd_n3, oMd_a4, oMd_n4, oMd_a363, oMd_n363, oMd_a364, oMd_n364, oMd_a446, oMd_n446, oMd_a447, oMd_n447, oMd_a469, oMd_n469, oMd_a470, oMd_n470, oMd_a471, oMd_n471, oMd_a472, oMd_n472, oMd_a473, oMd_n473, oMd_a5, oMd_n5, oMd_e5, oMd_ra5, oMd_rn5, oMd_a14, oMd_n14, oMd_e14, oMd_ra14, oMd_rn14, oMd_a23, oMd_n23, oMd_e23, oMd_ra23, oMd_rn23, oMd_a184, oMd_n184, oMd_e184, oMd_ra184, oMd_rn184, oMd_a345, oMd_n345, oMd_e345, oMd_ra345, oMd_rn345, oMd_a354, oMd_n354, oMd_e354, oMd_ra354, oMd_rn354, oMd_a365, oMd_n365, oMd_e365, oMd_ra365, oMd_rn365, oMd_a448, oMd_n448, oMd_e448, oMd_ra448, oMd_rn448, oMd_a465, oMd_n465, oMd_e465, oMd_ra465, oMd_rn465, hb, hz, c, i1, nI_cl (show k < 2147483648 by omega), rz_rw_up, cs, nI_1])
  try dsimp only at S3
  rw [cpK_0, rz_rw_id rfl, cpK_all (fun i hi => by rw [n2 _ (by omega), n1 _ (by omega), ht i hi])] at S3
  have tA : ∀ row, rz_rw ι2 (b + 446) row (b + 4) = ι1 (b + 4) := fun row => by rw [rz_rw_n (by omega), n2 _ (by omega)]
  have S4 := rz_loopE (fun p => rg Z (d + 1) rx_m200 65 [some (.ref b), some (.int (nI p)), if p = 0 then none else some (.int 3)] [] (rz_mk h (rz_rw ι2 (b + 446) (pwR P p)), w)) P.length (by
    intro p hp'
    have c : (nI p < nI P.length) = True := by rw [nI_lt2 (by omega) (by omega)]; simp [hp']
    have i48 : rz_ix (nI (48 + p)) 62 := rz_ix_nat (by omega) (by omega)
    have p8 : p < 8 := by omega
    have a14 := oMd_ra14 hb p8
    have b14 := oMd_rn14 hb p8
    have ip : rz_ix (nI p) 8 := rz_ix_nat p8 (by omega)
    have tV : ∀ row, rz_rw ι2 (b + 446) row (b + (15 + p)) = ι2 (b + (15 + p)) := fun row => by rw [rz_rw_n (by omega)]
    have IN := rz_loopE (fun t => rg Z (d + 1) rx_m200 88 [some (.ref b), some (.int (nI p)), some (.int (nI t))] [] (rz_mk h (rz_rw ι2 (b + 446) (inR (ι2 (b + (15 + p))) (pwR P p) p t)), w)) 3 (by
      intro t ht'
      have c2 : (nI t < 3) = True := by rw [nI_ltL (by omega) (by decide)]; simp [ht']
      have i1 : rz_ix (nI t) 3 := rz_ix_nat ht' (by omega)
      have i2 : rz_ix (nI (3 * p + t)) 62 := rz_ix_nat (by omega) (by omega)
      have i3 : rz_ix (nI (24 + (3 * p + t))) 62 := rz_ix_nat (by omega) (by omega)
      try dsimp only
      rw [g200_88, inR]
      simp (decide := true) (maxDischargeDepth := 4) only [g200_89, g200_90, g200_93, g200_94, g200_97, g200_98, g200_99, g200_100, g200_101, g200_102, g200_103, g200_104, g200_105, g200_108, g200_109, g200_110, g200_111, g200_112, g200_113, g200_114, g200_117, g200_119, g200_120, g200_121, g200_122, g200_123, g200_124, g200_125, g200_126, g200_129, g200_130, g200_131, g200_132, g200_133, g200_134, g200_137, rz_k_inl, rz_k_inr, Option.toList_some, Option.toList_none, List.cons_append, List.nil_append, List.append_nil, rz_up_s, rz_u_s, rz_up_n, rz_u_n, ne_eq, not_false_eq_true, not_true_eq_false, Nat.add_assoc, Nat.reduceAdd, reduceIte, Nat.add_eq_left, Nat.left_eq_add, Nat.add_left_cancel_iff, Nat.reduceEqDiff, Nat.add_right_cancel_iff, rz_nb0, rz_nb1, rz_nbb, rz_nbi, rz_isr, rz_zle, if_true, if_false, rz_bi0, rz_bi1, Bool.not_eq_true, Bool.not_eq_false, Bool.true_eq_false, Bool.false_eq_true, rz_ix_lit, cl_lit, Nat.reduceLT, bi_t, bi_f, decide_true, decide_false, Bool.not_false, Bool.not_true, Bool.and_true, Bool.true_and, Bool.and_false, Bool.false_and, oMd_c, oMd_i0, oMd_i1, oMd_i2, oMd_i3, oMd_i4, oMd_i5, oMd_i6, oMd_i7, oMd_i8, oMd_f9, oMd_v9, oMd_f10, oMd_v10, oMd_f11, oMd_v11, oMd_f12, oMd_v12, oMd_f13, oMd_v13, oMd_f14, oMd_v14, oMd_i15, oMd_i16, oMd_f17, oMd_v17, oMd_f18, oMd_v18, oMd_f19, oMd_v19, oMd_f20, oMd_v20, oMd_f21, oMd_v21, oMd_f22, oMd_v22, oMd_f23, oMd_v23, oMd_i24, oMd_f25, oMd_v25, oMd_f26, oMd_v26, oMd_f27, oMd_v27, oMd_f28, oMd_v28, oMd_i29, oMd_i30, oMd_i31, oMd_i32, oMd_i33, oMd_i34, oMd_i35, oMd_f36, oMd_v36, oMd_f37, oMd_v37, oMd_f38, oMd_v38, oMd_i39, oMd_f40, oMd_v40, oMd_f41, oMd_v41, oMd_i42, oMd_f43, oMd_v43, oMd_i44, oMd_a1, oMd_n1, oMd_a2, oMd_n2, oMd_a3, oMd_n3, oMd_a4, oMd_n4, oMd_a363, oMd_n363, oMd_a364, oMd_n364, oMd_a446, oMd_n446, oMd_a447, oMd_n447, oMd_a469, oMd_n469, oMd_a470, oMd_n470, oMd_a471, oMd_n471, oMd_a472, oMd_n472, oMd_a473, oMd_n473, oMd_a5, oMd_n5, oMd_e5, oMd_ra5, oMd_rn5, oMd_a14, oMd_n14, oMd_e14, oMd_ra14, oMd_rn14, oMd_a23, oMd_n23, oMd_e23, oMd_ra23, oMd_rn23, oMd_a184, oMd_n184, oMd_e184, oMd_ra184, oMd_rn184, oMd_a345, oMd_n345, oMd_e345, oMd_ra345, oMd_rn345, oMd_a354, oMd_n354, oMd_e354, oMd_ra354, oMd_rn354, oMd_a365, oMd_n365, oMd_e365, oMd_ra365, oMd_rn365, oMd_a448, oMd_n448, oMd_e448, oMd_ra448, oMd_rn448, oMd_a465, oMd_n465, oMd_e465, oMd_ra465, oMd_rn465, hb, hz, c2, i1, i2, i3, ip, a14, b14, nI_cl (show t < 2147483648 by omega), nI_cl (show p < 2147483648 by omega), nI_cl (show 3 * p + t < 2147483648 by omega), nI_cl (show 24 + (3 * p + t) < 2147483648 by omega), nI_Lm, nI_La, nI_add, Int32.zero_add, Nat.zero_add, tV, rz_rw_up, nI_1])
    try dsimp only at IN
    have e3 : inR (ι2 (b + (15 + p))) (pwR P p) p 3 = pwR P (p + 1) := by
      obtain ⟨q0, q1, q2⟩ := hp p hp'
      rw [inR, inR, inR, inR, v2 p 0 hp' (by omega), v2 p 1 hp' (by omega), v2 p 2 hp' (by omega), q0, q1, q2]
      rfl
    rw [e3] at IN
    try dsimp only
    rw [if_neg (show p + 1 ≠ 0 by omega)]
    have head : ∀ l2, rg Z (d + 1) rx_m200 65 [some (.ref b), some (.int (nI p)), l2] [] (rz_mk h (rz_rw ι2 (b + 446) (pwR P p)), w) = rg Z (d + 1) rx_m200 88 [some (.ref b), some (.int (nI p)), some (.int (nI 0))] [] (rz_mk h (rz_rw ι2 (b + 446) (inR (ι2 (b + (15 + p))) (pwR P p) p 0)), w) := by
      intro l2
      rw [g200_65, inR, show nI 0 = 0 from rfl]
      simp (decide := true) (maxDischargeDepth := 4) only [g200_66, g200_67, g200_70, g200_71, g200_72, g200_75, g200_76, g200_79, g200_81, g200_82, g200_83, g200_85, g200_86, g200_87, rz_k_inl, rz_k_inr, Option.toList_some, Option.toList_none, List.cons_append, List.nil_append, List.append_nil, rz_up_s, rz_u_s, rz_up_n, rz_u_n, ne_eq, not_false_eq_true, not_true_eq_false, Nat.add_assoc, Nat.reduceAdd, reduceIte, Nat.add_eq_left, Nat.left_eq_add, Nat.add_left_cancel_iff, Nat.reduceEqDiff, Nat.add_right_cancel_iff, rz_nb0, rz_nb1, rz_nbb, rz_nbi, rz_isr, rz_zle, if_true, if_false, rz_bi0, rz_bi1, Bool.not_eq_true, Bool.not_eq_false, Bool.true_eq_false, Bool.false_eq_true, rz_ix_lit, cl_lit, Nat.reduceLT, bi_t, bi_f, decide_true, decide_false, Bool.not_false, Bool.not_true, Bool.and_true, Bool.true_and, Bool.and_false, Bool.false_and, oMd_c, oMd_i0, oMd_i1, oMd_i2, oMd_i3, oMd_i4, oMd_i5, oMd_i6, oMd_i7, oMd_i8, oMd_f9, oMd_v9, oMd_f10, oMd_v10, oMd_f11, oMd_v11, oMd_f12, oMd_v12, oMd_f13, oMd_v13, oMd_f14, oMd_v14, oMd_i15, oMd_i16, oMd_f17, oMd_v17, oMd_f18, oMd_v18, oMd_f19, oMd_v19, oMd_f20, oMd_v20, oMd_f21, oMd_v21, oMd_f22, oMd_v22, oMd_f23, oMd_v23, oMd_i24, oMd_f25, oMd_v25, oMd_f26, oMd_v26, oMd_f27, oMd_v27, oMd_f28, oMd_v28, oMd_i29, oMd_i30, oMd_i31, oMd_i32, oMd_i33, oMd_i34, oMd_i35, oMd_f36, oMd_v36, oMd_f37, oMd_v37, oMd_f38, oMd_v38, oMd_i39, oMd_f40, oMd_v40, oMd_f41, oMd_v41, oMd_i42, oMd_f43, oMd_v43, oMd_i44, oMd_a1, oMd_n1, oMd_a2, oMd_n2, oMd_a3, oMd_n3, oMd_a4, oMd_n4, oMd_a363, oMd_n363, oMd_a364, oMd_n364, oMd_a446, oMd_n446, oMd_a447, oMd_n447, oMd_a469, oMd_n469, oMd_a470, oMd_n470, oMd_a471, oMd_n471, oMd_a472, oMd_n472, oMd_a473, oMd_n473, oMd_a5, oMd_n5, oMd_e5, oMd_ra5, oMd_rn5, oMd_a14, oMd_n14, oMd_e14, oMd_ra14, oMd_rn14, oMd_a23, oMd_n23, oMd_e23, oMd_ra23, oMd_rn23, oMd_a184, oMd_n184, oMd_e184, oMd_ra184, oMd_rn184, oMd_a345, oMd_n345, oMd_e345, oMd_ra345, oMd_rn345, oMd_a354, oMd_n354, oMd_e354, oMd_ra354, oMd_rn354, oMd_a365, oMd_n365, oMd_e365, oMd_ra365, oMd_rn365, oMd_a448, oMd_n448, oMd_e448, oMd_ra448, oMd_rn448, oMd_a465, oMd_n465, oMd_e465, oMd_ra465, oMd_rn465, hb, hz, c, t10, tA, i48, nI_La, nI_cl (show 48 + p < 2147483648 by omega), rz_rw_up]
    rw [head, IN, g200_88]
    simp (decide := true) (maxDischargeDepth := 4) only [g200_89, g200_90, g200_140, g200_143, rz_k_inl, rz_k_inr, Option.toList_some, Option.toList_none, List.cons_append, List.nil_append, List.append_nil, rz_up_s, rz_u_s, rz_up_n, rz_u_n, ne_eq, not_false_eq_true, not_true_eq_false, Nat.add_assoc, Nat.reduceAdd, reduceIte, Nat.add_eq_left, Nat.left_eq_add, Nat.add_left_cancel_iff, Nat.reduceEqDiff, Nat.add_right_cancel_iff, rz_nb0, rz_nb1, rz_nbb, rz_nbi, rz_isr, rz_zle, if_true, if_false, rz_bi0, rz_bi1, Bool.not_eq_true, Bool.not_eq_false, Bool.true_eq_false, Bool.false_eq_true, rz_ix_lit, cl_lit, Nat.reduceLT, bi_t, bi_f, decide_true, decide_false, Bool.not_false, Bool.not_true, Bool.and_true, Bool.true_and, Bool.and_false, Bool.false_and, show (nI 3 < 3) = False by decide, nI_1]
    rfl)
  try dsimp only at S4
  rw [if_pos rfl] at S4
  obtain ⟨w1, w2, w3⟩ := pwR_dk hP P.length (Nat.le_refl _)
  rw [List.take_length] at w1 w2 w3
  have n0 : pwR P 0 = fun _ => 0 := rfl
  rw [n0] at S4
  have xv : (1 : Int32) <<< (nI P.length &&& 31) - 1 = nI (2 ^ P.length - 1) := by
    have : ∀ n, n < 9 → (1 : Int32) <<< (nI n &&& 31) - 1 = nI (2 ^ n - 1) := by decide
    exact this _ (by omega)
  have c0 : (nI P.length = 0) = (P.length = 0) := nI_eqL (by omega) (by decide)
  have cE : (nI P.length < nI P.length) = False := by simp
  obtain ⟨x, hx⟩ : ∃ x : Int32, x = if P.length = 0 then -1 else nI dk := ⟨_, rfl⟩
  obtain ⟨y, hy⟩ : ∃ y : Int32, y = if P.length = 0 then 0 else 1 := ⟨_, rfl⟩
  obtain ⟨ι3, e3⟩ : ∃ ι3, rz_rw ι2 (b + 446) (rz_u (rz_u (rz_u (rz_u (pwR P P.length) 56 (nI (2 ^ P.length - 1))) 57 (nI P.length)) 58 x) 60 y) = ι3 := ⟨_, rfl⟩
  have fin : rg Z (d + 1) rx_m200 65 [some (.ref b), some (.int (nI P.length)), if P.length = 0 then none else some (.int 3)] [] (rz_mk h (rz_rw ι2 (b + 446) (pwR P P.length)), w) = some (.inl none, (rz_mk h (rz_up (rz_up (rz_up (rz_up (rz_up ι3 b 15 0) b 29 0) b 30 0) b 31 0) b 32 0), w)) := by
    rw [g200_65]
    by_cases hP0 : P.length = 0
    · have hP' : (P.length = 0) = True := by simp [hP0]
      rw [if_pos hP0] at hx hy
      rw [hx, hy] at e3
      simp (decide := true) (maxDischargeDepth := 4) only [g200_66, g200_67, g200_70, g200_71, g200_72, g200_146, g200_147, g200_150, g200_152, g200_153, g200_154, g200_157, g200_158, g200_159, g200_160, g200_161, g200_162, g200_163, g200_164, g200_167, g200_169, g200_170, g200_173, g200_174, g200_175, g200_176, g200_177, g200_180, g200_182, g200_183, g200_186, g200_187, g200_188, g200_191, g200_192, g200_195, g200_196, g200_199, g200_200, g200_201, g200_202, g200_203, g200_206, g200_208, g200_209, g200_212, g200_213, g200_214, g200_217, g200_218, g200_221, g200_222, g200_223, g200_224, g200_225, g200_228, g200_229, g200_230, g200_233, g200_234, g200_235, g200_238, g200_239, g200_240, g200_243, g200_244, g200_245, g200_248, rz_k_inl, rz_k_inr, Option.toList_some, Option.toList_none, List.cons_append, List.nil_append, List.append_nil, rz_up_s, rz_u_s, rz_up_n, rz_u_n, ne_eq, not_false_eq_true, not_true_eq_false, Nat.add_assoc, Nat.reduceAdd, reduceIte, Nat.add_eq_left, Nat.left_eq_add, Nat.add_left_cancel_iff, Nat.reduceEqDiff, Nat.add_right_cancel_iff, rz_nb0, rz_nb1, rz_nbb, rz_nbi, rz_isr, rz_zle, if_true, if_false, rz_bi0, rz_bi1, Bool.not_eq_true, Bool.not_eq_false, Bool.true_eq_false, Bool.false_eq_true, rz_ix_lit, cl_lit, Nat.reduceLT, bi_t, bi_f, decide_true, decide_false, Bool.not_false, Bool.not_true, Bool.and_true, Bool.true_and, Bool.and_false, Bool.false_and, oMd_c, oMd_i0, oMd_i1, oMd_i2, oMd_i3, oMd_i4, oMd_i5, oMd_i6, oMd_i7, oMd_i8, oMd_f9, oMd_v9, oMd_f10, oMd_v10, oMd_f11, oMd_v11, oMd_f12, oMd_v12, oMd_f13, oMd_v13, oMd_f14, oMd_v14, oMd_i15, oMd_i16, oMd_f17, oMd_v17, oMd_f18, oMd_v18, oMd_f19, oMd_v19, oMd_f20, oMd_v20, oMd_f21, oMd_v21, oMd_f22, oMd_v22, oMd_f23, oMd_v23, oMd_i24, oMd_f25, oMd_v25, oMd_f26, oMd_v26, oMd_f27, oMd_v27, oMd_f28, oMd_v28, oMd_i29, oMd_i30, oMd_i31, oMd_i32, oMd_i33, oMd_i34, oMd_i35, oMd_f36, oMd_v36, oMd_f37, oMd_v37, oMd_f38, oMd_v38, oMd_i39, oMd_f40, oMd_v40, oMd_f41, oMd_v41, oMd_i42, oMd_f43, oMd_v43, oMd_i44, oMd_a1, oMd_n1, oMd_a2, oMd_n2, oMd_a3, oMd_n3, oMd_a4, oMd_n4, oMd_a363, oMd_n363, oMd_a364, oMd_n364, oMd_a446, oMd_n446, oMd_a447, oMd_n447, oMd_a469, oMd_n469, oMd_a470, oMd_n470, oMd_a471, oMd_n471, oMd_a472, oMd_n472, oMd_a473, oMd_n473, oMd_a5, oMd_n5, oMd_e5, oMd_ra5, oMd_rn5, oMd_a14, oMd_n14, oMd_e14, oMd_ra14, oMd_rn14, oMd_a23, oMd_n23, oMd_e23, oMd_ra23, oMd_rn23, oMd_a184, oMd_n184, oMd_e184, oMd_ra184, oMd_rn184, oMd_a345, oMd_n345, oMd_e345, oMd_ra345, oMd_rn345, oMd_a354, oMd_n354, oMd_e354, oMd_ra354, oMd_rn354, oMd_a365, oMd_n365, oMd_e365, oMd_ra365, oMd_rn365, oMd_a448, oMd_n448, oMd_e448, oMd_ra448, oMd_rn448, oMd_a465, oMd_n465, oMd_e465, oMd_ra465, oMd_rn465, hb, hz, cE, t10, t11, tA, xv, c0, hP', rz_rw_up, e3]
    · have hP' : (P.length = 0) = False := by simp [hP0]
      rw [if_neg hP0] at hx hy
      rw [hx, hy] at e3
      simp (decide := true) (maxDischargeDepth := 4) only [g200_66, g200_67, g200_70, g200_71, g200_72, g200_146, g200_147, g200_150, g200_152, g200_153, g200_154, g200_157, g200_158, g200_159, g200_160, g200_161, g200_162, g200_163, g200_164, g200_167, g200_169, g200_170, g200_173, g200_174, g200_175, g200_176, g200_177, g200_180, g200_182, g200_183, g200_186, g200_187, g200_188, g200_191, g200_192, g200_195, g200_196, g200_199, g200_200, g200_201, g200_202, g200_203, g200_206, g200_208, g200_209, g200_212, g200_213, g200_214, g200_217, g200_218, g200_221, g200_222, g200_223, g200_224, g200_225, g200_228, g200_229, g200_230, g200_233, g200_234, g200_235, g200_238, g200_239, g200_240, g200_243, g200_244, g200_245, g200_248, rz_k_inl, rz_k_inr, Option.toList_some, Option.toList_none, List.cons_append, List.nil_append, List.append_nil, rz_up_s, rz_u_s, rz_up_n, rz_u_n, ne_eq, not_false_eq_true, not_true_eq_false, Nat.add_assoc, Nat.reduceAdd, reduceIte, Nat.add_eq_left, Nat.left_eq_add, Nat.add_left_cancel_iff, Nat.reduceEqDiff, Nat.add_right_cancel_iff, rz_nb0, rz_nb1, rz_nbb, rz_nbi, rz_isr, rz_zle, if_true, if_false, rz_bi0, rz_bi1, Bool.not_eq_true, Bool.not_eq_false, Bool.true_eq_false, Bool.false_eq_true, rz_ix_lit, cl_lit, Nat.reduceLT, bi_t, bi_f, decide_true, decide_false, Bool.not_false, Bool.not_true, Bool.and_true, Bool.true_and, Bool.and_false, Bool.false_and, oMd_c, oMd_i0, oMd_i1, oMd_i2, oMd_i3, oMd_i4, oMd_i5, oMd_i6, oMd_i7, oMd_i8, oMd_f9, oMd_v9, oMd_f10, oMd_v10, oMd_f11, oMd_v11, oMd_f12, oMd_v12, oMd_f13, oMd_v13, oMd_f14, oMd_v14, oMd_i15, oMd_i16, oMd_f17, oMd_v17, oMd_f18, oMd_v18, oMd_f19, oMd_v19, oMd_f20, oMd_v20, oMd_f21, oMd_v21, oMd_f22, oMd_v22, oMd_f23, oMd_v23, oMd_i24, oMd_f25, oMd_v25, oMd_f26, oMd_v26, oMd_f27, oMd_v27, oMd_f28, oMd_v28, oMd_i29, oMd_i30, oMd_i31, oMd_i32, oMd_i33, oMd_i34, oMd_i35, oMd_f36, oMd_v36, oMd_f37, oMd_v37, oMd_f38, oMd_v38, oMd_i39, oMd_f40, oMd_v40, oMd_f41, oMd_v41, oMd_i42, oMd_f43, oMd_v43, oMd_i44, oMd_a1, oMd_n1, oMd_a2, oMd_n2, oMd_a3, oMd_n3, oMd_a4, oMd_n4, oMd_a363, oMd_n363, oMd_a364, oMd_n364, oMd_a446, oMd_n446, oMd_a447, oMd_n447, oMd_a469, oMd_n469, oMd_a470, oMd_n470, oMd_a471, oMd_n471, oMd_a472, oMd_n472, oMd_a473, oMd_n473, oMd_a5, oMd_n5, oMd_e5, oMd_ra5, oMd_rn5, oMd_a14, oMd_n14, oMd_e14, oMd_ra14, oMd_rn14, oMd_a23, oMd_n23, oMd_e23, oMd_ra23, oMd_rn23, oMd_a184, oMd_n184, oMd_e184, oMd_ra184, oMd_rn184, oMd_a345, oMd_n345, oMd_e345, oMd_ra345, oMd_rn345, oMd_a354, oMd_n354, oMd_e354, oMd_ra354, oMd_rn354, oMd_a365, oMd_n365, oMd_e365, oMd_ra365, oMd_rn365, oMd_a448, oMd_n448, oMd_e448, oMd_ra448, oMd_rn448, oMd_a465, oMd_n465, oMd_e465, oMd_ra465, oMd_rn465, hb, hz, cE, t10, t11, tA, xv, c0, hP', rz_rw_up, e3]
  refine ⟨rz_up (rz_up (rz_up (rz_up (rz_up ι3 b 15 0) b 29 0) b 30 0) b 31 0) b 32 0, ?_, ?_, ?_, ?_, ?_⟩
  · rw [e200, ← fin, ← S4]
    have n3 : rz_mk h (rz_rw ι2 (b + 446) (fun _ => 0)) = rz_mk h (rz_rw ι2 (b + 446) (fun _ => 0)) := rfl
    simp (decide := true) (maxDischargeDepth := 4) only [g200_0, g200_1, rz_k_inl, rz_k_inr, Option.toList_some, Option.toList_none, List.cons_append, List.nil_append, List.append_nil, rz_up_s, rz_u_s, rz_up_n, rz_u_n, ne_eq, not_false_eq_true, not_true_eq_false, Nat.add_assoc, Nat.reduceAdd, reduceIte, Nat.add_eq_left, Nat.left_eq_add, Nat.add_left_cancel_iff, Nat.reduceEqDiff, Nat.add_right_cancel_iff, rz_nb0, rz_nb1, rz_nbb, rz_nbi, rz_isr, rz_zle, if_true, if_false, rz_bi0, rz_bi1, Bool.not_eq_true, Bool.not_eq_false, Bool.true_eq_false, Bool.false_eq_true, rz_ix_lit, cl_lit, Nat.reduceLT, bi_t, bi_f, decide_true, decide_false, Bool.not_false, Bool.not_true, Bool.and_true, Bool.true_and, Bool.and_false, Bool.false_and]
    refine (show _ = _ from S1).trans ?_
    rw [g200_2]
    simp (decide := true) (maxDischargeDepth := 4) only [g200_3, g200_4, g200_25, g200_26, g200_29, g200_30, g200_33, g200_34, g200_37, g200_38, g200_39, g200_42, g200_43, rz_k_inl, rz_k_inr, Option.toList_some, Option.toList_none, List.cons_append, List.nil_append, List.append_nil, rz_up_s, rz_u_s, rz_up_n, rz_u_n, ne_eq, not_false_eq_true, not_true_eq_false, Nat.add_assoc, Nat.reduceAdd, reduceIte, Nat.add_eq_left, Nat.left_eq_add, Nat.add_left_cancel_iff, Nat.reduceEqDiff, Nat.add_right_cancel_iff, rz_nb0, rz_nb1, rz_nbb, rz_nbi, rz_isr, rz_zle, if_true, if_false, rz_bi0, rz_bi1, Bool.not_eq_true, Bool.not_eq_false, Bool.true_eq_false, Bool.false_eq_true, rz_ix_lit, cl_lit, Nat.reduceLT, bi_t, bi_f, decide_true, decide_false, Bool.not_false, Bool.not_true, Bool.and_true, Bool.true_and, Bool.and_false, Bool.false_and, oMd_c, oMd_i0, oMd_i1, oMd_i2, oMd_i3, oMd_i4, oMd_i5, oMd_i6, oMd_i7, oMd_i8, oMd_f9, oMd_v9, oMd_f10, oMd_v10, oMd_f11, oMd_v11, oMd_f12, oMd_v12, oMd_f13, oMd_v13, oMd_f14, oMd_v14, oMd_i15, oMd_i16, oMd_f17, oMd_v17, oMd_f18, oMd_v18, oMd_f19, oMd_v19, oMd_f20, oMd_v20, oMd_f21, oMd_v21, oMd_f22, oMd_v22, oMd_f23, oMd_v23, oMd_i24, oMd_f25, oMd_v25, oMd_f26, oMd_v26, oMd_f27, oMd_v27, oMd_f28, oMd_v28, oMd_i29, oMd_i30, oMd_i31, oMd_i32, oMd_i33, oMd_i34, oMd_i35, oMd_f36, oMd_v36, oMd_f37, oMd_v37, oMd_f38, oMd_v38, oMd_i39, oMd_f40, oMd_v40, oMd_f41, oMd_v41, oMd_i42, oMd_f43, oMd_v43, oMd_i44, oMd_a1, oMd_n1, oMd_a2, oMd_n2, oMd_a3, oMd_n3, oMd_a4, oMd_n4, oMd_a363, oMd_n363, oMd_a364, oMd_n364, oMd_a446, oMd_n446, oMd_a447, oMd_n447, oMd_a469, oMd_n469, oMd_a470, oMd_n470, oMd_a471, oMd_n471, oMd_a472, oMd_n472, oMd_a473, oMd_n473, oMd_a5, oMd_n5, oMd_e5, oMd_ra5, oMd_rn5, oMd_a14, oMd_n14, oMd_e14, oMd_ra14, oMd_rn14, oMd_a23, oMd_n23, oMd_e23, oMd_ra23, oMd_rn23, oMd_a184, oMd_n184, oMd_e184, oMd_ra184, oMd_rn184, oMd_a345, oMd_n345, oMd_e345, oMd_ra345, oMd_rn345, oMd_a354, oMd_n354, oMd_e354, oMd_ra354, oMd_rn354, oMd_a365, oMd_n365, oMd_e365, oMd_ra365, oMd_rn365, oMd_a448, oMd_n448, oMd_e448, oMd_ra448, oMd_rn448, oMd_a465, oMd_n465, oMd_e465, oMd_ra465, oMd_rn465, hb, show (nI 3 < 3) = False by decide, t10, LY]
    refine (show _ = _ from S3).trans ?_
    rw [g200_44]
    simp (decide := true) (maxDischargeDepth := 4) only [g200_45, g200_47, g200_63, g200_64, rz_k_inl, rz_k_inr, Option.toList_some, Option.toList_none, List.cons_append, List.nil_append, List.append_nil, rz_up_s, rz_u_s, rz_up_n, rz_u_n, ne_eq, not_false_eq_true, not_true_eq_false, Nat.add_assoc, Nat.reduceAdd, reduceIte, Nat.add_eq_left, Nat.left_eq_add, Nat.add_left_cancel_iff, Nat.reduceEqDiff, Nat.add_right_cancel_iff, rz_nb0, rz_nb1, rz_nbb, rz_nbi, rz_isr, rz_zle, if_true, if_false, rz_bi0, rz_bi1, Bool.not_eq_true, Bool.not_eq_false, Bool.true_eq_false, Bool.false_eq_true, rz_ix_lit, cl_lit, Nat.reduceLT, bi_t, bi_f, decide_true, decide_false, Bool.not_false, Bool.not_true, Bool.and_true, Bool.true_and, Bool.and_false, Bool.false_and, show (nI 62 < 62) = False by decide]
    rfl
  · rw [rz_up_n (by omega), rz_up_n (by omega), rz_up_n (by omega), rz_up_n (by omega), rz_up_n (by omega), ← e3, rz_rw_s, ← hx]
    funext i
    unfold crnR rz_u
    by_cases c60 : i = 60
    · subst c60
      rw [if_pos rfl, if_pos rfl, ← w1 60 (by omega) (by omega) (by omega), pwR_hi P _ hP 60 (by omega), hx, hy]
      by_cases hP0 : P.length = 0
      · rw [if_pos hP0, if_pos hP0]; decide
      · rw [if_neg hP0, if_neg hP0, if_neg (by rw [nI_m1 hdk]; exact id)]; rfl
    · rw [if_neg c60, if_neg c60]
      by_cases c59 : i = 59
      · subst c59
        rw [if_pos rfl, if_neg (by omega), if_neg (by omega), if_neg (by omega), pwR_hi P _ hP 59 (by omega)]
      · rw [if_neg c59]
        by_cases c58 : i = 58
        · rw [if_pos c58, if_pos c58]
        · rw [if_neg c58, if_neg c58]
          by_cases c57 : i = 57
          · subst c57; rw [if_pos rfl, dkR_57 hP]
          · rw [if_neg c57]
            by_cases c56 : i = 56
            · subst c56; rw [if_pos rfl, w2]
            · rw [if_neg c56]; exact w1 i c56 c57 c58
  · rw [rz_up_n (by omega), rz_up_n (by omega), rz_up_n (by omega), rz_up_n (by omega), rz_up_n (by omega), ← e3, tA]; exact t10
  · rw [rz_up_n (by omega), rz_up_n (by omega), rz_up_n (by omega), rz_up_n (by omega), rz_up_n (by omega), ← e3, tA]; exact t12
  · refine ⟨fun a a1 a2 a3 a4 => ?_, ?_⟩
    · rw [rz_up_n a1, rz_up_n a1, rz_up_n a1, rz_up_n a1, rz_up_n a1, ← e3, rz_rw_n a3, n2 _ a4, n1 _ a2]
    · have : ι3 b = ι b := by rw [← e3, rz_rw_n (by omega), n2 _ (by omega), n1 _ (by omega)]
      simp only [rz_up_s, this]
end DUK7
