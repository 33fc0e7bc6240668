/-! the reference reads a DUKEDOM: a clause -/
theorem skB_nb (B : Nat → Int32) (e : Nat) : ∀ k p, skB B e k p < p + k → B (skB B e k p) ≠ 32
  | 0, p, h => by simp only [skB] at h; omega
  | k + 1, p, h => by
    unfold skB at h ⊢
    split
    · rename_i hb
      rw [if_pos hb] at h
      exact skB_nb B e k (p + 1) (by omega)
    · rename_i hb; exact hb
theorem sk_sk (B : Nat → Int32) (e p : Nat) : sk B e (sk B e p) = sk B e p := by
  by_cases h : sk B e p < e
  · have hp := sk_ge B e p
    refine sk_no ?_
    have := skB_nb B e (e - p) p
    unfold sk at h ⊢
    exact this (by omega)
  · exact sk_end (by omega)
theorem wdR_sk (B : Nat → Int32) (e p : Nat) : wdR B e (sk B e p) = wdR B e p := by unfold wdR; rw [sk_sk]
def mkF (b : Nat) (ι ι' : Nat → Nat → Int32) : Prop := (∀ a, a ≠ b → a ≠ b + 3 → ¬ (b + 6 ≤ a ∧ a < b + 14) → ι' a = ι a) ∧ ∀ k, k ≠ 4 → k ≠ 5 → k ≠ 6 → k ≠ 7 → ι' b k = ι b k
theorem mkF.refl (b : Nat) (ι : Nat → Nat → Int32) : mkF b ι ι := ⟨fun _ _ _ _ => rfl, fun _ _ _ _ _ => rfl⟩
theorem mkF.trans {b : Nat} {ι ι' ι'' : Nat → Nat → Int32} (h1 : mkF b ι ι') (h2 : mkF b ι' ι'') : mkF b ι ι'' := ⟨fun a a1 a2 a3 => (h2.1 a a1 a2 a3).trans (h1.1 a a1 a2 a3), fun k a1 a2 a3 a4 => (h2.2 k a1 a2 a3 a4).trans (h1.2 k a1 a2 a3 a4)⟩
theorem mkF.rd {b : Nat} {ι ι' : Nat → Nat → Int32} (h : rdF b ι ι') : mkF b ι ι' := ⟨fun a a1 _ _ => h.1 a a1, fun k a1 a2 a3 _ => h.2 k a1 a2 a3⟩
theorem mkF.up {b k : Nat} {ι ι' : Nat → Nat → Int32} {v : Int32} (h : mkF b ι ι') (hk : k = 4 ∨ k = 5 ∨ k = 6 ∨ k = 7) : mkF b ι (rz_up ι' b k v) := ⟨fun a a1 a2 a3 => by rw [rz_up_n a1]; exact h.1 a a1 a2 a3, fun j a1 a2 a3 a4 => by rw [rz_up_s, rz_u_n (by omega)]; exact h.2 j a1 a2 a3 a4⟩
theorem mkF.upA {b a k : Nat} {ι ι' : Nat → Nat → Int32} {v : Int32} (h : mkF b ι ι') (ha : a = b + 3 ∨ (b + 6 ≤ a ∧ a < b + 14)) : mkF b ι (rz_up ι' a k v) := ⟨fun x a1 a2 a3 => by rw [rz_up_n (by omega)]; exact h.1 x a1 a2 a3, fun j a1 a2 a3 a4 => by rw [rz_up_n (by omega)]; exact h.2 j a1 a2 a3 a4⟩
def prJ (b : Nat) (ι : Nat → Nat → Int32) (P : List P3) : Prop := ∀ j, j < P.length → ι (b + (6 + j)) 0 = nI (P.getD j (0, 0, 0)).1 ∧ ι (b + (6 + j)) 1 = nI (P.getD j (0, 0, 0)).2.1 ∧ ι (b + (6 + j)) 2 = nI (P.getD j (0, 0, 0)).2.2
def mkI (b : Nat) (ι0 ι : Nat → Nat → Int32) (cl : Nat) (P : List P3) (dk ld p : Nat) : Prop := mkF b ι0 ι ∧ ι b 4 = nI p ∧ ι b 5 = 0 ∧ ι b 7 = nI cl ∧ ι (b + 3) 0 = nI P.length ∧ ι (b + 3) 1 = nI dk ∧ ι (b + 3) 2 = nI ld ∧ prJ b ι P
def mkN (b : Nat) (ι0 ι : Nat → Nat → Int32) (f : Nat × Nat) : Prop := mkF b ι0 ι ∧ ι b 5 = nI f.1 ∧ ι b 6 = nI f.2 ∧ ∃ p, p ≤ 600 ∧ ι b 4 = nI p
theorem mkN.upA {b a k : Nat} {f : Nat × Nat} {ι0 ι : Nat → Nat → Int32} {v : Int32} (h : mkN b ι0 ι f) (ha : a = b + 3 ∨ (b + 6 ≤ a ∧ a < b + 14)) : mkN b ι0 (rz_up ι a k v) f := ⟨h.1.upA ha, by rw [rz_up_n (by omega)]; exact h.2⟩
theorem mkI.rd {b cl dk ld p q : Nat} {P : List P3} {ι0 ι ι' : Nat → Nat → Int32} (i : mkI b ι0 ι cl P dk ld p) (k : rdOk b ι ι' q) : mkI b ι0 ι' cl P dk ld q := by
  obtain ⟨i1, i2, i3, i4, i5, i6, i7, i8⟩ := i
  obtain ⟨k1, k2, k3, k4⟩ := k
  have e3 := k1.1 (b + 3) (by omega)
  exact ⟨i1.trans (mkF.rd k1), k2, k3.trans i3, (k1.2 7 (by omega) (by omega) (by omega)).trans i4, by rw [e3]; exact i5, by rw [e3]; exact i6, by rw [e3]; exact i7, fun j hj => by rw [k1.1 _ (by omega)]; exact i8 j hj⟩
theorem mkI.no {b cl dk ld p : Nat} {P : List P3} {f : Nat × Nat} {ι0 ι ι' : Nat → Nat → Int32} (i : mkI b ι0 ι cl P dk ld p) (k : rdNo b ι ι' f) : mkN b ι0 ι' f := ⟨i.1.trans (mkF.rd k.1), k.2⟩
theorem mkI.e2 {b cl dk ld p e : Nat} {P : List P3} {ι0 ι : Nat → Nat → Int32} (i : mkI b ι0 ι cl P dk ld p) (he : ι0 b 2 = nI e) : ι b 2 = nI e := (i.1.2 2 (by omega) (by omega) (by omega) (by omega)).trans he
theorem mkI.by {b cl dk ld p : Nat} {P : List P3} {ι0 ι : Nat → Nat → Int32} (i : mkI b ι0 ι cl P dk ld p) : ι (b + 1) = ι0 (b + 1) := i.1.1 _ (by omega) (by omega) (by omega)
theorem fN {f : Nat} (h1 : f ≠ 0) (h2 : f < 10) : nI f ≠ 0 := by
  intro z
  rw [nI_eqL (by omega) (by decide)] at z
  exact h1 z
section DUK4
variable {Z : rx_Z} {d : Nat} {h : Nat → Option rx_E} {ι ι0 : Nat → Nat → Int32} {w : Nat × Nat} {b : Nat}
def kdS (B : Nat → Int32) (e p : Nat) : Int32 := if wdIs B (sk B e p) (wdR B e p) (WD 0) = true then 0 else if wdIs B (sk B e p) (wdR B e p) (WD 1) = true then 1 else if wdIs B (sk B e p) (wdR B e p) (WD 2) = true then 2 else -1
theorem mk_kind (hb : oMd h b) (hz : Z.2.1 ≤ b) {e p : Nat} (he : ι b 2 = nI e) (hp : ι b 4 = nI p) (hpe : p ≤ e) (he6 : e ≤ 600) (h5 : ι b 5 = 0) : rz_f Z (d + 5) 195 [.ref b] (rz_mk h ι, w) = some (.inl (some (.int (kdS (ι (b + 1)) e p))), (rz_mk h (rz_up ι b 4 (nI (sk (ι (b + 1)) e p))), w)) := by
  have hsk := sk_le (B := ι (b + 1)) hpe
  obtain ⟨ι1, h1⟩ : ∃ ι1, rz_up ι b 4 (nI (sk (ι (b + 1)) e p)) = ι1 := ⟨_, rfl⟩
  have e2 : ι1 b 2 = nI e := by rw [← h1, rz_up_s, rz_u_n (by omega)]; exact he
  have e4 : ι1 b 4 = nI (sk (ι (b + 1)) e p) := by rw [← h1, rz_up_s, rz_u_s]
  have e5 : ι1 b 5 = 0 := by rw [← h1, rz_up_s, rz_u_n (by omega)]; exact h5
  have eB : ι1 (b + 1) = ι (b + 1) := by rw [← h1, rz_up_n (by omega)]
  have w0 := rd_isWord (Z := Z) (d := d) (w := w) hb hz he hp hpe he6 h5 (W := WD 0) ⟨by decide, by decide⟩ (x1 := 16) (x2 := 5) (x3 := 18) (x4 := 19) (x5 := 15) (x6 := 14) (by decide)
  have w1 := rd_isWord (Z := Z) (d := d) (w := w) hb hz e2 e4 hsk he6 e5 (W := WD 1) ⟨by decide, by decide⟩ (x1 := 4) (x2 := 21) (x3 := 11) (x4 := 5) (x5 := 0) (x6 := 0) (by decide)
  have w2 := rd_isWord (Z := Z) (d := d) (w := w) hb hz e2 e4 hsk he6 e5 (W := WD 2) ⟨by decide, by decide⟩ (x1 := 12) (x2 := 1) (x3 := 14) (x4 := 4) (x5 := 0) (x6 := 0) (by decide)
  rw [h1] at w0
  rw [eB, sk_sk, rz_up_id e4] at w1 w2
  rw [e195, h1]
  unfold kdS wdR
  cases c0 : wdIs (ι (b + 1)) (sk (ι (b + 1)) e p) (wdE (ι (b + 1)) (e - sk (ι (b + 1)) e p) (sk (ι (b + 1)) e p)) (WD 0) with
  | true =>
    rw [c0] at w0
    simp (decide := true) (maxDischargeDepth := 4) only [g195_0, g195_1, g195_3, g195_4, g195_6, g195_8, g195_10, g195_12, g195_15, g195_18, g195_19, g195_20, g195_21, g195_22, g195_24, g195_26, g195_27, g195_28, g195_29, g195_32, g195_35, g195_36, g195_37, g195_38, g195_40, g195_41, g195_43, g195_44, g195_45, g195_46, g195_49, g195_52, g195_53, g195_56, g195_57, rz_k_inl, rz_k_inr, Option.toList_some, Option.toList_none, List.cons_append, List.nil_append, List.append_nil, rz_up_s, rz_u_s, rz_up_n, rz_u_n, ne_eq, not_false_eq_true, not_true_eq_false, Nat.add_assoc, Nat.reduceAdd, reduceIte, Nat.add_eq_left, Nat.left_eq_add, Nat.add_left_cancel_iff, Nat.reduceEqDiff, Nat.add_right_cancel_iff, rz_nb0, rz_nb1, rz_nbb, rz_nbi, rz_isr, rz_zle, if_true, if_false, rz_bi0, rz_bi1, Bool.not_eq_true, Bool.not_eq_false, Bool.true_eq_false, Bool.false_eq_true, rz_ix_lit, cl_lit, Nat.reduceLT, bi_t, bi_f, decide_true, decide_false, Bool.not_false, Bool.not_true, Bool.and_true, Bool.true_and, Bool.and_false, Bool.false_and, oMd_c, oMd_i0, oMd_i1, oMd_i2, oMd_i3, oMd_i4, oMd_i5, oMd_i6, oMd_i7, oMd_i8, oMd_f9, oMd_v9, oMd_f10, oMd_v10, oMd_f11, oMd_v11, oMd_f12, oMd_v12, oMd_f13, oMd_v13, oMd_f14, oMd_v14, oMd_i15, oMd_i16, oMd_f17, oMd_v17, oMd_f18, oMd_v18, oMd_f19, oMd_v19, oMd_f20, oMd_v20, oMd_f21, oMd_v21, oMd_f22, oMd_v22, oMd_f23, oMd_v23, oMd_i24, oMd_f25, oMd_v25, oMd_f26, oMd_v26, oMd_f27, oMd_v27, oMd_f28, oMd_v28, oMd_i29, oMd_i30, oMd_i31, oMd_i32, oMd_i33, oMd_i34, oMd_i35, oMd_f36, oMd_v36, oMd_f37, oMd_v37, oMd_f38, oMd_v38, oMd_i39, oMd_f40, oMd_v40, oMd_f41, oMd_v41, oMd_i42, oMd_f43, oMd_v43, oMd_i44, oMd_a1, oMd_n1, oMd_a2, oMd_n2, oMd_a3, oMd_n3, oMd_a4, oMd_n4, oMd_a363, oMd_n363, oMd_a364, oMd_n364, oMd_a446, oMd_n446, oMd_a447, oMd_n447, oMd_a469, oMd_n469, oMd_a470, oMd_n470, oMd_a471, oMd_n471, oMd_a472, oMd_n472, oMd_a473, oMd_n473, oMd_a5, oMd_n5, oMd_e5, oMd_ra5, oMd_rn5, oMd_a14, oMd_n14, oMd_e14, oMd_ra14, oMd_rn14, oMd_a23, oMd_n23, oMd_e23, oMd_ra23, oMd_rn23, oMd_a184, oMd_n184, oMd_e184, oMd_ra184, oMd_rn184, oMd_a345, oMd_n345, oMd_e345, oMd_ra345, oMd_rn345, oMd_a354, oMd_n354, oMd_e354, oMd_ra354, oMd_rn354, oMd_a365, oMd_n365, oMd_e365, oMd_ra365, oMd_rn365, oMd_a448, oMd_n448, oMd_e448, oMd_ra448, oMd_rn448, oMd_a465, oMd_n465, oMd_e465, oMd_ra465, oMd_rn465, hb, w0]
  | false =>
    rw [c0] at w0
    cases c1 : wdIs (ι (b + 1)) (sk (ι (b + 1)) e p) (wdE (ι (b + 1)) (e - sk (ι (b + 1)) e p) (sk (ι (b + 1)) e p)) (WD 1) with
    | true =>
      rw [c1] at w1
      simp (decide := true) (maxDischargeDepth := 4) only [g195_0, g195_1, g195_3, g195_4, g195_6, g195_8, g195_10, g195_12, g195_15, g195_18, g195_19, g195_20, g195_21, g195_22, g195_24, g195_26, g195_27, g195_28, g195_29, g195_32, g195_35, g195_36, g195_37, g195_38, g195_40, g195_41, g195_43, g195_44, g195_45, g195_46, g195_49, g195_52, g195_53, g195_56, g195_57, rz_k_inl, rz_k_inr, Option.toList_some, Option.toList_none, List.cons_append, List.nil_append, List.append_nil, rz_up_s, rz_u_s, rz_up_n, rz_u_n, ne_eq, not_false_eq_true, not_true_eq_false, Nat.add_assoc, Nat.reduceAdd, reduceIte, Nat.add_eq_left, Nat.left_eq_add, Nat.add_left_cancel_iff, Nat.reduceEqDiff, Nat.add_right_cancel_iff, rz_nb0, rz_nb1, rz_nbb, rz_nbi, rz_isr, rz_zle, if_true, if_false, rz_bi0, rz_bi1, Bool.not_eq_true, Bool.not_eq_false, Bool.true_eq_false, Bool.false_eq_true, rz_ix_lit, cl_lit, Nat.reduceLT, bi_t, bi_f, decide_true, decide_false, Bool.not_false, Bool.not_true, Bool.and_true, Bool.true_and, Bool.and_false, Bool.false_and, oMd_c, oMd_i0, oMd_i1, oMd_i2, oMd_i3, oMd_i4, oMd_i5, oMd_i6, oMd_i7, oMd_i8, oMd_f9, oMd_v9, oMd_f10, oMd_v10, oMd_f11, oMd_v11, oMd_f12, oMd_v12, oMd_f13, oMd_v13, oMd_f14, oMd_v14, oMd_i15, oMd_i16, oMd_f17, oMd_v17, oMd_f18, oMd_v18, oMd_f19, oMd_v19, oMd_f20, oMd_v20, oMd_f21, oMd_v21, oMd_f22, oMd_v22, oMd_f23, oMd_v23, oMd_i24, oMd_f25, oMd_v25, oMd_f26, oMd_v26, oMd_f27, oMd_v27, oMd_f28, oMd_v28, oMd_i29, oMd_i30, oMd_i31, oMd_i32, oMd_i33, oMd_i34, oMd_i35, oMd_f36, oMd_v36, oMd_f37, oMd_v37, oMd_f38, oMd_v38, oMd_i39, oMd_f40, oMd_v40, oMd_f41, oMd_v41, oMd_i42, oMd_f43, oMd_v43, oMd_i44, oMd_a1, oMd_n1, oMd_a2, oMd_n2, oMd_a3, oMd_n3, oMd_a4, oMd_n4, oMd_a363, oMd_n363, oMd_a364, oMd_n364, oMd_a446, oMd_n446, oMd_a447, oMd_n447, oMd_a469, oMd_n469, oMd_a470, oMd_n470, oMd_a471, oMd_n471, oMd_a472, oMd_n472, oMd_a473, oMd_n473, oMd_a5, oMd_n5, oMd_e5, oMd_ra5, oMd_rn5, oMd_a14, oMd_n14, oMd_e14, oMd_ra14, oMd_rn14, oMd_a23, oMd_n23, oMd_e23, oMd_ra23, oMd_rn23, oMd_a184, oMd_n184, oMd_e184, oMd_ra184, oMd_rn184, oMd_a345, oMd_n345, oMd_e345, oMd_ra345, oMd_rn345, oMd_a354, oMd_n354, oMd_e354, oMd_ra354, oMd_rn354, oMd_a365, oMd_n365, oMd_e365, oMd_ra365, oMd_rn365, oMd_a448, oMd_n448, oMd_e448, oMd_ra448, oMd_rn448, oMd_a465, oMd_n465, oMd_e465, oMd_ra465, oMd_rn465, hb, w0, w1]
    | false =>
      rw [c1] at w1
      cases c2 : wdIs (ι (b + 1)) (sk (ι (b + 1)) e p) (wdE (ι (b + 1)) (e - sk (ι (b + 1)) e p) (sk (ι (b + 1)) e p)) (WD 2) with
      | true =>
        rw [c2] at w2
        simp (decide := true) (maxDischargeDepth := 4) only [g195_0, g195_1, g195_3, g195_4, g195_6, g195_8, g195_10, g195_12, g195_15, g195_18, g195_19, g195_20, g195_21, g195_22, g195_24, g195_26, g195_27, g195_28, g195_29, g195_32, g195_35, g195_36, g195_37, g195_38, g195_40, g195_41, g195_43, g195_44, g195_45, g195_46, g195_49, g195_52, g195_53, g195_56, g195_57, rz_k_inl, rz_k_inr, Option.toList_some, Option.toList_none, List.cons_append, List.nil_append, List.append_nil, rz_up_s, rz_u_s, rz_up_n, rz_u_n, ne_eq, not_false_eq_true, not_true_eq_false, Nat.add_assoc, Nat.reduceAdd, reduceIte, Nat.add_eq_left, Nat.left_eq_add, Nat.add_left_cancel_iff, Nat.reduceEqDiff, Nat.add_right_cancel_iff, rz_nb0, rz_nb1, rz_nbb, rz_nbi, rz_isr, rz_zle, if_true, if_false, rz_bi0, rz_bi1, Bool.not_eq_true, Bool.not_eq_false, Bool.true_eq_false, Bool.false_eq_true, rz_ix_lit, cl_lit, Nat.reduceLT, bi_t, bi_f, decide_true, decide_false, Bool.not_false, Bool.not_true, Bool.and_true, Bool.true_and, Bool.and_false, Bool.false_and, oMd_c, oMd_i0, oMd_i1, oMd_i2, oMd_i3, oMd_i4, oMd_i5, oMd_i6, oMd_i7, oMd_i8, oMd_f9, oMd_v9, oMd_f10, oMd_v10, oMd_f11, oMd_v11, oMd_f12, oMd_v12, oMd_f13, oMd_v13, oMd_f14, oMd_v14, oMd_i15, oMd_i16, oMd_f17, oMd_v17, oMd_f18, oMd_v18, oMd_f19, oMd_v19, oMd_f20, oMd_v20, oMd_f21, oMd_v21, oMd_f22, oMd_v22, oMd_f23, oMd_v23, oMd_i24, oMd_f25, oMd_v25, oMd_f26, oMd_v26, oMd_f27, oMd_v27, oMd_f28, oMd_v28, oMd_i29, oMd_i30, oMd_i31, oMd_i32, oMd_i33, oMd_i34, oMd_i35, oMd_f36, oMd_v36, oMd_f37, oMd_v37, oMd_f38, oMd_v38, oMd_i39, oMd_f40, oMd_v40, oMd_f41, oMd_v41, oMd_i42, oMd_f43, oMd_v43, oMd_i44, oMd_a1, oMd_n1, oMd_a2, oMd_n2, oMd_a3, oMd_n3, oMd_a4, oMd_n4, oMd_a363, oMd_n363, oMd_a364, oMd_n364, oMd_a446, oMd_n446, oMd_a447, oMd_n447, oMd_a469, oMd_n469, oMd_a470, oMd_n470, oMd_a471, oMd_n471, oMd_a472, oMd_n472, oMd_a473, oMd_n473, oMd_a5, oMd_n5, oMd_e5, oMd_ra5, oMd_rn5, oMd_a14, oMd_n14, oMd_e14, oMd_ra14, oMd_rn14, oMd_a23, oMd_n23, oMd_e23, oMd_ra23, oMd_rn23, oMd_a184, oMd_n184, oMd_e184, oMd_ra184, oMd_rn184, oMd_a345, oMd_n345, oMd_e345, oMd_ra345, oMd_rn345, oMd_a354, oMd_n354, oMd_e354, oMd_ra354, oMd_rn354, oMd_a365, oMd_n365, oMd_e365, oMd_ra365, oMd_rn365, oMd_a448, oMd_n448, oMd_e448, oMd_ra448, oMd_rn448, oMd_a465, oMd_n465, oMd_e465, oMd_ra465, oMd_rn465, hb, w0, w1, w2]
      | false =>
        rw [c2] at w2
        simp (decide := true) (maxDischargeDepth := 4) only [g195_0, g195_1, g195_3, g195_4, g195_6, g195_8, g195_10, g195_12, g195_15, g195_18, g195_19, g195_20, g195_21, g195_22, g195_24, g195_26, g195_27, g195_28, g195_29, g195_32, g195_35, g195_36, g195_37, g195_38, g195_40, g195_41, g195_43, g195_44, g195_45, g195_46, g195_49, g195_52, g195_53, g195_56, g195_57, rz_k_inl, rz_k_inr, Option.toList_some, Option.toList_none, List.cons_append, List.nil_append, List.append_nil, rz_up_s, rz_u_s, rz_up_n, rz_u_n, ne_eq, not_false_eq_true, not_true_eq_false, Nat.add_assoc, Nat.reduceAdd, reduceIte, Nat.add_eq_left, Nat.left_eq_add, Nat.add_left_cancel_iff, Nat.reduceEqDiff, Nat.add_right_cancel_iff, rz_nb0, rz_nb1, rz_nbb, rz_nbi, rz_isr, rz_zle, if_true, if_false, rz_bi0, rz_bi1, Bool.not_eq_true, Bool.not_eq_false, Bool.true_eq_false, Bool.false_eq_true, rz_ix_lit, cl_lit, Nat.reduceLT, bi_t, bi_f, decide_true, decide_false, Bool.not_false, Bool.not_true, Bool.and_true, Bool.true_and, Bool.and_false, Bool.false_and, oMd_c, oMd_i0, oMd_i1, oMd_i2, oMd_i3, oMd_i4, oMd_i5, oMd_i6, oMd_i7, oMd_i8, oMd_f9, oMd_v9, oMd_f10, oMd_v10, oMd_f11, oMd_v11, oMd_f12, oMd_v12, oMd_f13, oMd_v13, oMd_f14, oMd_v14, oMd_i15, oMd_i16, oMd_f17, oMd_v17, oMd_f18, oMd_v18, oMd_f19, oMd_v19, oMd_f20, oMd_v20, oMd_f21, oMd_v21, oMd_f22, oMd_v22, oMd_f23, oMd_v23, oMd_i24, oMd_f25, oMd_v25, oMd_f26, oMd_v26, oMd_f27, oMd_v27, oMd_f28, oMd_v28, oMd_i29, oMd_i30, oMd_i31, oMd_i32, oMd_i33, oMd_i34, oMd_i35, oMd_f36, oMd_v36, oMd_f37, oMd_v37, oMd_f38, oMd_v38, oMd_i39, oMd_f40, oMd_v40, oMd_f41, oMd_v41, oMd_i42, oMd_f43, oMd_v43, oMd_i44, oMd_a1, oMd_n1, oMd_a2, oMd_n2, oMd_a3, oMd_n3, oMd_a4, oMd_n4, oMd_a363, oMd_n363, oMd_a364, oMd_n364, oMd_a446, oMd_n446, oMd_a447, oMd_n447, oMd_a469, oMd_n469, oMd_a470, oMd_n470, oMd_a471, oMd_n471, oMd_a472, oMd_n472, oMd_a473, oMd_n473, oMd_a5, oMd_n5, oMd_e5, oMd_ra5, oMd_rn5, oMd_a14, oMd_n14, oMd_e14, oMd_ra14, oMd_rn14, oMd_a23, oMd_n23, oMd_e23, oMd_ra23, oMd_rn23, oMd_a184, oMd_n184, oMd_e184, oMd_ra184, oMd_rn184, oMd_a345, oMd_n345, oMd_e345, oMd_ra345, oMd_rn345, oMd_a354, oMd_n354, oMd_e354, oMd_ra354, oMd_rn354, oMd_a365, oMd_n365, oMd_e365, oMd_ra365, oMd_rn365, oMd_a448, oMd_n448, oMd_e448, oMd_ra448, oMd_rn448, oMd_a465, oMd_n465, oMd_e465, oMd_ra465, oMd_rn465, hb, w0, w1, w2]
/-- behind a fault the rest of a PERSON's clause does nothing -/
theorem mk_pf {f : Nat × Nat} (hb : oMd h b) (hz : Z.2.1 ≤ b) {n : Nat} (hn : n < 8) (h5 : f.1 ≠ 0) (h51 : f.1 < 10) : ∀ (k t : Nat) (ι : Nat → Nat → Int32), k + t = 3 → mkN b ι0 ι f → ι (b + 3) 0 = nI n → ∃ ι', rg Z (d + 3) rx_m196 83 [some (.ref b), some (.int 0), some (.int (nI t))] [] (rz_mk h ι, w) = some (.inl none, (rz_mk h ι', w)) ∧ mkN b ι0 ι' f := by
  intro k
  induction k with
  | zero =>
    intro t ι hk hN h3
    have et : t = 3 := by omega
    subst et
    have hf : ¬ (ι b 5 = 0) := by rw [hN.2.1]; exact fN h5 h51
    have sf := rd_signF (Z := Z) (d := d + 2) (w := w) hb hf 59
    refine ⟨rz_up ι (b + 3) 0 (nI n), ?_, hN.upA (by omega)⟩
    rw [g196_83]
    have c : (nI 3 < 3) = False := by simp; decide
    simp (decide := true) (maxDischargeDepth := 4) only [g196_84, g196_85, g196_114, g196_155, g196_156, g196_158, g196_161, g196_162, g196_165, g196_166, g196_169, g196_170, g196_171, g196_172, g196_173, g196_176, g196_179, g196_180, g196_183, g196_184, g196_185, g196_186, rz_k_inl, rz_k_inr, Option.toList_some, Option.toList_none, List.cons_append, List.nil_append, List.append_nil, rz_up_s, rz_u_s, rz_up_n, rz_u_n, ne_eq, not_false_eq_true, not_true_eq_false, Nat.add_assoc, Nat.reduceAdd, reduceIte, Nat.add_eq_left, Nat.left_eq_add, Nat.add_left_cancel_iff, Nat.reduceEqDiff, Nat.add_right_cancel_iff, rz_nb0, rz_nb1, rz_nbb, rz_nbi, rz_isr, rz_zle, if_true, if_false, rz_bi0, rz_bi1, Bool.not_eq_true, Bool.not_eq_false, Bool.true_eq_false, Bool.false_eq_true, rz_ix_lit, cl_lit, Nat.reduceLT, bi_t, bi_f, decide_true, decide_false, Bool.not_false, Bool.not_true, Bool.and_true, Bool.true_and, Bool.and_false, Bool.false_and, oMd_c, oMd_i0, oMd_i1, oMd_i2, oMd_i3, oMd_i4, oMd_i5, oMd_i6, oMd_i7, oMd_i8, oMd_f9, oMd_v9, oMd_f10, oMd_v10, oMd_f11, oMd_v11, oMd_f12, oMd_v12, oMd_f13, oMd_v13, oMd_f14, oMd_v14, oMd_i15, oMd_i16, oMd_f17, oMd_v17, oMd_f18, oMd_v18, oMd_f19, oMd_v19, oMd_f20, oMd_v20, oMd_f21, oMd_v21, oMd_f22, oMd_v22, oMd_f23, oMd_v23, oMd_i24, oMd_f25, oMd_v25, oMd_f26, oMd_v26, oMd_f27, oMd_v27, oMd_f28, oMd_v28, oMd_i29, oMd_i30, oMd_i31, oMd_i32, oMd_i33, oMd_i34, oMd_i35, oMd_f36, oMd_v36, oMd_f37, oMd_v37, oMd_f38, oMd_v38, oMd_i39, oMd_f40, oMd_v40, oMd_f41, oMd_v41, oMd_i42, oMd_f43, oMd_v43, oMd_i44, oMd_a1, oMd_n1, oMd_a2, oMd_n2, oMd_a3, oMd_n3, oMd_a4, oMd_n4, oMd_a363, oMd_n363, oMd_a364, oMd_n364, oMd_a446, oMd_n446, oMd_a447, oMd_n447, oMd_a469, oMd_n469, oMd_a470, oMd_n470, oMd_a471, oMd_n471, oMd_a472, oMd_n472, oMd_a473, oMd_n473, oMd_a5, oMd_n5, oMd_e5, oMd_ra5, oMd_rn5, oMd_a14, oMd_n14, oMd_e14, oMd_ra14, oMd_rn14, oMd_a23, oMd_n23, oMd_e23, oMd_ra23, oMd_rn23, oMd_a184, oMd_n184, oMd_e184, oMd_ra184, oMd_rn184, oMd_a345, oMd_n345, oMd_e345, oMd_ra345, oMd_rn345, oMd_a354, oMd_n354, oMd_e354, oMd_ra354, oMd_rn354, oMd_a365, oMd_n365, oMd_e365, oMd_ra365, oMd_rn365, oMd_a448, oMd_n448, oMd_e448, oMd_ra448, oMd_rn448, oMd_a465, oMd_n465, oMd_e465, oMd_ra465, oMd_rn465, hb, hz, c, sf, hf, h3, Int32.add_zero]
  | succ k ih =>
    intro t ι hk hN h3
    have hf : ¬ (ι b 5 = 0) := by rw [hN.2.1]; exact fN h5 h51
    have nf := rd_numF (Z := Z) (d := d + 2) (w := w) hb hf 0 9
    have c : (nI t < 3) = True := by rw [nI_ltL (by omega) (by decide)]; simp; omega
    have i1 : rz_ix (nI n) 8 := rz_ix_nat hn (by omega)
    have i2 : rz_ix (nI t) 3 := rz_ix_nat (by omega) (by omega)
    have a1 := oMd_ra5 hb hn
    have a2 := oMd_rn5 hb hn
    obtain ⟨ι', x1, x2⟩ := ih (t + 1) (rz_up ι (b + (6 + n)) t 0) (by omega) (hN.upA (by omega)) (by rw [rz_up_n (by omega)]; exact h3)
    refine ⟨ι', ?_, x2⟩
    rw [g196_83, ← x1]
    simp (decide := true) (maxDischargeDepth := 4) only [g196_84, g196_85, g196_88, g196_89, g196_92, g196_93, g196_96, g196_97, g196_98, g196_99, g196_100, g196_101, g196_102, g196_104, g196_107, g196_108, g196_111, rz_k_inl, rz_k_inr, Option.toList_some, Option.toList_none, List.cons_append, List.nil_append, List.append_nil, rz_up_s, rz_u_s, rz_up_n, rz_u_n, ne_eq, not_false_eq_true, not_true_eq_false, Nat.add_assoc, Nat.reduceAdd, reduceIte, Nat.add_eq_left, Nat.left_eq_add, Nat.add_left_cancel_iff, Nat.reduceEqDiff, Nat.add_right_cancel_iff, rz_nb0, rz_nb1, rz_nbb, rz_nbi, rz_isr, rz_zle, if_true, if_false, rz_bi0, rz_bi1, Bool.not_eq_true, Bool.not_eq_false, Bool.true_eq_false, Bool.false_eq_true, rz_ix_lit, cl_lit, Nat.reduceLT, bi_t, bi_f, decide_true, decide_false, Bool.not_false, Bool.not_true, Bool.and_true, Bool.true_and, Bool.and_false, Bool.false_and, oMd_c, oMd_i0, oMd_i1, oMd_i2, oMd_i3, oMd_i4, oMd_i5, oMd_i6, oMd_i7, oMd_i8, oMd_f9, oMd_v9, oMd_f10, oMd_v10, oMd_f11, oMd_v11, oMd_f12, oMd_v12, oMd_f13, oMd_v13, oMd_f14, oMd_v14, oMd_i15, oMd_i16, oMd_f17, oMd_v17, oMd_f18, oMd_v18, oMd_f19, oMd_v19, oMd_f20, oMd_v20, oMd_f21, oMd_v21, oMd_f22, oMd_v22, oMd_f23, oMd_v23, oMd_i24, oMd_f25, oMd_v25, oMd_f26, oMd_v26, oMd_f27, oMd_v27, oMd_f28, oMd_v28, oMd_i29, oMd_i30, oMd_i31, oMd_i32, oMd_i33, oMd_i34, oMd_i35, oMd_f36, oMd_v36, oMd_f37, oMd_v37, oMd_f38, oMd_v38, oMd_i39, oMd_f40, oMd_v40, oMd_f41, oMd_v41, oMd_i42, oMd_f43, oMd_v43, oMd_i44, oMd_a1, oMd_n1, oMd_a2, oMd_n2, oMd_a3, oMd_n3, oMd_a4, oMd_n4, oMd_a363, oMd_n363, oMd_a364, oMd_n364, oMd_a446, oMd_n446, oMd_a447, oMd_n447, oMd_a469, oMd_n469, oMd_a470, oMd_n470, oMd_a471, oMd_n471, oMd_a472, oMd_n472, oMd_a473, oMd_n473, oMd_a5, oMd_n5, oMd_e5, oMd_ra5, oMd_rn5, oMd_a14, oMd_n14, oMd_e14, oMd_ra14, oMd_rn14, oMd_a23, oMd_n23, oMd_e23, oMd_ra23, oMd_rn23, oMd_a184, oMd_n184, oMd_e184, oMd_ra184, oMd_rn184, oMd_a345, oMd_n345, oMd_e345, oMd_ra345, oMd_rn345, oMd_a354, oMd_n354, oMd_e354, oMd_ra354, oMd_rn354, oMd_a365, oMd_n365, oMd_e365, oMd_ra365, oMd_rn365, oMd_a448, oMd_n448, oMd_e448, oMd_ra448, oMd_rn448, oMd_a465, oMd_n465, oMd_e465, oMd_ra465, oMd_rn465, hb, hz, c, h3, nI_cl (show n < 2147483648 by omega), nI_cl (show t < 2147483648 by omega), i1, i2, a1, a2, nf, nI_1]
theorem mk_num {e cl dk ld p : Nat} {P : List P3} (hb : oMd h b) (hz : Z.2.1 ≤ b) (he : ι0 b 2 = nI e) (he6 : e ≤ 600) (hpe : p ≤ e) (i : mkI b ι0 ι cl P dk ld p) {m : Int32} (hm : m < 1000) : match nmN (ι0 (b + 1)) e m p with
    | .inl x => x.2 ≤ e ∧ ∃ ι', rz_f Z (d + 3) 185 [.ref b, .int 0, .int m] (rz_mk h ι, w) = some (.inl (some (.int (nI x.1))), (rz_mk h ι', w)) ∧ mkI b ι0 ι' cl P dk ld x.2 ∧ ∀ a, a ≠ b → ι' a = ι a
    | .inr f => (f.1 = 1 ∨ f.1 = 2) ∧ ∃ ι', rz_f Z (d + 3) 185 [.ref b, .int 0, .int m] (rz_mk h ι, w) = some (.inl (some (.int 0)), (rz_mk h ι', w)) ∧ mkN b ι0 ι' f ∧ ∀ a, a ≠ b → ι' a = ι a := by
  cases n1 : nmN (ι0 (b + 1)) e m p with
  | inl x =>
    obtain ⟨x, q⟩ := x
    obtain ⟨a1, a2, a3, a4, a5⟩ := nmN_ok hpe n1
    obtain ⟨ι', g1, g2⟩ := rd_num_ok (Z := Z) (d := d) (w := w) hb hz (i.e2 he) i.2.1 hpe he6 i.2.2.1 hm (by rw [i.by]; exact a1)
    exact ⟨a5, ι', g1, i.rd g2, g2.1.1⟩
  | inr f =>
    obtain ⟨ι', g1, g2⟩ := rd_num_no (Z := Z) (d := d) (w := w) hb hz (i.e2 he) i.2.1 hpe he6 i.2.2.1 hm (by rw [i.by]; exact nmN_no n1)
    exact ⟨nmN_f n1, ι', g1, i.no g2, g2.1.1⟩
theorem mk_semi {e cl dk ld p : Nat} {P : List P3} (hb : oMd h b) (hz : Z.2.1 ≤ b) (he : ι0 b 2 = nI e) (he6 : e ≤ 600) (hpe : p ≤ e) (i : mkI b ι0 ι cl P dk ld p) {c : Int32} (hc : c ≠ -1) : match smP (ι0 (b + 1)) e c p with
    | .inl q => q ≤ e ∧ ∃ ι', rz_f Z (d + 3) 191 [.ref b, .int c] (rz_mk h ι, w) = some (.inl none, (rz_mk h ι', w)) ∧ mkI b ι0 ι' cl P dk ld q ∧ ∀ a, a ≠ b → ι' a = ι a
    | .inr f => f.1 = 1 ∧ ∃ ι', rz_f Z (d + 3) 191 [.ref b, .int c] (rz_mk h ι, w) = some (.inl none, (rz_mk h ι', w)) ∧ mkN b ι0 ι' f ∧ ∀ a, a ≠ b → ι' a = ι a := by
  have s := rd_sign (Z := Z) (d := d) (w := w) hb hz (i.e2 he) i.2.1 hpe he6 i.2.2.1 c
  rw [i.by] at s
  cases x1 : smP (ι0 (b + 1)) e c p with
  | inl q =>
    obtain ⟨s1, s2, s3⟩ := smP_ok hpe hc x1
    rw [if_pos s1, ← s2] at s
    exact ⟨s3, _, s, i.rd (rdOk.of b q ι), fun a ha => rz_up_n ha⟩
  | inr f =>
    obtain ⟨s1, s2⟩ := smP_no x1
    rw [if_neg s1] at s
    subst s2
    exact ⟨rfl, _, s, i.no (rdNo.of b (1, sk (ι0 (b + 1)) e p) (show sk (ι0 (b + 1)) e p ≤ 600 by have := sk_le (B := ι0 (b + 1)) hpe; omega) ι), fun a ha => by rw [rz_up_n ha, rz_up_n ha, rz_up_n ha]⟩
end DUK4
