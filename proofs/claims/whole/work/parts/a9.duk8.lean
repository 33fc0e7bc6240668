/-! what a DUKEDOM's text can come to; the reference reads one to its end -/
def dkW (P : List P3) (dk ld : Nat) : Prop := P.length ≤ 8 ∧ (∀ q ∈ P, q.1 ≤ 9 ∧ q.2.1 ≤ 9 ∧ q.2.2 ≤ 9) ∧ (dk = 0 ∨ dk < P.length) ∧ ld ≤ 99
theorem nmN_le {B : Nat → Int32} {e p n q k : Nat} (hp : p ≤ e) (hk : k < 10000) (h : nmN B e (nI k) p = .inl (n, q)) : n ≤ k ∧ sk B e p < q ∧ q ≤ e := by
  obtain ⟨a1, a2, a3, a4, a5⟩ := nmN_ok hp h
  rw [nI_lt2 (by omega) (by omega)] at a3
  exact ⟨by omega, a4, a5⟩
theorem dkC0_W {B : Nat → Int32} {e cl dk ld p : Nat} {P : List P3} {s : (List P3 × Nat × Nat) × Nat} (hp : p ≤ e) (hW : dkW P dk ld) (h : dkC0 B e cl P dk ld p = .inl s) : dkW s.1.1 s.1.2.1 s.1.2.2 ∧ p < s.2 ∧ s.2 ≤ e := by
  obtain ⟨W1, W2, W3, W4⟩ := hW
  have hw := wdR_le (B := B) hp
  have hs := sk_ge B e p
  unfold dkC0 at h
  split at h
  · split at h
    · rename_i h8
      cases n1 : nmN B e 9 (wdR B e p) with
      | inr f => rw [n1] at h; cases h
      | inl x =>
        rw [n1, rB_l] at h
        obtain ⟨x1, x2, x3⟩ := nmN_le (k := 9) hw.2 (by decide) n1
        have g1 := sk_ge B e (wdR B e p)
        cases n2 : nmN B e 9 x.2 with
        | inr f => rw [n2] at h; cases h
        | inl y =>
          rw [n2, rB_l] at h
          obtain ⟨y1, y2, y3⟩ := nmN_le (k := 9) x3 (by decide) n2
          have g2 := sk_ge B e x.2
          cases n3 : nmN B e 9 y.2 with
          | inr f => rw [n3] at h; cases h
          | inl z =>
            rw [n3, rB_l] at h
            obtain ⟨z1, z2, z3⟩ := nmN_le (k := 9) y3 (by decide) n3
            have g3 := sk_ge B e y.2
            cases h
            refine ⟨⟨?_, ?_, ?_, W4⟩, ?_, z3⟩
            · rw [List.length_append]; show P.length + 1 ≤ 8; omega
            · intro q hq
              rcases List.mem_append.mp hq with hq | hq
              · exact W2 q hq
              · rw [List.mem_singleton] at hq; subst hq; exact ⟨x1, y1, z1⟩
            · rw [List.length_append]; show dk = 0 ∨ dk < P.length + 1; omega
            · show p < z.2; omega
    · cases h
  · split at h
    · split at h
      · cases n1 : nmN B e (nI P.length - 1) (wdR B e p) with
        | inr f => rw [n1] at h; cases h
        | inl x =>
          rw [n1, rB_l] at h
          obtain ⟨a1, a2, a3, a4, a5⟩ := nmN_ok hw.2 n1
          have g1 := sk_ge B e (wdR B e p)
          cases h
          refine ⟨⟨W1, W2, ?_, W4⟩, ?_, a5⟩
          · right
            have t1 := nI_toInt (n := P.length) (by omega)
            have t2 := nI_toInt (n := x.1) (by omega)
            have : (nI P.length - 1).toInt = (P.length : Int) - 1 := pk_sub_toInt (b := 1) (by omega) (by omega)
            rw [i_lt, this, t2] at a3
            show x.1 < P.length
            omega
          · show p < x.2; omega
      · cases h
    · split at h
      · split at h
        · cases n1 : nmN B e 99 (wdR B e p) with
          | inr f => rw [n1] at h; cases h
          | inl x =>
            rw [n1, rB_l] at h
            obtain ⟨x1, x2, x3⟩ := nmN_le (k := 99) hw.2 (by decide) n1
            have g1 := sk_ge B e (wdR B e p)
            cases h
            exact ⟨⟨W1, W2, W3, x1⟩, by show p < x.2; omega, x3⟩
        · cases h
      · cases h
theorem dkC_W {B : Nat → Int32} {e cl dk ld p : Nat} {P : List P3} {s : (List P3 × Nat × Nat) × Nat} (hp : p ≤ e) (hW : dkW P dk ld) (h : dkC B e cl P dk ld p = .inl s) : dkW s.1.1 s.1.2.1 s.1.2.2 ∧ p < s.2 ∧ s.2 ≤ e := by
  unfold dkC at h
  cases x0 : dkC0 B e cl P dk ld p with
  | inr f => rw [x0] at h; cases h
  | inl t =>
    rw [x0, rB_l] at h
    obtain ⟨a1, a2, a3⟩ := dkC0_W hp hW x0
    cases x1 : smP B e 59 t.2 with
    | inr f => rw [x1] at h; cases h
    | inl q =>
      rw [x1, rB_l] at h
      obtain ⟨s1, s2, s3⟩ := smP_ok a3 (by decide) x1
      have := sk_ge B e t.2
      cases h
      exact ⟨a1, by show p < q; omega, s3⟩
theorem dkS_W {B : Nat → Int32} {e : Nat} : ∀ (k cl : Nat) (P : List P3) (dk ld p : Nat) (s : List P3 × Nat × Nat), p ≤ e → dkW P dk ld → dkS B e k cl P dk ld p = .inl s → dkW s.1 s.2.1 s.2.2
  | 0, _, _, _, _, _, _, _, hW, h => by rw [dkS] at h; cases h; exact hW
  | k + 1, cl, P, dk, ld, p, s, hp, hW, h => by
    rw [dkS] at h
    split at h
    · cases x0 : dkC B e cl P dk ld (sk B e p) with
      | inr f => rw [x0] at h; cases h
      | inl t =>
        rw [x0, rB_l] at h
        obtain ⟨a1, a2, a3⟩ := dkC_W (sk_le hp) hW x0
        exact dkS_W k _ _ _ _ _ s a3 a1 h
    · cases h; exact hW
section DUK8
variable {Z : rx_Z} {d : Nat} {h : Nat → Option rx_E} {ι ι0 : Nat → Nat → Int32} {w : Nat × Nat} {b : Nat}
theorem rd_blanksG (hb : oMd h b) (hz : Z.2.1 ≤ b) {e p : Nat} (he : ι b 2 = nI e) (hp : ι b 4 = nI p) (hp6 : p ≤ 600) (he6 : e ≤ 600) : rz_f Z (d + 2) 181 [.ref b] (rz_mk h ι, w) = some (.inl none, (rz_mk h (rz_up ι b 4 (nI (sk (ι (b + 1)) e p))), w)) := by
  by_cases hpe : p ≤ e
  · exact rd_blanks hb hz he hp hpe he6
  · have by1 := rd_byteAt (Z := Z) (d := d) (w := w) (k := p) hb he he6 (by omega)
    rw [show sg (ι (b + 1)) e p = -1 from if_neg (by omega)] at by1
    rw [e181, g181_0, sk_end (by omega), rz_up_id hp]
    simp (decide := true) (maxDischargeDepth := 4) only [g181_1, g181_2, g181_5, g181_8, g181_10, g181_13, g181_14, g181_15, g181_18, g181_19, g181_20, g181_23, g181_26, rz_k_inl, rz_k_inr, Option.toList_some, Option.toList_none, List.cons_append, List.nil_append, List.append_nil, rz_up_s, rz_u_s, rz_up_n, rz_u_n, ne_eq, not_false_eq_true, not_true_eq_false, Nat.add_assoc, Nat.reduceAdd, reduceIte, Nat.add_eq_left, Nat.left_eq_add, Nat.add_left_cancel_iff, Nat.reduceEqDiff, Nat.add_right_cancel_iff, rz_nb0, rz_nb1, rz_nbb, rz_nbi, rz_isr, rz_zle, if_true, if_false, rz_bi0, rz_bi1, Bool.not_eq_true, Bool.not_eq_false, Bool.true_eq_false, Bool.false_eq_true, rz_ix_lit, cl_lit, Nat.reduceLT, bi_t, bi_f, decide_true, decide_false, Bool.not_false, Bool.not_true, Bool.and_true, Bool.true_and, Bool.and_false, Bool.false_and, oMd_c, oMd_i0, oMd_i1, oMd_i2, oMd_i3, oMd_i4, oMd_i5, oMd_i6, oMd_i7, oMd_i8, oMd_f9, oMd_v9, oMd_f10, oMd_v10, oMd_f11, oMd_v11, oMd_f12, oMd_v12, oMd_f13, oMd_v13, oMd_f14, oMd_v14, oMd_i15, oMd_i16, oMd_f17, oMd_v17, oMd_f18, oMd_v18, oMd_f19, oMd_v19, oMd_f20, oMd_v20, oMd_f21, oMd_v21, oMd_f22, oMd_v22, oMd_f23, oMd_v23, oMd_i24, oMd_f25, oMd_v25, oMd_f26, oMd_v26, oMd_f27, oMd_v27, oMd_f28, oMd_v28, oMd_i29, oMd_i30, oMd_i31, oMd_i32, oMd_i33, oMd_i34, oMd_i35, oMd_f36, oMd_v36, oMd_f37, oMd_v37, oMd_f38, oMd_v38, oMd_i39, oMd_f40, oMd_v40, oMd_f41, oMd_v41, oMd_i42, oMd_f43, oMd_v43, oMd_i44, oMd_a1, oMd_n1, oMd_a2, oMd_n2, oMd_a3, oMd_n3, oMd_a4, oMd_n4, oMd_a363, oMd_n363, oMd_a364, oMd_n364, oMd_a446, oMd_n446, oMd_a447, oMd_n447, oMd_a469, oMd_n469, oMd_a470, oMd_n470, oMd_a471, oMd_n471, oMd_a472, oMd_n472, oMd_a473, oMd_n473, oMd_a5, oMd_n5, oMd_e5, oMd_ra5, oMd_rn5, oMd_a14, oMd_n14, oMd_e14, oMd_ra14, oMd_rn14, oMd_a23, oMd_n23, oMd_e23, oMd_ra23, oMd_rn23, oMd_a184, oMd_n184, oMd_e184, oMd_ra184, oMd_rn184, oMd_a345, oMd_n345, oMd_e345, oMd_ra345, oMd_rn345, oMd_a354, oMd_n354, oMd_e354, oMd_ra354, oMd_rn354, oMd_a365, oMd_n365, oMd_e365, oMd_ra365, oMd_rn365, oMd_a448, oMd_n448, oMd_e448, oMd_ra448, oMd_rn448, oMd_a465, oMd_n465, oMd_e465, oMd_ra465, oMd_rn465, hb, hp, by1]
theorem mk_loop {e : Nat} (hb : oMd h b) (hz : Z.2.1 ≤ b) (he : ι0 b 2 = nI e) (he6 : e ≤ 600) (l1 : Option Value) : ∀ (k cl : Nat) (P : List P3) (dk ld p : Nat) (ι : Nat → Nat → Int32), p ≤ e → e < p + k → cl ≤ 60 → dkW P dk ld → mkI b ι0 ι cl P dk ld (sk (ι0 (b + 1)) e p) → match dkS (ι0 (b + 1)) e k cl P dk ld p with
    | .inl s => ∃ ι' cl' p', rg Z (d + 6) rx_m197 42 [some (.ref b), l1] [] (rz_mk h ι, w) = rg Z (d + 6) rx_m197 71 [some (.ref b), l1] [] (rz_mk h ι', w) ∧ mkI b ι0 ι' cl' s.1 s.2.1 s.2.2 p'
    | .inr f => (f.1 ≠ 0 ∧ f.1 < 10) ∧ ∃ ι', rg Z (d + 6) rx_m197 42 [some (.ref b), l1] [] (rz_mk h ι, w) = rg Z (d + 6) rx_m197 71 [some (.ref b), l1] [] (rz_mk h ι', w) ∧ mkN b ι0 ι' f := by
  intro k
  induction k with
  | zero => intro cl P dk ld p ι hp hk; omega
  | succ k ih =>
    intro cl P dk ld p ι hp hk hcl hW i
    have hsk := sk_le (B := ι0 (b + 1)) hp
    have e5 := i.2.2.1
    have e4 := i.2.1
    have e2 := i.e2 he
    have cc : (nI (sk (ι0 (b + 1)) e p) < nI e) = (sk (ι0 (b + 1)) e p < e) := nI_lt2 (by omega) (by omega)
    rw [dkS]
    by_cases hs : sk (ι0 (b + 1)) e p < e
    · have hs' : (sk (ι0 (b + 1)) e p < e) = True := by simp [hs]
      rw [if_pos hs]
      have C := mk_clause (Z := Z) (d := d) (w := w) hb hz he he6 hsk hW.1 hcl i
      cases x0 : dkC (ι0 (b + 1)) e cl P dk ld (sk (ι0 (b + 1)) e p) with
      | inr f =>
        rw [x0] at C
        obtain ⟨C1, ι1, C2, C3⟩ := C
        have hf : ¬ (ι1 b 5 = 0) := by rw [C3.2.1]; exact fN C1.1 C1.2
        have e21 : ι1 b 2 = nI e := (C3.1.2 2 (by omega) (by omega) (by omega) (by omega)).trans he
        have bl : ∃ ι2, rz_f Z (d + 6) 181 [.ref b] (rz_mk h ι1, w) = some (.inl none, (rz_mk h ι2, w)) ∧ mkN b ι0 ι2 f := by
          obtain ⟨p', p1, p2⟩ := C3.2.2.2
          have bb := rd_blanksG (Z := Z) (d := d + 4) (w := w) hb hz e21 p2 p1 he6
          refine ⟨_, bb, C3.1.up (by omega), by rw [rz_up_s, rz_u_n (by omega)]; exact C3.2.1, by rw [rz_up_s, rz_u_n (by omega)]; exact C3.2.2.1, _, ?_, by rw [rz_up_s, rz_u_s]⟩
          by_cases hpe : p' ≤ e
          · exact Nat.le_trans (sk_le hpe) he6
          · rw [sk_end (by omega)]; exact p1
        obtain ⟨ι2, b1, b2⟩ := bl
        have hf2 : ¬ (ι2 b 5 = 0) := by rw [b2.2.1]; exact fN C1.1 C1.2
        refine ⟨C1, ι2, ?_, b2⟩
        rw [g197_42]
        simp (decide := true) (maxDischargeDepth := 4) only [g197_43, g197_46, g197_49, g197_50, g197_53, g197_54, g197_57, g197_60, g197_61, g197_64, g197_65, g197_68, rz_k_inl, rz_k_inr, Option.toList_some, Option.toList_none, List.cons_append, List.nil_append, List.append_nil, rz_up_s, rz_u_s, rz_up_n, rz_u_n, ne_eq, not_false_eq_true, not_true_eq_false, Nat.add_assoc, Nat.reduceAdd, reduceIte, Nat.add_eq_left, Nat.left_eq_add, Nat.add_left_cancel_iff, Nat.reduceEqDiff, Nat.add_right_cancel_iff, rz_nb0, rz_nb1, rz_nbb, rz_nbi, rz_isr, rz_zle, if_true, if_false, rz_bi0, rz_bi1, Bool.not_eq_true, Bool.not_eq_false, Bool.true_eq_false, Bool.false_eq_true, rz_ix_lit, cl_lit, Nat.reduceLT, bi_t, bi_f, decide_true, decide_false, Bool.not_false, Bool.not_true, Bool.and_true, Bool.true_and, Bool.and_false, Bool.false_and, oMd_c, oMd_i0, oMd_i1, oMd_i2, oMd_i3, oMd_i4, oMd_i5, oMd_i6, oMd_i7, oMd_i8, oMd_f9, oMd_v9, oMd_f10, oMd_v10, oMd_f11, oMd_v11, oMd_f12, oMd_v12, oMd_f13, oMd_v13, oMd_f14, oMd_v14, oMd_i15, oMd_i16, oMd_f17, oMd_v17, oMd_f18, oMd_v18, oMd_f19, oMd_v19, oMd_f20, oMd_v20, oMd_f21, oMd_v21, oMd_f22, oMd_v22, oMd_f23, oMd_v23, oMd_i24, oMd_f25, oMd_v25, oMd_f26, oMd_v26, oMd_f27, oMd_v27, oMd_f28, oMd_v28, oMd_i29, oMd_i30, oMd_i31, oMd_i32, oMd_i33, oMd_i34, oMd_i35, oMd_f36, oMd_v36, oMd_f37, oMd_v37, oMd_f38, oMd_v38, oMd_i39, oMd_f40, oMd_v40, oMd_f41, oMd_v41, oMd_i42, oMd_f43, oMd_v43, oMd_i44, oMd_a1, oMd_n1, oMd_a2, oMd_n2, oMd_a3, oMd_n3, oMd_a4, oMd_n4, oMd_a363, oMd_n363, oMd_a364, oMd_n364, oMd_a446, oMd_n446, oMd_a447, oMd_n447, oMd_a469, oMd_n469, oMd_a470, oMd_n470, oMd_a471, oMd_n471, oMd_a472, oMd_n472, oMd_a473, oMd_n473, oMd_a5, oMd_n5, oMd_e5, oMd_ra5, oMd_rn5, oMd_a14, oMd_n14, oMd_e14, oMd_ra14, oMd_rn14, oMd_a23, oMd_n23, oMd_e23, oMd_ra23, oMd_rn23, oMd_a184, oMd_n184, oMd_e184, oMd_ra184, oMd_rn184, oMd_a345, oMd_n345, oMd_e345, oMd_ra345, oMd_rn345, oMd_a354, oMd_n354, oMd_e354, oMd_ra354, oMd_rn354, oMd_a365, oMd_n365, oMd_e365, oMd_ra365, oMd_rn365, oMd_a448, oMd_n448, oMd_e448, oMd_ra448, oMd_rn448, oMd_a465, oMd_n465, oMd_e465, oMd_ra465, oMd_rn465, hb, e5, e4, e2, cc, hs', C2, b1]
        rw [g197_42]
        simp (decide := true) (maxDischargeDepth := 4) only [g197_43, g197_46, g197_49, g197_50, g197_53, g197_54, g197_57, g197_60, g197_61, g197_64, g197_65, g197_68, rz_k_inl, rz_k_inr, Option.toList_some, Option.toList_none, List.cons_append, List.nil_append, List.append_nil, rz_up_s, rz_u_s, rz_up_n, rz_u_n, ne_eq, not_false_eq_true, not_true_eq_false, Nat.add_assoc, Nat.reduceAdd, reduceIte, Nat.add_eq_left, Nat.left_eq_add, Nat.add_left_cancel_iff, Nat.reduceEqDiff, Nat.add_right_cancel_iff, rz_nb0, rz_nb1, rz_nbb, rz_nbi, rz_isr, rz_zle, if_true, if_false, rz_bi0, rz_bi1, Bool.not_eq_true, Bool.not_eq_false, Bool.true_eq_false, Bool.false_eq_true, rz_ix_lit, cl_lit, Nat.reduceLT, bi_t, bi_f, decide_true, decide_false, Bool.not_false, Bool.not_true, Bool.and_true, Bool.true_and, Bool.and_false, Bool.false_and, oMd_c, oMd_i0, oMd_i1, oMd_i2, oMd_i3, oMd_i4, oMd_i5, oMd_i6, oMd_i7, oMd_i8, oMd_f9, oMd_v9, oMd_f10, oMd_v10, oMd_f11, oMd_v11, oMd_f12, oMd_v12, oMd_f13, oMd_v13, oMd_f14, oMd_v14, oMd_i15, oMd_i16, oMd_f17, oMd_v17, oMd_f18, oMd_v18, oMd_f19, oMd_v19, oMd_f20, oMd_v20, oMd_f21, oMd_v21, oMd_f22, oMd_v22, oMd_f23, oMd_v23, oMd_i24, oMd_f25, oMd_v25, oMd_f26, oMd_v26, oMd_f27, oMd_v27, oMd_f28, oMd_v28, oMd_i29, oMd_i30, oMd_i31, oMd_i32, oMd_i33, oMd_i34, oMd_i35, oMd_f36, oMd_v36, oMd_f37, oMd_v37, oMd_f38, oMd_v38, oMd_i39, oMd_f40, oMd_v40, oMd_f41, oMd_v41, oMd_i42, oMd_f43, oMd_v43, oMd_i44, oMd_a1, oMd_n1, oMd_a2, oMd_n2, oMd_a3, oMd_n3, oMd_a4, oMd_n4, oMd_a363, oMd_n363, oMd_a364, oMd_n364, oMd_a446, oMd_n446, oMd_a447, oMd_n447, oMd_a469, oMd_n469, oMd_a470, oMd_n470, oMd_a471, oMd_n471, oMd_a472, oMd_n472, oMd_a473, oMd_n473, oMd_a5, oMd_n5, oMd_e5, oMd_ra5, oMd_rn5, oMd_a14, oMd_n14, oMd_e14, oMd_ra14, oMd_rn14, oMd_a23, oMd_n23, oMd_e23, oMd_ra23, oMd_rn23, oMd_a184, oMd_n184, oMd_e184, oMd_ra184, oMd_rn184, oMd_a345, oMd_n345, oMd_e345, oMd_ra345, oMd_rn345, oMd_a354, oMd_n354, oMd_e354, oMd_ra354, oMd_rn354, oMd_a365, oMd_n365, oMd_e365, oMd_ra365, oMd_rn365, oMd_a448, oMd_n448, oMd_e448, oMd_ra448, oMd_rn448, oMd_a465, oMd_n465, oMd_e465, oMd_ra465, oMd_rn465, hb, hf2]
      | inl s =>
        rw [x0] at C
        obtain ⟨C1, C2, ι1, C3, C4⟩ := C
        obtain ⟨a1, a2, a3⟩ := dkC_W hsk hW x0
        have := sk_ge (ι0 (b + 1)) e p
        have bl := rd_blanks (Z := Z) (d := d + 4) (w := w) hb hz (C4.e2 he) C4.2.1 C1 he6
        rw [C4.by] at bl
        have I := ih (cl + 1) s.1.1 s.1.2.1 s.1.2.2 s.2 _ C1 (by omega) (by omega) a1 (C4.rd (rdOk.of b (sk (ι0 (b + 1)) e s.2) ι1))
        have step : rg Z (d + 6) rx_m197 42 [some (.ref b), l1] [] (rz_mk h ι, w) = rg Z (d + 6) rx_m197 42 [some (.ref b), l1] [] (rz_mk h (rz_up ι1 b 4 (nI (sk (ι0 (b + 1)) e s.2))), w) := by
          rw [g197_42]
          simp (decide := true) (maxDischargeDepth := 4) only [g197_43, g197_46, g197_49, g197_50, g197_53, g197_54, g197_57, g197_60, g197_61, g197_64, g197_65, g197_68, rz_k_inl, rz_k_inr, Option.toList_some, Option.toList_none, List.cons_append, List.nil_append, List.append_nil, rz_up_s, rz_u_s, rz_up_n, rz_u_n, ne_eq, not_false_eq_true, not_true_eq_false, Nat.add_assoc, Nat.reduceAdd, reduceIte, Nat.add_eq_left, Nat.left_eq_add, Nat.add_left_cancel_iff, Nat.reduceEqDiff, Nat.add_right_cancel_iff, rz_nb0, rz_nb1, rz_nbb, rz_nbi, rz_isr, rz_zle, if_true, if_false, rz_bi0, rz_bi1, Bool.not_eq_true, Bool.not_eq_false, Bool.true_eq_false, Bool.false_eq_true, rz_ix_lit, cl_lit, Nat.reduceLT, bi_t, bi_f, decide_true, decide_false, Bool.not_false, Bool.not_true, Bool.and_true, Bool.true_and, Bool.and_false, Bool.false_and, oMd_c, oMd_i0, oMd_i1, oMd_i2, oMd_i3, oMd_i4, oMd_i5, oMd_i6, oMd_i7, oMd_i8, oMd_f9, oMd_v9, oMd_f10, oMd_v10, oMd_f11, oMd_v11, oMd_f12, oMd_v12, oMd_f13, oMd_v13, oMd_f14, oMd_v14, oMd_i15, oMd_i16, oMd_f17, oMd_v17, oMd_f18, oMd_v18, oMd_f19, oMd_v19, oMd_f20, oMd_v20, oMd_f21, oMd_v21, oMd_f22, oMd_v22, oMd_f23, oMd_v23, oMd_i24, oMd_f25, oMd_v25, oMd_f26, oMd_v26, oMd_f27, oMd_v27, oMd_f28, oMd_v28, oMd_i29, oMd_i30, oMd_i31, oMd_i32, oMd_i33, oMd_i34, oMd_i35, oMd_f36, oMd_v36, oMd_f37, oMd_v37, oMd_f38, oMd_v38, oMd_i39, oMd_f40, oMd_v40, oMd_f41, oMd_v41, oMd_i42, oMd_f43, oMd_v43, oMd_i44, oMd_a1, oMd_n1, oMd_a2, oMd_n2, oMd_a3, oMd_n3, oMd_a4, oMd_n4, oMd_a363, oMd_n363, oMd_a364, oMd_n364, oMd_a446, oMd_n446, oMd_a447, oMd_n447, oMd_a469, oMd_n469, oMd_a470, oMd_n470, oMd_a471, oMd_n471, oMd_a472, oMd_n472, oMd_a473, oMd_n473, oMd_a5, oMd_n5, oMd_e5, oMd_ra5, oMd_rn5, oMd_a14, oMd_n14, oMd_e14, oMd_ra14, oMd_rn14, oMd_a23, oMd_n23, oMd_e23, oMd_ra23, oMd_rn23, oMd_a184, oMd_n184, oMd_e184, oMd_ra184, oMd_rn184, oMd_a345, oMd_n345, oMd_e345, oMd_ra345, oMd_rn345, oMd_a354, oMd_n354, oMd_e354, oMd_ra354, oMd_rn354, oMd_a365, oMd_n365, oMd_e365, oMd_ra365, oMd_rn365, oMd_a448, oMd_n448, oMd_e448, oMd_ra448, oMd_rn448, oMd_a465, oMd_n465, oMd_e465, oMd_ra465, oMd_rn465, hb, e5, e4, e2, cc, hs', C3, bl]
        rw [rB_l]
        revert I
        generalize dkS (ι0 (b + 1)) e k (cl + 1) s.1.1 s.1.2.1 s.1.2.2 s.2 = X
        intro I
        cases X with
        | inl s' => obtain ⟨ι', cl', p', y1, y2⟩ := I; exact ⟨ι', cl', p', step.trans y1, y2⟩
        | inr f => obtain ⟨y0, ι', y1, y2⟩ := I; exact ⟨y0, ι', step.trans y1, y2⟩
    · have hs' : (sk (ι0 (b + 1)) e p < e) = False := by simp [hs]
      rw [if_neg hs]
      refine ⟨ι, cl, _, ?_, i⟩
      rw [g197_42]
      simp (decide := true) (maxDischargeDepth := 4) only [g197_43, g197_46, g197_49, g197_50, g197_53, g197_54, g197_57, rz_k_inl, rz_k_inr, Option.toList_some, Option.toList_none, List.cons_append, List.nil_append, List.append_nil, rz_up_s, rz_u_s, rz_up_n, rz_u_n, ne_eq, not_false_eq_true, not_true_eq_false, Nat.add_assoc, Nat.reduceAdd, reduceIte, Nat.add_eq_left, Nat.left_eq_add, Nat.add_left_cancel_iff, Nat.reduceEqDiff, Nat.add_right_cancel_iff, rz_nb0, rz_nb1, rz_nbb, rz_nbi, rz_isr, rz_zle, if_true, if_false, rz_bi0, rz_bi1, Bool.not_eq_true, Bool.not_eq_false, Bool.true_eq_false, Bool.false_eq_true, rz_ix_lit, cl_lit, Nat.reduceLT, bi_t, bi_f, decide_true, decide_false, Bool.not_false, Bool.not_true, Bool.and_true, Bool.true_and, Bool.and_false, Bool.false_and, oMd_c, oMd_i0, oMd_i1, oMd_i2, oMd_i3, oMd_i4, oMd_i5, oMd_i6, oMd_i7, oMd_i8, oMd_f9, oMd_v9, oMd_f10, oMd_v10, oMd_f11, oMd_v11, oMd_f12, oMd_v12, oMd_f13, oMd_v13, oMd_f14, oMd_v14, oMd_i15, oMd_i16, oMd_f17, oMd_v17, oMd_f18, oMd_v18, oMd_f19, oMd_v19, oMd_f20, oMd_v20, oMd_f21, oMd_v21, oMd_f22, oMd_v22, oMd_f23, oMd_v23, oMd_i24, oMd_f25, oMd_v25, oMd_f26, oMd_v26, oMd_f27, oMd_v27, oMd_f28, oMd_v28, oMd_i29, oMd_i30, oMd_i31, oMd_i32, oMd_i33, oMd_i34, oMd_i35, oMd_f36, oMd_v36, oMd_f37, oMd_v37, oMd_f38, oMd_v38, oMd_i39, oMd_f40, oMd_v40, oMd_f41, oMd_v41, oMd_i42, oMd_f43, oMd_v43, oMd_i44, oMd_a1, oMd_n1, oMd_a2, oMd_n2, oMd_a3, oMd_n3, oMd_a4, oMd_n4, oMd_a363, oMd_n363, oMd_a364, oMd_n364, oMd_a446, oMd_n446, oMd_a447, oMd_n447, oMd_a469, oMd_n469, oMd_a470, oMd_n470, oMd_a471, oMd_n471, oMd_a472, oMd_n472, oMd_a473, oMd_n473, oMd_a5, oMd_n5, oMd_e5, oMd_ra5, oMd_rn5, oMd_a14, oMd_n14, oMd_e14, oMd_ra14, oMd_rn14, oMd_a23, oMd_n23, oMd_e23, oMd_ra23, oMd_rn23, oMd_a184, oMd_n184, oMd_e184, oMd_ra184, oMd_rn184, oMd_a345, oMd_n345, oMd_e345, oMd_ra345, oMd_rn345, oMd_a354, oMd_n354, oMd_e354, oMd_ra354, oMd_rn354, oMd_a365, oMd_n365, oMd_e365, oMd_ra365, oMd_rn365, oMd_a448, oMd_n448, oMd_e448, oMd_ra448, oMd_rn448, oMd_a465, oMd_n465, oMd_e465, oMd_ra465, oMd_rn465, hb, e5, e4, e2, cc, hs']
end DUK8
