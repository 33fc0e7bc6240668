/-! the BOOK: what both read; how the class reads it -/
def bkL (B : Nat → Int32) (e : Nat) (K : List (Nat × Nat)) (p : Nat) : (List (Nat × Nat) × Nat) ⊕ (Nat × Nat) := rB (nmN B e 7 p) (fun x => if bkF K x.1 = -1 then rB (nmN B e 99 x.2) (fun y => rB (smP B e 59 y.2) (fun q => .inl (K ++ [(x.1, y.1)], q))) else .inr (2, sk B e p))
def bkS (B : Nat → Int32) (e : Nat) : Nat → List (Nat × Nat) → Nat → List (Nat × Nat) ⊕ (Nat × Nat)
  | 0, K, _ => .inl K
  | k + 1, K, p => if sk B e p < e then rB (bkL B e K (sk B e p)) (fun s => bkS B e k s.1 s.2) else .inl K
theorem bkF_app {K : List (Nat × Nat)} {p f : Nat} (h : bkF K p = -1) (hf : ∀ q ∈ K, q.2 ≤ 99) : bkF (K ++ [(p, f)]) = rz_u (bkF K) p (nI f) := by
  induction K with
  | nil =>
    funext q
    show (if p = q then nI f else -1) = rz_u (fun _ => -1) p (nI f) q
    unfold rz_u
    by_cases e : q = p
    · rw [if_pos e, if_pos e.symm]
    · rw [if_neg e, if_neg (Ne.symm e)]
  | cons x K ih =>
    have hx : ¬ x.1 = p := by
      intro z
      unfold bkF at h
      rw [if_pos z, nI_m1 (by have := hf x List.mem_cons_self; omega)] at h
      exact h
    unfold bkF at h
    rw [if_neg hx] at h
    have I := ih h (fun q hq => hf q (List.mem_cons_of_mem _ hq))
    funext q
    show (if x.1 = q then nI x.2 else bkF (K ++ [(p, f)]) q) = rz_u (bkF (x :: K)) p (nI f) q
    rw [I]
    unfold rz_u
    by_cases e : q = p
    · rw [if_pos e, if_pos e, if_neg (by rw [e]; exact hx)]
    · rw [if_neg e, if_neg e]; rfl
def bnOk (K : List (Nat × Nat)) (bn : Nat) : Prop := bn < 256 ∧ popN bn = K.length ∧ ∀ a, a < 8 → bn.testBit a = !decide (bkF K a = -1)
theorem bnOk_nil : bnOk [] 0 := ⟨by decide, by decide, fun a ha => by rw [Nat.zero_testBit]; rfl⟩
theorem bnOk.step {K : List (Nat × Nat)} {bn p f : Nat} (h : bnOk K bn) (hf : ∀ q ∈ K, q.2 ≤ 99) (hp : p < 8) (hf9 : f ≤ 99) (hn : bkF K p = -1) : bnOk (K ++ [(p, f)]) (stN bn p) := by
  obtain ⟨h1, h2, h3⟩ := h
  have hb : bn.testBit p = false := by rw [h3 p hp, hn]; rfl
  refine ⟨stN_256 bn h1 p hp, by rw [pop_st bn h1 p hp hb, h2, List.length_append]; rfl, fun a ha => ?_⟩
  rw [stN_bit bn h1 p hp a ha, bkF_app hn hf, h3 a ha]
  unfold rz_u
  by_cases e : a = p
  · have m1 := nI_m1 (show f < 2147483648 by omega)
    rw [if_pos e]; simp [e, m1]
  · rw [if_neg e]; simp [e]
def bkW (K : List (Nat × Nat)) : Prop := okK K ∧ ∃ bn, bnOk K bn
theorem bkW_nil : bkW [] := ⟨⟨fun q h => (by cases h), by decide, List.nodup_nil⟩, 0, bnOk_nil⟩
theorem bkW.step {K : List (Nat × Nat)} {p f : Nat} (h : bkW K) (hp : p < 8) (hf9 : f ≤ 99) (hn : bkF K p = -1) : bkW (K ++ [(p, f)]) := by
  obtain ⟨⟨o1, o2, o3⟩, bn, b⟩ := h
  have b' := b.step (fun q hq => (o1 q hq).2) hp hf9 hn
  refine ⟨⟨fun q hq => ?_, by rw [← b'.2.1]; exact pop_8 _ b'.1, ?_⟩, _, b'⟩
  · rcases List.mem_append.mp hq with z | z
    · exact o1 q z
    · rw [List.mem_singleton] at z; subst z; exact ⟨hp, hf9⟩
  · rw [List.map_append, List.nodup_append]
    refine ⟨o3, by simp, fun a ha b hb => ?_⟩
    obtain ⟨q, q1, q2⟩ := List.mem_map.mp ha
    have hb : b = p := by simpa using hb
    intro e
    exact (bkF_none ⟨o1, o2, o3⟩ p).mp hn q q1 (by rw [← hb, ← e]; exact q2)
theorem bkL_W {B : Nat → Int32} {e p : Nat} {K : List (Nat × Nat)} {s : List (Nat × Nat) × Nat} (hp : p ≤ e) (hW : bkW K) (h : bkL B e K p = .inl s) : bkW s.1 ∧ p < s.2 ∧ s.2 ≤ e := by
  have hs := sk_ge B e p
  unfold bkL at h
  cases n1 : nmN B e 7 p with
  | inr f => rw [n1] at h; cases h
  | inl x =>
    rw [n1, rB_l] at h
    obtain ⟨x1, x2, x3⟩ := nmN_le (k := 7) hp (by decide) n1
    split at h
    · rename_i hn
      cases n2 : nmN B e 99 x.2 with
      | inr f => rw [n2] at h; cases h
      | inl y =>
        rw [n2, rB_l] at h
        obtain ⟨y1, y2, y3⟩ := nmN_le (k := 99) x3 (by decide) n2
        have g2 := sk_ge B e x.2
        cases n3 : smP B e 59 y.2 with
        | inr f => rw [n3] at h; cases h
        | inl q =>
          rw [n3, rB_l] at h
          obtain ⟨s1, s2, s3⟩ := smP_ok y3 (by decide) n3
          have g3 := sk_ge B e y.2
          cases h
          exact ⟨hW.step (by omega) y1 hn, by show p < q; omega, s3⟩
    · cases h
theorem bkS_W {B : Nat → Int32} {e : Nat} : ∀ (k : Nat) (K : List (Nat × Nat)) (p : Nat) (s : List (Nat × Nat)), p ≤ e → bkW K → bkS B e k K p = .inl s → bkW s
  | 0, _, _, _, _, hW, h => by rw [bkS] at h; cases h; exact hW
  | k + 1, K, p, s, hp, hW, h => by
    rw [bkS] at h
    split at h
    · cases x0 : bkL B e K (sk B e p) with
      | inr f => rw [x0] at h; cases h
      | inl t =>
        rw [x0, rB_l] at h
        obtain ⟨a1, a2, a3⟩ := bkL_W (sk_le hp) hW x0
        exact bkS_W k _ _ s a3 a1 h
    · cases h; exact hW
section BOOK1
variable {Z : rx_Z} {d : Nat} {h : Nat → Option rx_E} {ι ι0 : Nat → Nat → Int32} {w : Nat × Nat} {t a : Nat}
theorem tp_num_ok3 (ht : oTp h t) (hz : Z.2.1 ≤ t) {e p : Nat} (he : ι t 1 = nI e) (hp : ι t 2 = nI p) (hpe : p ≤ e) (he6 : e ≤ 600) {m v : Int32} {q : Nat} (hn : nmP (ι (t + 1)) e m p = .inl (v, q)) : ∃ ι', rz_f Z (d + 3) 99 [.ref t, .int m] (rz_mk h ι, w) = some (.inl (some (.int v)), (rz_mk h ι', w)) ∧ tpOk t ι ι' q ∧ ι' t 3 = nI (sk (ι (t + 1)) e p) := by
  have hsk := sk_le (B := ι (t + 1)) hpe
  unfold nmP at hn
  split at hn
  · rename_i hD
    split at hn
    · cases hn
    · rename_i hm
      rw [e99]
      simp only [g99_0, g99_1, g99_4, g99_7, g99_8, g99_9, g99_10, g99_13, g99_16, g99_17, g99_18, g99_19, g99_20, g99_21, g99_24, g99_27, g99_28, rz_k_inl, rz_k_inr, Option.toList_some, Option.toList_none, List.cons_append, List.nil_append, List.append_nil, rz_up_s, rz_u_s, rz_up_n, rz_u_n, ne_eq, not_false_eq_true, not_true_eq_false, Nat.add_assoc, Nat.reduceAdd, reduceIte, Nat.add_eq_left, Nat.left_eq_add, Nat.add_left_cancel_iff, Nat.reduceEqDiff, Nat.add_right_cancel_iff, rz_nb0, rz_nb1, rz_nbb, rz_nbi, rz_isr, rz_zle, if_true, if_false, rz_bi0, rz_bi1, Bool.not_eq_true, Bool.not_eq_false, Bool.true_eq_false, Bool.false_eq_true, rz_ix_lit, cl_lit, Nat.reduceLT, oTp_c, oTp_f0, oTp_v0, oTp_i1, oTp_i2, oTp_i3, oTp_i4, oTp_i5, oTp_i6, oTp_a1, oTp_n1, ht, hz, tp_nextIsNumber ht hz he hp hpe he6, hD]
      rw [tp_num0 ht hz he6 m (e - sk (ι (t + 1)) e p) (sk (ι (t + 1)) e p) 0 _ hsk rfl (by simp only [rz_k_inl, rz_k_inr, Option.toList_some, Option.toList_none, List.cons_append, List.nil_append, List.append_nil, rz_up_s, rz_u_s, rz_up_n, rz_u_n, ne_eq, not_false_eq_true, not_true_eq_false, Nat.add_assoc, Nat.reduceAdd, reduceIte, Nat.add_eq_left, Nat.left_eq_add, Nat.add_left_cancel_iff, Nat.reduceEqDiff, Nat.add_right_cancel_iff, rz_nb0, rz_nb1, rz_nbb, rz_nbi, rz_isr, rz_zle, if_true, if_false, rz_bi0, rz_bi1, Bool.not_eq_true, Bool.not_eq_false, Bool.true_eq_false, Bool.false_eq_true, rz_ix_lit, cl_lit, Nat.reduceLT, he]) (by simp only [rz_k_inl, rz_k_inr, Option.toList_some, Option.toList_none, List.cons_append, List.nil_append, List.append_nil, rz_up_s, rz_u_s, rz_up_n, rz_u_n, ne_eq, not_false_eq_true, not_true_eq_false, Nat.add_assoc, Nat.reduceAdd, reduceIte, Nat.add_eq_left, Nat.left_eq_add, Nat.add_left_cancel_iff, Nat.reduceEqDiff, Nat.add_right_cancel_iff, rz_nb0, rz_nb1, rz_nbb, rz_nbi, rz_isr, rz_zle, if_true, if_false, rz_bi0, rz_bi1, Bool.not_eq_true, Bool.not_eq_false, Bool.true_eq_false, Bool.false_eq_true, rz_ix_lit, cl_lit, Nat.reduceLT])]
      simp only [g99_97, g99_98, g99_99, g99_102, g99_103, g99_104, g99_107, g99_108, g99_109, g99_110, g99_111, rz_k_inl, rz_k_inr, Option.toList_some, Option.toList_none, List.cons_append, List.nil_append, List.append_nil, rz_up_s, rz_u_s, rz_up_n, rz_u_n, ne_eq, not_false_eq_true, not_true_eq_false, Nat.add_assoc, Nat.reduceAdd, reduceIte, Nat.add_eq_left, Nat.left_eq_add, Nat.add_left_cancel_iff, Nat.reduceEqDiff, Nat.add_right_cancel_iff, rz_nb0, rz_nb1, rz_nbb, rz_nbi, rz_isr, rz_zle, if_true, if_false, rz_bi0, rz_bi1, Bool.not_eq_true, Bool.not_eq_false, Bool.true_eq_false, Bool.false_eq_true, rz_ix_lit, cl_lit, Nat.reduceLT, oTp_c, oTp_f0, oTp_v0, oTp_i1, oTp_i2, oTp_i3, oTp_i4, oTp_i5, oTp_i6, oTp_a1, oTp_n1, ht, hz, tp_blameT ht hz, rz_up_up, hm]
      simp only [Sum.inl.injEq, Prod.mk.injEq] at hn
      rw [hn.1, hn.2]
      refine ⟨_, rfl, ⟨⟨fun a ha => ?_, ?_, ?_⟩, ?_, ?_, ?_⟩, ?_⟩ <;> simp [rz_up, rz_u, *]
  · cases hn
def bkO (Z : rx_Z) (h : Nat → Option rx_E) (t a : Nat) : Prop := oBk h a ∧ oTp h t ∧ Z.2.1 ≤ t ∧ t + 2 ≤ a
def bkI (t a : Nat) (ι0 ι : Nat → Nat → Int32) (K : List (Nat × Nat)) (p : Nat) : Prop := txF t (fun x => x = a + 2) ι0 ι ∧ ι t 4 = ι0 t 4 ∧ ι t 6 = ι0 t 6 ∧ ι t 2 = nI p ∧ ∀ q, q < 8 → ι (a + 2) q = bkF K q
def bkN (t a : Nat) (ι0 ι : Nat → Nat → Int32) (f : Nat × Nat) : Prop := txF t (fun x => x = a + 2) ι0 ι ∧ ι t 4 = nI f.1 ∧ ι t 6 = nI f.2
theorem bkI.tp {p q : Nat} {K : List (Nat × Nat)} {ι' : Nat → Nat → Int32} (o : bkO Z h t a) (i : bkI t a ι0 ι K p) (k : tpOk t ι ι' q) : bkI t a ι0 ι' K q := by
  obtain ⟨i1, i2, i3, i4, i5⟩ := i
  obtain ⟨-, -, -, o5⟩ := o
  have ea := k.1.1 (a + 2) (by omega)
  exact ⟨i1.trans (txF.tp k.1), k.2.1.trans i2, k.2.2.1.trans i3, k.2.2.2, fun q hq => by rw [ea]; exact i5 q hq⟩
theorem bkI.no {p : Nat} {K : List (Nat × Nat)} {f : Nat × Nat} {ι' : Nat → Nat → Int32} (i : bkI t a ι0 ι K p) (k : tpNo t ι ι' f) : bkN t a ι0 ι' f := ⟨i.1.trans (txF.tp k.1), k.2.1, k.2.2⟩
theorem bkI.by {p : Nat} {K : List (Nat × Nat)} (o : bkO Z h t a) (i : bkI t a ι0 ι K p) : ι (t + 1) = ι0 (t + 1) := i.1.1 _ (by omega) (by obtain ⟨-, -, -, o5⟩ := o; omega)
theorem bk_line {e p : Nat} {K : List (Nat × Nat)} (o : bkO Z h t a) (he : ι0 t 1 = nI e) (he6 : e ≤ 600) (hpe : p ≤ e) (hW : bkW K) (i : bkI t a ι0 ι K p) : match bkL (ι0 (t + 1)) e K p with
    | .inl s => s.2 ≤ e ∧ ∃ ι', rz_f Z (d + 4) 5 [.ref a, .ref t] (rz_mk h ι, w) = some (.inl (some (.int 1)), (rz_mk h ι', w)) ∧ bkI t a ι0 ι' s.1 s.2
    | .inr f => ∃ ι', rz_f Z (d + 4) 5 [.ref a, .ref t] (rz_mk h ι, w) = some (.inl (some (.int 0)), (rz_mk h ι', w)) ∧ bkN t a ι0 ι' f := by
  have oo := o
  obtain ⟨o1, o2, o4, o5⟩ := o
  have hza : Z.2.1 ≤ a := by omega
  have e1 : ι t 1 = nI e := i.1.2.1.trans he
  have eB := i.by oo
  have e8 : Int32.ofNat 8 = nI 8 := rfl
  unfold bkL
  cases n1 : nmN (ι0 (t + 1)) e 7 p with
  | inr f =>
    obtain ⟨ι1, g1, g2⟩ := tp_num_no (Z := Z) (d := d) (w := w) o2 o4 e1 i.2.2.2.1 hpe he6 (by rw [eB]; exact nmN_no n1)
    refine ⟨ι1, ?_, i.no g2⟩
    rw [e5]
    simp (decide := true) (maxDischargeDepth := 4) only [g5_0, g5_1, g5_3, g5_6, g5_7, g5_8, g5_9, g5_12, g5_13, g5_14, g5_17, g5_18, g5_21, g5_22, g5_23, g5_24, g5_27, g5_28, g5_29, g5_30, g5_33, g5_34, g5_35, g5_38, g5_39, g5_40, g5_43, g5_44, g5_45, g5_47, g5_50, g5_51, g5_52, g5_55, g5_56, g5_57, g5_58, g5_61, g5_62, g5_64, g5_67, g5_70, g5_71, g5_74, g5_75, rz_k_inl, rz_k_inr, Option.toList_some, Option.toList_none, List.cons_append, List.nil_append, List.append_nil, rz_up_s, rz_u_s, rz_up_n, rz_u_n, ne_eq, not_false_eq_true, not_true_eq_false, Nat.add_assoc, Nat.reduceAdd, reduceIte, Nat.add_eq_left, Nat.left_eq_add, Nat.add_left_cancel_iff, Nat.reduceEqDiff, Nat.add_right_cancel_iff, rz_nb0, rz_nb1, rz_nbb, rz_nbi, rz_isr, rz_zle, if_true, if_false, rz_bi0, rz_bi1, Bool.not_eq_true, Bool.not_eq_false, Bool.true_eq_false, Bool.false_eq_true, rz_ix_lit, cl_lit, Nat.reduceLT, bi_t, bi_f, decide_true, decide_false, Bool.not_false, Bool.not_true, Bool.and_true, Bool.true_and, Bool.and_false, Bool.false_and, oBk_c, oBk_f0, oBk_v0, oBk_f1, oBk_v1, oBk_i2, oBk_a1, oBk_n1, oBk_a2, oBk_n2, oTp_c, oTp_f0, oTp_v0, oTp_i1, oTp_i2, oTp_i3, oTp_i4, oTp_i5, oTp_i6, oTp_a1, oTp_n1, o1, o2, g1]
  | inl x =>
    obtain ⟨x, p1⟩ := x
    obtain ⟨a1, a2, a3, a4, a5⟩ := nmN_ok hpe n1
    obtain ⟨x7, -, -⟩ := nmN_le (k := 7) hpe (by decide) n1
    obtain ⟨ι1, g1, g2, g3⟩ := tp_num_ok3 (Z := Z) (d := d) (w := w) o2 o4 e1 i.2.2.2.1 hpe he6 (by rw [eB]; exact a1)
    rw [eB] at g3
    have i1 := i.tp oo g2
    have e11 : ι1 t 1 = nI e := i1.1.2.1.trans he
    have eB1 := i1.by oo
    have x1 := nI_m1 (show x < 2147483648 by omega)
    have xl : (nI x < nI 8) = True := by rw [nI_lt2 (by omega) (by omega)]; simp; omega
    have ix : rz_ix (nI x) 8 := rz_ix_nat (by omega) (by omega)
    have dv := i1.2.2.2.2 x (by omega)
    rw [rB_l]
    dsimp only
    by_cases hn : bkF K x = -1
    · rw [if_pos hn]
      rw [hn] at dv
      cases n2 : nmN (ι0 (t + 1)) e 99 p1 with
      | inr f =>
        obtain ⟨ι2, k1, k2⟩ := tp_num_no (Z := Z) (d := d) (w := w) o2 o4 e11 i1.2.2.2.1 a5 he6 (by rw [eB1]; exact nmN_no n2)
        have hN := i1.no k2
        refine ⟨rz_up ι2 (a + 2) x (-1), ?_, hN.1.up rfl (by omega), by rw [rz_up_n (by omega)]; exact hN.2.1, by rw [rz_up_n (by omega)]; exact hN.2.2⟩
        rw [e5]
        simp (decide := true) (maxDischargeDepth := 4) only [g5_0, g5_1, g5_3, g5_6, g5_7, g5_8, g5_9, g5_12, g5_13, g5_14, g5_17, g5_18, g5_21, g5_22, g5_23, g5_24, g5_27, g5_28, g5_29, g5_30, g5_33, g5_34, g5_35, g5_38, g5_39, g5_40, g5_43, g5_44, g5_45, g5_47, g5_50, g5_51, g5_52, g5_55, g5_56, g5_57, g5_58, g5_61, g5_62, g5_64, g5_67, g5_70, g5_71, g5_74, g5_75, rz_k_inl, rz_k_inr, Option.toList_some, Option.toList_none, List.cons_append, List.nil_append, List.append_nil, rz_up_s, rz_u_s, rz_up_n, rz_u_n, ne_eq, not_false_eq_true, not_true_eq_false, Nat.add_assoc, Nat.reduceAdd, reduceIte, Nat.add_eq_left, Nat.left_eq_add, Nat.add_left_cancel_iff, Nat.reduceEqDiff, Nat.add_right_cancel_iff, rz_nb0, rz_nb1, rz_nbb, rz_nbi, rz_isr, rz_zle, if_true, if_false, rz_bi0, rz_bi1, Bool.not_eq_true, Bool.not_eq_false, Bool.true_eq_false, Bool.false_eq_true, rz_ix_lit, cl_lit, Nat.reduceLT, bi_t, bi_f, decide_true, decide_false, Bool.not_false, Bool.not_true, Bool.and_true, Bool.true_and, Bool.and_false, Bool.false_and, oBk_c, oBk_f0, oBk_v0, oBk_f1, oBk_v1, oBk_i2, oBk_a1, oBk_n1, oBk_a2, oBk_n2, oTp_c, oTp_f0, oTp_v0, oTp_i1, oTp_i2, oTp_i3, oTp_i4, oTp_i5, oTp_i6, oTp_a1, oTp_n1, o1, o2, hza, g1, x1, e8, xl, ix, nI_cl (show x < 2147483648 by omega), dv, k1]
      | inl y =>
        obtain ⟨y, p2⟩ := y
        obtain ⟨b1, b2, b3, b4, b5⟩ := nmN_ok a5 n2
        obtain ⟨y9, -, -⟩ := nmN_le (k := 99) a5 (by decide) n2
        obtain ⟨ι2, k1, k2⟩ := tp_num_ok (Z := Z) (d := d) (w := w) o2 o4 e11 i1.2.2.2.1 a5 he6 (by rw [eB1]; exact b1)
        have y1 := nI_m1 (show y < 2147483648 by omega)
        have i2 : bkI t a ι0 (rz_up ι2 (a + 2) x (nI y)) (K ++ [(x, y)]) p2 := by
          obtain ⟨j1, j2, j3, j4, j5⟩ := i1.tp oo k2
          refine ⟨j1.up rfl (by omega), by rw [rz_up_n (by omega)]; exact j2, by rw [rz_up_n (by omega)]; exact j3, by rw [rz_up_n (by omega)]; exact j4, fun q hq => ?_⟩
          rw [rz_up_s, bkF_app hn (fun q hq => (hW.1.1 q hq).2)]
          unfold rz_u
          rw [j5 q hq]
        have e12 := i2.1.2.1.trans he
        have eB2 := i2.by oo
        rw [rB_l]
        dsimp only
        cases n3 : smP (ι0 (t + 1)) e 59 p2 with
        | inr f =>
          obtain ⟨ι3, l1, l2⟩ := tq_needs_no (Z := Z) (d := d + 1) (w := w) o2 o4 e12 i2.2.2.2.1 b5 he6 (c := 59) (by rw [eB2]; exact n3)
          refine ⟨ι3, ?_, i2.no l2⟩
          rw [e5]
          simp (decide := true) (maxDischargeDepth := 4) only [g5_0, g5_1, g5_3, g5_6, g5_7, g5_8, g5_9, g5_12, g5_13, g5_14, g5_17, g5_18, g5_21, g5_22, g5_23, g5_24, g5_27, g5_28, g5_29, g5_30, g5_33, g5_34, g5_35, g5_38, g5_39, g5_40, g5_43, g5_44, g5_45, g5_47, g5_50, g5_51, g5_52, g5_55, g5_56, g5_57, g5_58, g5_61, g5_62, g5_64, g5_67, g5_70, g5_71, g5_74, g5_75, rz_k_inl, rz_k_inr, Option.toList_some, Option.toList_none, List.cons_append, List.nil_append, List.append_nil, rz_up_s, rz_u_s, rz_up_n, rz_u_n, ne_eq, not_false_eq_true, not_true_eq_false, Nat.add_assoc, Nat.reduceAdd, reduceIte, Nat.add_eq_left, Nat.left_eq_add, Nat.add_left_cancel_iff, Nat.reduceEqDiff, Nat.add_right_cancel_iff, rz_nb0, rz_nb1, rz_nbb, rz_nbi, rz_isr, rz_zle, if_true, if_false, rz_bi0, rz_bi1, Bool.not_eq_true, Bool.not_eq_false, Bool.true_eq_false, Bool.false_eq_true, rz_ix_lit, cl_lit, Nat.reduceLT, bi_t, bi_f, decide_true, decide_false, Bool.not_false, Bool.not_true, Bool.and_true, Bool.true_and, Bool.and_false, Bool.false_and, oBk_c, oBk_f0, oBk_v0, oBk_f1, oBk_v1, oBk_i2, oBk_a1, oBk_n1, oBk_a2, oBk_n2, oTp_c, oTp_f0, oTp_v0, oTp_i1, oTp_i2, oTp_i3, oTp_i4, oTp_i5, oTp_i6, oTp_a1, oTp_n1, o1, o2, hza, g1, x1, e8, xl, ix, nI_cl (show x < 2147483648 by omega), dv, k1, y1, l1]
        | inl q =>
          obtain ⟨s1, s2, s3⟩ := smP_ok b5 (by decide) n3
          obtain ⟨ι3, l1, l2⟩ := tq_needs_ok (Z := Z) (d := d + 1) (w := w) o2 o4 e12 i2.2.2.2.1 b5 he6 (c := 59) (by decide) (by rw [eB2]; exact n3)
          refine ⟨s3, ι3, ?_, i2.tp oo l2⟩
          rw [e5]
          simp (decide := true) (maxDischargeDepth := 4) only [g5_0, g5_1, g5_3, g5_6, g5_7, g5_8, g5_9, g5_12, g5_13, g5_14, g5_17, g5_18, g5_21, g5_22, g5_23, g5_24, g5_27, g5_28, g5_29, g5_30, g5_33, g5_34, g5_35, g5_38, g5_39, g5_40, g5_43, g5_44, g5_45, g5_47, g5_50, g5_51, g5_52, g5_55, g5_56, g5_57, g5_58, g5_61, g5_62, g5_64, g5_67, g5_70, g5_71, g5_74, g5_75, rz_k_inl, rz_k_inr, Option.toList_some, Option.toList_none, List.cons_append, List.nil_append, List.append_nil, rz_up_s, rz_u_s, rz_up_n, rz_u_n, ne_eq, not_false_eq_true, not_true_eq_false, Nat.add_assoc, Nat.reduceAdd, reduceIte, Nat.add_eq_left, Nat.left_eq_add, Nat.add_left_cancel_iff, Nat.reduceEqDiff, Nat.add_right_cancel_iff, rz_nb0, rz_nb1, rz_nbb, rz_nbi, rz_isr, rz_zle, if_true, if_false, rz_bi0, rz_bi1, Bool.not_eq_true, Bool.not_eq_false, Bool.true_eq_false, Bool.false_eq_true, rz_ix_lit, cl_lit, Nat.reduceLT, bi_t, bi_f, decide_true, decide_false, Bool.not_false, Bool.not_true, Bool.and_true, Bool.true_and, Bool.and_false, Bool.false_and, oBk_c, oBk_f0, oBk_v0, oBk_f1, oBk_v1, oBk_i2, oBk_a1, oBk_n1, oBk_a2, oBk_n2, oTp_c, oTp_f0, oTp_v0, oTp_i1, oTp_i2, oTp_i3, oTp_i4, oTp_i5, oTp_i6, oTp_a1, oTp_n1, o1, o2, hza, g1, x1, e8, xl, ix, nI_cl (show x < 2147483648 by omega), dv, k1, y1, l1]
    · rw [if_neg hn]
      obtain ⟨ι2, k1, k2⟩ := tq_blameT (Z := Z) (d := d + 2) (w := w) (f := 2) o2 o4 g3
      rw [show nI 2 = 2 from rfl] at k1
      refine ⟨ι2, ?_, i1.no k2⟩
      rw [e5]
      simp (decide := true) (maxDischargeDepth := 4) only [g5_0, g5_1, g5_3, g5_6, g5_7, g5_8, g5_9, g5_12, g5_13, g5_14, g5_17, g5_18, g5_21, g5_22, g5_23, g5_24, g5_27, g5_28, g5_29, g5_30, g5_33, g5_34, g5_35, g5_38, g5_39, g5_40, g5_43, g5_44, g5_45, g5_47, g5_50, g5_51, g5_52, g5_55, g5_56, g5_57, g5_58, g5_61, g5_62, g5_64, g5_67, g5_70, g5_71, g5_74, g5_75, rz_k_inl, rz_k_inr, Option.toList_some, Option.toList_none, List.cons_append, List.nil_append, List.append_nil, rz_up_s, rz_u_s, rz_up_n, rz_u_n, ne_eq, not_false_eq_true, not_true_eq_false, Nat.add_assoc, Nat.reduceAdd, reduceIte, Nat.add_eq_left, Nat.left_eq_add, Nat.add_left_cancel_iff, Nat.reduceEqDiff, Nat.add_right_cancel_iff, rz_nb0, rz_nb1, rz_nbb, rz_nbi, rz_isr, rz_zle, if_true, if_false, rz_bi0, rz_bi1, Bool.not_eq_true, Bool.not_eq_false, Bool.true_eq_false, Bool.false_eq_true, rz_ix_lit, cl_lit, Nat.reduceLT, bi_t, bi_f, decide_true, decide_false, Bool.not_false, Bool.not_true, Bool.and_true, Bool.true_and, Bool.and_false, Bool.false_and, oBk_c, oBk_f0, oBk_v0, oBk_f1, oBk_v1, oBk_i2, oBk_a1, oBk_n1, oBk_a2, oBk_n2, oTp_c, oTp_f0, oTp_v0, oTp_i1, oTp_i2, oTp_i3, oTp_i4, oTp_i5, oTp_i6, oTp_a1, oTp_n1, o1, o2, g1, x1, e8, xl, ix, nI_cl (show x < 2147483648 by omega), dv, hn, k1]
end BOOK1
