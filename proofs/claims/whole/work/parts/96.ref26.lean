/-! the BOOK: its lines; the reference: like -/
def okK (K : List (Nat × Nat)) : Prop := (∀ q ∈ K, q.1 < 8 ∧ q.2 ≤ 99) ∧ K.length ≤ 8 ∧ (K.map (fun q => q.1)).Nodup
/-- the lines, by persons -/
def bkF : List (Nat × Nat) → Nat → Int32
  | [], _ => -1
  | q :: K, p => if q.1 = p then nI q.2 else bkF K p
theorem bkF_mem : ∀ {K : List (Nat × Nat)}, (K.map (fun q => q.1)).Nodup → ∀ q ∈ K, bkF K q.1 = nI q.2
  | [], _, q, h => by cases h
  | x :: K, hn, q, h => by
    rw [List.map_cons, List.nodup_cons] at hn
    unfold bkF
    rcases List.mem_cons.mp h with e | e
    · rw [e, if_pos rfl]
    · rw [if_neg (fun z => hn.1 (by rw [z]; exact List.mem_map_of_mem e))]
      exact bkF_mem hn.2 q e
theorem bkF_cases : ∀ (K : List (Nat × Nat)) (p : Nat), (bkF K p = -1 ∧ ∀ q ∈ K, q.1 ≠ p) ∨ ∃ q ∈ K, q.1 = p ∧ bkF K p = nI q.2
  | [], p => Or.inl ⟨rfl, fun q h => (by cases h)⟩
  | x :: K, p => by
    unfold bkF
    by_cases e : x.1 = p
    · right; exact ⟨x, List.mem_cons_self, e, if_pos e⟩
    · rw [if_neg e]
      rcases bkF_cases K p with ⟨h1, h2⟩ | ⟨q, h1, h2, h3⟩
      · left
        refine ⟨h1, fun q hq => ?_⟩
        rcases List.mem_cons.mp hq with z | z
        · rw [z]; exact e
        · exact h2 q z
      · right; exact ⟨q, List.mem_cons_of_mem _ h1, h2, h3⟩
theorem bkF_none {K : List (Nat × Nat)} (ho : okK K) (p : Nat) : bkF K p = -1 ↔ ∀ q ∈ K, q.1 ≠ p := by
  rcases bkF_cases K p with ⟨h1, h2⟩ | ⟨q, h1, h2, h3⟩
  · exact ⟨fun _ => h2, fun _ => h1⟩
  · constructor
    · intro z
      rw [h3, nI_m1 (by have := (ho.1 q h1).2; omega)] at z
      exact z.elim
    · intro z; exact absurd h2 (z q h1)
theorem lkB_iff (C : List (Nat × Nat)) (R : Nat → Int32) (m : Nat) (bk : Nat → Int32) (k : Nat) : ∀ n, lkB C R m bk k n = true ↔ ∀ p, p < n → bk p = -1 ∨ sfP C R m p (bk p) k = true
  | 0 => ⟨fun _ p hp => by omega, fun _ => rfl⟩
  | n + 1 => by
    unfold lkB
    rw [Bool.and_eq_true, lkB_iff C R m bk k n, Bool.or_eq_true, decide_eq_true_eq]
    constructor
    · rintro ⟨h1, h2⟩ p hp
      by_cases e : p = n
      · subst e; exact h2
      · exact h1 p (by omega)
    · intro h1
      exact ⟨fun p hp => h1 p (by omega), h1 n (by omega)⟩
/-- by the lines, as they stand -/
def lkK (C : List (Nat × Nat)) (R : Nat → Int32) (m : Nat) (k : Nat) : List (Nat × Nat) → Bool
  | [] => true
  | q :: K => sfP C R m q.1 (nI q.2) k && lkK C R m k K
theorem lkK_iff (C : List (Nat × Nat)) (R : Nat → Int32) (m : Nat) (k : Nat) : ∀ K, lkK C R m k K = true ↔ ∀ q ∈ K, sfP C R m q.1 (nI q.2) k = true
  | [] => ⟨fun _ q hq => (by cases hq), fun _ => rfl⟩
  | x :: K => by
    unfold lkK
    rw [Bool.and_eq_true, lkK_iff C R m k K]
    constructor
    · rintro ⟨h1, h2⟩ q hq
      rcases List.mem_cons.mp hq with e | e
      · rw [e]; exact h1
      · exact h2 q e
    · intro h1
      exact ⟨h1 x List.mem_cons_self, fun q hq => h1 q (List.mem_cons_of_mem _ hq)⟩
theorem lkB_K {C : List (Nat × Nat)} {R : Nat → Int32} {m : Nat} {bk : Nat → Int32} {K : List (Nat × Nat)} (ho : okK K) (hb : ∀ p, p < 8 → bk p = bkF K p) (k : Nat) : lkB C R m bk k 8 = lkK C R m k K := by
  apply Bool.eq_iff_iff.mpr
  rw [lkB_iff, lkK_iff]
  constructor
  · intro h1 q hq
    have q8 := (ho.1 q hq).1
    have e := bkF_mem ho.2.2 q hq
    have := h1 q.1 q8
    rw [hb _ q8, e] at this
    rcases this with z | z
    · rw [nI_m1 (by have := (ho.1 q hq).2; omega)] at z; exact z.elim
    · exact z
  · intro h1 p hp
    rw [hb p hp]
    rcases bkF_cases K p with ⟨h2, -⟩ | ⟨q, h2, h3, h4⟩
    · exact Or.inl h2
    · right; rw [h4, ← h3]; exact h1 q h2
/-- what is like, up to a number -/
def likK (C : List (Nat × Nat)) (R : Nat → Int32) (m : Nat) (K : List (Nat × Nat)) (n : Nat) : List Nat := (List.range n).filter (fun k => lkK C R m k K)
theorem likK_S (C : List (Nat × Nat)) (R : Nat → Int32) (m : Nat) (K : List (Nat × Nat)) (n : Nat) : likK C R m K (n + 1) = if lkK C R m n K = true then likK C R m K n ++ [n] else likK C R m K n := by
  unfold likK
  rw [List.range_succ, List.filter_append]
  by_cases e : lkK C R m n K = true
  · simp [e]
  · simp [e]
theorem likK_le (C : List (Nat × Nat)) (R : Nat → Int32) (m : Nat) (K : List (Nat × Nat)) (n : Nat) : (likK C R m K n).length ≤ n := by
  have := List.length_filter_le (fun k => lkK C R m k K) (List.range n)
  rw [List.length_range] at this
  exact this
theorem likL_K {C : List (Nat × Nat)} {R : Nat → Int32} {m : Nat} {bk : Nat → Int32} {K : List (Nat × Nat)} (ho : okK K) (hb : ∀ p, p < 8 → bk p = bkF K p) : likL C R m bk 8 = likK C R m K 1000 := by
  unfold likL likK
  congr 1
  funext k
  exact lkB_K ho hb k
/-- the lines in the reference -/
def mkIs (ι : Nat → Nat → Int32) (b : Nat) (K : List (Nat × Nat)) : Prop := ι b 29 = nI K.length ∧ (∀ j, j < K.length → ι (b + (346 + j)) 0 = nI (K.getD j (0, 0)).1 ∧ ι (b + (346 + j)) 1 = nI (K.getD j (0, 0)).2) ∧ okK K
theorem mkIs.fr {b : Nat} {ι ι' : Nat → Nat → Int32} {K : List (Nat × Nat)} (k : mkIs ι b K) (hf : frM b ι ι') : mkIs ι' b K := by
  refine ⟨by rw [hf.2.1 29 (by unfold scF; omega)]; exact k.1, fun j hj => ?_, k.2.2⟩
  have := k.2.2.2.1
  rw [hf.1 _ (by omega) (by unfold scM mdS; omega)]
  exact k.2.1 j hj
section REF26
variable {Z : rx_Z} {d : Nat} {h : Nat → Option rx_E} {ι : Nat → Nat → Int32} {w : Nat × Nat} {b m lv : Nat} {C K : List (Nat × Nat)} {R : Nat → Int32} {dk : Option Nat}
theorem farX_fk (o : okR R m dk lv) {p k : Nat} (hp : p < 8) (hk : k < 1000) : farX (efL C) R p (nI (k / 100)) (nI (k / 10 % 10)) (nI (k % 10)) = fkS (efL C) R p k := by
  obtain ⟨v0, a0, b0⟩ := o.2.2.2.2.2.2.2.1 (24 + (3 * p + 0)) (by omega)
  obtain ⟨v1, a1, b1⟩ := o.2.2.2.2.2.2.2.1 (24 + (3 * p + 1)) (by omega)
  obtain ⟨v2, a2, b2⟩ := o.2.2.2.2.2.2.2.1 (24 + (3 * p + 2)) (by omega)
  have c0 : apI (rSh R p 0) (nI (k / 100)) = apI (nI (trN k 0)) (rSh R p 0) := by
    show apI (R (24 + (3 * p + 0))) (nI (k / 100)) = apI (nI (k / 100)) (R (24 + (3 * p + 0)))
    rw [b0, apI_nI _ (by omega) _ (by omega), apI_nI _ (by omega) _ (by omega)]; congr 1; omega
  have c1 : apI (rSh R p 1) (nI (k / 10 % 10)) = apI (nI (trN k 1)) (rSh R p 1) := by
    show apI (R (24 + (3 * p + 1))) (nI (k / 10 % 10)) = apI (nI (k / 10 % 10)) (R (24 + (3 * p + 1)))
    rw [b1, apI_nI _ (by omega) _ (by omega), apI_nI _ (by omega) _ (by omega)]; congr 1; omega
  have c2 : apI (rSh R p 2) (nI (k % 10)) = apI (nI (trN k 2)) (rSh R p 2) := by
    show apI (R (24 + (3 * p + 2))) (nI (k % 10)) = apI (nI (k % 10)) (R (24 + (3 * p + 2)))
    rw [b2, apI_nI _ (by omega) _ (by omega), apI_nI _ (by omega) _ (by omega)]; congr 1; omega
  unfold farX fkS
  rw [c0, c1, c2]
theorem md_isLike (q : QM Z h ι b C R m dk lv) (hK : mkIs ι b K) {k : Nat} (hk : k < 1000) : ∃ ι', rz_f Z (d + 7) 246 [.ref b, .int (nI k)] (rz_mk h ι, w) = some (.inl (some (.int (bi (lkK (efL C) R m k K)))), (rz_mk h ι', w)) ∧ fr (mdS b) ι ι' := by
  have hm8 := q.2.2.2.2.2.1
  have hr := oMd.row q.2.1
  have hR := q.2.2.2.1
  have hR' : ∀ {ι1 : Nat → Nat → Int32}, fr (mdS b) ι ι1 → ι1 (b + 446) = R := fun hf => by rw [hf _ (by unfold mdS; omega)]; exact hR
  have K8 := hK.2.2.2.1
  have d100 : nI k / 100 = nI (k / 100) := pk_div (d := 100) (by omega) (by decide) (by decide)
  have d10 : nI k / 10 = nI (k / 10) := pk_div (d := 10) (by omega) (by decide) (by decide)
  have m1 : nI k / 10 - nI k / 10 / 10 * 10 = nI (k / 10 % 10) := by rw [d10]; exact pk_rem (d := 10) (by omega) (by decide) (by decide)
  have m2 : nI k - nI k / 10 * 10 = nI (k % 10) := pk_rem (d := 10) (by omega) (by decide) (by decide)
  have L : ∀ (K1 : List (Nat × Nat)) (i : Nat) (ι1 : Nat → Nat → Int32) (l3 : Option Value), i + K1.length = K.length → (∀ j, j < K1.length → ι (b + (346 + (i + j))) 0 = nI (K1.getD j (0, 0)).1 ∧ ι (b + (346 + (i + j))) 1 = nI (K1.getD j (0, 0)).2) → (∀ q ∈ K1, q.1 < 8 ∧ q.2 ≤ 99) → fr (mdS b) ι ι1 → ∃ ι2, rg Z (d + 6) rx_m246 2 [some (.ref b), some (.int (nI k)), some (.int (nI i)), l3] [] (rz_mk h ι1, w) = some (.inl (some (.int (bi (lkK (efL C) R m k K1)))), (rz_mk h ι2, w)) ∧ fr (mdS b) ι ι2 := by
    intro K1
    induction K1 with
    | nil =>
      intro i ι1 l3 hi hc ho hf
      have e29 : ι1 b 29 = nI K.length := by rw [hf b (by unfold mdS; omega)]; exact hK.1
      have hi : i = K.length := by simpa using hi
      subst hi
      have c : (nI K.length < nI K.length) = False := by rw [nI_lt2 (by omega) (by omega)]; simp
      refine ⟨ι1, ?_, hf⟩
      rw [g246_2]
      simp (decide := true) (maxDischargeDepth := 4) only [g246_0, g246_1, g246_3, g246_4, g246_7, g246_10, g246_11, g246_14, g246_15, g246_16, g246_17, g246_18, g246_19, g246_20, g246_21, g246_24, g246_26, g246_27, g246_30, g246_31, g246_32, g246_35, g246_36, g246_37, g246_39, g246_40, g246_41, g246_43, g246_44, g246_46, g246_47, g246_48, g246_50, g246_51, g246_54, g246_55, g246_58, g246_59, g246_60, g246_61, g246_62, g246_65, g246_66, g246_67, g246_70, g246_73, g246_74, rz_k_inl, rz_k_inr, Option.toList_some, Option.toList_none, List.cons_append, List.nil_append, List.append_nil, rz_up_s, rz_u_s, rz_up_n, rz_u_n, ne_eq, not_false_eq_true, not_true_eq_false, Nat.add_assoc, Nat.reduceAdd, reduceIte, Nat.add_eq_left, Nat.left_eq_add, Nat.add_left_cancel_iff, Nat.reduceEqDiff, Nat.add_right_cancel_iff, rz_nb0, rz_nb1, rz_nbb, rz_nbi, rz_isr, rz_zle, if_true, if_false, rz_bi0, rz_bi1, Bool.not_eq_true, Bool.not_eq_false, Bool.true_eq_false, Bool.false_eq_true, rz_ix_lit, cl_lit, Nat.reduceLT, bi_t, bi_f, decide_true, decide_false, Bool.not_false, Bool.not_true, Bool.and_true, Bool.true_and, Bool.and_false, Bool.false_and, oMd_c, oMd_i0, oMd_i1, oMd_i2, oMd_i3, oMd_i4, oMd_i5, oMd_i6, oMd_i7, oMd_i8, oMd_f9, oMd_v9, oMd_f10, oMd_v10, oMd_f11, oMd_v11, oMd_f12, oMd_v12, oMd_f13, oMd_v13, oMd_f14, oMd_v14, oMd_i15, oMd_i16, oMd_f17, oMd_v17, oMd_f18, oMd_v18, oMd_f19, oMd_v19, oMd_f20, oMd_v20, oMd_f21, oMd_v21, oMd_f22, oMd_v22, oMd_f23, oMd_v23, oMd_i24, oMd_f25, oMd_v25, oMd_f26, oMd_v26, oMd_f27, oMd_v27, oMd_f28, oMd_v28, oMd_i29, oMd_i30, oMd_i31, oMd_i32, oMd_i33, oMd_i34, oMd_i35, oMd_f36, oMd_v36, oMd_f37, oMd_v37, oMd_f38, oMd_v38, oMd_i39, oMd_f40, oMd_v40, oMd_f41, oMd_v41, oMd_i42, oMd_f43, oMd_v43, oMd_i44, oMd_a1, oMd_n1, oMd_a2, oMd_n2, oMd_a3, oMd_n3, oMd_a4, oMd_n4, oMd_a363, oMd_n363, oMd_a364, oMd_n364, oMd_a446, oMd_n446, oMd_a447, oMd_n447, oMd_a469, oMd_n469, oMd_a470, oMd_n470, oMd_a471, oMd_n471, oMd_a472, oMd_n472, oMd_a473, oMd_n473, oMd_a5, oMd_n5, oMd_e5, oMd_ra5, oMd_rn5, oMd_a14, oMd_n14, oMd_e14, oMd_ra14, oMd_rn14, oMd_a23, oMd_n23, oMd_e23, oMd_ra23, oMd_rn23, oMd_a184, oMd_n184, oMd_e184, oMd_ra184, oMd_rn184, oMd_a345, oMd_n345, oMd_e345, oMd_ra345, oMd_rn345, oMd_a354, oMd_n354, oMd_e354, oMd_ra354, oMd_rn354, oMd_a365, oMd_n365, oMd_e365, oMd_ra365, oMd_rn365, oMd_a448, oMd_n448, oMd_e448, oMd_ra448, oMd_rn448, oMd_a465, oMd_n465, oMd_e465, oMd_ra465, oMd_rn465, q.2.1, e29, c]
      rfl
    | cons x K1 ih =>
      intro i ι1 l3 hi hc ho hf
      have hi8 : i < K.length := by simp at hi; omega
      have e29 : ι1 b 29 = nI K.length := by rw [hf b (by unfold mdS; omega)]; exact hK.1
      have e57 : ι1 (b + 446) 57 = nI m := by rw [hR' hf]; exact q.2.2.2.2.1
      have c : (nI i < nI K.length) = True := by rw [nI_lt2 (by omega) (by omega)]; simp [hi8]
      have i1 : rz_ix (nI i) 8 := rz_ix_nat (by omega) (by omega)
      have j1 : i < 8 := by omega
      have x8 := (ho x List.mem_cons_self).1
      have er : ι1 (b + (346 + i)) = ι (b + (346 + i)) := hf _ (by unfold mdS; omega)
      have x0 : ι1 (b + (346 + i)) 0 = nI x.1 := by rw [er]; simpa using (hc 0 (by simp)).1
      have x1 : ι1 (b + (346 + i)) 1 = nI x.2 := by rw [er]; simpa using (hc 0 (by simp)).2
      have cm : (nI x.1 < nI m) = (x.1 < m) := nI_lt2 (by omega) (by omega)
      by_cases h1 : x.1 < m
      · have h1' : (x.1 < m) = True := by simp [h1]
        obtain ⟨ι2, g1, g2⟩ := md_farFrom (Z := Z) (d := d) (w := w) (ι := ι1) (q.fr (frM.of hf)).2.1 (q.fr (frM.of hf)).1 (q.fr (frM.of hf)).2.2.1 hr x8 (nI (k / 100)) (nI (k / 10 % 10)) (nI (k % 10))
        rw [hR' hf, farX_fk q.2.2.2.2 x8 hk] at g1
        have er2 : ι2 (b + (346 + i)) = ι1 (b + (346 + i)) := g2 _ (by unfold mdS; omega)
        have x1' : ι2 (b + (346 + i)) 1 = nI x.2 := by rw [er2]; exact x1
        by_cases h2 : fkS (efL C) R x.1 k = nI x.2
        · obtain ⟨ι3, gg, gf⟩ := ih (i + 1) ι2 (some (.int (nI x.1))) (by simp at hi; omega) (fun j hj => by have := hc (j + 1) (by simp; omega); simpa [Nat.add_assoc, Nat.add_comm 1 j] using this) (fun y hy => ho y (List.mem_cons_of_mem _ hy)) (hf.trans g2)
          refine ⟨ι3, ?_, gf⟩
          rw [lkK, show sfP (efL C) R m x.1 (nI x.2) k = true by unfold sfP; simp [h1, h2], Bool.true_and, g246_2]
          simp (decide := true) (maxDischargeDepth := 4) only [g246_0, g246_1, g246_3, g246_4, g246_7, g246_10, g246_11, g246_14, g246_15, g246_16, g246_17, g246_18, g246_19, g246_20, g246_21, g246_24, g246_26, g246_27, g246_30, g246_31, g246_32, g246_35, g246_36, g246_37, g246_39, g246_40, g246_41, g246_43, g246_44, g246_46, g246_47, g246_48, g246_50, g246_51, g246_54, g246_55, g246_58, g246_59, g246_60, g246_61, g246_62, g246_65, g246_66, g246_67, g246_70, g246_73, g246_74, rz_k_inl, rz_k_inr, Option.toList_some, Option.toList_none, List.cons_append, List.nil_append, List.append_nil, rz_up_s, rz_u_s, rz_up_n, rz_u_n, ne_eq, not_false_eq_true, not_true_eq_false, Nat.add_assoc, Nat.reduceAdd, reduceIte, Nat.add_eq_left, Nat.left_eq_add, Nat.add_left_cancel_iff, Nat.reduceEqDiff, Nat.add_right_cancel_iff, rz_nb0, rz_nb1, rz_nbb, rz_nbi, rz_isr, rz_zle, if_true, if_false, rz_bi0, rz_bi1, Bool.not_eq_true, Bool.not_eq_false, Bool.true_eq_false, Bool.false_eq_true, rz_ix_lit, cl_lit, Nat.reduceLT, bi_t, bi_f, decide_true, decide_false, Bool.not_false, Bool.not_true, Bool.and_true, Bool.true_and, Bool.and_false, Bool.false_and, oMd_c, oMd_i0, oMd_i1, oMd_i2, oMd_i3, oMd_i4, oMd_i5, oMd_i6, oMd_i7, oMd_i8, oMd_f9, oMd_v9, oMd_f10, oMd_v10, oMd_f11, oMd_v11, oMd_f12, oMd_v12, oMd_f13, oMd_v13, oMd_f14, oMd_v14, oMd_i15, oMd_i16, oMd_f17, oMd_v17, oMd_f18, oMd_v18, oMd_f19, oMd_v19, oMd_f20, oMd_v20, oMd_f21, oMd_v21, oMd_f22, oMd_v22, oMd_f23, oMd_v23, oMd_i24, oMd_f25, oMd_v25, oMd_f26, oMd_v26, oMd_f27, oMd_v27, oMd_f28, oMd_v28, oMd_i29, oMd_i30, oMd_i31, oMd_i32, oMd_i33, oMd_i34, oMd_i35, oMd_f36, oMd_v36, oMd_f37, oMd_v37, oMd_f38, oMd_v38, oMd_i39, oMd_f40, oMd_v40, oMd_f41, oMd_v41, oMd_i42, oMd_f43, oMd_v43, oMd_i44, oMd_a1, oMd_n1, oMd_a2, oMd_n2, oMd_a3, oMd_n3, oMd_a4, oMd_n4, oMd_a363, oMd_n363, oMd_a364, oMd_n364, oMd_a446, oMd_n446, oMd_a447, oMd_n447, oMd_a469, oMd_n469, oMd_a470, oMd_n470, oMd_a471, oMd_n471, oMd_a472, oMd_n472, oMd_a473, oMd_n473, oMd_a5, oMd_n5, oMd_e5, oMd_ra5, oMd_rn5, oMd_a14, oMd_n14, oMd_e14, oMd_ra14, oMd_rn14, oMd_a23, oMd_n23, oMd_e23, oMd_ra23, oMd_rn23, oMd_a184, oMd_n184, oMd_e184, oMd_ra184, oMd_rn184, oMd_a345, oMd_n345, oMd_e345, oMd_ra345, oMd_rn345, oMd_a354, oMd_n354, oMd_e354, oMd_ra354, oMd_rn354, oMd_a365, oMd_n365, oMd_e365, oMd_ra365, oMd_rn365, oMd_a448, oMd_n448, oMd_e448, oMd_ra448, oMd_rn448, oMd_a465, oMd_n465, oMd_e465, oMd_ra465, oMd_rn465, q.2.1, hr.1, hr.2, e29, e57, c, i1, j1, nI_cl (show i < 2147483648 by omega), x0, cm, h1', d100, m1, m2, g1, x1', h2, nI_1]
          exact gg
        · refine ⟨ι2, ?_, hf.trans g2⟩
          rw [lkK, show sfP (efL C) R m x.1 (nI x.2) k = false by unfold sfP; simp [h2], Bool.false_and, g246_2]
          simp (decide := true) (maxDischargeDepth := 4) only [g246_0, g246_1, g246_3, g246_4, g246_7, g246_10, g246_11, g246_14, g246_15, g246_16, g246_17, g246_18, g246_19, g246_20, g246_21, g246_24, g246_26, g246_27, g246_30, g246_31, g246_32, g246_35, g246_36, g246_37, g246_39, g246_40, g246_41, g246_43, g246_44, g246_46, g246_47, g246_48, g246_50, g246_51, g246_54, g246_55, g246_58, g246_59, g246_60, g246_61, g246_62, g246_65, g246_66, g246_67, g246_70, g246_73, g246_74, rz_k_inl, rz_k_inr, Option.toList_some, Option.toList_none, List.cons_append, List.nil_append, List.append_nil, rz_up_s, rz_u_s, rz_up_n, rz_u_n, ne_eq, not_false_eq_true, not_true_eq_false, Nat.add_assoc, Nat.reduceAdd, reduceIte, Nat.add_eq_left, Nat.left_eq_add, Nat.add_left_cancel_iff, Nat.reduceEqDiff, Nat.add_right_cancel_iff, rz_nb0, rz_nb1, rz_nbb, rz_nbi, rz_isr, rz_zle, if_true, if_false, rz_bi0, rz_bi1, Bool.not_eq_true, Bool.not_eq_false, Bool.true_eq_false, Bool.false_eq_true, rz_ix_lit, cl_lit, Nat.reduceLT, bi_t, bi_f, decide_true, decide_false, Bool.not_false, Bool.not_true, Bool.and_true, Bool.true_and, Bool.and_false, Bool.false_and, oMd_c, oMd_i0, oMd_i1, oMd_i2, oMd_i3, oMd_i4, oMd_i5, oMd_i6, oMd_i7, oMd_i8, oMd_f9, oMd_v9, oMd_f10, oMd_v10, oMd_f11, oMd_v11, oMd_f12, oMd_v12, oMd_f13, oMd_v13, oMd_f14, oMd_v14, oMd_i15, oMd_i16, oMd_f17, oMd_v17, oMd_f18, oMd_v18, oMd_f19, oMd_v19, oMd_f20, oMd_v20, oMd_f21, oMd_v21, oMd_f22, oMd_v22, oMd_f23, oMd_v23, oMd_i24, oMd_f25, oMd_v25, oMd_f26, oMd_v26, oMd_f27, oMd_v27, oMd_f28, oMd_v28, oMd_i29, oMd_i30, oMd_i31, oMd_i32, oMd_i33, oMd_i34, oMd_i35, oMd_f36, oMd_v36, oMd_f37, oMd_v37, oMd_f38, oMd_v38, oMd_i39, oMd_f40, oMd_v40, oMd_f41, oMd_v41, oMd_i42, oMd_f43, oMd_v43, oMd_i44, oMd_a1, oMd_n1, oMd_a2, oMd_n2, oMd_a3, oMd_n3, oMd_a4, oMd_n4, oMd_a363, oMd_n363, oMd_a364, oMd_n364, oMd_a446, oMd_n446, oMd_a447, oMd_n447, oMd_a469, oMd_n469, oMd_a470, oMd_n470, oMd_a471, oMd_n471, oMd_a472, oMd_n472, oMd_a473, oMd_n473, oMd_a5, oMd_n5, oMd_e5, oMd_ra5, oMd_rn5, oMd_a14, oMd_n14, oMd_e14, oMd_ra14, oMd_rn14, oMd_a23, oMd_n23, oMd_e23, oMd_ra23, oMd_rn23, oMd_a184, oMd_n184, oMd_e184, oMd_ra184, oMd_rn184, oMd_a345, oMd_n345, oMd_e345, oMd_ra345, oMd_rn345, oMd_a354, oMd_n354, oMd_e354, oMd_ra354, oMd_rn354, oMd_a365, oMd_n365, oMd_e365, oMd_ra365, oMd_rn365, oMd_a448, oMd_n448, oMd_e448, oMd_ra448, oMd_rn448, oMd_a465, oMd_n465, oMd_e465, oMd_ra465, oMd_rn465, q.2.1, hr.1, hr.2, e29, e57, c, i1, j1, nI_cl (show i < 2147483648 by omega), x0, cm, h1', d100, m1, m2, g1, x1', h2, nI_1]
      · have h1' : (x.1 < m) = False := by simp [h1]
        refine ⟨ι1, ?_, hf⟩
        rw [lkK, show sfP (efL C) R m x.1 (nI x.2) k = false by unfold sfP; simp [h1], Bool.false_and, g246_2]
        simp (decide := true) (maxDischargeDepth := 4) only [g246_0, g246_1, g246_3, g246_4, g246_7, g246_10, g246_11, g246_14, g246_15, g246_16, g246_17, g246_18, g246_19, g246_20, g246_21, g246_24, g246_26, g246_27, g246_30, g246_31, g246_32, g246_35, g246_36, g246_37, g246_39, g246_40, g246_41, g246_43, g246_44, g246_46, g246_47, g246_48, g246_50, g246_51, g246_54, g246_55, g246_58, g246_59, g246_60, g246_61, g246_62, g246_65, g246_66, g246_67, g246_70, g246_73, g246_74, rz_k_inl, rz_k_inr, Option.toList_some, Option.toList_none, List.cons_append, List.nil_append, List.append_nil, rz_up_s, rz_u_s, rz_up_n, rz_u_n, ne_eq, not_false_eq_true, not_true_eq_false, Nat.add_assoc, Nat.reduceAdd, reduceIte, Nat.add_eq_left, Nat.left_eq_add, Nat.add_left_cancel_iff, Nat.reduceEqDiff, Nat.add_right_cancel_iff, rz_nb0, rz_nb1, rz_nbb, rz_nbi, rz_isr, rz_zle, if_true, if_false, rz_bi0, rz_bi1, Bool.not_eq_true, Bool.not_eq_false, Bool.true_eq_false, Bool.false_eq_true, rz_ix_lit, cl_lit, Nat.reduceLT, bi_t, bi_f, decide_true, decide_false, Bool.not_false, Bool.not_true, Bool.and_true, Bool.true_and, Bool.and_false, Bool.false_and, oMd_c, oMd_i0, oMd_i1, oMd_i2, oMd_i3, oMd_i4, oMd_i5, oMd_i6, oMd_i7, oMd_i8, oMd_f9, oMd_v9, oMd_f10, oMd_v10, oMd_f11, oMd_v11, oMd_f12, oMd_v12, oMd_f13, oMd_v13, oMd_f14, oMd_v14, oMd_i15, oMd_i16, oMd_f17, oMd_v17, oMd_f18, oMd_v18, oMd_f19, oMd_v19, oMd_f20, oMd_v20, oMd_f21, oMd_v21, oMd_f22, oMd_v22, oMd_f23, oMd_v23, oMd_i24, oMd_f25, oMd_v25, oMd_f26, oMd_v26, oMd_f27, oMd_v27, oMd_f28, oMd_v28, oMd_i29, oMd_i30, oMd_i31, oMd_i32, oMd_i33, oMd_i34, oMd_i35, oMd_f36, oMd_v36, oMd_f37, oMd_v37, oMd_f38, oMd_v38, oMd_i39, oMd_f40, oMd_v40, oMd_f41, oMd_v41, oMd_i42, oMd_f43, oMd_v43, oMd_i44, oMd_a1, oMd_n1, oMd_a2, oMd_n2, oMd_a3, oMd_n3, oMd_a4, oMd_n4, oMd_a363, oMd_n363, oMd_a364, oMd_n364, oMd_a446, oMd_n446, oMd_a447, oMd_n447, oMd_a469, oMd_n469, oMd_a470, oMd_n470, oMd_a471, oMd_n471, oMd_a472, oMd_n472, oMd_a473, oMd_n473, oMd_a5, oMd_n5, oMd_e5, oMd_ra5, oMd_rn5, oMd_a14, oMd_n14, oMd_e14, oMd_ra14, oMd_rn14, oMd_a23, oMd_n23, oMd_e23, oMd_ra23, oMd_rn23, oMd_a184, oMd_n184, oMd_e184, oMd_ra184, oMd_rn184, oMd_a345, oMd_n345, oMd_e345, oMd_ra345, oMd_rn345, oMd_a354, oMd_n354, oMd_e354, oMd_ra354, oMd_rn354, oMd_a365, oMd_n365, oMd_e365, oMd_ra365, oMd_rn365, oMd_a448, oMd_n448, oMd_e448, oMd_ra448, oMd_rn448, oMd_a465, oMd_n465, oMd_e465, oMd_ra465, oMd_rn465, q.2.1, hr.1, hr.2, e29, e57, c, i1, j1, nI_cl (show i < 2147483648 by omega), x0, cm, h1', nI_1]
  obtain ⟨ι2, gg, gf⟩ := L K 0 ι none (by omega) (fun j hj => by rw [Nat.zero_add]; exact hK.2.1 j hj) hK.2.2.1 (fr.refl ι)
  refine ⟨ι2, ?_, gf⟩
  rw [e246, ← gg]
  simp (decide := true) (maxDischargeDepth := 4) only [g246_0, g246_1, g246_3, g246_4, g246_7, g246_10, g246_11, g246_14, g246_15, g246_16, g246_17, g246_18, g246_19, g246_20, g246_21, g246_24, g246_26, g246_27, g246_30, g246_31, g246_32, g246_35, g246_36, g246_37, g246_39, g246_40, g246_41, g246_43, g246_44, g246_46, g246_47, g246_48, g246_50, g246_51, g246_54, g246_55, g246_58, g246_59, g246_60, g246_61, g246_62, g246_65, g246_66, g246_67, g246_70, g246_73, g246_74, rz_k_inl, rz_k_inr, Option.toList_some, Option.toList_none, List.cons_append, List.nil_append, List.append_nil, rz_up_s, rz_u_s, rz_up_n, rz_u_n, ne_eq, not_false_eq_true, not_true_eq_false, Nat.add_assoc, Nat.reduceAdd, reduceIte, Nat.add_eq_left, Nat.left_eq_add, Nat.add_left_cancel_iff, Nat.reduceEqDiff, Nat.add_right_cancel_iff, rz_nb0, rz_nb1, rz_nbb, rz_nbi, rz_isr, rz_zle, if_true, if_false, rz_bi0, rz_bi1, Bool.not_eq_true, Bool.not_eq_false, Bool.true_eq_false, Bool.false_eq_true, rz_ix_lit, cl_lit, Nat.reduceLT, bi_t, bi_f, decide_true, decide_false, Bool.not_false, Bool.not_true, Bool.and_true, Bool.true_and, Bool.and_false, Bool.false_and]
  rfl
theorem mo_like (q : QM Z h ι b C R m dk lv) (hK : mkIs ι b K) {k : Nat} (hk : k ≤ 1) (hx : inB (nI k) 1 = true) : ansM Z (d + 8) h ι w b 247 [.int (nI k)] (if k = 0 then nI (likK (efL C) R m K 1000).length else if 0 < (likK (efL C) R m K 1000).length then nI ((likK (efL C) R m K 1000).getD 0 0) else -1) := by
  obtain ⟨ι0, e0, q0, f0, t0⟩ := mpre q
  obtain ⟨b1, b2, b3, b4⟩ := mbad (Z := Z) (d := d + 6) (w := w) q e0 t0
  have hx : (!decide (nI k < 0) && !decide ((1 : Int32) < nI k)) = true := hx
  have L := rz_loop (fun j (ι1 : Nat → Nat → Int32) => rg Z (d + 7) rx_m247 37 [some (.ref b), some (.int (nI k)), some (.int (nI (likK (efL C) R m K j).length)), some (.int (if 0 < (likK (efL C) R m K j).length then nI ((likK (efL C) R m K j).getD 0 0) else -1)), some (.int (nI j))] [] (rz_mk h ι1, w)) 1000 (fun _ ι1 => frM b ι ι1 ∧ ι1 b 0 = 0) (by
    rintro j ι1 hj ⟨hf, ht⟩
    have c1 : (nI j < 1000) = True := by rw [nI_ltL (by omega) (by decide)]; simp [hj]
    obtain ⟨ι2, g1, g2⟩ := md_isLike (Z := Z) (d := d) (w := w) (q.fr hf) (hK.fr hf) hj
    refine ⟨ι2, mans hf ht g2, ?_⟩
    try dsimp only
    rw [g247_37, likK_S]
    have hlen := likK_le (efL C) R m K j
    cases hl : lkK (efL C) R m j K with
    | false =>
      rw [hl] at g1
      simp (decide := true) (maxDischargeDepth := 4) only [g247_0, g247_1, g247_2, g247_5, g247_6, g247_7, g247_8, g247_9, g247_12, g247_15, g247_16, g247_19, g247_20, g247_21, g247_22, g247_25, g247_28, g247_29, g247_30, g247_31, g247_32, g247_33, g247_34, g247_35, g247_39, g247_42, g247_45, g247_46, g247_48, g247_51, g247_54, g247_57, g247_58, g247_61, g247_63, g247_66, g247_67, g247_68, g247_71, g247_74, g247_77, g247_78, g247_81, g247_82, g247_85, g247_86, rz_k_inl, rz_k_inr, Option.toList_some, Option.toList_none, List.cons_append, List.nil_append, List.append_nil, rz_up_s, rz_u_s, rz_up_n, rz_u_n, ne_eq, not_false_eq_true, not_true_eq_false, Nat.add_assoc, Nat.reduceAdd, reduceIte, Nat.add_eq_left, Nat.left_eq_add, Nat.add_left_cancel_iff, Nat.reduceEqDiff, Nat.add_right_cancel_iff, rz_nb0, rz_nb1, rz_nbb, rz_nbi, rz_isr, rz_zle, if_true, if_false, rz_bi0, rz_bi1, Bool.not_eq_true, Bool.not_eq_false, Bool.true_eq_false, Bool.false_eq_true, rz_ix_lit, cl_lit, Nat.reduceLT, bi_t, bi_f, decide_true, decide_false, Bool.not_false, Bool.not_true, Bool.and_true, Bool.true_and, Bool.and_false, Bool.false_and, oMd_c, oMd_i0, oMd_i1, oMd_i2, oMd_i3, oMd_i4, oMd_i5, oMd_i6, oMd_i7, oMd_i8, oMd_f9, oMd_v9, oMd_f10, oMd_v10, oMd_f11, oMd_v11, oMd_f12, oMd_v12, oMd_f13, oMd_v13, oMd_f14, oMd_v14, oMd_i15, oMd_i16, oMd_f17, oMd_v17, oMd_f18, oMd_v18, oMd_f19, oMd_v19, oMd_f20, oMd_v20, oMd_f21, oMd_v21, oMd_f22, oMd_v22, oMd_f23, oMd_v23, oMd_i24, oMd_f25, oMd_v25, oMd_f26, oMd_v26, oMd_f27, oMd_v27, oMd_f28, oMd_v28, oMd_i29, oMd_i30, oMd_i31, oMd_i32, oMd_i33, oMd_i34, oMd_i35, oMd_f36, oMd_v36, oMd_f37, oMd_v37, oMd_f38, oMd_v38, oMd_i39, oMd_f40, oMd_v40, oMd_f41, oMd_v41, oMd_i42, oMd_f43, oMd_v43, oMd_i44, oMd_a1, oMd_n1, oMd_a2, oMd_n2, oMd_a3, oMd_n3, oMd_a4, oMd_n4, oMd_a363, oMd_n363, oMd_a364, oMd_n364, oMd_a446, oMd_n446, oMd_a447, oMd_n447, oMd_a469, oMd_n469, oMd_a470, oMd_n470, oMd_a471, oMd_n471, oMd_a472, oMd_n472, oMd_a473, oMd_n473, oMd_a5, oMd_n5, oMd_e5, oMd_ra5, oMd_rn5, oMd_a14, oMd_n14, oMd_e14, oMd_ra14, oMd_rn14, oMd_a23, oMd_n23, oMd_e23, oMd_ra23, oMd_rn23, oMd_a184, oMd_n184, oMd_e184, oMd_ra184, oMd_rn184, oMd_a345, oMd_n345, oMd_e345, oMd_ra345, oMd_rn345, oMd_a354, oMd_n354, oMd_e354, oMd_ra354, oMd_rn354, oMd_a365, oMd_n365, oMd_e365, oMd_ra365, oMd_rn365, oMd_a448, oMd_n448, oMd_e448, oMd_ra448, oMd_rn448, oMd_a465, oMd_n465, oMd_e465, oMd_ra465, oMd_rn465, q.2.1, c1, g1, nI_1]
    | true =>
      rw [hl] at g1
      generalize likK (efL C) R m K j = l at *
      cases l with
      | nil =>
        simp (decide := true) (maxDischargeDepth := 4) only [g247_0, g247_1, g247_2, g247_5, g247_6, g247_7, g247_8, g247_9, g247_12, g247_15, g247_16, g247_19, g247_20, g247_21, g247_22, g247_25, g247_28, g247_29, g247_30, g247_31, g247_32, g247_33, g247_34, g247_35, g247_39, g247_42, g247_45, g247_46, g247_48, g247_51, g247_54, g247_57, g247_58, g247_61, g247_63, g247_66, g247_67, g247_68, g247_71, g247_74, g247_77, g247_78, g247_81, g247_82, g247_85, g247_86, rz_k_inl, rz_k_inr, Option.toList_some, Option.toList_none, List.cons_append, List.nil_append, List.append_nil, rz_up_s, rz_u_s, rz_up_n, rz_u_n, ne_eq, not_false_eq_true, not_true_eq_false, Nat.add_assoc, Nat.reduceAdd, reduceIte, Nat.add_eq_left, Nat.left_eq_add, Nat.add_left_cancel_iff, Nat.reduceEqDiff, Nat.add_right_cancel_iff, rz_nb0, rz_nb1, rz_nbb, rz_nbi, rz_isr, rz_zle, if_true, if_false, rz_bi0, rz_bi1, Bool.not_eq_true, Bool.not_eq_false, Bool.true_eq_false, Bool.false_eq_true, rz_ix_lit, cl_lit, Nat.reduceLT, bi_t, bi_f, decide_true, decide_false, Bool.not_false, Bool.not_true, Bool.and_true, Bool.true_and, Bool.and_false, Bool.false_and, oMd_c, oMd_i0, oMd_i1, oMd_i2, oMd_i3, oMd_i4, oMd_i5, oMd_i6, oMd_i7, oMd_i8, oMd_f9, oMd_v9, oMd_f10, oMd_v10, oMd_f11, oMd_v11, oMd_f12, oMd_v12, oMd_f13, oMd_v13, oMd_f14, oMd_v14, oMd_i15, oMd_i16, oMd_f17, oMd_v17, oMd_f18, oMd_v18, oMd_f19, oMd_v19, oMd_f20, oMd_v20, oMd_f21, oMd_v21, oMd_f22, oMd_v22, oMd_f23, oMd_v23, oMd_i24, oMd_f25, oMd_v25, oMd_f26, oMd_v26, oMd_f27, oMd_v27, oMd_f28, oMd_v28, oMd_i29, oMd_i30, oMd_i31, oMd_i32, oMd_i33, oMd_i34, oMd_i35, oMd_f36, oMd_v36, oMd_f37, oMd_v37, oMd_f38, oMd_v38, oMd_i39, oMd_f40, oMd_v40, oMd_f41, oMd_v41, oMd_i42, oMd_f43, oMd_v43, oMd_i44, oMd_a1, oMd_n1, oMd_a2, oMd_n2, oMd_a3, oMd_n3, oMd_a4, oMd_n4, oMd_a363, oMd_n363, oMd_a364, oMd_n364, oMd_a446, oMd_n446, oMd_a447, oMd_n447, oMd_a469, oMd_n469, oMd_a470, oMd_n470, oMd_a471, oMd_n471, oMd_a472, oMd_n472, oMd_a473, oMd_n473, oMd_a5, oMd_n5, oMd_e5, oMd_ra5, oMd_rn5, oMd_a14, oMd_n14, oMd_e14, oMd_ra14, oMd_rn14, oMd_a23, oMd_n23, oMd_e23, oMd_ra23, oMd_rn23, oMd_a184, oMd_n184, oMd_e184, oMd_ra184, oMd_rn184, oMd_a345, oMd_n345, oMd_e345, oMd_ra345, oMd_rn345, oMd_a354, oMd_n354, oMd_e354, oMd_ra354, oMd_rn354, oMd_a365, oMd_n365, oMd_e365, oMd_ra365, oMd_rn365, oMd_a448, oMd_n448, oMd_e448, oMd_ra448, oMd_rn448, oMd_a465, oMd_n465, oMd_e465, oMd_ra465, oMd_rn465, q.2.1, c1, g1, nI_1, List.length_nil, List.length_cons, show nI 0 = 0 from rfl, List.nil_append]
        rfl
      | cons y l =>
        have n0 : (nI (l.length + 1) = 0) = False := by rw [nI_eqL (by simp at hlen; omega) (by decide)]; simp
        simp (decide := true) (maxDischargeDepth := 4) only [g247_0, g247_1, g247_2, g247_5, g247_6, g247_7, g247_8, g247_9, g247_12, g247_15, g247_16, g247_19, g247_20, g247_21, g247_22, g247_25, g247_28, g247_29, g247_30, g247_31, g247_32, g247_33, g247_34, g247_35, g247_39, g247_42, g247_45, g247_46, g247_48, g247_51, g247_54, g247_57, g247_58, g247_61, g247_63, g247_66, g247_67, g247_68, g247_71, g247_74, g247_77, g247_78, g247_81, g247_82, g247_85, g247_86, rz_k_inl, rz_k_inr, Option.toList_some, Option.toList_none, List.cons_append, List.nil_append, List.append_nil, rz_up_s, rz_u_s, rz_up_n, rz_u_n, ne_eq, not_false_eq_true, not_true_eq_false, Nat.add_assoc, Nat.reduceAdd, reduceIte, Nat.add_eq_left, Nat.left_eq_add, Nat.add_left_cancel_iff, Nat.reduceEqDiff, Nat.add_right_cancel_iff, rz_nb0, rz_nb1, rz_nbb, rz_nbi, rz_isr, rz_zle, if_true, if_false, rz_bi0, rz_bi1, Bool.not_eq_true, Bool.not_eq_false, Bool.true_eq_false, Bool.false_eq_true, rz_ix_lit, cl_lit, Nat.reduceLT, bi_t, bi_f, decide_true, decide_false, Bool.not_false, Bool.not_true, Bool.and_true, Bool.true_and, Bool.and_false, Bool.false_and, oMd_c, oMd_i0, oMd_i1, oMd_i2, oMd_i3, oMd_i4, oMd_i5, oMd_i6, oMd_i7, oMd_i8, oMd_f9, oMd_v9, oMd_f10, oMd_v10, oMd_f11, oMd_v11, oMd_f12, oMd_v12, oMd_f13, oMd_v13, oMd_f14, oMd_v14, oMd_i15, oMd_i16, oMd_f17, oMd_v17, oMd_f18, oMd_v18, oMd_f19, oMd_v19, oMd_f20, oMd_v20, oMd_f21, oMd_v21, oMd_f22, oMd_v22, oMd_f23, oMd_v23, oMd_i24, oMd_f25, oMd_v25, oMd_f26, oMd_v26, oMd_f27, oMd_v27, oMd_f28, oMd_v28, oMd_i29, oMd_i30, oMd_i31, oMd_i32, oMd_i33, oMd_i34, oMd_i35, oMd_f36, oMd_v36, oMd_f37, oMd_v37, oMd_f38, oMd_v38, oMd_i39, oMd_f40, oMd_v40, oMd_f41, oMd_v41, oMd_i42, oMd_f43, oMd_v43, oMd_i44, oMd_a1, oMd_n1, oMd_a2, oMd_n2, oMd_a3, oMd_n3, oMd_a4, oMd_n4, oMd_a363, oMd_n363, oMd_a364, oMd_n364, oMd_a446, oMd_n446, oMd_a447, oMd_n447, oMd_a469, oMd_n469, oMd_a470, oMd_n470, oMd_a471, oMd_n471, oMd_a472, oMd_n472, oMd_a473, oMd_n473, oMd_a5, oMd_n5, oMd_e5, oMd_ra5, oMd_rn5, oMd_a14, oMd_n14, oMd_e14, oMd_ra14, oMd_rn14, oMd_a23, oMd_n23, oMd_e23, oMd_ra23, oMd_rn23, oMd_a184, oMd_n184, oMd_e184, oMd_ra184, oMd_rn184, oMd_a345, oMd_n345, oMd_e345, oMd_ra345, oMd_rn345, oMd_a354, oMd_n354, oMd_e354, oMd_ra354, oMd_rn354, oMd_a365, oMd_n365, oMd_e365, oMd_ra365, oMd_rn365, oMd_a448, oMd_n448, oMd_e448, oMd_ra448, oMd_rn448, oMd_a465, oMd_n465, oMd_e465, oMd_ra465, oMd_rn465, q.2.1, c1, g1, nI_1, List.length_cons, n0, List.cons_append, List.length_append, List.length_nil, List.getD_cons_zero, Nat.zero_lt_succ]) 1000 0 ι0 (by omega) ⟨f0, t0⟩
  obtain ⟨ι1, ⟨hf, ht⟩, L⟩ := L
  try dsimp only at L
  refine ⟨ι1, ?_, hf, ht⟩
  rw [e247]
  simp (decide := true) (maxDischargeDepth := 4) only [g247_0, g247_1, g247_2, g247_5, g247_6, g247_7, g247_8, g247_9, g247_12, g247_15, g247_16, g247_19, g247_20, g247_21, g247_22, g247_25, g247_28, g247_29, g247_30, g247_31, g247_32, g247_33, g247_34, g247_35, g247_39, g247_42, g247_45, g247_46, g247_48, g247_51, g247_54, g247_57, g247_58, g247_61, g247_63, g247_66, g247_67, g247_68, g247_71, g247_74, g247_77, g247_78, g247_81, g247_82, g247_85, g247_86, rz_k_inl, rz_k_inr, Option.toList_some, Option.toList_none, List.cons_append, List.nil_append, List.append_nil, rz_up_s, rz_u_s, rz_up_n, rz_u_n, ne_eq, not_false_eq_true, not_true_eq_false, Nat.add_assoc, Nat.reduceAdd, reduceIte, Nat.add_eq_left, Nat.left_eq_add, Nat.add_left_cancel_iff, Nat.reduceEqDiff, Nat.add_right_cancel_iff, rz_nb0, rz_nb1, rz_nbb, rz_nbi, rz_isr, rz_zle, if_true, if_false, rz_bi0, rz_bi1, Bool.not_eq_true, Bool.not_eq_false, Bool.true_eq_false, Bool.false_eq_true, rz_ix_lit, cl_lit, Nat.reduceLT, bi_t, bi_f, decide_true, decide_false, Bool.not_false, Bool.not_true, Bool.and_true, Bool.true_and, Bool.and_false, Bool.false_and, oMd_c, oMd_i0, oMd_i1, oMd_i2, oMd_i3, oMd_i4, oMd_i5, oMd_i6, oMd_i7, oMd_i8, oMd_f9, oMd_v9, oMd_f10, oMd_v10, oMd_f11, oMd_v11, oMd_f12, oMd_v12, oMd_f13, oMd_v13, oMd_f14, oMd_v14, oMd_i15, oMd_i16, oMd_f17, oMd_v17, oMd_f18, oMd_v18, oMd_f19, oMd_v19, oMd_f20, oMd_v20, oMd_f21, oMd_v21, oMd_f22, oMd_v22, oMd_f23, oMd_v23, oMd_i24, oMd_f25, oMd_v25, oMd_f26, oMd_v26, oMd_f27, oMd_v27, oMd_f28, oMd_v28, oMd_i29, oMd_i30, oMd_i31, oMd_i32, oMd_i33, oMd_i34, oMd_i35, oMd_f36, oMd_v36, oMd_f37, oMd_v37, oMd_f38, oMd_v38, oMd_i39, oMd_f40, oMd_v40, oMd_f41, oMd_v41, oMd_i42, oMd_f43, oMd_v43, oMd_i44, oMd_a1, oMd_n1, oMd_a2, oMd_n2, oMd_a3, oMd_n3, oMd_a4, oMd_n4, oMd_a363, oMd_n363, oMd_a364, oMd_n364, oMd_a446, oMd_n446, oMd_a447, oMd_n447, oMd_a469, oMd_n469, oMd_a470, oMd_n470, oMd_a471, oMd_n471, oMd_a472, oMd_n472, oMd_a473, oMd_n473, oMd_a5, oMd_n5, oMd_e5, oMd_ra5, oMd_rn5, oMd_a14, oMd_n14, oMd_e14, oMd_ra14, oMd_rn14, oMd_a23, oMd_n23, oMd_e23, oMd_ra23, oMd_rn23, oMd_a184, oMd_n184, oMd_e184, oMd_ra184, oMd_rn184, oMd_a345, oMd_n345, oMd_e345, oMd_ra345, oMd_rn345, oMd_a354, oMd_n354, oMd_e354, oMd_ra354, oMd_rn354, oMd_a365, oMd_n365, oMd_e365, oMd_ra365, oMd_rn365, oMd_a448, oMd_n448, oMd_e448, oMd_ra448, oMd_rn448, oMd_a465, oMd_n465, oMd_e465, oMd_ra465, oMd_rn465, q.2.1, q.1, e0, b4, md_in, hx]
  refine Eq.trans ?_ (L.trans ?_)
  · rfl
  · rw [g247_37]
    have : k = 0 ∨ k = 1 := by omega
    rcases this with rfl | rfl
    · simp (decide := true) (maxDischargeDepth := 4) only [g247_0, g247_1, g247_2, g247_5, g247_6, g247_7, g247_8, g247_9, g247_12, g247_15, g247_16, g247_19, g247_20, g247_21, g247_22, g247_25, g247_28, g247_29, g247_30, g247_31, g247_32, g247_33, g247_34, g247_35, g247_39, g247_42, g247_45, g247_46, g247_48, g247_51, g247_54, g247_57, g247_58, g247_61, g247_63, g247_66, g247_67, g247_68, g247_71, g247_74, g247_77, g247_78, g247_81, g247_82, g247_85, g247_86, rz_k_inl, rz_k_inr, Option.toList_some, Option.toList_none, List.cons_append, List.nil_append, List.append_nil, rz_up_s, rz_u_s, rz_up_n, rz_u_n, ne_eq, not_false_eq_true, not_true_eq_false, Nat.add_assoc, Nat.reduceAdd, reduceIte, Nat.add_eq_left, Nat.left_eq_add, Nat.add_left_cancel_iff, Nat.reduceEqDiff, Nat.add_right_cancel_iff, rz_nb0, rz_nb1, rz_nbb, rz_nbi, rz_isr, rz_zle, if_true, if_false, rz_bi0, rz_bi1, Bool.not_eq_true, Bool.not_eq_false, Bool.true_eq_false, Bool.false_eq_true, rz_ix_lit, cl_lit, Nat.reduceLT, bi_t, bi_f, decide_true, decide_false, Bool.not_false, Bool.not_true, Bool.and_true, Bool.true_and, Bool.and_false, Bool.false_and, show (nI 1000 < 1000) = False by decide, show nI 0 = 0 from rfl]
    · simp (decide := true) (maxDischargeDepth := 4) only [g247_0, g247_1, g247_2, g247_5, g247_6, g247_7, g247_8, g247_9, g247_12, g247_15, g247_16, g247_19, g247_20, g247_21, g247_22, g247_25, g247_28, g247_29, g247_30, g247_31, g247_32, g247_33, g247_34, g247_35, g247_39, g247_42, g247_45, g247_46, g247_48, g247_51, g247_54, g247_57, g247_58, g247_61, g247_63, g247_66, g247_67, g247_68, g247_71, g247_74, g247_77, g247_78, g247_81, g247_82, g247_85, g247_86, rz_k_inl, rz_k_inr, Option.toList_some, Option.toList_none, List.cons_append, List.nil_append, List.append_nil, rz_up_s, rz_u_s, rz_up_n, rz_u_n, ne_eq, not_false_eq_true, not_true_eq_false, Nat.add_assoc, Nat.reduceAdd, reduceIte, Nat.add_eq_left, Nat.left_eq_add, Nat.add_left_cancel_iff, Nat.reduceEqDiff, Nat.add_right_cancel_iff, rz_nb0, rz_nb1, rz_nbb, rz_nbi, rz_isr, rz_zle, if_true, if_false, rz_bi0, rz_bi1, Bool.not_eq_true, Bool.not_eq_false, Bool.true_eq_false, Bool.false_eq_true, rz_ix_lit, cl_lit, Nat.reduceLT, bi_t, bi_f, decide_true, decide_false, Bool.not_false, Bool.not_true, Bool.and_true, Bool.true_and, Bool.and_false, Bool.false_and, show (nI 1000 < 1000) = False by decide, show nI 1 = 1 from rfl]
end REF26
