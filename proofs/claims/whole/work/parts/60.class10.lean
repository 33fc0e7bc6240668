/-! FarthestHeir$Guess: what a duke was like, whom to ask -/
def fkS (C : List (Nat × Nat)) (R : Nat → Int32) (p k : Nat) : Int32 := farK C (apI (nI (trN k 0)) (rSh R p 0)) (apI (nI (trN k 1)) (rSh R p 1)) (apI (nI (trN k 2)) (rSh R p 2)) (rFt R p) (R (48 + p)) (R 59) (R 61) (nI p)
def sfP (C : List (Nat × Nat)) (R : Nat → Int32) (m p : Nat) (f : Int32) (k : Nat) : Bool := decide (p < m) && decide (fkS C R p k = f)
/-- by the lines of the first p -/
def lkB (C : List (Nat × Nat)) (R : Nat → Int32) (m : Nat) (bk : Nat → Int32) (k : Nat) : Nat → Bool
  | 0 => true
  | p + 1 => lkB C R m bk k p && (decide (bk p = -1) || sfP C R m p (bk p) k)
def likL (C : List (Nat × Nat)) (R : Nat → Int32) (m : Nat) (bk : Nat → Int32) (p : Nat) : List Nat := (List.range 1000).filter (fun k => lkB C R m bk k p)
def ftIs (ι : Nat → Nat → Int32) (c : Nat) (L : List Nat) : Prop := ι (c + 23) 3 = nI L.length ∧ L.length ≤ 1000 ∧ (∀ j, j < L.length → ι (c + 26) j = nI (L.getD j 0)) ∧ ∀ k ∈ L, k < 1000
/-- how many by each, and the most -/
def wsL (g : Nat → Nat) : List Nat → (Nat → Int32) × Int32 → (Nat → Int32) × Int32
  | [], s => s
  | k :: L, s => wsL g L (rz_u s.1 (g k) (s.1 (g k) + 1), if s.2 < s.1 (g k) + 1 then s.1 (g k) + 1 else s.2)
def fkN (C : List (Nat × Nat)) (R : Nat → Int32) (p k : Nat) : Nat := (fkS C R p k).toNatClampNeg
theorem fkN_ok (C : List (Nat × Nat)) (R : Nat → Int32) (p k : Nat) : fkN C R p k ≤ 99 ∧ fkS C R p k = nI (fkN C R p k) := by
  obtain ⟨n, hn, e⟩ := clp_nI (lawV (kn8 (apI (nI (trN k 0)) (rSh R p 0)) (apI (nI (trN k 1)) (rSh R p 1)) (apI (nI (trN k 2)) (rSh R p 2)) (rFt R p) (R (48 + p)) (R 59) (R 61) (nI p)) C)
  have e : fkS C R p k = nI n := e
  have : fkN C R p k = n := by unfold fkN; rw [e, nI_cl (by omega)]
  rw [this]
  exact ⟨hn, e⟩
theorem wsL_nn (g : Nat → Nat) : ∀ (L : List Nat) (s : (Nat → Int32) × Int32), ¬ s.2 < 0 → ¬ (wsL g L s).2 < 0
  | [], _, h => h
  | k :: L, s, h => by
    unfold wsL
    refine wsL_nn g L _ ?_
    dsimp only
    split
    · rename_i hlt
      intro z
      exact h (Int32.lt_trans hlt z)
    · exact h
def wstS (C : List (Nat × Nat)) (R : Nat → Int32) (L : List Nat) (p : Nat) : Int32 := (wsL (fkN C R p) L (fun _ => 0, 0)).2
def askS (C : List (Nat × Nat)) (R : Nat → Int32) (bk : Nat → Int32) (L : List Nat) : Nat → Int32 × Int32
  | 0 => (-1, -1)
  | p + 1 => if bk p = -1 ∧ ((askS C R bk L p).1 = -1 ∨ wstS C R L p < (askS C R bk L p).2) then (nI p, wstS C R L p) else askS C R bk L p
section CLASS10
variable {Z : rx_Z} {d : Nat} {h : Nat → Option rx_E} {ι : Nat → Nat → Int32} {w : Nat × Nat} {c l r m lv : Nat} {C : List (Nat × Nat)} {R : Nat → Int32} {dk : Option Nat}
theorem bk_farOf {a p : Nat} (ha : oBk h a) (hp : p < 8) : rz_f Z (d + 1) 3 [.ref a, .int (nI p)] (rz_mk h ι, w) = some (.inl (some (.int (ι (a + 1) p))), (rz_mk h ι, w)) := by
  have c2 : (nI p < Int32.ofNat 8) = True := by
    show (nI p < nI 8) = True
    rw [nI_lt2 (by omega) (by omega)]; simp [hp]
  have i1 : rz_ix (nI p) 8 := rz_ix_nat hp (by omega)
  rw [e3]
  simp (decide := true) (maxDischargeDepth := 4) only [g3_0, g3_1, g3_4, g3_5, g3_6, g3_9, g3_10, g3_13, g3_14, g3_17, g3_18, g3_19, g3_22, g3_23, rz_k_inl, rz_k_inr, Option.toList_some, Option.toList_none, List.cons_append, List.nil_append, List.append_nil, rz_up_s, rz_u_s, rz_up_n, rz_u_n, ne_eq, not_false_eq_true, not_true_eq_false, Nat.add_assoc, Nat.reduceAdd, reduceIte, Nat.add_eq_left, Nat.left_eq_add, Nat.add_left_cancel_iff, Nat.reduceEqDiff, Nat.add_right_cancel_iff, rz_nb0, rz_nb1, rz_nbb, rz_nbi, rz_isr, rz_zle, if_true, if_false, rz_bi0, rz_bi1, Bool.not_eq_true, Bool.not_eq_false, Bool.true_eq_false, Bool.false_eq_true, rz_ix_lit, cl_lit, Nat.reduceLT, bi_t, bi_f, decide_true, decide_false, Bool.not_false, Bool.not_true, Bool.and_true, Bool.true_and, Bool.and_false, Bool.false_and, oBk_c, oBk_f0, oBk_v0, oBk_f1, oBk_v1, oBk_i2, oBk_a1, oBk_n1, oBk_a2, oBk_n2, ha, nI_nn (show p < 2147483648 by omega), c2, i1, nI_cl (show p < 2147483648 by omega)]
theorem bk_has {a p : Nat} (ha : oBk h a) (hp : p < 8) : rz_f Z (d + 2) 2 [.ref a, .int (nI p)] (rz_mk h ι, w) = some (.inl (some (.int (bi (!decide (ι (a + 1) p = -1))))), (rz_mk h ι, w)) := by
  rw [e2]
  by_cases hv : ι (a + 1) p = -1
  · simp (decide := true) (maxDischargeDepth := 4) only [g2_0, g2_1, g2_2, g2_5, g2_6, g2_9, g2_10, g2_13, g2_14, rz_k_inl, rz_k_inr, Option.toList_some, Option.toList_none, List.cons_append, List.nil_append, List.append_nil, rz_up_s, rz_u_s, rz_up_n, rz_u_n, ne_eq, not_false_eq_true, not_true_eq_false, Nat.add_assoc, Nat.reduceAdd, reduceIte, Nat.add_eq_left, Nat.left_eq_add, Nat.add_left_cancel_iff, Nat.reduceEqDiff, Nat.add_right_cancel_iff, rz_nb0, rz_nb1, rz_nbb, rz_nbi, rz_isr, rz_zle, if_true, if_false, rz_bi0, rz_bi1, Bool.not_eq_true, Bool.not_eq_false, Bool.true_eq_false, Bool.false_eq_true, rz_ix_lit, cl_lit, Nat.reduceLT, bi_t, bi_f, decide_true, decide_false, Bool.not_false, Bool.not_true, Bool.and_true, Bool.true_and, Bool.and_false, Bool.false_and, oBk_c, oBk_f0, oBk_v0, oBk_f1, oBk_v1, oBk_i2, oBk_a1, oBk_n1, oBk_a2, oBk_n2, ha, bk_farOf ha hp, hv]
  · simp (decide := true) (maxDischargeDepth := 4) only [g2_0, g2_1, g2_2, g2_5, g2_6, g2_9, g2_10, g2_13, g2_14, rz_k_inl, rz_k_inr, Option.toList_some, Option.toList_none, List.cons_append, List.nil_append, List.append_nil, rz_up_s, rz_u_s, rz_up_n, rz_u_n, ne_eq, not_false_eq_true, not_true_eq_false, Nat.add_assoc, Nat.reduceAdd, reduceIte, Nat.add_eq_left, Nat.left_eq_add, Nat.add_left_cancel_iff, Nat.reduceEqDiff, Nat.add_right_cancel_iff, rz_nb0, rz_nb1, rz_nbb, rz_nbi, rz_isr, rz_zle, if_true, if_false, rz_bi0, rz_bi1, Bool.not_eq_true, Bool.not_eq_false, Bool.true_eq_false, Bool.false_eq_true, rz_ix_lit, cl_lit, Nat.reduceLT, bi_t, bi_f, decide_true, decide_false, Bool.not_false, Bool.not_true, Bool.and_true, Bool.true_and, Bool.and_false, Bool.false_and, oBk_c, oBk_f0, oBk_v0, oBk_f1, oBk_v1, oBk_i2, oBk_a1, oBk_n1, oBk_a2, oBk_n2, ha, bk_farOf ha hp, hv]
/-- what the law regards and what is minded is person p -/
def rgd (ι : Nat → Nat → Int32) (c l : Nat) (R : Nat → Int32) (p : Nat) : Prop := (∀ i, i < 30 → ι (c + 25) i = gpS R p i) ∧ ι (l + 3) 3 = rFt R p ∧ ι (l + 3) 4 = R (48 + p) ∧ ι (l + 3) 5 = R 59 ∧ ι (l + 3) 6 = R 61 ∧ ι (l + 3) 7 = nI p
theorem gs_kind (q : QC Z h ι c l r C R m dk lv) {p : Nat} (hr : rgd ι c l R p) {k : Nat} (hk : k < 1000) : ∃ ι', rz_f Z (d + 3) 35 [.ref (c + 23), .ref l, .int (nI k)] (rz_mk h ι, w) = some (.inl (some (.int (fkS C R p k))), (rz_mk h ι', w)) ∧ fr (lwS l) ι ι' ∧ rgd ι' c l R p := by
  obtain ⟨r1, r2, r3, r4, r5, r6⟩ := hr
  have hl := q.2.2.1
  obtain ⟨ι', g1, g2, g3⟩ := gs_ffk (d := d) (w := w) (kn := ι (l + 3)) q r1 (fun j _ _ => rfl) hk
  have v0 : gpS R p (k / 100) = apI (nI (trN k 0)) (rSh R p 0) := by
    unfold gpS trN; rw [show k / 100 % 10 = k / 100 by omega, show k / 100 / 10 = 0 by omega]; rfl
  have v1 : gpS R p (10 + k / 10 % 10) = apI (nI (trN k 1)) (rSh R p 1) := by
    unfold gpS trN; rw [show (10 + k / 10 % 10) % 10 = k / 10 % 10 by omega, show (10 + k / 10 % 10) / 10 = 1 by omega]; rfl
  have v2 : gpS R p (20 + k % 10) = apI (nI (trN k 2)) (rSh R p 2) := by
    unfold gpS trN; rw [show (20 + k % 10) % 10 = k % 10 by omega, show (20 + k % 10) / 10 = 2 by omega]; rfl
  rw [v0, v1, v2, r2, r3, r4, r5, r6] at g1
  refine ⟨ι', g1, g2, fun i hi => ?_, ?_, ?_, ?_, ?_, ?_⟩
  · rw [g2 (c + 25) (by unfold lwS; omega)]; exact r1 i hi
  · rw [g3 3 (by omega) (by omega)]; exact r2
  · rw [g3 4 (by omega) (by omega)]; exact r3
  · rw [g3 5 (by omega) (by omega)]; exact r4
  · rw [g3 6 (by omega) (by omega)]; exact r5
  · rw [g3 7 (by omega) (by omega)]; exact r6
/-- regard and mind -/
theorem gs_regard (q : QC Z h ι c l r C R m dk lv) {p : Nat} (hp : p < 8) : ∃ ι1 ι2, rz_f Z (d + 2) 45 [.ref l, .ref r, .int (nI p)] (rz_mk h ι, w) = some (.inl none, (rz_mk h ι1, w)) ∧ rz_f Z (d + 2) 34 [.ref (c + 23), .ref r, .int (nI p)] (rz_mk h ι1, w) = some (.inl none, (rz_mk h ι2, w)) ∧ fr (fun a => lwS l a ∨ a = c + 25) ι ι2 ∧ rgd ι2 c l R p := by
  have qq := q
  obtain ⟨q1, ⟨pv, q2⟩, q3, q4, q5, q6, q7, q8, q9, q10, q11, q12, q13, q14⟩ := q
  have g := lw_regard (Z := Z) (d := d) (w := w) (ι := ι) q5 (by omega) q6 hp
  rw [q13] at g
  obtain ⟨ι1, hι1⟩ : ∃ ι1, ι1 = rz_rw ι (l + 3) (rz_u (rz_u (rz_u (rz_u (rz_u (ι (l + 3)) 3 (rFt R p)) 4 (R (48 + p))) 5 (R 59)) 6 (R 61)) 7 (nI p)) := ⟨_, rfl⟩
  rw [← hι1] at g
  have f1 : fr (lwS l) ι ι1 := fun a ha => by rw [hι1]; exact rz_rw_n (fun e => ha (Or.inr e))
  have md := gs_mind (d := d) (w := w) (qq.fr (frLaw q3 f1)) hp
  have n3 : l + 3 ≠ c + 25 := by omega
  refine ⟨ι1, rz_rw ι1 (c + 25) (gpK R p (ι1 (c + 25)) 30), g, md, fun a ha => ?_, fun i hi => ?_, ?_, ?_, ?_, ?_, ?_⟩
  · rw [rz_rw_n (fun e => ha (Or.inr e))]; exact f1 a (fun z => ha (Or.inl z))
  · rw [rz_rw_s]; exact gpK_at _ _ _ 30 i hi
  all_goals (rw [rz_rw_n n3, hι1, rz_rw_s]; rfl)
def gsS (c l a : Nat) : Prop := lwS l a ∨ a = c + 23 ∨ a = c + 24 ∨ a = c + 25 ∨ a = c + 26
theorem gsS_sc (hl : l = c + 5 ∨ l = c + 33) {a : Nat} (h : gsS c l a) : scC c a := by unfold gsS lwS at h; unfold scC; omega
theorem getD_app {L M : List Nat} {j : Nat} : (L ++ M).getD (L.length + j) 0 = M.getD j 0 := by
  simp [List.getD_eq_getElem?_getD, List.getElem?_append_right]
theorem sift_loop (q : QC Z h ι c l r C R m dk lv) {p : Nat} (hp : p < 8) (f : Int32) {N : Nat} (hN : N ≤ 1000) : ∀ (rest done : List Nat) (ι1 : Nat → Nat → Int32), done.length + rest.length = N → (∀ k ∈ rest, k < 1000) → (∀ k ∈ done, k < 1000) → fr (gsS c l) ι ι1 → rgd ι1 c l R p → ι1 (c + 23) 3 = nI N → (∀ j, j < (done.filter (sfP C R m p f)).length → ι1 (c + 26) j = nI ((done.filter (sfP C R m p f)).getD j 0)) → (∀ j, j < rest.length → ι1 (c + 26) (done.length + j) = nI (rest.getD j 0)) → ∃ ι', rg Z (d + 3) rx_m37 18 [some (.ref (c + 23)), some (.ref r), some (.ref l), some (.int (nI p)), some (.int f), some (.int (nI (done.filter (sfP C R m p f)).length)), some (.int (nI done.length))] [] (rz_mk h ι1, w) = some (.inl none, (rz_mk h ι', w)) ∧ ftIs ι' c ((done ++ rest).filter (sfP C R m p f)) ∧ fr (gsS c l) ι ι' := by
  intro rest
  induction rest with
  | nil =>
    intro done ι1 hl hr hdn hf hrg hm hd ht
    obtain ⟨q1, ⟨pv, q2⟩, q3, q4, q5, q6, q7, q8, q9, q10, q11, q12, q13, q14⟩ := q.fr (hf.mono (fun a ha => gsS_sc q.2.2.1 ha))
    have hlN : done.length = N := by simpa using hl
    have cc : (nI done.length < nI N) = False := by rw [hlN, nI_lt2 (by omega) (by omega)]; simp
    have hfl : (done.filter (sfP C R m p f)).length ≤ 1000 := Nat.le_trans (List.length_filter_le _ _) (by omega)
    refine ⟨rz_up ι1 (c + 23) 3 (nI (done.filter (sfP C R m p f)).length), ?_, ?_, hf.up (Or.inr (Or.inl rfl))⟩
    · rw [g37_18]
      simp (decide := true) (maxDischargeDepth := 4) only [g37_0, g37_1, g37_3, g37_4, g37_5, g37_6, g37_9, g37_10, g37_11, g37_12, g37_15, g37_16, g37_20, g37_21, g37_24, g37_27, g37_29, g37_30, g37_33, g37_34, g37_37, g37_38, g37_39, g37_42, g37_45, g37_46, g37_47, g37_48, g37_51, g37_53, g37_54, g37_57, g37_59, g37_62, g37_63, g37_66, g37_68, g37_69, g37_72, g37_74, g37_75, g37_76, g37_79, g37_82, g37_85, g37_86, g37_88, g37_91, rz_k_inl, rz_k_inr, Option.toList_some, Option.toList_none, List.cons_append, List.nil_append, List.append_nil, rz_up_s, rz_u_s, rz_up_n, rz_u_n, ne_eq, not_false_eq_true, not_true_eq_false, Nat.add_assoc, Nat.reduceAdd, reduceIte, Nat.add_eq_left, Nat.left_eq_add, Nat.add_left_cancel_iff, Nat.reduceEqDiff, Nat.add_right_cancel_iff, rz_nb0, rz_nb1, rz_nbb, rz_nbi, rz_isr, rz_zle, if_true, if_false, rz_bi0, rz_bi1, Bool.not_eq_true, Bool.not_eq_false, Bool.true_eq_false, Bool.false_eq_true, rz_ix_lit, cl_lit, Nat.reduceLT, bi_t, bi_f, decide_true, decide_false, Bool.not_false, Bool.not_true, Bool.and_true, Bool.true_and, Bool.and_false, Bool.false_and, oGs_c, oGs_f0, oGs_v0, oGs_f1, oGs_v1, oGs_f2, oGs_v2, oGs_i3, oGs_i4, oGs_i5, oGs_a1, oGs_n1, oGs_a2, oGs_n2, oGs_a3, oGs_n3, q1, q9, hm, cc]
    · rw [List.append_nil]
      refine ⟨by rw [rz_up_s, rz_u_s], hfl, fun j hj => by rw [rz_up_n (by omega)]; exact hd j hj, fun k hk => hdn k (List.mem_filter.mp hk).1⟩
  | cons k rest ih =>
    intro done ι1 hl hr hdn hf hrg hm hd ht
    have hl1 : done.length < N := by simp at hl; omega
    have qf := q.fr (hf.mono (fun a ha => gsS_sc q.2.2.1 ha))
    obtain ⟨q1, ⟨pv, q2⟩, q3, q4, q5, q6, q7, q8, q9, q10, q11, q12, q13, q14⟩ := q.fr (hf.mono (fun a ha => gsS_sc q.2.2.1 ha))
    have hk := hr k List.mem_cons_self
    have cc : (nI done.length < nI N) = True := by rw [nI_lt2 (by omega) (by omega)]; simp [hl1]
    have c2 : (nI done.length < Int32.ofNat 1000) = True := by
      show (nI done.length < nI 1000) = True
      rw [nI_lt2 (by omega) (by omega)]; simp; omega
    have i1 : rz_ix (nI done.length) 1000 := rz_ix_nat (by omega) (by omega)
    have hh := rm_has (Z := Z) (d := d + 2) (w := w) (ι := ι1) q6 (by rw [q13]; exact q14.1) q14.2.1 (nI p)
    have hm8 := q14.2.1
    rw [show (!decide (nI p < 0) && decide (nI p < nI m)) = decide (p < m) by simp [nI_nn (show p < 2147483648 by omega), nI_lt2 (show p < 2147483648 by omega) (show m < 2147483648 by omega)]] at hh
    have hv : ι1 (c + 26) done.length = nI k := by simpa using ht 0 (by simp)
    have hl2 : (done ++ [k]).length + rest.length = N := by simp at hl ⊢; omega
    have hr2 : ∀ x ∈ rest, x < 1000 := fun x hx => hr x (List.mem_cons_of_mem _ hx)
    have hdn2 : ∀ x ∈ done ++ [k], x < 1000 := fun x hx => by
      rcases List.mem_append.mp hx with h1 | h1
      · exact hdn x h1
      · rw [List.mem_singleton.mp h1]; exact hk
    have ea : done ++ k :: rest = done ++ [k] ++ rest := by simp
    have el : (done ++ [k]).length = done.length + 1 := by simp
    rw [ea]
    have no : ∀ ι2, sfP C R m p f k = false → fr (gsS c l) ι ι2 → rgd ι2 c l R p → ι2 (c + 23) 3 = nI N → ι2 (c + 26) = ι1 (c + 26) → ∃ ι', rg Z (d + 3) rx_m37 18 [some (.ref (c + 23)), some (.ref r), some (.ref l), some (.int (nI p)), some (.int f), some (.int (nI (done.filter (sfP C R m p f)).length)), some (.int (nI (done.length + 1)))] [] (rz_mk h ι2, w) = some (.inl none, (rz_mk h ι', w)) ∧ ftIs ι' c ((done ++ [k] ++ rest).filter (sfP C R m p f)) ∧ fr (gsS c l) ι ι' := by
      intro ι2 hP hf2 hrg2 hm2 h26
      have ef : (done ++ [k]).filter (sfP C R m p f) = done.filter (sfP C R m p f) := by simp [List.filter_append, hP]
      have := ih (done ++ [k]) ι2 hl2 hr2 hdn2 hf2 hrg2 hm2 (by rw [ef, h26]; exact hd) (fun j hj => by
        rw [h26, el, Nat.add_assoc, Nat.add_comm 1 j]
        have := ht (j + 1) (by simp; omega)
        simpa using this)
      rw [ef, el] at this
      exact this
    by_cases hpm : p < m
    · obtain ⟨ι2, g1, g2, g3⟩ := gs_kind (d := d) (w := w) qf hrg hk
      have f2 := hf.trans (g2.mono (fun a ha => Or.inl ha))
      have m2 : ι2 (c + 23) 3 = nI N := by rw [g2 (c + 23) (by unfold lwS; omega)]; exact hm
      have h26 : ι2 (c + 26) = ι1 (c + 26) := g2 (c + 26) (by unfold lwS; omega)
      by_cases hfk : fkS C R p k = f
      · have hP : sfP C R m p f k = true := by simp [sfP, hpm, hfk]
        have ef : (done ++ [k]).filter (sfP C R m p f) = done.filter (sfP C R m p f) ++ [k] := by simp [List.filter_append, hP]
        have hfl : (done.filter (sfP C R m p f)).length ≤ done.length := List.length_filter_le _ _
        generalize hD : done.filter (sfP C R m p f) = D at *
        have i2 : rz_ix (nI D.length) 1000 := rz_ix_nat (by omega) (by omega)
        obtain ⟨ι3, hι3⟩ : ∃ ι3, ι3 = rz_up ι2 (c + 26) D.length (nI k) := ⟨_, rfl⟩
        have f3 : fr (gsS c l) ι ι3 := by rw [hι3]; exact f2.up (Or.inr (Or.inr (Or.inr (Or.inr rfl))))
        have e26 : ι3 (c + 26) = rz_u (ι1 (c + 26)) D.length (nI k) := by rw [hι3, rz_up_s, h26]
        have rg3 : rgd ι3 c l R p := by
          obtain ⟨a1, a2, a3, a4, a5, a6⟩ := g3
          have n1 : c + 25 ≠ c + 26 := by omega
          have n2 : l + 3 ≠ c + 26 := by omega
          refine ⟨fun i hi => ?_, ?_, ?_, ?_, ?_, ?_⟩
          · rw [hι3, rz_up_n n1]; exact a1 i hi
          all_goals (rw [hι3, rz_up_n n2]; assumption)
        have := ih (done ++ [k]) ι3 hl2 hr2 hdn2 f3 rg3 (by rw [hι3, rz_up_n (by omega)]; exact m2) (by
          rw [ef]
          intro j hj
          rw [e26]
          simp only [List.length_append, List.length_singleton] at hj
          by_cases ej : j = D.length
          · subst ej
            rw [rz_u_s]
            simp [List.getD_eq_getElem?_getD]
          · rw [rz_u_n ej, hd j (by omega)]
            congr 1
            simp [List.getD_eq_getElem?_getD, List.getElem?_append_left (show j < D.length by omega)]) (fun j hj => by
          rw [e26, el, rz_u_n (by omega), Nat.add_assoc, Nat.add_comm 1 j]
          have := ht (j + 1) (by simp; omega)
          simpa using this)
        rw [ef, el, List.length_append, List.length_singleton] at this
        obtain ⟨ι', k1, k2, k3⟩ := this
        refine ⟨ι', ?_, k2, k3⟩
        rw [g37_18]
        have hv2 : ι2 (c + 26) done.length = nI k := by rw [h26]; exact hv
        simp (decide := true) (maxDischargeDepth := 4) only [g37_0, g37_1, g37_3, g37_4, g37_5, g37_6, g37_9, g37_10, g37_11, g37_12, g37_15, g37_16, g37_20, g37_21, g37_24, g37_27, g37_29, g37_30, g37_33, g37_34, g37_37, g37_38, g37_39, g37_42, g37_45, g37_46, g37_47, g37_48, g37_51, g37_53, g37_54, g37_57, g37_59, g37_62, g37_63, g37_66, g37_68, g37_69, g37_72, g37_74, g37_75, g37_76, g37_79, g37_82, g37_85, g37_86, g37_88, g37_91, rz_k_inl, rz_k_inr, Option.toList_some, Option.toList_none, List.cons_append, List.nil_append, List.append_nil, rz_up_s, rz_u_s, rz_up_n, rz_u_n, ne_eq, not_false_eq_true, not_true_eq_false, Nat.add_assoc, Nat.reduceAdd, reduceIte, Nat.add_eq_left, Nat.left_eq_add, Nat.add_left_cancel_iff, Nat.reduceEqDiff, Nat.add_right_cancel_iff, rz_nb0, rz_nb1, rz_nbb, rz_nbi, rz_isr, rz_zle, if_true, if_false, rz_bi0, rz_bi1, Bool.not_eq_true, Bool.not_eq_false, Bool.true_eq_false, Bool.false_eq_true, rz_ix_lit, cl_lit, Nat.reduceLT, bi_t, bi_f, decide_true, decide_false, Bool.not_false, Bool.not_true, Bool.and_true, Bool.true_and, Bool.and_false, Bool.false_and, oGs_c, oGs_f0, oGs_v0, oGs_f1, oGs_v1, oGs_f2, oGs_v2, oGs_i3, oGs_i4, oGs_i5, oGs_a1, oGs_n1, oGs_a2, oGs_n2, oGs_a3, oGs_n3, oRl_c, oRl_f0, oRl_v0, oRl_f1, oRl_v1, oRl_f2, oRl_v2, oRl_i3, oRl_i4, oRl_i5, oRl_i6, oRl_i7, oRl_i8, oRl_a1, oRl_n1, oRl_a2, oRl_n2, oRl_a3, oRl_n3, q1, q6, q9, hm, cc, c2, i1, hh, hpm, hv, nI_cl (show done.length < 2147483648 by omega), g1, hfk, hv2, i2, nI_cl (show D.length < 2147483648 by omega), nI_1, ← hι3]
        exact k1
      · have hP : sfP C R m p f k = false := by simp [sfP, hpm, hfk]
        obtain ⟨ι', k1, k2, k3⟩ := no ι2 hP f2 g3 m2 h26
        refine ⟨ι', ?_, k2, k3⟩
        rw [g37_18]
        simp (decide := true) (maxDischargeDepth := 4) only [g37_0, g37_1, g37_3, g37_4, g37_5, g37_6, g37_9, g37_10, g37_11, g37_12, g37_15, g37_16, g37_20, g37_21, g37_24, g37_27, g37_29, g37_30, g37_33, g37_34, g37_37, g37_38, g37_39, g37_42, g37_45, g37_46, g37_47, g37_48, g37_51, g37_53, g37_54, g37_57, g37_59, g37_62, g37_63, g37_66, g37_68, g37_69, g37_72, g37_74, g37_75, g37_76, g37_79, g37_82, g37_85, g37_86, g37_88, g37_91, rz_k_inl, rz_k_inr, Option.toList_some, Option.toList_none, List.cons_append, List.nil_append, List.append_nil, rz_up_s, rz_u_s, rz_up_n, rz_u_n, ne_eq, not_false_eq_true, not_true_eq_false, Nat.add_assoc, Nat.reduceAdd, reduceIte, Nat.add_eq_left, Nat.left_eq_add, Nat.add_left_cancel_iff, Nat.reduceEqDiff, Nat.add_right_cancel_iff, rz_nb0, rz_nb1, rz_nbb, rz_nbi, rz_isr, rz_zle, if_true, if_false, rz_bi0, rz_bi1, Bool.not_eq_true, Bool.not_eq_false, Bool.true_eq_false, Bool.false_eq_true, rz_ix_lit, cl_lit, Nat.reduceLT, bi_t, bi_f, decide_true, decide_false, Bool.not_false, Bool.not_true, Bool.and_true, Bool.true_and, Bool.and_false, Bool.false_and, oGs_c, oGs_f0, oGs_v0, oGs_f1, oGs_v1, oGs_f2, oGs_v2, oGs_i3, oGs_i4, oGs_i5, oGs_a1, oGs_n1, oGs_a2, oGs_n2, oGs_a3, oGs_n3, oRl_c, oRl_f0, oRl_v0, oRl_f1, oRl_v1, oRl_f2, oRl_v2, oRl_i3, oRl_i4, oRl_i5, oRl_i6, oRl_i7, oRl_i8, oRl_a1, oRl_n1, oRl_a2, oRl_n2, oRl_a3, oRl_n3, q1, q6, q9, hm, cc, c2, i1, hh, hpm, hv, nI_cl (show done.length < 2147483648 by omega), g1, hfk, nI_1]
        exact k1
    · have hP : sfP C R m p f k = false := by simp [sfP, hpm]
      obtain ⟨ι', k1, k2, k3⟩ := no ι1 hP hf hrg hm rfl
      refine ⟨ι', ?_, k2, k3⟩
      rw [g37_18]
      simp (decide := true) (maxDischargeDepth := 4) only [g37_0, g37_1, g37_3, g37_4, g37_5, g37_6, g37_9, g37_10, g37_11, g37_12, g37_15, g37_16, g37_20, g37_21, g37_24, g37_27, g37_29, g37_30, g37_33, g37_34, g37_37, g37_38, g37_39, g37_42, g37_45, g37_46, g37_47, g37_48, g37_51, g37_53, g37_54, g37_57, g37_59, g37_62, g37_63, g37_66, g37_68, g37_69, g37_72, g37_74, g37_75, g37_76, g37_79, g37_82, g37_85, g37_86, g37_88, g37_91, rz_k_inl, rz_k_inr, Option.toList_some, Option.toList_none, List.cons_append, List.nil_append, List.append_nil, rz_up_s, rz_u_s, rz_up_n, rz_u_n, ne_eq, not_false_eq_true, not_true_eq_false, Nat.add_assoc, Nat.reduceAdd, reduceIte, Nat.add_eq_left, Nat.left_eq_add, Nat.add_left_cancel_iff, Nat.reduceEqDiff, Nat.add_right_cancel_iff, rz_nb0, rz_nb1, rz_nbb, rz_nbi, rz_isr, rz_zle, if_true, if_false, rz_bi0, rz_bi1, Bool.not_eq_true, Bool.not_eq_false, Bool.true_eq_false, Bool.false_eq_true, rz_ix_lit, cl_lit, Nat.reduceLT, bi_t, bi_f, decide_true, decide_false, Bool.not_false, Bool.not_true, Bool.and_true, Bool.true_and, Bool.and_false, Bool.false_and, oGs_c, oGs_f0, oGs_v0, oGs_f1, oGs_v1, oGs_f2, oGs_v2, oGs_i3, oGs_i4, oGs_i5, oGs_a1, oGs_n1, oGs_a2, oGs_n2, oGs_a3, oGs_n3, oRl_c, oRl_f0, oRl_v0, oRl_f1, oRl_v1, oRl_f2, oRl_v2, oRl_i3, oRl_i4, oRl_i5, oRl_i6, oRl_i7, oRl_i8, oRl_a1, oRl_n1, oRl_a2, oRl_n2, oRl_a3, oRl_n3, q1, q6, q9, hm, cc, c2, i1, hh, hpm, nI_1]
      exact k1
theorem gs_sift (q : QC Z h ι c l r C R m dk lv) {p : Nat} (hp : p < 8) (f : Int32) {L : List Nat} (hL : ftIs ι c L) : ∃ ι', rz_f Z (d + 4) 37 [.ref (c + 23), .ref r, .ref l, .int (nI p), .int f] (rz_mk h ι, w) = some (.inl none, (rz_mk h ι', w)) ∧ ftIs ι' c (L.filter (sfP C R m p f)) ∧ fr (gsS c l) ι ι' := by
  have qq := q
  obtain ⟨q1, ⟨pv, q2⟩, q3, q4, q5, q6, q7, q8, q9, q10, q11, q12, q13, q14⟩ := q
  obtain ⟨ι1, ι2, g1, g2, g3, g4⟩ := gs_regard (d := d + 1) (w := w) qq hp
  obtain ⟨l1, l2, l3, l4⟩ := hL
  have e23 : ι2 (c + 23) = ι (c + 23) := g3 (c + 23) (by unfold lwS; omega)
  have e26 : ι2 (c + 26) = ι (c + 26) := g3 (c + 26) (by unfold lwS; omega)
  obtain ⟨ι', k1, k2, k3⟩ := sift_loop (d := d) (w := w) qq hp f l2 L [] ι2 (by simp) l4 (fun k hk => by cases hk) (g3.mono (fun a ha => by unfold gsS; rcases ha with ha | ha; exact Or.inl ha; exact Or.inr (Or.inr (Or.inr (Or.inl ha))))) g4 (by rw [e23]; exact l1) (fun j hj => by simp at hj) (fun j hj => by rw [e26]; simpa using l3 j hj)
  refine ⟨ι', ?_, k2, k3⟩
  rw [e37]
  simp (decide := true) (maxDischargeDepth := 4) only [g37_0, g37_1, g37_3, g37_4, g37_5, g37_6, g37_9, g37_10, g37_11, g37_12, g37_15, g37_16, g37_20, g37_21, g37_24, g37_27, g37_29, g37_30, g37_33, g37_34, g37_37, g37_38, g37_39, g37_42, g37_45, g37_46, g37_47, g37_48, g37_51, g37_53, g37_54, g37_57, g37_59, g37_62, g37_63, g37_66, g37_68, g37_69, g37_72, g37_74, g37_75, g37_76, g37_79, g37_82, g37_85, g37_86, g37_88, g37_91, rz_k_inl, rz_k_inr, Option.toList_some, Option.toList_none, List.cons_append, List.nil_append, List.append_nil, rz_up_s, rz_u_s, rz_up_n, rz_u_n, ne_eq, not_false_eq_true, not_true_eq_false, Nat.add_assoc, Nat.reduceAdd, reduceIte, Nat.add_eq_left, Nat.left_eq_add, Nat.add_left_cancel_iff, Nat.reduceEqDiff, Nat.add_right_cancel_iff, rz_nb0, rz_nb1, rz_nbb, rz_nbi, rz_isr, rz_zle, if_true, if_false, rz_bi0, rz_bi1, Bool.not_eq_true, Bool.not_eq_false, Bool.true_eq_false, Bool.false_eq_true, rz_ix_lit, cl_lit, Nat.reduceLT, bi_t, bi_f, decide_true, decide_false, Bool.not_false, Bool.not_true, Bool.and_true, Bool.true_and, Bool.and_false, Bool.false_and, oLw_c, oLw_f0, oLw_v0, oLw_f1, oLw_v1, oLw_f2, oLw_v2, oLw_i3, oLw_a1, oLw_n1, oLw_a2, oLw_n2, oLw_a3, oLw_n3, oGs_c, oGs_f0, oGs_v0, oGs_f1, oGs_v1, oGs_f2, oGs_v2, oGs_i3, oGs_i4, oGs_i5, oGs_a1, oGs_n1, oGs_a2, oGs_n2, oGs_a3, oGs_n3, q5, q9, g1, g2]
  exact k1
end CLASS10
