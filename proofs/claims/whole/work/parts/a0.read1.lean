/-! the reference reads: signs, numbers, words -/
def dgF2 (v x : Int32) : Int32 := if 100000 < 10 * v + x - 48 then 100000 else 10 * v + x - 48
/-- what two ways of reckoning a number have in common: the number itself, to 999 -/
def nRel (v1 v2 : Int32) : Prop := (∃ a : Nat, a ≤ 999 ∧ v1 = nI a ∧ v2 = nI a) ∨ ∃ a c : Nat, 999 < a ∧ a ≤ 10000 ∧ 999 < c ∧ c ≤ 100000 ∧ v1 = nI a ∧ v2 = nI c
theorem isD_n {x : Int32} (h : isD x = true) : ∃ t : Nat, t ≤ 9 ∧ x = nI (48 + t) := by
  unfold isD at h
  simp only [Bool.and_eq_true, Bool.not_eq_true', decide_eq_false_iff_not] at h
  have h0 : ¬ x < 0 := fun z => h.1 (Int32.lt_trans z (by decide))
  obtain ⟨n, n1, n2⟩ := nI_of2 (x := x) (M := 57) (n := 57) (by decide) h0 (Int32.not_lt.mp h.2)
  subst n2
  have := h.1
  rw [nI_ltL (by omega) (by decide)] at this
  exact ⟨n - 48, by omega, by congr 1; simp at this; omega⟩
theorem isS_n {x : Int32} (h : isS x = true) : ∃ t : Nat, 97 ≤ t ∧ t ≤ 122 ∧ x = nI t := by
  unfold isS at h
  simp only [Bool.and_eq_true, Bool.not_eq_true', decide_eq_false_iff_not] at h
  have h0 : ¬ x < 0 := fun z => h.1 (Int32.lt_trans z (by decide))
  obtain ⟨n, n1, n2⟩ := nI_of2 (x := x) (M := 122) (n := 122) (by decide) h0 (Int32.not_lt.mp h.2)
  subst n2
  have := h.1
  rw [nI_ltL (by omega) (by decide)] at this
  exact ⟨n, by simp at this; omega, n1, rfl⟩
theorem nRel.step {v1 v2 x : Int32} (h : nRel v1 v2) (hx : isD x = true) : nRel (dgF1 v1 x) (dgF2 v2 x) := by
  obtain ⟨t, t1, t2⟩ := isD_n hx
  have e2 : ∀ c : Nat, 10 * nI c + x - 48 = nI (10 * c + t) := by
    intro c
    rw [t2]
    show nI 10 * nI c + nI (48 + t) - nI 48 = _
    rw [pk_mul, nI_add, pk_sub (by omega)]; congr 1; omega
  have e1 : ∀ c : Nat, nI c * 10 + x - 48 = nI (10 * c + t) := by
    intro c
    rw [t2]
    show nI c * nI 10 + nI (48 + t) - nI 48 = _
    rw [pk_mul, nI_add, pk_sub (by omega)]; congr 1; omega
  unfold dgF1 dgF2
  rcases h with ⟨a, a1, a2, a3⟩ | ⟨a, c, a1, a2, c1, c2, a3, a4⟩
  · rw [a2, a3, e1, e2, if_neg (by rw [nI_Llt (by omega) (by decide)]; simp; omega), if_neg (by rw [nI_Llt (by omega) (by decide)]; simp; omega)]
    by_cases hc : 10 * a + t ≤ 999
    · left; exact ⟨_, hc, rfl, rfl⟩
    · right; exact ⟨_, _, by omega, by omega, by omega, by omega, rfl, rfl⟩
  · rw [a3, a4, e2, if_pos (by rw [nI_Llt (by omega) (by decide)]; exact a1)]
    right
    by_cases hc : 100000 < 10 * c + t
    · rw [if_pos (by rw [nI_Llt (by omega) (by decide)]; exact hc)]
      exact ⟨a, 100000, a1, a2, by omega, by omega, rfl, rfl⟩
    · rw [if_neg (by rw [nI_Llt (by omega) (by decide)]; exact hc)]
      exact ⟨a, 10 * c + t, a1, a2, by omega, by omega, rfl, rfl⟩
theorem dg_rel (B : Nat → Int32) : ∀ (k p : Nat) (v1 v2 : Int32), nRel v1 v2 → (dgW dgF1 B k p v1).1 = (dgW dgF2 B k p v2).1 ∧ nRel (dgW dgF1 B k p v1).2 (dgW dgF2 B k p v2).2
  | 0, _, _, _, h => ⟨rfl, h⟩
  | k + 1, p, v1, v2, h => by
    unfold dgW
    by_cases hd : isD (B p) = true
    · rw [if_pos hd, if_pos hd]
      exact dg_rel B k (p + 1) _ _ (h.step hd)
    · rw [if_neg hd, if_neg hd]
      exact ⟨rfl, h⟩
theorem nRel.lt {v1 v2 m : Int32} (h : nRel v1 v2) (hm : m < 1000) : ((!decide (v2 < 0) && !decide (m < v2)) = !decide (m < v1)) ∧ (¬ m < v1 → v1 = v2) := by
  rcases h with ⟨a, a1, a2, a3⟩ | ⟨a, c, a1, a2, c1, c2, a3, a4⟩
  · rw [a2, a3]
    refine ⟨?_, fun _ => rfl⟩
    have := nI_nn (show a < 2147483648 by omega)
    simp [this]
  · have t1 : m < v1 := by
      rw [a3]
      exact Int32.lt_of_lt_of_le hm (by rw [Int32.le_iff_toInt_le, nI_toInt (by omega), show (1000 : Int32).toInt = 1000 by decide]; omega)
    have t2 : m < v2 := by
      rw [a4]
      exact Int32.lt_of_lt_of_le hm (by rw [Int32.le_iff_toInt_le, nI_toInt (by omega), show (1000 : Int32).toInt = 1000 by decide]; omega)
    exact ⟨by simp [t1, t2], fun z => absurd t1 z⟩
/-- letters, by 27s -/
def encF (g : Nat → Nat) : Nat → Nat
  | 0 => 0
  | k + 1 => 27 * encF g k + g k
theorem encF_inj : ∀ (k k' : Nat) {g g' : Nat → Nat}, (∀ i, i < k → 1 ≤ g i ∧ g i ≤ 26) → (∀ i, i < k' → 1 ≤ g' i ∧ g' i ≤ 26) → encF g k = encF g' k' → k = k' ∧ ∀ i, i < k → g i = g' i
  | 0, 0, _, _, _, _, _ => ⟨rfl, fun i hi => by omega⟩
  | 0, k' + 1, g, g', _, h', e => by
    have := h' k' (by omega)
    simp only [encF] at e
    omega
  | k + 1, 0, g, g', h, _, e => by
    have := h k (by omega)
    simp only [encF] at e
    omega
  | k + 1, k' + 1, g, g', h, h', e => by
    have a := h k (by omega)
    have b := h' k' (by omega)
    simp only [encF] at e
    obtain ⟨i1, i2⟩ := encF_inj k k' (fun i hi => h i (by omega)) (fun i hi => h' i (by omega)) (show encF g k = encF g' k' by omega)
    subst i1
    refine ⟨rfl, fun i hi => ?_⟩
    by_cases ei : i = k
    · subst ei; omega
    · exact i2 i (by omega)
theorem encF_lt : ∀ (k : Nat) {g : Nat → Nat}, k ≤ 6 → (∀ i, i < k → 1 ≤ g i ∧ g i ≤ 26) → encF g k < 27 ^ k
  | 0, _, _, _ => by rw [encF]; decide
  | k + 1, g, hk, h => by
    have := encF_lt k (by omega) (fun i hi => h i (by omega))
    have := h k (by omega)
    rw [encF, Nat.pow_succ]
    omega
def wvL (B : Nat → Int32) (p : Nat) : Nat → Int32
  | 0 => 0
  | k + 1 => if k < 6 then 27 * wvL B p k + B (p + k) - 97 + 1 else wvL B p k
def letN (B : Nat → Int32) (p i : Nat) : Nat := (B (p + i)).toNatClampNeg - 96
theorem wvL_enc {B : Nat → Int32} {p : Nat} : ∀ k, k ≤ 6 → (∀ i, i < k → isS (B (p + i)) = true) → wvL B p k = nI (encF (letN B p) k)
  | 0, _, _ => rfl
  | k + 1, hk, h => by
    obtain ⟨t, t1, t2, t3⟩ := isS_n (h k (by omega))
    have lt : letN B p k = t - 96 := by unfold letN; rw [t3, nI_cl (by omega)]
    rw [wvL, if_pos (by omega), wvL_enc k (by omega) (fun i hi => h i (by omega)), t3, encF, lt]
    show nI 27 * nI (encF (letN B p) k) + nI t - nI 97 + nI 1 = _
    rw [pk_mul, nI_add, pk_sub (by omega), nI_add]; congr 1; omega
/-- the letters of a run of small letters -/
theorem wdE_sm {B : Nat → Int32} : ∀ (k p : Nat), ∀ i, p ≤ i → i < wdE B k p → isS (B i) = true
  | 0, p, i, h1, h2 => by simp only [wdE] at h2; omega
  | k + 1, p, i, h1, h2 => by
    unfold wdE at h2
    split at h2
    · rename_i hs
      by_cases e : i = p
      · rw [e]; exact hs
      · exact wdE_sm k (p + 1) i (by omega) h2
    · omega
def okW (W : List Nat) : Prop := W.length ≤ 6 ∧ ∀ x ∈ W, 97 ≤ x ∧ x ≤ 122
theorem wdM_iff {B : Nat → Int32} {q : Nat} {W : List Nat} : ∀ (k i : Nat), wdM B q W k i = true ↔ ∀ j, i ≤ j → j < i + k → B (q + j) = nI (W.getD j 0)
  | 0, i => ⟨fun _ j h1 h2 => (by omega), fun _ => rfl⟩
  | k + 1, i => by
    unfold wdM
    constructor
    · intro h j h1 h2
      split at h
      · rename_i hb
        by_cases e : j = i
        · rw [e]; exact hb
        · exact (wdM_iff k (i + 1)).mp h j (by omega) (by omega)
      · cases h
    · intro h
      rw [if_pos (h i (by omega) (by omega))]
      exact (wdM_iff k (i + 1)).mpr (fun j h1 h2 => h j (by omega) (by omega))
def wvR (B : Nat → Int32) (q r : Nat) : Int32 := if 6 < r - q then -1 else wvL B q (r - q)
def wEnc (W : List Nat) : Nat := encF (fun i => W.getD i 0 - 96) W.length
theorem okW_at {W : List Nat} (h : okW W) : ∀ i, i < W.length → 97 ≤ W.getD i 0 ∧ W.getD i 0 ≤ 122 := fun i hi => by
  refine h.2 _ ?_
  rw [List.getD_eq_getElem?_getD, List.getElem?_eq_getElem hi]
  exact List.getElem_mem hi
theorem wEnc_lt {W : List Nat} (h : okW W) : wEnc W < 27 ^ 6 := by
  have := encF_lt W.length (g := fun i => W.getD i 0 - 96) h.1 (fun i hi => by have := okW_at h i hi; omega)
  have p : 27 ^ W.length ≤ 27 ^ 6 := Nat.pow_le_pow_right (by omega) h.1
  unfold wEnc
  omega
theorem wv_is {B : Nat → Int32} {q r : Nat} {W : List Nat} (hW : okW W) (hqr : q ≤ r) (hs : ∀ i, q ≤ i → i < r → isS (B i) = true) : (wvR B q r = nI (wEnc W)) = (wdIs B q r W = true) := by
  have wl := wEnc_lt hW
  have p6 : (27 : Nat) ^ 6 = 387420489 := by decide
  unfold wvR wdIs
  apply propext
  by_cases h6 : 6 < r - q
  · rw [if_pos h6, if_neg (by have := hW.1; omega)]
    constructor
    · intro e
      have := nI_m1 (show wEnc W < 2147483648 by omega)
      rw [← e] at this; simp at this
    · intro e; cases e
  · have hl : ∀ i, i < r - q → isS (B (q + i)) = true := fun i hi => hs _ (by omega) (by omega)
    have gl : ∀ i, i < r - q → 1 ≤ letN B q i ∧ letN B q i ≤ 26 := by
      intro i hi
      obtain ⟨t, t1, t2, t3⟩ := isS_n (hl i hi)
      unfold letN
      rw [t3, nI_cl (by omega)]
      omega
    have el := encF_lt (r - q) (by omega) gl
    have pl : 27 ^ (r - q) ≤ 27 ^ 6 := Nat.pow_le_pow_right (by omega) (by omega)
    rw [if_neg h6, wvL_enc (r - q) (by omega) hl, nI_eq2 (by omega) (by omega)]
    constructor
    · intro e
      obtain ⟨i1, i2⟩ := encF_inj (r - q) W.length gl (fun i hi => by have := okW_at hW i hi; omega) e
      rw [if_pos i1, wdM_iff]
      intro j _ hj
      obtain ⟨t, t1, t2, t3⟩ := isS_n (hl j (by omega))
      have := i2 j (by omega)
      have w := okW_at hW j (by omega)
      unfold letN at this
      rw [t3, nI_cl (by omega)] at this
      rw [t3]; congr 1; omega
    · intro e
      split at e
      · rename_i hlen
        rw [wdM_iff] at e
        have : ∀ k, k ≤ W.length → encF (letN B q) k = encF (fun i => W.getD i 0 - 96) k := by
          intro k
          induction k with
          | zero => intro _; rfl
          | succ k ih =>
            intro hk
            have w := okW_at hW k (by omega)
            rw [encF, encF, ih (by omega)]
            congr 1
            unfold letN
            rw [e k (by omega) (by omega), nI_cl (by omega)]
        rw [hlen]
        exact this W.length (Nat.le_refl _)
      · cases e
def sixS (a b c d e f : Int32) : Int32 := if f = 0 then (if e = 0 then (if d = 0 then 27 * (27 * a + b) + c else 27 * (27 * (27 * a + b) + c) + d) else 27 * (if d = 0 then 27 * (27 * a + b) + c else 27 * (27 * (27 * a + b) + c) + d) + e) else 27 * (if e = 0 then (if d = 0 then 27 * (27 * a + b) + c else 27 * (27 * (27 * a + b) + c) + d) else 27 * (if d = 0 then 27 * (27 * a + b) + c else 27 * (27 * (27 * a + b) + c) + d) + e) + f
section READ1
variable {Z : rx_Z} {d : Nat} {h : Nat → Option rx_E} {ι : Nat → Nat → Int32} {w : Nat × Nat} {b : Nat}
theorem rd_byteAt (hb : oMd h b) {e k : Nat} (he : ι b 2 = nI e) (he6 : e ≤ 600) (hk : k < 10000) : rz_f Z (d + 1) 180 [.ref b, .int (nI k)] (rz_mk h ι, w) = some (.inl (some (.int (sg (ι (b + 1)) e k))), (rz_mk h ι, w)) := by
  rw [e180]
  unfold sg
  by_cases hc : k < e
  · have c : (nI k < nI e) = True := by rw [nI_lt2 (by omega) (by omega)]; simp [hc]
    have i1 : rz_ix (nI k) 600 := rz_ix_nat (by omega) (by omega)
    rw [if_pos hc]
    simp (decide := true) (maxDischargeDepth := 4) only [g180_0, g180_1, g180_2, g180_5, g180_8, g180_9, g180_12, g180_13, g180_16, g180_17, g180_18, rz_k_inl, rz_k_inr, Option.toList_some, Option.toList_none, List.cons_append, List.nil_append, List.append_nil, rz_up_s, rz_u_s, rz_up_n, rz_u_n, ne_eq, not_false_eq_true, not_true_eq_false, Nat.add_assoc, Nat.reduceAdd, reduceIte, Nat.add_eq_left, Nat.left_eq_add, Nat.add_left_cancel_iff, Nat.reduceEqDiff, Nat.add_right_cancel_iff, rz_nb0, rz_nb1, rz_nbb, rz_nbi, rz_isr, rz_zle, if_true, if_false, rz_bi0, rz_bi1, Bool.not_eq_true, Bool.not_eq_false, Bool.true_eq_false, Bool.false_eq_true, rz_ix_lit, cl_lit, Nat.reduceLT, bi_t, bi_f, decide_true, decide_false, Bool.not_false, Bool.not_true, Bool.and_true, Bool.true_and, Bool.and_false, Bool.false_and, oMd_c, oMd_i0, oMd_i1, oMd_i2, oMd_i3, oMd_i4, oMd_i5, oMd_i6, oMd_i7, oMd_i8, oMd_f9, oMd_v9, oMd_f10, oMd_v10, oMd_f11, oMd_v11, oMd_f12, oMd_v12, oMd_f13, oMd_v13, oMd_f14, oMd_v14, oMd_i15, oMd_i16, oMd_f17, oMd_v17, oMd_f18, oMd_v18, oMd_f19, oMd_v19, oMd_f20, oMd_v20, oMd_f21, oMd_v21, oMd_f22, oMd_v22, oMd_f23, oMd_v23, oMd_i24, oMd_f25, oMd_v25, oMd_f26, oMd_v26, oMd_f27, oMd_v27, oMd_f28, oMd_v28, oMd_i29, oMd_i30, oMd_i31, oMd_i32, oMd_i33, oMd_i34, oMd_i35, oMd_f36, oMd_v36, oMd_f37, oMd_v37, oMd_f38, oMd_v38, oMd_i39, oMd_f40, oMd_v40, oMd_f41, oMd_v41, oMd_i42, oMd_f43, oMd_v43, oMd_i44, oMd_a1, oMd_n1, oMd_a2, oMd_n2, oMd_a3, oMd_n3, oMd_a4, oMd_n4, oMd_a363, oMd_n363, oMd_a364, oMd_n364, oMd_a446, oMd_n446, oMd_a447, oMd_n447, oMd_a469, oMd_n469, oMd_a470, oMd_n470, oMd_a471, oMd_n471, oMd_a472, oMd_n472, oMd_a473, oMd_n473, oMd_a5, oMd_n5, oMd_e5, oMd_ra5, oMd_rn5, oMd_a14, oMd_n14, oMd_e14, oMd_ra14, oMd_rn14, oMd_a23, oMd_n23, oMd_e23, oMd_ra23, oMd_rn23, oMd_a184, oMd_n184, oMd_e184, oMd_ra184, oMd_rn184, oMd_a345, oMd_n345, oMd_e345, oMd_ra345, oMd_rn345, oMd_a354, oMd_n354, oMd_e354, oMd_ra354, oMd_rn354, oMd_a365, oMd_n365, oMd_e365, oMd_ra365, oMd_rn365, oMd_a448, oMd_n448, oMd_e448, oMd_ra448, oMd_rn448, oMd_a465, oMd_n465, oMd_e465, oMd_ra465, oMd_rn465, hb, he, c, i1, nI_cl (show k < 2147483648 by omega)]
  · have c : (nI k < nI e) = False := by rw [nI_lt2 (by omega) (by omega)]; simp; omega
    rw [if_neg hc]
    simp (decide := true) (maxDischargeDepth := 4) only [g180_0, g180_1, g180_2, g180_5, g180_8, g180_9, g180_12, g180_13, g180_16, g180_17, g180_18, rz_k_inl, rz_k_inr, Option.toList_some, Option.toList_none, List.cons_append, List.nil_append, List.append_nil, rz_up_s, rz_u_s, rz_up_n, rz_u_n, ne_eq, not_false_eq_true, not_true_eq_false, Nat.add_assoc, Nat.reduceAdd, reduceIte, Nat.add_eq_left, Nat.left_eq_add, Nat.add_left_cancel_iff, Nat.reduceEqDiff, Nat.add_right_cancel_iff, rz_nb0, rz_nb1, rz_nbb, rz_nbi, rz_isr, rz_zle, if_true, if_false, rz_bi0, rz_bi1, Bool.not_eq_true, Bool.not_eq_false, Bool.true_eq_false, Bool.false_eq_true, rz_ix_lit, cl_lit, Nat.reduceLT, bi_t, bi_f, decide_true, decide_false, Bool.not_false, Bool.not_true, Bool.and_true, Bool.true_and, Bool.and_false, Bool.false_and, oMd_c, oMd_i0, oMd_i1, oMd_i2, oMd_i3, oMd_i4, oMd_i5, oMd_i6, oMd_i7, oMd_i8, oMd_f9, oMd_v9, oMd_f10, oMd_v10, oMd_f11, oMd_v11, oMd_f12, oMd_v12, oMd_f13, oMd_v13, oMd_f14, oMd_v14, oMd_i15, oMd_i16, oMd_f17, oMd_v17, oMd_f18, oMd_v18, oMd_f19, oMd_v19, oMd_f20, oMd_v20, oMd_f21, oMd_v21, oMd_f22, oMd_v22, oMd_f23, oMd_v23, oMd_i24, oMd_f25, oMd_v25, oMd_f26, oMd_v26, oMd_f27, oMd_v27, oMd_f28, oMd_v28, oMd_i29, oMd_i30, oMd_i31, oMd_i32, oMd_i33, oMd_i34, oMd_i35, oMd_f36, oMd_v36, oMd_f37, oMd_v37, oMd_f38, oMd_v38, oMd_i39, oMd_f40, oMd_v40, oMd_f41, oMd_v41, oMd_i42, oMd_f43, oMd_v43, oMd_i44, oMd_a1, oMd_n1, oMd_a2, oMd_n2, oMd_a3, oMd_n3, oMd_a4, oMd_n4, oMd_a363, oMd_n363, oMd_a364, oMd_n364, oMd_a446, oMd_n446, oMd_a447, oMd_n447, oMd_a469, oMd_n469, oMd_a470, oMd_n470, oMd_a471, oMd_n471, oMd_a472, oMd_n472, oMd_a473, oMd_n473, oMd_a5, oMd_n5, oMd_e5, oMd_ra5, oMd_rn5, oMd_a14, oMd_n14, oMd_e14, oMd_ra14, oMd_rn14, oMd_a23, oMd_n23, oMd_e23, oMd_ra23, oMd_rn23, oMd_a184, oMd_n184, oMd_e184, oMd_ra184, oMd_rn184, oMd_a345, oMd_n345, oMd_e345, oMd_ra345, oMd_rn345, oMd_a354, oMd_n354, oMd_e354, oMd_ra354, oMd_rn354, oMd_a365, oMd_n365, oMd_e365, oMd_ra365, oMd_rn365, oMd_a448, oMd_n448, oMd_e448, oMd_ra448, oMd_rn448, oMd_a465, oMd_n465, oMd_e465, oMd_ra465, oMd_rn465, hb, he, c]
theorem rd_blanks0 (hb : oMd h b) (hz : Z.2.1 ≤ b) {e : Nat} (he6 : e ≤ 600) : ∀ (k p : Nat) (ι : Nat → Nat → Int32), p ≤ e → e - p = k → ι b 2 = nI e → ι b 4 = nI p → rg Z (d + 1) rx_m181 0 [some (.ref b)] [] (rz_mk h ι, w) = some (.inl none, (rz_mk h (rz_up ι b 4 (nI (sk (ι (b + 1)) e p))), w)) := by
  intro k
  induction k with
  | zero =>
    intro p ι hpe hk he hp
    have by1 := rd_byteAt (Z := Z) (d := d) (w := w) (k := p) hb he he6 (by omega)
    rw [show sg (ι (b + 1)) e p = -1 from if_neg (by omega)] at by1
    rw [g181_0, sk_end (by omega), rz_up_id hp]
    simp (decide := true) (maxDischargeDepth := 4) only [g181_1, g181_2, g181_5, g181_8, g181_10, g181_13, g181_14, g181_15, g181_18, g181_19, g181_20, g181_23, g181_26, rz_k_inl, rz_k_inr, Option.toList_some, Option.toList_none, List.cons_append, List.nil_append, List.append_nil, rz_up_s, rz_u_s, rz_up_n, rz_u_n, ne_eq, not_false_eq_true, not_true_eq_false, Nat.add_assoc, Nat.reduceAdd, reduceIte, Nat.add_eq_left, Nat.left_eq_add, Nat.add_left_cancel_iff, Nat.reduceEqDiff, Nat.add_right_cancel_iff, rz_nb0, rz_nb1, rz_nbb, rz_nbi, rz_isr, rz_zle, if_true, if_false, rz_bi0, rz_bi1, Bool.not_eq_true, Bool.not_eq_false, Bool.true_eq_false, Bool.false_eq_true, rz_ix_lit, cl_lit, Nat.reduceLT, bi_t, bi_f, decide_true, decide_false, Bool.not_false, Bool.not_true, Bool.and_true, Bool.true_and, Bool.and_false, Bool.false_and, oMd_c, oMd_i0, oMd_i1, oMd_i2, oMd_i3, oMd_i4, oMd_i5, oMd_i6, oMd_i7, oMd_i8, oMd_f9, oMd_v9, oMd_f10, oMd_v10, oMd_f11, oMd_v11, oMd_f12, oMd_v12, oMd_f13, oMd_v13, oMd_f14, oMd_v14, oMd_i15, oMd_i16, oMd_f17, oMd_v17, oMd_f18, oMd_v18, oMd_f19, oMd_v19, oMd_f20, oMd_v20, oMd_f21, oMd_v21, oMd_f22, oMd_v22, oMd_f23, oMd_v23, oMd_i24, oMd_f25, oMd_v25, oMd_f26, oMd_v26, oMd_f27, oMd_v27, oMd_f28, oMd_v28, oMd_i29, oMd_i30, oMd_i31, oMd_i32, oMd_i33, oMd_i34, oMd_i35, oMd_f36, oMd_v36, oMd_f37, oMd_v37, oMd_f38, oMd_v38, oMd_i39, oMd_f40, oMd_v40, oMd_f41, oMd_v41, oMd_i42, oMd_f43, oMd_v43, oMd_i44, oMd_a1, oMd_n1, oMd_a2, oMd_n2, oMd_a3, oMd_n3, oMd_a4, oMd_n4, oMd_a363, oMd_n363, oMd_a364, oMd_n364, oMd_a446, oMd_n446, oMd_a447, oMd_n447, oMd_a469, oMd_n469, oMd_a470, oMd_n470, oMd_a471, oMd_n471, oMd_a472, oMd_n472, oMd_a473, oMd_n473, oMd_a5, oMd_n5, oMd_e5, oMd_ra5, oMd_rn5, oMd_a14, oMd_n14, oMd_e14, oMd_ra14, oMd_rn14, oMd_a23, oMd_n23, oMd_e23, oMd_ra23, oMd_rn23, oMd_a184, oMd_n184, oMd_e184, oMd_ra184, oMd_rn184, oMd_a345, oMd_n345, oMd_e345, oMd_ra345, oMd_rn345, oMd_a354, oMd_n354, oMd_e354, oMd_ra354, oMd_rn354, oMd_a365, oMd_n365, oMd_e365, oMd_ra365, oMd_rn365, oMd_a448, oMd_n448, oMd_e448, oMd_ra448, oMd_rn448, oMd_a465, oMd_n465, oMd_e465, oMd_ra465, oMd_rn465, hb, hp, by1]
  | succ k ih =>
    intro p ι hpe hk he hp
    have by1 := rd_byteAt (Z := Z) (d := d) (w := w) (k := p) hb he he6 (by omega)
    rw [show sg (ι (b + 1)) e p = ι (b + 1) p from if_pos (by omega)] at by1
    rw [g181_0]
    by_cases hc : ι (b + 1) p = 32
    · have I := ih (p + 1) (rz_up ι b 4 (nI (p + 1))) (by omega) (by omega) (by rw [rz_up_s, rz_u_n (by omega)]; exact he) (by rw [rz_up_s, rz_u_s])
      rw [rz_up_n (show b + 1 ≠ b by omega), rz_up_up, ← sk_yes (by omega) hc] at I
      simp (decide := true) (maxDischargeDepth := 4) only [g181_1, g181_2, g181_5, g181_8, g181_10, g181_13, g181_14, g181_15, g181_18, g181_19, g181_20, g181_23, g181_26, rz_k_inl, rz_k_inr, Option.toList_some, Option.toList_none, List.cons_append, List.nil_append, List.append_nil, rz_up_s, rz_u_s, rz_up_n, rz_u_n, ne_eq, not_false_eq_true, not_true_eq_false, Nat.add_assoc, Nat.reduceAdd, reduceIte, Nat.add_eq_left, Nat.left_eq_add, Nat.add_left_cancel_iff, Nat.reduceEqDiff, Nat.add_right_cancel_iff, rz_nb0, rz_nb1, rz_nbb, rz_nbi, rz_isr, rz_zle, if_true, if_false, rz_bi0, rz_bi1, Bool.not_eq_true, Bool.not_eq_false, Bool.true_eq_false, Bool.false_eq_true, rz_ix_lit, cl_lit, Nat.reduceLT, bi_t, bi_f, decide_true, decide_false, Bool.not_false, Bool.not_true, Bool.and_true, Bool.true_and, Bool.and_false, Bool.false_and, oMd_c, oMd_i0, oMd_i1, oMd_i2, oMd_i3, oMd_i4, oMd_i5, oMd_i6, oMd_i7, oMd_i8, oMd_f9, oMd_v9, oMd_f10, oMd_v10, oMd_f11, oMd_v11, oMd_f12, oMd_v12, oMd_f13, oMd_v13, oMd_f14, oMd_v14, oMd_i15, oMd_i16, oMd_f17, oMd_v17, oMd_f18, oMd_v18, oMd_f19, oMd_v19, oMd_f20, oMd_v20, oMd_f21, oMd_v21, oMd_f22, oMd_v22, oMd_f23, oMd_v23, oMd_i24, oMd_f25, oMd_v25, oMd_f26, oMd_v26, oMd_f27, oMd_v27, oMd_f28, oMd_v28, oMd_i29, oMd_i30, oMd_i31, oMd_i32, oMd_i33, oMd_i34, oMd_i35, oMd_f36, oMd_v36, oMd_f37, oMd_v37, oMd_f38, oMd_v38, oMd_i39, oMd_f40, oMd_v40, oMd_f41, oMd_v41, oMd_i42, oMd_f43, oMd_v43, oMd_i44, oMd_a1, oMd_n1, oMd_a2, oMd_n2, oMd_a3, oMd_n3, oMd_a4, oMd_n4, oMd_a363, oMd_n363, oMd_a364, oMd_n364, oMd_a446, oMd_n446, oMd_a447, oMd_n447, oMd_a469, oMd_n469, oMd_a470, oMd_n470, oMd_a471, oMd_n471, oMd_a472, oMd_n472, oMd_a473, oMd_n473, oMd_a5, oMd_n5, oMd_e5, oMd_ra5, oMd_rn5, oMd_a14, oMd_n14, oMd_e14, oMd_ra14, oMd_rn14, oMd_a23, oMd_n23, oMd_e23, oMd_ra23, oMd_rn23, oMd_a184, oMd_n184, oMd_e184, oMd_ra184, oMd_rn184, oMd_a345, oMd_n345, oMd_e345, oMd_ra345, oMd_rn345, oMd_a354, oMd_n354, oMd_e354, oMd_ra354, oMd_rn354, oMd_a365, oMd_n365, oMd_e365, oMd_ra365, oMd_rn365, oMd_a448, oMd_n448, oMd_e448, oMd_ra448, oMd_rn448, oMd_a465, oMd_n465, oMd_e465, oMd_ra465, oMd_rn465, hb, hz, hp, by1, hc, nI_1]
      exact I
    · rw [sk_no hc, rz_up_id hp]
      simp (decide := true) (maxDischargeDepth := 4) only [g181_1, g181_2, g181_5, g181_8, g181_10, g181_13, g181_14, g181_15, g181_18, g181_19, g181_20, g181_23, g181_26, rz_k_inl, rz_k_inr, Option.toList_some, Option.toList_none, List.cons_append, List.nil_append, List.append_nil, rz_up_s, rz_u_s, rz_up_n, rz_u_n, ne_eq, not_false_eq_true, not_true_eq_false, Nat.add_assoc, Nat.reduceAdd, reduceIte, Nat.add_eq_left, Nat.left_eq_add, Nat.add_left_cancel_iff, Nat.reduceEqDiff, Nat.add_right_cancel_iff, rz_nb0, rz_nb1, rz_nbb, rz_nbi, rz_isr, rz_zle, if_true, if_false, rz_bi0, rz_bi1, Bool.not_eq_true, Bool.not_eq_false, Bool.true_eq_false, Bool.false_eq_true, rz_ix_lit, cl_lit, Nat.reduceLT, bi_t, bi_f, decide_true, decide_false, Bool.not_false, Bool.not_true, Bool.and_true, Bool.true_and, Bool.and_false, Bool.false_and, oMd_c, oMd_i0, oMd_i1, oMd_i2, oMd_i3, oMd_i4, oMd_i5, oMd_i6, oMd_i7, oMd_i8, oMd_f9, oMd_v9, oMd_f10, oMd_v10, oMd_f11, oMd_v11, oMd_f12, oMd_v12, oMd_f13, oMd_v13, oMd_f14, oMd_v14, oMd_i15, oMd_i16, oMd_f17, oMd_v17, oMd_f18, oMd_v18, oMd_f19, oMd_v19, oMd_f20, oMd_v20, oMd_f21, oMd_v21, oMd_f22, oMd_v22, oMd_f23, oMd_v23, oMd_i24, oMd_f25, oMd_v25, oMd_f26, oMd_v26, oMd_f27, oMd_v27, oMd_f28, oMd_v28, oMd_i29, oMd_i30, oMd_i31, oMd_i32, oMd_i33, oMd_i34, oMd_i35, oMd_f36, oMd_v36, oMd_f37, oMd_v37, oMd_f38, oMd_v38, oMd_i39, oMd_f40, oMd_v40, oMd_f41, oMd_v41, oMd_i42, oMd_f43, oMd_v43, oMd_i44, oMd_a1, oMd_n1, oMd_a2, oMd_n2, oMd_a3, oMd_n3, oMd_a4, oMd_n4, oMd_a363, oMd_n363, oMd_a364, oMd_n364, oMd_a446, oMd_n446, oMd_a447, oMd_n447, oMd_a469, oMd_n469, oMd_a470, oMd_n470, oMd_a471, oMd_n471, oMd_a472, oMd_n472, oMd_a473, oMd_n473, oMd_a5, oMd_n5, oMd_e5, oMd_ra5, oMd_rn5, oMd_a14, oMd_n14, oMd_e14, oMd_ra14, oMd_rn14, oMd_a23, oMd_n23, oMd_e23, oMd_ra23, oMd_rn23, oMd_a184, oMd_n184, oMd_e184, oMd_ra184, oMd_rn184, oMd_a345, oMd_n345, oMd_e345, oMd_ra345, oMd_rn345, oMd_a354, oMd_n354, oMd_e354, oMd_ra354, oMd_rn354, oMd_a365, oMd_n365, oMd_e365, oMd_ra365, oMd_rn365, oMd_a448, oMd_n448, oMd_e448, oMd_ra448, oMd_rn448, oMd_a465, oMd_n465, oMd_e465, oMd_ra465, oMd_rn465, hb, hp, by1, hc]
theorem rd_blanks (hb : oMd h b) (hz : Z.2.1 ≤ b) {e p : Nat} (he : ι b 2 = nI e) (hp : ι b 4 = nI p) (hpe : p ≤ e) (he6 : e ≤ 600) : rz_f Z (d + 2) 181 [.ref b] (rz_mk h ι, w) = some (.inl none, (rz_mk h (rz_up ι b 4 (nI (sk (ι (b + 1)) e p))), w)) := by
  rw [e181]
  exact rd_blanks0 hb hz he6 _ p ι hpe rfl he hp
theorem rd_wrong (hb : oMd h b) (hz : Z.2.1 ≤ b) (h5 : ι b 5 = 0) (x y : Int32) : rz_f Z (d + 1) 182 [.ref b, .int x, .int y] (rz_mk h ι, w) = some (.inl none, (rz_mk h (rz_up (rz_up ι b 5 x) b 6 y), w)) := by
  rw [e182]
  simp (decide := true) (maxDischargeDepth := 4) only [g182_0, g182_1, g182_4, g182_7, g182_8, g182_9, g182_12, g182_13, g182_14, g182_17, rz_k_inl, rz_k_inr, Option.toList_some, Option.toList_none, List.cons_append, List.nil_append, List.append_nil, rz_up_s, rz_u_s, rz_up_n, rz_u_n, ne_eq, not_false_eq_true, not_true_eq_false, Nat.add_assoc, Nat.reduceAdd, reduceIte, Nat.add_eq_left, Nat.left_eq_add, Nat.add_left_cancel_iff, Nat.reduceEqDiff, Nat.add_right_cancel_iff, rz_nb0, rz_nb1, rz_nbb, rz_nbi, rz_isr, rz_zle, if_true, if_false, rz_bi0, rz_bi1, Bool.not_eq_true, Bool.not_eq_false, Bool.true_eq_false, Bool.false_eq_true, rz_ix_lit, cl_lit, Nat.reduceLT, bi_t, bi_f, decide_true, decide_false, Bool.not_false, Bool.not_true, Bool.and_true, Bool.true_and, Bool.and_false, Bool.false_and, oMd_c, oMd_i0, oMd_i1, oMd_i2, oMd_i3, oMd_i4, oMd_i5, oMd_i6, oMd_i7, oMd_i8, oMd_f9, oMd_v9, oMd_f10, oMd_v10, oMd_f11, oMd_v11, oMd_f12, oMd_v12, oMd_f13, oMd_v13, oMd_f14, oMd_v14, oMd_i15, oMd_i16, oMd_f17, oMd_v17, oMd_f18, oMd_v18, oMd_f19, oMd_v19, oMd_f20, oMd_v20, oMd_f21, oMd_v21, oMd_f22, oMd_v22, oMd_f23, oMd_v23, oMd_i24, oMd_f25, oMd_v25, oMd_f26, oMd_v26, oMd_f27, oMd_v27, oMd_f28, oMd_v28, oMd_i29, oMd_i30, oMd_i31, oMd_i32, oMd_i33, oMd_i34, oMd_i35, oMd_f36, oMd_v36, oMd_f37, oMd_v37, oMd_f38, oMd_v38, oMd_i39, oMd_f40, oMd_v40, oMd_f41, oMd_v41, oMd_i42, oMd_f43, oMd_v43, oMd_i44, oMd_a1, oMd_n1, oMd_a2, oMd_n2, oMd_a3, oMd_n3, oMd_a4, oMd_n4, oMd_a363, oMd_n363, oMd_a364, oMd_n364, oMd_a446, oMd_n446, oMd_a447, oMd_n447, oMd_a469, oMd_n469, oMd_a470, oMd_n470, oMd_a471, oMd_n471, oMd_a472, oMd_n472, oMd_a473, oMd_n473, oMd_a5, oMd_n5, oMd_e5, oMd_ra5, oMd_rn5, oMd_a14, oMd_n14, oMd_e14, oMd_ra14, oMd_rn14, oMd_a23, oMd_n23, oMd_e23, oMd_ra23, oMd_rn23, oMd_a184, oMd_n184, oMd_e184, oMd_ra184, oMd_rn184, oMd_a345, oMd_n345, oMd_e345, oMd_ra345, oMd_rn345, oMd_a354, oMd_n354, oMd_e354, oMd_ra354, oMd_rn354, oMd_a365, oMd_n365, oMd_e365, oMd_ra365, oMd_rn365, oMd_a448, oMd_n448, oMd_e448, oMd_ra448, oMd_rn448, oMd_a465, oMd_n465, oMd_e465, oMd_ra465, oMd_rn465, hb, hz, h5]
theorem rd_wrongN (hb : oMd h b) (h5 : ι b 5 ≠ 0) (x y : Int32) : rz_f Z (d + 1) 182 [.ref b, .int x, .int y] (rz_mk h ι, w) = some (.inl none, (rz_mk h ι, w)) := by
  rw [e182]
  simp (decide := true) (maxDischargeDepth := 4) only [g182_0, g182_1, g182_4, g182_7, g182_8, g182_9, g182_12, g182_13, g182_14, g182_17, rz_k_inl, rz_k_inr, Option.toList_some, Option.toList_none, List.cons_append, List.nil_append, List.append_nil, rz_up_s, rz_u_s, rz_up_n, rz_u_n, ne_eq, not_false_eq_true, not_true_eq_false, Nat.add_assoc, Nat.reduceAdd, reduceIte, Nat.add_eq_left, Nat.left_eq_add, Nat.add_left_cancel_iff, Nat.reduceEqDiff, Nat.add_right_cancel_iff, rz_nb0, rz_nb1, rz_nbb, rz_nbi, rz_isr, rz_zle, if_true, if_false, rz_bi0, rz_bi1, Bool.not_eq_true, Bool.not_eq_false, Bool.true_eq_false, Bool.false_eq_true, rz_ix_lit, cl_lit, Nat.reduceLT, bi_t, bi_f, decide_true, decide_false, Bool.not_false, Bool.not_true, Bool.and_true, Bool.true_and, Bool.and_false, Bool.false_and, oMd_c, oMd_i0, oMd_i1, oMd_i2, oMd_i3, oMd_i4, oMd_i5, oMd_i6, oMd_i7, oMd_i8, oMd_f9, oMd_v9, oMd_f10, oMd_v10, oMd_f11, oMd_v11, oMd_f12, oMd_v12, oMd_f13, oMd_v13, oMd_f14, oMd_v14, oMd_i15, oMd_i16, oMd_f17, oMd_v17, oMd_f18, oMd_v18, oMd_f19, oMd_v19, oMd_f20, oMd_v20, oMd_f21, oMd_v21, oMd_f22, oMd_v22, oMd_f23, oMd_v23, oMd_i24, oMd_f25, oMd_v25, oMd_f26, oMd_v26, oMd_f27, oMd_v27, oMd_f28, oMd_v28, oMd_i29, oMd_i30, oMd_i31, oMd_i32, oMd_i33, oMd_i34, oMd_i35, oMd_f36, oMd_v36, oMd_f37, oMd_v37, oMd_f38, oMd_v38, oMd_i39, oMd_f40, oMd_v40, oMd_f41, oMd_v41, oMd_i42, oMd_f43, oMd_v43, oMd_i44, oMd_a1, oMd_n1, oMd_a2, oMd_n2, oMd_a3, oMd_n3, oMd_a4, oMd_n4, oMd_a363, oMd_n363, oMd_a364, oMd_n364, oMd_a446, oMd_n446, oMd_a447, oMd_n447, oMd_a469, oMd_n469, oMd_a470, oMd_n470, oMd_a471, oMd_n471, oMd_a472, oMd_n472, oMd_a473, oMd_n473, oMd_a5, oMd_n5, oMd_e5, oMd_ra5, oMd_rn5, oMd_a14, oMd_n14, oMd_e14, oMd_ra14, oMd_rn14, oMd_a23, oMd_n23, oMd_e23, oMd_ra23, oMd_rn23, oMd_a184, oMd_n184, oMd_e184, oMd_ra184, oMd_rn184, oMd_a345, oMd_n345, oMd_e345, oMd_ra345, oMd_rn345, oMd_a354, oMd_n354, oMd_e354, oMd_ra354, oMd_rn354, oMd_a365, oMd_n365, oMd_e365, oMd_ra365, oMd_rn365, oMd_a448, oMd_n448, oMd_e448, oMd_ra448, oMd_rn448, oMd_a465, oMd_n465, oMd_e465, oMd_ra465, oMd_rn465, hb, h5]
theorem rd_isDigit (x : Int32) : rz_f Z (d + 1) 183 [.int x] (rz_mk h ι, w) = some (.inl (some (.int (bi (isD x)))), (rz_mk h ι, w)) := by
  rw [e183]
  try simp (decide := true) (maxDischargeDepth := 4) only [g183_0, g183_1, g183_3, g183_6, g183_7, g183_9, g183_12, g183_13, g183_16, rz_join, rz_k_inl, rz_k_inr, Option.toList_some, Option.toList_none, List.cons_append, List.nil_append, List.append_nil, rz_up_s, rz_u_s, rz_up_n, rz_u_n, ne_eq, not_false_eq_true, not_true_eq_false, Nat.add_assoc, Nat.reduceAdd, reduceIte, Nat.add_eq_left, Nat.left_eq_add, Nat.add_left_cancel_iff, Nat.reduceEqDiff, Nat.add_right_cancel_iff, rz_nb0, rz_nb1, rz_nbb, rz_nbi, rz_isr, rz_zle, if_true, if_false, rz_bi0, rz_bi1, Bool.not_eq_true, Bool.not_eq_false, Bool.true_eq_false, Bool.false_eq_true, rz_ix_lit, cl_lit, Nat.reduceLT, isD_eq]
  try simp (decide := true) (maxDischargeDepth := 4) only [g183_0, g183_1, g183_3, g183_6, g183_7, g183_9, g183_12, g183_13, g183_16, g183_17, rz_join, rz_k_inl, rz_k_inr, Option.toList_some, Option.toList_none, List.cons_append, List.nil_append, List.append_nil, rz_up_s, rz_u_s, rz_up_n, rz_u_n, ne_eq, not_false_eq_true, not_true_eq_false, Nat.add_assoc, Nat.reduceAdd, reduceIte, Nat.add_eq_left, Nat.left_eq_add, Nat.add_left_cancel_iff, Nat.reduceEqDiff, Nat.add_right_cancel_iff, rz_nb0, rz_nb1, rz_nbb, rz_nbi, rz_isr, rz_zle, if_true, if_false, rz_bi0, rz_bi1, Bool.not_eq_true, Bool.not_eq_false, Bool.true_eq_false, Bool.false_eq_true, rz_ix_lit, cl_lit, Nat.reduceLT, isD_eq]
theorem rd_isSmall (x : Int32) : rz_f Z (d + 1) 184 [.int x] (rz_mk h ι, w) = some (.inl (some (.int (bi (isS x)))), (rz_mk h ι, w)) := by
  rw [e184]
  try simp (decide := true) (maxDischargeDepth := 4) only [g184_0, g184_1, g184_3, g184_6, g184_7, g184_9, g184_12, g184_13, g184_16, rz_join, rz_k_inl, rz_k_inr, Option.toList_some, Option.toList_none, List.cons_append, List.nil_append, List.append_nil, rz_up_s, rz_u_s, rz_up_n, rz_u_n, ne_eq, not_false_eq_true, not_true_eq_false, Nat.add_assoc, Nat.reduceAdd, reduceIte, Nat.add_eq_left, Nat.left_eq_add, Nat.add_left_cancel_iff, Nat.reduceEqDiff, Nat.add_right_cancel_iff, rz_nb0, rz_nb1, rz_nbb, rz_nbi, rz_isr, rz_zle, if_true, if_false, rz_bi0, rz_bi1, Bool.not_eq_true, Bool.not_eq_false, Bool.true_eq_false, Bool.false_eq_true, rz_ix_lit, cl_lit, Nat.reduceLT, isS_eq]
  try simp (decide := true) (maxDischargeDepth := 4) only [g184_0, g184_1, g184_3, g184_6, g184_7, g184_9, g184_12, g184_13, g184_16, g184_17, rz_join, rz_k_inl, rz_k_inr, Option.toList_some, Option.toList_none, List.cons_append, List.nil_append, List.append_nil, rz_up_s, rz_u_s, rz_up_n, rz_u_n, ne_eq, not_false_eq_true, not_true_eq_false, Nat.add_assoc, Nat.reduceAdd, reduceIte, Nat.add_eq_left, Nat.left_eq_add, Nat.add_left_cancel_iff, Nat.reduceEqDiff, Nat.add_right_cancel_iff, rz_nb0, rz_nb1, rz_nbb, rz_nbi, rz_isr, rz_zle, if_true, if_false, rz_bi0, rz_bi1, Bool.not_eq_true, Bool.not_eq_false, Bool.true_eq_false, Bool.false_eq_true, rz_ix_lit, cl_lit, Nat.reduceLT, isS_eq]
theorem isD_m1 : isD (-1) = false := by decide
theorem isS_m1 : isS (-1) = false := by decide
theorem rd_skip0 (hb : oMd h b) (hz : Z.2.1 ≤ b) {e : Nat} (he6 : e ≤ 600) : ∀ (k p : Nat) (ι : Nat → Nat → Int32), p ≤ e → e - p = k → ι b 2 = nI e → ι b 4 = nI p → rg Z (d + 1) rx_m189 0 [some (.ref b)] [] (rz_mk h ι, w) = some (.inl none, (rz_mk h (rz_up ι b 4 (nI (wdE (ι (b + 1)) k p))), w)) := by
  intro k
  induction k with
  | zero =>
    intro p ι hpe hk he hp
    have by1 := rd_byteAt (Z := Z) (d := d) (w := w) (k := p) hb he he6 (by omega)
    rw [show sg (ι (b + 1)) e p = -1 from if_neg (by omega)] at by1
    rw [g189_0, wdE, rz_up_id hp]
    simp (decide := true) (maxDischargeDepth := 4) only [g189_1, g189_2, g189_5, g189_8, g189_11, g189_14, g189_15, g189_16, g189_19, g189_20, g189_21, g189_24, g189_27, rz_k_inl, rz_k_inr, Option.toList_some, Option.toList_none, List.cons_append, List.nil_append, List.append_nil, rz_up_s, rz_u_s, rz_up_n, rz_u_n, ne_eq, not_false_eq_true, not_true_eq_false, Nat.add_assoc, Nat.reduceAdd, reduceIte, Nat.add_eq_left, Nat.left_eq_add, Nat.add_left_cancel_iff, Nat.reduceEqDiff, Nat.add_right_cancel_iff, rz_nb0, rz_nb1, rz_nbb, rz_nbi, rz_isr, rz_zle, if_true, if_false, rz_bi0, rz_bi1, Bool.not_eq_true, Bool.not_eq_false, Bool.true_eq_false, Bool.false_eq_true, rz_ix_lit, cl_lit, Nat.reduceLT, bi_t, bi_f, decide_true, decide_false, Bool.not_false, Bool.not_true, Bool.and_true, Bool.true_and, Bool.and_false, Bool.false_and, oMd_c, oMd_i0, oMd_i1, oMd_i2, oMd_i3, oMd_i4, oMd_i5, oMd_i6, oMd_i7, oMd_i8, oMd_f9, oMd_v9, oMd_f10, oMd_v10, oMd_f11, oMd_v11, oMd_f12, oMd_v12, oMd_f13, oMd_v13, oMd_f14, oMd_v14, oMd_i15, oMd_i16, oMd_f17, oMd_v17, oMd_f18, oMd_v18, oMd_f19, oMd_v19, oMd_f20, oMd_v20, oMd_f21, oMd_v21, oMd_f22, oMd_v22, oMd_f23, oMd_v23, oMd_i24, oMd_f25, oMd_v25, oMd_f26, oMd_v26, oMd_f27, oMd_v27, oMd_f28, oMd_v28, oMd_i29, oMd_i30, oMd_i31, oMd_i32, oMd_i33, oMd_i34, oMd_i35, oMd_f36, oMd_v36, oMd_f37, oMd_v37, oMd_f38, oMd_v38, oMd_i39, oMd_f40, oMd_v40, oMd_f41, oMd_v41, oMd_i42, oMd_f43, oMd_v43, oMd_i44, oMd_a1, oMd_n1, oMd_a2, oMd_n2, oMd_a3, oMd_n3, oMd_a4, oMd_n4, oMd_a363, oMd_n363, oMd_a364, oMd_n364, oMd_a446, oMd_n446, oMd_a447, oMd_n447, oMd_a469, oMd_n469, oMd_a470, oMd_n470, oMd_a471, oMd_n471, oMd_a472, oMd_n472, oMd_a473, oMd_n473, oMd_a5, oMd_n5, oMd_e5, oMd_ra5, oMd_rn5, oMd_a14, oMd_n14, oMd_e14, oMd_ra14, oMd_rn14, oMd_a23, oMd_n23, oMd_e23, oMd_ra23, oMd_rn23, oMd_a184, oMd_n184, oMd_e184, oMd_ra184, oMd_rn184, oMd_a345, oMd_n345, oMd_e345, oMd_ra345, oMd_rn345, oMd_a354, oMd_n354, oMd_e354, oMd_ra354, oMd_rn354, oMd_a365, oMd_n365, oMd_e365, oMd_ra365, oMd_rn365, oMd_a448, oMd_n448, oMd_e448, oMd_ra448, oMd_rn448, oMd_a465, oMd_n465, oMd_e465, oMd_ra465, oMd_rn465, hb, hp, by1, rd_isSmall, isS_m1]
  | succ k ih =>
    intro p ι hpe hk he hp
    have by1 := rd_byteAt (Z := Z) (d := d) (w := w) (k := p) hb he he6 (by omega)
    rw [show sg (ι (b + 1)) e p = ι (b + 1) p from if_pos (by omega)] at by1
    rw [g189_0, wdE]
    cases hc : isS (ι (b + 1) p) with
    | true =>
      have I := ih (p + 1) (rz_up ι b 4 (nI (p + 1))) (by omega) (by omega) (by rw [rz_up_s, rz_u_n (by omega)]; exact he) (by rw [rz_up_s, rz_u_s])
      rw [rz_up_n (show b + 1 ≠ b by omega), rz_up_up] at I
      simp (decide := true) (maxDischargeDepth := 4) only [g189_1, g189_2, g189_5, g189_8, g189_11, g189_14, g189_15, g189_16, g189_19, g189_20, g189_21, g189_24, g189_27, rz_k_inl, rz_k_inr, Option.toList_some, Option.toList_none, List.cons_append, List.nil_append, List.append_nil, rz_up_s, rz_u_s, rz_up_n, rz_u_n, ne_eq, not_false_eq_true, not_true_eq_false, Nat.add_assoc, Nat.reduceAdd, reduceIte, Nat.add_eq_left, Nat.left_eq_add, Nat.add_left_cancel_iff, Nat.reduceEqDiff, Nat.add_right_cancel_iff, rz_nb0, rz_nb1, rz_nbb, rz_nbi, rz_isr, rz_zle, if_true, if_false, rz_bi0, rz_bi1, Bool.not_eq_true, Bool.not_eq_false, Bool.true_eq_false, Bool.false_eq_true, rz_ix_lit, cl_lit, Nat.reduceLT, bi_t, bi_f, decide_true, decide_false, Bool.not_false, Bool.not_true, Bool.and_true, Bool.true_and, Bool.and_false, Bool.false_and, oMd_c, oMd_i0, oMd_i1, oMd_i2, oMd_i3, oMd_i4, oMd_i5, oMd_i6, oMd_i7, oMd_i8, oMd_f9, oMd_v9, oMd_f10, oMd_v10, oMd_f11, oMd_v11, oMd_f12, oMd_v12, oMd_f13, oMd_v13, oMd_f14, oMd_v14, oMd_i15, oMd_i16, oMd_f17, oMd_v17, oMd_f18, oMd_v18, oMd_f19, oMd_v19, oMd_f20, oMd_v20, oMd_f21, oMd_v21, oMd_f22, oMd_v22, oMd_f23, oMd_v23, oMd_i24, oMd_f25, oMd_v25, oMd_f26, oMd_v26, oMd_f27, oMd_v27, oMd_f28, oMd_v28, oMd_i29, oMd_i30, oMd_i31, oMd_i32, oMd_i33, oMd_i34, oMd_i35, oMd_f36, oMd_v36, oMd_f37, oMd_v37, oMd_f38, oMd_v38, oMd_i39, oMd_f40, oMd_v40, oMd_f41, oMd_v41, oMd_i42, oMd_f43, oMd_v43, oMd_i44, oMd_a1, oMd_n1, oMd_a2, oMd_n2, oMd_a3, oMd_n3, oMd_a4, oMd_n4, oMd_a363, oMd_n363, oMd_a364, oMd_n364, oMd_a446, oMd_n446, oMd_a447, oMd_n447, oMd_a469, oMd_n469, oMd_a470, oMd_n470, oMd_a471, oMd_n471, oMd_a472, oMd_n472, oMd_a473, oMd_n473, oMd_a5, oMd_n5, oMd_e5, oMd_ra5, oMd_rn5, oMd_a14, oMd_n14, oMd_e14, oMd_ra14, oMd_rn14, oMd_a23, oMd_n23, oMd_e23, oMd_ra23, oMd_rn23, oMd_a184, oMd_n184, oMd_e184, oMd_ra184, oMd_rn184, oMd_a345, oMd_n345, oMd_e345, oMd_ra345, oMd_rn345, oMd_a354, oMd_n354, oMd_e354, oMd_ra354, oMd_rn354, oMd_a365, oMd_n365, oMd_e365, oMd_ra365, oMd_rn365, oMd_a448, oMd_n448, oMd_e448, oMd_ra448, oMd_rn448, oMd_a465, oMd_n465, oMd_e465, oMd_ra465, oMd_rn465, hb, hz, hp, by1, rd_isSmall, hc, nI_1]
      exact I
    | false =>
      simp (decide := true) (maxDischargeDepth := 4) only [g189_1, g189_2, g189_5, g189_8, g189_11, g189_14, g189_15, g189_16, g189_19, g189_20, g189_21, g189_24, g189_27, rz_k_inl, rz_k_inr, Option.toList_some, Option.toList_none, List.cons_append, List.nil_append, List.append_nil, rz_up_s, rz_u_s, rz_up_n, rz_u_n, ne_eq, not_false_eq_true, not_true_eq_false, Nat.add_assoc, Nat.reduceAdd, reduceIte, Nat.add_eq_left, Nat.left_eq_add, Nat.add_left_cancel_iff, Nat.reduceEqDiff, Nat.add_right_cancel_iff, rz_nb0, rz_nb1, rz_nbb, rz_nbi, rz_isr, rz_zle, if_true, if_false, rz_bi0, rz_bi1, Bool.not_eq_true, Bool.not_eq_false, Bool.true_eq_false, Bool.false_eq_true, rz_ix_lit, cl_lit, Nat.reduceLT, bi_t, bi_f, decide_true, decide_false, Bool.not_false, Bool.not_true, Bool.and_true, Bool.true_and, Bool.and_false, Bool.false_and, oMd_c, oMd_i0, oMd_i1, oMd_i2, oMd_i3, oMd_i4, oMd_i5, oMd_i6, oMd_i7, oMd_i8, oMd_f9, oMd_v9, oMd_f10, oMd_v10, oMd_f11, oMd_v11, oMd_f12, oMd_v12, oMd_f13, oMd_v13, oMd_f14, oMd_v14, oMd_i15, oMd_i16, oMd_f17, oMd_v17, oMd_f18, oMd_v18, oMd_f19, oMd_v19, oMd_f20, oMd_v20, oMd_f21, oMd_v21, oMd_f22, oMd_v22, oMd_f23, oMd_v23, oMd_i24, oMd_f25, oMd_v25, oMd_f26, oMd_v26, oMd_f27, oMd_v27, oMd_f28, oMd_v28, oMd_i29, oMd_i30, oMd_i31, oMd_i32, oMd_i33, oMd_i34, oMd_i35, oMd_f36, oMd_v36, oMd_f37, oMd_v37, oMd_f38, oMd_v38, oMd_i39, oMd_f40, oMd_v40, oMd_f41, oMd_v41, oMd_i42, oMd_f43, oMd_v43, oMd_i44, oMd_a1, oMd_n1, oMd_a2, oMd_n2, oMd_a3, oMd_n3, oMd_a4, oMd_n4, oMd_a363, oMd_n363, oMd_a364, oMd_n364, oMd_a446, oMd_n446, oMd_a447, oMd_n447, oMd_a469, oMd_n469, oMd_a470, oMd_n470, oMd_a471, oMd_n471, oMd_a472, oMd_n472, oMd_a473, oMd_n473, oMd_a5, oMd_n5, oMd_e5, oMd_ra5, oMd_rn5, oMd_a14, oMd_n14, oMd_e14, oMd_ra14, oMd_rn14, oMd_a23, oMd_n23, oMd_e23, oMd_ra23, oMd_rn23, oMd_a184, oMd_n184, oMd_e184, oMd_ra184, oMd_rn184, oMd_a345, oMd_n345, oMd_e345, oMd_ra345, oMd_rn345, oMd_a354, oMd_n354, oMd_e354, oMd_ra354, oMd_rn354, oMd_a365, oMd_n365, oMd_e365, oMd_ra365, oMd_rn365, oMd_a448, oMd_n448, oMd_e448, oMd_ra448, oMd_rn448, oMd_a465, oMd_n465, oMd_e465, oMd_ra465, oMd_rn465, hb, hz, hp, by1, rd_isSmall, hc, rz_up_id hp]
theorem rd_skipWord (hb : oMd h b) (hz : Z.2.1 ≤ b) {e p : Nat} (he : ι b 2 = nI e) (hp : ι b 4 = nI p) (hpe : p ≤ e) (he6 : e ≤ 600) : rz_f Z (d + 2) 189 [.ref b] (rz_mk h ι, w) = some (.inl none, (rz_mk h (rz_up ι b 4 (nI (wdE (ι (b + 1)) (e - p) p))), w)) := by
  rw [e189]
  exact rd_skip0 hb hz he6 _ p ι hpe rfl he hp
theorem rd_wordHere (hb : oMd h b) (hz : Z.2.1 ≤ b) {e p : Nat} (he : ι b 2 = nI e) (hp : ι b 4 = nI p) (hpe : p ≤ e) (he6 : e ≤ 600) : rz_f Z (d + 3) 186 [.ref b] (rz_mk h ι, w) = some (.inl (some (.int (wvR (ι (b + 1)) (sk (ι (b + 1)) e p) (wdE (ι (b + 1)) (e - sk (ι (b + 1)) e p) (sk (ι (b + 1)) e p))))), (rz_mk h (rz_up ι b 4 (nI (sk (ι (b + 1)) e p))), w)) := by
  have hsk := sk_le (B := ι (b + 1)) hpe
  obtain ⟨q, hq⟩ : ∃ q, q = sk (ι (b + 1)) e p := ⟨_, rfl⟩
  rw [← hq] at hsk ⊢
  have bl := rd_blanks (Z := Z) (d := d) (w := w) hb hz he hp hpe he6
  rw [← hq] at bl
  obtain ⟨ι1, h1⟩ : ∃ ι1, ι1 = rz_up ι b 4 (nI q) := ⟨_, rfl⟩
  rw [← h1] at bl ⊢
  have e2 : ι1 b 2 = nI e := by rw [h1, rz_up_s, rz_u_n (by omega)]; exact he
  have e4 : ι1 b 4 = nI q := by rw [h1, rz_up_s, rz_u_s]
  have eB : ι1 (b + 1) = ι (b + 1) := by rw [h1, rz_up_n (by omega)]
  have L : ∀ (k n : Nat), n + k = e - q → rg Z (d + 2) rx_m186 8 [some (.ref b), some (.int (wvL (ι (b + 1)) q n)), some (.int (nI n))] [] (rz_mk h ι1, w) = some (.inl (some (.int (wvR (ι (b + 1)) q (wdE (ι (b + 1)) k (q + n))))), (rz_mk h ι1, w)) := by
    intro k
    induction k with
    | zero =>
      intro n hn
      have by1 := rd_byteAt (Z := Z) (d := d + 1) (w := w) (k := q + n) hb e2 he6 (by omega)
      rw [eB, show sg (ι (b + 1)) e (q + n) = -1 from if_neg (by omega)] at by1
      have c6 : ((6 : Int32) < nI n) = (6 < n) := nI_Llt (by omega) (by decide)
      rw [g186_8, wdE]
      unfold wvR
      rw [show q + n - q = n by omega]
      by_cases h6 : 6 < n
      · have h6' : (6 < n) = True := by simp [h6]
        rw [if_pos h6]
        simp (decide := true) (maxDischargeDepth := 4) only [g186_0, g186_1, g186_4, g186_5, g186_6, g186_7, g186_9, g186_10, g186_13, g186_14, g186_15, g186_18, g186_21, g186_24, g186_25, g186_27, g186_30, g186_32, g186_33, g186_34, g186_35, g186_36, g186_39, g186_40, g186_41, g186_44, g186_45, g186_47, g186_48, g186_49, g186_50, g186_53, g186_54, g186_55, g186_58, g186_61, g186_62, g186_64, g186_67, g186_68, g186_71, g186_72, rz_k_inl, rz_k_inr, Option.toList_some, Option.toList_none, List.cons_append, List.nil_append, List.append_nil, rz_up_s, rz_u_s, rz_up_n, rz_u_n, ne_eq, not_false_eq_true, not_true_eq_false, Nat.add_assoc, Nat.reduceAdd, reduceIte, Nat.add_eq_left, Nat.left_eq_add, Nat.add_left_cancel_iff, Nat.reduceEqDiff, Nat.add_right_cancel_iff, rz_nb0, rz_nb1, rz_nbb, rz_nbi, rz_isr, rz_zle, if_true, if_false, rz_bi0, rz_bi1, Bool.not_eq_true, Bool.not_eq_false, Bool.true_eq_false, Bool.false_eq_true, rz_ix_lit, cl_lit, Nat.reduceLT, bi_t, bi_f, decide_true, decide_false, Bool.not_false, Bool.not_true, Bool.and_true, Bool.true_and, Bool.and_false, Bool.false_and, oMd_c, oMd_i0, oMd_i1, oMd_i2, oMd_i3, oMd_i4, oMd_i5, oMd_i6, oMd_i7, oMd_i8, oMd_f9, oMd_v9, oMd_f10, oMd_v10, oMd_f11, oMd_v11, oMd_f12, oMd_v12, oMd_f13, oMd_v13, oMd_f14, oMd_v14, oMd_i15, oMd_i16, oMd_f17, oMd_v17, oMd_f18, oMd_v18, oMd_f19, oMd_v19, oMd_f20, oMd_v20, oMd_f21, oMd_v21, oMd_f22, oMd_v22, oMd_f23, oMd_v23, oMd_i24, oMd_f25, oMd_v25, oMd_f26, oMd_v26, oMd_f27, oMd_v27, oMd_f28, oMd_v28, oMd_i29, oMd_i30, oMd_i31, oMd_i32, oMd_i33, oMd_i34, oMd_i35, oMd_f36, oMd_v36, oMd_f37, oMd_v37, oMd_f38, oMd_v38, oMd_i39, oMd_f40, oMd_v40, oMd_f41, oMd_v41, oMd_i42, oMd_f43, oMd_v43, oMd_i44, oMd_a1, oMd_n1, oMd_a2, oMd_n2, oMd_a3, oMd_n3, oMd_a4, oMd_n4, oMd_a363, oMd_n363, oMd_a364, oMd_n364, oMd_a446, oMd_n446, oMd_a447, oMd_n447, oMd_a469, oMd_n469, oMd_a470, oMd_n470, oMd_a471, oMd_n471, oMd_a472, oMd_n472, oMd_a473, oMd_n473, oMd_a5, oMd_n5, oMd_e5, oMd_ra5, oMd_rn5, oMd_a14, oMd_n14, oMd_e14, oMd_ra14, oMd_rn14, oMd_a23, oMd_n23, oMd_e23, oMd_ra23, oMd_rn23, oMd_a184, oMd_n184, oMd_e184, oMd_ra184, oMd_rn184, oMd_a345, oMd_n345, oMd_e345, oMd_ra345, oMd_rn345, oMd_a354, oMd_n354, oMd_e354, oMd_ra354, oMd_rn354, oMd_a365, oMd_n365, oMd_e365, oMd_ra365, oMd_rn365, oMd_a448, oMd_n448, oMd_e448, oMd_ra448, oMd_rn448, oMd_a465, oMd_n465, oMd_e465, oMd_ra465, oMd_rn465, hb, e4, nI_add, by1, rd_isSmall, isS_m1, c6, h6']
      · have h6' : (6 < n) = False := by simp [h6]
        rw [if_neg h6]
        simp (decide := true) (maxDischargeDepth := 4) only [g186_0, g186_1, g186_4, g186_5, g186_6, g186_7, g186_9, g186_10, g186_13, g186_14, g186_15, g186_18, g186_21, g186_24, g186_25, g186_27, g186_30, g186_32, g186_33, g186_34, g186_35, g186_36, g186_39, g186_40, g186_41, g186_44, g186_45, g186_47, g186_48, g186_49, g186_50, g186_53, g186_54, g186_55, g186_58, g186_61, g186_62, g186_64, g186_67, g186_68, g186_71, g186_72, rz_k_inl, rz_k_inr, Option.toList_some, Option.toList_none, List.cons_append, List.nil_append, List.append_nil, rz_up_s, rz_u_s, rz_up_n, rz_u_n, ne_eq, not_false_eq_true, not_true_eq_false, Nat.add_assoc, Nat.reduceAdd, reduceIte, Nat.add_eq_left, Nat.left_eq_add, Nat.add_left_cancel_iff, Nat.reduceEqDiff, Nat.add_right_cancel_iff, rz_nb0, rz_nb1, rz_nbb, rz_nbi, rz_isr, rz_zle, if_true, if_false, rz_bi0, rz_bi1, Bool.not_eq_true, Bool.not_eq_false, Bool.true_eq_false, Bool.false_eq_true, rz_ix_lit, cl_lit, Nat.reduceLT, bi_t, bi_f, decide_true, decide_false, Bool.not_false, Bool.not_true, Bool.and_true, Bool.true_and, Bool.and_false, Bool.false_and, oMd_c, oMd_i0, oMd_i1, oMd_i2, oMd_i3, oMd_i4, oMd_i5, oMd_i6, oMd_i7, oMd_i8, oMd_f9, oMd_v9, oMd_f10, oMd_v10, oMd_f11, oMd_v11, oMd_f12, oMd_v12, oMd_f13, oMd_v13, oMd_f14, oMd_v14, oMd_i15, oMd_i16, oMd_f17, oMd_v17, oMd_f18, oMd_v18, oMd_f19, oMd_v19, oMd_f20, oMd_v20, oMd_f21, oMd_v21, oMd_f22, oMd_v22, oMd_f23, oMd_v23, oMd_i24, oMd_f25, oMd_v25, oMd_f26, oMd_v26, oMd_f27, oMd_v27, oMd_f28, oMd_v28, oMd_i29, oMd_i30, oMd_i31, oMd_i32, oMd_i33, oMd_i34, oMd_i35, oMd_f36, oMd_v36, oMd_f37, oMd_v37, oMd_f38, oMd_v38, oMd_i39, oMd_f40, oMd_v40, oMd_f41, oMd_v41, oMd_i42, oMd_f43, oMd_v43, oMd_i44, oMd_a1, oMd_n1, oMd_a2, oMd_n2, oMd_a3, oMd_n3, oMd_a4, oMd_n4, oMd_a363, oMd_n363, oMd_a364, oMd_n364, oMd_a446, oMd_n446, oMd_a447, oMd_n447, oMd_a469, oMd_n469, oMd_a470, oMd_n470, oMd_a471, oMd_n471, oMd_a472, oMd_n472, oMd_a473, oMd_n473, oMd_a5, oMd_n5, oMd_e5, oMd_ra5, oMd_rn5, oMd_a14, oMd_n14, oMd_e14, oMd_ra14, oMd_rn14, oMd_a23, oMd_n23, oMd_e23, oMd_ra23, oMd_rn23, oMd_a184, oMd_n184, oMd_e184, oMd_ra184, oMd_rn184, oMd_a345, oMd_n345, oMd_e345, oMd_ra345, oMd_rn345, oMd_a354, oMd_n354, oMd_e354, oMd_ra354, oMd_rn354, oMd_a365, oMd_n365, oMd_e365, oMd_ra365, oMd_rn365, oMd_a448, oMd_n448, oMd_e448, oMd_ra448, oMd_rn448, oMd_a465, oMd_n465, oMd_e465, oMd_ra465, oMd_rn465, hb, e4, nI_add, by1, rd_isSmall, isS_m1, c6, h6']
    | succ k ih =>
      intro n hn
      have by1 := rd_byteAt (Z := Z) (d := d + 1) (w := w) (k := q + n) hb e2 he6 (by omega)
      rw [eB, show sg (ι (b + 1)) e (q + n) = ι (b + 1) (q + n) from if_pos (by omega)] at by1
      rw [wdE]
      cases hc : isS (ι (b + 1) (q + n)) with
      | false =>
        have c6 : ((6 : Int32) < nI n) = (6 < n) := nI_Llt (by omega) (by decide)
        rw [g186_8, if_neg (by decide)]
        unfold wvR
        rw [show q + n - q = n by omega]
        by_cases h6 : 6 < n
        · have h6' : (6 < n) = True := by simp [h6]
          rw [if_pos h6]
          simp (decide := true) (maxDischargeDepth := 4) only [g186_0, g186_1, g186_4, g186_5, g186_6, g186_7, g186_9, g186_10, g186_13, g186_14, g186_15, g186_18, g186_21, g186_24, g186_25, g186_27, g186_30, g186_32, g186_33, g186_34, g186_35, g186_36, g186_39, g186_40, g186_41, g186_44, g186_45, g186_47, g186_48, g186_49, g186_50, g186_53, g186_54, g186_55, g186_58, g186_61, g186_62, g186_64, g186_67, g186_68, g186_71, g186_72, rz_k_inl, rz_k_inr, Option.toList_some, Option.toList_none, List.cons_append, List.nil_append, List.append_nil, rz_up_s, rz_u_s, rz_up_n, rz_u_n, ne_eq, not_false_eq_true, not_true_eq_false, Nat.add_assoc, Nat.reduceAdd, reduceIte, Nat.add_eq_left, Nat.left_eq_add, Nat.add_left_cancel_iff, Nat.reduceEqDiff, Nat.add_right_cancel_iff, rz_nb0, rz_nb1, rz_nbb, rz_nbi, rz_isr, rz_zle, if_true, if_false, rz_bi0, rz_bi1, Bool.not_eq_true, Bool.not_eq_false, Bool.true_eq_false, Bool.false_eq_true, rz_ix_lit, cl_lit, Nat.reduceLT, bi_t, bi_f, decide_true, decide_false, Bool.not_false, Bool.not_true, Bool.and_true, Bool.true_and, Bool.and_false, Bool.false_and, oMd_c, oMd_i0, oMd_i1, oMd_i2, oMd_i3, oMd_i4, oMd_i5, oMd_i6, oMd_i7, oMd_i8, oMd_f9, oMd_v9, oMd_f10, oMd_v10, oMd_f11, oMd_v11, oMd_f12, oMd_v12, oMd_f13, oMd_v13, oMd_f14, oMd_v14, oMd_i15, oMd_i16, oMd_f17, oMd_v17, oMd_f18, oMd_v18, oMd_f19, oMd_v19, oMd_f20, oMd_v20, oMd_f21, oMd_v21, oMd_f22, oMd_v22, oMd_f23, oMd_v23, oMd_i24, oMd_f25, oMd_v25, oMd_f26, oMd_v26, oMd_f27, oMd_v27, oMd_f28, oMd_v28, oMd_i29, oMd_i30, oMd_i31, oMd_i32, oMd_i33, oMd_i34, oMd_i35, oMd_f36, oMd_v36, oMd_f37, oMd_v37, oMd_f38, oMd_v38, oMd_i39, oMd_f40, oMd_v40, oMd_f41, oMd_v41, oMd_i42, oMd_f43, oMd_v43, oMd_i44, oMd_a1, oMd_n1, oMd_a2, oMd_n2, oMd_a3, oMd_n3, oMd_a4, oMd_n4, oMd_a363, oMd_n363, oMd_a364, oMd_n364, oMd_a446, oMd_n446, oMd_a447, oMd_n447, oMd_a469, oMd_n469, oMd_a470, oMd_n470, oMd_a471, oMd_n471, oMd_a472, oMd_n472, oMd_a473, oMd_n473, oMd_a5, oMd_n5, oMd_e5, oMd_ra5, oMd_rn5, oMd_a14, oMd_n14, oMd_e14, oMd_ra14, oMd_rn14, oMd_a23, oMd_n23, oMd_e23, oMd_ra23, oMd_rn23, oMd_a184, oMd_n184, oMd_e184, oMd_ra184, oMd_rn184, oMd_a345, oMd_n345, oMd_e345, oMd_ra345, oMd_rn345, oMd_a354, oMd_n354, oMd_e354, oMd_ra354, oMd_rn354, oMd_a365, oMd_n365, oMd_e365, oMd_ra365, oMd_rn365, oMd_a448, oMd_n448, oMd_e448, oMd_ra448, oMd_rn448, oMd_a465, oMd_n465, oMd_e465, oMd_ra465, oMd_rn465, hb, e4, nI_add, by1, rd_isSmall, hc, c6, h6']
        · have h6' : (6 < n) = False := by simp [h6]
          rw [if_neg h6]
          simp (decide := true) (maxDischargeDepth := 4) only [g186_0, g186_1, g186_4, g186_5, g186_6, g186_7, g186_9, g186_10, g186_13, g186_14, g186_15, g186_18, g186_21, g186_24, g186_25, g186_27, g186_30, g186_32, g186_33, g186_34, g186_35, g186_36, g186_39, g186_40, g186_41, g186_44, g186_45, g186_47, g186_48, g186_49, g186_50, g186_53, g186_54, g186_55, g186_58, g186_61, g186_62, g186_64, g186_67, g186_68, g186_71, g186_72, rz_k_inl, rz_k_inr, Option.toList_some, Option.toList_none, List.cons_append, List.nil_append, List.append_nil, rz_up_s, rz_u_s, rz_up_n, rz_u_n, ne_eq, not_false_eq_true, not_true_eq_false, Nat.add_assoc, Nat.reduceAdd, reduceIte, Nat.add_eq_left, Nat.left_eq_add, Nat.add_left_cancel_iff, Nat.reduceEqDiff, Nat.add_right_cancel_iff, rz_nb0, rz_nb1, rz_nbb, rz_nbi, rz_isr, rz_zle, if_true, if_false, rz_bi0, rz_bi1, Bool.not_eq_true, Bool.not_eq_false, Bool.true_eq_false, Bool.false_eq_true, rz_ix_lit, cl_lit, Nat.reduceLT, bi_t, bi_f, decide_true, decide_false, Bool.not_false, Bool.not_true, Bool.and_true, Bool.true_and, Bool.and_false, Bool.false_and, oMd_c, oMd_i0, oMd_i1, oMd_i2, oMd_i3, oMd_i4, oMd_i5, oMd_i6, oMd_i7, oMd_i8, oMd_f9, oMd_v9, oMd_f10, oMd_v10, oMd_f11, oMd_v11, oMd_f12, oMd_v12, oMd_f13, oMd_v13, oMd_f14, oMd_v14, oMd_i15, oMd_i16, oMd_f17, oMd_v17, oMd_f18, oMd_v18, oMd_f19, oMd_v19, oMd_f20, oMd_v20, oMd_f21, oMd_v21, oMd_f22, oMd_v22, oMd_f23, oMd_v23, oMd_i24, oMd_f25, oMd_v25, oMd_f26, oMd_v26, oMd_f27, oMd_v27, oMd_f28, oMd_v28, oMd_i29, oMd_i30, oMd_i31, oMd_i32, oMd_i33, oMd_i34, oMd_i35, oMd_f36, oMd_v36, oMd_f37, oMd_v37, oMd_f38, oMd_v38, oMd_i39, oMd_f40, oMd_v40, oMd_f41, oMd_v41, oMd_i42, oMd_f43, oMd_v43, oMd_i44, oMd_a1, oMd_n1, oMd_a2, oMd_n2, oMd_a3, oMd_n3, oMd_a4, oMd_n4, oMd_a363, oMd_n363, oMd_a364, oMd_n364, oMd_a446, oMd_n446, oMd_a447, oMd_n447, oMd_a469, oMd_n469, oMd_a470, oMd_n470, oMd_a471, oMd_n471, oMd_a472, oMd_n472, oMd_a473, oMd_n473, oMd_a5, oMd_n5, oMd_e5, oMd_ra5, oMd_rn5, oMd_a14, oMd_n14, oMd_e14, oMd_ra14, oMd_rn14, oMd_a23, oMd_n23, oMd_e23, oMd_ra23, oMd_rn23, oMd_a184, oMd_n184, oMd_e184, oMd_ra184, oMd_rn184, oMd_a345, oMd_n345, oMd_e345, oMd_ra345, oMd_rn345, oMd_a354, oMd_n354, oMd_e354, oMd_ra354, oMd_rn354, oMd_a365, oMd_n365, oMd_e365, oMd_ra365, oMd_rn365, oMd_a448, oMd_n448, oMd_e448, oMd_ra448, oMd_rn448, oMd_a465, oMd_n465, oMd_e465, oMd_ra465, oMd_rn465, hb, e4, nI_add, by1, rd_isSmall, hc, c6, h6']
      | true =>
        have I := ih (n + 1) (by omega)
        rw [wvL] at I
        rw [g186_8, if_pos rfl]
        have c6 : (nI n < 6) = (n < 6) := nI_ltL (by omega) (by decide)
        by_cases h6 : n < 6
        · have h6' : (n < 6) = True := by simp [h6]
          rw [if_pos h6] at I
          simp (decide := true) (maxDischargeDepth := 4) only [g186_0, g186_1, g186_4, g186_5, g186_6, g186_7, g186_9, g186_10, g186_13, g186_14, g186_15, g186_18, g186_21, g186_24, g186_25, g186_27, g186_30, g186_32, g186_33, g186_34, g186_35, g186_36, g186_39, g186_40, g186_41, g186_44, g186_45, g186_47, g186_48, g186_49, g186_50, g186_53, g186_54, g186_55, g186_58, g186_61, g186_62, g186_64, g186_67, g186_68, g186_71, g186_72, rz_k_inl, rz_k_inr, Option.toList_some, Option.toList_none, List.cons_append, List.nil_append, List.append_nil, rz_up_s, rz_u_s, rz_up_n, rz_u_n, ne_eq, not_false_eq_true, not_true_eq_false, Nat.add_assoc, Nat.reduceAdd, reduceIte, Nat.add_eq_left, Nat.left_eq_add, Nat.add_left_cancel_iff, Nat.reduceEqDiff, Nat.add_right_cancel_iff, rz_nb0, rz_nb1, rz_nbb, rz_nbi, rz_isr, rz_zle, if_true, if_false, rz_bi0, rz_bi1, Bool.not_eq_true, Bool.not_eq_false, Bool.true_eq_false, Bool.false_eq_true, rz_ix_lit, cl_lit, Nat.reduceLT, bi_t, bi_f, decide_true, decide_false, Bool.not_false, Bool.not_true, Bool.and_true, Bool.true_and, Bool.and_false, Bool.false_and, oMd_c, oMd_i0, oMd_i1, oMd_i2, oMd_i3, oMd_i4, oMd_i5, oMd_i6, oMd_i7, oMd_i8, oMd_f9, oMd_v9, oMd_f10, oMd_v10, oMd_f11, oMd_v11, oMd_f12, oMd_v12, oMd_f13, oMd_v13, oMd_f14, oMd_v14, oMd_i15, oMd_i16, oMd_f17, oMd_v17, oMd_f18, oMd_v18, oMd_f19, oMd_v19, oMd_f20, oMd_v20, oMd_f21, oMd_v21, oMd_f22, oMd_v22, oMd_f23, oMd_v23, oMd_i24, oMd_f25, oMd_v25, oMd_f26, oMd_v26, oMd_f27, oMd_v27, oMd_f28, oMd_v28, oMd_i29, oMd_i30, oMd_i31, oMd_i32, oMd_i33, oMd_i34, oMd_i35, oMd_f36, oMd_v36, oMd_f37, oMd_v37, oMd_f38, oMd_v38, oMd_i39, oMd_f40, oMd_v40, oMd_f41, oMd_v41, oMd_i42, oMd_f43, oMd_v43, oMd_i44, oMd_a1, oMd_n1, oMd_a2, oMd_n2, oMd_a3, oMd_n3, oMd_a4, oMd_n4, oMd_a363, oMd_n363, oMd_a364, oMd_n364, oMd_a446, oMd_n446, oMd_a447, oMd_n447, oMd_a469, oMd_n469, oMd_a470, oMd_n470, oMd_a471, oMd_n471, oMd_a472, oMd_n472, oMd_a473, oMd_n473, oMd_a5, oMd_n5, oMd_e5, oMd_ra5, oMd_rn5, oMd_a14, oMd_n14, oMd_e14, oMd_ra14, oMd_rn14, oMd_a23, oMd_n23, oMd_e23, oMd_ra23, oMd_rn23, oMd_a184, oMd_n184, oMd_e184, oMd_ra184, oMd_rn184, oMd_a345, oMd_n345, oMd_e345, oMd_ra345, oMd_rn345, oMd_a354, oMd_n354, oMd_e354, oMd_ra354, oMd_rn354, oMd_a365, oMd_n365, oMd_e365, oMd_ra365, oMd_rn365, oMd_a448, oMd_n448, oMd_e448, oMd_ra448, oMd_rn448, oMd_a465, oMd_n465, oMd_e465, oMd_ra465, oMd_rn465, hb, e4, nI_add, by1, rd_isSmall, hc, c6, h6', nI_1]
          exact I
        · have h6' : (n < 6) = False := by simp [h6]
          rw [if_neg h6] at I
          simp (decide := true) (maxDischargeDepth := 4) only [g186_0, g186_1, g186_4, g186_5, g186_6, g186_7, g186_9, g186_10, g186_13, g186_14, g186_15, g186_18, g186_21, g186_24, g186_25, g186_27, g186_30, g186_32, g186_33, g186_34, g186_35, g186_36, g186_39, g186_40, g186_41, g186_44, g186_45, g186_47, g186_48, g186_49, g186_50, g186_53, g186_54, g186_55, g186_58, g186_61, g186_62, g186_64, g186_67, g186_68, g186_71, g186_72, rz_k_inl, rz_k_inr, Option.toList_some, Option.toList_none, List.cons_append, List.nil_append, List.append_nil, rz_up_s, rz_u_s, rz_up_n, rz_u_n, ne_eq, not_false_eq_true, not_true_eq_false, Nat.add_assoc, Nat.reduceAdd, reduceIte, Nat.add_eq_left, Nat.left_eq_add, Nat.add_left_cancel_iff, Nat.reduceEqDiff, Nat.add_right_cancel_iff, rz_nb0, rz_nb1, rz_nbb, rz_nbi, rz_isr, rz_zle, if_true, if_false, rz_bi0, rz_bi1, Bool.not_eq_true, Bool.not_eq_false, Bool.true_eq_false, Bool.false_eq_true, rz_ix_lit, cl_lit, Nat.reduceLT, bi_t, bi_f, decide_true, decide_false, Bool.not_false, Bool.not_true, Bool.and_true, Bool.true_and, Bool.and_false, Bool.false_and, oMd_c, oMd_i0, oMd_i1, oMd_i2, oMd_i3, oMd_i4, oMd_i5, oMd_i6, oMd_i7, oMd_i8, oMd_f9, oMd_v9, oMd_f10, oMd_v10, oMd_f11, oMd_v11, oMd_f12, oMd_v12, oMd_f13, oMd_v13, oMd_f14, oMd_v14, oMd_i15, oMd_i16, oMd_f17, oMd_v17, oMd_f18, oMd_v18, oMd_f19, oMd_v19, oMd_f20, oMd_v20, oMd_f21, oMd_v21, oMd_f22, oMd_v22, oMd_f23, oMd_v23, oMd_i24, oMd_f25, oMd_v25, oMd_f26, oMd_v26, oMd_f27, oMd_v27, oMd_f28, oMd_v28, oMd_i29, oMd_i30, oMd_i31, oMd_i32, oMd_i33, oMd_i34, oMd_i35, oMd_f36, oMd_v36, oMd_f37, oMd_v37, oMd_f38, oMd_v38, oMd_i39, oMd_f40, oMd_v40, oMd_f41, oMd_v41, oMd_i42, oMd_f43, oMd_v43, oMd_i44, oMd_a1, oMd_n1, oMd_a2, oMd_n2, oMd_a3, oMd_n3, oMd_a4, oMd_n4, oMd_a363, oMd_n363, oMd_a364, oMd_n364, oMd_a446, oMd_n446, oMd_a447, oMd_n447, oMd_a469, oMd_n469, oMd_a470, oMd_n470, oMd_a471, oMd_n471, oMd_a472, oMd_n472, oMd_a473, oMd_n473, oMd_a5, oMd_n5, oMd_e5, oMd_ra5, oMd_rn5, oMd_a14, oMd_n14, oMd_e14, oMd_ra14, oMd_rn14, oMd_a23, oMd_n23, oMd_e23, oMd_ra23, oMd_rn23, oMd_a184, oMd_n184, oMd_e184, oMd_ra184, oMd_rn184, oMd_a345, oMd_n345, oMd_e345, oMd_ra345, oMd_rn345, oMd_a354, oMd_n354, oMd_e354, oMd_ra354, oMd_rn354, oMd_a365, oMd_n365, oMd_e365, oMd_ra365, oMd_rn365, oMd_a448, oMd_n448, oMd_e448, oMd_ra448, oMd_rn448, oMd_a465, oMd_n465, oMd_e465, oMd_ra465, oMd_rn465, hb, e4, nI_add, by1, rd_isSmall, hc, c6, h6', nI_1]
          exact I
  have L0 := L (e - q) 0 (by omega)
  rw [show nI 0 = 0 from rfl, show wvL (ι (b + 1)) q 0 = 0 from rfl, Nat.add_zero] at L0
  rw [e186]
  simp (decide := true) (maxDischargeDepth := 4) only [g186_0, g186_1, g186_4, g186_5, g186_6, g186_7, g186_9, g186_10, g186_13, g186_14, g186_15, g186_18, g186_21, g186_24, g186_25, g186_27, g186_30, g186_32, g186_33, g186_34, g186_35, g186_36, g186_39, g186_40, g186_41, g186_44, g186_45, g186_47, g186_48, g186_49, g186_50, g186_53, g186_54, g186_55, g186_58, g186_61, g186_62, g186_64, g186_67, g186_68, g186_71, g186_72, rz_k_inl, rz_k_inr, Option.toList_some, Option.toList_none, List.cons_append, List.nil_append, List.append_nil, rz_up_s, rz_u_s, rz_up_n, rz_u_n, ne_eq, not_false_eq_true, not_true_eq_false, Nat.add_assoc, Nat.reduceAdd, reduceIte, Nat.add_eq_left, Nat.left_eq_add, Nat.add_left_cancel_iff, Nat.reduceEqDiff, Nat.add_right_cancel_iff, rz_nb0, rz_nb1, rz_nbb, rz_nbi, rz_isr, rz_zle, if_true, if_false, rz_bi0, rz_bi1, Bool.not_eq_true, Bool.not_eq_false, Bool.true_eq_false, Bool.false_eq_true, rz_ix_lit, cl_lit, Nat.reduceLT, bi_t, bi_f, decide_true, decide_false, Bool.not_false, Bool.not_true, Bool.and_true, Bool.true_and, Bool.and_false, Bool.false_and, oMd_c, oMd_i0, oMd_i1, oMd_i2, oMd_i3, oMd_i4, oMd_i5, oMd_i6, oMd_i7, oMd_i8, oMd_f9, oMd_v9, oMd_f10, oMd_v10, oMd_f11, oMd_v11, oMd_f12, oMd_v12, oMd_f13, oMd_v13, oMd_f14, oMd_v14, oMd_i15, oMd_i16, oMd_f17, oMd_v17, oMd_f18, oMd_v18, oMd_f19, oMd_v19, oMd_f20, oMd_v20, oMd_f21, oMd_v21, oMd_f22, oMd_v22, oMd_f23, oMd_v23, oMd_i24, oMd_f25, oMd_v25, oMd_f26, oMd_v26, oMd_f27, oMd_v27, oMd_f28, oMd_v28, oMd_i29, oMd_i30, oMd_i31, oMd_i32, oMd_i33, oMd_i34, oMd_i35, oMd_f36, oMd_v36, oMd_f37, oMd_v37, oMd_f38, oMd_v38, oMd_i39, oMd_f40, oMd_v40, oMd_f41, oMd_v41, oMd_i42, oMd_f43, oMd_v43, oMd_i44, oMd_a1, oMd_n1, oMd_a2, oMd_n2, oMd_a3, oMd_n3, oMd_a4, oMd_n4, oMd_a363, oMd_n363, oMd_a364, oMd_n364, oMd_a446, oMd_n446, oMd_a447, oMd_n447, oMd_a469, oMd_n469, oMd_a470, oMd_n470, oMd_a471, oMd_n471, oMd_a472, oMd_n472, oMd_a473, oMd_n473, oMd_a5, oMd_n5, oMd_e5, oMd_ra5, oMd_rn5, oMd_a14, oMd_n14, oMd_e14, oMd_ra14, oMd_rn14, oMd_a23, oMd_n23, oMd_e23, oMd_ra23, oMd_rn23, oMd_a184, oMd_n184, oMd_e184, oMd_ra184, oMd_rn184, oMd_a345, oMd_n345, oMd_e345, oMd_ra345, oMd_rn345, oMd_a354, oMd_n354, oMd_e354, oMd_ra354, oMd_rn354, oMd_a365, oMd_n365, oMd_e365, oMd_ra365, oMd_rn365, oMd_a448, oMd_n448, oMd_e448, oMd_ra448, oMd_rn448, oMd_a465, oMd_n465, oMd_e465, oMd_ra465, oMd_rn465, hb, bl]
  exact L0
theorem rd_six (x1 x2 x3 x4 x5 x6 : Int32) : rz_f Z (d + 1) 187 [.int x1, .int x2, .int x3, .int x4, .int x5, .int x6] (rz_mk h ι, w) = some (.inl (some (.int (sixS x1 x2 x3 x4 x5 x6))), (rz_mk h ι, w)) := by
  rw [e187]
  unfold sixS
  by_cases h4 : x4 = 0
  · by_cases h5 : x5 = 0
    · by_cases h6 : x6 = 0
      · simp (decide := true) (maxDischargeDepth := 4) only [g187_0, g187_2, g187_4, g187_5, g187_6, g187_7, g187_8, g187_9, g187_10, g187_11, g187_13, g187_14, g187_17, g187_19, g187_22, g187_24, g187_26, g187_27, g187_28, g187_29, g187_31, g187_33, g187_36, g187_38, g187_41, g187_43, g187_45, g187_46, g187_48, g187_49, g187_51, g187_53, g187_56, g187_58, g187_61, g187_63, g187_65, g187_66, g187_68, g187_69, rz_k_inl, rz_k_inr, Option.toList_some, Option.toList_none, List.cons_append, List.nil_append, List.append_nil, rz_up_s, rz_u_s, rz_up_n, rz_u_n, ne_eq, not_false_eq_true, not_true_eq_false, Nat.add_assoc, Nat.reduceAdd, reduceIte, Nat.add_eq_left, Nat.left_eq_add, Nat.add_left_cancel_iff, Nat.reduceEqDiff, Nat.add_right_cancel_iff, rz_nb0, rz_nb1, rz_nbb, rz_nbi, rz_isr, rz_zle, if_true, if_false, rz_bi0, rz_bi1, Bool.not_eq_true, Bool.not_eq_false, Bool.true_eq_false, Bool.false_eq_true, rz_ix_lit, cl_lit, Nat.reduceLT, bi_t, bi_f, decide_true, decide_false, Bool.not_false, Bool.not_true, Bool.and_true, Bool.true_and, Bool.and_false, Bool.false_and, h4, h5, h6]
      · simp (decide := true) (maxDischargeDepth := 4) only [g187_0, g187_2, g187_4, g187_5, g187_6, g187_7, g187_8, g187_9, g187_10, g187_11, g187_13, g187_14, g187_17, g187_19, g187_22, g187_24, g187_26, g187_27, g187_28, g187_29, g187_31, g187_33, g187_36, g187_38, g187_41, g187_43, g187_45, g187_46, g187_48, g187_49, g187_51, g187_53, g187_56, g187_58, g187_61, g187_63, g187_65, g187_66, g187_68, g187_69, rz_k_inl, rz_k_inr, Option.toList_some, Option.toList_none, List.cons_append, List.nil_append, List.append_nil, rz_up_s, rz_u_s, rz_up_n, rz_u_n, ne_eq, not_false_eq_true, not_true_eq_false, Nat.add_assoc, Nat.reduceAdd, reduceIte, Nat.add_eq_left, Nat.left_eq_add, Nat.add_left_cancel_iff, Nat.reduceEqDiff, Nat.add_right_cancel_iff, rz_nb0, rz_nb1, rz_nbb, rz_nbi, rz_isr, rz_zle, if_true, if_false, rz_bi0, rz_bi1, Bool.not_eq_true, Bool.not_eq_false, Bool.true_eq_false, Bool.false_eq_true, rz_ix_lit, cl_lit, Nat.reduceLT, bi_t, bi_f, decide_true, decide_false, Bool.not_false, Bool.not_true, Bool.and_true, Bool.true_and, Bool.and_false, Bool.false_and, h4, h5, h6]
    · by_cases h6 : x6 = 0
      · simp (decide := true) (maxDischargeDepth := 4) only [g187_0, g187_2, g187_4, g187_5, g187_6, g187_7, g187_8, g187_9, g187_10, g187_11, g187_13, g187_14, g187_17, g187_19, g187_22, g187_24, g187_26, g187_27, g187_28, g187_29, g187_31, g187_33, g187_36, g187_38, g187_41, g187_43, g187_45, g187_46, g187_48, g187_49, g187_51, g187_53, g187_56, g187_58, g187_61, g187_63, g187_65, g187_66, g187_68, g187_69, rz_k_inl, rz_k_inr, Option.toList_some, Option.toList_none, List.cons_append, List.nil_append, List.append_nil, rz_up_s, rz_u_s, rz_up_n, rz_u_n, ne_eq, not_false_eq_true, not_true_eq_false, Nat.add_assoc, Nat.reduceAdd, reduceIte, Nat.add_eq_left, Nat.left_eq_add, Nat.add_left_cancel_iff, Nat.reduceEqDiff, Nat.add_right_cancel_iff, rz_nb0, rz_nb1, rz_nbb, rz_nbi, rz_isr, rz_zle, if_true, if_false, rz_bi0, rz_bi1, Bool.not_eq_true, Bool.not_eq_false, Bool.true_eq_false, Bool.false_eq_true, rz_ix_lit, cl_lit, Nat.reduceLT, bi_t, bi_f, decide_true, decide_false, Bool.not_false, Bool.not_true, Bool.and_true, Bool.true_and, Bool.and_false, Bool.false_and, h4, h5, h6]
      · simp (decide := true) (maxDischargeDepth := 4) only [g187_0, g187_2, g187_4, g187_5, g187_6, g187_7, g187_8, g187_9, g187_10, g187_11, g187_13, g187_14, g187_17, g187_19, g187_22, g187_24, g187_26, g187_27, g187_28, g187_29, g187_31, g187_33, g187_36, g187_38, g187_41, g187_43, g187_45, g187_46, g187_48, g187_49, g187_51, g187_53, g187_56, g187_58, g187_61, g187_63, g187_65, g187_66, g187_68, g187_69, rz_k_inl, rz_k_inr, Option.toList_some, Option.toList_none, List.cons_append, List.nil_append, List.append_nil, rz_up_s, rz_u_s, rz_up_n, rz_u_n, ne_eq, not_false_eq_true, not_true_eq_false, Nat.add_assoc, Nat.reduceAdd, reduceIte, Nat.add_eq_left, Nat.left_eq_add, Nat.add_left_cancel_iff, Nat.reduceEqDiff, Nat.add_right_cancel_iff, rz_nb0, rz_nb1, rz_nbb, rz_nbi, rz_isr, rz_zle, if_true, if_false, rz_bi0, rz_bi1, Bool.not_eq_true, Bool.not_eq_false, Bool.true_eq_false, Bool.false_eq_true, rz_ix_lit, cl_lit, Nat.reduceLT, bi_t, bi_f, decide_true, decide_false, Bool.not_false, Bool.not_true, Bool.and_true, Bool.true_and, Bool.and_false, Bool.false_and, h4, h5, h6]
  · by_cases h5 : x5 = 0
    · by_cases h6 : x6 = 0
      · simp (decide := true) (maxDischargeDepth := 4) only [g187_0, g187_2, g187_4, g187_5, g187_6, g187_7, g187_8, g187_9, g187_10, g187_11, g187_13, g187_14, g187_17, g187_19, g187_22, g187_24, g187_26, g187_27, g187_28, g187_29, g187_31, g187_33, g187_36, g187_38, g187_41, g187_43, g187_45, g187_46, g187_48, g187_49, g187_51, g187_53, g187_56, g187_58, g187_61, g187_63, g187_65, g187_66, g187_68, g187_69, rz_k_inl, rz_k_inr, Option.toList_some, Option.toList_none, List.cons_append, List.nil_append, List.append_nil, rz_up_s, rz_u_s, rz_up_n, rz_u_n, ne_eq, not_false_eq_true, not_true_eq_false, Nat.add_assoc, Nat.reduceAdd, reduceIte, Nat.add_eq_left, Nat.left_eq_add, Nat.add_left_cancel_iff, Nat.reduceEqDiff, Nat.add_right_cancel_iff, rz_nb0, rz_nb1, rz_nbb, rz_nbi, rz_isr, rz_zle, if_true, if_false, rz_bi0, rz_bi1, Bool.not_eq_true, Bool.not_eq_false, Bool.true_eq_false, Bool.false_eq_true, rz_ix_lit, cl_lit, Nat.reduceLT, bi_t, bi_f, decide_true, decide_false, Bool.not_false, Bool.not_true, Bool.and_true, Bool.true_and, Bool.and_false, Bool.false_and, h4, h5, h6]
      · simp (decide := true) (maxDischargeDepth := 4) only [g187_0, g187_2, g187_4, g187_5, g187_6, g187_7, g187_8, g187_9, g187_10, g187_11, g187_13, g187_14, g187_17, g187_19, g187_22, g187_24, g187_26, g187_27, g187_28, g187_29, g187_31, g187_33, g187_36, g187_38, g187_41, g187_43, g187_45, g187_46, g187_48, g187_49, g187_51, g187_53, g187_56, g187_58, g187_61, g187_63, g187_65, g187_66, g187_68, g187_69, rz_k_inl, rz_k_inr, Option.toList_some, Option.toList_none, List.cons_append, List.nil_append, List.append_nil, rz_up_s, rz_u_s, rz_up_n, rz_u_n, ne_eq, not_false_eq_true, not_true_eq_false, Nat.add_assoc, Nat.reduceAdd, reduceIte, Nat.add_eq_left, Nat.left_eq_add, Nat.add_left_cancel_iff, Nat.reduceEqDiff, Nat.add_right_cancel_iff, rz_nb0, rz_nb1, rz_nbb, rz_nbi, rz_isr, rz_zle, if_true, if_false, rz_bi0, rz_bi1, Bool.not_eq_true, Bool.not_eq_false, Bool.true_eq_false, Bool.false_eq_true, rz_ix_lit, cl_lit, Nat.reduceLT, bi_t, bi_f, decide_true, decide_false, Bool.not_false, Bool.not_true, Bool.and_true, Bool.true_and, Bool.and_false, Bool.false_and, h4, h5, h6]
    · by_cases h6 : x6 = 0
      · simp (decide := true) (maxDischargeDepth := 4) only [g187_0, g187_2, g187_4, g187_5, g187_6, g187_7, g187_8, g187_9, g187_10, g187_11, g187_13, g187_14, g187_17, g187_19, g187_22, g187_24, g187_26, g187_27, g187_28, g187_29, g187_31, g187_33, g187_36, g187_38, g187_41, g187_43, g187_45, g187_46, g187_48, g187_49, g187_51, g187_53, g187_56, g187_58, g187_61, g187_63, g187_65, g187_66, g187_68, g187_69, rz_k_inl, rz_k_inr, Option.toList_some, Option.toList_none, List.cons_append, List.nil_append, List.append_nil, rz_up_s, rz_u_s, rz_up_n, rz_u_n, ne_eq, not_false_eq_true, not_true_eq_false, Nat.add_assoc, Nat.reduceAdd, reduceIte, Nat.add_eq_left, Nat.left_eq_add, Nat.add_left_cancel_iff, Nat.reduceEqDiff, Nat.add_right_cancel_iff, rz_nb0, rz_nb1, rz_nbb, rz_nbi, rz_isr, rz_zle, if_true, if_false, rz_bi0, rz_bi1, Bool.not_eq_true, Bool.not_eq_false, Bool.true_eq_false, Bool.false_eq_true, rz_ix_lit, cl_lit, Nat.reduceLT, bi_t, bi_f, decide_true, decide_false, Bool.not_false, Bool.not_true, Bool.and_true, Bool.true_and, Bool.and_false, Bool.false_and, h4, h5, h6]
      · simp (decide := true) (maxDischargeDepth := 4) only [g187_0, g187_2, g187_4, g187_5, g187_6, g187_7, g187_8, g187_9, g187_10, g187_11, g187_13, g187_14, g187_17, g187_19, g187_22, g187_24, g187_26, g187_27, g187_28, g187_29, g187_31, g187_33, g187_36, g187_38, g187_41, g187_43, g187_45, g187_46, g187_48, g187_49, g187_51, g187_53, g187_56, g187_58, g187_61, g187_63, g187_65, g187_66, g187_68, g187_69, rz_k_inl, rz_k_inr, Option.toList_some, Option.toList_none, List.cons_append, List.nil_append, List.append_nil, rz_up_s, rz_u_s, rz_up_n, rz_u_n, ne_eq, not_false_eq_true, not_true_eq_false, Nat.add_assoc, Nat.reduceAdd, reduceIte, Nat.add_eq_left, Nat.left_eq_add, Nat.add_left_cancel_iff, Nat.reduceEqDiff, Nat.add_right_cancel_iff, rz_nb0, rz_nb1, rz_nbb, rz_nbi, rz_isr, rz_zle, if_true, if_false, rz_bi0, rz_bi1, Bool.not_eq_true, Bool.not_eq_false, Bool.true_eq_false, Bool.false_eq_true, rz_ix_lit, cl_lit, Nat.reduceLT, bi_t, bi_f, decide_true, decide_false, Bool.not_false, Bool.not_true, Bool.and_true, Bool.true_and, Bool.and_false, Bool.false_and, h4, h5, h6]
end READ1
