/-! FarthestHeir: row, rowed -/
def sbI (n lv : Nat) : Prop := nI n &&& (nI lv ^^^ (-1)) = 0
theorem sbI_iff {n lv : Nat} (hn : n < 256) : sbI n lv ↔ ∀ i, i < 8 → n.testBit i = true → lv.testBit i = true := by
  unfold sbI
  constructor
  · intro h i hi hb
    have e : bt (nI n &&& (nI lv ^^^ (-1))) i = bt 0 i := by rw [h]
    rw [b_and, b_xor, bt_nI (by omega), bt_nI (by omega), b_m1 i (by omega), b_0, hb] at e
    cases hc : lv.testBit i
    · rw [hc] at e; exact absurd e (by decide)
    · rfl
  · intro h
    apply b_ext
    intro i hi
    rw [b_and, b_xor, bt_nI hi, bt_nI hi, b_m1 i hi, b_0]
    cases hb : n.testBit i
    · rfl
    · have h8 : i < 8 := by
        apply Decidable.byContradiction
        intro h8
        have h1 := Nat.ge_two_pow_of_testBit hb
        have h2 : 2 ^ 8 ≤ 2 ^ i := Nat.pow_le_pow_right (by decide) (by omega)
        omega
      rw [h i h8 hb]; rfl
theorem stN_bit : ∀ n, n < 256 → ∀ x, x < 8 → ∀ i, i < 8 → (stN n x).testBit i = (n.testBit i || decide (i = x)) := by decide +kernel
theorem sbI_st {n lv x : Nat} (hn : n < 256) (hx : x < 8) (h : sbI n lv) (hb : lv.testBit x = true) : sbI (stN n x) lv := by
  rw [sbI_iff (stN_256 n hn x hx)]
  rw [sbI_iff hn] at h
  intro i hi e
  rw [stN_bit n hn x hx i hi] at e
  by_cases h1 : i = x
  · rw [h1]; exact hb
  · simp [h1] at e; exact h i hi e
/-- two tables say the same of the crowds beyond one -/
def tbE (lv cr : Nat) (T T' : Nat → Int32) : Prop := ∀ m x, cr < m → m < 256 → sbI m lv → x < 8 → T (m * 8 + x) = T' (m * 8 + x)
theorem frB_cong {F F' : Nat → Int32} (hF : ∀ i, i < 64 → F i = F' i) {lv cr : Nat} {la : Option Nat} (hla : ∀ x, la = some x → x < 8) {n : Int32} {p : Nat} (hp : p < 8) : frB F lv cr la n p = frB F' lv cr la n p := by
  unfold frB
  cases la with
  | none => rfl
  | some x =>
    have := hla x rfl
    show (lv.testBit p && !cr.testBit p && !decide (F (p * 8 + x) < n)) = (lv.testBit p && !cr.testBit p && !decide (F' (p * 8 + x) < n))
    rw [hF _ (by omega)]
theorem foS_cong {F F' T T' : Nat → Int32} (hF : ∀ i, i < 64 → F i = F' i) {lv cr : Nat} (hc : cr < 256) (hs : sbI cr lv) (hT : tbE lv cr T T') {la : Option Nat} (hla : ∀ x, la = some x → x < 8) {n : Int32} : foS F T lv cr la n = foS F' T' lv cr la n := by
  unfold foS
  rw [lpI_cong2 (g := foF F' T' lv cr la n)]
  intro p s hp
  unfold foF
  rw [frB_cong hF hla hp]
  by_cases hb : frB F' lv cr la n p = true
  · have hb' := hb
    simp only [frB, Bool.and_eq_true, Bool.not_eq_true'] at hb'
    rw [if_pos hb, if_pos hb, hT _ p (stN_lt hb'.1.2) (stN_256 cr hc p hp) (sbI_st hc hp hs hb'.1.1) hp]
  · rw [if_neg hb, if_neg hb]
theorem loS_cong {F F' T T' : Nat → Int32} (hF : ∀ i, i < 64 → F i = F' i) {lv cr : Nat} (hc : cr < 256) (hs : sbI cr lv) (hT : tbE lv cr T T') {la : Option Nat} (hla : ∀ x, la = some x → x < 8) {n : Int32} : loS F T lv cr la n = loS F' T' lv cr la n := by
  unfold loS
  rw [foS_cong hF hc hs hT hla]
  cases e : foS F' T' lv cr la n with
  | none => rfl
  | some x =>
    obtain ⟨h1, h2, h3⟩ := foS_lt e
    show 1 + T (stN cr x * 8 + x) = 1 + T' (stN cr x * 8 + x)
    rw [hT _ x (stN_lt h3) (stN_256 cr hc x h1) (sbI_st hc h1 hs h2) h1]
theorem ltR_cong {F F' T T' : Nat → Int32} (hF : ∀ i, i < 64 → F i = F' i) {lv cr : Nat} (hc : cr < 256) (hs : sbI cr lv) (hT : tbE lv cr T T') {n : Int32} : ∀ j, j ≤ 8 → tbE lv cr (ltR F lv n T cr j) (ltR F' lv n T' cr j) ∧ ∀ i, i < j → ltR F lv n T cr j (cr * 8 + i) = ltR F' lv n T' cr j (cr * 8 + i)
  | 0, _ => ⟨hT, fun i hi => by omega⟩
  | j + 1, hj => by
    obtain ⟨h1, h2⟩ := ltR_cong hF hc hs hT j (by omega) (n := n)
    have e : ltV F lv n (ltR F lv n T cr j) cr j = ltV F' lv n (ltR F' lv n T' cr j) cr j := by
      unfold ltV
      rw [loS_cong hF hc hs h1 (fun x e => by cases e; omega)]
    unfold ltR
    refine ⟨fun m x hm hm2 hms hx => ?_, fun i hi => ?_⟩
    · rw [rz_u_n (by omega), rz_u_n (by omega)]; exact h1 m x hm hm2 hms hx
    · by_cases hij : i = j
      · subst hij; rw [rz_u_s, rz_u_s]; exact e
      · rw [rz_u_n (by omega), rz_u_n (by omega)]; exact h2 i (by omega)
theorem ltK_cong {F F' f f' : Nat → Int32} (hF : ∀ i, i < 64 → F i = F' i) {lv : Nat} {n : Int32} : ∀ k, k ≤ 255 → tbE lv (255 - k) (ltK F lv n f k) (ltK F' lv n f' k)
  | 0, _ => fun m x h1 h2 _ _ => by omega
  | k + 1, hk => by
    have ih := ltK_cong hF k (by omega) (lv := lv) (n := n) (f := f) (f' := f')
    intro m x h1 h2 h3 h4
    unfold ltK
    by_cases hs : nI (255 - k) &&& (nI lv ^^^ (-1)) = 0
    · rw [if_pos hs, if_pos hs]
      obtain ⟨g1, g2⟩ := ltR_cong hF (show 255 - k < 256 by omega) hs ih 8 (by omega) (n := n)
      by_cases hm : m = 255 - k
      · subst hm; exact g2 x h4
      · exact g1 m x (by omega) h2 h3 h4
    · rw [if_neg hs, if_neg hs]
      by_cases hm : m = 255 - k
      · subst hm; exact absurd h3 hs
      · exact ih m x (by omega) h2 h3 h4
theorem liI_cong {F F' B B' : Nat → Int32} (hF : ∀ i, i < 64 → F i = F' i) {lv : Nat} {n : Int32} (hB : tbE lv 0 B B') : ∀ (k i : Nat) (la : Option Nat) (cr : Nat) (f f' : Nat → Int32), i + k = 8 → cr < 256 → sbI cr lv → (∀ x, la = some x → x < 8 ∧ lv.testBit x = true) → (∀ j, j < i → f j = f' j) → (liI F B lv n k i la cr f).1 = (liI F' B' lv n k i la cr f').1 ∧ (liI F' B' lv n k i la cr f').1 ≤ 8 ∧ ∀ j, j < (liI F' B' lv n k i la cr f').1 → (liI F B lv n k i la cr f).2 j = (liI F' B' lv n k i la cr f').2 j := by
  intro k
  induction k with
  | zero => intro i la cr f f' hi hc hs hla hf; exact ⟨rfl, by show i ≤ 8; omega, hf⟩
  | succ k ih =>
    intro i la cr f f' hi hc hs hla hf
    cases la with
    | none => exact ⟨rfl, by show i ≤ 8; omega, hf⟩
    | some x =>
      obtain ⟨h1, h2⟩ := hla x rfl
      have s2 := sbI_st hc h1 hs h2
      have c2 := stN_256 cr hc x h1
      have e : foS F B lv (stN cr x) (some x) n = foS F' B' lv (stN cr x) (some x) n := foS_cong hF c2 s2 (fun m y a1 a2 a3 a4 => hB m y (by omega) a2 a3 a4) (fun y e => by cases e; exact h1)
      have g := ih (i + 1) (foS F' B' lv (stN cr x) (some x) n) (stN cr x) (rz_u f i (nI x)) (rz_u f' i (nI x)) (by omega) c2 s2 (fun y e => ⟨(foS_lt e).1, (foS_lt e).2.1⟩) (fun j hj => by
        by_cases hji : j = i
        · subst hji; rw [rz_u_s, rz_u_s]
        · rw [rz_u_n hji, rz_u_n hji]; exact hf j (by omega))
      unfold liI
      rw [e]
      exact g
theorem sbI_0 (lv : Nat) : sbI 0 lv := by
  rw [sbI_iff (by omega)]
  intro i hi e
  simp at e
def rwB (C : List (Nat × Nat)) (R : Nat → Int32) (lv : Nat) (n : Int32) : Nat → Int32 := ltK (meS C R) lv n (fun _ => 0) 255
def rwS (C : List (Nat × Nat)) (R : Nat → Int32) (lv : Nat) (n : Int32) : Nat × (Nat → Int32) := liI (meS C R) (rwB C R lv n) lv n 8 0 (foS (meS C R) (rwB C R lv n) lv 0 none n) 0 (fun _ => 0)
section COURT7
variable {Z : rx_Z} {d : Nat} {h : Nat → Option rx_E} {ι : Nat → Nat → Int32} {w : Nat × Nat} {c l r m lv : Nat} {C : List (Nat × Nat)} {R : Nat → Int32} {dk : Option Nat}
theorem ct_rows (q : QC Z h ι c l r C R m dk lv) (n : Int32) : ∃ ι', rz_f Z (d + 5) 15 [.ref (c + 16), .ref r, .ref l, .int n] (rz_mk h ι, w) = some (.inl (some (.int (nI (rwS C R lv n).1))), (rz_mk h ι', w)) ∧ fr (scC c) ι ι' ∧ (rwS C R lv n).1 ≤ 8 ∧ ∀ j, j < (rwS C R lv n).1 → ι' (c + 22) j = (rwS C R lv n).2 j := by
  obtain ⟨ι1, g1, g2, g3⟩ := ct_measure (d := d) (w := w) q
  have hlv := q.2.2.2.2.2.2.2.2.2.2.2.2.2.l256
  have h4 : ι1 r 4 = nI lv := by
    have := (q.fr g2).2.2.2.2.2.2.2.2.2.2.2.2.1
    have h56 : rl ι1 r 56 = nI lv := by rw [this]; exact q.2.2.2.2.2.2.2.2.2.2.2.2.2.2.2.2.2.1
    exact h56
  obtain ⟨q1, ⟨pv, q2⟩, q3, q4, q5, q6, q7, q8, q9, q10, q11, q12, q13, q14⟩ := q
  have H := ct_lineUp (ι := ι1) (ι0 := ι) (w := w) (d := d) (l := l) (n := n) q8 (by omega) q6 (by omega) h4 hlv g1
  have bb : tbE lv 0 (ltK (ι1 (c + 16 + 1)) lv n (ι1 (c + 16 + 2)) 255) (rwB C R lv n) := ltK_cong g3 255 (by omega)
  have fe : foS (ι1 (c + 16 + 1)) (ltK (ι1 (c + 16 + 1)) lv n (ι1 (c + 16 + 2)) 255) lv 0 none n = foS (meS C R) (rwB C R lv n) lv 0 none n := foS_cong g3 (by omega) (sbI_0 lv) bb (fun x e => by cases e)
  rw [fe] at H
  obtain ⟨k1, k2, k3⟩ := liI_cong (F := ι1 (c + 16 + 1)) (F' := meS C R) g3 (n := n) bb 8 0 (foS (meS C R) (rwB C R lv n) lv 0 none n) 0 (ι1 (c + 16 + 6)) (fun _ => 0) (by omega) (by omega) (sbI_0 lv) (fun y e => ⟨(foS_lt e).1, (foS_lt e).2.1⟩) (fun j hj => by omega)
  refine ⟨_, H.trans (by rw [k1]; rfl), ?_, k2, fun j hj => ?_⟩
  · intro x hx
    rw [rz_rw_n (fun e => hx (by unfold scC; omega)), rz_rw_n (fun e => hx (by unfold scC; omega))]
    exact g2 x hx
  · rw [show c + 22 = c + 16 + 6 by omega, rz_rw_s]
    exact k3 j hj
theorem cl_row0 (q : QC Z h ι c l r C R m dk lv) {x : Int32} (hx : inB x 99 = false) : refC Z (d + 2) h ι w c 139 [.int x] 0 := by
  obtain ⟨q1, ⟨pv, q2⟩, q3, q4, q5, q6, q7, q8, q9, q10, q11, q12, q13, q14⟩ := q
  have hx : (!decide (x < 0) && !decide ((99 : Int32) < x)) = false := hx
  unfold refC
  rw [e139]
  simp (decide := true) (maxDischargeDepth := 4) only [g139_0, g139_1, g139_2, g139_3, g139_5, g139_8, g139_11, g139_12, g139_15, g139_16, g139_19, g139_20, g139_23, g139_24, g139_27, rz_k_inl, rz_k_inr, Option.toList_some, Option.toList_none, List.cons_append, List.nil_append, List.append_nil, rz_up_s, rz_u_s, rz_up_n, rz_u_n, ne_eq, not_false_eq_true, not_true_eq_false, Nat.add_assoc, Nat.reduceAdd, reduceIte, Nat.add_eq_left, Nat.left_eq_add, Nat.add_left_cancel_iff, Nat.reduceEqDiff, Nat.add_right_cancel_iff, rz_nb0, rz_nb1, rz_nbb, rz_nbi, rz_isr, rz_zle, if_true, if_false, rz_bi0, rz_bi1, Bool.not_eq_true, Bool.not_eq_false, Bool.true_eq_false, Bool.false_eq_true, rz_ix_lit, cl_lit, Nat.reduceLT, bi_t, bi_f, decide_true, decide_false, Bool.not_false, Bool.not_true, Bool.and_true, Bool.true_and, Bool.and_false, Bool.false_and, oHr_c q2, oHr_f0 q2, oHr_v0 q2, oHr_f1 q2, oHr_v1 q2, oHr_f2 q2, oHr_v2 q2, oHr_f3 q2, oHr_v3 q2, oHr_f4 q2, oHr_v4 q2, oHr_f5 q2, oHr_v5 q2, oHr_f6 q2, oHr_v6 q2, oHr_f7 q2, oHr_v7 q2, oHr_f8 q2, oHr_v8 q2, oHr_f9 q2, oHr_v9 q2, oHr_f10 q2, oHr_v10 q2, oHr_f11 q2, oHr_v11 q2, oHr_f12 q2, oHr_v12 q2, oHr_i13 q2, oHr_i14 q2, oHr_i15 q2, oHr_i16 q2, oHr_i17 q2, hr_within, hx, hr_need0 q2 q1]
theorem cl_row (q : QC Z h ι c l r C R m dk lv) {x : Int32} (hx : inB x 99 = true) : ansC Z (d + 6) h ι w c 139 [.int x] (nI (rwS C R lv x).1) := by
  obtain ⟨ι', g1, g2, _⟩ := ct_rows (d := d) (w := w) q x
  obtain ⟨q1, ⟨pv, q2⟩, q3, q4, q5, q6, q7, q8, q9, q10, q11, q12, q13, q14⟩ := q
  have hx : (!decide (x < 0) && !decide ((99 : Int32) < x)) = true := hx
  refine ⟨ι', ?_, g2⟩
  rw [e139]
  simp (decide := true) (maxDischargeDepth := 4) only [g139_0, g139_1, g139_2, g139_3, g139_5, g139_8, g139_11, g139_12, g139_15, g139_16, g139_19, g139_20, g139_23, g139_24, g139_27, rz_k_inl, rz_k_inr, Option.toList_some, Option.toList_none, List.cons_append, List.nil_append, List.append_nil, rz_up_s, rz_u_s, rz_up_n, rz_u_n, ne_eq, not_false_eq_true, not_true_eq_false, Nat.add_assoc, Nat.reduceAdd, reduceIte, Nat.add_eq_left, Nat.left_eq_add, Nat.add_left_cancel_iff, Nat.reduceEqDiff, Nat.add_right_cancel_iff, rz_nb0, rz_nb1, rz_nbb, rz_nbi, rz_isr, rz_zle, if_true, if_false, rz_bi0, rz_bi1, Bool.not_eq_true, Bool.not_eq_false, Bool.true_eq_false, Bool.false_eq_true, rz_ix_lit, cl_lit, Nat.reduceLT, bi_t, bi_f, decide_true, decide_false, Bool.not_false, Bool.not_true, Bool.and_true, Bool.true_and, Bool.and_false, Bool.false_and, oHr_c q2, oHr_f0 q2, oHr_v0 q2, oHr_f1 q2, oHr_v1 q2, oHr_f2 q2, oHr_v2 q2, oHr_f3 q2, oHr_v3 q2, oHr_f4 q2, oHr_v4 q2, oHr_f5 q2, oHr_v5 q2, oHr_f6 q2, oHr_v6 q2, oHr_f7 q2, oHr_v7 q2, oHr_f8 q2, oHr_v8 q2, oHr_f9 q2, oHr_v9 q2, oHr_f10 q2, oHr_v10 q2, oHr_f11 q2, oHr_v11 q2, oHr_f12 q2, oHr_v12 q2, oHr_i13 q2, oHr_i14 q2, oHr_i15 q2, oHr_i16 q2, oHr_i17 q2, oCt_c, oCt_f0, oCt_v0, oCt_f1, oCt_v1, oCt_f2, oCt_v2, oCt_f3, oCt_v3, oCt_f4, oCt_v4, oCt_f5, oCt_v5, oCt_a1, oCt_n1, oCt_a2, oCt_n2, oCt_a3, oCt_n3, oCt_a4, oCt_n4, oCt_a5, oCt_n5, oCt_a6, oCt_n6, q8, hr_within, hx, hr_need1 q2, g1]
def rdB (x y : Int32) : Bool := inB x 99 && !decide (y < 0)
theorem cl_rowed0 (q : QC Z h ι c l r C R m dk lv) {x y : Int32} (hb : rdB x y = false) : refC Z (d + 2) h ι w c 140 [.int x, .int y] 0 := by
  obtain ⟨q1, ⟨pv, q2⟩, q3, q4, q5, q6, q7, q8, q9, q10, q11, q12, q13, q14⟩ := q
  have e1 : (!decide (x < 0) && !decide ((99 : Int32) < x)) = inB x 99 := rfl
  unfold refC
  rw [e140]
  by_cases c1 : inB x 99 = true
  · have c2 : y < 0 := by simpa [rdB, c1] using hb
    simp (decide := true) (maxDischargeDepth := 4) only [g140_0, g140_1, g140_2, g140_3, g140_5, g140_8, g140_11, g140_12, g140_15, g140_16, g140_19, g140_20, g140_23, g140_24, g140_25, g140_28, g140_29, g140_32, g140_33, g140_36, g140_37, g140_40, g140_43, g140_44, g140_47, g140_50, g140_51, g140_52, g140_55, g140_56, rz_k_inl, rz_k_inr, Option.toList_some, Option.toList_none, List.cons_append, List.nil_append, List.append_nil, rz_up_s, rz_u_s, rz_up_n, rz_u_n, ne_eq, not_false_eq_true, not_true_eq_false, Nat.add_assoc, Nat.reduceAdd, reduceIte, Nat.add_eq_left, Nat.left_eq_add, Nat.add_left_cancel_iff, Nat.reduceEqDiff, Nat.add_right_cancel_iff, rz_nb0, rz_nb1, rz_nbb, rz_nbi, rz_isr, rz_zle, if_true, if_false, rz_bi0, rz_bi1, Bool.not_eq_true, Bool.not_eq_false, Bool.true_eq_false, Bool.false_eq_true, rz_ix_lit, cl_lit, Nat.reduceLT, bi_t, bi_f, decide_true, decide_false, Bool.not_false, Bool.not_true, Bool.and_true, Bool.true_and, Bool.and_false, Bool.false_and, oHr_c q2, oHr_f0 q2, oHr_v0 q2, oHr_f1 q2, oHr_v1 q2, oHr_f2 q2, oHr_v2 q2, oHr_f3 q2, oHr_v3 q2, oHr_f4 q2, oHr_v4 q2, oHr_f5 q2, oHr_v5 q2, oHr_f6 q2, oHr_v6 q2, oHr_f7 q2, oHr_v7 q2, oHr_f8 q2, oHr_v8 q2, oHr_f9 q2, oHr_v9 q2, oHr_f10 q2, oHr_v10 q2, oHr_f11 q2, oHr_v11 q2, oHr_f12 q2, oHr_v12 q2, oHr_i13 q2, oHr_i14 q2, oHr_i15 q2, oHr_i16 q2, oHr_i17 q2, hr_within, e1, c1, c2, hr_need0 q2 q1]
  · rw [Bool.not_eq_true] at c1
    simp (decide := true) (maxDischargeDepth := 4) only [g140_0, g140_1, g140_2, g140_3, g140_5, g140_8, g140_11, g140_12, g140_15, g140_16, g140_19, g140_20, g140_23, g140_24, g140_25, g140_28, g140_29, g140_32, g140_33, g140_36, g140_37, g140_40, g140_43, g140_44, g140_47, g140_50, g140_51, g140_52, g140_55, g140_56, rz_k_inl, rz_k_inr, Option.toList_some, Option.toList_none, List.cons_append, List.nil_append, List.append_nil, rz_up_s, rz_u_s, rz_up_n, rz_u_n, ne_eq, not_false_eq_true, not_true_eq_false, Nat.add_assoc, Nat.reduceAdd, reduceIte, Nat.add_eq_left, Nat.left_eq_add, Nat.add_left_cancel_iff, Nat.reduceEqDiff, Nat.add_right_cancel_iff, rz_nb0, rz_nb1, rz_nbb, rz_nbi, rz_isr, rz_zle, if_true, if_false, rz_bi0, rz_bi1, Bool.not_eq_true, Bool.not_eq_false, Bool.true_eq_false, Bool.false_eq_true, rz_ix_lit, cl_lit, Nat.reduceLT, bi_t, bi_f, decide_true, decide_false, Bool.not_false, Bool.not_true, Bool.and_true, Bool.true_and, Bool.and_false, Bool.false_and, oHr_c q2, oHr_f0 q2, oHr_v0 q2, oHr_f1 q2, oHr_v1 q2, oHr_f2 q2, oHr_v2 q2, oHr_f3 q2, oHr_v3 q2, oHr_f4 q2, oHr_v4 q2, oHr_f5 q2, oHr_v5 q2, oHr_f6 q2, oHr_v6 q2, oHr_f7 q2, oHr_v7 q2, oHr_f8 q2, oHr_v8 q2, oHr_f9 q2, oHr_v9 q2, oHr_f10 q2, oHr_v10 q2, oHr_f11 q2, oHr_v11 q2, oHr_f12 q2, oHr_v12 q2, oHr_i13 q2, oHr_i14 q2, oHr_i15 q2, oHr_i16 q2, oHr_i17 q2, hr_within, e1, c1, hr_need0 q2 q1]
theorem cl_rowed (q : QC Z h ι c l r C R m dk lv) {x y : Int32} (hb : rdB x y = true) : ansC Z (d + 6) h ι w c 140 [.int x, .int y] (if y < nI (rwS C R lv x).1 then (rwS C R lv x).2 y.toNatClampNeg else -1) := by
  obtain ⟨ι', g1, g2, g3, g4⟩ := ct_rows (d := d) (w := w) q x
  obtain ⟨q1, ⟨pv, q2⟩, q3, q4, q5, q6, q7, q8, q9, q10, q11, q12, q13, q14⟩ := q
  simp only [rdB, Bool.and_eq_true] at hb
  have b1 : (!decide (x < 0) && !decide ((99 : Int32) < x)) = true := hb.1
  have b2 : ¬ y < 0 := by simpa using hb.2
  refine ⟨ι', ?_, g2⟩
  rw [e140]
  rcases pk_ix y (n := (rwS C R lv x).1) (by omega) with h1 | h1 | ⟨j, h1, h2⟩
  · exact absurd h1 b2
  · have c1 : ¬ y < nI (rwS C R lv x).1 := Int32.not_lt.mpr h1
    rw [if_neg c1]
    simp (decide := true) (maxDischargeDepth := 4) only [g140_0, g140_1, g140_2, g140_3, g140_5, g140_8, g140_11, g140_12, g140_15, g140_16, g140_19, g140_20, g140_23, g140_24, g140_25, g140_28, g140_29, g140_32, g140_33, g140_36, g140_37, g140_40, g140_43, g140_44, g140_47, g140_50, g140_51, g140_52, g140_55, g140_56, rz_k_inl, rz_k_inr, Option.toList_some, Option.toList_none, List.cons_append, List.nil_append, List.append_nil, rz_up_s, rz_u_s, rz_up_n, rz_u_n, ne_eq, not_false_eq_true, not_true_eq_false, Nat.add_assoc, Nat.reduceAdd, reduceIte, Nat.add_eq_left, Nat.left_eq_add, Nat.add_left_cancel_iff, Nat.reduceEqDiff, Nat.add_right_cancel_iff, rz_nb0, rz_nb1, rz_nbb, rz_nbi, rz_isr, rz_zle, if_true, if_false, rz_bi0, rz_bi1, Bool.not_eq_true, Bool.not_eq_false, Bool.true_eq_false, Bool.false_eq_true, rz_ix_lit, cl_lit, Nat.reduceLT, bi_t, bi_f, decide_true, decide_false, Bool.not_false, Bool.not_true, Bool.and_true, Bool.true_and, Bool.and_false, Bool.false_and, oHr_c q2, oHr_f0 q2, oHr_v0 q2, oHr_f1 q2, oHr_v1 q2, oHr_f2 q2, oHr_v2 q2, oHr_f3 q2, oHr_v3 q2, oHr_f4 q2, oHr_v4 q2, oHr_f5 q2, oHr_v5 q2, oHr_f6 q2, oHr_v6 q2, oHr_f7 q2, oHr_v7 q2, oHr_f8 q2, oHr_v8 q2, oHr_f9 q2, oHr_v9 q2, oHr_f10 q2, oHr_v10 q2, oHr_f11 q2, oHr_v11 q2, oHr_f12 q2, oHr_v12 q2, oHr_i13 q2, oHr_i14 q2, oHr_i15 q2, oHr_i16 q2, oHr_i17 q2, oCt_c, oCt_f0, oCt_v0, oCt_f1, oCt_v1, oCt_f2, oCt_v2, oCt_f3, oCt_v3, oCt_f4, oCt_v4, oCt_f5, oCt_v5, oCt_a1, oCt_n1, oCt_a2, oCt_n2, oCt_a3, oCt_n3, oCt_a4, oCt_n4, oCt_a5, oCt_n5, oCt_a6, oCt_n6, q8, hr_within, b1, b2, hr_need1 q2, g1, c1]
  · subst h2
    have c1 : nI j < nI (rwS C R lv x).1 := nI_lt h1 (by omega)
    have i1 : rz_ix (nI j) 8 := rz_ix_nat (by omega) (by omega)
    have n1 := nI_cl (show j < 2147483648 by omega)
    rw [if_pos c1, n1]
    simp (decide := true) (maxDischargeDepth := 4) only [g140_0, g140_1, g140_2, g140_3, g140_5, g140_8, g140_11, g140_12, g140_15, g140_16, g140_19, g140_20, g140_23, g140_24, g140_25, g140_28, g140_29, g140_32, g140_33, g140_36, g140_37, g140_40, g140_43, g140_44, g140_47, g140_50, g140_51, g140_52, g140_55, g140_56, rz_k_inl, rz_k_inr, Option.toList_some, Option.toList_none, List.cons_append, List.nil_append, List.append_nil, rz_up_s, rz_u_s, rz_up_n, rz_u_n, ne_eq, not_false_eq_true, not_true_eq_false, Nat.add_assoc, Nat.reduceAdd, reduceIte, Nat.add_eq_left, Nat.left_eq_add, Nat.add_left_cancel_iff, Nat.reduceEqDiff, Nat.add_right_cancel_iff, rz_nb0, rz_nb1, rz_nbb, rz_nbi, rz_isr, rz_zle, if_true, if_false, rz_bi0, rz_bi1, Bool.not_eq_true, Bool.not_eq_false, Bool.true_eq_false, Bool.false_eq_true, rz_ix_lit, cl_lit, Nat.reduceLT, bi_t, bi_f, decide_true, decide_false, Bool.not_false, Bool.not_true, Bool.and_true, Bool.true_and, Bool.and_false, Bool.false_and, oHr_c q2, oHr_f0 q2, oHr_v0 q2, oHr_f1 q2, oHr_v1 q2, oHr_f2 q2, oHr_v2 q2, oHr_f3 q2, oHr_v3 q2, oHr_f4 q2, oHr_v4 q2, oHr_f5 q2, oHr_v5 q2, oHr_f6 q2, oHr_v6 q2, oHr_f7 q2, oHr_v7 q2, oHr_f8 q2, oHr_v8 q2, oHr_f9 q2, oHr_v9 q2, oHr_f10 q2, oHr_v10 q2, oHr_f11 q2, oHr_v11 q2, oHr_f12 q2, oHr_v12 q2, oHr_i13 q2, oHr_i14 q2, oHr_i15 q2, oHr_i16 q2, oHr_i17 q2, oCt_c, oCt_f0, oCt_v0, oCt_f1, oCt_v1, oCt_f2, oCt_v2, oCt_f3, oCt_v3, oCt_f4, oCt_v4, oCt_f5, oCt_v5, oCt_a1, oCt_n1, oCt_a2, oCt_n2, oCt_a3, oCt_n3, oCt_a4, oCt_n4, oCt_a5, oCt_n5, oCt_a6, oCt_n6, q8, hr_within, b1, b2, hr_need1 q2, g1, c1, i1, n1, g4 j h1]
end COURT7
