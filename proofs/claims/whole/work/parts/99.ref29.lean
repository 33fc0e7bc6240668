/-! pairs: what a search comes to -/
section PR2
variable {F B : Nat → Int32} {lv : Nat}
theorem rm2_bit {n p q x : Nat} (hn : n < 256) (hp : p < 8) (hq : q < 8) (hx : x < 8) : (rmN (rmN n p) q).testBit x = (n.testBit x && !decide (x = p) && !decide (x = q)) := by
  rw [rmN_bit _ (rmN_256 hn) q hq x hx, rmN_bit n hn p hp x hx]
/-- after the mates below i: nothing was better, or the first of the best -/
def JJ (F B : Nat → Int32) (n s i : Nat) (M0 : Int32) (MO BM0 : Nat → Int32) (M : Int32) (BM : Nat → Int32) : Prop :=
  (M = M0 ∧ (∀ x, x < 8 → BM x = BM0 x) ∧ ∀ q, q < i → q < 8 → (rmN n (tzN n)).testBit q = true → ¬ M0 < nI (s + vvP F B n q)) ∨
  ∃ q0, q0 < i ∧ q0 < 8 ∧ (rmN n (tzN n)).testBit q0 = true ∧ M0 < nI (s + vvP F B n q0) ∧ M = nI (s + vvP F B n q0) ∧ (∀ q, q < i → q < 8 → (rmN n (tzN n)).testBit q = true → vvP F B n q ≤ vvP F B n q0) ∧ (∀ q, q < q0 → (rmN n (tzN n)).testBit q = true → vvP F B n q < vvP F B n q0) ∧ ∀ x, x < 8 → BM x = if x = tzN n then nI q0 else if x = q0 then nI (tzN n) else if n.testBit x = true then gmK F B 8 (rmN (rmN n (tzN n)) q0) x else MO x
/-- what a search does: from the sum s, the mates so far MO -/
def SS (F B : Nat → Int32) (n s : Nat) (M : Int32) (MO BM : Nat → Int32) (M' : Int32) (BM' : Nat → Int32) : Prop :=
  (M < nI (s + bNt B n) ∧ M' = nI (s + bNt B n) ∧ ∀ x, x < 8 → BM' x = if n.testBit x = true then gmK F B 8 n x else MO x) ∨ (¬ M < nI (s + bNt B n) ∧ M' = M ∧ ∀ x, x < 8 → BM' x = BM x)
theorem JJ.skip {n s i : Nat} {M0 M : Int32} {MO BM0 BM : Nat → Int32} (j : JJ F B n s i M0 MO BM0 M BM) (hb : (rmN n (tzN n)).testBit i = false) : JJ F B n s (i + 1) M0 MO BM0 M BM := by
  rcases j with ⟨h1, h2, h3⟩ | ⟨q0, h1, h2, h3, h4, h5, h6, h7, h8⟩
  · left
    refine ⟨h1, h2, fun q hq hq8 hqb => ?_⟩
    by_cases e : q = i
    · subst e; rw [hb] at hqb; cases hqb
    · exact h3 q (by omega) hq8 hqb
  · right
    refine ⟨q0, by omega, h2, h3, h4, h5, fun q hq hq8 hqb => ?_, h7, h8⟩
    by_cases e : q = i
    · subst e; rw [hb] at hqb; cases hqb
    · exact h6 q (by omega) hq8 hqb
theorem JJ.step (h : tbOk F B lv) {n s i : Nat} (h0 : 0 < n) (hn : n < 256) (hs : sbI n lv) (hsum : s + 99 * popN n < 10000) {M0 M M' : Int32} {MO MO1 BM0 BM BM' : Nat → Int32} (j : JJ F B n s i M0 MO BM0 M BM) (hi : i < 8) (hb : (rmN n (tzN n)).testBit i = true) (hM0 : ∀ a, a < 10000 → ∀ c, c < 10000 → M0 < nI a → a ≤ c → M0 < nI c) (hMO : MO1 (tzN n) = nI i ∧ MO1 i = nI (tzN n) ∧ ∀ x, x < 8 → n.testBit x = false → MO1 x = MO x) (hS : SS F B (rmN (rmN n (tzN n)) i) (s + (F (i * 8 + tzN n)).toNatClampNeg) M MO1 BM M' BM') : JJ F B n s (i + 1) M0 MO BM0 M' BM' := by
  obtain ⟨t1, t2, t3⟩ := tzN_ok n hn h0
  have es : s + (F (i * 8 + tzN n)).toNatClampNeg + bNt B (rmN (rmN n (tzN n)) i) = s + vvP F B n i := by unfold vvP; omega
  obtain ⟨v1, v2⟩ := h.vv h0 hn hs hi hb
  unfold SS at hS
  rw [es] at hS
  have inb : i ≠ tzN n := fun e => by
    rw [e, rmN_bit n hn _ t1 _ t1] at hb; simp at hb
  have bm : (∀ x, x < 8 → BM' x = if (rmN (rmN n (tzN n)) i).testBit x = true then gmK F B 8 (rmN (rmN n (tzN n)) i) x else MO1 x) → ∀ x, x < 8 → BM' x = if x = tzN n then nI i else if x = i then nI (tzN n) else if n.testBit x = true then gmK F B 8 (rmN (rmN n (tzN n)) i) x else MO x := by
    intro hx x x8
    rw [hx x x8, rm2_bit hn t1 hi x8]
    by_cases e1 : x = tzN n
    · subst e1; simp [hMO.1]
    · by_cases e2 : x = i
      · subst e2; simp [e1, hMO.2.1]
      · rw [if_neg e1, if_neg e2]
        cases e3 : n.testBit x
        · simp [hMO.2.2 x x8 e3]
        · simp [e1, e2]
  rcases hS with ⟨c1, c2, c3⟩ | ⟨c1, c2, c3⟩
  · -- it is better
    right
    rcases j with ⟨h1, h2, h3⟩ | ⟨q0, h1, h2, h3, h4, h5, h6, h7, h8⟩
    · rw [h1] at c1
      have lt : ∀ q, q < i → q < 8 → (rmN n (tzN n)).testBit q = true → vvP F B n q < vvP F B n i := by
        intro q hq hq8 hqb
        apply Decidable.byContradiction
        intro z
        obtain ⟨w1, w2⟩ := h.vv h0 hn hs hq8 hqb
        exact h3 q hq hq8 hqb (hM0 _ (by omega) _ (by omega) c1 (by omega))
      refine ⟨i, by omega, hi, hb, c1, c2, fun q hq hq8 hqb => ?_, fun q hq hqb => lt q hq (by omega) hqb, bm c3⟩
      by_cases e : q = i
      · subst e; omega
      · have := lt q (by omega) hq8 hqb; omega
    · obtain ⟨w1, w2⟩ := h.vv h0 hn hs h2 h3
      rw [h5, nI_lt2 (by omega) (by omega)] at c1
      refine ⟨i, by omega, hi, hb, hM0 _ (by omega) _ (by omega) h4 (by omega), c2, fun q hq hq8 hqb => ?_, fun q hq hqb => ?_, bm c3⟩
      · by_cases e : q = i
        · subst e; omega
        · have := h6 q (by omega) hq8 hqb; omega
      · have := h6 q (by omega) (by omega) hqb; omega
  · rcases j with ⟨h1, h2, h3⟩ | ⟨q0, h1, h2, h3, h4, h5, h6, h7, h8⟩
    · left
      refine ⟨by rw [c2, h1], fun x hx => by rw [c3 x hx, h2 x hx], fun q hq hq8 hqb => ?_⟩
      by_cases e : q = i
      · subst e; rw [← h1]; exact c1
      · exact h3 q (by omega) hq8 hqb
    · right
      obtain ⟨w1, w2⟩ := h.vv h0 hn hs h2 h3
      rw [h5, nI_lt2 (by omega) (by omega)] at c1
      refine ⟨q0, by omega, h2, h3, h4, by rw [c2, h5], fun q hq hq8 hqb => ?_, h7, fun x hx => by rw [c3 x hx, h8 x hx]⟩
      by_cases e : q = i
      · subst e; omega
      · exact h6 q (by omega) hq8 hqb
theorem gmK_nn {n : Nat} (h0 : 0 < n) (hn : n < 256) (hm : hgM F B n 8 0 = none) : gmK F B 8 n = gmK F B 8 (rmN n (tzN n)) := by
  obtain ⟨t1, t2, t3⟩ := tzN_ok n hn h0
  have p1 := pop_rm n hn _ t1 t2
  have p8 := pop_8 n hn
  rw [gmK_fuel 8 7 (rmN_256 hn) (by omega) (by omega)]
  conv => lhs; rw [gmK, if_neg (show ¬ n = 0 by omega), hm]
theorem gmK_sm {n j : Nat} (h0 : 0 < n) (hn : n < 256) (hm : hgM F B n 8 0 = some j) : gmK F B 8 n = rz_u (rz_u (gmK F B 8 (rmN (rmN n (tzN n)) j)) (tzN n) (nI j)) j (nI (tzN n)) := by
  obtain ⟨t1, t2, t3⟩ := tzN_ok n hn h0
  have p1 := pop_rm n hn _ t1 t2
  have p8 := pop_8 n hn
  have j8 : j < 8 := by have := hgM_lt hm; omega
  have p2 := pop_rm2 _ (rmN_256 (i := tzN n) hn) j j8
  rw [gmK_fuel 8 7 (rmN_256 (rmN_256 hn)) (by omega) (by omega)]
  conv => lhs; rw [gmK, if_neg (show ¬ n = 0 by omega), hm]
theorem gmK_out (h : tbOk F B lv) : ∀ (k : Nat) {y x : Nat}, y < 256 → sbI y lv → x < 8 → y.testBit x = false → gmK F B k y x = -1
  | 0, _, _, _, _, _, _ => rfl
  | k + 1, y, x, hy, hsy, hx, hby => by
    rw [gmK]
    by_cases y0 : y = 0
    · rw [if_pos y0]
    · rw [if_neg y0]
      obtain ⟨u1, u2, u3⟩ := tzN_ok y hy (by omega)
      have xt : x ≠ tzN y := fun e => by rw [e, u2] at hby; cases hby
      cases hmy : hgM F B y 8 0 with
      | none =>
        refine gmK_out h k (rmN_256 hy) (sbI_rm hy u1 hsy) hx ?_
        rw [rmN_bit y hy _ u1 _ hx, hby]; rfl
      | some j =>
        obtain ⟨j8, jb, -, -⟩ := h.sm (by omega) hy hsy hmy
        have xj : x ≠ j := fun e => by
          rw [← e, rmN_bit y hy _ u1 _ hx, hby] at jb; cases jb
        show rz_u (rz_u (gmK F B k (rmN (rmN y (tzN y)) j)) (tzN y) (nI j)) j (nI (tzN y)) x = -1
        rw [rz_u_n xj, rz_u_n xt]
        refine gmK_out h k (rmN_256 (rmN_256 hy)) (sbI_rm (rmN_256 hy) j8 (sbI_rm hy u1 hsy)) hx ?_
        rw [rm2_bit hy u1 j8 hx, hby]; rfl
theorem hgI_gm (h : tbOk F B lv) : ∀ (k : Nat) {n : Nat} {f : Nat → Int32}, n < 256 → sbI n lv → (∀ x, x < 8 → n.testBit x = true → f x = -1) → ∀ x, x < 8 → (hgI F B k (n, f)).2 x = if n.testBit x = true then gmK F B k n x else f x
  | 0, n, f, hn, hs, hf, x, hx => by
    show f x = _
    by_cases e : n.testBit x = true
    · rw [if_pos e]; exact hf x hx e
    · rw [if_neg e]
  | k + 1, n, f, hn, hs, hf, x, hx => by
    rw [hgI]
    by_cases h0 : n = 0
    · subst h0
      rw [if_pos rfl, if_neg (by simp)]
    · rw [if_neg (show ¬ (n, f).1 = 0 from h0), gmK, if_neg h0]
      obtain ⟨t1, t2, t3⟩ := tzN_ok n hn (by omega)
      cases hm : hgM F B n 8 0 with
      | none =>
        have e : hgS F B (n, f) = (rmN n (tzN n), f) := by unfold hgS; rw [show hgM F B (n, f).1 8 0 = none from hm]
        rw [e, hgI_gm h k (rmN_256 hn) (sbI_rm hn t1 hs) (fun y hy hb => hf y hy (by rw [rmN_bit n hn _ t1 y hy, Bool.and_eq_true] at hb; exact hb.1)) x hx, rmN_bit n hn _ t1 x hx]
        by_cases x1 : x = tzN n
        · subst x1
          have hb : (rmN n (tzN n)).testBit (tzN n) = false := by rw [rmN_bit n hn _ t1 _ t1]; simp
          rw [if_neg (by simp), if_pos t2, hf _ hx t2]
          exact (gmK_out h k (rmN_256 hn) (sbI_rm hn t1 hs) t1 hb).symm
        · simp [x1]
      | some j =>
        obtain ⟨j8, jb, -, -⟩ := h.sm (by omega) hn hs hm
        have e : hgS F B (n, f) = (rmN (rmN n (tzN n)) j, rz_u (rz_u f (tzN n) (nI j)) j (nI (tzN n))) := by unfold hgS; rw [show hgM F B (n, f).1 8 0 = some j from hm]
        have jn : n.testBit j = true := by rw [rmN_bit n hn _ t1 j j8, Bool.and_eq_true] at jb; exact jb.1
        rw [e, hgI_gm h k (rmN_256 (rmN_256 hn)) (sbI_rm (rmN_256 hn) j8 (sbI_rm hn t1 hs)) (fun y hy hb => by
          rw [rm2_bit hn t1 j8 hy] at hb
          simp only [Bool.and_eq_true, Bool.not_eq_true', decide_eq_false_iff_not] at hb
          rw [rz_u_n hb.2, rz_u_n hb.1.2]
          exact hf y hy hb.1.1) x hx, rm2_bit hn t1 j8 hx]
        show _ = if n.testBit x = true then rz_u (rz_u (gmK F B k (rmN (rmN n (tzN n)) j)) (tzN n) (nI j)) j (nI (tzN n)) x else f x
        by_cases x2 : x = j
        · subst x2
          rw [if_neg (by simp), if_pos jn, rz_u_s, rz_u_s]
        · by_cases x1 : x = tzN n
          · subst x1
            rw [if_neg (by simp), if_pos t2, rz_u_n x2, rz_u_n x2, rz_u_s, rz_u_s]
          · rw [rz_u_n x2, rz_u_n x1, rz_u_n x2, rz_u_n x1]
            simp [x1, x2]
/-- all mates were tried: what is left is one alone, if they are odd -/
theorem JJ.fin (h : tbOk F B lv) {n s : Nat} (h0 : 0 < n) (hn : n < 256) (hs : sbI n lv) (hsum : s + 99 * popN n < 10000) {M0 M M' : Int32} {MO MO1 BM0 BM BM' : Nat → Int32} (j : JJ F B n s 8 M0 MO BM0 M BM) (hM0 : ∀ a, a < 10000 → ∀ c, c < 10000 → M0 < nI a → a ≤ c → M0 < nI c) (hMO : MO1 (tzN n) = -1 ∧ ∀ x, x < 8 → n.testBit x = false → MO1 x = MO x) (hS : (popN n % 2 = 1 ∧ SS F B (rmN n (tzN n)) s M MO1 BM M' BM') ∨ (popN n % 2 = 0 ∧ M' = M ∧ ∀ x, x < 8 → BM' x = BM x)) : SS F B n s M0 MO BM0 M' BM' := by
  obtain ⟨t1, t2, t3⟩ := tzN_ok n hn h0
  have p1 := pop_rm n hn _ t1 t2
  obtain ⟨b1, b2⟩ := h.bN hn hs
  obtain ⟨o1, o2⟩ := h.bN (rmN_256 (i := tzN n) hn) (sbI_rm hn t1 hs)
  obtain ⟨m1, m2, m3⟩ := h.mx h0 hn hs
  -- one alone changes nothing where it is not better
  have keep : ¬ (popN n % 2 = 1 ∧ M < nI (s + bNt B (rmN n (tzN n)))) → M' = M ∧ ∀ x, x < 8 → BM' x = BM x := by
    intro z
    rcases hS with ⟨z1, ⟨c1, c2, c3⟩ | ⟨c1, c2, c3⟩⟩ | ⟨z1, c2, c3⟩
    · exact absurd ⟨z1, c1⟩ z
    · exact ⟨c2, c3⟩
    · exact ⟨c2, c3⟩
  cases hm : hgM F B n 8 0 with
  | some jj =>
    obtain ⟨j8, jb, jv, jl⟩ := h.sm h0 hn hs hm
    rcases j with ⟨h1, h2, h3⟩ | ⟨q0, h1, h2, h3, h4, h5, h6, h7, h8⟩
    · -- nothing was better
      have nb := h3 jj j8 j8 jb
      rw [jv] at nb
      have kk := keep (fun z => by
        obtain ⟨z1, z2⟩ := z
        rw [h1] at z2
        have := m2 (by omega)
        exact nb (hM0 _ (by omega) _ (by omega) z2 (by omega)))
      right
      exact ⟨nb, by rw [kk.1, h1], fun x hx => by rw [kk.2 x hx, h2 x hx]⟩
    · have e1 := h6 jj j8 j8 jb
      have e2 := m1 q0 h2 h3
      have eq : vvP F B n q0 = bNt B n := by omega
      have q0j : q0 = jj := by
        rcases Nat.lt_trichotomy q0 jj with z | z | z
        · exact absurd eq (jl q0 z h3)
        · exact z
        · have := h7 jj z jb; omega
      have kk := keep (fun z => by
        obtain ⟨z1, z2⟩ := z
        have := m2 (by omega)
        rw [h5, nI_lt2 (by omega) (by omega)] at z2
        omega)
      left
      rw [eq] at h4 h5
      refine ⟨h4, by rw [kk.1, h5], fun x hx => ?_⟩
      rw [kk.2 x hx, h8 x hx, gmK_sm h0 hn hm, q0j]
      by_cases x1 : x = tzN n
      · have xj : x ≠ jj := fun e => by
          rw [← e, x1, rmN_bit n hn _ t1 _ t1] at jb; simp at jb
        rw [if_pos x1, if_pos (by rw [x1]; exact t2), rz_u_n xj, x1, rz_u_s]
      · rw [if_neg x1]
        by_cases x2 : x = jj
        · have : n.testBit jj = true := by
            rw [rmN_bit n hn _ t1 _ j8, Bool.and_eq_true] at jb; exact jb.1
          rw [if_pos x2, if_pos (by rw [x2]; exact this), x2, rz_u_s]
        · rw [if_neg x2, rz_u_n x2, rz_u_n x1]
  | none =>
    obtain ⟨n1, n2, n3⟩ := h.nn h0 hn hs hm
    have odd : popN n % 2 = 1 := by omega
    have gx : ∀ x, x < 8 → (if (rmN n (tzN n)).testBit x = true then gmK F B 8 (rmN n (tzN n)) x else MO1 x) = if n.testBit x = true then gmK F B 8 n x else MO x := by
      intro x hx
      rw [gmK_nn h0 hn hm, rmN_bit n hn _ t1 x hx]
      by_cases x1 : x = tzN n
      · subst x1
        rw [if_neg (by simp), if_pos t2, hMO.1]
        symm
        have hb : (rmN n (tzN n)).testBit (tzN n) = false := by rw [rmN_bit n hn _ t1 _ t1]; simp
        exact gmK_out h 8 (rmN_256 hn) (sbI_rm hn t1 hs) t1 hb
      · cases e3 : n.testBit x
        · simp [hMO.2 x hx e3]
        · simp [x1]
    rcases hS with ⟨-, ⟨c1, c2, c3⟩ | ⟨c1, c2, c3⟩⟩ | ⟨z1, -, -⟩
    · rw [n3] at c1 c2
      left
      refine ⟨?_, c2, fun x hx => (c3 x hx).trans (gx x hx)⟩
      rcases j with ⟨h1, h2, h3⟩ | ⟨q0, h1, h2, h3, h4, h5, h6, h7, h8⟩
      · rw [← h1]; exact c1
      · have := n1 q0 h2 h3
        exact hM0 _ (by omega) _ (by omega) h4 (by omega)
    · rw [n3] at c1
      rcases j with ⟨h1, h2, h3⟩ | ⟨q0, h1, h2, h3, h4, h5, h6, h7, h8⟩
      · right
        exact ⟨by rw [← h1]; exact c1, by rw [c2, h1], fun x hx => by rw [c3 x hx, h2 x hx]⟩
      · have := n1 q0 h2 h3
        rw [h5, nI_lt2 (by omega) (by omega)] at c1
        omega
    · omega
end PR2
