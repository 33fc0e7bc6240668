/-! a realm stays sound -/
theorem half9 : ∀ x, x < 10 → ∀ y, y < 10 → (nI x + nI y) / 2 = nI ((x + y) / 2) := by decide
theorem okR.tr {R : Nat → Int32} {m lv : Nat} {dk : Option Nat} (h : okR R m dk lv) (a b t : Nat) (ha : a < 8) (hb : b < 8) (ht : t < 3) : ∃ v : Nat, v ≤ 9 ∧ rCt R a b t = nI v := by
  obtain ⟨-, -, -, -, -, -, -, h8, -⟩ := h
  obtain ⟨x, x1, x2⟩ := h8 (3 * a + t) (by omega)
  obtain ⟨y, y1, y2⟩ := h8 (3 * b + t) (by omega)
  unfold rCt rIs
  rw [x2, y2, half9 x (by omega) y (by omega)]
  exact ⟨(x + y) / 2, by omega, rfl⟩
/-- only traits change -/
theorem okR.lo {R R' : Nat → Int32} {m lv : Nat} {dk : Option Nat} (h : okR R m dk lv) (hi : ∀ i, 48 ≤ i → R' i = R i) (lo : ∀ i, i < 48 → ∃ v : Nat, v ≤ 9 ∧ R' i = nI v) : okR R' m dk lv := by
  obtain ⟨h1, h2, h3, h4, h5, h6, h7, h8, ⟨y, y1, y2, y3⟩, h10, h11⟩ := h
  exact ⟨by rw [hi 57 (by omega)]; exact h1, h2, by rw [hi 58 (by omega)]; exact h3, h4, by rw [hi 56 (by omega)]; exact h5, h6, h7, lo, ⟨y, y1, by rw [hi 61 (by omega)]; exact y2, fun p hp => by rw [hi _ (by omega)]; exact y3 p hp⟩, fun i z => by rw [hi i (by omega)]; exact h10 i z, by rw [hi 60 (by omega)]; exact h11⟩
theorem okR.sho {R : Nat → Int32} {m lv p : Nat} {dk : Option Nat} (h : okR R m dk lv) (hp : p < 8) : okR (shIs R p) m dk lv := by
  refine h.lo (fun i hi => shIs_hi hp hi) (fun i hi => ?_)
  obtain ⟨-, -, -, -, -, -, -, h8, -⟩ := h
  unfold shIs
  split
  · exact h8 _ (by omega)
  · exact h8 i hi
theorem addR_at {R : Nat → Int32} {n : Nat} (x y z e : Int32) (i : Nat) : addR R n x y z e i = if 24 + 3 * n ≤ i ∧ i < 24 + 3 * n + 3 then (if i - 24 = 3 * n + 2 then z else if i - 24 = 3 * n + 1 then y else x) else if i = 3 * n + 2 then z else if i = 3 * n + 1 then y else if i = 3 * n then x else if i = 48 + n then e else if i = 56 then R 56 ||| rBit n else if i = 57 then R 57 + 1 else R i := by
  unfold addR shIs rz_u
  by_cases hc : 24 + 3 * n ≤ i ∧ i < 24 + 3 * n + 3
  · rw [if_pos hc, if_pos hc]
    by_cases h2 : i - 24 = 3 * n + 2
    · rw [if_pos h2, if_pos h2]
    · rw [if_neg h2, if_neg h2]
      by_cases h1 : i - 24 = 3 * n + 1
      · rw [if_pos h1, if_pos h1]
      · rw [if_neg h1, if_neg h1, if_pos (by omega)]
  · rw [if_neg hc, if_neg hc]
theorem okR.add {R : Nat → Int32} {m lv e y : Nat} {dk : Option Nat} (h : okR R m dk lv) (hm : m < 8) {x1 x2 x3 : Int32} (hx1 : ∃ v : Nat, v ≤ 9 ∧ x1 = nI v) (hx2 : ∃ v : Nat, v ≤ 9 ∧ x2 = nI v) (hx3 : ∃ v : Nat, v ≤ 9 ∧ x3 = nI v) (hy : R 61 = nI y) (hy9 : y ≤ 900) (he : e ≤ y + 20) (hd : dk ≠ none) : okR (addR R m x1 x2 x3 (nI e)) (m + 1) dk (stN lv m) := by
  have hl := h.l256
  obtain ⟨h1, h2, h3, h4, h5, h6, h7, h8, ⟨y', y1, y2, y3⟩, h10, dn, d1, d2⟩ := h
  have ey : y' = y := by
    rw [y2] at hy
    rw [nI_eq2 (by omega) (by omega)] at hy
    exact hy
  subst ey
  have nb : lv.testBit m = false := by
    apply Bool.eq_false_iff.mpr
    intro z
    have := Nat.ge_two_pow_of_testBit z
    omega
  have hst : stN lv m = lv + 2 ^ m := by unfold stN; rw [nb]; rfl
  refine ⟨?_, by omega, ?_, fun q hq => by have := h4 q hq; omega, ?_, ?_, fun z => absurd z hd, fun i hi => ?_, ⟨y', y1, ?_, fun p hp => ?_⟩, fun i hi => ?_, dn, ?_, ?_⟩
  · rw [addR_57 hm, h1, nI_1]
  · rw [addR_58 hm]; exact h3
  · rw [addR_56 hm, h5]; exact stN_I lv hl m hm
  · rw [hst, Nat.pow_succ]; omega
  · rw [addR_at]
    split
    · split
      · exact hx3
      · split
        · exact hx2
        · exact hx1
    · split
      · exact hx3
      · split
        · exact hx2
        · split
          · exact hx1
          · rw [if_neg (by omega), if_neg (by omega), if_neg (by omega)]
            exact h8 i hi
  · rw [addR_at, if_neg (by omega), if_neg (by omega), if_neg (by omega), if_neg (by omega), if_neg (by omega), if_neg (by omega), if_neg (by omega)]
    exact y2
  · rw [addR_at, if_neg (by omega), if_neg (by omega), if_neg (by omega), if_neg (by omega)]
    split
    · exact ⟨e, he, rfl⟩
    · rw [if_neg (by omega), if_neg (by omega)]
      exact y3 p hp
  · rw [addR_at, if_neg (by omega), if_neg (by omega), if_neg (by omega), if_neg (by omega), if_neg (by omega), if_neg (by omega), if_neg (by omega)]
    exact h10 i hi
  · rw [addR_at, if_neg (by omega), if_neg (by omega), if_neg (by omega), if_neg (by omega), if_neg (by omega), if_neg (by omega), if_neg (by omega)]
    exact d1
  · rw [pop_st lv hl m hm nb]; omega
theorem okR.kil {R : Nat → Int32} {m lv p : Nat} {dk : Option Nat} (h : okR R m dk lv) (hp : p < 8) (hn : dk = none → rmN lv p = 0) : okR (kilR R p) m dk (rmN lv p) := by
  have hl := h.l256
  obtain ⟨h1, h2, h3, h4, h5, h6, h7, h8, ⟨y, y1, y2, y3⟩, h10, dn, d1, d2⟩ := h
  have k : ∀ i, i ≠ 56 → kilR R p i = R i := fun i hi => by unfold kilR; rw [rz_u_n hi]
  refine ⟨by rw [k 57 (by omega)]; exact h1, h2, by rw [k 58 (by omega)]; exact h3, h4, ?_, by have := rmN_le lv p; omega, hn, fun i hi => by rw [k i (by omega)]; exact h8 i hi, ⟨y, y1, by rw [k 61 (by omega)]; exact y2, fun q hq => by rw [k _ (by omega)]; exact y3 q hq⟩, fun i hi => by rw [k i (by omega)]; exact h10 i hi, dn, by rw [k 60 (by omega)]; exact d1, by have := pop_rm2 lv hl p hp; omega⟩
  unfold kilR
  rw [rz_u_s, h5]
  exact rmN_I lv hl p hp
theorem okR.bur {C : List (Nat × Nat)} {R : Nat → Int32} {m lv p : Nat} {dk : Option Nat} (h : okR R m dk lv) (hp : p < 8) : ∃ dk' lv', okR ((burR C R m p).getD R) m dk' lv' := by
  have hl := h.l256
  unfold burR
  by_cases hL : rLv R p = true
  · rw [if_pos hL, Option.getD_some]
    have hb : lv.testBit p = true := by rw [← h.lvb (by omega)]; exact hL
    have hdn : dk ≠ none := fun z => by
      have := h.2.2.2.2.2.2.1 z
      rw [this, Nat.zero_testBit] at hb
      cases hb
    split
    · have K := h.kil hp (fun z => absurd z hdn)
      -- crowned anew
      have lb := fun q (hq : q < 32) => K.lvb hq
      obtain ⟨h1, h2, h3, h4, h5, h6, h7, h8, ⟨y, y1, y2, y3⟩, h10, dn, d1, d2⟩ := K
      have d0 := h.2.2.2.2.2.2.2.2.2.2
      obtain ⟨dn0, d01, d02⟩ := d0
      have edn : dn = dn0 := by
        have : kilR R p 60 = R 60 := by unfold kilR; rw [rz_u_n (by omega)]
        rw [this, d01, nI_eq2 (by omega) (by omega)] at d1
        exact d1.symm
      have pr := pop_rm lv hl p hp hb
      have k : ∀ x i, i ≠ 58 → i ≠ 59 → i ≠ 60 → crnR (kilR R p) x i = kilR R p i := fun x i a1 a2 a3 => by unfold crnR; rw [rz_u_n a3, rz_u_n a2, rz_u_n a1]
      have e58 : ∀ x, crnR (kilR R p) x 58 = x := fun x => by unfold crnR; rw [rz_u_n (by omega), rz_u_n (by omega), rz_u_s]
      have e60 : ∀ x, crnR (kilR R p) x 60 = kilR R p 60 + (if x = -1 then 0 else 1) := fun x => by unfold crnR; rw [rz_u_s]
      have rest : ∀ x dk', (x = oN dk') → (∀ q, dk' = some q → q < m) → (dk' = none → rmN lv p = 0) → okR (crnR (kilR R p) x) m dk' (rmN lv p) := by
        intro x dk' ex q1 q2
        refine ⟨by rw [k x 57 (by omega) (by omega) (by omega)]; exact h1, h2, by rw [e58]; exact ex, q1, by rw [k x 56 (by omega) (by omega) (by omega)]; exact h5, h6, q2, fun i hi => by rw [k x i (by omega) (by omega) (by omega)]; exact h8 i hi, ⟨y, y1, by rw [k x 61 (by omega) (by omega) (by omega)]; exact y2, fun q hq => by rw [k x _ (by omega) (by omega) (by omega)]; exact y3 q hq⟩, fun i hi => by rw [k x i (by omega) (by omega) (by omega)]; exact h10 i hi, ?_⟩
        rw [e60, d1]
        split
        · exact ⟨dn, by rw [Int32.add_zero], by omega⟩
        · exact ⟨dn + 1, nI_1 dn, by omega⟩
      rcases furS_cases C (kilR R p) p m with ⟨f1, f2⟩ | ⟨x, f1, f2, f3⟩
      · refine ⟨none, _, rest _ none (by show (furS C (kilR R p) p m).1 = _; rw [f1]; rfl) (fun q hq => by cases hq) (fun _ => ?_)⟩
        apply pop_0 _ (rmN_256 hl)
        have zz : ∀ q, q < 8 → (rmN lv p).testBit q = false := by
          intro q hq
          apply Bool.eq_false_iff.mpr
          intro z
          have hq2 : rLv (kilR R p) q = true := by rw [lb q (by omega)]; exact z
          have qp : q ≠ p := by
            intro e
            rw [rmN_bit lv hl p hp q hq, e] at z
            simp at z
          have qm : q < m := by
            apply Decidable.byContradiction
            intro hm
            have a1 := Nat.ge_two_pow_of_testBit z
            have a3 : 2 ^ m ≤ 2 ^ q := Nat.pow_le_pow_right (by decide) (by omega)
            omega
          exact f2 q qm ⟨hq2, qp⟩
        unfold popN
        rw [zz 0 (by omega), zz 1 (by omega), zz 2 (by omega), zz 3 (by omega), zz 4 (by omega), zz 5 (by omega), zz 6 (by omega), zz 7 (by omega)]
        rfl
      · exact ⟨some x, _, rest _ (some x) (by show (furS C (kilR R p) p m).1 = _; rw [f3]; rfl) (fun q hq => by cases hq; exact f1) (fun z => by cases z)⟩
    · exact ⟨dk, _, h.kil hp (fun z => absurd z hdn)⟩
  · rw [if_neg hL]
    exact ⟨dk, lv, h⟩
theorem agdR_at {R : Nat → Int32} {p : Nat} : ∀ m, p < m → agdR R m (48 + p) = if rLv R p = true then R (48 + p) + 1 else R (48 + p)
  | 0, h => by omega
  | m + 1, h => by
    unfold agdR
    by_cases e : p = m
    · subst e
      split
      · rw [rz_u_s]
      · exact agdR_n p (by omega)
    · split
      · rw [rz_u_n (by omega)]; exact agdR_at m (by omega)
      · exact agdR_at m (by omega)
theorem okR.yer {R : Nat → Int32} {m lv : Nat} {dk : Option Nat} (h : okR R m dk lv) (hy : R 61 < 900) : okR (yerR R m) m dk lv := by
  obtain ⟨h1, h2, h3, h4, h5, h6, h7, h8, ⟨y, y1, y2, y3⟩, h10, dn, d1, d2⟩ := h
  have y9 : y < 900 := by rw [y2, nI_ltL (by omega) (by decide)] at hy; exact hy
  refine ⟨by rw [yerR_n0 h2 (by omega)]; exact h1, h2, by rw [yerR_n0 h2 (by omega)]; exact h3, h4, by rw [yerR_n0 h2 (by omega)]; exact h5, h6, h7, fun i hi => by rw [yerR_n0 h2 (by omega)]; exact h8 i hi, ⟨y + 1, by omega, ?_, fun p hp => ?_⟩, fun i hi => by rw [yerR_n0 h2 (by omega)]; exact h10 i hi, dn, by rw [yerR_n0 h2 (by omega)]; exact d1, d2⟩
  · unfold yerR; rw [rz_u_s, y2, nI_1]
  · obtain ⟨a, a1, a2⟩ := y3 p hp
    have e : yerR R m (48 + p) = agdR R m (48 + p) := by unfold yerR; rw [rz_u_n (by omega), rz_u_n (by omega)]
    rw [e]
    by_cases pm : p < m
    · rw [agdR_at m pm]
      split
      · exact ⟨a + 1, by omega, by rw [a2, nI_1]⟩
      · exact ⟨a, by omega, a2⟩
    · rw [agdR_n m (by omega)]
      exact ⟨a, by omega, a2⟩
theorem okR.dos {C : List (Nat × Nat)} {R : Nat → Int32} {m lv : Nat} {dk : Option Nat} {q : TK} (h : okR R m dk lv) (hq : plK q) : ∃ m' dk' lv', okR ((doR C R q).getD R) m' dk' lv' := by
  have hm := h.wk.mo
  unfold plK at hq
  unfold doR
  by_cases q0 : q.1 = 0
  · rw [if_pos q0]
    unfold fgnR
    split
    · refine ⟨m, dk, lv, h.lo (fun i hi => rz_u_n (by omega)) (fun i hi => ?_)⟩
      rw [Option.getD_some]
      unfold rz_u
      split
      · exact ⟨q.2.2.2, by omega, rfl⟩
      · exact h.2.2.2.2.2.2.2.1 i hi
    · exact ⟨m, dk, lv, h⟩
  · rw [if_neg q0]
    by_cases q1 : q.1 = 1
    · rw [if_pos q1]
      unfold drpR
      split
      · exact ⟨m, dk, lv, h.sho (by omega)⟩
      · exact ⟨m, dk, lv, h⟩
    · rw [if_neg q1]
      by_cases q2 : q.1 = 2
      · rw [if_pos q2, hm]
        unfold berR
        split
        · rename_i hc
          obtain ⟨y, y1, y2, -⟩ := h.2.2.2.2.2.2.2.2.1
          have hdn : dk ≠ none := fun z => by
            have l0 := h.2.2.2.2.2.2.1 z
            have hb := hc.1
            rw [h.lvb (by omega), l0, Nat.zero_testBit] at hb
            cases hb
          exact ⟨m + 1, dk, _, h.add (e := 0) hc.2.2.2 (h.tr _ _ 0 (by omega) (by omega) (by omega)) (h.tr _ _ 1 (by omega) (by omega) (by omega)) (h.tr _ _ 2 (by omega) (by omega) (by omega)) y2 y1 (by omega) hdn⟩
        · exact ⟨m, dk, lv, h⟩
      · rw [if_neg q2]
        by_cases q3 : q.1 = 3
        · rw [if_pos q3, hm]
          obtain ⟨dk', lv', a1⟩ := h.bur (C := C) (p := q.2.1) (by omega)
          exact ⟨m, dk', lv', a1⟩
        · rw [if_neg q3, hm]
          split
          · rename_i hy
            exact ⟨m, dk, lv, h.yer hy⟩
          · exact ⟨m, dk, lv, h⟩
/-- .. through a whole run -/
theorem mR_okR {C : List (Nat × Nat)} {T : Nat → TK} {m : Nat} : ∀ (n a : Nat) (K V : List Nat) (s : MS), bst T m K a → K.length = V.length → K.length ≤ 6 → okV V → (∃ mm dk lv, okR s.2.2.2 mm dk lv) → ∃ mm dk lv, okR (mR C T m n a V s).2.2.2 mm dk lv
  | 0, _, _, _, _, _, _, _, _, h => h
  | n + 1, a, K, V, s, hb, hl, hK, hV, h => by
    rw [mR]
    cases x0 : mS C T m a V s with
    | none => exact h
    | some x =>
      obtain ⟨K', k1, k2, k3, k4, k5⟩ := mS_ok hb hl hK hV x0
      refine mR_okR n _ K' _ _ k1 k2 k3 k4 ?_
      unfold mS at x0
      by_cases ha : a < m
      · rw [if_neg (fun z => z ha)] at x0
        split at x0
        · split at x0
          · cases x0; exact h
          · split at x0
            · cases x0; exact h
            · cases x0; exact h
        · rename_i h6
          split at x0
          · cases x0
          · split at x0
            · split at x0
              · cases x0; exact h
              · cases x0; exact h
            · rename_i h5
              cases x0
              rcases bst_head hb ha with ⟨j, j1, j2, j3⟩ | ⟨k, K2, e1, e2, -⟩
              · rcases j2.inv j1 with ⟨q1, q2⟩ | ⟨c, q1, q2, q3, q4, -⟩
                · have ds4 : (dS C (T a) s).2.2.2 = (doR C s.2.2.2 (T a)).getD s.2.2.2 := by unfold dS; cases doR C s.2.2.2 (T a) <;> rfl
                  obtain ⟨mm, dk, lv, ho⟩ := h
                  show ∃ mm dk lv, okR (dS C (T a) s).2.2.2 mm dk lv
                  rw [ds4]
                  exact ho.dos q1
                · exact absurd q4 h5
              · exact absurd e2 h6
      · rw [if_pos ha] at x0; cases x0
