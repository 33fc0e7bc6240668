/-! pairs: the table against a search -/
theorem pop_rm : ∀ n, n < 256 → ∀ i, i < 8 → n.testBit i = true → popN (rmN n i) + 1 = popN n := by decide +kernel
theorem pop_rm2 : ∀ n, n < 256 → ∀ i, i < 8 → popN (rmN n i) ≤ popN n := by decide +kernel
theorem rmN_bit : ∀ n, n < 256 → ∀ i, i < 8 → ∀ x, x < 8 → (rmN n i).testBit x = (n.testBit x && !decide (x = i)) := by decide +kernel
theorem pop_0 : ∀ n, n < 256 → popN n = 0 → n = 0 := by decide +kernel
theorem pop_odd : ∀ n, n < 256 → popN n % 2 = 1 → ∃ q, q < 8 ∧ n.testBit q = true := by decide +kernel
theorem rmN_256 {n i : Nat} (h : n < 256) : rmN n i < 256 := by have := rmN_le n i; omega
theorem sbI_rm {n lv i : Nat} (hn : n < 256) (hi : i < 8) (h : sbI n lv) : sbI (rmN n i) lv := by
  rw [sbI_iff (rmN_256 hn)]
  rw [sbI_iff hn] at h
  intro x hx e
  rw [rmN_bit n hn i hi x hx, Bool.and_eq_true] at e
  exact h x hx e.1
theorem tbK_at {F f : Nat → Int32} {lv n : Nat} : ∀ k, n < k → tbK F lv f k n = tbV F lv (tbK F lv f n) n
  | 0, h => by omega
  | k + 1, h => by
    rw [tbK]
    by_cases e : n = k
    · subst e; rw [rz_u_s]
    · rw [rz_u_n e]; exact tbK_at k (by omega)
theorem tbK_rec {F f : Nat → Int32} {lv n : Nat} (hn : n < 256) : tbK F lv f 256 n = tbV F lv (tbK F lv f 256) n := by
  rw [tbK_at 256 hn]
  exact tbV_cong hn (fun _ _ => rfl) (fun i hi => by rw [tbK_at n hi, tbK_at 256 (by omega)])
theorem lpmx {g : Nat → Int32} {M : Nat} (hM : M < 100000) : ∀ k, (∀ i, i < k → g i = -1 ∨ ∃ t, t ≤ M ∧ g i = nI t) → ∃ T, T ≤ M ∧ lpI (fun i s => if s < g i then g i else s) 0 k = nI T ∧ (∀ i, i < k → ∀ t, t ≤ M → g i = nI t → t ≤ T) ∧ (T = 0 ∨ ∃ i, i < k ∧ g i = nI T)
  | 0, _ => ⟨0, by omega, rfl, fun i hi => by omega, Or.inl rfl⟩
  | k + 1, h => by
    obtain ⟨T, h1, h2, h3, h4⟩ := lpmx (g := g) hM k (fun i hi => h i (by omega))
    have eL : lpI (fun i s => if s < g i then g i else s) 0 (k + 1) = if nI T < g k then g k else nI T := by
      show (if lpI (fun i s => if s < g i then g i else s) 0 k < g k then g k else lpI (fun i s => if s < g i then g i else s) 0 k) = _
      rw [h2]
    rw [eL]
    clear eL
    rcases h k (by omega) with e1 | ⟨t, t1, t2⟩
    · have c : ¬ nI T < g k := by
        rw [e1, i_lt, nI_toInt (by omega), show (-1 : Int32).toInt = -1 by decide]; omega
      rw [if_neg c]
      refine ⟨T, h1, rfl, fun i hi t ht e => ?_, ?_⟩
      · by_cases z : i = k
        · subst z
          rw [e1] at e
          have := nI_m1 (show t < 2147483648 by omega)
          rw [← e] at this; simp at this
        · exact h3 i (by omega) t ht e
      · rcases h4 with z | ⟨i, z1, z2⟩
        · exact Or.inl z
        · exact Or.inr ⟨i, by omega, z2⟩
    · rw [t2]
      by_cases c : T < t
      · rw [if_pos (by rw [nI_lt2 (by omega) (by omega)]; exact c)]
        refine ⟨t, t1, rfl, fun i hi u hu e => ?_, Or.inr ⟨k, by omega, t2⟩⟩
        by_cases z : i = k
        · subst z
          rw [t2, nI_eq2 (show t < 2147483648 by omega) (show u < 2147483648 by omega)] at e
          omega
        · have := h3 i (by omega) u hu e; omega
      · rw [if_neg (by rw [nI_lt2 (by omega) (by omega)]; exact c)]
        refine ⟨T, h1, rfl, fun i hi u hu e => ?_, ?_⟩
        · by_cases z : i = k
          · subst z
            rw [t2, nI_eq2 (show t < 2147483648 by omega) (show u < 2147483648 by omega)] at e
            omega
          · exact h3 i (by omega) u hu e
        · rcases h4 with z | ⟨i, z1, z2⟩
          · exact Or.inl z
          · exact Or.inr ⟨i, by omega, z2⟩
def bNt (B : Nat → Int32) (n : Nat) : Nat := (B n).toNatClampNeg
/-- what the first of a crowd and a mate come to -/
def vvP (F B : Nat → Int32) (n q : Nat) : Nat := (F (q * 8 + tzN n)).toNatClampNeg + bNt B (rmN (rmN n (tzN n)) q)
section PR
variable {F B : Nat → Int32} {lv : Nat}
/-- such a table -/
def tbOk (F B : Nat → Int32) (lv : Nat) : Prop := (∀ i, i < 64 → ∃ t, t ≤ 99 ∧ F i = nI t) ∧ ∀ n, n < 256 → B n = tbV F lv B n
theorem tbOk.b0 (h : tbOk F B lv) : B 0 = 0 := by rw [h.2 0 (by omega)]; rfl
theorem tbOk.bn (h : tbOk F B lv) {n : Nat} (h0 : 0 < n) (hn : n < 256) (hs : sbI n lv) : B n = bvS F B n := by
  rw [h.2 n hn]
  unfold tbV
  rw [if_neg (by omega), if_pos (show nI n &&& (nI lv ^^^ (-1)) = 0 from hs)]
theorem tbOk.hv (h : tbOk F B lv) {n : Nat} (h0 : 0 < n) (hn : n < 256) (ih : ∀ x, x < 256 → popN x < popN n → sbI x lv → ∃ t, t ≤ 99 * popN x ∧ B x = nI t) (hs : sbI n lv) : ∀ q, q < 9 → hgV F B n q = -1 ∨ ∃ t, t ≤ 99 * popN n ∧ hgV F B n q = nI t := by
  obtain ⟨t1, t2, t3⟩ := tzN_ok n hn h0
  have p1 := pop_rm n hn _ t1 t2
  intro q hq
  unfold hgV
  by_cases h8 : q = 8
  · rw [if_pos h8]
    split
    · right
      obtain ⟨t, a1, a2⟩ := ih _ (rmN_256 hn) (by omega) (sbI_rm hn t1 hs)
      exact ⟨t, by omega, a2⟩
    · left; rfl
  · rw [if_neg h8]
    split
    · right
      rename_i hb
      have p2 := pop_rm _ (rmN_256 hn) q (by omega) hb
      obtain ⟨t, a1, a2⟩ := ih _ (rmN_256 (i := q) (rmN_256 hn)) (by omega) (sbI_rm (rmN_256 hn) (show q < 8 by omega) (sbI_rm hn t1 hs))
      obtain ⟨u, c1, c2⟩ := h.1 (q * 8 + tzN n) (by omega)
      exact ⟨u + t, by omega, by rw [a2, c2, nI_add]⟩
    · left; rfl
theorem tbOk.nt (h : tbOk F B lv) : ∀ k n, n < 256 → popN n ≤ k → sbI n lv → ∃ t, t ≤ 99 * popN n ∧ B n = nI t
  | 0, n, hn, hk, _ => by
    have := pop_0 n hn (by omega)
    subst this
    exact ⟨0, by omega, h.b0⟩
  | k + 1, n, hn, hk, hs => by
    by_cases h0 : n = 0
    · subst h0
      exact ⟨0, by omega, h.b0⟩
    · have hv := h.hv (by omega) hn (fun x hx hp hsx => h.nt k x hx (by omega) hsx) hs
      have := pop_8 n hn
      obtain ⟨T, e1, e2, -, -⟩ := lpmx (g := hgV F B n) (M := 99 * popN n) (by omega) 9 hv
      refine ⟨T, e1, ?_⟩
      rw [h.bn (by omega) hn hs]
      exact e2
theorem tbOk.bN (h : tbOk F B lv) {n : Nat} (hn : n < 256) (hs : sbI n lv) : B n = nI (bNt B n) ∧ bNt B n ≤ 99 * popN n := by
  obtain ⟨t, t1, t2⟩ := h.nt 8 n hn (pop_8 n hn) hs
  have := pop_8 n hn
  have e : bNt B n = t := by unfold bNt; rw [t2, nI_cl (by omega)]
  rw [e]
  exact ⟨t2, t1⟩
theorem tbOk.vv (h : tbOk F B lv) {n q : Nat} (h0 : 0 < n) (hn : n < 256) (hs : sbI n lv) (hq : q < 8) (hb : (rmN n (tzN n)).testBit q = true) : hgV F B n q = nI (vvP F B n q) ∧ vvP F B n q ≤ 99 * popN n := by
  obtain ⟨t1, t2, t3⟩ := tzN_ok n hn h0
  have p1 := pop_rm n hn _ t1 t2
  have p2 := pop_rm _ (rmN_256 hn) q hq hb
  obtain ⟨a1, a2⟩ := h.bN (rmN_256 (i := q) (rmN_256 hn)) (sbI_rm (rmN_256 hn) hq (sbI_rm hn t1 hs))
  obtain ⟨u, c1, c2⟩ := h.1 (q * 8 + tzN n) (by omega)
  have e : (F (q * 8 + tzN n)).toNatClampNeg = u := by rw [c2, nI_cl (by omega)]
  unfold hgV vvP
  rw [if_neg (by omega), if_pos hb, e, c2]
  refine ⟨?_, by omega⟩
  rw [a1, nI_add]
theorem tbOk.mx (h : tbOk F B lv) {n : Nat} (h0 : 0 < n) (hn : n < 256) (hs : sbI n lv) : (∀ q, q < 8 → (rmN n (tzN n)).testBit q = true → vvP F B n q ≤ bNt B n) ∧ (popN (rmN n (tzN n)) % 2 = 0 → bNt B (rmN n (tzN n)) ≤ bNt B n) ∧ ((∃ q, q < 8 ∧ (rmN n (tzN n)).testBit q = true ∧ vvP F B n q = bNt B n) ∨ (popN (rmN n (tzN n)) % 2 = 0 ∧ bNt B (rmN n (tzN n)) = bNt B n)) := by
  obtain ⟨t1, t2, t3⟩ := tzN_ok n hn h0
  have p1 := pop_rm n hn _ t1 t2
  have p8 := pop_8 n hn
  have hv := h.hv h0 hn (fun x hx hp hsx => h.nt 8 x hx (by have := pop_8 x hx; omega) hsx) hs
  obtain ⟨T, e1, e2, e3, e4⟩ := lpmx (g := hgV F B n) (M := 99 * popN n) (by omega) 9 hv
  have eT : bNt B n = T := by
    unfold bNt
    rw [h.bn h0 hn hs, show bvS F B n = nI T from e2, nI_cl (by omega)]
  obtain ⟨o1, o2⟩ := h.bN (rmN_256 (i := tzN n) hn) (sbI_rm hn t1 hs)
  have m1 : ∀ q, q < 8 → (rmN n (tzN n)).testBit q = true → vvP F B n q ≤ bNt B n := by
    intro q hq hb
    obtain ⟨a1, a2⟩ := h.vv h0 hn hs hq hb
    rw [eT]
    exact e3 q (by omega) _ a2 a1
  have m2 : popN (rmN n (tzN n)) % 2 = 0 → bNt B (rmN n (tzN n)) ≤ bNt B n := by
    intro he
    rw [eT]
    refine e3 8 (by omega) _ (by omega) ?_
    unfold hgV
    rw [if_pos rfl, if_pos he]
    exact o1
  refine ⟨m1, m2, ?_⟩
  rcases e4 with z | ⟨i, z1, z2⟩
  · by_cases he : popN (rmN n (tzN n)) % 2 = 0
    · right; have := m2 he; exact ⟨he, by omega⟩
    · obtain ⟨q, hq, hb⟩ := pop_odd _ (rmN_256 hn) (show popN (rmN n (tzN n)) % 2 = 1 by omega)
      left
      have := m1 q hq hb
      exact ⟨q, hq, hb, by omega⟩
  · by_cases h8 : i = 8
    · subst h8
      unfold hgV at z2
      rw [if_pos rfl] at z2
      split at z2
      · rename_i he
        right
        rw [o1, nI_eq2 (by omega) (by omega)] at z2
        exact ⟨he, by omega⟩
      · have := nI_m1 (show T < 2147483648 by omega)
        rw [← z2] at this; simp at this
    · by_cases hb : (rmN n (tzN n)).testBit i = true
      · left
        obtain ⟨a1, a2⟩ := h.vv h0 hn hs (show i < 8 by omega) hb
        rw [a1, nI_eq2 (by omega) (by omega)] at z2
        exact ⟨i, by omega, hb, by omega⟩
      · unfold hgV at z2
        rw [if_neg h8, if_neg hb] at z2
        have := nI_m1 (show T < 2147483648 by omega)
        rw [← z2] at this; simp at this
theorem hgM_some {n : Nat} : ∀ {k mt j}, hgM F B n k mt = some j → mt ≤ j ∧ j < mt + k ∧ hgV F B n j = B n ∧ ∀ i, mt ≤ i → i < j → hgV F B n i ≠ B n
  | 0, _, _, e => by cases e
  | k + 1, mt, j, e => by
    unfold hgM at e
    split at e
    · rename_i hh
      cases e
      exact ⟨by omega, by omega, hh, fun i h1 h2 => by omega⟩
    · rename_i hh
      obtain ⟨a1, a2, a3, a4⟩ := hgM_some e
      refine ⟨by omega, by omega, a3, fun i h1 h2 => ?_⟩
      by_cases z : i = mt
      · rw [z]; exact hh
      · exact a4 i (by omega) h2
theorem hgM_none {n : Nat} : ∀ {k mt}, hgM F B n k mt = none → ∀ i, mt ≤ i → i < mt + k → hgV F B n i ≠ B n
  | 0, _, _, i, h1, h2 => by omega
  | k + 1, mt, e, i, h1, h2 => by
    unfold hgM at e
    split at e
    · cases e
    · rename_i hh
      by_cases z : i = mt
      · rw [z]; exact hh
      · exact hgM_none e i (by omega) (by omega)
/-- the mates of a crowd -/
def gmK (F B : Nat → Int32) : Nat → Nat → (Nat → Int32)
  | 0, _ => fun _ => -1
  | k + 1, n => if n = 0 then fun _ => -1 else match hgM F B n 8 0 with
    | none => gmK F B k (rmN n (tzN n))
    | some j => rz_u (rz_u (gmK F B k (rmN (rmN n (tzN n)) j)) (tzN n) (nI j)) j (nI (tzN n))
theorem gmK_fuel : ∀ (k k' : Nat) {n : Nat}, n < 256 → popN n ≤ k → popN n ≤ k' → gmK F B k n = gmK F B k' n
  | 0, k', n, hn, h1, h2 => by
    have := pop_0 n hn (by omega)
    subst this
    cases k' with
    | zero => rfl
    | succ k' => rw [gmK, gmK, if_pos rfl]
  | k + 1, 0, n, hn, h1, h2 => by
    have := pop_0 n hn (by omega)
    subst this
    rw [gmK, gmK, if_pos rfl]
  | k + 1, k' + 1, n, hn, h1, h2 => by
    rw [gmK, gmK]
    by_cases h0 : n = 0
    · rw [if_pos h0, if_pos h0]
    · rw [if_neg h0, if_neg h0]
      obtain ⟨t1, t2, t3⟩ := tzN_ok n hn (by omega)
      have p1 := pop_rm n hn _ t1 t2
      cases hm : hgM F B n 8 0 with
      | none => exact gmK_fuel k k' (rmN_256 hn) (by omega) (by omega)
      | some j =>
        have j8 : j < 8 := by have := hgM_lt hm; omega
        have p2 := pop_rm2 _ (rmN_256 (i := tzN n) hn) j j8
        show rz_u (rz_u (gmK F B k (rmN (rmN n (tzN n)) j)) (tzN n) (nI j)) j (nI (tzN n)) = rz_u (rz_u (gmK F B k' (rmN (rmN n (tzN n)) j)) (tzN n) (nI j)) j (nI (tzN n))
        rw [gmK_fuel k k' (rmN_256 (rmN_256 hn)) (by omega) (by omega)]
theorem tbOk.sm (h : tbOk F B lv) {n j : Nat} (h0 : 0 < n) (hn : n < 256) (hs : sbI n lv) (hm : hgM F B n 8 0 = some j) : j < 8 ∧ (rmN n (tzN n)).testBit j = true ∧ vvP F B n j = bNt B n ∧ ∀ i, i < j → (rmN n (tzN n)).testBit i = true → vvP F B n i ≠ bNt B n := by
  obtain ⟨-, a2, a3, a4⟩ := hgM_some hm
  obtain ⟨b1, b2⟩ := h.bN hn hs
  have p8 := pop_8 n hn
  have j8 : j < 8 := by omega
  have hb : (rmN n (tzN n)).testBit j = true := by
    cases e : (rmN n (tzN n)).testBit j with
    | true => rfl
    | false =>
      unfold hgV at a3
      rw [if_neg (by omega), if_neg (by rw [e]; decide), b1] at a3
      have := nI_m1 (show bNt B n < 2147483648 by omega)
      rw [← a3] at this; simp at this
  obtain ⟨v1, v2⟩ := h.vv h0 hn hs j8 hb
  rw [v1, b1, nI_eq2 (by omega) (by omega)] at a3
  refine ⟨j8, hb, a3, fun i hi hbi e => ?_⟩
  obtain ⟨w1, w2⟩ := h.vv h0 hn hs (show i < 8 by omega) hbi
  exact a4 i (by omega) hi (by rw [w1, b1, e])
theorem tbOk.nn (h : tbOk F B lv) {n : Nat} (h0 : 0 < n) (hn : n < 256) (hs : sbI n lv) (hm : hgM F B n 8 0 = none) : (∀ i, i < 8 → (rmN n (tzN n)).testBit i = true → vvP F B n i < bNt B n) ∧ popN (rmN n (tzN n)) % 2 = 0 ∧ bNt B (rmN n (tzN n)) = bNt B n := by
  obtain ⟨b1, b2⟩ := h.bN hn hs
  obtain ⟨m1, m2, m3⟩ := h.mx h0 hn hs
  have p8 := pop_8 n hn
  have a : ∀ i, i < 8 → (rmN n (tzN n)).testBit i = true → vvP F B n i < bNt B n := by
    intro i hi hb
    obtain ⟨w1, w2⟩ := h.vv h0 hn hs hi hb
    have n1 := hgM_none hm i (by omega) (by omega)
    have n2 := m1 i hi hb
    have : vvP F B n i ≠ bNt B n := fun e => n1 (by rw [w1, b1, e])
    omega
  refine ⟨a, ?_⟩
  rcases m3 with ⟨q, q1, q2, q3⟩ | z
  · have := a q q1 q2; omega
  · exact z
end PR
