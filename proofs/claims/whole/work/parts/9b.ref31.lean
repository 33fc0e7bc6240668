/-! rows: the table against a search -/
theorem pop_mono {n lv : Nat} (hn : n < 256) (h : sbI n lv) : popN n ≤ popN lv := by
  rw [sbI_iff hn] at h
  have g : ∀ i, i < 8 → (n.testBit i).toNat ≤ (lv.testBit i).toNat := by
    intro i hi
    cases e : n.testBit i
    · exact Nat.zero_le _
    · rw [h i hi e]; exact Nat.le_refl _
  have g0 := g 0 (by omega)
  have g1 := g 1 (by omega)
  have g2 := g 2 (by omega)
  have g3 := g 3 (by omega)
  have g4 := g 4 (by omega)
  have g5 := g 5 (by omega)
  have g6 := g 6 (by omega)
  have g7 := g 7 (by omega)
  unfold popN
  omega
section RW
variable {F : Nat → Int32} {lv : Nat} {n : Int32}
theorem ltR_out {T : Nat → Int32} {cr m x : Nat} (hm : m ≠ cr) (hx : x < 8) : ∀ j, j ≤ 8 → ltR F lv n T cr j (m * 8 + x) = T (m * 8 + x)
  | 0, _ => rfl
  | j + 1, hj => by
    rw [ltR, rz_u_n (by omega)]
    exact ltR_out hm hx j (by omega)
theorem ltR_in {T : Nat → Int32} {cr i : Nat} : ∀ j, i < j → ltR F lv n T cr j (cr * 8 + i) = ltV F lv n (ltR F lv n T cr i) cr i
  | 0, h => by omega
  | j + 1, h => by
    rw [ltR]
    by_cases e : i = j
    · subst e; rw [rz_u_s]
    · rw [rz_u_n (by omega)]; exact ltR_in j (by omega)
theorem ltK_out {f : Nat → Int32} {m x : Nat} (hm : m < 256) (hx : x < 8) : ∀ k, 256 - m ≤ k → k ≤ 255 → ltK F lv n f k (m * 8 + x) = ltK F lv n f (256 - m) (m * 8 + x)
  | 0, h, _ => by omega
  | k + 1, h, hk => by
    by_cases e : 256 - m = k + 1
    · rw [e]
    · rw [← ltK_out hm hx k (by omega) (by omega), ltK]
      split
      · exact ltR_out (by omega) hx 8 (by omega)
      · rfl
theorem ltK_rec {f : Nat → Int32} {cr j : Nat} (h0 : 0 < cr) (hc : cr < 256) (hs : sbI cr lv) (hj : j < 8) (hb : cr.testBit j = true) : ltK F lv n f 255 (cr * 8 + j) = loS F (ltK F lv n f 255) lv cr (some j) n := by
  rw [ltK_out hc hj 255 (by omega) (by omega), show 256 - cr = 255 - cr + 1 by omega, ltK, show 255 - (255 - cr) = cr by omega, if_pos (show nI cr &&& (nI lv ^^^ (-1)) = 0 from hs), ltR_in 8 hj, ltV, if_pos hb]
  refine loS_cong (fun _ _ => rfl) hc hs (fun m x h1 h2 h3 h4 => ?_) (fun x e => by cases e; exact hj)
  rw [ltR_out (by omega) h4 j (by omega), ltK_out h2 h4 255 (by omega) (by omega), ltK_out h2 h4 (255 - cr) (by omega) (by omega)]
/-- who follows -/
def grL (F B : Nat → Int32) (lv : Nat) (n : Int32) : Nat → Nat → Option Nat → List Nat
  | 0, _, _ => []
  | k + 1, cr, la => match foS F B lv cr la n with
    | none => []
    | some x => x :: grL F B lv n k (stN cr x) (some x)
def rtOk (F B : Nat → Int32) (lv : Nat) (n : Int32) : Prop := ∀ cr j, 0 < cr → cr < 256 → sbI cr lv → j < 8 → cr.testBit j = true → B (cr * 8 + j) = loS F B lv cr (some j) n
variable {B : Nat → Int32}
theorem st_pos {cr x : Nat} (hc : cr < 256) (hx : x < 8) : 0 < stN cr x ∧ (stN cr x).testBit x = true := by
  have := stN_bit cr hc x hx x hx
  refine ⟨?_, by rw [this]; simp⟩
  apply Nat.pos_of_ne_zero
  intro e
  rw [e] at this
  simp at this
theorem grL_fuel : ∀ (k k' : Nat) {cr : Nat} (la : Option Nat), cr < 256 → 8 - popN cr ≤ k → 8 - popN cr ≤ k' → grL F B lv n k cr la = grL F B lv n k' cr la := by
  have full : ∀ {cr : Nat} (la : Option Nat), cr < 256 → popN cr = 8 → foS F B lv cr la n = none := by
    intro cr la hc hp
    cases e : foS F B lv cr la n with
    | none => rfl
    | some x =>
      obtain ⟨h1, h2, h3⟩ := foS_lt e
      have := pop_st cr hc x h1 h3
      have := pop_8 _ (stN_256 cr hc x h1)
      omega
  intro k
  induction k with
  | zero =>
    intro k' cr la hc h1 h2
    have p8 := pop_8 cr hc
    cases k' with
    | zero => rfl
    | succ k' => rw [grL, grL, full la hc (by omega)]
  | succ k ih =>
    intro k' cr la hc h1 h2
    have p8 := pop_8 cr hc
    cases k' with
    | zero => rw [grL, grL, full la hc (by omega)]
    | succ k' =>
      rw [grL, grL]
      cases e : foS F B lv cr la n with
      | none => rfl
      | some x =>
        obtain ⟨h1', h2', h3'⟩ := foS_lt e
        have := pop_st cr hc x h1' h3'
        show x :: grL F B lv n k (stN cr x) (some x) = x :: grL F B lv n k' (stN cr x) (some x)
        rw [ih k' (some x) (stN_256 cr hc x h1') (by omega) (by omega)]
theorem grL_nn {cr : Nat} {la : Option Nat} (e : foS F B lv cr la n = none) : grL F B lv n 8 cr la = [] := by rw [grL, e]
theorem grL_sm {cr x : Nat} {la : Option Nat} (hc : cr < 256) (e : foS F B lv cr la n = some x) : grL F B lv n 8 cr la = x :: grL F B lv n 8 (stN cr x) (some x) := by
  obtain ⟨h1, h2, h3⟩ := foS_lt e
  have := pop_st cr hc x h1 h3
  conv => lhs; rw [grL, e]
  show x :: grL F B lv n 7 (stN cr x) (some x) = _
  rw [grL_fuel 7 8 (some x) (stN_256 cr hc x h1) (by omega) (by omega)]
theorem grL_le : ∀ (k : Nat) {cr : Nat} (la : Option Nat), cr < 256 → 8 - popN cr ≤ k → sbI cr lv → (grL F B lv n 8 cr la).length + popN cr ≤ popN lv
  | 0, cr, la, hc, hk, hs => by
    have p8 := pop_8 cr hc
    cases e : foS F B lv cr la n with
    | none => rw [grL_nn e]; have := pop_mono hc hs; simpa using this
    | some x =>
      obtain ⟨h1, h2, h3⟩ := foS_lt e
      have := pop_st cr hc x h1 h3
      have := pop_8 _ (stN_256 cr hc x h1)
      omega
  | k + 1, cr, la, hc, hk, hs => by
    cases e : foS F B lv cr la n with
    | none => rw [grL_nn e]; have := pop_mono hc hs; simpa using this
    | some x =>
      obtain ⟨h1, h2, h3⟩ := foS_lt e
      have p1 := pop_st cr hc x h1 h3
      have ih := grL_le k (some x) (stN_256 cr hc x h1) (by omega) (sbI_st hc h1 hs h2)
      rw [grL_sm hc e, List.length_cons]
      omega
theorem rtOk.len (h : rtOk F B lv n) : ∀ (k : Nat) {cr j : Nat}, 0 < cr → cr < 256 → 8 - popN cr ≤ k → sbI cr lv → j < 8 → cr.testBit j = true → B (cr * 8 + j) = nI (1 + (grL F B lv n 8 cr (some j)).length) := by
  intro k
  induction k with
  | zero =>
    intro cr j h0 hc hk hs hj hb
    have p8 := pop_8 cr hc
    rw [h cr j h0 hc hs hj hb, loS]
    cases e : foS F B lv cr (some j) n with
    | none => rw [grL_nn e]; rfl
    | some x =>
      obtain ⟨h1, h2, h3⟩ := foS_lt e
      have := pop_st cr hc x h1 h3
      have := pop_8 _ (stN_256 cr hc x h1)
      omega
  | succ k ih =>
    intro cr j h0 hc hk hs hj hb
    rw [h cr j h0 hc hs hj hb, loS]
    cases e : foS F B lv cr (some j) n with
    | none => rw [grL_nn e]; rfl
    | some x =>
      obtain ⟨h1, h2, h3⟩ := foS_lt e
      have p1 := pop_st cr hc x h1 h3
      obtain ⟨s1, s2⟩ := st_pos hc h1
      have := ih s1 (stN_256 cr hc x h1) (by omega) (sbI_st hc h1 hs h2) h1 s2
      show 1 + B (stN cr x * 8 + x) = _
      rw [this, show (1 : Int32) = nI 1 from rfl, nI_add, grL_sm hc e, List.length_cons]
      congr 1; omega
/-- how long a row would be, were this one the next -/
def vvR (F B : Nat → Int32) (lv : Nat) (n : Int32) (cr p : Nat) : Nat := 1 + (grL F B lv n 8 (stN cr p) (some p)).length
theorem rtOk.vv (h : rtOk F B lv n) {cr p : Nat} (hc : cr < 256) (hs : sbI cr lv) (hp : p < 8) (hl : lv.testBit p = true) : B (stN cr p * 8 + p) = nI (vvR F B lv n cr p) ∧ vvR F B lv n cr p ≤ 9 := by
  obtain ⟨s1, s2⟩ := st_pos hc hp
  refine ⟨h.len 8 s1 (stN_256 cr hc p hp) (by omega) (sbI_st hc hp hs hl) hp s2, ?_⟩
  have := grL_le (F := F) (B := B) (n := n) 8 (some p) (stN_256 cr hc p hp) (by omega) (sbI_st hc hp hs hl)
  have h8 : popN lv ≤ 8 := by
    unfold popN
    have : ∀ b : Bool, b.toNat ≤ 1 := by decide
    have a0 := this (lv.testBit 0); have a1 := this (lv.testBit 1); have a2 := this (lv.testBit 2); have a3 := this (lv.testBit 3)
    have a4 := this (lv.testBit 4); have a5 := this (lv.testBit 5); have a6 := this (lv.testBit 6); have a7 := this (lv.testBit 7)
    omega
  unfold vvR
  omega
theorem frB_lv {cr p : Nat} {la : Option Nat} (h : frB F lv cr la n p = true) : lv.testBit p = true ∧ cr.testBit p = false := by
  simp only [frB, Bool.and_eq_true, Bool.not_eq_true'] at h
  exact h.1
/-- the first of those behind whom the row is longest -/
theorem rtOk.fo (h : rtOk F B lv n) {cr : Nat} (la : Option Nat) (hc : cr < 256) (hs : sbI cr lv) : ∀ k, k ≤ 8 → (lpI (foF F B lv cr la n) (none, 0) k = (none, 0) ∧ ∀ p, p < k → frB F lv cr la n p = false) ∨ ∃ x, x < k ∧ frB F lv cr la n x = true ∧ lpI (foF F B lv cr la n) (none, 0) k = (some x, nI (vvR F B lv n cr x)) ∧ (∀ p, p < k → frB F lv cr la n p = true → vvR F B lv n cr p ≤ vvR F B lv n cr x) ∧ ∀ p, p < x → frB F lv cr la n p = true → vvR F B lv n cr p < vvR F B lv n cr x
  | 0, _ => Or.inl ⟨rfl, fun p hp => by omega⟩
  | k + 1, hk => by
    have e : lpI (foF F B lv cr la n) (none, 0) (k + 1) = foF F B lv cr la n k (lpI (foF F B lv cr la n) (none, 0) k) := rfl
    rw [e]
    have ih := h.fo la hc hs k (by omega)
    by_cases hb : frB F lv cr la n k = true
    · obtain ⟨v1, v2⟩ := h.vv hc hs (show k < 8 by omega) (frB_lv hb).1
      have vp : 0 < vvR F B lv n cr k := by unfold vvR; omega
      rcases ih with ⟨i1, i2⟩ | ⟨x, x1, x2, x3, x4, x5⟩
      · right
        refine ⟨k, by omega, hb, ?_, fun p hp hpb => ?_, fun p hp hpb => ?_⟩
        · rw [i1]
          unfold foF
          rw [if_pos hb]
          dsimp only
          have c0 : (0 : Int32) < nI (vvR F B lv n cr k) := by rw [nI_0lt vp (by omega)]; trivial
          rw [v1, if_pos c0, if_pos c0]
        · by_cases z : p = k
          · subst z; omega
          · rw [i2 p (by omega)] at hpb; cases hpb
        · rw [i2 p (by omega)] at hpb; cases hpb
      · obtain ⟨w1, w2⟩ := h.vv hc hs (show x < 8 by omega) (frB_lv x2).1
        right
        by_cases hlt : vvR F B lv n cr x < vvR F B lv n cr k
        · refine ⟨k, by omega, hb, ?_, fun p hp hpb => ?_, fun p hp hpb => ?_⟩
          · rw [x3]
            unfold foF
            rw [if_pos hb]
            dsimp only
            have c0 : nI (vvR F B lv n cr x) < nI (vvR F B lv n cr k) := by rw [nI_lt2 (by omega) (by omega)]; exact hlt
            rw [v1, if_pos c0, if_pos c0]
          · by_cases z : p = k
            · subst z; omega
            · have := x4 p (by omega) hpb; omega
          · have := x4 p (by omega) hpb; omega
        · refine ⟨x, by omega, x2, ?_, fun p hp hpb => ?_, x5⟩
          · rw [x3]
            unfold foF
            rw [if_pos hb]
            dsimp only
            have c0 : ¬ nI (vvR F B lv n cr x) < nI (vvR F B lv n cr k) := by rw [nI_lt2 (by omega) (by omega)]; exact hlt
            rw [v1, if_neg c0, if_neg c0]
          · by_cases z : p = k
            · subst z; omega
            · exact x4 p (by omega) hpb
    · have hb' : frB F lv cr la n k = false := by rw [Bool.not_eq_true] at hb; exact hb
      unfold foF
      rw [if_neg hb]
      rcases ih with ⟨i1, i2⟩ | ⟨x, x1, x2, x3, x4, x5⟩
      · left
        refine ⟨i1, fun p hp => ?_⟩
        by_cases z : p = k
        · subst z; exact hb'
        · exact i2 p (by omega)
      · right
        refine ⟨x, by omega, x2, x3, fun p hp hpb => ?_, x5⟩
        by_cases z : p = k
        · subst z; rw [hb'] at hpb; cases hpb
        · exact x4 p (by omega) hpb
theorem rtOk.foN (h : rtOk F B lv n) {cr : Nat} {la : Option Nat} (hc : cr < 256) (hs : sbI cr lv) (e : foS F B lv cr la n = none) : ∀ p, p < 8 → frB F lv cr la n p = false := by
  rcases h.fo la hc hs 8 (by omega) with ⟨i1, i2⟩ | ⟨x, x1, x2, x3, x4, x5⟩
  · exact i2
  · unfold foS at e
    rw [x3] at e
    cases e
theorem rtOk.foX (h : rtOk F B lv n) {cr x : Nat} {la : Option Nat} (hc : cr < 256) (hs : sbI cr lv) (e : foS F B lv cr la n = some x) : frB F lv cr la n x = true ∧ (∀ p, p < 8 → frB F lv cr la n p = true → vvR F B lv n cr p ≤ vvR F B lv n cr x) ∧ ∀ p, p < x → frB F lv cr la n p = true → vvR F B lv n cr p < vvR F B lv n cr x := by
  rcases h.fo la hc hs 8 (by omega) with ⟨i1, i2⟩ | ⟨y, x1, x2, x3, x4, x5⟩
  · unfold foS at e
    rw [i1] at e
    cases e
  · unfold foS at e
    rw [x3] at e
    have e : some y = some x := e
    cases e
    exact ⟨x2, x4, x5⟩
/-- the row itself -/
theorem liI_gr : ∀ (k i cr : Nat) (la : Option Nat) (f : Nat → Int32), cr < 256 → liI F B lv n k i (foS F B lv cr la n) cr f = (i + (grL F B lv n k cr la).length, fun x => if i ≤ x ∧ x < i + (grL F B lv n k cr la).length then nI ((grL F B lv n k cr la).getD (x - i) 0) else f x)
  | 0, i, cr, la, f, _ => by
    rw [liI, grL]
    simp
    funext x
    rw [if_neg (by omega)]
  | k + 1, i, cr, la, f, hc => by
    rw [grL]
    cases e : foS F B lv cr la n with
    | none =>
      rw [liI]
      simp
      funext x
      rw [if_neg (by omega)]
    | some x =>
      rw [liI, liI_gr k (i + 1) (stN cr x) (some x) _ (stN_256 cr hc x (foS_lt e).1)]
      simp only [List.length_cons]
      refine Prod.ext (by dsimp only; omega) ?_
      funext y
      dsimp only
      generalize grL F B lv n k (stN cr x) (some x) = l
      by_cases h1 : y = i
      · subst h1
        rw [if_neg (by omega), rz_u_s, if_pos (by omega), Nat.sub_self]
        rfl
      · rw [rz_u_n h1]
        by_cases h2 : i + 1 ≤ y ∧ y < i + 1 + l.length
        · rw [if_pos h2, if_pos (by omega), show y - i = y - (i + 1) + 1 by omega]
          rfl
        · rw [if_neg h2, if_neg (by omega)]
end RW
