/-! rows: what a search comes to -/
section RW2
variable {F B : Nat → Int32} {lv : Nat} {n : Int32}
/-- after those below i -/
def JR (F B : Nat → Int32) (lv : Nat) (n : Int32) (cr : Nat) (la : Option Nat) (many i l1 : Nat) (ST BR1 : Nat → Int32) (l : Nat) (BR : Nat → Int32) : Prop :=
  (l = l1 ∧ (∀ x, x < 8 → BR x = BR1 x) ∧ ∀ p, p < i → p < 8 → frB F lv cr la n p = true → many + vvR F B lv n cr p ≤ l1) ∨
  ∃ q0, q0 < i ∧ q0 < 8 ∧ frB F lv cr la n q0 = true ∧ l1 < many + vvR F B lv n cr q0 ∧ l = many + vvR F B lv n cr q0 ∧ (∀ p, p < i → p < 8 → frB F lv cr la n p = true → vvR F B lv n cr p ≤ vvR F B lv n cr q0) ∧ (∀ p, p < q0 → frB F lv cr la n p = true → vvR F B lv n cr p < vvR F B lv n cr q0) ∧ ∀ x, x < many + vvR F B lv n cr q0 → BR x = if x < many then ST x else if x = many then nI q0 else nI ((grL F B lv n 8 (stN cr q0) (some q0)).getD (x - (many + 1)) 0)
def SR (F B : Nat → Int32) (lv : Nat) (n : Int32) (cr : Nat) (la : Option Nat) (many l : Nat) (ST BR : Nat → Int32) (l' : Nat) (BR' : Nat → Int32) : Prop :=
  (l < many + (grL F B lv n 8 cr la).length ∧ l' = many + (grL F B lv n 8 cr la).length ∧ ∀ x, x < many + (grL F B lv n 8 cr la).length → BR' x = if x < many then ST x else nI ((grL F B lv n 8 cr la).getD (x - many) 0)) ∨ (¬ l < many + (grL F B lv n 8 cr la).length ∧ l' = l ∧ ∀ x, x < 8 → BR' x = BR x)
theorem JR.skip {cr many i l1 l : Nat} {la : Option Nat} {ST BR1 BR : Nat → Int32} (j : JR F B lv n cr la many i l1 ST BR1 l BR) (hb : frB F lv cr la n i = false) : JR F B lv n cr la many (i + 1) l1 ST BR1 l BR := by
  rcases j with ⟨h1, h2, h3⟩ | ⟨q0, h1, h2, h3, h4, h5, h6, h7, h8⟩
  · left
    refine ⟨h1, h2, fun q hq hq8 hqb => ?_⟩
    by_cases e : q = i
    · subst e; rw [hb] at hqb; cases hqb
    · exact h3 q (by omega) hq8 hqb
  · right
    refine ⟨q0, by omega, h2, h3, h4, h5, fun q hq hq8 hqb => ?_, h7, h8⟩
    by_cases e : q = i
    · subst e; rw [hb] at hqb; cases hqb
    · exact h6 q (by omega) hq8 hqb
theorem JR.step {cr many i l1 l l' : Nat} {la : Option Nat} {ST ST1 BR1 BR BR' : Nat → Int32} (j : JR F B lv n cr la many i l1 ST BR1 l BR) (hi : i < 8) (hb : frB F lv cr la n i = true) (h9 : ∀ p, p < 8 → frB F lv cr la n p = true → many + vvR F B lv n cr p ≤ 8) (hST : ST1 many = nI i ∧ ∀ x, x < many → ST1 x = ST x) (hS : SR F B lv n (stN cr i) (some i) (many + 1) l ST1 BR l' BR') : JR F B lv n cr la many (i + 1) l1 ST BR1 l' BR' := by
  have ev : many + 1 + (grL F B lv n 8 (stN cr i) (some i)).length = many + vvR F B lv n cr i := by unfold vvR; omega
  unfold SR at hS
  rw [ev] at hS
  have bm : (∀ x, x < many + vvR F B lv n cr i → BR' x = if x < many + 1 then ST1 x else nI ((grL F B lv n 8 (stN cr i) (some i)).getD (x - (many + 1)) 0)) → ∀ x, x < many + vvR F B lv n cr i → BR' x = if x < many then ST x else if x = many then nI i else nI ((grL F B lv n 8 (stN cr i) (some i)).getD (x - (many + 1)) 0) := by
    intro hx x x8
    rw [hx x x8]
    by_cases e1 : x < many
    · rw [if_pos (by omega), if_pos e1, hST.2 x e1]
    · by_cases e2 : x = many
      · rw [if_pos (by omega), if_neg e1, if_pos e2, e2, hST.1]
      · rw [if_neg (by omega), if_neg e1, if_neg e2]
  rcases hS with ⟨c1, c2, c3⟩ | ⟨c1, c2, c3⟩
  · right
    rcases j with ⟨h1, h2, h3⟩ | ⟨q0, h1, h2, h3, h4, h5, h6, h7, h8⟩
    · rw [h1] at c1
      refine ⟨i, by omega, hi, hb, c1, c2, fun q hq hq8 hqb => ?_, fun q hq hqb => ?_, bm c3⟩
      · by_cases e : q = i
        · subst e; omega
        · have := h3 q (by omega) hq8 hqb; omega
      · have := h3 q (by omega) (by omega) hqb; omega
    · refine ⟨i, by omega, hi, hb, by omega, c2, fun q hq hq8 hqb => ?_, fun q hq hqb => ?_, bm c3⟩
      · by_cases e : q = i
        · subst e; omega
        · have := h6 q (by omega) hq8 hqb; omega
      · have := h6 q (by omega) (by omega) hqb; omega
  · rcases j with ⟨h1, h2, h3⟩ | ⟨q0, h1, h2, h3, h4, h5, h6, h7, h8⟩
    · left
      refine ⟨by rw [c2, h1], fun x hx => by rw [c3 x hx, h2 x hx], fun q hq hq8 hqb => ?_⟩
      by_cases e : q = i
      · subst e; omega
      · exact h3 q (by omega) hq8 hqb
    · right
      refine ⟨q0, by omega, h2, h3, h4, by rw [c2, h5], fun q hq hq8 hqb => ?_, h7, fun x hx => ?_⟩
      · by_cases e : q = i
        · subst e; omega
        · exact h6 q (by omega) hq8 hqb
      · have := h9 q0 h2 h3
        rw [c3 x (by omega), h8 x hx]
/-- as long as all who live: nothing can be longer -/
theorem JR.all {cr many i l1 l : Nat} {la : Option Nat} {ST BR1 BR : Nat → Int32} (j : JR F B lv n cr la many i l1 ST BR1 l BR) (hl : ∀ p, p < 8 → frB F lv cr la n p = true → many + vvR F B lv n cr p ≤ l) : JR F B lv n cr la many 8 l1 ST BR1 l BR := by
  rcases j with ⟨h1, h2, h3⟩ | ⟨q0, h1, h2, h3, h4, h5, h6, h7, h8⟩
  · left
    exact ⟨h1, h2, fun q _ hq8 hqb => by have := hl q hq8 hqb; omega⟩
  · right
    exact ⟨q0, h2, h2, h3, h4, h5, fun q _ hq8 hqb => by have := hl q hq8 hqb; omega, h7, h8⟩
theorem JR.ext {cr many i l1 l : Nat} {la : Option Nat} {ST BR1 BR : Nat → Int32} (j : JR F B lv n cr la many i l1 ST BR1 l BR) (hl : ∀ p, i ≤ p → p < 8 → frB F lv cr la n p = false) : JR F B lv n cr la many 8 l1 ST BR1 l BR := by
  rcases j with ⟨h1, h2, h3⟩ | ⟨q0, h1, h2, h3, h4, h5, h6, h7, h8⟩
  · left
    refine ⟨h1, h2, fun q _ hq8 hqb => ?_⟩
    by_cases e : q < i
    · exact h3 q e hq8 hqb
    · rw [hl q (by omega) hq8] at hqb; cases hqb
  · right
    refine ⟨q0, h2, h2, h3, h4, h5, fun q _ hq8 hqb => ?_, h7, h8⟩
    by_cases e : q < i
    · exact h6 q e hq8 hqb
    · rw [hl q (by omega) hq8] at hqb; cases hqb
theorem JR.fin (h : rtOk F B lv n) {cr many l0 l : Nat} {la : Option Nat} {ST BR0 BR1 BR : Nat → Int32} (hc : cr < 256) (hs : sbI cr lv) (j : JR F B lv n cr la many 8 (if l0 < many then many else l0) ST BR1 l BR) (h1a : l0 < many → ∀ x, x < many → BR1 x = ST x) (h1b : ¬ l0 < many → BR1 = BR0) (m8 : many ≤ 8) : SR F B lv n cr la many l0 ST BR0 l BR := by
  unfold SR
  cases e : foS F B lv cr la n with
  | none =>
    have fn := h.foN hc hs e
    rw [grL_nn e]
    simp only [List.length_nil, Nat.add_zero]
    rcases j with ⟨h1, h2, h3⟩ | ⟨q0, h1, h2, h3, h4, h5, h6, h7, h8⟩
    · by_cases c : l0 < many
      · rw [if_pos c] at h1
        left
        refine ⟨c, h1, fun x hx => ?_⟩
        rw [if_pos hx, h2 x (by omega), h1a c x hx]
      · rw [if_neg c] at h1
        right
        exact ⟨c, h1, fun x hx => by rw [h2 x hx, h1b c]⟩
    · rw [fn q0 h2] at h3; cases h3
  | some x =>
    obtain ⟨f1, f2, f3⟩ := h.foX hc hs e
    have x8 := (foS_lt e).1
    have el : many + (grL F B lv n 8 cr la).length = many + vvR F B lv n cr x := by
      rw [grL_sm hc e, List.length_cons]; unfold vvR; omega
    rw [el]
    have vp : 0 < vvR F B lv n cr x := by unfold vvR; omega
    rcases j with ⟨h1, h2, h3⟩ | ⟨q0, h1, h2, h3, h4, h5, h6, h7, h8⟩
    · have := h3 x x8 x8 f1
      have c : ¬ l0 < many := by
        intro c; rw [if_pos c] at this; omega
      rw [if_neg c] at h1 this
      right
      exact ⟨by omega, h1, fun y hy => by rw [h2 y hy, h1b c]⟩
    · have e1 := h6 x x8 x8 f1
      have e2 := f2 q0 h2 h3
      have q0x : q0 = x := by
        rcases Nat.lt_trichotomy q0 x with z | z | z
        · have := f3 q0 z h3; omega
        · exact z
        · have := h7 x z f1; omega
      subst q0x
      left
      refine ⟨by split at h4 <;> omega, h5, fun y hy => ?_⟩
      rw [h8 y hy, grL_sm hc e]
      by_cases y1 : y < many
      · rw [if_pos y1, if_pos y1]
      · rw [if_neg y1, if_neg y1]
        by_cases y2 : y = many
        · rw [if_pos y2, y2, Nat.sub_self]; rfl
        · rw [if_neg y2, show y - many = y - (many + 1) + 1 by omega]; rfl
end RW2
