/-! the reference: whether one were the heir -/
def badH (C : List (Nat × Nat)) (R : Nat → Int32) (x p : Nat) (v : Int32) (q : Nat) : Bool := rLv R q && (!decide (q = p) && (!decide (q = x) && (decide (v < farB C R q x) || (decide (farB C R q x = v) && decide (q < p)))))
theorem nfS_lt {C : List (Nat × Nat)} {R : Nat → Int32} {x p f : Nat} (hx : x < 8) (hf : f ≤ 99) : ∀ j, j ≤ 8 → (∃ t : Nat, t ≤ 100 ∧ nfS C R (some x) p j = nI t) ∧ (nI f < nfS C R (some x) p j ↔ ∃ q, q < j ∧ badH C R x p (nI f) q = true)
  | 0, _ => ⟨⟨0, by omega, rfl⟩, ⟨fun h => by
      have : (nI f < 0) = False := nI_nn (by omega)
      rw [show nfS C R (some x) p 0 = 0 from rfl, this] at h; exact h.elim, fun ⟨q, hq, _⟩ => by omega⟩⟩
  | j + 1, hj => by
    obtain ⟨⟨t, t1, t2⟩, ih⟩ := nfS_lt (C := C) (R := R) (p := p) hx hf j (by omega)
    obtain ⟨e, e1, e2⟩ := farB_nI C R j x
    rw [t2] at ih
    have nI1 : ∀ y : Nat, nI y + 1 = nI (y + 1) := fun y => nI_1 y
    unfold nfS
    rw [t2]
    by_cases hc : rLv R j = true ∧ j ≠ p ∧ nI j ≠ oN (some x)
    · have hjx : j ≠ x := fun z => hc.2.2 (by rw [z]; rfl)
      have fd : fromD C R (some x) j = nI e := by
        show (if x = j then 0 else farB C R j x) = nI e
        rw [if_neg (fun z => hjx z.symm), e2]
      rw [if_pos hc, fd]
      have nd : (if j < p then nI e + 1 else nI e) = nI (if j < p then e + 1 else e) := by
        split
        · exact nI1 e
        · rfl
      have hb : badH C R x p (nI f) j = true ↔ f < (if j < p then e + 1 else e) := by
        unfold badH
        rw [e2]
        simp only [hc.1, hc.2.1, hjx, Bool.true_and, decide_false, Bool.not_false, nI_lt2 (show f < 2147483648 by omega) (show e < 2147483648 by omega), nI_eq2 (show e < 2147483648 by omega) (show f < 2147483648 by omega), Bool.or_eq_true, Bool.and_eq_true, decide_eq_true_eq]
        split <;> omega
      rw [nd]
      have hle : (if j < p then e + 1 else e) ≤ 100 := by split <;> omega
      generalize (if j < p then e + 1 else e) = g at hb hle
      have ex : (∃ q, q < j + 1 ∧ badH C R x p (nI f) q = true) ↔ (nI f < nI t ∨ f < g) := by
        rw [ih, ← hb]
        constructor
        · rintro ⟨q, h1, h2⟩
          by_cases hq : q = j
          · subst hq; exact Or.inr h2
          · exact Or.inl ⟨q, by omega, h2⟩
        · rintro (⟨q, h1, h2⟩ | h2)
          · exact ⟨q, by omega, h2⟩
          · exact ⟨j, by omega, h2⟩
      rw [ex, nI_lt2 (show f < 2147483648 by omega) (show t < 2147483648 by omega)]
      split <;> rename_i hh <;> rw [nI_lt2 (show t < 2147483648 by omega) (show g < 2147483648 by omega)] at hh
      · refine ⟨⟨g, by omega, rfl⟩, ?_⟩
        rw [nI_lt2 (show f < 2147483648 by omega) (show g < 2147483648 by omega)]
        omega
      · refine ⟨⟨t, by omega, rfl⟩, ?_⟩
        rw [nI_lt2 (show f < 2147483648 by omega) (show t < 2147483648 by omega)]
        omega
    · rw [if_neg hc]
      refine ⟨⟨t, t1, rfl⟩, ?_⟩
      rw [ih]
      constructor
      · rintro ⟨q, h1, h2⟩; exact ⟨q, by omega, h2⟩
      · rintro ⟨q, h1, h2⟩
        by_cases hq : q = j
        · subst hq
          unfold badH at h2
          simp only [Bool.and_eq_true, Bool.not_eq_true', decide_eq_false_iff_not] at h2
          refine absurd ⟨h2.1, h2.2.1, ?_⟩ hc
          intro z
          have : (nI q = nI x) = (q = x) := nI_eq2 (by omega) (by omega)
          have z : nI q = nI x := z
          rw [this] at z
          exact h2.2.2.1 z
        · exact ⟨q, by omega, h2⟩
