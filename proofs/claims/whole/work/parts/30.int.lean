/-! small rows about numbers, for the runs -/
theorem nI_aL (a n : Nat) : nI a + (no_index (OfNat.ofNat n : Int32)) = nI (a + OfNat.ofNat n) := nI_add a n
theorem nI_La (a n : Nat) : (no_index (OfNat.ofNat n : Int32)) + nI a = nI (OfNat.ofNat n + a) := nI_add n a
theorem nI_mL (a n : Nat) : nI a * (no_index (OfNat.ofNat n : Int32)) = nI (a * OfNat.ofNat n) := pk_mul a n
theorem nI_Lm (a n : Nat) : (no_index (OfNat.ofNat n : Int32)) * nI a = nI (OfNat.ofNat n * a) := pk_mul n a
theorem rz_ix_nat {m n : Nat} (h : m < n) (hn : n < 2147483648) : rz_ix (nI m) n := ⟨nI_pos (by omega), by rw [nI_clamp (by omega)]; exact h⟩
theorem rz_ix_lit {m n : Nat} (h : m < n) (hn : n < 2147483648) : rz_ix (no_index (OfNat.ofNat m : Int32)) n := rz_ix_nat (m := m) h hn
theorem cl_lit {n : Nat} (h : n < 2147483648) : (no_index (OfNat.ofNat n : Int32)).toNatClampNeg = OfNat.ofNat n := nI_clamp (n := n) h
theorem rz_zle {a b k : Nat} (h : a ≤ b) : a ≤ b + k := Nat.le_add_right_of_le h
theorem bi_t : bi true = 1 := rfl
theorem bi_f : bi false = 0 := rfl
theorem rz_bi0 (b : Bool) : (bi b = 0) = (b = false) := by cases b <;> simp [bi]
theorem rz_bi1 (b : Bool) : (bi b = 1) = (b = true) := by cases b <;> simp [bi]
theorem rz_u_id {f : Nat → Int32} {k : Nat} {v : Int32} (h : f k = v) : rz_u f k v = f := by
  funext j
  unfold rz_u
  split
  · rename_i e; rw [e, h]
  · rfl
theorem rz_up_id {ι : Nat → Nat → Int32} {a k : Nat} {v : Int32} (h : ι a k = v) : rz_up ι a k v = ι := by
  funext b
  unfold rz_up
  split
  · rename_i e; rw [e, rz_u_id h]
  · rfl
theorem rz_u_u (f : Nat → Int32) (k : Nat) (v v' : Int32) : rz_u (rz_u f k v) k v' = rz_u f k v' := by
  funext j
  unfold rz_u
  split <;> rfl
theorem rz_up_up (ι : Nat → Nat → Int32) (a k : Nat) (v v' : Int32) : rz_up (rz_up ι a k v) a k v' = rz_up ι a k v' := by
  funext b
  unfold rz_up
  by_cases h : b = a
  · rw [if_pos h, if_pos h, if_pos rfl, rz_u_u]
  · rw [if_neg h, if_neg h, if_neg h]
/-- a branch that no ways differ in -/
theorem rz_same {α : Type} {p : Prop} [Decidable p] {a b c : α} (h1 : p → a = c) (h2 : ¬ p → b = c) : (if p then a else b) = c := by
  split
  · rename_i h; exact h1 h
  · rename_i h; exact h2 h
theorem nI_cl {n : Nat} (h : n < 2147483648) : (nI n).toNatClampNeg = n := nI_clamp h
theorem nI_lt2 {a b : Nat} (ha : a < 2147483648) (hb : b < 2147483648) : (nI a < nI b) = (a < b) := propext (nI_ltI ha hb)
theorem nI_eq2 {a b : Nat} (ha : a < 2147483648) (hb : b < 2147483648) : (nI a = nI b) = (a = b) := propext (nI_eq ha hb)
theorem nI_ltL {a n : Nat} (ha : a < 2147483648) (hn : n < 2147483648) : (nI a < (no_index (OfNat.ofNat n : Int32))) = (a < OfNat.ofNat n) := propext (nI_ltI (b := n) ha hn)
theorem nI_Llt {a n : Nat} (ha : a < 2147483648) (hn : n < 2147483648) : ((no_index (OfNat.ofNat n : Int32)) < nI a) = (OfNat.ofNat n < a) := propext (nI_ltI (a := n) hn ha)
theorem nI_eqL {a n : Nat} (ha : a < 2147483648) (hn : n < 2147483648) : (nI a = (no_index (OfNat.ofNat n : Int32))) = (a = OfNat.ofNat n) := propext (nI_eq (b := n) ha hn)
theorem nI_m1 {a : Nat} (ha : a < 2147483648) : (nI a = -1) = False := by
  apply propext
  constructor
  · intro h
    have h1 := nI_toInt (n := a) (by omega)
    rw [h] at h1
    have h2 : (-1 : Int32).toInt = -1 := by decide
    omega
  · exact False.elim
theorem nI_m1l {a : Nat} (ha : a < 2147483648) : ((-1 : Int32) < nI a) = True := by
  apply propext
  refine ⟨fun _ => trivial, fun _ => Int32.lt_iff_toInt_lt.mpr ?_⟩
  rw [nI_toInt (by omega)]
  have h2 : (-1 : Int32).toInt = -1 := by decide
  omega
theorem nI_nn {a : Nat} (ha : a < 2147483648) : (nI a < 0) = False := by
  apply propext
  exact ⟨fun h => nI_pos (by omega) h, False.elim⟩
/-- a whole row is set -/
def rz_rw (ι : Nat → Nat → Int32) (a : Nat) (f : Nat → Int32) : Nat → Nat → Int32 := fun b => if b = a then f else ι b
theorem rz_rw_s (ι : Nat → Nat → Int32) (a : Nat) (f : Nat → Int32) : rz_rw ι a f a = f := if_pos rfl
theorem rz_rw_n {ι : Nat → Nat → Int32} {a b : Nat} {f : Nat → Int32} (h : b ≠ a) : rz_rw ι a f b = ι b := if_neg h
theorem rz_rw_of {ι ι' : Nat → Nat → Int32} {a : Nat} {f : Nat → Int32} (h1 : ∀ b, b ≠ a → ι' b = ι b) (h2 : ι' a = f) : ι' = rz_rw ι a f := by
  funext b
  by_cases e : b = a
  · subst e; rw [rz_rw_s, h2]
  · rw [rz_rw_n e, h1 b e]
theorem rz_rw_up (ι : Nat → Nat → Int32) (a k : Nat) (f : Nat → Int32) (v : Int32) : rz_up (rz_rw ι a f) a k v = rz_rw ι a (rz_u f k v) := by
  funext b
  by_cases e : b = a
  · subst e; rw [rz_rw_s, rz_up_s, rz_rw_s]
  · rw [rz_rw_n e, rz_up_n e, rz_rw_n e]
theorem rz_up_rw (ι : Nat → Nat → Int32) (a k : Nat) (v : Int32) : rz_up ι a k v = rz_rw ι a (rz_u (ι a) k v) := rfl
theorem rz_rw_rw (ι : Nat → Nat → Int32) (a : Nat) (f g : Nat → Int32) : rz_rw (rz_rw ι a f) a g = rz_rw ι a g := by
  funext b
  by_cases e : b = a
  · subst e; rw [rz_rw_s, rz_rw_s]
  · rw [rz_rw_n e, rz_rw_n e, rz_rw_n e]
theorem rz_rw_id {ι : Nat → Nat → Int32} {a : Nat} {f : Nat → Int32} (h : ι a = f) : rz_rw ι a f = ι := by
  funext b
  by_cases e : b = a
  · subst e; rw [rz_rw_s, h]
  · rw [rz_rw_n e]
/-- a loop that counts up -/
theorem rz_loop {α : Type} {β : Type} (F : Nat → α → β) (n : Nat) (I : Nat → α → Prop) (step : ∀ p a, p < n → I p a → ∃ a', I (p + 1) a' ∧ F p a = F (p + 1) a') : ∀ (k p : Nat) (a : α), p + k = n → I p a → ∃ a', I n a' ∧ F p a = F n a' := by
  intro k
  induction k with
  | zero => intro p a hp hi; have : p = n := by omega
            subst this; exact ⟨a, hi, rfl⟩
  | succ k ih =>
    intro p a hp hi
    obtain ⟨a', h1, h2⟩ := step p a (by omega) hi
    obtain ⟨a'', h3, h4⟩ := ih (p + 1) a' (by omega) h1
    exact ⟨a'', h3, h2.trans h4⟩
/-- .. and may be left early -/
theorem rz_loopx {α : Type} {β : Type} (F : Nat → α → β) (n : Nat) (I : Nat → α → Prop) (D : β → Prop) (step : ∀ p a, p < n → I p a → (∃ a', I (p + 1) a' ∧ F p a = F (p + 1) a') ∨ D (F p a)) : ∀ (k p : Nat) (a : α), p + k = n → I p a → (∃ a', I n a' ∧ F p a = F n a') ∨ D (F p a) := by
  intro k
  induction k with
  | zero => intro p a hp hi; have : p = n := by omega
            subst this; exact Or.inl ⟨a, hi, rfl⟩
  | succ k ih =>
    intro p a hp hi
    rcases step p a (by omega) hi with ⟨a', h1, h2⟩ | h1
    · rcases ih (p + 1) a' (by omega) h1 with ⟨a'', h3, h4⟩ | h3
      · exact Or.inl ⟨a'', h3, h2.trans h4⟩
      · rw [h2]; exact Or.inr h3
    · exact Or.inr h1
theorem rz_loopE {β : Type} (F : Nat → β) (n : Nat) (step : ∀ p, p < n → F p = F (p + 1)) : F 0 = F n := by
  have : ∀ k p, p + k = n → F p = F n := by
    intro k
    induction k with
    | zero => intro p hp; rw [show p = n by omega]
    | succ k ih => intro p hp; rw [step p (by omega)]; exact ih (p + 1) (by omega)
  exact this n 0 (by omega)
theorem nI_0lt {n : Nat} (h0 : 0 < n) (h : n < 2147483648) : ((0 : Int32) < nI n) = True := by
  apply propext
  exact ⟨fun _ => trivial, fun _ => nI_lt (a := 0) h0 (by omega)⟩
