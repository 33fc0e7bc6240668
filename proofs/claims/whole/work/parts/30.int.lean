/-! small rows about numbers, for the runs -/
theorem nI_aL (a n : Nat) : nI a + (OfNat.ofNat n : Int32) = nI (a + OfNat.ofNat n) := nI_add a n
theorem nI_La (a n : Nat) : (OfNat.ofNat n : Int32) + nI a = nI (OfNat.ofNat n + a) := nI_add n a
theorem nI_mL (a n : Nat) : nI a * (OfNat.ofNat n : Int32) = nI (a * OfNat.ofNat n) := pk_mul a n
theorem nI_Lm (a n : Nat) : (OfNat.ofNat n : Int32) * nI a = nI (OfNat.ofNat n * a) := pk_mul n a
theorem rz_ix_nat {m n : Nat} (h : m < n) (hn : n < 2147483648) : rz_ix (nI m) n := ⟨nI_pos (by omega), by rw [nI_clamp (by omega)]; exact h⟩
theorem rz_ix_lit {m n : Nat} (h : m < n) (hn : n < 2147483648) : rz_ix (OfNat.ofNat m) n := rz_ix_nat h hn
theorem rz_zle {a b k : Nat} (h : a ≤ b) : a ≤ b + k := Nat.le_add_right_of_le h
theorem rz_bi0 (b : Bool) : (bi b = 0) = (b = false) := by cases b <;> simp [bi]
theorem rz_bi1 (b : Bool) : (bi b = 1) = (b = true) := by cases b <;> simp [bi]
theorem rz_u_id {f : Nat → Int32} {k : Nat} {v : Int32} (h : f k = v) : rz_u f k v = f := by
  funext j
  unfold rz_u
  split
  · rename_i e; rw [e, h]
  · rfl
theorem rz_up_id {ι : Nat → Nat → Int32} {a k : Nat} {v : Int32} (h : ι a k = v) : rz_up ι a k v = ι := by
  funext b
  unfold rz_up
  split
  · rename_i e; rw [e, rz_u_id h]
  · rfl
theorem rz_u_u (f : Nat → Int32) (k : Nat) (v v' : Int32) : rz_u (rz_u f k v) k v' = rz_u f k v' := by
  funext j
  unfold rz_u
  split <;> rfl
theorem rz_up_up (ι : Nat → Nat → Int32) (a k : Nat) (v v' : Int32) : rz_up (rz_up ι a k v) a k v' = rz_up ι a k v' := by
  funext b
  unfold rz_up
  by_cases h : b = a
  · rw [if_pos h, if_pos h, if_pos rfl, rz_u_u]
  · rw [if_neg h, if_neg h, if_neg h]
/-- a branch that no ways differ in -/
theorem rz_same {α : Type} {p : Prop} [Decidable p] {a b c : α} (h1 : p → a = c) (h2 : ¬ p → b = c) : (if p then a else b) = c := by
  split
  · rename_i h; exact h1 h
  · rename_i h; exact h2 h
theorem nI_cl {n : Nat} (h : n < 2147483648) : (nI n).toNatClampNeg = n := nI_clamp h
theorem nI_lt2 {a b : Nat} (ha : a < 2147483648) (hb : b < 2147483648) : (nI a < nI b) = (a < b) := propext (nI_ltI ha hb)
theorem nI_eq2 {a b : Nat} (ha : a < 2147483648) (hb : b < 2147483648) : (nI a = nI b) = (a = b) := propext (nI_eq ha hb)
theorem nI_ltL {a n : Nat} (ha : a < 2147483648) (hn : OfNat.ofNat n < 2147483648) : (nI a < (OfNat.ofNat n : Int32)) = (a < OfNat.ofNat n) := propext (nI_ltI (b := n) ha hn)
theorem nI_Llt {a n : Nat} (ha : a < 2147483648) (hn : OfNat.ofNat n < 2147483648) : ((OfNat.ofNat n : Int32) < nI a) = (OfNat.ofNat n < a) := propext (nI_ltI (a := n) hn ha)
theorem nI_eqL {a n : Nat} (ha : a < 2147483648) (hn : OfNat.ofNat n < 2147483648) : (nI a = (OfNat.ofNat n : Int32)) = (a = OfNat.ofNat n) := propext (nI_eq (b := n) ha hn)
theorem nI_m1 {a : Nat} (ha : a < 2147483648) : (nI a = -1) = False := by
  apply propext
  constructor
  · intro h
    have h1 := nI_toInt (n := a) (by omega)
    rw [h] at h1
    have h2 : (-1 : Int32).toInt = -1 := by decide
    omega
  · exact False.elim
theorem nI_m1l {a : Nat} (ha : a < 2147483648) : ((-1 : Int32) < nI a) = True := by
  apply propext
  refine ⟨fun _ => trivial, fun _ => Int32.lt_iff_toInt_lt.mpr ?_⟩
  rw [nI_toInt (by omega)]
  have h2 : (-1 : Int32).toInt = -1 := by decide
  omega
theorem nI_nn {a : Nat} (ha : a < 2147483648) : (nI a < 0) = False := by
  apply propext
  exact ⟨fun h => nI_pos (by omega) h, False.elim⟩
