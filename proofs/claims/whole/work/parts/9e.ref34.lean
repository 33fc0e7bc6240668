/-! the reference: chance, its reckoning -/
def nL (n : Nat) : Int64 := Int64.ofNat n
theorem nL_add (a b : Nat) : nL a + nL b = nL (a + b) := (Int64.ofNat_add a b).symm
theorem nL_mul (a b : Nat) : nL a * nL b = nL (a * b) := (Int64.ofNat_mul a b).symm
theorem nL_div {a b : Nat} (ha : a < 2 ^ 63) (hb : b < 2 ^ 63) : nL a / nL b = nL (a / b) := (Int64.ofNat_div ha hb).symm
theorem nL_eq0 {a : Nat} (ha : a < 2 ^ 63) : (nL a = 0) = (a = 0) := by
  apply propext
  constructor
  · intro e
    have e1 : (nL a).toInt = (0 : Int64).toInt := by rw [e]
    rw [show (nL a).toInt = a from Int64.toInt_ofNat_of_lt ha, show (0 : Int64).toInt = 0 by decide] at e1
    omega
  · intro e; rw [e]; rfl
theorem nL_rem {a b : Nat} (ha : a < 2 ^ 63) (hb : b < 2 ^ 63) : nL a - nL a / nL b * nL b = nL (a % b) := by
  have h1 : a / b * b ≤ a := Nat.div_mul_le_self a b
  have h2 : a - a / b * b = a % b := by rw [Nat.mod_eq_sub_div_mul]
  rw [nL_div ha hb, nL_mul, ← h2]
  exact (Int64.ofNat_sub a (a / b * b) h1).symm
theorem nI_i64 : ∀ a, a < 17 → (nI a).toInt64 = nL a := by decide
theorem sh_4n : ∀ n, n < 13 → (1 : Int64) <<< ((4 * nI n).toInt64 &&& 63) = nL (2 ^ (4 * n)) := by decide
/-- one more trait -/
def stpL (q : Nat) : Nat → List Nat → List Nat
  | _, [] => []
  | p, x :: l => (x * (16 - q) + p * q) :: stpL q x l
def rowL (q : Nat) : Nat → List Nat
  | 0 => [1, 0, 0, 0, 0, 0, 0, 0, 0, 0, 0, 0, 0, 0]
  | e + 1 => stpL q 0 (rowL q e)
theorem stpL_at (q : Nat) : ∀ (l : List Nat) (p i : Nat), i < l.length → (stpL q p l).getD i 0 = l.getD i 0 * (16 - q) + (if i = 0 then p else l.getD (i - 1) 0) * q
  | [], _, i, h => by simp at h
  | x :: l, p, 0, h => rfl
  | x :: l, p, i + 1, h => by
    have := stpL_at q l x i (by simpa using h)
    show (stpL q x l).getD i 0 = l.getD i 0 * (16 - q) + (if i + 1 = 0 then p else (x :: l).getD i 0) * q
    rw [this]
    cases i with
    | zero => rfl
    | succ i => rfl
theorem stpL_len (q : Nat) : ∀ (l : List Nat) (p : Nat), (stpL q p l).length = l.length
  | [], _ => rfl
  | x :: l, p => by rw [stpL, List.length_cons, List.length_cons, stpL_len q l x]
theorem rowL_len (q : Nat) : ∀ e, (rowL q e).length = 14
  | 0 => rfl
  | e + 1 => by rw [rowL, stpL_len, rowL_len q e]
def psm (l : List Nat) (k : Nat) : Nat → Nat
  | 0 => 0
  | t + 1 => psm l k t + l.getD (k + t) 0
def upN (n k q : Nat) : Nat := psm (rowL q n) k (14 - k)
def chN (n k q pt : Nat) : Nat := (if pt = 0 then upN n k q else 2 ^ (4 * n)) / Nat.gcd (2 ^ (4 * n)) (upN n k q)
theorem upN_lt : ∀ n, n < 13 → ∀ k, k < 14 → ∀ q, q < 17 → upN n k q < 2 ^ 62 := by decide +kernel
theorem chN_0 : ∀ k, k < 14 → ∀ q, q < 17 → ∀ pt, pt < 2 → chS 0 k (nI q) pt = nL (chN 0 k q pt) := by decide +kernel
theorem chN_1 : ∀ k, k < 14 → ∀ q, q < 17 → ∀ pt, pt < 2 → chS 1 k (nI q) pt = nL (chN 1 k q pt) := by decide +kernel
theorem chN_2 : ∀ k, k < 14 → ∀ q, q < 17 → ∀ pt, pt < 2 → chS 2 k (nI q) pt = nL (chN 2 k q pt) := by decide +kernel
theorem chN_3 : ∀ k, k < 14 → ∀ q, q < 17 → ∀ pt, pt < 2 → chS 3 k (nI q) pt = nL (chN 3 k q pt) := by decide +kernel
theorem chN_4 : ∀ k, k < 14 → ∀ q, q < 17 → ∀ pt, pt < 2 → chS 4 k (nI q) pt = nL (chN 4 k q pt) := by decide +kernel
theorem chN_5 : ∀ k, k < 14 → ∀ q, q < 17 → ∀ pt, pt < 2 → chS 5 k (nI q) pt = nL (chN 5 k q pt) := by decide +kernel
theorem chN_6 : ∀ k, k < 14 → ∀ q, q < 17 → ∀ pt, pt < 2 → chS 6 k (nI q) pt = nL (chN 6 k q pt) := by decide +kernel
theorem chN_7 : ∀ k, k < 14 → ∀ q, q < 17 → ∀ pt, pt < 2 → chS 7 k (nI q) pt = nL (chN 7 k q pt) := by decide +kernel
theorem chN_8 : ∀ k, k < 14 → ∀ q, q < 17 → ∀ pt, pt < 2 → chS 8 k (nI q) pt = nL (chN 8 k q pt) := by decide +kernel
theorem chN_9 : ∀ k, k < 14 → ∀ q, q < 17 → ∀ pt, pt < 2 → chS 9 k (nI q) pt = nL (chN 9 k q pt) := by decide +kernel
theorem chN_10 : ∀ k, k < 14 → ∀ q, q < 17 → ∀ pt, pt < 2 → chS 10 k (nI q) pt = nL (chN 10 k q pt) := by decide +kernel
theorem chN_11 : ∀ k, k < 14 → ∀ q, q < 17 → ∀ pt, pt < 2 → chS 11 k (nI q) pt = nL (chN 11 k q pt) := by decide +kernel
theorem chN_12 : ∀ k, k < 14 → ∀ q, q < 17 → ∀ pt, pt < 2 → chS 12 k (nI q) pt = nL (chN 12 k q pt) := by decide +kernel
theorem chS_N {n k q pt : Nat} (hn : n < 13) (hk : k < 14) (hq : q < 17) (hp : pt < 2) : chS n k (nI q) pt = nL (chN n k q pt) := by
  have : n = 0 ∨ n = 1 ∨ n = 2 ∨ n = 3 ∨ n = 4 ∨ n = 5 ∨ n = 6 ∨ n = 7 ∨ n = 8 ∨ n = 9 ∨ n = 10 ∨ n = 11 ∨ n = 12 := by omega
  rcases this with rfl | rfl | rfl | rfl | rfl | rfl | rfl | rfl | rfl | rfl | rfl | rfl | rfl
  · exact chN_0 k hk q hq pt hp
  · exact chN_1 k hk q hq pt hp
  · exact chN_2 k hk q hq pt hp
  · exact chN_3 k hk q hq pt hp
  · exact chN_4 k hk q hq pt hp
  · exact chN_5 k hk q hq pt hp
  · exact chN_6 k hk q hq pt hp
  · exact chN_7 k hk q hq pt hp
  · exact chN_8 k hk q hq pt hp
  · exact chN_9 k hk q hq pt hp
  · exact chN_10 k hk q hq pt hp
  · exact chN_11 k hk q hq pt hp
  · exact chN_12 k hk q hq pt hp
/-- the row of longs of the reference holds this -/
def hX (h : Nat → Option rx_E) (b : Nat) (f : Nat → Int64) : Nat → Option rx_E := rx_up h (b + 474) (.inl (1, 14, fun i => .long (f i)))
def u64 (f : Nat → Int64) (i : Nat) (v : Int64) : Nat → Int64 := fun j => if j = i then v else f j
section HX
variable {h h' : Nat → Option rx_E} {b : Nat} {f : Nat → Int64}
theorem hX_at (h : Nat → Option rx_E) (b : Nat) (f : Nat → Int64) : hX h b f (b + 474) = some (.inl (1, 14, fun i => .long (f i))) := rx_up_self _ _ _
theorem hX_ne {a : Nat} (ha : a ≠ b + 474) : hX h b f a = h a := rx_up_ne _ _ ha
theorem hX_he (i : Nat) (v : Int64) : rz_he (hX h b f) (b + 474) i (.long v) = hX h b (u64 f i v) := by
  unfold rz_he
  rw [hX_at]
  funext q
  by_cases e : q = b + 474
  · subst e
    rw [hX_at]
    dsimp only
    rw [rx_up_self]
    congr 4
    funext j
    unfold va_up u64
    split <;> rfl
  · rw [hX_ne e]
    dsimp only
    rw [rx_up_ne _ _ e, hX_ne e]
theorem oMd.eq (hh : ∀ a, a ≠ b + 474 → h' a = h a) (o : oMd h b) : oMd h' b := by
  obtain ⟨o0, o1, o2, o3, o4, o5, o6, o7, o8, o9, o10, o11, o12, o13, o14, o15, o16, o17, o18, o19, o20, o21, o22, o23, o24, o25, o26, o27, o28, o29, o30, o31⟩ := o
  exact ⟨(hh _ (by omega)).trans o0, (hh _ (by omega)).trans o1, (hh _ (by omega)).trans o2, (hh _ (by omega)).trans o3, (hh _ (by omega)).trans o4, (hh _ (by omega)).trans o5, (hh _ (by omega)).trans o6, (hh _ (by omega)).trans o7, (hh _ (by omega)).trans o8, (hh _ (by omega)).trans o9, (hh _ (by omega)).trans o10, (hh _ (by omega)).trans o11, (hh _ (by omega)).trans o12, (hh _ (by omega)).trans o13, (hh _ (by omega)).trans o14, fun j hj => (hh _ (by omega)).trans (o15 j hj), (hh _ (by omega)).trans o16, fun j hj => (hh _ (by omega)).trans (o17 j hj), (hh _ (by omega)).trans o18, fun j hj => (hh _ (by omega)).trans (o19 j hj), (hh _ (by omega)).trans o20, fun j hj => (hh _ (by omega)).trans (o21 j hj), (hh _ (by omega)).trans o22, fun j hj => (hh _ (by omega)).trans (o23 j hj), (hh _ (by omega)).trans o24, fun j hj => (hh _ (by omega)).trans (o25 j hj), (hh _ (by omega)).trans o26, fun j hj => (hh _ (by omega)).trans (o27 j hj), (hh _ (by omega)).trans o28, fun j hj => (hh _ (by omega)).trans (o29 j hj), (hh _ (by omega)).trans o30, fun j hj => (hh _ (by omega)).trans (o31 j hj)⟩
theorem oMd.X (o : oMd h b) (f : Nat → Int64) : oMd (hX h b f) b := o.eq (fun _ ha => hX_ne ha)
end HX
