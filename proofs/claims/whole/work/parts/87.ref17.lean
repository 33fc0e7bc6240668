/-! a century leaves the end of a row as it is -/
theorem berR_62 {R : Nat → Int32} {m a b i : Nat} (hi : 62 ≤ i) : (berR R m a b).getD R i = R i := by
  unfold berR
  split
  · rename_i hc
    have hm := hc.2.2.2
    simp only [Option.getD_some]
    unfold addR shIs
    rw [if_neg (by omega), rz_u_n (by omega), rz_u_n (by omega), rz_u_n (by omega), rz_u_n (by omega), rz_u_n (by omega), rz_u_n (by omega)]
  · rfl
theorem burR_62 {C : List (Nat × Nat)} {R : Nat → Int32} {m p i : Nat} (hi : 62 ≤ i) : (burR C R m p).getD R i = R i := by
  unfold burR
  split
  · simp only [Option.getD_some]
    split
    · unfold crnR kilR
      rw [rz_u_n (by omega), rz_u_n (by omega), rz_u_n (by omega), rz_u_n (by omega)]
    · unfold kilR
      rw [rz_u_n (by omega)]
  · rfl
