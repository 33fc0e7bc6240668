/-! the class begins anew: DUKEDOM -/
def dkBd (R : Nat → Int32) : Prop := (∀ i, i < 48 → ∃ v : Nat, v ≤ 9 ∧ R i = nI v) ∧ (∀ p, p < 8 → ∃ a : Nat, a ≤ 20 ∧ R (48 + p) = nI a) ∧ R 60 = 0 ∧ R 61 = 0 ∧ ∀ i, 62 ≤ i → R i = 0
theorem dkBd.add {R : Nat → Int32} {n x y z : Nat} (h : dkBd R) (hn : n < 8) (hx : x ≤ 9) (hy : y ≤ 9) (hz : z ≤ 9) : dkBd (addR R n (nI x) (nI y) (nI z) 20) := by
  obtain ⟨h1, h2, h3, h4, h5⟩ := h
  refine ⟨fun i hi => ?_, fun p hp => ?_, ?_, ?_, fun i hi => ?_⟩
  · rw [addR_at]
    split
    · split
      · exact ⟨z, hz, rfl⟩
      · split
        · exact ⟨y, hy, rfl⟩
        · exact ⟨x, hx, rfl⟩
    · split
      · exact ⟨z, hz, rfl⟩
      · split
        · exact ⟨y, hy, rfl⟩
        · split
          · exact ⟨x, hx, rfl⟩
          · rw [if_neg (by omega), if_neg (by omega), if_neg (by omega)]; exact h1 i hi
  · rw [addR_at, if_neg (by omega), if_neg (by omega), if_neg (by omega), if_neg (by omega)]
    split
    · exact ⟨20, by omega, rfl⟩
    · rw [if_neg (by omega), if_neg (by omega)]; exact h2 p hp
  · rw [addR_at, if_neg (by omega), if_neg (by omega), if_neg (by omega), if_neg (by omega), if_neg (by omega), if_neg (by omega), if_neg (by omega)]; exact h3
  · rw [addR_at, if_neg (by omega), if_neg (by omega), if_neg (by omega), if_neg (by omega), if_neg (by omega), if_neg (by omega), if_neg (by omega)]; exact h4
  · rw [addR_at, if_neg (by omega), if_neg (by omega), if_neg (by omega), if_neg (by omega), if_neg (by omega), if_neg (by omega), if_neg (by omega)]; exact h5 i hi
theorem dkBd.fold : ∀ (P : List P3) (s : (Nat → Int32) × Nat), (∀ q ∈ P, q.1 ≤ 9 ∧ q.2.1 ≤ 9 ∧ q.2.2 ≤ 9) → s.2 + P.length ≤ 8 → dkBd s.1 → dkBd (P.foldl (fun (s : (Nat → Int32) × Nat) q => (addR s.1 s.2 (nI q.1) (nI q.2.1) (nI q.2.2) 20, s.2 + 1)) s).1
  | [], _, _, _, h => h
  | q :: P, s, hq, hl, h => by
    rw [List.foldl_cons]
    simp only [List.length_cons] at hl
    obtain ⟨q1, q2, q3⟩ := hq q (List.mem_cons_self ..)
    exact dkBd.fold P _ (fun y hy => hq y (List.mem_cons_of_mem _ hy)) (by show s.2 + 1 + P.length ≤ 8; omega) (h.add (by omega) q1 q2 q3)
theorem dkBd_0 : dkBd R00 := ⟨fun i hi => ⟨0, by omega, by unfold R00; rw [if_neg (by omega)]; rfl⟩, fun p hp => ⟨0, by omega, by unfold R00; rw [if_neg (by omega)]; rfl⟩, rfl, rfl, fun i hi => by unfold R00; rw [if_neg (by omega)]⟩
theorem pop_ones : ∀ m, m < 9 → popN (2 ^ m - 1) ≤ m := by decide
/-- a fresh dukedom is sound -/
theorem okR_dk {P : List P3} {dk ld : Nat} (hW : dkW P dk ld) : ∃ q, okR (crnR (dkR P) (if P.length = 0 then -1 else nI dk)) P.length q (2 ^ P.length - 1) := by
  obtain ⟨w1, w2, w3, w4⟩ := hW
  obtain ⟨b1, b2, b3, b4, b5⟩ : dkBd (dkR P) := dkBd.fold P (R00, 0) w2 (by show 0 + P.length ≤ 8; omega) dkBd_0
  have b56 := (pwR_dk w1 P.length (Nat.le_refl _)).2.1
  rw [List.take_length] at b56
  have pw : 0 < 2 ^ P.length := Nat.pow_pos (by decide)
  have pp := pop_ones P.length (by omega)
  have c : ∀ x i, i ≠ 58 → i ≠ 59 → i ≠ 60 → crnR (dkR P) x i = dkR P i := fun x i h1 h2 h3 => by unfold crnR; rw [rz_u_n h3, rz_u_n h2, rz_u_n h1]
  have c58 : ∀ x, crnR (dkR P) x 58 = x := fun x => by unfold crnR; rw [rz_u_n (by decide), rz_u_n (by decide), rz_u_s]
  have c60 : ∀ x, crnR (dkR P) x 60 = dkR P 60 + (if x = -1 then 0 else 1) := fun x => by unfold crnR; rw [rz_u_s]
  refine ⟨if P.length = 0 then none else some dk, by rw [c _ _ (by decide) (by decide) (by decide)]; exact dkR_57 w1, w1, ?_, fun q hq => ?_, by rw [c _ _ (by decide) (by decide) (by decide)]; exact b56, by omega, fun hd => ?_, fun i hi => by rw [c _ _ (by omega) (by omega) (by omega)]; exact b1 i hi, ⟨0, by omega, by rw [c _ _ (by decide) (by decide) (by decide)]; exact b4, fun p hp => by rw [c _ _ (by omega) (by omega) (by omega)]; exact b2 p hp⟩, fun i hi => by rw [c _ _ (by omega) (by omega) (by omega)]; exact b5 i hi, ?_⟩
  · rw [c58]
    by_cases h0 : P.length = 0
    · rw [if_pos h0, if_pos h0]; rfl
    · rw [if_neg h0, if_neg h0]; rfl
  · by_cases h0 : P.length = 0
    · rw [if_pos h0] at hq; cases hq
    · rw [if_neg h0] at hq; cases hq; omega
  · by_cases h0 : P.length = 0
    · rw [h0]
    · rw [if_neg h0] at hd; cases hd
  · rw [c60, b3]
    by_cases h0 : P.length = 0
    · rw [if_pos h0, if_pos rfl]; exact ⟨0, rfl, by omega⟩
    · rw [if_neg h0]
      by_cases h1 : nI dk = -1
      · rw [if_pos h1]; exact ⟨0, rfl, by omega⟩
      · rw [if_neg h1]; exact ⟨1, rfl, by omega⟩
theorem okR_0 : okB R00 := by
  obtain ⟨q, h⟩ := okR_dk (P := []) (dk := 0) (ld := 0) ⟨by decide, fun q hq => (by cases hq), Or.inl rfl, by decide⟩
  have e : crnR (dkR []) (if ([] : List P3).length = 0 then -1 else nI 0) = R00 := by
    funext i
    show crnR R00 (-1) i = R00 i
    unfold crnR rz_u R00
    by_cases h0 : i = 60
    · subst h0; rfl
    · rw [if_neg h0]
      by_cases h1 : i = 59
      · subst h1; rfl
      · rw [if_neg h1]
        by_cases h2 : i = 58
        · rw [if_pos h2, if_pos h2]
        · rw [if_neg h2, if_neg h2]
  rw [e] at h
  exact ⟨_, _, _, h⟩
