/-! THE READER WITHOUT FUEL: what it answers with fuel enough, as equations (rz_f: a method, rz_g: from a frame on) -/
theorem rz_alt0 {Z : rx_Z} {ret : Option FieldType} {q : rx_Q} {L : rx_L} {S : List Value} {σ : rx_S} {P : Prop} (h : ∀ c : rx_C, rx_one Z c ret q L S σ = rx_one Z (fun _ _ _ => none) ret q L S σ) : (∃ y, ∀ c : rx_C, rx_one Z c ret q L S σ = y) ∨ P := Or.inl ⟨_, h⟩
theorem rz_alt (Z : rx_Z) (ret : Option FieldType) (q : rx_Q) (L : rx_L) (S : List Value) (σ : rx_S) : (∃ y, ∀ c : rx_C, rx_one Z c ret q L S σ = y) ∨ ∃ (th : Bool) (pc : Nat) (rest : List Value) (mi : Nat) (vs : List Value), ∀ c : rx_C, rx_one Z c ret q L S σ = rx_fin th pc L rest (c mi vs σ) := by
  obtain ⟨pc, i, len, a1, a2, a3⟩ := q
  cases i
  case invokevirtual j =>
    show (∃ y, ∀ c : rx_C, (if len = 3 then rx_cV c a3 a2 a1 pc L S σ else none) = y) ∨ ∃ (th : Bool) (pc9 : Nat) (rest : List Value) (mi : Nat) (vs : List Value), ∀ c : rx_C, (if len = 3 then rx_cV c a3 a2 a1 pc L S σ else none) = rx_fin th pc9 L rest (c mi vs σ)
    split
    · unfold rx_cV
      repeat' split
      all_goals first | exact Or.inr ⟨_, _, _, _, _, fun _ => rfl⟩ | exact Or.inl ⟨_, fun _ => rfl⟩
    · exact Or.inl ⟨_, fun _ => rfl⟩
  case invokestatic j =>
    show (∃ y, ∀ c : rx_C, (if len = 3 then (if a1 = 1 then rx_cS true c a3 a2 pc L S σ else if a1 = 3 then rx_cS false c a3 a2 pc L S σ else rx_lf len 3 (rx_spA Z (pc, .invokestatic j, len, a1, a2, a3) L S σ)) else none) = y) ∨ ∃ (th : Bool) (pc9 : Nat) (rest : List Value) (mi : Nat) (vs : List Value), ∀ c : rx_C, (if len = 3 then (if a1 = 1 then rx_cS true c a3 a2 pc L S σ else if a1 = 3 then rx_cS false c a3 a2 pc L S σ else rx_lf len 3 (rx_spA Z (pc, .invokestatic j, len, a1, a2, a3) L S σ)) else none) = rx_fin th pc9 L rest (c mi vs σ)
    split
    · split
      · unfold rx_cS
        split
        · exact Or.inr ⟨_, _, _, _, _, fun _ => rfl⟩
        · exact Or.inl ⟨_, fun _ => rfl⟩
      · split
        · unfold rx_cS
          split
          · exact Or.inr ⟨_, _, _, _, _, fun _ => rfl⟩
          · exact Or.inl ⟨_, fun _ => rfl⟩
        · exact Or.inl ⟨_, fun _ => rfl⟩
    · exact Or.inl ⟨_, fun _ => rfl⟩
  case invokespecial j =>
    show (∃ y, ∀ c : rx_C, (if len = 3 then (if a1 = 2 ∨ a1 = 4 then rx_cI c a3 a2 pc L S σ else rx_lf len 3 (rx_spA Z (pc, .invokespecial j, len, a1, a2, a3) L S σ)) else none) = y) ∨ ∃ (th : Bool) (pc9 : Nat) (rest : List Value) (mi : Nat) (vs : List Value), ∀ c : rx_C, (if len = 3 then (if a1 = 2 ∨ a1 = 4 then rx_cI c a3 a2 pc L S σ else rx_lf len 3 (rx_spA Z (pc, .invokespecial j, len, a1, a2, a3) L S σ)) else none) = rx_fin th pc9 L rest (c mi vs σ)
    split
    · split
      · unfold rx_cI
        repeat' split
        all_goals first | exact Or.inr ⟨_, _, _, _, _, fun _ => rfl⟩ | exact Or.inl ⟨_, fun _ => rfl⟩
      · exact Or.inl ⟨_, fun _ => rfl⟩
    · exact Or.inl ⟨_, fun _ => rfl⟩
  all_goals exact rz_alt0 (fun _ => rfl)
def rz_le (c c' : rx_C) : Prop := ∀ mi vs σ r, c mi vs σ = some r → c' mi vs σ = some r
theorem rz_fin_le {th : Bool} {pc : Nat} {L : rx_L} {rest : List Value} {x x' : Option rx_R} {y : rx_F ⊕ rx_R} (h : ∀ r, x = some r → x' = some r) (hy : rx_fin th pc L rest x = some y) : rx_fin th pc L rest x' = some y := by
  cases x with
  | none => cases hy
  | some r => rw [h r rfl]; exact hy
theorem rz_one_le {Z : rx_Z} {c c' : rx_C} (h : rz_le c c') {ret : Option FieldType} {q : rx_Q} {L : rx_L} {S : List Value} {σ : rx_S} {y : rx_F ⊕ rx_R} (hy : rx_one Z c ret q L S σ = some y) : rx_one Z c' ret q L S σ = some y := by
  rcases rz_alt Z ret q L S σ with ⟨z, hz⟩ | ⟨th, pc, rest, mi, vs, hz⟩
  · rw [hz c'] ; rw [hz c] at hy; exact hy
  · rw [hz c']; rw [hz c] at hy; exact rz_fin_le (h mi vs σ) hy
theorem rz_steps_le {Z : rx_Z} {c c' : rx_C} (h : rz_le c c') {row : rx_M} : ∀ (n n' : Nat) (x : rx_F) (r : rx_R), n ≤ n' → rx_steps Z c row n x = some r → rx_steps Z c' row n' x = some r
  | 0, _, _, _, _, hy => by cases hy
  | n + 1, 0, _, _, hn, _ => by omega
  | n + 1, n' + 1, x, r, hn, hy => by
    unfold rx_steps at hy ⊢
    split at hy
    · cases hy
    · rename_i q hq
      split at hy
      · cases hy
      · rename_i y h1
        rw [rz_one_le h h1]
        exact rz_steps_le h n n' y r (by omega) hy
      · rename_i r1 h1
        rw [rz_one_le h h1]
        exact hy
theorem rz_ev_le (Z : rx_Z) {N N' : Nat} (hN : N ≤ N') : ∀ d : Nat, rz_le (rx_ev rx_ML Z N d) (rx_ev rx_ML Z N' d)
  | 0 => fun _ _ _ _ h => by cases h
  | d + 1 => fun mi vs σ r h => by
    unfold rx_ev at h ⊢
    split at h
    · cases h
    · rename_i row hrow
      split at h
      · rename_i hl
        rw [if_pos hl]
        exact rz_steps_le (rz_ev_le Z hN d) N N' _ r hN h
      · cases h
noncomputable def rz_lim {α : Type} (s : Nat → Option α) : Option α := by
  classical
  exact if h : ∃ r N, s N = some r then some (Classical.choose h) else none
theorem rz_lim_iff {α : Type} {s : Nat → Option α} (hm : ∀ N M r, N ≤ M → s N = some r → s M = some r) (r : α) : rz_lim s = some r ↔ ∃ N, s N = some r := by
  unfold rz_lim
  by_cases h : ∃ r N, s N = some r
  · rw [dif_pos h]
    obtain ⟨N, hN⟩ := Classical.choose_spec h
    constructor
    · intro e
      rw [← Option.some.inj e]
      exact ⟨N, hN⟩
    · rintro ⟨M, hM⟩
      have h1 := hm N (max N M) _ (Nat.le_max_left _ _) hN
      have h2 := hm M (max N M) _ (Nat.le_max_right _ _) hM
      exact h1.symm.trans h2
  · rw [dif_neg h]
    constructor
    · intro e
      cases e
    · rintro ⟨M, hM⟩
      exact absurd ⟨r, M, hM⟩ h
noncomputable def rz_f (Z : rx_Z) (d : Nat) : rx_C := fun mi vs σ => rz_lim (fun N => rx_ev rx_ML Z N d mi vs σ)
noncomputable def rz_g (Z : rx_Z) (d : Nat) (row : rx_M) (x : rx_F) : Option rx_R := rz_lim (fun N => rx_steps Z (rx_ev rx_ML Z N d) row N x)
theorem rz_f_iff {Z : rx_Z} {d mi : Nat} {vs : List Value} {σ : rx_S} {r : rx_R} : rz_f Z d mi vs σ = some r ↔ ∃ N, rx_ev rx_ML Z N d mi vs σ = some r := rz_lim_iff (fun _ _ r h e => rz_ev_le Z h d mi vs σ r e) r
theorem rz_g_iff {Z : rx_Z} {d : Nat} {row : rx_M} {x : rx_F} {r : rx_R} : rz_g Z d row x = some r ↔ ∃ N, rx_steps Z (rx_ev rx_ML Z N d) row N x = some r := rz_lim_iff (fun N M r h e => rz_steps_le (rz_ev_le Z h d) N M x r h e) r
theorem rz_ev_f {Z : rx_Z} {d N : Nat} : rz_le (rx_ev rx_ML Z N d) (rz_f Z d) := fun _ _ _ _ h => rz_f_iff.mpr ⟨N, h⟩
theorem rz_one_fin {Z : rx_Z} {d : Nat} {ret : Option FieldType} {q : rx_Q} {L : rx_L} {S : List Value} {σ : rx_S} {y : rx_F ⊕ rx_R} (hy : rx_one Z (rz_f Z d) ret q L S σ = some y) : ∃ N, rx_one Z (rx_ev rx_ML Z N d) ret q L S σ = some y := by
  rcases rz_alt Z ret q L S σ with ⟨z, hz⟩ | ⟨th, pc, rest, mi, vs, hz⟩
  · exact ⟨0, by rw [hz]; rw [hz] at hy; exact hy⟩
  · rw [hz] at hy
    cases e : rz_f Z d mi vs σ with
    | none => rw [e] at hy; cases hy
    | some r =>
      obtain ⟨N, hN⟩ := rz_f_iff.mp e
      exact ⟨N, by rw [hz, hN, ← e]; exact hy⟩
/-- one step, as an equation -/
theorem rz_g_eq (Z : rx_Z) (d : Nat) (row : rx_M) (x : rx_F) : rz_g Z d row x = match rx_fetch row.2.2.2.2.2 x.1 with
    | none => none
    | some q => match rx_one Z (rz_f Z d) row.2.2.2.1 q x.2.1 x.2.2.1 x.2.2.2 with
      | none => none
      | some (.inl y) => rz_g Z d row y
      | some (.inr r) => some r := by
  apply Option.ext
  intro r
  constructor
  · intro h
    obtain ⟨N, hN⟩ := rz_g_iff.mp h
    cases N with
    | zero => cases hN
    | succ n =>
      unfold rx_steps at hN
      split at hN
      · cases hN
      · rename_i q hq
        rw [hq]
        dsimp only
        split at hN
        · cases hN
        · rename_i y h1
          rw [rz_one_le rz_ev_f h1]
          exact rz_g_iff.mpr ⟨n + 1, rz_steps_le (fun _ _ _ _ h => h) n (n + 1) y r (Nat.le_succ n) hN⟩
        · rename_i r1 h1
          rw [rz_one_le rz_ev_f h1]
          exact hN
  · intro h
    split at h
    · cases h
    · rename_i q hq
      split at h
      · cases h
      · rename_i y h1
        obtain ⟨N1, e1⟩ := rz_one_fin h1
        obtain ⟨N2, e2⟩ := rz_g_iff.mp h
        refine rz_g_iff.mpr ⟨max N1 N2 + 1, ?_⟩
        unfold rx_steps
        rw [hq]
        dsimp only
        rw [rz_one_le (rz_ev_le Z (show N1 ≤ max N1 N2 + 1 by omega) d) e1]
        exact rz_steps_le (rz_ev_le Z (show N2 ≤ max N1 N2 + 1 by omega) d) N2 _ y r (by omega) e2
      · rename_i r1 h1
        obtain ⟨N1, e1⟩ := rz_one_fin h1
        refine rz_g_iff.mpr ⟨N1 + 1, ?_⟩
        unfold rx_steps
        rw [hq]
        dsimp only
        rw [rz_one_le (rz_ev_le Z (show N1 ≤ N1 + 1 by omega) d) e1]
        exact h
/-- from a place in a method on -/
noncomputable def rg (Z : rx_Z) (d : Nat) (row : rx_M) (pc : Nat) (L : rx_L) (S : List Value) (σ : rx_S) : Option rx_R := rz_g Z d row (pc, L, S, σ)
theorem rz_f_eq {Z : rx_Z} {d mi : Nat} {vs : List Value} {σ : rx_S} {row : rx_M} (hrow : rx_ML[mi]? = some row) (hl : (rx_in0 vs).length ≤ row.2.2.1) : rz_f Z (d + 1) mi vs σ = rg Z d row 0 (rx_in vs row.2.2.1) [] σ := by
  apply Option.ext
  intro r
  unfold rg
  rw [rz_f_iff, rz_g_iff]
  constructor
  · rintro ⟨N, h⟩
    unfold rx_ev at h
    rw [hrow] at h
    dsimp only at h
    rw [if_pos hl] at h
    exact ⟨N, h⟩
  · rintro ⟨N, h⟩
    refine ⟨N, ?_⟩
    unfold rx_ev
    rw [hrow]
    dsimp only
    rw [if_pos hl]
    exact h
def rx_at1 (Z : rx_Z) (c : rx_C) (row : rx_M) (pc : Nat) (L : rx_L) (S : List Value) (σ : rx_S) : Option (rx_F ⊕ rx_R) := match rx_fetch row.2.2.2.2.2 pc with
  | none => none
  | some q => rx_one Z c row.2.2.2.1 q L S σ
theorem rg_eq (Z : rx_Z) (d : Nat) (row : rx_M) (pc : Nat) (L : rx_L) (S : List Value) (σ : rx_S) : rg Z d row pc L S σ = match rx_at1 Z (rz_f Z d) row pc L S σ with
    | none => none
    | some (.inl y) => rg Z d row y.1 y.2.1 y.2.2.1 y.2.2.2
    | some (.inr r) => some r := by
  unfold rg rx_at1
  rw [rz_g_eq]
  dsimp only
  cases rx_fetch row.2.2.2.2.2 pc <;> rfl
theorem rz_s1 {Z : rx_Z} {d : Nat} {row : rx_M} {pc : Nat} {L : rx_L} {S : List Value} {σ : rx_S} {pc' : Nat} {L' : rx_L} {S' : List Value} {σ' : rx_S} (h : ∀ c, rx_at1 Z c row pc L S σ = some (.inl (pc', L', S', σ'))) : rg Z d row pc L S σ = rg Z d row pc' L' S' σ' := by
  rw [rg_eq, h]
theorem rz_r1 {Z : rx_Z} {d : Nat} {row : rx_M} {pc : Nat} {L : rx_L} {S : List Value} {σ : rx_S} {r : rx_R} (h : ∀ c, rx_at1 Z c row pc L S σ = some (.inr r)) : rg Z d row pc L S σ = some r := by
  rw [rg_eq, h]
theorem rz_b1 {Z : rx_Z} {d : Nat} {row : rx_M} {pc : Nat} {L : rx_L} {S : List Value} {σ : rx_S} {p : Prop} [Decidable p] {pc1 pc2 : Nat} {S' : List Value} (h : ∀ c, rx_at1 Z c row pc L S σ = some (.inl (if decide p then pc1 else pc2, L, S', σ))) : rg Z d row pc L S σ = if p then rg Z d row pc1 L S' σ else rg Z d row pc2 L S' σ := by
  rw [rg_eq, h]
  by_cases hp : p
  · simp [hp]
  · simp [hp]
/-- what comes behind a call -/
def rz_k (th : Bool) (x : Option rx_R) (f : Option Value → rx_S → Option rx_R) : Option rx_R := match x with
  | some (.inl v, σ) => f v σ
  | some (.inr E, σ) => if th then some (.inr E, σ) else none
  | none => none
theorem rz_c1 {Z : rx_Z} {d : Nat} {row : rx_M} {pc : Nat} {L : rx_L} {S : List Value} {σ : rx_S} {th : Bool} {rest : List Value} {mi : Nat} {vs : List Value} (h : ∀ c, rx_at1 Z c row pc L S σ = rx_fin th pc L rest (c mi vs σ)) : rg Z d row pc L S σ = rz_k th (rz_f Z d mi vs σ) (fun v σ' => rg Z d row (pc + 3) L (v.toList ++ rest) σ') := by
  rw [rg_eq, h]
  cases rz_f Z d mi vs σ with
  | none => rfl
  | some r =>
    obtain ⟨v, σ'⟩ := r
    cases v with
    | inl v => rfl
    | inr E => cases th <;> rfl
