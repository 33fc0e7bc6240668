/-! the reader makes no cell undone -/
theorem rx_getf_s {ci k pc : Nat} {L : rx_L} {S : List Value} {σ : rx_S} {x : rx_F} (h : rx_getf ci k pc L S σ = some x) : x.2.1 = L ∧ x.2.2.2.2 = σ.2 := by
  unfold rx_getf at h; repeat' (split at h)
  all_goals first | (cases h; done) | (cases h; exact ⟨rfl, rfl⟩)
theorem rx_putf_s {Z : rx_Z} {ci k kd pc : Nat} {L : rx_L} {S : List Value} {σ : rx_S} {x : rx_F} (h : rx_putf Z ci k kd pc L S σ = some x) : x.2.1 = L ∧ x.2.2.2.2 = σ.2 := by
  unfold rx_putf at h; repeat' (split at h)
  all_goals first | (cases h; done) | (cases h; exact ⟨rfl, rfl⟩)
theorem rx_aget_s {t pc : Nat} {L : rx_L} {S : List Value} {σ : rx_S} {x : rx_F} (h : rx_aget t pc L S σ = some x) : x.2.1 = L ∧ x.2.2.2.2 = σ.2 := by
  unfold rx_aget at h; repeat' (split at h)
  all_goals first | (cases h; done) | (cases h; exact ⟨rfl, rfl⟩)
theorem rx_aset_s {Z : rx_Z} {t pc : Nat} {L : rx_L} {S : List Value} {σ : rx_S} {x : rx_F} (h : rx_aset Z t pc L S σ = some x) : x.2.1 = L ∧ x.2.2.2.2 = σ.2 := by
  unfold rx_aset at h; repeat' (split at h)
  all_goals first | (cases h; done) | (cases h; exact ⟨rfl, rfl⟩)
theorem rx_asetq_s {Z : rx_Z} {t pc : Nat} {L : rx_L} {S : List Value} {σ : rx_S} {x : rx_F} (h : rx_asetq Z t pc L S σ = some x) : x.2.1 = L ∧ x.2.2.2.2 = σ.2 := by
  unfold rx_asetq at h; repeat' (split at h)
  all_goals first | (cases h; done) | (cases h; exact ⟨rfl, rfl⟩)
theorem rx_alen_s {pc : Nat} {L : rx_L} {S : List Value} {σ : rx_S} {x : rx_F} (h : rx_alen pc L S σ = some x) : x.2.1 = L ∧ x.2.2.2.2 = σ.2 := by
  unfold rx_alen at h; repeat' (split at h)
  all_goals first | (cases h; done) | (cases h; exact ⟨rfl, rfl⟩)
theorem rx_spA_s {Z : rx_Z} {q : rx_Q} {L : rx_L} {S : List Value} {σ : rx_S} {x : rx_F} (h : rx_spA Z q L S σ = some x) : x.2.1 = L ∧ x.2.2.2.2 = σ.2 := by
  unfold rx_spA at h; repeat' (split at h)
  all_goals first | (cases h; done) | (cases h; exact ⟨rfl, rfl⟩)
theorem rx_newa_s {t pc : Nat} {L : rx_L} {S : List Value} {σ : rx_S} {x : rx_F} (h : rx_newa t pc L S σ = some x) : x.2.1 = L ∧ ∃ N, x.2.2.2.2 = (σ.2.1 + 1, σ.2.2 + N) := by
  unfold rx_newa at h; repeat' (split at h)
  all_goals first | (cases h; done) | (cases h; exact ⟨rfl, _, rfl⟩)
theorem rx_mna_s {pc : Nat} {L : rx_L} {S : List Value} {σ : rx_S} {x : rx_F} (h : rx_mna pc L S σ = some x) : x.2.1 = L ∧ ∃ C N, x.2.2.2.2 = (σ.2.1 + C, σ.2.2 + N) := by
  unfold rx_mna at h; repeat' (split at h)
  all_goals first | (cases h; done) | (rename_i k n r hq; cases h; exact ⟨rfl, 1 + n.toNatClampNeg, n.toNatClampNeg + n.toNatClampNeg * k.toNatClampNeg, by show (_, _) = (_, _); rw [← Nat.add_assoc, ← Nat.add_assoc]⟩)
def rx_le (a b : rx_S) : Prop := a.2.1 ≤ b.2.1 ∧ a.2.2 ≤ b.2.2
theorem rx_le.of {a b : rx_S} (h : b.2 = a.2) : rx_le a b := by unfold rx_le; rw [h]; exact ⟨Nat.le_refl _, Nat.le_refl _⟩
theorem rx_le.of2 {a b : rx_S} {C N : Nat} (h : b.2 = (a.2.1 + C, a.2.2 + N)) : rx_le a b := by unfold rx_le; rw [h]; exact ⟨Nat.le_add_right _ _, Nat.le_add_right _ _⟩
def rx_yS (y : rx_F ⊕ rx_R) : rx_S := match y with
  | .inl x => x.2.2.2
  | .inr r => r.2
theorem rx_lf_some {len k : Nat} {x : Option rx_F} {y : rx_F ⊕ rx_R} (h : rx_lf len k x = some y) : len = k ∧ ∃ z, x = some z ∧ y = .inl z := by
  unfold rx_lf at h
  split at h
  · rename_i e
    obtain ⟨z, h1, h2⟩ := Option.map_eq_some_iff.mp h
    exact ⟨e, z, h1, h2.symm⟩
  · cases h
theorem rx_fin_some {th : Bool} {pc : Nat} {L : rx_L} {rest : List Value} {x : Option rx_R} {y : rx_F ⊕ rx_R} (h : rx_fin th pc L rest x = some y) : ∃ r, x = some r ∧ ((∃ v, r.1 = .inl v ∧ y = .inl (pc + 3, L, v.toList ++ rest, r.2)) ∨ (∃ E, r.1 = .inr E ∧ th = true ∧ y = .inr r)) := by
  unfold rx_fin at h
  split at h
  · rename_i v σ'
    exact ⟨_, rfl, Or.inl ⟨v, rfl, (Option.some.inj h).symm⟩⟩
  · rename_i E σ'
    split at h
    · rename_i ht
      exact ⟨_, rfl, Or.inr ⟨E, rfl, ht, (Option.some.inj h).symm⟩⟩
    · cases h
  · cases h
theorem rx_fin_mono {th : Bool} {pc : Nat} {L : rx_L} {rest : List Value} {call : rx_C} {mi : Nat} {vs : List Value} {σ : rx_S} (hc : ∀ mi vs σ r, call mi vs σ = some r → rx_le σ r.2) {y : rx_F ⊕ rx_R} (h : rx_fin th pc L rest (call mi vs σ) = some y) : rx_le σ (rx_yS y) := by
  obtain ⟨r, h1, ⟨v, -, rfl⟩ | ⟨E, -, -, rfl⟩⟩ := rx_fin_some h
  · exact hc _ _ _ _ h1
  · exact hc _ _ _ _ h1
theorem rx_le.refl (a : rx_S) : rx_le a a := ⟨Nat.le_refl _, Nat.le_refl _⟩
theorem rx_re_s {ret : Option FieldType} {i : Instr} {S : List Value} {σ : rx_S} {r : rx_R} (h : rx_re ret i S σ = some r) : r.2 = σ := by
  unfold rx_re at h; repeat' (split at h)
  all_goals first | (cases h; done) | (cases h; rfl)
set_option maxHeartbeats 4000000 in
theorem rx_one_mono {Z : rx_Z} {call : rx_C} (hc : ∀ mi vs σ r, call mi vs σ = some r → rx_le σ r.2) {ret : Option FieldType} {q : rx_Q} {L : rx_L} {S : List Value} {σ : rx_S} {y : rx_F ⊕ rx_R} (h : rx_one Z call ret q L S σ = some y) : rx_le σ (rx_yS y) := by
  obtain ⟨pc, i, len, a1, a2, a3⟩ := q
  have pu : ∀ j, (rx_pure j len pc L S).map (fun r => (Sum.inl (r.1, r.2.1, r.2.2, σ) : rx_F ⊕ rx_R)) = some y → rx_le σ (rx_yS y) := fun j hj => by
    obtain ⟨z, -, rfl⟩ := Option.map_eq_some_iff.mp hj
    exact rx_le.refl σ
  cases i
  case getfield j =>
    have h : (if a1 < 50 then rx_lf len 3 (rx_getf a1 a2 (pc + 3) L S σ) else rx_lf len 3 (rx_spA Z (pc, .getfield j, len, a1, a2, a3) L S σ)) = some y := h
    split at h
    · obtain ⟨-, z, hz, rfl⟩ := rx_lf_some h; exact rx_le.of (rx_getf_s hz).2
    · obtain ⟨-, z, hz, rfl⟩ := rx_lf_some h; exact rx_le.of (rx_spA_s hz).2
  case baload => obtain ⟨-, z, hz, rfl⟩ := rx_lf_some h; exact rx_le.of (rx_aget_s hz).2
  case putfield => obtain ⟨-, z, hz, rfl⟩ := rx_lf_some h; exact rx_le.of (rx_putf_s hz).2
  case iaload => obtain ⟨-, z, hz, rfl⟩ := rx_lf_some h; exact rx_le.of (rx_aget_s hz).2
  case laload => obtain ⟨-, z, hz, rfl⟩ := rx_lf_some h; exact rx_le.of (rx_aget_s hz).2
  case aaload =>
    have h : (if a1 = 2 then rx_lf len 1 (rx_aget 2 (pc + 1) L S σ) else rx_lf len 1 (rx_aget 3 (pc + 1) L S σ)) = some y := h
    split at h
    · obtain ⟨-, z, hz, rfl⟩ := rx_lf_some h; exact rx_le.of (rx_aget_s hz).2
    · obtain ⟨-, z, hz, rfl⟩ := rx_lf_some h; exact rx_le.of (rx_aget_s hz).2
  case iastore => obtain ⟨-, z, hz, rfl⟩ := rx_lf_some h; exact rx_le.of (rx_aset_s hz).2
  case lastore => obtain ⟨-, z, hz, rfl⟩ := rx_lf_some h; exact rx_le.of (rx_aset_s hz).2
  case aastore => obtain ⟨-, z, hz, rfl⟩ := rx_lf_some h; exact rx_le.of (rx_asetq_s hz).2
  case arraylength => obtain ⟨-, z, hz, rfl⟩ := rx_lf_some h; exact rx_le.of (rx_alen_s hz).2
  case new =>
    have h : (if a3 = 0 then rx_lf len 3 (rx_new a1 a2 (rx_df a1) (pc + 3) L S σ) else if a3 = 1 ∧ S = [] ∧ len = 3 then some (.inr (.inr (rx_xn a1), σ)) else none) = some y := h
    split at h
    · obtain ⟨-, z, hz, rfl⟩ := rx_lf_some h; cases hz; exact rx_le.of2 (C := 1) rfl
    · split at h
      · cases h; exact rx_le.refl σ
      · cases h
  case newarray t =>
    cases t
    case int => obtain ⟨-, z, hz, rfl⟩ := rx_lf_some h; obtain ⟨-, N, hN⟩ := rx_newa_s hz; exact rx_le.of2 hN
    case long => obtain ⟨-, z, hz, rfl⟩ := rx_lf_some h; obtain ⟨-, N, hN⟩ := rx_newa_s hz; exact rx_le.of2 hN
    all_goals cases h
  case anewarray => obtain ⟨-, z, hz, rfl⟩ := rx_lf_some h; obtain ⟨-, N, hN⟩ := rx_newa_s hz; exact rx_le.of2 hN
  case multianewarray j k =>
    have h : (if k = 2 then rx_lf len 4 (rx_mna (pc + 4) L S σ) else none) = some y := h
    split at h
    · obtain ⟨-, z, hz, rfl⟩ := rx_lf_some h; obtain ⟨-, C, N, hN⟩ := rx_mna_s hz; exact rx_le.of2 hN
    · cases h
  case ldc =>
    have h : (if a1 = 0 then rx_lf len 2 (some (pc + 2, L, .int (Int32.ofNat a2) :: S, σ)) else rx_lf len 2 (rx_spA Z (pc, .ldc _, len, a1, a2, a3) L S σ)) = some y := h
    split at h
    · obtain ⟨-, z, hz, rfl⟩ := rx_lf_some h; cases hz; exact rx_le.refl σ
    · obtain ⟨-, z, hz, rfl⟩ := rx_lf_some h; exact rx_le.of (rx_spA_s hz).2
  case ldc_w => obtain ⟨-, z, hz, rfl⟩ := rx_lf_some h; cases hz; exact rx_le.refl σ
  case getstatic => obtain ⟨-, z, hz, rfl⟩ := rx_lf_some h; exact rx_le.of (rx_spA_s hz).2
  case invokevirtual j =>
    have h : (if len = 3 then rx_cV call a3 a2 a1 pc L S σ else none) = some y := h
    split at h
    · unfold rx_cV at h
      repeat' (split at h)
      all_goals first | (cases h; done) | exact rx_fin_mono hc h
    · cases h
  case invokestatic j =>
    have h : (if len = 3 then (if a1 = 1 then rx_cS true call a3 a2 pc L S σ else if a1 = 3 then rx_cS false call a3 a2 pc L S σ else rx_lf len 3 (rx_spA Z (pc, .invokestatic j, len, a1, a2, a3) L S σ)) else none) = some y := h
    split at h
    · split at h
      · unfold rx_cS at h
        split at h
        · exact rx_fin_mono hc h
        · cases h
      · split at h
        · unfold rx_cS at h
          split at h
          · exact rx_fin_mono hc h
          · cases h
        · obtain ⟨-, z, hz, rfl⟩ := rx_lf_some h; exact rx_le.of (rx_spA_s hz).2
    · cases h
  case invokespecial j =>
    have h : (if len = 3 then (if a1 = 2 ∨ a1 = 4 then rx_cI call a3 a2 pc L S σ else rx_lf len 3 (rx_spA Z (pc, .invokespecial j, len, a1, a2, a3) L S σ)) else none) = some y := h
    split at h
    · split at h
      · unfold rx_cI at h
        repeat' (split at h)
        all_goals first | (cases h; done) | exact rx_fin_mono hc h
      · obtain ⟨-, z, hz, rfl⟩ := rx_lf_some h; exact rx_le.of (rx_spA_s hz).2
    · cases h
  case ireturn =>
    have h : (if len = 1 then (rx_re ret .ireturn S σ).map .inr else none) = some y := h
    split at h
    · obtain ⟨z, hz, rfl⟩ := Option.map_eq_some_iff.mp h; exact rx_le.of (by show z.2.2 = _; rw [rx_re_s hz])
    · cases h
  case lreturn =>
    have h : (if len = 1 then (rx_re ret .lreturn S σ).map .inr else none) = some y := h
    split at h
    · obtain ⟨z, hz, rfl⟩ := Option.map_eq_some_iff.mp h; exact rx_le.of (by show z.2.2 = _; rw [rx_re_s hz])
    · cases h
  case areturn =>
    have h : (if len = 1 then (rx_re ret .areturn S σ).map .inr else none) = some y := h
    split at h
    · obtain ⟨z, hz, rfl⟩ := Option.map_eq_some_iff.mp h; exact rx_le.of (by show z.2.2 = _; rw [rx_re_s hz])
    · cases h
  case return_ =>
    have h : (if len = 1 then (rx_re ret .return_ S σ).map .inr else none) = some y := h
    split at h
    · obtain ⟨z, hz, rfl⟩ := Option.map_eq_some_iff.mp h; exact rx_le.of (by show z.2.2 = _; rw [rx_re_s hz])
    · cases h
  all_goals first | exact pu _ h | exact absurd h (fun q => by cases q)
theorem rx_steps_mono {Z : rx_Z} {call : rx_C} (hc : ∀ mi vs σ r, call mi vs σ = some r → rx_le σ r.2) {row : rx_M} : ∀ (n : Nat) (x : rx_F) (r : rx_R), rx_steps Z call row n x = some r → rx_le x.2.2.2 r.2
  | 0, x, r, h => by cases h
  | n + 1, x, r, h => by
    unfold rx_steps at h
    split at h
    · cases h
    · split at h
      · cases h
      · rename_i y hy
        have h1 := rx_one_mono hc hy
        have h2 := rx_steps_mono hc n y r h
        exact ⟨Nat.le_trans h1.1 h2.1, Nat.le_trans h1.2 h2.2⟩
      · rename_i r' hy
        cases h
        exact rx_one_mono hc hy
