/-! what the first state holds: the usual law's row, the constant texts -/
theorem fs_noref {s : State} (hh : heapFits s = true) {ty : FieldType} (hty : ty = .byte ∨ ty = .int) {t i v : Nat} {cell : Cell} (h1 : s.heap[t]? = some cell) (h2 : s.isArrayOf cell ty) (h3 : cell.slots[i]? = some (.ref v)) : False := by
  unfold heapFits at hh
  rw [Array.all_eq_true] at hh
  obtain ⟨hlt, he⟩ := Array.getElem?_eq_some_iff.mp h1
  have h4 := hh t hlt
  rw [he] at h4
  unfold cellFits at h4
  rw [List.all_eq_true] at h4
  obtain ⟨hi, -⟩ := Array.getElem?_eq_some_iff.mp h3
  have h5 := h4 i (List.mem_range.mpr hi)
  rw [h3] at h5
  dsimp only at h5
  obtain ⟨hv, k, hk, comp, hkind⟩ := h2
  unfold State.fitsSlot at h5
  have hst : s.slotType? cell.cls cell.vm i = some ty := by
    cases hq : cell.vm <;> first | (exact absurd hq (hv _)) | simp [State.slotType?, hk, hkind]
  rw [hst] at h5
  rcases hty with rfl | rfl
  · cases h5
  · cases h5
def tmS (k : Nat) : Term := .string (rx_SL.getD k ("", 0, "", 0)).1 (rx_SL.getD k ("", 0, "", 0)).2.1
def tmV (k : Nat) : Term := .field (tmS k) "java/lang/String" "value" "[B"
abbrev tmU : Term := .static "FarthestHeir$Law" "USUAL" "[I"
def fsN : List Cond := flatC (Jvm.Cond.and given_1 narrow_1)
theorem fs_1 : ∀ k, k < 20 → Cond.exactly (tmS k) "java/lang/String" ∈ fsN := by decide +kernel
theorem fs_2 : ∀ k, k < 20 → Cond.eq (.field (tmS k) "java/lang/String" "coder" "B") (.int 0) ∈ fsN := by decide +kernel
theorem fs_3 : ∀ k, k < 20 → Cond.arrayOf (tmV k) .byte ∈ fsN := by decide +kernel
theorem fs_4 : ∀ k, k < 20 → Cond.eq (.length (tmV k)) (.int (Int32.ofNat (WD k).length)) ∈ fsN := by decide +kernel
theorem fs_5 : ∀ k, k < 20 → ∀ j, j < (WD k).length → Cond.eq (.elem (tmV k) (.int (Int32.ofNat j))) (.int (((WD k).map nI).getD j 0)) ∈ fsN := by decide +kernel
theorem fs_6 : Cond.arrayOf tmU .int ∈ fsN ∧ Cond.eq (.length tmU) (.int 7) ∈ fsN ∧ ∀ j, j < 7 → Cond.eq (.elem tmU (.int (Int32.ofNat j))) (.int (lwE (usL.getD j (0, 0)))) ∈ fsN := by decide +kernel
theorem fs_7 : Cond.isRef (.static "java/lang/Throwable" "UNASSIGNED_STACK" "[Ljava/lang/StackTraceElement;") ∈ fsN ∧ Cond.isRef (.static "java/lang/Throwable" "SUPPRESSED_SENTINEL" "Ljava/util/List;") ∈ fsN ∧ Cond.eq (.static "java/lang/String" "COMPACT_STRINGS" "Z") (.int 1) ∈ fsN ∧ Cond.isRef (.static "jdk/internal/util/Preconditions" "SIOOBE_FORMATTER" "Ljava/util/function/BiFunction;") ∈ fsN ∧ Cond.not (Cond.castable "java/lang/IllegalArgumentException" "java/util/NoSuchElementException") ∈ fsN := by decide +kernel
theorem fs_b1 : ∀ k, k < 20 → (WD k).length < 2 ^ 31 := by decide
theorem fs_b2 : ∀ j, j < 20 → ∀ k, k < 20 → Int32.ofNat (WD j).length = Int32.ofNat (WD k).length → (∀ i, i < (WD j).length → ((WD j).map nI).getD i 0 = ((WD k).map nI).getD i 0) → WD j = WD k := by decide +kernel
theorem fs_b3 : ∀ k, k < 20 → ∀ i, i < (WD k).length → ((WD k).map nI).getD i 0 = nI ((WD k).getD i 0) := by decide +kernel
theorem fs_b4 : ∀ k, k < 20 → (WD k).length < 100 ∧ ∀ x ∈ WD k, x < 128 := by decide
theorem fs_b5 : ∀ k, k < 20 → (rx_SL.getD k ("", 0, "", 0)).2.2.2 = k := by decide +kernel
theorem fs_b6 : ∀ k, k < 20 → Cond.stringRef (rx_SL.getD k ("", 0, "", 0)).1 (rx_SL.getD k ("", 0, "", 0)).2.1 (rx_SL.getD k ("", 0, "", 0)).2.2.1 ∈ lw_tbl := by decide +kernel
theorem fs_b7 : ∀ q ∈ rx_NL, Cond.methodLinkNest q.1 q.2.1 q.2.2.1 q.2.2.2 ∈ lw_tbl := by decide +kernel
theorem fs_b8 : Cond.arrayOver (.object "FarthestHeir$Moment") ∈ lw_tbl ∧ Cond.arrayOver (.array .int) ∈ lw_tbl := by decide +kernel
theorem fs_b9 : ∀ w ∈ rx_CB, w ∈ lw_tbl := by decide +kernel
theorem fs_c1 : Cond.laysStatic "FarthestHeir$Law" "USUAL" "[I" ∈ lw_tbl ∧ Cond.initialized "FarthestHeir$Law" ∈ lw_tbl ∧ Cond.laysStatic "java/lang/String" "COMPACT_STRINGS" "Z" ∈ lw_tbl ∧ Cond.initialized "java/lang/String" ∈ lw_tbl ∧ Cond.laysStatic "jdk/internal/util/Preconditions" "SIOOBE_FORMATTER" "Ljava/util/function/BiFunction;" ∈ lw_tbl ∧ Cond.initialized "jdk/internal/util/Preconditions" ∈ lw_tbl ∧ Cond.laysStatic "java/lang/Throwable" "UNASSIGNED_STACK" "[Ljava/lang/StackTraceElement;" ∈ lw_tbl ∧ Cond.laysStatic "java/lang/Throwable" "SUPPRESSED_SENTINEL" "Ljava/util/List;" ∈ lw_tbl ∧ Cond.initialized "java/lang/Throwable" ∈ lw_tbl := by decide +kernel
section FST
variable {s : State} {args : Array Value} {A : Nat → Prop}
abbrev fsK (s : State) (A : Nat → Prop) (k : Nat) (q : Nat × Nat) : Prop := va_O "java/lang/String" q.1 A s s.heap ∧ va_OF "java/lang/String" "coder" "B" (.int 0) q.1 A s s.heap ∧ va_OF "java/lang/String" "value" "[B" (.ref q.2) q.1 A s s.heap ∧ va_T .byte q.2 (WD k).length (fun j => .int (((WD k).map nI).getD j 0)) A s s.heap
theorem fs_str (h : ∀ w ∈ fsN, w.before args s = true) (hA : ∀ a : Nat, a < s.heap.size → ¬ A a) (k : Nat) : ∃ q : Nat × Nat, k < 20 → (tmS k).eval args s none [] s = some (.ref q.1) ∧ fsK s A k q := by
  by_cases hk : k < 20
  · obtain ⟨adK, adV, hS, he⟩ := vk_Sof (args := args) (s := s) (N := 1) (tm := fun _ => tmS k) (len := [(WD k).length]) (byt := [(WD k).map nI]) (A := A) (fun i hi => by cases (show i = 0 by omega); exact fs_b1 k hk) (fun i _ => h _ (fs_1 k hk)) (fun i _ => h _ (fs_2 k hk)) (fun i _ => h _ (fs_3 k hk)) (fun i hi => by cases (show i = 0 by omega); exact h _ (fs_4 k hk)) (fun i hi j hj => by cases (show i = 0 by omega); exact h _ (fs_5 k hk j hj)) (fun i j hi hj hne => absurd (show i = j by omega) hne) hA
    obtain ⟨a1, a2, a3, a4⟩ := hS.1 0 (by decide)
    exact ⟨(adK 0, adV 0), fun _ => ⟨he 0 (by decide), a1, a2, a3, a4⟩⟩
  · exact ⟨(0, 0), fun q => absurd q hk⟩
theorem fs_us (h : ∀ w ∈ fsN, w.before args s = true) (hA : ∀ a : Nat, a < s.heap.size → ¬ A a) : ∃ u : Nat, tmU.eval args s none [] s = some (.ref u) ∧ va_T .int u 7 (fun j => .int (lwE (usL.getD j (0, 0)))) A s s.heap :=
  va_Tof (by decide) (h _ fs_6.1) (va_eqt (h _ fs_6.2.1)) (fun j hj => va_eqt (h _ (fs_6.2.2 j hj))) hA
theorem fs_ne1 (hh : heapFits s = true) {u S V : Nat} {n : Nat} {f : Nat → Value} {ty : FieldType} (hty : ty = .byte ∨ ty = .int) (hu : va_T ty u n f A s s.heap) (hs : va_OF "java/lang/String" "value" "[B" (.ref V) S A s s.heap) : S ≠ u := by
  intro e
  subst e
  obtain ⟨cell, h1, h2, -⟩ := hu
  obtain ⟨cf, k, i, fd, cell', g1, g2, g3, g4, g5, -⟩ := hs
  cases h1.symm.trans g3
  exact fs_noref hh hty h1 h2 g5
theorem fs_ne2 {u V n n' : Nat} {f f' : Nat → Value} (hu : va_T .int u n f A s s.heap) (hv : va_T .byte V n' f' A s s.heap) : V ≠ u := by
  intro e
  subst e
  obtain ⟨cell, h1, ⟨-, k, hk, comp, hc⟩, -⟩ := hu
  obtain ⟨cell', g1, ⟨-, k', hk', comp', hc'⟩, -⟩ := hv
  cases h1.symm.trans g1
  cases hk.symm.trans hk'
  rw [hc] at hc'
  cases hc'
theorem fs_eq1 {S V V' : Nat} (h : va_OF "java/lang/String" "value" "[B" (.ref V) S A s s.heap) (h' : va_OF "java/lang/String" "value" "[B" (.ref V') S A s s.heap) : V = V' := by
  obtain ⟨cf, k, i, fd, cell, g1, g2, g3, g4, g5, -⟩ := h
  obtain ⟨cf', k', i', fd', cell', g1', g2', g3', g4', g5', -⟩ := h'
  cases g1.symm.trans g1'
  cases g3.symm.trans g3'
  cases g5.symm.trans g5'
  rfl
theorem fs_eq2 {j k V : Nat} (hj : j < 20) (hk : k < 20) (h : va_T .byte V (WD j).length (fun i => .int (((WD j).map nI).getD i 0)) A s s.heap) (h' : va_T .byte V (WD k).length (fun i => .int (((WD k).map nI).getD i 0)) A s s.heap) : WD j = WD k := by
  obtain ⟨cell, h1, h2, h3, h4, h5, h6, -⟩ := h
  obtain ⟨cell', g1, g2, g3, g4, g5, g6, -⟩ := h'
  cases h1.symm.trans g1
  have e1 : Int32.ofNat (WD j).length = Int32.ofNat (WD k).length := h5.symm.trans g5
  have e2 : (WD j).length = (WD k).length := by
    have := congrArg Int32.toNatClampNeg e1
    rw [show Int32.ofNat (WD j).length = nI (WD j).length from rfl, show Int32.ofNat (WD k).length = nI (WD k).length from rfl, nI_cl (fs_b1 j hj), nI_cl (fs_b1 k hk)] at this
    exact this
  refine fs_b2 j hj k hk e1 (fun i hi => ?_)
  have e3 := (h6 i hi).symm.trans (g6 i (by omega))
  exact Value.int.inj (Option.some.inj e3)
end FST
/-- the old cells -/
def fsH (u : Nat) (S V : Nat → Nat) (a : Nat) : Option rx_E := if a = u then some (.inl (0, 7, fun _ => .int 0)) else match (List.range 20).find? (fun k => S k == a) with
  | some k => some (.inl (9, V k, fun _ => .null))
  | none => match (List.range 20).find? (fun k => V k == a) with
    | some k => some (.inl (8, (WD k).length, fun i => .int (nI ((WD k).getD i 0))))
    | none => none
def fsI (u : Nat) (a j : Nat) : Int32 := if a = u then lwE (usL.getD j (0, 0)) else 0
section FSH
variable {u : Nat} {S V : Nat → Nat}
theorem fs_find {f : Nat → Nat} {a k : Nat} (h : (List.range 20).find? (fun k => f k == a) = some k) : k < 20 ∧ f k = a := ⟨List.mem_range.mp (List.mem_of_find?_eq_some h), eq_of_beq (List.find?_some (p := fun k => f k == a) h)⟩
theorem fs_none {f : Nat → Nat} {a k : Nat} (h : (List.range 20).find? (fun k => f k == a) = none) (hk : k < 20) : f k ≠ a := fun e => by
  have := List.find?_eq_none.mp h k (List.mem_range.mpr hk)
  rw [e] at this
  exact this (beq_self_eq_true a)
theorem fsH_c {a : Nat} {x : rx_E} (h : fsH u S V a = some x) : (a = u ∧ x = .inl (0, 7, fun _ => .int 0)) ∨ (a ≠ u ∧ ∃ k, k < 20 ∧ a = S k ∧ x = .inl (9, V k, fun _ => .null)) ∨ (a ≠ u ∧ ∃ k, k < 20 ∧ a = V k ∧ x = .inl (8, (WD k).length, fun i => .int (nI ((WD k).getD i 0)))) := by
  unfold fsH at h
  split at h
  · rename_i e
    exact Or.inl ⟨e, (Option.some.inj h).symm⟩
  · rename_i e
    split at h
    · rename_i k hk
      obtain ⟨k1, k2⟩ := fs_find hk
      exact Or.inr (Or.inl ⟨e, k, k1, k2.symm, (Option.some.inj h).symm⟩)
    · split at h
      · rename_i k hk
        obtain ⟨k1, k2⟩ := fs_find hk
        exact Or.inr (Or.inr ⟨e, k, k1, k2.symm, (Option.some.inj h).symm⟩)
      · cases h
theorem fsH_S {k : Nat} (hk : k < 20) (h1 : S k ≠ u) (h2 : ∀ j, j < 20 → S j = S k → V j = V k) : fsH u S V (S k) = some (.inl (9, V k, fun _ => .null)) := by
  unfold fsH
  rw [if_neg h1]
  cases hf : (List.range 20).find? (fun j => S j == S k) with
  | none => exact absurd rfl (fs_none hf hk)
  | some j =>
    obtain ⟨j1, j2⟩ := fs_find hf
    dsimp only
    rw [h2 j j1 j2]
theorem fsH_V {k : Nat} (hk : k < 20) (h1 : V k ≠ u) (h2 : ∀ j, j < 20 → S j ≠ V k) (h3 : ∀ j, j < 20 → V j = V k → WD j = WD k) : fsH u S V (V k) = some (.inl (8, (WD k).length, fun i => .int (nI ((WD k).getD i 0)))) := by
  unfold fsH
  rw [if_neg h1]
  cases hf : (List.range 20).find? (fun j => S j == V k) with
  | some j =>
    obtain ⟨j1, j2⟩ := fs_find hf
    exact absurd j2 (h2 j j1)
  | none =>
    dsimp only
    cases hg : (List.range 20).find? (fun j => V j == V k) with
    | none => exact absurd rfl (fs_none hg hk)
    | some j =>
      obtain ⟨j1, j2⟩ := fs_find hg
      dsimp only
      rw [h3 j j1 j2]
/-- the first state as the reader sees it -/
theorem fs_all {s : State} {A : Nat → Prop} {Z : rx_Z} (hh : heapFits s = true) (hz1 : Z.2.1 = s.heap.size) (hz2 : Z.2.2.1 = s.heap) (hA : A = fun q => Z.2.1 ≤ q) (hu : va_T .int u 7 (fun j => .int (lwE (usL.getD j (0, 0)))) A s s.heap) (hs : ∀ k, k < 20 → fsK s A k (S k, V k)) (e0 : Z.2.2.2 0 = u) (e1 : ∀ k, k < 20 → Z.2.2.2 (k + 1) = S k) : rx_H Z s (rz_mk (fsH u S V) (fsI u), (s.heap.size, 0)) s.heap ∧ olI Z (fsH u S V) (fsI u) := by
  have lt : ∀ {a : Nat} {cell : Cell}, s.heap[a]? = some cell → a < s.heap.size := fun h => (Array.getElem?_eq_some_iff.mp h).1
  have p1 : ∀ k, k < 20 → S k ≠ u := fun k hk => fs_ne1 hh (Or.inr rfl) hu (hs k hk).2.2.1
  have p2 : ∀ k, k < 20 → V k ≠ u := fun k hk => fs_ne2 hu (hs k hk).2.2.2
  have p3 : ∀ j, j < 20 → ∀ k, k < 20 → S j ≠ V k := fun j hj k hk => fs_ne1 hh (Or.inl rfl) (hs k hk).2.2.2 (hs j hj).2.2.1
  have p4 : ∀ j, j < 20 → ∀ k, k < 20 → S j = S k → V j = V k := fun j hj k hk e => by
    have a := (hs j hj).2.2.1
    have b := (hs k hk).2.2.1
    dsimp only at a b
    rw [e] at a
    exact fs_eq1 a b
  have p5 : ∀ j, j < 20 → ∀ k, k < 20 → V j = V k → WD j = WD k := fun j hj k hk e => by
    have a := (hs j hj).2.2.2
    have b := (hs k hk).2.2.2
    dsimp only at a b
    rw [e] at a
    exact fs_eq2 hj hk a b
  have lS : ∀ k, k < 20 → S k < s.heap.size := fun k hk => by
    obtain ⟨cell, h1, -⟩ := (hs k hk).1
    exact lt h1
  have lV : ∀ k, k < 20 → V k < s.heap.size := fun k hk => by
    obtain ⟨cell, h1, -⟩ := (hs k hk).2.2.2
    exact lt h1
  have lu : u < s.heap.size := by
    obtain ⟨cell, h1, -⟩ := hu
    exact lt h1
  refine ⟨⟨rfl, Nat.le_of_eq hz1, ?_, fun q _ => by rw [hz2]⟩, ⟨fun k hk => ⟨V k, ⟨by rw [e1 k hk]; exact fsH_S hk (p1 k hk) (fun j hj => p4 j hj k hk), fsH_V hk (p2 k hk) (fun j hj => p3 j hj k hk) (fun j hj => p5 j hj k hk), (fs_b4 k hk).1, (fs_b4 k hk).2⟩, by rw [e1 k hk, hz1]; exact lS k hk, by rw [hz1]; exact lV k hk⟩, ?_, ?_, by rw [e0, hz1]; exact lu, fun j hj => by rw [e0]; unfold fsI; rw [if_pos rfl]⟩⟩
  · intro a x hx
    have hx : rz_mk (fsH u S V) (fsI u) a = some x := hx
    unfold rz_mk at hx
    cases hq : fsH u S V a with
    | none => rw [hq] at hx; cases hx
    | some y =>
      rw [hq] at hx
      have hx : rz_fill (fsI u a) y = x := Option.some.inj hx
      subst hx
      rcases fsH_c hq with ⟨rfl, rfl⟩ | ⟨hne, k, hk, rfl, rfl⟩ | ⟨hne, k, hk, rfl, rfl⟩
      · refine ⟨lu, ?_⟩
        obtain ⟨cell, h1, h2, h3, h4, h5, h6, -⟩ := hu
        exact ⟨cell, h1, ⟨h2, trivial⟩, h3, ⟨h4, h5⟩, fun j hj => by rw [h6 j hj]; show some (Value.int (lwE (usL.getD j (0, 0)))) = some (Value.int (fsI _ _ j)); unfold fsI; rw [if_pos rfl]⟩
      · refine ⟨lS k hk, ?_⟩
        obtain ⟨a1, a2, a3, -⟩ := hs k hk
        show rx_str Z s (S k) (V k)
        unfold rx_str
        rw [hz2, hz1]
        rw [hA, hz1] at a1 a2 a3
        exact ⟨lS k hk, a1, a2, a3⟩
      · refine ⟨lV k hk, ?_⟩
        obtain ⟨cell, h1, h2, h3, h4, h5, h6, -⟩ := (hs k hk).2.2.2
        exact ⟨cell, h1, ⟨h2, trivial⟩, h3, ⟨h4, h5⟩, fun j hj => by rw [h6 j hj]; show some (Value.int (((WD k).map nI).getD j 0)) = some (Value.int (nI ((WD k).getD j 0))); rw [fs_b3 k hk j hj]⟩
  · unfold rz_ar; rw [e0]; exact ⟨_, _, if_pos rfl⟩
  · unfold rz_ln; rw [e0, show fsH u S V u = some (.inl (0, 7, fun _ => .int 0)) from if_pos rfl]
end FSH
