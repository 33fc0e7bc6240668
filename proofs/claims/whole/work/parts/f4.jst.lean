/-! the calls that change the state, both sides alike -/
section JST
variable {Z : rx_Z} {c b : Nat} {X : XS}
theorem MX.up {h : Nat → Option rx_E} {ι : Nat → Nat → Int32} (i : MX Z h ι b X) : MX Z h (rz_up ι b 0 0) b X := ⟨(up0 i.1).1, (rz_up_n (by omega)).trans i.2⟩
theorem CX.same {h : Nat → Option rx_E} {ι : Nat → Nat → Int32} {nx : Nat} {w : Nat × Nat} (i : CX Z h ι nx c b X) (hw : nx ≤ w.1) : CX Z h ι w.1 c b X := ⟨i.1.more hw, i.2⟩
theorem clF.refl {h : Nat → Option rx_E} {ι : Nat → Nat → Int32} : clF b h h ι ι := fun _ _ _ => ⟨rfl, rfl⟩
theorem j_fault : J1q 3 Z 40 125 213 [] c b X := by
  refine ⟨.inl (.int X.1.2), X, okO.i (by decide), fun h ι w nx hw i => ?_, fun h ι w i => ?_⟩
  · exact ⟨h, ι, w, ci_fault (d := 39) i.1, Nat.le_refl _, by omega, by omega, i.same hw, clF.refl⟩
  · exact ⟨_, _, _, mi_fault (d := 39) i.1, i.up, (up0 i.1).2.1, (up0 i.1).2.2, fun v0 e => Sum.inl.inj e, fun k e => (by cases e)⟩
theorem j_status (x : Int32) : J1q 3 Z 40 159 287 [.int x] c b X := by
  refine ⟨.inl (.int (if x = 0 then X.2.2.2.2.1.2.2.1 else if x = 1 then X.2.2.2.2.1.2.2.2 else -1)), X, okO.i (by decide), fun h ι w nx hw i => ?_, fun h ι w i => ?_⟩
  · exact ⟨h, ι, w, ci_status (d := 39) i.1 x, Nat.le_refl _, by omega, by omega, i.same hw, clF.refl⟩
  · exact ⟨_, _, _, mi_status (d := 38) i.1 x, i.up, (up0 i.1).2.1, (up0 i.1).2.2, fun v0 e => Sum.inl.inj e, fun k e => (by cases e)⟩
theorem j_count (x : Int32) : J1q 3 Z 40 160 288 [.int x] c b X := by
  refine ⟨.inl (.int (if x = 0 then nI X.2.2.2.1.2.length else if x = 1 then nI X.1.1 else if x = 2 then nI X.2.2.2.1.1.length else -1)), X, okO.i (by decide), fun h ι w nx hw i => ?_, fun h ι w i => ?_⟩
  · exact ⟨h, ι, w, ci_count (d := 38) i.1 x, Nat.le_refl _, by omega, by omega, i.same hw, clF.refl⟩
  · exact ⟨_, _, _, mi_count (d := 39) i.1 x, i.up, (up0 i.1).2.1, (up0 i.1).2.2, fun v0 e => Sum.inl.inj e, fun k e => (by cases e)⟩
theorem j_feed (x1 x2 x3 x4 x5 : Int32) : J1q 3 Z 40 120 179 [.int x1, .int x2, .int x3, .int x4, .int x5] c b X := by
  by_cases hn : X.1.1 ≤ 580
  · refine ⟨.inl (.int (nI (X.1.1 + 20))), ((X.1.1 + 20, X.1.2), X.2.1, X.2.2.1, X.2.2.2.1, X.2.2.2.2.1, fdB X.2.2.2.2.2 X.1.1 x1 x2 x3 x4 x5), okO.i (by decide), fun h ι w nx hw i => ?_, fun h ι w i => ?_⟩
    · obtain ⟨ι', a1, a2, a3, a4⟩ := ci_feed (d := 38) (w := w) i.1 hn x1 x2 x3 x4 x5
      exact ⟨h, ι', w, a1, Nat.le_refl _, by omega, by omega, ⟨a2.more hw, by rw [a4, i.2]⟩, a3⟩
    · obtain ⟨ι', a1, a2, a3, a4, a5⟩ := mi_feed (d := 39) (w := w) i.1 hn x1 x2 x3 x4 x5
      exact ⟨_, h, ι', a1, ⟨a2, by rw [a5, i.2]⟩, a3, a4, fun v0 e => Sum.inl.inj e, fun k e => (by cases e)⟩
  · refine ⟨.inl (.int (-1)), X, okO.i (by decide), fun h ι w nx hw i => ?_, fun h ι w i => ?_⟩
    · exact ⟨h, ι, w, ci_feed_no (d := 38) i.1 (by omega) x1 x2 x3 x4 x5, Nat.le_refl _, by omega, by omega, i.same hw, clF.refl⟩
    · exact ⟨_, _, _, mi_feed_no (d := 39) i.1 (by omega) x1 x2 x3 x4 x5, i.up, (up0 i.1).2.1, (up0 i.1).2.2, fun v0 e => Sum.inl.inj e, fun k e => (by cases e)⟩
theorem j_undo : J1q 3 Z 40 126 233 [] c b X := by
  obtain ⟨x1, x2, x3, ⟨H, G⟩, ⟨ld, rs, ns, il⟩, B⟩ := X
  cases H with
  | nil =>
    refine ⟨.inl (.int (-1)), (x1, x2, x3, ([], G), (ld, rs, ns, il), B), okO.i (by decide), fun h ι w nx hw i => ?_, fun h ι w i => ?_⟩
    · exact ⟨h, ι, w, ci_undo0 (d := 38) i.1, Nat.le_refl _, by omega, by omega, i.same hw, clF.refl⟩
    · exact ⟨_, _, _, mi_undo0 (d := 38) i.1, i.up, (up0 i.1).2.1, (up0 i.1).2.2, fun v0 e => Sum.inl.inj e, fun k e => (by cases e)⟩
  | cons R' H =>
    refine ⟨.inl (.int (nI H.length)), (x1, R', x3, (H, G), (ld, 0, ns, il), B), okO.i (by decide), fun h ι w nx hw i => ?_, fun h ι w i => ?_⟩
    · obtain ⟨h', ι', a1, a2, a3, a4⟩ := ci_undo1 (d := 38) (w := w) i.1
      have hb : b = c + 41 := i.1.2.1
      exact ⟨h', ι', w, a1, Nat.le_refl _, by omega, by omega, ⟨a2.more hw, a4.trans i.2⟩, a3⟩
    · obtain ⟨ι', a1, a2, a3, a4, a5⟩ := mi_undo1 (d := 38) (w := w) i.1
      exact ⟨_, h, ι', a1, ⟨a2, a5.trans i.2⟩, a3, a4, fun v0 e => Sum.inl.inj e, fun k e => (by cases e)⟩
theorem j_image (o : okS X) : J1q 3 Z 40 157 285 [] c b X := by
  obtain ⟨x1, R, x3, ⟨H, G⟩, ⟨ld, rs, ns, il⟩, B⟩ := X
  have hG : G.length ≤ 3 := o.1.2.2.2.2.2.2.1
  by_cases h3 : G.length = 3
  · refine ⟨.inl (.int (-1)), (x1, R, x3, (H, G), (ld, rs, ns, il), B), okO.i (by decide), fun h ι w nx hw i => ?_, fun h ι w i => ?_⟩
    · exact ⟨h, ι, w, ci_image3 (d := 38) i.1 h3, Nat.le_refl _, by omega, by omega, i.same hw, clF.refl⟩
    · exact ⟨_, _, _, mi_image3 (d := 37) i.1 h3, i.up, (up0 i.1).2.1, (up0 i.1).2.2, fun v0 e => Sum.inl.inj e, fun k e => (by cases e)⟩
  · refine ⟨.inl (.int (nI (G.length + 1))), (x1, R, x3, (H, G ++ [(R, H)]), (ld, rs, ns, il), B), okO.i (by decide), fun h ι w nx hw i => ?_, fun h ι w i => ?_⟩
    · obtain ⟨h', ι', a1, a2, a3, a4⟩ := ci_image (d := 38) (w := w) i.1 (show G.length < 3 by omega) hw
      exact ⟨h', ι', (w.1 + 1, w.2 + 3), a1, by show w.1 ≤ w.1 + 1; omega, by show w.1 + 1 ≤ w.1 + 5; omega, by show w.2 + 3 ≤ w.2 + 68; omega, ⟨a2, a4.trans i.2⟩, a3⟩
    · obtain ⟨ι', a1, a2, a3, a4, a5⟩ := mi_image (d := 37) (w := w) i.1 (show G.length < 3 by omega)
      exact ⟨_, h, ι', a1, ⟨a2, a5.trans i.2⟩, a3, a4, fun v0 e => Sum.inl.inj e, fun k e => (by cases e)⟩
theorem j_restore : J1q 3 Z 40 158 286 [] c b X := by
  obtain ⟨x1, R, x3, ⟨H, G⟩, ⟨ld, rs, ns, il⟩, B⟩ := X
  rcases List.eq_nil_or_concat G with e | ⟨G', x, e⟩
  · subst e
    refine ⟨.inl (.int (-1)), (x1, R, x3, (H, []), (ld, rs, ns, il), B), okO.i (by decide), fun h ι w nx hw i => ?_, fun h ι w i => ?_⟩
    · exact ⟨h, ι, w, ci_restore0 (d := 39) i.1, Nat.le_refl _, by omega, by omega, i.same hw, clF.refl⟩
    · exact ⟨_, _, _, mi_restore0 (d := 37) i.1, i.up, (up0 i.1).2.1, (up0 i.1).2.2, fun v0 e => Sum.inl.inj e, fun k e => (by cases e)⟩
  · have e' : G = G' ++ [x] := by simpa using e
    subst e'
    refine ⟨.inl (.int (nI G'.length)), (x1, x.1, x3, (x.2, G'), (ld, 0, ns, il), B), okO.i (by decide), fun h ι w nx hw i => ?_, fun h ι w i => ?_⟩
    · obtain ⟨h', ι', a1, a2, a3, a4⟩ := ci_restore (d := 39) (w := w) i.1
      exact ⟨h', ι', w, a1, Nat.le_refl _, by omega, by omega, ⟨a2.more hw, a4.trans i.2⟩, a3⟩
    · obtain ⟨ι', a1, a2, a3, a4, a5⟩ := mi_restore (d := 37) (w := w) i.1
      exact ⟨_, h, ι', a1, ⟨a2, a5.trans i.2⟩, a3, a4, fun v0 e => Sum.inl.inj e, fun k e => (by cases e)⟩
/-- how many bytes a text takes: alike, or both refuse -/
theorem txt_cases (x : Int32) {n M : Nat} (hn : n ≤ 600) (hM : M ≤ 600) : (∃ e, e ≤ n ∧ e ≤ M ∧ x = nI e) ∨ ((x < 0 ∨ (if nI M < nI n then nI M else nI n) < x) ∧ (inB x n = false ∨ (inB x n = true ∧ nI M < x))) := by
  rcases inB_cases x (n := n) (by omega) with ⟨e, e1, e2, e3⟩ | q
  · by_cases he : e ≤ M
    · exact Or.inl ⟨e, e1, he, e2⟩
    · right
      have h1 : nI M < x := by rw [e2, nI_lt2 (by omega) (by omega)]; omega
      refine ⟨Or.inr ?_, Or.inr ⟨e3, h1⟩⟩
      rw [if_pos (by rw [nI_lt2 (by omega) (by omega)]; omega)]; exact h1
  · right
    refine ⟨?_, Or.inl q⟩
    by_cases h0 : x < 0
    · exact Or.inl h0
    · right
      have h1 : nI n < x := by
        unfold inB at q
        rw [decide_eq_false h0] at q
        by_cases h2 : nI n < x
        · exact h2
        · rw [decide_eq_false h2] at q; exact absurd q (by decide)
      split
      · rename_i h2; exact Int32.lt_trans h2 h1
      · exact h1
theorem j_law (o : okS X) (x : Int32) : J1q 0 Z 40 122 207 [.int x] c b X := by
  obtain ⟨m, dk, lv, ho⟩ := o.ex
  rcases txt_cases x (n := X.1.1) (M := 150) o.1.1 (by decide) with ⟨e, e1, e2, e3⟩ | ⟨h1, h2⟩
  · subst e3
    cases hX : lwX X.2.2.2.2.2 e with
    | inl C' =>
      refine ⟨.inl (.int 1), ((0, -1), X.2.1, (C', X.2.2.1.2), X.2.2.2.1, X.2.2.2.2.1, X.2.2.2.2.2), okO.i (by decide), fun h ι w nx hw i => ?_, fun h ι w i => ?_⟩
      · have t := ci_law (d := 4) (w := w) i.1 e1 e2
        rw [i.2, hX] at t
        obtain ⟨h', ι', a1, a2, a3, a4⟩ := t
        exact ⟨h', ι', w, a1, Nat.le_refl _, by omega, by omega, ⟨a2.more hw, a4⟩, a3⟩
      · have t := mi_law (d := 11) (w := w) i.1 e1 e2
        rw [i.2, hX] at t
        obtain ⟨ι', a1, a2, a3, a4, a5⟩ := t
        exact ⟨_, h, ι', a1, ⟨a2, a5⟩, a3, a4, fun v0 e => Sum.inl.inj e, fun k e => (by cases e)⟩
    | inr f =>
      refine ⟨.inl (.int (nI f.1 - 10)), ((0, nI f.2), X.2.1, X.2.2.1, X.2.2.2.1, X.2.2.2.2.1, X.2.2.2.2.2), okO.i (by decide), fun h ι w nx hw i => ?_, fun h ι w i => ?_⟩
      · have t := ci_law (d := 4) (w := w) i.1 e1 e2
        rw [i.2, hX] at t
        obtain ⟨ι', a1, a2, a3, a4⟩ := t
        exact ⟨h, ι', w, a1, Nat.le_refl _, by omega, by omega, ⟨a2.more hw, a4⟩, a3⟩
      · have t := mi_law (d := 11) (w := w) i.1 e1 e2
        rw [i.2, hX] at t
        obtain ⟨ι', a1, a2, a3, a4, a5⟩ := t
        exact ⟨_, h, ι', a1, ⟨a2, a5⟩, a3, a4, fun v0 e => Sum.inl.inj e, fun k e => (by cases e)⟩
  · exact ⟨.inr 0, xIl X, okO.k0, CLq.ill ho (fun h ι w nx l r i q => ci_law_no (d := 4) i.1 x h1), MRq.ill ho (fun h ι w i q => mi_law_no (d := 38) i.1 h2)⟩
end JST
