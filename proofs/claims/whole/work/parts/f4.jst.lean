/-! the calls that change the state, both sides alike -/
section JST
variable {Z : rx_Z} {c b : Nat} {X : XS}
theorem MX.up {h : Nat → Option rx_E} {ι : Nat → Nat → Int32} (i : MX Z h ι b X) : MX Z h (rz_up ι b 0 0) b X := ⟨(up0 i.1).1, (rz_up_n (by omega)).trans i.2⟩
theorem CX.same {h : Nat → Option rx_E} {ι : Nat → Nat → Int32} {nx : Nat} {w : Nat × Nat} (i : CX Z h ι nx c b X) (hw : nx ≤ w.1) : CX Z h ι w.1 c b X := ⟨i.1.more hw, i.2⟩
theorem clF.refl {h : Nat → Option rx_E} {ι : Nat → Nat → Int32} : clF b h h ι ι := fun _ _ _ => ⟨rfl, rfl⟩
theorem j_fault : J1q Z 40 125 213 [] c b X := by
  refine ⟨.inl (.int X.1.2), X, fun h ι w nx hw i => ?_, fun h ι w i => ?_⟩
  · exact ⟨h, ι, w, ci_fault (d := 39) i.1, Nat.le_refl _, by omega, by omega, i.same hw, clF.refl⟩
  · exact ⟨_, _, _, mi_fault (d := 39) i.1, i.up, (up0 i.1).2.1, (up0 i.1).2.2, fun v0 e => Sum.inl.inj e⟩
theorem j_status (x : Int32) : J1q Z 40 159 287 [.int x] c b X := by
  refine ⟨.inl (.int _), X, fun h ι w nx hw i => ?_, fun h ι w i => ?_⟩
  · exact ⟨h, ι, w, ci_status (d := 39) i.1 x, Nat.le_refl _, by omega, by omega, i.same hw, clF.refl⟩
  · exact ⟨_, _, _, mi_status (d := 38) i.1 x, i.up, (up0 i.1).2.1, (up0 i.1).2.2, fun v0 e => Sum.inl.inj e⟩
theorem j_count (x : Int32) : J1q Z 40 160 288 [.int x] c b X := by
  refine ⟨.inl (.int _), X, fun h ι w nx hw i => ?_, fun h ι w i => ?_⟩
  · exact ⟨h, ι, w, ci_count (d := 38) i.1 x, Nat.le_refl _, by omega, by omega, i.same hw, clF.refl⟩
  · exact ⟨_, _, _, mi_count (d := 39) i.1 x, i.up, (up0 i.1).2.1, (up0 i.1).2.2, fun v0 e => Sum.inl.inj e⟩
theorem j_feed (x1 x2 x3 x4 x5 : Int32) : J1q Z 40 120 179 [.int x1, .int x2, .int x3, .int x4, .int x5] c b X := by
  by_cases hn : X.1.1 ≤ 580
  · refine ⟨.inl (.int (nI (X.1.1 + 20))), ((X.1.1 + 20, X.1.2), X.2.1, X.2.2.1, X.2.2.2.1, X.2.2.2.2.1, fdB X.2.2.2.2.2 X.1.1 x1 x2 x3 x4 x5), fun h ι w nx hw i => ?_, fun h ι w i => ?_⟩
    · obtain ⟨ι', a1, a2, a3, a4⟩ := ci_feed (d := 38) (w := w) i.1 hn x1 x2 x3 x4 x5
      exact ⟨h, ι', w, a1, Nat.le_refl _, by omega, by omega, ⟨a2.more hw, by rw [a4, i.2]⟩, a3⟩
    · obtain ⟨ι', a1, a2, a3, a4, a5⟩ := mi_feed (d := 39) (w := w) i.1 hn x1 x2 x3 x4 x5
      exact ⟨_, h, ι', a1, ⟨a2, by rw [a5, i.2]⟩, a3, a4, fun v0 e => Sum.inl.inj e⟩
  · refine ⟨.inl (.int (-1)), X, fun h ι w nx hw i => ?_, fun h ι w i => ?_⟩
    · exact ⟨h, ι, w, ci_feed_no (d := 38) i.1 (by omega) x1 x2 x3 x4 x5, Nat.le_refl _, by omega, by omega, i.same hw, clF.refl⟩
    · exact ⟨_, _, _, mi_feed_no (d := 39) i.1 (by omega) x1 x2 x3 x4 x5, i.up, (up0 i.1).2.1, (up0 i.1).2.2, fun v0 e => Sum.inl.inj e⟩
theorem j_undo : J1q Z 40 126 233 [] c b X := by
  obtain ⟨x1, x2, x3, ⟨H, G⟩, ⟨ld, rs, ns, il⟩, B⟩ := X
  cases H with
  | nil =>
    refine ⟨.inl (.int (-1)), _, fun h ι w nx hw i => ?_, fun h ι w i => ?_⟩
    · exact ⟨h, ι, w, ci_undo0 (d := 38) i.1, Nat.le_refl _, by omega, by omega, i.same hw, clF.refl⟩
    · exact ⟨_, _, _, mi_undo0 (d := 38) i.1, i.up, (up0 i.1).2.1, (up0 i.1).2.2, fun v0 e => Sum.inl.inj e⟩
  | cons R' H =>
    refine ⟨.inl (.int (nI H.length)), (x1, R', x3, (H, G), (ld, 0, ns, il), B), fun h ι w nx hw i => ?_, fun h ι w i => ?_⟩
    · obtain ⟨h', ι', a1, a2, a3⟩ := ci_undo1 (d := 38) (w := w) i.1
      have hb : b = c + 41 := i.1.2.1
      exact ⟨h', ι', w, a1, Nat.le_refl _, by omega, by omega, ⟨a2.more hw, sorry⟩, a3⟩
    · obtain ⟨ι', a1, a2, a3, a4, a5⟩ := mi_undo1 (d := 38) (w := w) i.1
      exact ⟨_, h, ι', a1, ⟨a2, a5.trans i.2⟩, a3, a4, fun v0 e => Sum.inl.inj e⟩
end JST
