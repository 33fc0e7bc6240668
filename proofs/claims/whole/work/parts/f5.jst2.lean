/-! book, dukedom, work: both sides alike -/
section JST2
variable {Z : rx_Z} {c b : Nat} {X : XS}
theorem j_book (o : okS X) (x : Int32) : J1q 0 Z 40 124 212 [.int x] c b X := by
  obtain ⟨m, dk, lv, ho⟩ := o.ex
  rcases txt_cases x (n := X.1.1) (M := 60) o.1.1 (by decide) with ⟨e, e1, e2, e3⟩ | ⟨h1, h2⟩
  · subst e3
    cases hX : bkS X.2.2.2.2.2 e 61 [] 0 with
    | inl K' =>
      refine ⟨.inl (.int (nI K'.length)), ((0, -1), X.2.1, (X.2.2.1.1, K'), X.2.2.2.1, X.2.2.2.2.1, X.2.2.2.2.2), okO.i (by decide), fun h ι w nx hw i => ?_, fun h ι w i => ?_⟩
      · have t := ci_book (d := 34) (w := w) i.1 e1 e2
        rw [i.2, hX] at t
        obtain ⟨ι', a1, a2, a3, a4⟩ := t
        exact ⟨h, ι', w, a1, Nat.le_refl _, by omega, by omega, ⟨a2.more hw, a4⟩, a3⟩
      · have t := mi_book (d := 36) (w := w) i.1 e1 e2
        rw [i.2, hX] at t
        obtain ⟨ι', a1, a2, a3, a4, a5⟩ := t
        exact ⟨_, h, ι', a1, ⟨a2, a5⟩, a3, a4, fun v0 e => Sum.inl.inj e, fun k e => (by cases e)⟩
    | inr f =>
      refine ⟨.inl (.int (nI f.1 - 10)), ((0, nI f.2), X.2.1, X.2.2.1, X.2.2.2.1, X.2.2.2.2.1, X.2.2.2.2.2), okO.i (by decide), fun h ι w nx hw i => ?_, fun h ι w i => ?_⟩
      · have t := ci_book (d := 34) (w := w) i.1 e1 e2
        rw [i.2, hX] at t
        obtain ⟨ι', a1, a2, a3, a4⟩ := t
        exact ⟨h, ι', w, a1, Nat.le_refl _, by omega, by omega, ⟨a2.more hw, a4⟩, a3⟩
      · have t := mi_book (d := 36) (w := w) i.1 e1 e2
        rw [i.2, hX] at t
        obtain ⟨ι', a1, a2, a3, a4, a5⟩ := t
        exact ⟨_, h, ι', a1, ⟨a2, a5⟩, a3, a4, fun v0 e => Sum.inl.inj e, fun k e => (by cases e)⟩
  · exact ⟨.inr 0, xIl X, okO.k0, CLq.ill ho (fun h ι w nx l r i q => ci_book_no (d := 34) i.1 x h1), MRq.ill ho (fun h ι w i q => mi_book_no (d := 38) i.1 h2)⟩
theorem j_dukedom (o : okS X) (x : Int32) : J1q 0 Z 40 121 197 [.int x] c b X := by
  obtain ⟨m, dk, lv, ho⟩ := o.ex
  have hn : X.1.1 ≤ 600 := o.1.1
  rcases inB_cases x (n := X.1.1) (by omega) with ⟨e, e1, e2, -⟩ | q
  · subst e2
    cases hX : dkS X.2.2.2.2.2 e 601 0 [] 0 10 0 with
    | inl s =>
      refine ⟨.inl (.int (nI s.1.length)), ((0, -1), crnR (dkR s.1) (if s.1.length = 0 then -1 else nI s.2.1), ([], []), ([], []), (nI s.2.2, 0, X.2.2.2.2.1.2.2.1, X.2.2.2.2.1.2.2.2), X.2.2.2.2.2), okO.i (by decide), fun h ι w nx hw i => ?_, fun h ι w i => ?_⟩
      · have t := ci_dukedom (d := 32) (w := w) i.1 e1 hw
        rw [i.2, hX] at t
        obtain ⟨h', ι', a1, a2, a3, a4⟩ := t
        exact ⟨h', ι', (w.1 + 4, w.2 + 65), a1, by show w.1 ≤ w.1 + 4; omega, by show w.1 + 4 ≤ w.1 + 5; omega, by show w.2 + 65 ≤ w.2 + 68; omega, ⟨a2, a4⟩, a3⟩
      · have t := mi_dukedom (d := 33) (w := w) i.1 e1
        rw [i.2, hX] at t
        obtain ⟨ι', a1, a2, a3, a4, a5⟩ := t
        exact ⟨_, h, ι', a1, ⟨a2, a5⟩, a3, a4, fun v0 e => Sum.inl.inj e, fun k e => (by cases e)⟩
    | inr f =>
      refine ⟨.inl (.int (nI f.1 - 10)), ((0, nI f.2), X.2.1, X.2.2.1, X.2.2.2.1, X.2.2.2.2.1, X.2.2.2.2.2), okO.i (by decide), fun h ι w nx hw i => ?_, fun h ι w i => ?_⟩
      · have t := ci_dukedom (d := 32) (w := w) i.1 e1 hw
        rw [i.2, hX] at t
        obtain ⟨h', ι', a1, a2, a3, a4⟩ := t
        exact ⟨h', ι', (w.1 + 4, w.2 + 65), a1, by show w.1 ≤ w.1 + 4; omega, by show w.1 + 4 ≤ w.1 + 5; omega, by show w.2 + 65 ≤ w.2 + 68; omega, ⟨a2, a4⟩, a3⟩
      · have t := mi_dukedom (d := 33) (w := w) i.1 e1
        rw [i.2, hX] at t
        obtain ⟨ι', a1, a2, a3, a4, a5⟩ := t
        exact ⟨_, h, ι', a1, ⟨a2, a5⟩, a3, a4, fun v0 e => Sum.inl.inj e, fun k e => (by cases e)⟩
  · have h1 : x < 0 ∨ nI X.1.1 < x := by
      by_cases h0 : x < 0
      · exact Or.inl h0
      · right
        have q' := q
        unfold inB at q'
        rw [decide_eq_false h0] at q'
        by_cases h2 : nI X.1.1 < x
        · exact h2
        · rw [decide_eq_false h2] at q'; exact absurd q' (by decide)
    exact ⟨.inr 0, xIl X, okO.k0, CLq.ill ho (fun h ι w nx l r i q => ci_dukedom_no (d := 32) i.1 x h1), MRq.ill ho (fun h ι w i q2 => mi_dukedom_no (d := 38) i.1 q)⟩
theorem j_work {h0 : Nat → Option rx_E} {ι0 : Nat → Nat → Int32} (o : okS X) (i0 : MX Z h0 ι0 b X) (x : Int32) : J1q 0 Z 40 123 232 [.int x] c b X := by
  obtain ⟨m, dk, lv, ho⟩ := o.ex
  have hH : X.2.2.2.1.1.length ≤ 16 := o.1.2.2.2.2.1
  rcases txt_cases x (n := X.1.1) (M := 150) o.1.1 (by decide) with ⟨e, e1, e2, e3⟩ | ⟨h1, h2⟩
  · subst e3
    by_cases h16 : X.2.2.2.1.1.length = 16
    · refine ⟨.inl (.int (-20)), ((0, -1), X.2.1, X.2.2.1, X.2.2.2.1, X.2.2.2.2.1, X.2.2.2.2.2), okO.i (by decide), fun h ι w nx hw i => ?_, fun h ι w i => ?_⟩
      · obtain ⟨ι', a1, a2, a3, a4⟩ := ci_work16 (d := 31) (w := w) i.1 e1 e2 h16
        exact ⟨h, ι', w, a1, Nat.le_refl _, by omega, by omega, ⟨a2.more hw, a4.trans i.2⟩, a3⟩
      · obtain ⟨ι', a1, a2, a3, a4, a5⟩ := mi_work16 (d := 20) (w := w) i.1 e1 e2 h16
        exact ⟨_, h, ι', a1, ⟨a2, a5.trans i.2⟩, a3, a4, fun v0 e => Sum.inl.inj e, fun k e => (by cases e)⟩
    · have hlt : X.2.2.2.1.1.length < 16 := by omega
      cases hX : wtX X.2.2.2.2.2 e with
      | inl s =>
        have t0 := mi_work (d := 20) (w := (0, 0)) i0.1 e1 e2 hlt
        rw [i0.2, hX] at t0
        obtain ⟨f, F, -⟩ := t0
        refine ⟨.inl (.int (nI f.2.1)), ((0, -1), f.2.2.2, X.2.2.1, (X.2.1 :: X.2.2.2.1.1, X.2.2.2.1.2), (X.2.2.2.2.1.1, nI f.2.2.1, X.2.2.2.2.1.2.2.1, X.2.2.2.2.1.2.2.2), X.2.2.2.2.2), okO.i (by decide), fun h ι w nx hw i => ?_, fun h ι w i => ?_⟩
        · have t := ci_work (d := 31) (w := w) i.1 e1 e2 hlt hw
          rw [i.2, hX] at t
          obtain ⟨h', ι', a1, a2, a3, a4⟩ := t f F
          exact ⟨h', ι', (w.1 + 5, w.2 + 68), a1, by show w.1 ≤ w.1 + 5; omega, Nat.le_refl _, Nat.le_refl _, ⟨a2, a4⟩, a3⟩
        · have t := mi_work (d := 20) (w := w) i.1 e1 e2 hlt
          rw [i.2, hX] at t
          obtain ⟨f', F', ι', a1, a2, a3, a4, a5⟩ := t
          have ef : f' = f := by
            obtain ⟨N, hN⟩ := F
            obtain ⟨N', hN'⟩ := F'
            rw [← hN (N + N') (by omega), ← hN' (N + N') (by omega)]
          subst ef
          exact ⟨_, h, ι', a1, ⟨a2, a5⟩, a3, a4, fun v0 e => Sum.inl.inj e, fun k e => (by cases e)⟩
      | inr f =>
        refine ⟨.inl (.int (nI f.1 - 10)), ((0, nI f.2), X.2.1, X.2.2.1, X.2.2.2.1, X.2.2.2.2.1, X.2.2.2.2.2), okO.i (by decide), fun h ι w nx hw i => ?_, fun h ι w i => ?_⟩
        · have t := ci_work (d := 31) (w := w) i.1 e1 e2 hlt hw
          rw [i.2, hX] at t
          obtain ⟨ι', a1, a2, a3, a4⟩ := t
          exact ⟨h, ι', w, a1, Nat.le_refl _, by omega, by omega, ⟨a2.more hw, a4⟩, a3⟩
        · have t := mi_work (d := 20) (w := w) i.1 e1 e2 hlt
          rw [i.2, hX] at t
          obtain ⟨ι', a1, a2, a3, a4, a5⟩ := t
          exact ⟨_, h, ι', a1, ⟨a2, a5⟩, a3, a4, fun v0 e => Sum.inl.inj e, fun k e => (by cases e)⟩
  · exact ⟨.inr 0, xIl X, okO.k0, CLq.ill ho (fun h ι w nx l r i q => ci_work_no (d := 31) i.1 x h1), MRq.ill ho (fun h ι w i q => mi_work_no (d := 38) i.1 h2)⟩
end JST2
