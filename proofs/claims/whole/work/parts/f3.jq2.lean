/-! the rest of the questions, both sides alike -/
theorem and_f {a b : Bool} (h : ¬ (a && b) = false) : a = true ∧ b = true := by
  cases a <;> cases b <;> simp_all
theorem inB_n {x : Int32} {n : Nat} (hn : n < 100000) (h : inB x n = true) : ∃ p : Nat, p ≤ n ∧ x = nI p := by
  rcases inB_cases x hn with ⟨p, p1, p2, -⟩ | q
  · exact ⟨p, p1, p2⟩
  · rw [h] at q; cases q
theorem inC_n {x : Int32} {a n : Nat} (hn : n < 100000) (ha : a ≤ n) (h : inC x (nI a) (nI n) = true) : ∃ p : Nat, a ≤ p ∧ p ≤ n ∧ x = nI p := by
  rcases inC_cases x hn ha with ⟨p, p1, p2, p3, -⟩ | q
  · exact ⟨p, p1, p2, p3⟩
  · rw [h] at q; cases q
theorem askS_cong {C : List (Nat × Nat)} {R bk bk' : Nat → Int32} {L : List Nat} (h : ∀ p, p < 8 → bk p = bk' p) : ∀ m, m ≤ 8 → askS C R bk L m = askS C R bk' L m
  | 0, _ => rfl
  | m + 1, hm => by
    rw [askS, askS, h m (by omega), askS_cong h m (by omega)]
section JQ2
variable {Z : rx_Z} {c b : Nat} {X : XS}
theorem j_ask (o : okS X) (x : Int32) : J1q 0 Z 40 136 250 [.int x] c b X := by
  obtain ⟨m, dk, lv, ho⟩ := o.ex
  rcases inB_cases x (n := 1) (by decide) with ⟨k, k1, k2, k3⟩ | k
  · subst k2
    refine ⟨.inl (.int (if k = 0 then (askS (efL X.2.2.1.1) X.2.1 (bkF X.2.2.1.2) (likK (efL X.2.2.1.1) X.2.1 m X.2.2.1.2 1000) m).1 else (askS (efL X.2.2.1.1) X.2.1 (bkF X.2.2.1.2) (likK (efL X.2.2.1.1) X.2.1 m X.2.2.1.2 1000) m).2)), X, okO.i (by decide), CLq.ans ho (fun h ι w nx l r i q => ?_), MRq.ans ho (fun h ι w i q => mo_ask (d := 31) q i.1.2.2.2.2.2.1 k1 k3)⟩
    have t := cl_ask (d := 34) (w := w) q k1 k3
    obtain ⟨-, -, -, -, -, z, ⟨f1, f2, f3, f4, f5, f6, f7, f8, f9, f10⟩, -⟩ := i.1
    rw [likL_K z.2.2.2.1.1 f8] at t
    rw [askS_cong f8 m ho.2.1] at t
    exact t
  · exact ⟨.inr 0, xIl X, okO.k0, CLq.ill ho (fun h ι w nx l r i q => (cl_ref1 (d := 38) q k).2.2.2.2.2.2), MRq.ill ho (fun h ι w i q => (mo_ref1 (d := 38) q k).2.2.2.2.2.2)⟩
theorem j_spread (o : okS X) (x y : Int32) : J1q 0 Z 40 150 273 [.int x, .int y] c b X := by
  obtain ⟨m, dk, lv, ho⟩ := o.ex
  by_cases h0 : (inB x 2 && inB y 1) = false
  · exact ⟨.inr 0, xIl X, okO.k0, CLq.ill ho (fun h ι w nx l r i q => cl_spread0 (d := 38) q h0), MRq.ill ho (fun h ι w i q => mo_spread0 (d := 38) q h0)⟩
  · obtain ⟨h1, h2⟩ := and_f h0
    obtain ⟨t, t1, t2⟩ := inB_n (by decide) h1
    obtain ⟨k, k1, k2⟩ := inB_n (by decide) h2
    subst t2; subst k2
    exact ⟨.inl (.int _), X, okO.i (by decide), CLq.ans ho (fun h ι w nx l r i q => cl_spread (d := 37) q (by omega) h1 k1 h2), MRq.ans ho (fun h ι w i q => mo_spread (d := 37) q (by omega) h1 k1 h2)⟩
theorem j_ahead (o : okS X) (x y : Int32) : J1q 0 Z 40 131 241 [.int x, .int y] c b X := by
  obtain ⟨m, dk, lv, ho⟩ := o.ex
  by_cases h0 : (inB x 99 && inB y 2) = false
  · exact ⟨.inr 0, xIl X, okO.k0, CLq.ill ho (fun h ι w nx l r i q => cl_ahead0 (d := 38) q h0), MRq.ill ho (fun h ι w i q => mo_ahead0 (d := 38) q h0)⟩
  · obtain ⟨h1, h2⟩ := and_f h0
    obtain ⟨t, t1, t2⟩ := inB_n (by decide) h1
    obtain ⟨k, k1, k2⟩ := inB_n (by decide) h2
    subst t2; subst k2
    exact ⟨.inl (.int _), X, okO.i (by decide), CLq.ans ho (fun h ι w nx l r i q => cl_ahead (d := 35) q t1 h1 k1 h2), MRq.ans ho (fun h ι w i q => mo_ahead (d := 30) q i.1.2.2.2.2.2.2.2.1 t1 h1 k1 h2)⟩
theorem j_feigning (o : okS X) (x y z : Int32) : J1q 0 Z 40 144 264 [.int x, .int y, .int z] c b X := by
  obtain ⟨m, dk, lv, ho⟩ := o.ex
  cases h0 : fgB x y z with
  | false => exact ⟨.inr 0, xIl X, okO.k0, CLq.ill ho (fun h ι w nx l r i q => cl_feigning0 (d := 38) q h0), MRq.ill ho (fun h ι w i q => mo_feigning0 (d := 38) q h0)⟩
  | true =>
    have h1 := h0
    unfold fgB at h1
    simp only [Bool.and_eq_true] at h1
    obtain ⟨k, k1, k2⟩ := inB_n (by decide) h1.2.2
    subst k2
    exact ⟨.inl (.int _), X, okO.i (by decide), CLq.ans ho (fun h ι w nx l r i q => cl_feigning (d := 38) q k1 h0), MRq.ans ho (fun h ι w i q => mo_feigning (d := 37) q k1 h0)⟩
theorem j_century (o : okS X) (s y z u : Int32) : J1q 0 Z 40 155 281 [.int s, .int y, .int z, .int u] c b X := by
  obtain ⟨m, dk, lv, ho⟩ := o.ex
  cases h0 : cenB y z u with
  | false => exact ⟨.inr 0, xIl X, okO.k0, CLq.ill ho (fun h ι w nx l r i q => cl_century0 (d := 38) q h0), MRq.ill ho (fun h ι w i q => mo_century0 (d := 37) q h0)⟩
  | true =>
    have h1 := h0
    unfold cenB at h1
    simp only [Bool.and_eq_true] at h1
    obtain ⟨n, n0, n1, n2⟩ := inC_n (a := 1) (n := 96) (by decide) (by decide) h1.1
    obtain ⟨k, k1, k2⟩ := inB_n (by decide) h1.2.2
    subst n2; subst k2
    exact ⟨.inl (.int _), X, okO.i (by decide), CLq.ans ho (fun h ι w nx l r i q => cl_century (d := 33) q n1 k1 h0), MRq.ans ho (fun h ι w i q => mo_century (d := 28) q i.1.2.2.2.2.2.2.2.1 n1 k1 h0)⟩
theorem j_span (o : okS X) (s x y z u p : Int32) : J1q 0 Z 40 156 282 [.int s, .int x, .int y, .int z, .int u, .int p] c b X := by
  obtain ⟨m, dk, lv, ho⟩ := o.ex
  cases h0 : spnB x y z u with
  | false => exact ⟨.inr 0, xIl X, okO.k0, CLq.ill ho (fun h ι w nx l r i q => cl_span0 (d := 38) q h0), MRq.ill ho (fun h ι w i q => mo_span0 (d := 37) q h0)⟩
  | true =>
    rcases prs_cases p ho with ⟨t, ht, e⟩ | hx
    · subst e
      have h1 := h0
      unfold spnB at h1
      simp only [Bool.and_eq_true] at h1
      obtain ⟨j, j0, j1, j2⟩ := inC_n (a := 1) (n := 20) (by decide) (by decide) h1.1
      obtain ⟨n, n0, n1, n2⟩ := inC_n (a := 1) (n := 96) (by decide) (by decide) h1.2.1
      obtain ⟨k, k1, k2⟩ := inB_n (by decide) h1.2.2.2
      subst j2; subst n2; subst k2
      exact ⟨.inl (.int _), X, okO.i (by decide), CLq.ans ho (fun h ι w nx l r i q => cl_span (d := 33) q j1 n1 k1 h0 ht), MRq.ans ho (fun h ι w i q => mo_span (d := 28) q i.1.2.2.2.2.2.2.2.1 j0 j1 n1 k1 h0 ht)⟩
    · exact ⟨.inr 0, xIl X, okO.k0, CLq.ill ho (fun h ι w nx l r i q => cl_span1 (d := 38) q h0 hx), MRq.ill ho (fun h ι w i q => mo_span1 (d := 37) q h0 hx)⟩
theorem j_chance (o : okS X) (x y z u : Int32) : J1q 4 Z 40 143 261 [.int x, .int y, .int z, .int u] c b X := by
  obtain ⟨m, dk, lv, ho⟩ := o.ex
  cases h0 : chB x y z u with
  | false =>
    refine ⟨.inr 0, xIl X, okO.k4, CLq.ill ho (fun h ι w nx l r i q => cl_chance0 (d := 38) q h0), fun h ι w i => ?_⟩
    have a1 := mo_chance0 (d := 38) (w := w) (i.1.qm2 ho) h0
    obtain ⟨r1, r2, r3, r4⟩ := i.1.ref (x := 1)
    refine ⟨.long 0, h, _, a1, ⟨r1, ?_⟩, r3 1, r4 1, fun v0 e => (by cases e), fun _ _ => rfl⟩
    unfold rfM; rw [rz_up_n (by omega), rz_up_n (by omega)]; exact i.2
  | true =>
    have h1 := h0
    unfold chB at h1
    simp only [Bool.and_eq_true] at h1
    obtain ⟨n, n1, n2⟩ := inB_n (by decide) h1.1
    obtain ⟨k, k1, k2⟩ := inB_n (by decide) h1.2.1
    obtain ⟨t, t1, t2⟩ := inB_n (by decide) h1.2.2.1
    obtain ⟨p, p1, p2⟩ := inB_n (by decide) h1.2.2.2
    subst n2; subst k2; subst t2; subst p2
    refine ⟨.inl (.long (chS n k (nI t) p)), X, okO.l, fun h ι w nx hw i => ?_, fun h ι w i => ?_⟩
    · obtain ⟨l, r, q⟩ := i.1.qc2 ho
      exact ⟨h, ι, w, cl_chance (d := 37) q n1 k1 p1 h0, Nat.le_refl _, by omega, by omega, ⟨i.1.more hw, i.2⟩, fun a _ _ => ⟨rfl, rfl⟩⟩
    · obtain ⟨f, hf⟩ := i.1.2.2.1
      obtain ⟨f1, a1⟩ := mo_chance (d := 37) (w := w) (i.1.qm2 ho) hf n1 k1 t1 p1 h0
      obtain ⟨z1, z2, z3⟩ := up0 i.1
      refine ⟨_, _, _, a1, ⟨z1.keep (fun a a1 a2 => up_ne (by omega)) ⟨f1, rx_up_self _ _ _⟩ (fun _ _ => rfl) (fun _ _ => rfl) (fun _ _ => rfl), (rz_up_n (by omega)).trans i.2⟩, fun a ha => ⟨up_ne (by omega), rz_up_n (by omega)⟩, z3, fun v0 e => Sum.inl.inj e, fun k e => (by cases e)⟩
end JQ2
