/-! the questions, both sides alike -/
section JQ
variable {Z : rx_Z} {c b : Nat} {X : XS}
theorem j_oldest (o : okS X) (x : Int32) : J1q 0 Z 40 146 268 [.int x] c b X := by
  obtain ⟨m, dk, lv, ho⟩ := o.ex
  rcases inB_cases x (n := 1) (by decide) with ⟨k, k1, k2, k3⟩ | k
  · subst k2
    exact ⟨.inl (.int _), X, okO.i (by decide), CLq.ans ho (fun h ι w nx l r i q => cl_oldest (d := 37) q k1 k3), MRq.ans ho (fun h ι w i q => mo_oldest (d := 37) q k1 k3)⟩
  · exact ⟨.inr 0, xIl X, okO.k0, CLq.ill ho (fun h ι w nx l r i q => (cl_ref1 (d := 38) q k).1), MRq.ill ho (fun h ι w i q => (mo_ref1 (d := 38) q k).1)⟩
theorem j_alike (o : okS X) (x : Int32) : J1q 0 Z 40 147 270 [.int x] c b X := by
  obtain ⟨m, dk, lv, ho⟩ := o.ex
  rcases inB_cases x (n := 1) (by decide) with ⟨k, k1, k2, k3⟩ | k
  · subst k2
    exact ⟨.inl (.int _), X, okO.i (by decide), CLq.ans ho (fun h ι w nx l r i q => cl_alike (d := 35) q k1 k3), MRq.ans ho (fun h ι w i q => mo_alike (d := 35) q k1 k3)⟩
  · exact ⟨.inr 0, xIl X, okO.k0, CLq.ill ho (fun h ι w nx l r i q => (cl_ref1 (d := 38) q k).2.1), MRq.ill ho (fun h ι w i q => (mo_ref1 (d := 38) q k).2.1)⟩
theorem j_nearest (o : okS X) (x : Int32) : J1q 0 Z 40 149 272 [.int x] c b X := by
  obtain ⟨m, dk, lv, ho⟩ := o.ex
  rcases inB_cases x (n := 1) (by decide) with ⟨k, k1, k2, k3⟩ | k
  · subst k2
    exact ⟨.inl (.int _), X, okO.i (by decide), CLq.ans ho (fun h ι w nx l r i q => cl_nearest (d := 35) q k1 k3), MRq.ans ho (fun h ι w i q => mo_nearest (d := 31) q k1 k3)⟩
  · exact ⟨.inr 0, xIl X, okO.k0, CLq.ill ho (fun h ι w nx l r i q => (cl_ref1 (d := 38) q k).2.2.1), MRq.ill ho (fun h ι w i q => (mo_ref1 (d := 38) q k).2.2.1)⟩
theorem j_after (o : okS X) (x : Int32) : J1q 0 Z 40 132 242 [.int x] c b X := by
  obtain ⟨m, dk, lv, ho⟩ := o.ex
  rcases inB_cases x (n := 8) (by decide) with ⟨k, k1, k2, k3⟩ | k
  · subst k2
    exact ⟨.inl (.int _), X, okO.i (by decide), CLq.ans ho (fun h ι w nx l r i q => cl_after (d := 34) q k1 k3), MRq.ans ho (fun h ι w i q => mo_after (d := 29) q i.1.2.2.2.2.2.2.2.1 k1 k3)⟩
  · exact ⟨.inr 0, xIl X, okO.k0, CLq.ill ho (fun h ι w nx l r i q => cl_after0 (d := 38) q k), MRq.ill ho (fun h ι w i q => mo_after0 (d := 38) q k)⟩
theorem j_told (o : okS X) (x : Int32) : J1q 0 Z 40 127 235 [.int x] c b X := by
  obtain ⟨m, dk, lv, ho⟩ := o.ex
  rcases inB_cases x (n := 10) (by decide) with ⟨k, k1, k2, k3⟩ | k
  · subst k2
    refine ⟨.inl (.int (tldS (efL X.2.2.1.1) X.2.1 m dk X.2.2.2.2.1.1 (nI X.2.2.1.2.length) X.2.2.2.2.1.2.1 k)), X, okO.i (by decide), CLq.ans ho (fun h ι w nx l r i q => ?_), MRq.ans ho (fun h ι w i q => ?_)⟩
    · have t := cl_told (d := 35) (w := w) q k1 k3
      obtain ⟨-, -, -, -, -, -, ⟨f1, f2, f3, f4, f5, f6, f7, f8, f9, f10⟩, -⟩ := i.1
      rw [f2, f3, f9] at t
      exact t
    · have t := mo_told (d := 30) (w := w) q k1 k3
      obtain ⟨-, -, -, -, -, ⟨g1, -⟩, -, -, -, -, f1, f2, f3, f4, f5, f6, f7, f8⟩ := i.1
      rw [f6, f4, g1] at t
      exact t
  · exact ⟨.inr 0, xIl X, okO.k0, CLq.ill ho (fun h ι w nx l r i q => cl_told0 (d := 38) q k), MRq.ill ho (fun h ι w i q => mo_told0 (d := 38) q k)⟩
theorem j_child (o : okS X) (x : Int32) : J1q 0 Z 40 141 259 [.int x] c b X := by
  obtain ⟨m, dk, lv, ho⟩ := o.ex
  rcases inB_cases x (n := 1) (by decide) with ⟨k, k1, k2, k3⟩ | k
  · subst k2
    cases dk with
    | none => exact ⟨.inl (.int _), X, okO.i (by decide), CLq.ans ho (fun h ι w nx l r i q => cl_childN (d := 38) q k1 k3), MRq.ans ho (fun h ι w i q => mo_childN (d := 37) q k1 k3)⟩
    | some y => exact ⟨.inl (.int _), X, okO.i (by decide), CLq.ans ho (fun h ι w nx l r i q => cl_child (d := 36) q rfl k1 k3), MRq.ans ho (fun h ι w i q => mo_child (d := 34) q rfl k1 k3)⟩
  · exact ⟨.inr 0, xIl X, okO.k0, CLq.ill ho (fun h ι w nx l r i q => (cl_ref1 (d := 38) q k).2.2.2.1), MRq.ill ho (fun h ι w i q => (mo_ref1 (d := 38) q k).2.2.2.1)⟩
theorem j_middling (o : okS X) (x : Int32) : J1q 0 Z 40 142 260 [.int x] c b X := by
  obtain ⟨m, dk, lv, ho⟩ := o.ex
  rcases inB_cases x (n := 1) (by decide) with ⟨k, k1, k2, k3⟩ | k
  · subst k2
    by_cases h2 : onS (nI lv) < 2
    · exact ⟨.inl (.int _), X, okO.i (by decide), CLq.ans ho (fun h ι w nx l r i q => cl_middlingN (d := 37) q k1 k3 h2), MRq.ans ho (fun h ι w i q => mo_middlingN (d := 37) q k1 k3 h2)⟩
    · exact ⟨.inl (.int _), X, okO.i (by decide), CLq.ans ho (fun h ι w nx l r i q => cl_middling (d := 35) q k1 k3 h2), MRq.ans ho (fun h ι w i q => mo_middling (d := 31) q k1 k3 h2)⟩
  · exact ⟨.inr 0, xIl X, okO.k0, CLq.ill ho (fun h ι w nx l r i q => (cl_ref1 (d := 38) q k).2.2.2.2.1), MRq.ill ho (fun h ι w i q => (mo_ref1 (d := 38) q k).2.2.2.2.1)⟩
theorem j_like (o : okS X) (x : Int32) : J1q 0 Z 40 135 247 [.int x] c b X := by
  obtain ⟨m, dk, lv, ho⟩ := o.ex
  rcases inB_cases x (n := 1) (by decide) with ⟨k, k1, k2, k3⟩ | k
  · subst k2
    refine ⟨.inl (.int (if k = 0 then nI (likK (efL X.2.2.1.1) X.2.1 m X.2.2.1.2 1000).length else if 0 < (likK (efL X.2.2.1.1) X.2.1 m X.2.2.1.2 1000).length then nI ((likK (efL X.2.2.1.1) X.2.1 m X.2.2.1.2 1000).getD 0 0) else -1)), X, okO.i (by decide), CLq.ans ho (fun h ι w nx l r i q => ?_), MRq.ans ho (fun h ι w i q => mo_like (d := 32) q i.1.2.2.2.2.2.1 k1 k3)⟩
    have t := cl_like (d := 34) (w := w) q k1 k3
    obtain ⟨-, -, -, -, -, z, ⟨f1, f2, f3, f4, f5, f6, f7, f8, f9, f10⟩, -⟩ := i.1
    rw [likL_K z.2.2.2.1.1 f8] at t
    exact t
  · exact ⟨.inr 0, xIl X, okO.k0, CLq.ill ho (fun h ι w nx l r i q => (cl_ref1 (d := 38) q k).2.2.2.2.2.1), MRq.ill ho (fun h ι w i q => (mo_ref1 (d := 38) q k).2.2.2.2.2.1)⟩
theorem j_rank (o : okS X) (x : Int32) : J1q 0 Z 40 152 275 [.int x] c b X := by
  obtain ⟨m, dk, lv, ho⟩ := o.ex
  by_cases h0 : x < 0
  · exact ⟨.inr 0, xIl X, okO.k0, CLq.ill ho (fun h ι w nx l r i q => cl_rank0 (d := 38) q h0), MRq.ill ho (fun h ι w i q => mo_rank0 (d := 38) q h0)⟩
  · exact ⟨.inl (.int _), X, okO.i (by decide), CLq.ans ho (fun h ι w nx l r i q => cl_rank (d := 34) q h0), MRq.ans ho (fun h ι w i q => mo_rank (d := 31) q h0)⟩
theorem j_mild (o : okS X) (x : Int32) : J1q 0 Z 40 153 276 [.int x] c b X := by
  obtain ⟨m, dk, lv, ho⟩ := o.ex
  cases h0 : inB x 99 with
  | false => exact ⟨.inr 0, xIl X, okO.k0, CLq.ill ho (fun h ι w nx l r i q => cl_mild0 (d := 38) q h0), MRq.ill ho (fun h ι w i q => (mo_ref99 (d := 38) q h0).1)⟩
  | true => exact ⟨.inl (.int _), X, okO.i (by decide), CLq.ans ho (fun h ι w nx l r i q => cl_mild (d := 35) q h0), MRq.ans ho (fun h ι w i q => mo_mild (d := 32) q h0)⟩
theorem j_row (o : okS X) (x : Int32) : J1q 0 Z 40 139 257 [.int x] c b X := by
  obtain ⟨m, dk, lv, ho⟩ := o.ex
  cases h0 : inB x 99 with
  | false => exact ⟨.inr 0, xIl X, okO.k0, CLq.ill ho (fun h ι w nx l r i q => cl_row0 (d := 38) q h0), MRq.ill ho (fun h ι w i q => (mo_ref99 (d := 38) q h0).2)⟩
  | true => exact ⟨.inl (.int _), X, okO.i (by decide), CLq.ans ho (fun h ι w nx l r i q => cl_row (d := 34) q h0), MRq.ans ho (fun h ι w i q => mo_row (d := 21) q h0)⟩
theorem j_rowed (o : okS X) (x y : Int32) : J1q 0 Z 40 140 258 [.int x, .int y] c b X := by
  obtain ⟨m, dk, lv, ho⟩ := o.ex
  cases h0 : rdB x y with
  | false => exact ⟨.inr 0, xIl X, okO.k0, CLq.ill ho (fun h ι w nx l r i q => cl_rowed0 (d := 38) q h0), MRq.ill ho (fun h ι w i q => mo_rowed0 (d := 38) q h0)⟩
  | true => exact ⟨.inl (.int _), X, okO.i (by decide), CLq.ans ho (fun h ι w nx l r i q => cl_rowed (d := 34) q h0), MRq.ans ho (fun h ι w i q => mo_rowed (d := 21) q h0)⟩
theorem j_would (o : okS X) (x y z f a g e p : Int32) : J1q 0 Z 40 130 240 [.int x, .int y, .int z, .int f, .int a, .int g, .int e, .int p] c b X := by
  obtain ⟨m, dk, lv, ho⟩ := o.ex
  cases h0 : wldB x y z f a g e p with
  | false => exact ⟨.inr 0, xIl X, okO.k0, CLq.ill ho (fun h ι w nx l r i q => cl_would0 (d := 37) q h0), MRq.ill ho (fun h ι w i q => mo_would0 (d := 38) q h0)⟩
  | true => exact ⟨.inl (.int _), X, okO.i (by decide), CLq.ans ho (fun h ι w nx l r i q => cl_would (d := 37) q h0), MRq.ans ho (fun h ι w i q => mo_would (d := 35) q h0)⟩
theorem j_pairs (o : okS X) : J1q 3 Z 40 137 253 [] c b X := by
  obtain ⟨m, dk, lv, ho⟩ := o.ex
  exact ⟨.inl (.int _), X, okO.i (by decide), CLq.ans ho (fun h ι w nx l r i q => cl_pairs (d := 34) q), MRq.ans ho (fun h ι w i q => mo_pairs (d := 21) q)⟩
theorem j_masks (o : okS X) (x : Int32) : J1q 1 Z 40 151 274 [.int x] c b X := by
  obtain ⟨m, dk, lv, ho⟩ := o.ex
  rcases prs_cases x ho with ⟨p, hp, e⟩ | hx
  · subst e
    exact ⟨.inl (.int _), X, okO.i (by decide), CLq.ans ho (fun h ι w nx l r i q => cl_masks (d := 37) q hp), MRq.ans ho (fun h ι w i q => mo_masks (d := 37) q hp)⟩
  · exact ⟨.inr 1, xNs X, okO.k1, CLq.non ho (fun h ι w nx l r i q => cl_masks1 (d := 37) q hx), MRq.non ho (fun h ι w i q => (mo_refP (d := 37) (y := 0) q hx).2.2.2.1)⟩
theorem j_unlike (o : okS X) (x : Int32) : J1q 1 Z 40 154 277 [.int x] c b X := by
  obtain ⟨m, dk, lv, ho⟩ := o.ex
  rcases prs_cases x ho with ⟨p, hp, e⟩ | hx
  · subst e
    exact ⟨.inl (.int _), X, okO.i (by decide), CLq.ans ho (fun h ι w nx l r i q => cl_unlike (d := 36) q hp), MRq.ans ho (fun h ι w i q => mo_unlike (d := 37) q hp)⟩
  · exact ⟨.inr 1, xNs X, okO.k1, CLq.non ho (fun h ι w nx l r i q => cl_unlike1 (d := 37) q hx), MRq.non ho (fun h ι w i q => (mo_refP (d := 37) (y := 0) q hx).2.2.2.2.1)⟩
theorem j_mate (o : okS X) (x : Int32) : J1q 1 Z 40 138 254 [.int x] c b X := by
  obtain ⟨m, dk, lv, ho⟩ := o.ex
  rcases prs_cases x ho with ⟨p, hp, e⟩ | hx
  · subst e
    exact ⟨.inl (.int _), X, okO.i (by decide), CLq.ans ho (fun h ι w nx l r i q => cl_mate (d := 34) q hp), MRq.ans ho (fun h ι w i q => mo_mate (d := 21) q hp)⟩
  · exact ⟨.inr 1, xNs X, okO.k1, CLq.non ho (fun h ι w nx l r i q => cl_mate1 (d := 37) q hx), MRq.non ho (fun h ι w i q => (mo_refP (d := 37) (y := 0) q hx).2.2.2.2.2.1)⟩
theorem j_far (o : okS X) (x y : Int32) : J1q 1 Z 40 129 239 [.int x, .int y] c b X := by
  obtain ⟨m, dk, lv, ho⟩ := o.ex
  rcases prs_cases x ho with ⟨p, hp, e⟩ | hx
  · subst e
    rcases prs_cases y ho with ⟨p', hp', e⟩ | hy
    · subst e
      exact ⟨.inl (.int _), X, okO.i (by decide), CLq.ans ho (fun h ι w nx l r i q => cl_far (d := 36) q hp hp'), MRq.ans ho (fun h ι w i q => mo_far (d := 32) q hp hp')⟩
    · exact ⟨.inr 1, xNs X, okO.k1, CLq.non ho (fun h ι w nx l r i q => cl_far2 (d := 37) q hp hy), MRq.non ho (fun h ι w i q => mo_far2 (d := 37) q hp hy)⟩
  · exact ⟨.inr 1, xNs X, okO.k1, CLq.non ho (fun h ι w nx l r i q => cl_far1 (d := 37) q hx), MRq.non ho (fun h ι w i q => (mo_refP (d := 37) q hx).2.1)⟩
theorem j_person (o : okS X) (x y : Int32) : J2q Z 40 128 238 [.int x, .int y] c b X := by
  obtain ⟨m, dk, lv, ho⟩ := o.ex
  rcases prs_cases x ho with ⟨p, hp, e⟩ | hx
  · subst e
    rcases inB_cases y (n := 9) (by decide) with ⟨k, k1, k2, k3⟩ | k
    · subst k2
      exact ⟨.inl (.int _), X, okO.i (by decide), CLq.ans ho (fun h ι w nx l r i q => cl_person (d := 35) q hp k1 k3), MRq.ans ho (fun h ι w i q => mo_person (d := 31) q hp k1 k3)⟩
    · exact ⟨.inr 0, xIl X, okO.k20, CLq.ill ho (fun h ι w nx l r i q => cl_person0 (d := 37) q hp k), MRq.ill ho (fun h ι w i q => mo_person0 (d := 37) q hp k)⟩
  · exact ⟨.inr 1, xNs X, okO.k21, CLq.non ho (fun h ι w nx l r i q => cl_person1 (d := 37) q hx), MRq.non ho (fun h ι w i q => (mo_refP (d := 37) q hx).1)⟩
theorem j_beyond (o : okS X) (x y : Int32) : J2q Z 40 148 271 [.int x, .int y] c b X := by
  obtain ⟨m, dk, lv, ho⟩ := o.ex
  rcases prs_cases x ho with ⟨p, hp, e⟩ | hx
  · subst e
    cases k : inB y 99 with
    | true => exact ⟨.inl (.int _), X, okO.i (by decide), CLq.ans ho (fun h ι w nx l r i q => cl_beyond (d := 35) q hp k), MRq.ans ho (fun h ι w i q => mo_beyond (d := 32) q hp k)⟩
    | false => exact ⟨.inr 0, xIl X, okO.k20, CLq.ill ho (fun h ι w nx l r i q => cl_beyond0 (d := 37) q hp k), MRq.ill ho (fun h ι w i q => mo_beyond0 (d := 37) q hp k)⟩
  · exact ⟨.inr 1, xNs X, okO.k21, CLq.non ho (fun h ι w nx l r i q => cl_beyond1 (d := 37) q hx), MRq.non ho (fun h ι w i q => (mo_refP (d := 37) q hx).2.2.1)⟩
theorem j_land (o : okS X) (x y z : Int32) : J2q Z 40 145 267 [.int x, .int y, .int z] c b X := by
  obtain ⟨m, dk, lv, ho⟩ := o.ex
  rcases prs_cases x ho with ⟨p, hp, e⟩ | hx
  · subst e
    cases k : lndB m y z with
    | true => exact ⟨.inl (.int _), X, okO.i (by decide), CLq.ans ho (fun h ι w nx l r i q => cl_land (d := 34) q hp k), MRq.ans ho (fun h ι w i q => mo_land (d := 29) q hp k)⟩
    | false => exact ⟨.inr 0, xIl X, okO.k20, CLq.ill ho (fun h ι w nx l r i q => cl_land0 (d := 37) q hp k), MRq.ill ho (fun h ι w i q => mo_land0 (d := 37) q hp k)⟩
  · exact ⟨.inr 1, xNs X, okO.k21, CLq.non ho (fun h ι w nx l r i q => cl_land1 (d := 37) q hx), MRq.non ho (fun h ι w i q => mo_land1 (d := 37) q hx)⟩
theorem j_ring (o : okS X) (x y : Int32) : J2q Z 40 134 245 [.int x, .int y] c b X := by
  obtain ⟨m, dk, lv, ho⟩ := o.ex
  rcases prs_cases x ho with ⟨p, hp, e⟩ | hx
  · subst e
    rcases inB_cases y (n := 1) (by decide) with ⟨k, k1, k2, k3⟩ | k
    · subst k2
      exact ⟨.inl (.int _), X, okO.i (by decide), CLq.ans ho (fun h ι w nx l r i q => cl_ring (d := 34) q hp k1 k3), MRq.ans ho (fun h ι w i q => mo_ring (d := 31) q hp k1 k3)⟩
    · exact ⟨.inr 0, xIl X, okO.k20, CLq.ill ho (fun h ι w nx l r i q => (cl_ring0 (d := 37) q hp k).1), MRq.ill ho (fun h ι w i q => (mo_ring0 (d := 37) q hp k).1)⟩
  · exact ⟨.inr 1, xNs X, okO.k21, CLq.non ho (fun h ι w nx l r i q => (cl_ring1 (d := 37) q hx).1), MRq.non ho (fun h ι w i q => (mo_refP (d := 37) q hx).2.2.2.2.2.2.2)⟩
theorem j_feint (o : okS X) (x y : Int32) : J2q Z 40 133 244 [.int x, .int y] c b X := by
  obtain ⟨m, dk, lv, ho⟩ := o.ex
  rcases prs_cases x ho with ⟨p, hp, e⟩ | hx
  · subst e
    rcases inB_cases y (n := 1) (by decide) with ⟨k, k1, k2, k3⟩ | k
    · subst k2
      exact ⟨.inl (.int _), X, okO.i (by decide), CLq.ans ho (fun h ι w nx l r i q => cl_feint (d := 33) q hp k1 k3), MRq.ans ho (fun h ι w i q => mo_feint (d := 31) q hp k1 k3)⟩
    · exact ⟨.inr 0, xIl X, okO.k20, CLq.ill ho (fun h ι w nx l r i q => (cl_ring0 (d := 37) q hp k).2), MRq.ill ho (fun h ι w i q => (mo_ring0 (d := 37) q hp k).2)⟩
  · exact ⟨.inr 1, xNs X, okO.k21, CLq.non ho (fun h ι w nx l r i q => (cl_ring1 (d := 37) q hx).2), MRq.non ho (fun h ι w i q => (mo_refP (d := 37) q hx).2.2.2.2.2.2.1)⟩
end JQ
