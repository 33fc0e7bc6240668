/-! what the class holds between calls -/
def rmI (h : Nat → Option rx_E) (ι : Nat → Nat → Int32) (nx c b r : Nat) (R : Nat → Int32) : Prop := oRl h r ∧ rl ι r = R ∧ (r = c + 37 ∨ b + 476 ≤ r) ∧ r + 4 ≤ nx
def chI (h : Nat → Option rx_E) (ι : Nat → Nat → Int32) (nx c b : Nat) : List (Nat → Int32) → Value → Prop
  | [], pv => pv = .null
  | R :: H, pv => ∃ (a r : Nat) (pv' : Value), pv = .ref a ∧ oMm h a r pv' ∧ b + 476 ≤ a ∧ a < nx ∧ ι a 2 = nI (H.length + 1) ∧ rmI h ι nx c b r R ∧ chI h ι nx c b H pv'
def imI (h : Nat → Option rx_E) (ι : Nat → Nat → Int32) (nx c b : Nat) (x : (Nat → Int32) × List (Nat → Int32)) (v : Value) : Prop := ∃ (a r : Nat) (pv : Value), v = .ref a ∧ oMm h a r pv ∧ b + 476 ≤ a ∧ a < nx ∧ rmI h ι nx c b r x.1 ∧ chI h ι nx c b x.2 pv
def gmI (h : Nat → Option rx_E) (ι : Nat → Nat → Int32) (nx c b : Nat) (G : List ((Nat → Int32) × List (Nat → Int32))) : Prop := ∃ f, h (c + 32) = some (.inl (2, 3, f)) ∧ ∀ j, j < 3 → (∀ x, G[j]? = some x → imI h ι nx c b x (f j)) ∧ (G[j]? = none → f j = .null)
/-- the cells that are kept are as they were -/
def agK (h h' : Nat → Option rx_E) (ι ι' : Nat → Nat → Int32) (nx c b : Nat) : Prop := ∀ a, ((c + 37 ≤ a ∧ a < c + 41) ∨ b + 476 ≤ a) → a < nx → h' a = h a ∧ ι' a = ι a
theorem oRl.ag {h h' : Nat → Option rx_E} {r : Nat} (o : oRl h r) (e : ∀ a, r ≤ a → a < r + 4 → h' a = h a) : oRl h' r := by
  obtain ⟨o1, o2, o3, o4⟩ := o
  exact ⟨by rw [e _ (by omega) (by omega)]; exact o1, by rw [e _ (by omega) (by omega)]; exact o2, by rw [e _ (by omega) (by omega)]; exact o3, by rw [e _ (by omega) (by omega)]; exact o4⟩
theorem rmI.ag {h h' : Nat → Option rx_E} {ι ι' : Nat → Nat → Int32} {nx nx' c b r : Nat} {R : Nat → Int32} (i : rmI h ι nx c b r R) (k : agK h h' ι ι' nx c b) (hn : nx ≤ nx') : rmI h' ι' nx' c b r R := by
  obtain ⟨i1, i2, i3, i4⟩ := i
  have e : ∀ a, r ≤ a → a < r + 4 → h' a = h a ∧ ι' a = ι a := fun a a1 a2 => k a (by omega) (by omega)
  exact ⟨i1.ag (fun a a1 a2 => (e a a1 a2).1), (rl_eq (e _ (by omega) (by omega)).2 (e _ (by omega) (by omega)).2 (e _ (by omega) (by omega)).2 (e _ (by omega) (by omega)).2).trans i2, i3, by omega⟩
theorem chI.ag {h h' : Nat → Option rx_E} {ι ι' : Nat → Nat → Int32} {nx nx' c b : Nat} (k : agK h h' ι ι' nx c b) (hn : nx ≤ nx') : ∀ (H : List (Nat → Int32)) (pv : Value), chI h ι nx c b H pv → chI h' ι' nx' c b H pv
  | [], _, i => i
  | R :: H, pv, i => by
    obtain ⟨a, r, pv', i1, i2, i3, i4, i5, i6, i7⟩ := i
    obtain ⟨e1, e2⟩ := k a (Or.inr i3) i4
    exact ⟨a, r, pv', i1, ⟨by rw [e1]; exact i2.1, i2.2⟩, i3, Nat.lt_of_lt_of_le i4 hn, by rw [e2]; exact i5, i6.ag k hn, chI.ag k hn H pv' i7⟩
theorem imI.ag {h h' : Nat → Option rx_E} {ι ι' : Nat → Nat → Int32} {nx nx' c b : Nat} {x : (Nat → Int32) × List (Nat → Int32)} {v : Value} (i : imI h ι nx c b x v) (k : agK h h' ι ι' nx c b) (hn : nx ≤ nx') : imI h' ι' nx' c b x v := by
  obtain ⟨a, r, pv, i1, i2, i3, i4, i5, i6⟩ := i
  obtain ⟨e1, e2⟩ := k a (Or.inr i3) i4
  exact ⟨a, r, pv, i1, ⟨by rw [e1]; exact i2.1, i2.2⟩, i3, Nat.lt_of_lt_of_le i4 hn, i5.ag k hn, chI.ag k hn _ _ i6⟩
theorem gmI.ag {h h' : Nat → Option rx_E} {ι ι' : Nat → Nat → Int32} {nx nx' c b : Nat} {G : List ((Nat → Int32) × List (Nat → Int32))} (i : gmI h ι nx c b G) (k : agK h h' ι ι' nx c b) (hn : nx ≤ nx') (e : h' (c + 32) = h (c + 32)) : gmI h' ι' nx' c b G := by
  obtain ⟨f, i1, i2⟩ := i
  exact ⟨f, by rw [e]; exact i1, fun j hj => ⟨fun x hx => ((i2 j hj).1 x hx).ag k hn, (i2 j hj).2⟩⟩
/-- a realm, and all that was kept, is sound -/
def okB (R : Nat → Int32) : Prop := ∃ m dk lv, okR R m dk lv
def okX (n : Nat) (R : Nat → Int32) (C K : List (Nat × Nat)) (H : List (Nat → Int32)) (G : List ((Nat → Int32) × List (Nat → Int32))) : Prop := n ≤ 600 ∧ okB R ∧ (C = [] ∨ okC C) ∧ bkW K ∧ H.length ≤ 16 ∧ (∀ x ∈ H, okB x) ∧ G.length ≤ 3 ∧ ∀ x ∈ G, okB x.1 ∧ x.2.length ≤ 16 ∧ ∀ y ∈ x.2, okB y
/-- the old cells: constant texts, the usual law's row -/
def olI (Z : rx_Z) (h : Nat → Option rx_E) (ι : Nat → Nat → Int32) : Prop := (∀ k, k < 20 → ∃ v, oSt h (Z.2.2.2 (k + 1)) v (WD k) ∧ Z.2.2.2 (k + 1) < Z.2.1 ∧ v < Z.2.1) ∧ rz_ar h (Z.2.2.2 0) 0 ∧ rz_ln h (Z.2.2.2 0) = 7 ∧ Z.2.2.2 0 < Z.2.1 ∧ ∀ j, j < 7 → ι (Z.2.2.2 0) j = lwE (usL.getD j (0, 0))
theorem olI.st {Z : rx_Z} {h : Nat → Option rx_E} {ι : Nat → Nat → Int32} (o : olI Z h ι) : stH Z h := fun k hk => by
  obtain ⟨v, h1, -⟩ := o.1 k hk
  exact ⟨v, h1⟩
theorem olI.ag {Z : rx_Z} {h h' : Nat → Option rx_E} {ι ι' : Nat → Nat → Int32} (o : olI Z h ι) (e : ∀ a, a < Z.2.1 → h' a = h a ∧ ι' a = ι a) : olI Z h' ι' := by
  obtain ⟨o1, o2, o3, o4, o5⟩ := o
  refine ⟨fun k hk => ?_, ?_, ?_, o4, fun j hj => by rw [(e _ o4).2]; exact o5 j hj⟩
  · obtain ⟨v, ⟨a1, a2, a3, a4⟩, b1, b2⟩ := o1 k hk
    exact ⟨v, ⟨by rw [(e _ b1).1]; exact a1, by rw [(e _ b2).1]; exact a2, a3, a4⟩, b1, b2⟩
  · unfold rz_ar at o2 ⊢; rw [(e _ o4).1]; exact o2
  · unfold rz_ln at o3 ⊢; rw [(e _ o4).1]; exact o3
/-- the parts that never move -/
def clL (h : Nat → Option rx_E) (c : Nat) : Prop := oTp h (c + 1) ∧ oDk h (c + 3) (c + 1) ∧ oWt h (c + 9) (c + 1) ∧ oBk h (c + 13) ∧ oCt h (c + 16) ∧ oGs h (c + 23) ∧ oRl h (c + 27) ∧ oCh h (c + 31) ∧ oLw h (c + 5) ∧ oLw h (c + 33)
theorem clL.ag {h h' : Nat → Option rx_E} {c : Nat} (o : clL h c) (e : ∀ a, c < a → a ≠ c + 4 → a ≠ c + 32 → a < c + 37 → h' a = h a) : clL h' c := by
  obtain ⟨o1, o2, o3, o4, o5, o6, o7, o8, o9, o10⟩ := o
  refine ⟨⟨?_, ?_⟩, ?_, ⟨?_, ?_, ?_, ?_⟩, ⟨?_, ?_, ?_⟩, ⟨?_, ?_, ?_, ?_, ?_, ?_, ?_⟩, ⟨?_, ?_, ?_, ?_⟩, o7.ag (fun a a1 a2 => e a (by omega) (by omega) (by omega) (by omega)), ?_, ⟨?_, ?_, ?_, ?_⟩, ⟨?_, ?_, ?_, ?_⟩⟩
  · rw [e _ (by omega) (by omega) (by omega) (by omega)]; exact o1.1
  · rw [e _ (by omega) (by omega) (by omega) (by omega)]; exact o1.2
  · show h' (c + 3) = _; rw [e _ (by omega) (by omega) (by omega) (by omega)]; exact o2
  · rw [e _ (by omega) (by omega) (by omega) (by omega)]; exact o3.1
  · rw [e _ (by omega) (by omega) (by omega) (by omega)]; exact o3.2.1
  · rw [e _ (by omega) (by omega) (by omega) (by omega)]; exact o3.2.2.1
  · rw [e _ (by omega) (by omega) (by omega) (by omega)]; exact o3.2.2.2
  · rw [e _ (by omega) (by omega) (by omega) (by omega)]; exact o4.1
  · rw [e _ (by omega) (by omega) (by omega) (by omega)]; exact o4.2.1
  · rw [e _ (by omega) (by omega) (by omega) (by omega)]; exact o4.2.2
  · rw [e _ (by omega) (by omega) (by omega) (by omega)]; exact o5.1
  · rw [e _ (by omega) (by omega) (by omega) (by omega)]; exact o5.2.1
  · rw [e _ (by omega) (by omega) (by omega) (by omega)]; exact o5.2.2.1
  · rw [e _ (by omega) (by omega) (by omega) (by omega)]; exact o5.2.2.2.1
  · rw [e _ (by omega) (by omega) (by omega) (by omega)]; exact o5.2.2.2.2.1
  · rw [e _ (by omega) (by omega) (by omega) (by omega)]; exact o5.2.2.2.2.2.1
  · rw [e _ (by omega) (by omega) (by omega) (by omega)]; exact o5.2.2.2.2.2.2
  · rw [e _ (by omega) (by omega) (by omega) (by omega)]; exact o6.1
  · rw [e _ (by omega) (by omega) (by omega) (by omega)]; exact o6.2.1
  · rw [e _ (by omega) (by omega) (by omega) (by omega)]; exact o6.2.2.1
  · rw [e _ (by omega) (by omega) (by omega) (by omega)]; exact o6.2.2.2
  · show h' (c + 31) = _; rw [e _ (by omega) (by omega) (by omega) (by omega)]; exact o8
  · rw [e _ (by omega) (by omega) (by omega) (by omega)]; exact o9.1
  · rw [e _ (by omega) (by omega) (by omega) (by omega)]; exact o9.2.1
  · rw [e _ (by omega) (by omega) (by omega) (by omega)]; exact o9.2.2.1
  · rw [e _ (by omega) (by omega) (by omega) (by omega)]; exact o9.2.2.2
  · rw [e _ (by omega) (by omega) (by omega) (by omega)]; exact o10.1
  · rw [e _ (by omega) (by omega) (by omega) (by omega)]; exact o10.2.1
  · rw [e _ (by omega) (by omega) (by omega) (by omega)]; exact o10.2.2.1
  · rw [e _ (by omega) (by omega) (by omega) (by omega)]; exact o10.2.2.2
def fdI (ι : Nat → Nat → Int32) (c n : Nat) (pl : Int32) (K : List (Nat × Nat)) (gl : Nat) (ld rs ns il : Int32) : Prop := ι c 13 = nI gl ∧ ι c 14 = ld ∧ ι c 15 = rs ∧ ι c 16 = ns ∧ ι c 17 = il ∧ ι (c + 1) 5 = nI n ∧ ι (c + 1) 6 = pl ∧ (∀ q, q < 8 → ι (c + 14) q = bkF K q) ∧ ι (c + 13) 2 = nI K.length ∧ ∀ x, ι (c + 2) x ≠ -1
def clD (h : Nat → Option rx_E) (ι : Nat → Nat → Int32) (nx c b l l' r : Nat) (pv : Value) (R : Nat → Int32) (C : List (Nat × Nat)) (H : List (Nat → Int32)) (G : List ((Nat → Int32) × List (Nat → Int32))) : Prop := oHr h c l r pv ∧ ((l = c + 5 ∧ l' = c + 33) ∨ (l = c + 33 ∧ l' = c + 5)) ∧ oLt h (c + 4) (c + 1) l' ∧ lwIs ι l (efL C) ∧ rmI h ι nx c b r R ∧ chI h ι nx c b H pv ∧ gmI h ι nx c b G
def CI (Z : rx_Z) (h : Nat → Option rx_E) (ι : Nat → Nat → Int32) (nx c b n : Nat) (pl : Int32) (R : Nat → Int32) (C K : List (Nat × Nat)) (H : List (Nat → Int32)) (G : List ((Nat → Int32) × List (Nat → Int32))) (ld rs ns il : Int32) : Prop := Z.2.1 ≤ c ∧ b = c + 41 ∧ b + 476 ≤ nx ∧ olI Z h ι ∧ clL h c ∧ okX n R C K H G ∧ fdI ι c n pl K G.length ld rs ns il ∧ ∃ l l' r pv, clD h ι nx c b l l' r pv R C H G
/-- what the class leaves alone: the reference -/
def clF (b : Nat) (h h' : Nat → Option rx_E) (ι ι' : Nat → Nat → Int32) : Prop := ∀ a, b ≤ a → a < b + 476 → h' a = h a ∧ ι' a = ι a
section CI1
variable {Z : rx_Z} {d : Nat} {h : Nat → Option rx_E} {ι : Nat → Nat → Int32} {w : Nat × Nat} {nx c b n : Nat} {pl : Int32} {R : Nat → Int32} {C K : List (Nat × Nat)} {H : List (Nat → Int32)} {G : List ((Nat → Int32) × List (Nat → Int32))} {ld rs ns il : Int32}
theorem CI.qc (i : CI Z h ι nx c b n pl R C K H G ld rs ns il) : ∃ l r m dk lv, QC Z h ι c l r (efL C) R m dk lv := by
  obtain ⟨i1, i2, i3, i4, ⟨p1, p2, p3, p4, p5, p6, p7, p8, p9, p10⟩, ⟨-, ⟨m, dk, lv, ho⟩, -⟩, -, l, l', r, pv, d1, d2, d3, d4, ⟨e1, e2, e3, e4⟩, -⟩ := i
  refine ⟨l, r, m, dk, lv, i1, ⟨pv, d1⟩, by omega, by omega, ?_, e1, p4, p5, p6, p7, p8, d4, e2, ho⟩
  rcases d2 with ⟨z, -⟩ | ⟨z, -⟩
  · rw [z]; exact p9
  · rw [z]; exact p10
/-- a question changes nothing that counts -/
theorem CI.fr {ι' : Nat → Nat → Int32} (i : CI Z h ι nx c b n pl R C K H G ld rs ns il) (f : fr (scC c) ι ι') : CI Z h ι' nx c b n pl R C K H G ld rs ns il := by
  obtain ⟨i1, i2, i3, i4, i5, i6, ⟨f1, f2, f3, f4, f5, f6, f7, f8, f9, f10⟩, l, l', r, pv, d1, d2, d3, d4, d5, d6, d7⟩ := i
  have e : ∀ a, ¬ scC c a → ι' a = ι a := f
  have k : agK h h ι ι' nx c b := fun a a1 _ => ⟨rfl, e a (by unfold scC; omega)⟩
  have ec := e c (by unfold scC; omega)
  have ec1 := e (c + 1) (by unfold scC; omega)
  refine ⟨i1, i2, i3, i4.ag (fun a ha => ⟨rfl, e a (by unfold scC; omega)⟩), i5, i6, ⟨by rw [ec]; exact f1, by rw [ec]; exact f2, by rw [ec]; exact f3, by rw [ec]; exact f4, by rw [ec]; exact f5, by rw [ec1]; exact f6, by rw [ec1]; exact f7, fun q hq => by rw [e (c + 14) (by unfold scC; omega)]; exact f8 q hq, by rw [e (c + 13) (by unfold scC; omega)]; exact f9, fun x => by rw [e (c + 2) (by unfold scC; omega)]; exact f10 x⟩, l, l', r, pv, d1, d2, d3, d4.fr f (by unfold scC; omega) (by unfold scC; omega), d5.ag k (Nat.le_refl _), chI.ag k (Nat.le_refl _) H pv d6, d7.ag k (Nat.le_refl _) rfl⟩
/-- a refusal is counted -/
theorem CI.ref0 (i : CI Z h ι nx c b n pl R C K H G ld rs ns il) : CI Z h (rz_up ι c 17 (ι c 17 + 1)) nx c b n pl R C K H G ld rs ns (il + 1) := by
  obtain ⟨i1, i2, i3, i4, i5, i6, ⟨f1, f2, f3, f4, f5, f6, f7, f8, f9, f10⟩, l, l', r, pv, d1, d2, d3, d4, d5, d6, d7⟩ := i
  have e : ∀ a, a ≠ c → rz_up ι c 17 (ι c 17 + 1) a = ι a := fun a ha => rz_up_n ha
  have k : agK h h ι (rz_up ι c 17 (ι c 17 + 1)) nx c b := fun a a1 _ => ⟨rfl, e a (by omega)⟩
  have l1 : lwIs (rz_up ι c 17 (ι c 17 + 1)) l (efL C) := ⟨by rw [e l (by omega)]; exact d4.1, fun j hj => by rw [e (l + 1) (by omega)]; exact d4.2.1 j hj, d4.2.2⟩
  refine ⟨i1, i2, i3, i4.ag (fun a ha => ⟨rfl, e a (by omega)⟩), i5, i6, ⟨by rw [rz_up_s, rz_u_n (by omega)]; exact f1, by rw [rz_up_s, rz_u_n (by omega)]; exact f2, by rw [rz_up_s, rz_u_n (by omega)]; exact f3, by rw [rz_up_s, rz_u_n (by omega)]; exact f4, by rw [rz_up_s, rz_u_s, f5], by rw [e _ (by omega)]; exact f6, by rw [e _ (by omega)]; exact f7, fun q hq => by rw [e _ (by omega)]; exact f8 q hq, by rw [e _ (by omega)]; exact f9, fun x => by rw [e _ (by omega)]; exact f10 x⟩, l, l', r, pv, d1, d2, d3, l1, d5.ag k (Nat.le_refl _), chI.ag k (Nat.le_refl _) H pv d6, d7.ag k (Nat.le_refl _) rfl⟩
theorem CI.ref1 (i : CI Z h ι nx c b n pl R C K H G ld rs ns il) : CI Z h (rz_up ι c 16 (ι c 16 + 1)) nx c b n pl R C K H G ld rs (ns + 1) il := by
  obtain ⟨i1, i2, i3, i4, i5, i6, ⟨f1, f2, f3, f4, f5, f6, f7, f8, f9, f10⟩, l, l', r, pv, d1, d2, d3, d4, d5, d6, d7⟩ := i
  have e : ∀ a, a ≠ c → rz_up ι c 16 (ι c 16 + 1) a = ι a := fun a ha => rz_up_n ha
  have k : agK h h ι (rz_up ι c 16 (ι c 16 + 1)) nx c b := fun a a1 _ => ⟨rfl, e a (by omega)⟩
  have l1 : lwIs (rz_up ι c 16 (ι c 16 + 1)) l (efL C) := ⟨by rw [e l (by omega)]; exact d4.1, fun j hj => by rw [e (l + 1) (by omega)]; exact d4.2.1 j hj, d4.2.2⟩
  refine ⟨i1, i2, i3, i4.ag (fun a ha => ⟨rfl, e a (by omega)⟩), i5, i6, ⟨by rw [rz_up_s, rz_u_n (by omega)]; exact f1, by rw [rz_up_s, rz_u_n (by omega)]; exact f2, by rw [rz_up_s, rz_u_n (by omega)]; exact f3, by rw [rz_up_s, rz_u_s, f4], by rw [rz_up_s, rz_u_n (by omega)]; exact f5, by rw [e _ (by omega)]; exact f6, by rw [e _ (by omega)]; exact f7, fun q hq => by rw [e _ (by omega)]; exact f8 q hq, by rw [e _ (by omega)]; exact f9, fun x => by rw [e _ (by omega)]; exact f10 x⟩, l, l', r, pv, d1, d2, d3, l1, d5.ag k (Nat.le_refl _), chI.ag k (Nat.le_refl _) H pv d6, d7.ag k (Nat.le_refl _) rfl⟩
/-- more cells elsewhere -/
theorem CI.more {nx' : Nat} (i : CI Z h ι nx c b n pl R C K H G ld rs ns il) (hn : nx ≤ nx') : CI Z h ι nx' c b n pl R C K H G ld rs ns il := by
  obtain ⟨i1, i2, i3, i4, i5, i6, i7, l, l', r, pv, d1, d2, d3, d4, d5, d6, d7⟩ := i
  have k : agK h h ι ι nx c b := fun a _ _ => ⟨rfl, rfl⟩
  exact ⟨i1, i2, by omega, i4, i5, i6, i7, l, l', r, pv, d1, d2, d3, d4, d5.ag k hn, chI.ag k hn H pv d6, d7.ag k hn rfl⟩
/-- the reference writes its own cells alone -/
theorem CI.md {h' : Nat → Option rx_E} {ι' : Nat → Nat → Int32} (i : CI Z h ι nx c b n pl R C K H G ld rs ns il) (e : ∀ a, ¬ (b ≤ a ∧ a < b + 476) → h' a = h a ∧ ι' a = ι a) : CI Z h' ι' nx c b n pl R C K H G ld rs ns il := by
  obtain ⟨i1, i2, i3, i4, i5, i6, ⟨f1, f2, f3, f4, f5, f6, f7, f8, f9, f10⟩, l, l', r, pv, d1, d2, d3, d4, d5, d6, d7⟩ := i
  have k : agK h h' ι ι' nx c b := fun a a1 _ => e a (by omega)
  have l1 : lwIs ι' l (efL C) := ⟨by rw [(e l (by omega)).2]; exact d4.1, fun j hj => by rw [(e (l + 1) (by omega)).2]; exact d4.2.1 j hj, d4.2.2⟩
  have ec := (e c (by omega)).2
  have ec1 := (e (c + 1) (by omega)).2
  refine ⟨i1, i2, i3, i4.ag (fun a ha => e a (by omega)), i5.ag (fun a _ _ _ a4 => (e a (by omega)).1), i6, ⟨by rw [ec]; exact f1, by rw [ec]; exact f2, by rw [ec]; exact f3, by rw [ec]; exact f4, by rw [ec]; exact f5, by rw [ec1]; exact f6, by rw [ec1]; exact f7, fun q hq => by rw [(e (c + 14) (by omega)).2]; exact f8 q hq, by rw [(e (c + 13) (by omega)).2]; exact f9, fun x => by rw [(e (c + 2) (by omega)).2]; exact f10 x⟩, l, l', r, pv, ⟨by rw [(e c (by omega)).1]; exact d1.1, d1.2⟩, d2, by show h' (c + 4) = _; rw [(e (c + 4) (by omega)).1]; exact d3, l1, d5.ag k (Nat.le_refl _), chI.ag k (Nat.le_refl _) H pv d6, d7.ag k (Nat.le_refl _) (e _ (by omega)).1⟩
theorem scC_clF {ι' : Nat → Nat → Int32} (hb : b = c + 41) (f : fr (scC c) ι ι') : clF b h h ι ι' := fun a a1 _ => ⟨rfl, f a (by unfold scC; omega)⟩
theorem up_clF {k : Nat} {v : Int32} (hb : b = c + 41) : clF b h h ι (rz_up ι c k v) := fun a a1 _ => ⟨rfl, rz_up_n (by omega)⟩
-- the small calls
theorem ci_worksDone (i : CI Z h ι nx c b n pl R C K H G ld rs ns il) : rz_f Z (d + 1) 165 [.ref c] (rz_mk h ι, w) = some (.inl (some (.int (nI H.length))), (rz_mk h ι, w)) := by
  obtain ⟨i1, i2, i3, i4, i5, i6, i7, l, l', r, pv, d1, d2, d3, d4, d5, d6, d7⟩ := i
  cases H with
  | nil =>
    have e : pv = .null := d6
    subst e
    rw [e165]
    simp (decide := true) (maxDischargeDepth := 4) only [g165_0, g165_1, g165_4, g165_4n, g165_7, g165_8, g165_11, g165_12, g165_15, g165_18, rz_k_inl, rz_k_inr, Option.toList_some, Option.toList_none, List.cons_append, List.nil_append, List.append_nil, rz_up_s, rz_u_s, rz_up_n, rz_u_n, ne_eq, not_false_eq_true, not_true_eq_false, Nat.add_assoc, Nat.reduceAdd, reduceIte, Nat.add_eq_left, Nat.left_eq_add, Nat.add_left_cancel_iff, Nat.reduceEqDiff, Nat.add_right_cancel_iff, rz_nb0, rz_nb1, rz_nbb, rz_nbi, rz_isr, rz_zle, if_true, if_false, rz_bi0, rz_bi1, Bool.not_eq_true, Bool.not_eq_false, Bool.true_eq_false, Bool.false_eq_true, rz_ix_lit, cl_lit, Nat.reduceLT, bi_t, bi_f, decide_true, decide_false, Bool.not_false, Bool.not_true, Bool.and_true, Bool.true_and, Bool.and_false, Bool.false_and, oHr_c d1, oHr_f0 d1, oHr_v0 d1, oHr_f1 d1, oHr_v1 d1, oHr_f2 d1, oHr_v2 d1, oHr_f3 d1, oHr_v3 d1, oHr_f4 d1, oHr_v4 d1, oHr_f5 d1, oHr_v5 d1, oHr_f6 d1, oHr_v6 d1, oHr_f7 d1, oHr_v7 d1, oHr_f8 d1, oHr_v8 d1, oHr_f9 d1, oHr_v9 d1, oHr_f10 d1, oHr_v10 d1, oHr_f11 d1, oHr_v11 d1, oHr_f12 d1, oHr_v12 d1, oHr_i13 d1, oHr_i14 d1, oHr_i15 d1, oHr_i16 d1, oHr_i17 d1, d1]
    rfl
  | cons R' H =>
    obtain ⟨a, r', pv', j1, j2, j3, j4, j5, j6, j7⟩ := d6
    subst j1
    rw [e165]
    simp (decide := true) (maxDischargeDepth := 4) only [g165_0, g165_1, g165_4, g165_4n, g165_7, g165_8, g165_11, g165_12, g165_15, g165_18, rz_k_inl, rz_k_inr, Option.toList_some, Option.toList_none, List.cons_append, List.nil_append, List.append_nil, rz_up_s, rz_u_s, rz_up_n, rz_u_n, ne_eq, not_false_eq_true, not_true_eq_false, Nat.add_assoc, Nat.reduceAdd, reduceIte, Nat.add_eq_left, Nat.left_eq_add, Nat.add_left_cancel_iff, Nat.reduceEqDiff, Nat.add_right_cancel_iff, rz_nb0, rz_nb1, rz_nbb, rz_nbi, rz_isr, rz_zle, if_true, if_false, rz_bi0, rz_bi1, Bool.not_eq_true, Bool.not_eq_false, Bool.true_eq_false, Bool.false_eq_true, rz_ix_lit, cl_lit, Nat.reduceLT, bi_t, bi_f, decide_true, decide_false, Bool.not_false, Bool.not_true, Bool.and_true, Bool.true_and, Bool.and_false, Bool.false_and, oHr_c d1, oHr_f0 d1, oHr_v0 d1, oHr_f1 d1, oHr_v1 d1, oHr_f2 d1, oHr_v2 d1, oHr_f3 d1, oHr_v3 d1, oHr_f4 d1, oHr_v4 d1, oHr_f5 d1, oHr_v5 d1, oHr_f6 d1, oHr_v6 d1, oHr_f7 d1, oHr_v7 d1, oHr_f8 d1, oHr_v8 d1, oHr_f9 d1, oHr_v9 d1, oHr_f10 d1, oHr_v10 d1, oHr_f11 d1, oHr_v11 d1, oHr_f12 d1, oHr_v12 d1, oHr_i13 d1, oHr_i14 d1, oHr_i15 d1, oHr_i16 d1, oHr_i17 d1, oMm_c j2, oMm_f0 j2, oMm_v0 j2, oMm_f1 j2, oMm_v1 j2, oMm_i2 j2, d1, j2, j5]
    rfl
theorem ci_fault (i : CI Z h ι nx c b n pl R C K H G ld rs ns il) : rz_f Z (d + 1) 125 [.ref c] (rz_mk h ι, w) = some (.inl (some (.int pl)), (rz_mk h ι, w)) := by
  obtain ⟨i1, i2, i3, i4, ⟨p1, -⟩, i6, ⟨f1, f2, f3, f4, f5, f6, f7, -⟩, l, l', r, pv, d1, -⟩ := i
  rw [e125]
  simp (decide := true) (maxDischargeDepth := 4) only [g125_0, g125_1, g125_4, g125_7, rz_k_inl, rz_k_inr, Option.toList_some, Option.toList_none, List.cons_append, List.nil_append, List.append_nil, rz_up_s, rz_u_s, rz_up_n, rz_u_n, ne_eq, not_false_eq_true, not_true_eq_false, Nat.add_assoc, Nat.reduceAdd, reduceIte, Nat.add_eq_left, Nat.left_eq_add, Nat.add_left_cancel_iff, Nat.reduceEqDiff, Nat.add_right_cancel_iff, rz_nb0, rz_nb1, rz_nbb, rz_nbi, rz_isr, rz_zle, if_true, if_false, rz_bi0, rz_bi1, Bool.not_eq_true, Bool.not_eq_false, Bool.true_eq_false, Bool.false_eq_true, rz_ix_lit, cl_lit, Nat.reduceLT, bi_t, bi_f, decide_true, decide_false, Bool.not_false, Bool.not_true, Bool.and_true, Bool.true_and, Bool.and_false, Bool.false_and, oHr_c d1, oHr_f0 d1, oHr_v0 d1, oHr_f1 d1, oHr_v1 d1, oHr_f2 d1, oHr_v2 d1, oHr_f3 d1, oHr_v3 d1, oHr_f4 d1, oHr_v4 d1, oHr_f5 d1, oHr_v5 d1, oHr_f6 d1, oHr_v6 d1, oHr_f7 d1, oHr_v7 d1, oHr_f8 d1, oHr_v8 d1, oHr_f9 d1, oHr_v9 d1, oHr_f10 d1, oHr_v10 d1, oHr_f11 d1, oHr_v11 d1, oHr_f12 d1, oHr_v12 d1, oHr_i13 d1, oHr_i14 d1, oHr_i15 d1, oHr_i16 d1, oHr_i17 d1, oTp_c, oTp_f0, oTp_v0, oTp_i1, oTp_i2, oTp_i3, oTp_i4, oTp_i5, oTp_i6, oTp_a1, oTp_n1, d1, p1, f7]
theorem ci_status (i : CI Z h ι nx c b n pl R C K H G ld rs ns il) (x : Int32) : rz_f Z (d + 1) 159 [.ref c, .int x] (rz_mk h ι, w) = some (.inl (some (.int (if x = 0 then ns else if x = 1 then il else -1))), (rz_mk h ι, w)) := by
  obtain ⟨i1, i2, i3, i4, i5, i6, ⟨f1, f2, f3, f4, f5, -⟩, l, l', r, pv, d1, -⟩ := i
  rw [e159]
  by_cases h0 : x = 0
  · rw [if_pos h0]
    simp (decide := true) (maxDischargeDepth := 4) only [g159_0, g159_1, g159_4, g159_5, g159_8, g159_9, g159_10, g159_11, g159_14, g159_15, g159_18, g159_21, g159_22, rz_k_inl, rz_k_inr, Option.toList_some, Option.toList_none, List.cons_append, List.nil_append, List.append_nil, rz_up_s, rz_u_s, rz_up_n, rz_u_n, ne_eq, not_false_eq_true, not_true_eq_false, Nat.add_assoc, Nat.reduceAdd, reduceIte, Nat.add_eq_left, Nat.left_eq_add, Nat.add_left_cancel_iff, Nat.reduceEqDiff, Nat.add_right_cancel_iff, rz_nb0, rz_nb1, rz_nbb, rz_nbi, rz_isr, rz_zle, if_true, if_false, rz_bi0, rz_bi1, Bool.not_eq_true, Bool.not_eq_false, Bool.true_eq_false, Bool.false_eq_true, rz_ix_lit, cl_lit, Nat.reduceLT, bi_t, bi_f, decide_true, decide_false, Bool.not_false, Bool.not_true, Bool.and_true, Bool.true_and, Bool.and_false, Bool.false_and, oHr_c d1, oHr_f0 d1, oHr_v0 d1, oHr_f1 d1, oHr_v1 d1, oHr_f2 d1, oHr_v2 d1, oHr_f3 d1, oHr_v3 d1, oHr_f4 d1, oHr_v4 d1, oHr_f5 d1, oHr_v5 d1, oHr_f6 d1, oHr_v6 d1, oHr_f7 d1, oHr_v7 d1, oHr_f8 d1, oHr_v8 d1, oHr_f9 d1, oHr_v9 d1, oHr_f10 d1, oHr_v10 d1, oHr_f11 d1, oHr_v11 d1, oHr_f12 d1, oHr_v12 d1, oHr_i13 d1, oHr_i14 d1, oHr_i15 d1, oHr_i16 d1, oHr_i17 d1, d1, h0, f4]
  · rw [if_neg h0]
    by_cases h1 : x = 1
    · rw [if_pos h1]
      simp (decide := true) (maxDischargeDepth := 4) only [g159_0, g159_1, g159_4, g159_5, g159_8, g159_9, g159_10, g159_11, g159_14, g159_15, g159_18, g159_21, g159_22, rz_k_inl, rz_k_inr, Option.toList_some, Option.toList_none, List.cons_append, List.nil_append, List.append_nil, rz_up_s, rz_u_s, rz_up_n, rz_u_n, ne_eq, not_false_eq_true, not_true_eq_false, Nat.add_assoc, Nat.reduceAdd, reduceIte, Nat.add_eq_left, Nat.left_eq_add, Nat.add_left_cancel_iff, Nat.reduceEqDiff, Nat.add_right_cancel_iff, rz_nb0, rz_nb1, rz_nbb, rz_nbi, rz_isr, rz_zle, if_true, if_false, rz_bi0, rz_bi1, Bool.not_eq_true, Bool.not_eq_false, Bool.true_eq_false, Bool.false_eq_true, rz_ix_lit, cl_lit, Nat.reduceLT, bi_t, bi_f, decide_true, decide_false, Bool.not_false, Bool.not_true, Bool.and_true, Bool.true_and, Bool.and_false, Bool.false_and, oHr_c d1, oHr_f0 d1, oHr_v0 d1, oHr_f1 d1, oHr_v1 d1, oHr_f2 d1, oHr_v2 d1, oHr_f3 d1, oHr_v3 d1, oHr_f4 d1, oHr_v4 d1, oHr_f5 d1, oHr_v5 d1, oHr_f6 d1, oHr_v6 d1, oHr_f7 d1, oHr_v7 d1, oHr_f8 d1, oHr_v8 d1, oHr_f9 d1, oHr_v9 d1, oHr_f10 d1, oHr_v10 d1, oHr_f11 d1, oHr_v11 d1, oHr_f12 d1, oHr_v12 d1, oHr_i13 d1, oHr_i14 d1, oHr_i15 d1, oHr_i16 d1, oHr_i17 d1, d1, h1, f5, show ¬ ((1 : Int32) = 0) by decide]
    · rw [if_neg h1]
      simp (decide := true) (maxDischargeDepth := 4) only [g159_0, g159_1, g159_4, g159_5, g159_8, g159_9, g159_10, g159_11, g159_14, g159_15, g159_18, g159_21, g159_22, rz_k_inl, rz_k_inr, Option.toList_some, Option.toList_none, List.cons_append, List.nil_append, List.append_nil, rz_up_s, rz_u_s, rz_up_n, rz_u_n, ne_eq, not_false_eq_true, not_true_eq_false, Nat.add_assoc, Nat.reduceAdd, reduceIte, Nat.add_eq_left, Nat.left_eq_add, Nat.add_left_cancel_iff, Nat.reduceEqDiff, Nat.add_right_cancel_iff, rz_nb0, rz_nb1, rz_nbb, rz_nbi, rz_isr, rz_zle, if_true, if_false, rz_bi0, rz_bi1, Bool.not_eq_true, Bool.not_eq_false, Bool.true_eq_false, Bool.false_eq_true, rz_ix_lit, cl_lit, Nat.reduceLT, bi_t, bi_f, decide_true, decide_false, Bool.not_false, Bool.not_true, Bool.and_true, Bool.true_and, Bool.and_false, Bool.false_and, oHr_c d1, oHr_f0 d1, oHr_v0 d1, oHr_f1 d1, oHr_v1 d1, oHr_f2 d1, oHr_v2 d1, oHr_f3 d1, oHr_v3 d1, oHr_f4 d1, oHr_v4 d1, oHr_f5 d1, oHr_v5 d1, oHr_f6 d1, oHr_v6 d1, oHr_f7 d1, oHr_v7 d1, oHr_f8 d1, oHr_v8 d1, oHr_f9 d1, oHr_v9 d1, oHr_f10 d1, oHr_v10 d1, oHr_f11 d1, oHr_v11 d1, oHr_f12 d1, oHr_v12 d1, oHr_i13 d1, oHr_i14 d1, oHr_i15 d1, oHr_i16 d1, oHr_i17 d1, d1, h0, h1]
theorem ci_count (i : CI Z h ι nx c b n pl R C K H G ld rs ns il) (x : Int32) : rz_f Z (d + 2) 160 [.ref c, .int x] (rz_mk h ι, w) = some (.inl (some (.int (if x = 0 then nI G.length else if x = 1 then nI n else if x = 2 then nI H.length else -1))), (rz_mk h ι, w)) := by
  have wd := ci_worksDone (d := d) (w := w) i
  obtain ⟨i1, i2, i3, i4, ⟨p1, -⟩, i6, ⟨f1, f2, f3, f4, f5, f6, -⟩, l, l', r, pv, d1, -⟩ := i
  rw [e160]
  by_cases h0 : x = 0
  · rw [if_pos h0]
    simp (decide := true) (maxDischargeDepth := 4) only [g160_0, g160_1, g160_28, g160_29, g160_32, g160_33, g160_34, g160_37, g160_40, g160_41, g160_42, g160_45, g160_46, g160_47, rz_k_inl, rz_k_inr, Option.toList_some, Option.toList_none, List.cons_append, List.nil_append, List.append_nil, rz_up_s, rz_u_s, rz_up_n, rz_u_n, ne_eq, not_false_eq_true, not_true_eq_false, Nat.add_assoc, Nat.reduceAdd, reduceIte, Nat.add_eq_left, Nat.left_eq_add, Nat.add_left_cancel_iff, Nat.reduceEqDiff, Nat.add_right_cancel_iff, rz_nb0, rz_nb1, rz_nbb, rz_nbi, rz_isr, rz_zle, if_true, if_false, rz_bi0, rz_bi1, Bool.not_eq_true, Bool.not_eq_false, Bool.true_eq_false, Bool.false_eq_true, rz_ix_lit, cl_lit, Nat.reduceLT, bi_t, bi_f, decide_true, decide_false, Bool.not_false, Bool.not_true, Bool.and_true, Bool.true_and, Bool.and_false, Bool.false_and, oHr_c d1, oHr_f0 d1, oHr_v0 d1, oHr_f1 d1, oHr_v1 d1, oHr_f2 d1, oHr_v2 d1, oHr_f3 d1, oHr_v3 d1, oHr_f4 d1, oHr_v4 d1, oHr_f5 d1, oHr_v5 d1, oHr_f6 d1, oHr_v6 d1, oHr_f7 d1, oHr_v7 d1, oHr_f8 d1, oHr_v8 d1, oHr_f9 d1, oHr_v9 d1, oHr_f10 d1, oHr_v10 d1, oHr_f11 d1, oHr_v11 d1, oHr_f12 d1, oHr_v12 d1, oHr_i13 d1, oHr_i14 d1, oHr_i15 d1, oHr_i16 d1, oHr_i17 d1, d1, h0, f1]
  · rw [if_neg h0]
    by_cases h1 : x = 1
    · rw [if_pos h1]
      simp (decide := true) (maxDischargeDepth := 4) only [g160_0, g160_1, g160_28, g160_29, g160_32, g160_33, g160_34, g160_37, g160_40, g160_41, g160_42, g160_45, g160_46, g160_47, rz_k_inl, rz_k_inr, Option.toList_some, Option.toList_none, List.cons_append, List.nil_append, List.append_nil, rz_up_s, rz_u_s, rz_up_n, rz_u_n, ne_eq, not_false_eq_true, not_true_eq_false, Nat.add_assoc, Nat.reduceAdd, reduceIte, Nat.add_eq_left, Nat.left_eq_add, Nat.add_left_cancel_iff, Nat.reduceEqDiff, Nat.add_right_cancel_iff, rz_nb0, rz_nb1, rz_nbb, rz_nbi, rz_isr, rz_zle, if_true, if_false, rz_bi0, rz_bi1, Bool.not_eq_true, Bool.not_eq_false, Bool.true_eq_false, Bool.false_eq_true, rz_ix_lit, cl_lit, Nat.reduceLT, bi_t, bi_f, decide_true, decide_false, Bool.not_false, Bool.not_true, Bool.and_true, Bool.true_and, Bool.and_false, Bool.false_and, oHr_c d1, oHr_f0 d1, oHr_v0 d1, oHr_f1 d1, oHr_v1 d1, oHr_f2 d1, oHr_v2 d1, oHr_f3 d1, oHr_v3 d1, oHr_f4 d1, oHr_v4 d1, oHr_f5 d1, oHr_v5 d1, oHr_f6 d1, oHr_v6 d1, oHr_f7 d1, oHr_v7 d1, oHr_f8 d1, oHr_v8 d1, oHr_f9 d1, oHr_v9 d1, oHr_f10 d1, oHr_v10 d1, oHr_f11 d1, oHr_v11 d1, oHr_f12 d1, oHr_v12 d1, oHr_i13 d1, oHr_i14 d1, oHr_i15 d1, oHr_i16 d1, oHr_i17 d1, oTp_c, oTp_f0, oTp_v0, oTp_i1, oTp_i2, oTp_i3, oTp_i4, oTp_i5, oTp_i6, oTp_a1, oTp_n1, d1, p1, h1, f6, show ¬ ((1 : Int32) = 0) by decide]
    · rw [if_neg h1]
      by_cases h2 : x = 2
      · rw [if_pos h2]
        simp (decide := true) (maxDischargeDepth := 4) only [g160_0, g160_1, g160_28, g160_29, g160_32, g160_33, g160_34, g160_37, g160_40, g160_41, g160_42, g160_45, g160_46, g160_47, rz_k_inl, rz_k_inr, Option.toList_some, Option.toList_none, List.cons_append, List.nil_append, List.append_nil, rz_up_s, rz_u_s, rz_up_n, rz_u_n, ne_eq, not_false_eq_true, not_true_eq_false, Nat.add_assoc, Nat.reduceAdd, reduceIte, Nat.add_eq_left, Nat.left_eq_add, Nat.add_left_cancel_iff, Nat.reduceEqDiff, Nat.add_right_cancel_iff, rz_nb0, rz_nb1, rz_nbb, rz_nbi, rz_isr, rz_zle, if_true, if_false, rz_bi0, rz_bi1, Bool.not_eq_true, Bool.not_eq_false, Bool.true_eq_false, Bool.false_eq_true, rz_ix_lit, cl_lit, Nat.reduceLT, bi_t, bi_f, decide_true, decide_false, Bool.not_false, Bool.not_true, Bool.and_true, Bool.true_and, Bool.and_false, Bool.false_and, oHr_c d1, oHr_f0 d1, oHr_v0 d1, oHr_f1 d1, oHr_v1 d1, oHr_f2 d1, oHr_v2 d1, oHr_f3 d1, oHr_v3 d1, oHr_f4 d1, oHr_v4 d1, oHr_f5 d1, oHr_v5 d1, oHr_f6 d1, oHr_v6 d1, oHr_f7 d1, oHr_v7 d1, oHr_f8 d1, oHr_v8 d1, oHr_f9 d1, oHr_v9 d1, oHr_f10 d1, oHr_v10 d1, oHr_f11 d1, oHr_v11 d1, oHr_f12 d1, oHr_v12 d1, oHr_i13 d1, oHr_i14 d1, oHr_i15 d1, oHr_i16 d1, oHr_i17 d1, d1, h2, wd, show ¬ ((2 : Int32) = 0) by decide, show ¬ ((2 : Int32) = 1) by decide]
      · rw [if_neg h2]
        simp (decide := true) (maxDischargeDepth := 4) only [g160_0, g160_1, g160_28, g160_29, g160_32, g160_33, g160_34, g160_37, g160_40, g160_41, g160_42, g160_45, g160_46, g160_47, rz_k_inl, rz_k_inr, Option.toList_some, Option.toList_none, List.cons_append, List.nil_append, List.append_nil, rz_up_s, rz_u_s, rz_up_n, rz_u_n, ne_eq, not_false_eq_true, not_true_eq_false, Nat.add_assoc, Nat.reduceAdd, reduceIte, Nat.add_eq_left, Nat.left_eq_add, Nat.add_left_cancel_iff, Nat.reduceEqDiff, Nat.add_right_cancel_iff, rz_nb0, rz_nb1, rz_nbb, rz_nbi, rz_isr, rz_zle, if_true, if_false, rz_bi0, rz_bi1, Bool.not_eq_true, Bool.not_eq_false, Bool.true_eq_false, Bool.false_eq_true, rz_ix_lit, cl_lit, Nat.reduceLT, bi_t, bi_f, decide_true, decide_false, Bool.not_false, Bool.not_true, Bool.and_true, Bool.true_and, Bool.and_false, Bool.false_and, oHr_c d1, oHr_f0 d1, oHr_v0 d1, oHr_f1 d1, oHr_v1 d1, oHr_f2 d1, oHr_v2 d1, oHr_f3 d1, oHr_v3 d1, oHr_f4 d1, oHr_v4 d1, oHr_f5 d1, oHr_v5 d1, oHr_f6 d1, oHr_v6 d1, oHr_f7 d1, oHr_v7 d1, oHr_f8 d1, oHr_v8 d1, oHr_f9 d1, oHr_v9 d1, oHr_f10 d1, oHr_v10 d1, oHr_f11 d1, oHr_v11 d1, oHr_f12 d1, oHr_v12 d1, oHr_i13 d1, oHr_i14 d1, oHr_i15 d1, oHr_i16 d1, oHr_i17 d1, d1, h0, h1, h2]
end CI1
