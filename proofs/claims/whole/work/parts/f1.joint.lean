/-! both sides over one abstract state -/
abbrev XS : Type := (Nat × Int32) × (Nat → Int32) × (List (Nat × Nat) × List (Nat × Nat)) × (List (Nat → Int32) × List ((Nat → Int32) × List (Nat → Int32))) × (Int32 × Int32 × Int32 × Int32) × (Nat → Int32)
def okS (X : XS) : Prop := okX X.1.1 X.2.1 X.2.2.1.1 X.2.2.1.2 X.2.2.2.1.1 X.2.2.2.1.2 ∧ ∀ q, X.2.2.2.2.2 q ≠ -1
def CX (Z : rx_Z) (h : Nat → Option rx_E) (ι : Nat → Nat → Int32) (nx c b : Nat) (X : XS) : Prop := CI Z h ι nx c b X.1.1 X.1.2 X.2.1 X.2.2.1.1 X.2.2.1.2 X.2.2.2.1.1 X.2.2.2.1.2 X.2.2.2.2.1.1 X.2.2.2.2.1.2.1 X.2.2.2.2.1.2.2.1 X.2.2.2.2.1.2.2.2 ∧ ι (c + 2) = X.2.2.2.2.2
def MX (Z : rx_Z) (h : Nat → Option rx_E) (ι : Nat → Nat → Int32) (b : Nat) (X : XS) : Prop := MI Z h ι b X.1.1 X.1.2 X.2.1 X.2.2.1.1 X.2.2.1.2 X.2.2.2.1.1 X.2.2.2.1.2 X.2.2.2.2.1.1 X.2.2.2.2.1.2.1 X.2.2.2.2.1.2.2.1 X.2.2.2.2.1.2.2.2 ∧ ι (b + 1) = X.2.2.2.2.2
/-- one more refusal -/
def xIl (X : XS) : XS := (X.1, X.2.1, X.2.2.1, X.2.2.2.1, (X.2.2.2.2.1.1, X.2.2.2.2.1.2.1, X.2.2.2.2.1.2.2.1, X.2.2.2.2.1.2.2.2 + 1), X.2.2.2.2.2)
def xNs (X : XS) : XS := (X.1, X.2.1, X.2.2.1, X.2.2.2.1, (X.2.2.2.2.1.1, X.2.2.2.2.1.2.1, X.2.2.2.2.1.2.2.1 + 1, X.2.2.2.2.1.2.2.2), X.2.2.2.2.2)
def ouC (o : Value ⊕ Nat) := match o with
  | .inl v => (Sum.inl (some v))
  | .inr k => (Sum.inr (rx_xn k))
/-- what a call of the class comes to -/
def CLq (Z : rx_Z) (D mi : Nat) (vs : List Value) (c b : Nat) (X : XS) (o : Value ⊕ Nat) (X' : XS) : Prop := ∀ (h : Nat → Option rx_E) (ι : Nat → Nat → Int32) (w : Nat × Nat) (nx : Nat), nx ≤ w.1 → CX Z h ι nx c b X → ∃ h' ι' w', rz_f Z D mi (.ref c :: vs) (rz_mk h ι, w) = some (ouC o, (rz_mk h' ι', w')) ∧ w.1 ≤ w'.1 ∧ w'.1 ≤ w.1 + 5 ∧ w'.2 ≤ w.2 + 68 ∧ CX Z h' ι' w'.1 c b X' ∧ clF b h h' ι ι'
/-- what a call of the reference comes to: x says which catch it names -/
def MRq (Z : rx_Z) (D mi : Nat) (vs : List Value) (b : Nat) (X : XS) (o : Value ⊕ Nat) (x : Int32) (X' : XS) : Prop := ∀ (h : Nat → Option rx_E) (ι : Nat → Nat → Int32) (w : Nat × Nat), MX Z h ι b X → ∃ v h' ι', rz_f Z D mi (.ref b :: vs) (rz_mk h ι, w) = some (.inl (some v), (rz_mk h' ι', w)) ∧ MX Z h' ι' b X' ∧ mdF b h h' ι ι' ∧ ι' b 0 = x ∧ (∀ v0, o = .inl v0 → v = v0) ∧ (∀ k, o = .inr k → v = if mi = 261 then .long 0 else .int 0)
section JNT
variable {Z : rx_Z} {D mi c b m lv : Nat} {vs : List Value} {X : XS} {dk : Option Nat} {v : Int32}
theorem CI.qc2 {h : Nat → Option rx_E} {ι : Nat → Nat → Int32} {nx n : Nat} {pl : Int32} {R : Nat → Int32} {C K : List (Nat × Nat)} {H : List (Nat → Int32)} {G : List ((Nat → Int32) × List (Nat → Int32))} {ld rs ns il : Int32} (i : CI Z h ι nx c b n pl R C K H G ld rs ns il) (ho : okR R m dk lv) : ∃ l r, QC Z h ι c l r (efL C) R m dk lv := by
  obtain ⟨i1, i2, i3, i4, ⟨p1, p2, p3, p4, p5, p6, p7, p8, p9, p10⟩, -, -, l, l', r, pv, d1, d2, d3, d4, ⟨e1, e2, e3, e4⟩, -⟩ := i
  refine ⟨l, r, i1, ⟨pv, d1⟩, by omega, by omega, ?_, e1, p4, p5, p6, p7, p8, d4, e2, ho⟩
  rcases d2 with ⟨z, -⟩ | ⟨z, -⟩
  · rw [z]; exact p9
  · rw [z]; exact p10
theorem MI.qm2 {h : Nat → Option rx_E} {ι : Nat → Nat → Int32} {n : Nat} {pl : Int32} {R : Nat → Int32} {C K : List (Nat × Nat)} {H : List (Nat → Int32)} {G : List ((Nat → Int32) × List (Nat → Int32))} {ld rs ns il : Int32} (i : MI Z h ι b n pl R C K H G ld rs ns il) (ho : okR R m dk lv) : QM Z h ι b C R m dk lv := by
  obtain ⟨i1, i2, i3, -, i5, i6, i7, -⟩ := i
  exact ⟨i1, i2, i5, i7, ho⟩
theorem CLq.ans (ho : okR X.2.1 m dk lv) (f : ∀ (h : Nat → Option rx_E) (ι : Nat → Nat → Int32) (w : Nat × Nat) (nx l r : Nat), CX Z h ι nx c b X → QC Z h ι c l r (efL X.2.2.1.1) X.2.1 m dk lv → ansC Z D h ι w c mi vs v) : CLq Z D mi vs c b X (.inl (.int v)) X := by
  intro h ι w nx hw i
  obtain ⟨l, r, q⟩ := i.1.qc2 ho
  obtain ⟨ι', a1, a2⟩ := f h ι w nx l r i q
  have hb : b = c + 41 := i.1.2.1
  exact ⟨h, ι', w, a1, Nat.le_refl _, by omega, by omega, ⟨(i.1.fr a2).more hw, (a2 (c + 2) (by unfold scC; omega)).trans i.2⟩, scC_clF hb a2⟩
theorem CLq.ill (ho : okR X.2.1 m dk lv) (f : ∀ (h : Nat → Option rx_E) (ι : Nat → Nat → Int32) (w : Nat × Nat) (nx l r : Nat), CX Z h ι nx c b X → QC Z h ι c l r (efL X.2.2.1.1) X.2.1 m dk lv → refC Z D h ι w c mi vs 0) : CLq Z D mi vs c b X (.inr 0) (xIl X) := by
  intro h ι w nx hw i
  obtain ⟨l, r, q⟩ := i.1.qc2 ho
  have a1 := f h ι w nx l r i q
  have hb : b = c + 41 := i.1.2.1
  exact ⟨h, _, w, a1, Nat.le_refl _, by omega, by omega, ⟨(i.1.ref0).more hw, (rz_up_n (by omega)).trans i.2⟩, up_clF hb⟩
theorem CLq.non (ho : okR X.2.1 m dk lv) (f : ∀ (h : Nat → Option rx_E) (ι : Nat → Nat → Int32) (w : Nat × Nat) (nx l r : Nat), CX Z h ι nx c b X → QC Z h ι c l r (efL X.2.2.1.1) X.2.1 m dk lv → refC Z D h ι w c mi vs 1) : CLq Z D mi vs c b X (.inr 1) (xNs X) := by
  intro h ι w nx hw i
  obtain ⟨l, r, q⟩ := i.1.qc2 ho
  have a1 := f h ι w nx l r i q
  have hb : b = c + 41 := i.1.2.1
  exact ⟨h, _, w, a1, Nat.le_refl _, by omega, by omega, ⟨(i.1.ref1).more hw, (rz_up_n (by omega)).trans i.2⟩, up_clF hb⟩
theorem MRq.ans (ho : okR X.2.1 m dk lv) (f : ∀ (h : Nat → Option rx_E) (ι : Nat → Nat → Int32) (w : Nat × Nat), MX Z h ι b X → QM Z h ι b X.2.2.1.1 X.2.1 m dk lv → ansM Z D h ι w b mi vs v) : MRq Z D mi vs b X (.inl (.int v)) 0 X := by
  intro h ι w i
  obtain ⟨ι', a1, a2, a3⟩ := f h ι w i (i.1.qm2 ho)
  exact ⟨.int v, h, ι', a1, ⟨i.1.fr a2, (a2.1 (b + 1) (by omega) (by unfold scM mdS; omega)).trans i.2⟩, a2.mdF, a3, fun v0 e => Sum.inl.inj e, fun k e => (by cases e)⟩
theorem MRq.ill {x : Int32} (ho : okR X.2.1 m dk lv) (f : ∀ (h : Nat → Option rx_E) (ι : Nat → Nat → Int32) (w : Nat × Nat), MX Z h ι b X → QM Z h ι b X.2.2.1.1 X.2.1 m dk lv → refM Z D h ι w b mi vs x 1) (hmi : mi ≠ 261 := by decide) : MRq Z D mi vs b X (.inr 0) x (xIl X) := by
  intro h ι w i
  have a1 := f h ι w i (i.1.qm2 ho)
  obtain ⟨r1, r2, r3, r4⟩ := i.1.ref (x := x)
  refine ⟨.int 0, h, _, a1, ⟨r1, ?_⟩, r3 1, r4 1, fun v0 e => (by cases e), fun _ _ => (if_neg hmi).symm⟩
  unfold rfM; rw [rz_up_n (by omega), rz_up_n (by omega)]; exact i.2
theorem MRq.non {x : Int32} (ho : okR X.2.1 m dk lv) (f : ∀ (h : Nat → Option rx_E) (ι : Nat → Nat → Int32) (w : Nat × Nat), MX Z h ι b X → QM Z h ι b X.2.2.1.1 X.2.1 m dk lv → refM Z D h ι w b mi vs x 0) (hmi : mi ≠ 261 := by decide) : MRq Z D mi vs b X (.inr 1) x (xNs X) := by
  intro h ι w i
  have a1 := f h ι w i (i.1.qm2 ho)
  obtain ⟨r1, r2, r3, r4⟩ := i.1.ref (x := x)
  refine ⟨.int 0, h, _, a1, ⟨r2, ?_⟩, r3 0, r4 0, fun v0 e => (by cases e), fun _ _ => (if_neg hmi).symm⟩
  unfold rfM; rw [rz_up_n (by omega), rz_up_n (by omega)]; exact i.2
/-- what may come out: t = 0 one kind of refusal (0), 1 the other (1), 2 both, 3 none, 4 as 0 with a long -/
def okO (t : Nat) (o : Value ⊕ Nat) : Prop := match o with
  | .inl v => (t = 4 ∧ ∃ x, v = .long x) ∨ (t ≠ 4 ∧ ∃ x, v = .int x)
  | .inr k => (t = 0 ∧ k = 0) ∨ (t = 1 ∧ k = 1) ∨ (t = 2 ∧ (k = 0 ∨ k = 1)) ∨ (t = 4 ∧ k = 0)
theorem okO.i {t : Nat} {x : Int32} (h : t ≠ 4) : okO t (.inl (.int x)) := Or.inr ⟨h, x, rfl⟩
theorem okO.l {x : Int64} : okO 4 (.inl (.long x)) := Or.inl ⟨rfl, x, rfl⟩
theorem okO.k0 : okO 0 (.inr 0) := Or.inl ⟨rfl, rfl⟩
theorem okO.k1 : okO 1 (.inr 1) := Or.inr (Or.inl ⟨rfl, rfl⟩)
theorem okO.k20 : okO 2 (.inr 0) := Or.inr (Or.inr (Or.inl ⟨rfl, Or.inl rfl⟩))
theorem okO.k21 : okO 2 (.inr 1) := Or.inr (Or.inr (Or.inl ⟨rfl, Or.inr rfl⟩))
theorem okO.k4 : okO 4 (.inr 0) := Or.inr (Or.inr (Or.inr ⟨rfl, rfl⟩))
/-- both sides alike: one catch (or none), two catches -/
def J1q (t : Nat) (Z : rx_Z) (D mc mm : Nat) (vs : List Value) (c b : Nat) (X : XS) : Prop := ∃ o X', okO t o ∧ CLq Z D mc vs c b X o X' ∧ MRq Z D mm vs b X o (match o with | .inl _ => 0 | .inr _ => 1) X'
def J2q (Z : rx_Z) (D mc mm : Nat) (vs : List Value) (c b : Nat) (X : XS) : Prop := ∃ o X', okO 2 o ∧ CLq Z D mc vs c b X o X' ∧ MRq Z D mm vs b X o (match o with | .inl _ => 0 | .inr k => if k = 1 then 1 else 2) X'
theorem okS.ex (o : okS X) : ∃ m dk lv, okR X.2.1 m dk lv := o.1.2.1
theorem prs_cases {R : Nat → Int32} (x : Int32) (ho : okR R m dk lv) : (∃ p, p < m ∧ x = nI p) ∨ (x < 0 ∨ ¬ x < nI m) := by
  have h8 := ho.2.1
  rcases inB_cases x (n := 8) (by decide) with ⟨p, p1, p2, -⟩ | q
  · by_cases hp : p < m
    · exact Or.inl ⟨p, hp, p2⟩
    · right; right; rw [p2, nI_lt2 (by omega) (by omega)]; exact hp
  · right
    by_cases h0 : x < 0
    · exact Or.inl h0
    · right
      intro hx
      have h1 : nI 8 < x := by
        unfold inB at q
        rw [decide_eq_false h0] at q
        by_cases h2 : nI 8 < x
        · exact h2
        · rw [decide_eq_false h2] at q; exact absurd q (by decide)
      have h3 := Int32.lt_trans h1 hx
      rw [nI_lt2 (by omega) (by omega)] at h3
      omega
end JNT
