/-! texts: what both read alike; the DUKEDOM, and how the class reads it -/
def WDs : List (List Nat) := [[112, 101, 114, 115, 111, 110], [100, 117, 107, 101], [108, 97, 110, 100], [], [108, 101, 97, 115, 116], [109, 111, 115, 116], [110, 111, 115, 101], [116, 101, 109, 112, 101, 114], [99, 97, 116], [102, 101, 105, 110, 116, 115], [97, 103, 101], [114, 101, 105, 103, 110], [121, 101, 97, 114], [112, 101, 114, 115, 111, 110], [97, 103, 97, 105, 110], [102, 101, 105, 103, 110], [100, 114, 111, 112], [98, 105, 114, 116, 104], [100, 105, 101], [121, 101, 97, 114]]
def WD (k : Nat) : List Nat := WDs.getD k []
/-- the texts that are constants -/
def stH (Z : rx_Z) (h : Nat → Option rx_E) : Prop := ∀ k, k < 20 → ∃ v, oSt h (Z.2.2.2 (k + 1)) v (WD k)
def rB {α β φ : Type} (x : α ⊕ φ) (f : α → β ⊕ φ) : β ⊕ φ := match x with
  | .inl a => f a
  | .inr e => .inr e
theorem rB_l {α β φ : Type} (a : α) (f : α → β ⊕ φ) : rB (.inl a : α ⊕ φ) f = f a := rfl
theorem rB_r {α β φ : Type} (e : φ) (f : α → β ⊕ φ) : rB (.inr e : α ⊕ φ) f = .inr e := rfl
def nmN (B : Nat → Int32) (e : Nat) (m : Int32) (p : Nat) : (Nat × Nat) ⊕ (Nat × Nat) := match nmP B e m p with
  | .inl v => .inl (v.1.toNatClampNeg, v.2)
  | .inr f => .inr f
def smP (B : Nat → Int32) (e : Nat) (c : Int32) (p : Nat) : Nat ⊕ (Nat × Nat) := if sg B e (sk B e p) = c then .inl (sk B e p + 1) else .inr (1, sk B e p)
def wdR (B : Nat → Int32) (e p : Nat) : Nat := wdE B (e - sk B e p) (sk B e p)
theorem wdR_le {B : Nat → Int32} {e p : Nat} (h : p ≤ e) : sk B e p ≤ wdR B e p ∧ wdR B e p ≤ e := by
  have h1 := sk_le (B := B) h
  have h2 := wdE_le B (e - sk B e p) (sk B e p)
  unfold wdR
  omega
theorem nmN_ok {B : Nat → Int32} {e p n q : Nat} {m : Int32} (hp : p ≤ e) (h : nmN B e m p = .inl (n, q)) : nmP B e m p = .inl (nI n, q) ∧ n ≤ 10000 ∧ ¬ m < nI n ∧ sk B e p < q ∧ q ≤ e := by
  have hsk := sk_le (B := B) hp
  unfold nmN at h
  cases hn : nmP B e m p with
  | inr f => rw [hn] at h; cases h
  | inl v =>
    rw [hn] at h
    obtain ⟨v, q'⟩ := v
    simp only [Sum.inl.injEq, Prod.mk.injEq] at h
    obtain ⟨h1, h2⟩ := h
    subst h2
    unfold nmP at hn
    split at hn
    · rename_i hD
      split at hn
      · cases hn
      · rename_i hm
        simp only [Sum.inl.injEq, Prod.mk.injEq] at hn
        obtain ⟨-, r2⟩ := dg_rel B (e - sk B e p) (sk B e p) 0 0 (Or.inl ⟨0, by omega, rfl, rfl⟩)
        have hlt : sk B e p < e := by
          apply Decidable.byContradiction
          intro z
          rw [show sg B e (sk B e p) = -1 from if_neg z] at hD
          exact absurd hD (by decide)
        have le := dgW_le dgF1 B (e - sk B e p) (sk B e p) 0
        have ge : sk B e p < (dgW dgF1 B (e - sk B e p) (sk B e p) 0).1 := by
          rw [show e - sk B e p = (e - sk B e p - 1) + 1 by omega, dgW]
          rw [show sg B e (sk B e p) = B (sk B e p) from if_pos hlt] at hD
          rw [if_pos hD]
          have := (dgW_le dgF1 B (e - sk B e p - 1) (sk B e p + 1) (dgF1 0 (B (sk B e p)))).1
          omega
        rw [hn.1] at r2 hm
        rw [hn.2] at le ge
        rcases r2 with ⟨a, a1, a2, -⟩ | ⟨a, -, a1, a2, -, -, a3, -⟩
        · rw [a2, nI_cl (by omega)] at h1
          subst h1
          exact ⟨by rw [a2], by omega, by rw [← a2]; exact hm, ge, by omega⟩
        · rw [a3, nI_cl (by omega)] at h1
          subst h1
          exact ⟨by rw [a3], by omega, by rw [← a3]; exact hm, ge, by omega⟩
    · cases hn
theorem nmN_no {B : Nat → Int32} {e p : Nat} {m : Int32} {f : Nat × Nat} (h : nmN B e m p = .inr f) : nmP B e m p = .inr f := by
  unfold nmN at h
  cases hn : nmP B e m p with
  | inr g => rw [hn] at h; simp only [Sum.inr.injEq] at h; rw [h]
  | inl v => rw [hn] at h; cases h
theorem nmN_f {B : Nat → Int32} {e p : Nat} {m : Int32} {f : Nat × Nat} (h : nmN B e m p = .inr f) : f.1 = 1 ∨ f.1 = 2 := by
  have h := nmN_no h
  unfold nmP at h
  split at h
  · split at h
    · cases h; right; rfl
    · cases h
  · cases h; left; rfl
theorem smP_ok {B : Nat → Int32} {e p q : Nat} {c : Int32} (hp : p ≤ e) (hc : c ≠ -1) (h : smP B e c p = .inl q) : sg B e (sk B e p) = c ∧ q = sk B e p + 1 ∧ q ≤ e := by
  have hsk := sk_le (B := B) hp
  unfold smP at h
  split at h
  · rename_i hs
    cases h
    refine ⟨hs, rfl, ?_⟩
    apply Decidable.byContradiction
    intro z
    rw [show sg B e (sk B e p) = -1 from if_neg (by omega)] at hs
    exact hc hs.symm
  · cases h
theorem smP_no {B : Nat → Int32} {e p : Nat} {c : Int32} {f : Nat × Nat} (h : smP B e c p = .inr f) : sg B e (sk B e p) ≠ c ∧ f = (1, sk B e p) := by
  unfold smP at h
  split at h
  · cases h
  · rename_i hs; cases h; exact ⟨hs, rfl⟩
abbrev P3 : Type := Nat × Nat × Nat
/-- a clause, without its end -/
def dkC0 (B : Nat → Int32) (e cl : Nat) (P : List P3) (dk ld p : Nat) : ((List P3 × Nat × Nat) × Nat) ⊕ (Nat × Nat) :=
  if wdIs B (sk B e p) (wdR B e p) (WD 0) = true then
    (if P.length < 8 ∧ cl < 60 then rB (nmN B e 9 (wdR B e p)) (fun x => rB (nmN B e 9 x.2) (fun y => rB (nmN B e 9 y.2) (fun z => .inl ((P ++ [(x.1, y.1, z.1)], dk, ld), z.2)))) else .inr (3, sk B e p))
  else if wdIs B (sk B e p) (wdR B e p) (WD 1) = true then
    (if cl < 60 then rB (nmN B e (nI P.length - 1) (wdR B e p)) (fun x => .inl ((P, x.1, ld), x.2)) else .inr (3, sk B e p))
  else if wdIs B (sk B e p) (wdR B e p) (WD 2) = true then
    (if cl < 60 then rB (nmN B e 99 (wdR B e p)) (fun x => .inl ((P, dk, x.1), x.2)) else .inr (3, sk B e p))
  else .inr (1, sk B e p)
def dkC (B : Nat → Int32) (e cl : Nat) (P : List P3) (dk ld p : Nat) : ((List P3 × Nat × Nat) × Nat) ⊕ (Nat × Nat) := rB (dkC0 B e cl P dk ld p) (fun s => rB (smP B e 59 s.2) (fun q => .inl (s.1, q)))
/-- all clauses -/
def dkS (B : Nat → Int32) (e : Nat) : Nat → Nat → List P3 → Nat → Nat → Nat → (List P3 × Nat × Nat) ⊕ (Nat × Nat)
  | 0, _, P, dk, ld, _ => .inl (P, dk, ld)
  | k + 1, cl, P, dk, ld, p => if sk B e p < e then rB (dkC B e cl P dk ld (sk B e p)) (fun s => dkS B e k (cl + 1) s.1.1 s.1.2.1 s.1.2.2 s.2) else .inl (P, dk, ld)
def R00 : Nat → Int32 := fun i => if i = 58 then -1 else 0
def dkR (P : List P3) : Nat → Int32 := (P.foldl (fun (s : (Nat → Int32) × Nat) q => (addR s.1 s.2 (nI q.1) (nI q.2.1) (nI q.2.2) 20, s.2 + 1)) (R00, 0)).1
theorem dkR_fold (P : List P3) : ∀ (s : (Nat → Int32) × Nat), (P.foldl (fun (s : (Nat → Int32) × Nat) q => (addR s.1 s.2 (nI q.1) (nI q.2.1) (nI q.2.2) 20, s.2 + 1)) s).2 = s.2 + P.length := by
  induction P with
  | nil => intro s; rfl
  | cons x P ih => intro s; rw [List.foldl_cons, ih, List.length_cons]; dsimp only; omega
theorem dkR_app (P : List P3) (x : P3) : dkR (P ++ [x]) = addR (dkR P) P.length (nI x.1) (nI x.2.1) (nI x.2.2) 20 := by
  unfold dkR
  rw [List.foldl_append]
  show addR _ _ _ _ _ _ = _
  rw [dkR_fold P (R00, 0), Nat.zero_add]
/-- what a text's reading changes: the tape's own place, and some cells -/
def txF (t : Nat) (Q : Nat → Prop) (ι ι' : Nat → Nat → Int32) : Prop := (∀ x, x ≠ t → ¬ Q x → ι' x = ι x) ∧ ι' t 1 = ι t 1 ∧ ι' t 5 = ι t 5
theorem txF.refl (t : Nat) (Q : Nat → Prop) (ι : Nat → Nat → Int32) : txF t Q ι ι := ⟨fun _ _ _ => rfl, rfl, rfl⟩
theorem txF.trans {t : Nat} {Q : Nat → Prop} {ι ι' ι'' : Nat → Nat → Int32} (h1 : txF t Q ι ι') (h2 : txF t Q ι' ι'') : txF t Q ι ι'' := ⟨fun x a1 a2 => (h2.1 x a1 a2).trans (h1.1 x a1 a2), h2.2.1.trans h1.2.1, h2.2.2.trans h1.2.2⟩
theorem txF.tp {t : Nat} {Q : Nat → Prop} {ι ι' : Nat → Nat → Int32} (h : tpF t ι ι') : txF t Q ι ι' := ⟨fun x a1 _ => h.1 x a1, h.2.1, h.2.2⟩
theorem txF.up {t a k : Nat} {Q : Nat → Prop} {ι ι' : Nat → Nat → Int32} {v : Int32} (h : txF t Q ι ι') (ha : Q a) (hat : a ≠ t) : txF t Q ι (rz_up ι' a k v) := ⟨fun x a1 a2 => by rw [rz_up_n (fun e => a2 (by rw [e]; exact ha))]; exact h.1 x a1 a2, by rw [rz_up_n (fun e => hat e.symm)]; exact h.2.1, by rw [rz_up_n (fun e => hat e.symm)]; exact h.2.2⟩
theorem txF.fr {t : Nat} {Q S : Nat → Prop} {ι ι' ι'' : Nat → Nat → Int32} (h : txF t Q ι ι') (hf : fr S ι' ι'') (hs : ∀ x, S x → Q x) (ht : ¬ S t) : txF t Q ι ι'' := ⟨fun x a1 a2 => (hf x (fun z => a2 (hs x z))).trans (h.1 x a1 a2), by rw [hf t ht]; exact h.2.1, by rw [hf t ht]; exact h.2.2⟩
section DUK1
variable {Z : rx_Z} {d : Nat} {h : Nat → Option rx_E} {ι ι0 : Nat → Nat → Int32} {w : Nat × Nat} {t a r : Nat}
theorem tq_word (ht : oTp h t) (hz : Z.2.1 ≤ t) {e p : Nat} (he : ι t 1 = nI e) (hp : ι t 2 = nI p) (hpe : p ≤ e) (he6 : e ≤ 600) : ∃ ι', rz_f Z (d + 2) 100 [.ref t] (rz_mk h ι, w) = some (.inl none, (rz_mk h ι', w)) ∧ tpOk t ι ι' (wdR (ι (t + 1)) e p) ∧ ι' t 3 = nI (sk (ι (t + 1)) e p) := by
  refine ⟨_, tp_word ht hz he hp hpe he6, ⟨⟨fun x hx => by rw [rz_up_n hx, rz_up_n hx], ?_, ?_⟩, ?_, ?_, ?_⟩, ?_⟩
  · rw [rz_up_s, rz_u_n (by omega), rz_up_s, rz_u_n (by omega)]
  · rw [rz_up_s, rz_u_n (by omega), rz_up_s, rz_u_n (by omega)]
  · rw [rz_up_s, rz_u_n (by omega), rz_up_s, rz_u_n (by omega)]
  · rw [rz_up_s, rz_u_n (by omega), rz_up_s, rz_u_n (by omega)]
  · rw [rz_up_s, rz_u_s]; rfl
  · rw [rz_up_s, rz_u_n (by omega), rz_up_s, rz_u_s]
theorem tq_blameT (ht : oTp h t) (hz : Z.2.1 ≤ t) {f q : Nat} (hq : ι t 3 = nI q) : ∃ ι', rz_f Z (d + 1) 92 [.ref t, .int (nI f)] (rz_mk h ι, w) = some (.inl (some (.int 0)), (rz_mk h ι', w)) ∧ tpNo t ι ι' (f, q) := by
  refine ⟨_, tp_blameT ht hz (nI f), ⟨fun x hx => by rw [rz_up_n hx, rz_up_n hx], ?_, ?_⟩, ?_, ?_⟩
  · rw [rz_up_s, rz_u_n (by omega), rz_up_s, rz_u_n (by omega)]
  · rw [rz_up_s, rz_u_n (by omega), rz_up_s, rz_u_n (by omega)]
  · rw [rz_up_s, rz_u_n (by omega), rz_up_s, rz_u_s]
  · rw [rz_up_s, rz_u_s]; exact hq
theorem tq_needs_ok (ht : oTp h t) (hz : Z.2.1 ≤ t) {e p q : Nat} (he : ι t 1 = nI e) (hp : ι t 2 = nI p) (hpe : p ≤ e) (he6 : e ≤ 600) {c : Int32} (hc : c ≠ -1) (hs : smP (ι (t + 1)) e c p = .inl q) : ∃ ι', rz_f Z (d + 2) 96 [.ref t, .int c] (rz_mk h ι, w) = some (.inl (some (.int 1)), (rz_mk h ι', w)) ∧ tpOk t ι ι' q := by
  obtain ⟨s1, s2, s3⟩ := smP_ok hpe hc hs
  have := tp_needs (Z := Z) (d := d) (w := w) ht hz he hp hpe he6 c
  rw [if_pos s1, ← s2] at this
  refine ⟨_, this, ⟨fun x hx => by rw [rz_up_n hx], ?_, ?_⟩, ?_, ?_, ?_⟩
  · rw [rz_up_s, rz_u_n (by omega)]
  · rw [rz_up_s, rz_u_n (by omega)]
  · rw [rz_up_s, rz_u_n (by omega)]
  · rw [rz_up_s, rz_u_n (by omega)]
  · rw [rz_up_s, rz_u_s]
theorem tq_needs_no (ht : oTp h t) (hz : Z.2.1 ≤ t) {e p : Nat} (he : ι t 1 = nI e) (hp : ι t 2 = nI p) (hpe : p ≤ e) (he6 : e ≤ 600) {c : Int32} {f : Nat × Nat} (hs : smP (ι (t + 1)) e c p = .inr f) : ∃ ι', rz_f Z (d + 2) 96 [.ref t, .int c] (rz_mk h ι, w) = some (.inl (some (.int 0)), (rz_mk h ι', w)) ∧ tpNo t ι ι' f := by
  obtain ⟨s1, s2⟩ := smP_no hs
  have := tp_needs (Z := Z) (d := d) (w := w) ht hz he hp hpe he6 c
  rw [if_neg s1] at this
  subst s2
  refine ⟨_, this, ⟨fun x hx => by rw [rz_up_n hx, rz_up_n hx, rz_up_n hx], ?_, ?_⟩, ?_, ?_⟩
  · simp [rz_up, rz_u]
  · simp [rz_up, rz_u]
  · simp [rz_up, rz_u]; rfl
  · simp [rz_up, rz_u]
theorem tq_next (ht : oTp h t) (hz : Z.2.1 ≤ t) {e p : Nat} (he : ι t 1 = nI e) (hp : ι t 2 = nI p) (hpe : p ≤ e) (he6 : e ≤ 600) : ∃ ι', rz_f Z (d + 1) 94 [.ref t] (rz_mk h ι, w) = some (.inl (some (.int (sg (ι (t + 1)) e (sk (ι (t + 1)) e p)))), (rz_mk h ι', w)) ∧ tpOk t ι ι' (sk (ι (t + 1)) e p) ∧ ι' t 3 = ι t 3 := by
  refine ⟨_, tp_next ht hz he hp hpe he6, ⟨⟨fun x hx => by rw [rz_up_n hx], ?_, ?_⟩, ?_, ?_, ?_⟩, ?_⟩
  · rw [rz_up_s, rz_u_n (by omega)]
  · rw [rz_up_s, rz_u_n (by omega)]
  · rw [rz_up_s, rz_u_n (by omega)]
  · rw [rz_up_s, rz_u_n (by omega)]
  · rw [rz_up_s, rz_u_s]
  · rw [rz_up_s, rz_u_n (by omega)]
end DUK1
