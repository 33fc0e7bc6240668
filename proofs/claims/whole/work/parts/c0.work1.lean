/-! the text of WORK: what both read; how the class reads a step -/
abbrev TK : Type := Nat × Nat × Nat × Nat
def upT (T : Nat → TK) (i : Nat) (q : TK) : Nat → TK := fun j => if j = i then q else T j
theorem upT_s (T : Nat → TK) (i : Nat) (q : TK) : upT T i q i = q := if_pos rfl
theorem upT_n {T : Nat → TK} {i j : Nat} {q : TK} (h : j ≠ i) : upT T i q j = T j := if_neg h
abbrev WtS : Type := List Nat × (Nat → TK) × Nat × Nat
/-- a step without loops -/
def wtP (B : Nat → Int32) (e p : Nat) : (TK × Nat) ⊕ (Nat × Nat) :=
  if wdIs B (sk B e p) (wdR B e p) (WD 15) = true then rB (nmN B e 7 (wdR B e p)) (fun x => rB (nmN B e 2 x.2) (fun y => rB (nmN B e 9 y.2) (fun z => .inl ((0, x.1, y.1, z.1), z.2))))
  else if wdIs B (sk B e p) (wdR B e p) (WD 16) = true then rB (nmN B e 7 (wdR B e p)) (fun x => .inl ((1, x.1, 0, 0), x.2))
  else if wdIs B (sk B e p) (wdR B e p) (WD 17) = true then rB (nmN B e 7 (wdR B e p)) (fun x => rB (nmN B e 7 x.2) (fun y => .inl ((2, x.1, y.1, 0), y.2)))
  else if wdIs B (sk B e p) (wdR B e p) (WD 18) = true then rB (nmN B e 7 (wdR B e p)) (fun x => .inl ((3, x.1, 0, 0), x.2))
  else if wdIs B (sk B e p) (wdR B e p) (WD 19) = true then .inl ((4, 0, 0, 0), wdR B e p)
  else .inr (1, sk B e p)
/-- a loop is closed -/
def wtC (k : Nat) (T : Nat → TK) (m : Nat) : Nat → TK := upT (upT T k ((T k).1, (T k).2.1, m, (T k).2.2.2)) m (6, k, 0, 0)
/-- a step, a loop begun, a loop closed -/
def wt1 (B : Nat → Int32) (e : Nat) (K : List Nat) (T : Nat → TK) (m p : Nat) : WtS ⊕ (Nat × Nat) :=
  if sg B e (sk B e p) = 93 ∧ K ≠ [] then rB (smP B e 59 (sk B e p + 1)) (fun q => .inl (K.tail, wtC (K.headD 0) T m, m + 1, q))
  else if wdIs B (sk B e p) (wdR B e p) (WD 14) = true then (if K.length < 6 then rB (nmN B e 60 (wdR B e p)) (fun x => rB (smP B e 91 x.2) (fun q => .inl (m :: K, upT T m (5, x.1, 0, 0), m + 1, q))) else .inr (3, sk B e p))
  else rB (wtP B e p) (fun t => rB (smP B e 59 t.2) (fun q => .inl (K, upT T m t.1, m + 1, q)))
def wtR (B : Nat → Int32) (e : Nat) : Nat → List Nat → (Nat → TK) → Nat → Nat → ((Nat → TK) × Nat) ⊕ (Nat × Nat)
  | 0, _, T, m, _ => .inl (T, m)
  | n + 1, K, T, m, p => if ¬ sk B e p < e ∧ K = [] then .inl (T, m) else rB (wt1 B e K T m p) (fun s => wtR B e n s.1 s.2.1 s.2.2.1 s.2.2.2)
def T00 : Nat → TK := fun _ => (0, 0, 0, 0)
def wtX (B : Nat → Int32) (e : Nat) : ((Nat → TK) × Nat) ⊕ (Nat × Nat) := wtR B e (e + 1) [] T00 0 0
theorem wd_len {B : Nat → Int32} {q r : Nat} {W : List Nat} (h : wdIs B q r W = true) : r - q = W.length := by
  unfold wdIs at h
  split at h
  · assumption
  · cases h
theorem wtP_pr {B : Nat → Int32} {e p : Nat} {s : TK × Nat} (hp : p ≤ e) (h : wtP B e p = .inl s) : p + 4 ≤ s.2 ∧ s.2 ≤ e := by
  obtain ⟨w1, w2⟩ := wdR_le (B := B) hp
  have hge := sk_ge B e p
  unfold wtP at h
  split at h
  · rename_i hw
    have l := wd_len hw
    obtain ⟨x, h1, h2⟩ := rB_inl h
    obtain ⟨y, h3, h4⟩ := rB_inl h2
    obtain ⟨z, h5, h6⟩ := rB_inl h4
    obtain ⟨-, -, -, x4, x5⟩ := nmN_ok w2 h1
    obtain ⟨-, -, -, y4, y5⟩ := nmN_ok x5 h3
    obtain ⟨-, -, -, z4, z5⟩ := nmN_ok y5 h5
    have g1 := sk_ge B e (wdR B e p)
    have g2 := sk_ge B e x.2
    have g3 := sk_ge B e y.2
    have l : wdR B e p - sk B e p = 5 := l
    cases h6
    exact ⟨by show p + 4 ≤ z.2; omega, z5⟩
  · split at h
    · rename_i hw
      have l : wdR B e p - sk B e p = 4 := wd_len hw
      obtain ⟨x, h1, h2⟩ := rB_inl h
      obtain ⟨-, -, -, x4, x5⟩ := nmN_ok w2 h1
      have g1 := sk_ge B e (wdR B e p)
      cases h2
      exact ⟨by show p + 4 ≤ x.2; omega, x5⟩
    · split at h
      · rename_i hw
        have l : wdR B e p - sk B e p = 5 := wd_len hw
        obtain ⟨x, h1, h2⟩ := rB_inl h
        obtain ⟨y, h3, h4⟩ := rB_inl h2
        obtain ⟨-, -, -, x4, x5⟩ := nmN_ok w2 h1
        obtain ⟨-, -, -, y4, y5⟩ := nmN_ok x5 h3
        have g1 := sk_ge B e (wdR B e p)
        have g2 := sk_ge B e x.2
        cases h4
        exact ⟨by show p + 4 ≤ y.2; omega, y5⟩
      · split at h
        · rename_i hw
          have l : wdR B e p - sk B e p = 3 := wd_len hw
          obtain ⟨x, h1, h2⟩ := rB_inl h
          obtain ⟨-, -, -, x4, x5⟩ := nmN_ok w2 h1
          have g1 := sk_ge B e (wdR B e p)
          cases h2
          exact ⟨by show p + 4 ≤ x.2; omega, x5⟩
        · split at h
          · rename_i hw
            have l : wdR B e p - sk B e p = 4 := wd_len hw
            cases h
            exact ⟨by show p + 4 ≤ wdR B e p; omega, w2⟩
          · cases h
theorem wt1_pr {B : Nat → Int32} {e m p : Nat} {K : List Nat} {T : Nat → TK} {s : WtS} (hp : p ≤ e) (hK : K.length ≤ 6) (hm : 9 * m + 5 * K.length ≤ 2 * p) (h : wt1 B e K T m p = .inl s) : p < s.2.2.2 ∧ s.2.2.2 ≤ e ∧ s.1.length ≤ 6 ∧ 9 * s.2.2.1 + 5 * s.1.length ≤ 2 * s.2.2.2 := by
  obtain ⟨w1, w2⟩ := wdR_le (B := B) hp
  have hge := sk_ge B e p
  have hsk := sk_le (B := B) hp
  unfold wt1 at h
  split at h
  · rename_i hc
    have hlt := sg_lt (by decide) hc.1
    obtain ⟨q, h1, h2⟩ := rB_inl h
    obtain ⟨-, s2, s3⟩ := smP_ok (show sk B e p + 1 ≤ e by omega) (by decide) h1
    have g1 := sk_ge B e (sk B e p + 1)
    have l1 : K.tail.length + 1 = K.length := by
      cases K with
      | nil => exact absurd rfl hc.2
      | cons x K => rfl
    cases h2
    exact ⟨by show p < q; omega, s3, by show K.tail.length ≤ 6; omega, by show 9 * (m + 1) + 5 * K.tail.length ≤ 2 * q; omega⟩
  · split at h
    · rename_i hw
      have l : wdR B e p - sk B e p = 5 := wd_len hw
      split at h
      · obtain ⟨x, h1, h2⟩ := rB_inl h
        obtain ⟨q, h3, h4⟩ := rB_inl h2
        obtain ⟨-, -, -, x4, x5⟩ := nmN_ok w2 h1
        obtain ⟨-, s2, s3⟩ := smP_ok x5 (by decide) h3
        have g1 := sk_ge B e (wdR B e p)
        have g2 := sk_ge B e x.2
        cases h4
        exact ⟨by show p < q; omega, s3, by show K.length + 1 ≤ 6; omega, by show 9 * (m + 1) + 5 * (K.length + 1) ≤ 2 * q; omega⟩
      · cases h
    · obtain ⟨t, h1, h2⟩ := rB_inl h
      obtain ⟨q, h3, h4⟩ := rB_inl h2
      obtain ⟨p1, p2⟩ := wtP_pr hp h1
      obtain ⟨-, s2, s3⟩ := smP_ok p2 (by decide) h3
      have g2 := sk_ge B e t.2
      cases h4
      exact ⟨by show p < q; omega, s3, hK, by show 9 * (m + 1) + 5 * K.length ≤ 2 * q; omega⟩
section WORK1
variable {Z : rx_Z} {d : Nat} {h : Nat → Option rx_E} {ι ι0 : Nat → Nat → Int32} {w : Nat × Nat} {t a : Nat}
def tkI (ι : Nat → Nat → Int32) (a i : Nat) (q : TK) : Prop := ι (a + 1) (i * 4) = nI q.1 ∧ ι (a + 1) (i * 4 + 1) = nI q.2.1 ∧ ι (a + 1) (i * 4 + 2) = nI q.2.2.1 ∧ ι (a + 1) (i * 4 + 3) = nI q.2.2.2
def wcO (Z : rx_Z) (h : Nat → Option rx_E) (t a : Nat) : Prop := oWt h a t ∧ oTp h t ∧ Z.2.1 ≤ t ∧ t + 2 ≤ a
def wcQ (a x : Nat) : Prop := x = a ∨ x = a + 1 ∨ x = a + 2
def wcI (t a : Nat) (ι0 ι : Nat → Nat → Int32) (K : List Nat) (T : Nat → TK) (m p : Nat) : Prop := txF t (wcQ a) ι0 ι ∧ ι t 4 = ι0 t 4 ∧ ι t 6 = ι0 t 6 ∧ ι t 2 = nI p ∧ ι a 4 = nI m ∧ ι a 5 = nI K.length ∧ (∀ i, i < m → tkI ι a i (T i)) ∧ ∀ j, j < K.length → ι (a + 2) (K.length - 1 - j) = nI (K.getD j 0)
def wcN (t a : Nat) (ι0 ι : Nat → Nat → Int32) (f : Nat × Nat) : Prop := txF t (wcQ a) ι0 ι ∧ ι t 4 = nI f.1 ∧ ι t 6 = nI f.2
theorem wcI.tp {m p q : Nat} {K : List Nat} {T : Nat → TK} {ι' : Nat → Nat → Int32} (o : wcO Z h t a) (i : wcI t a ι0 ι K T m p) (k : tpOk t ι ι' q) : wcI t a ι0 ι' K T m q := by
  obtain ⟨i1, i2, i3, i4, i5, i6, i7, i8⟩ := i
  obtain ⟨-, -, -, o5⟩ := o
  have e0 := k.1.1 a (by omega)
  have e1 := k.1.1 (a + 1) (by omega)
  have e2 := k.1.1 (a + 2) (by omega)
  exact ⟨i1.trans (txF.tp k.1), k.2.1.trans i2, k.2.2.1.trans i3, k.2.2.2, by rw [e0]; exact i5, by rw [e0]; exact i6, fun j hj => by unfold tkI; rw [e1]; exact i7 j hj, fun j hj => by rw [e2]; exact i8 j hj⟩
theorem wcI.no {m p : Nat} {K : List Nat} {T : Nat → TK} {f : Nat × Nat} {ι' : Nat → Nat → Int32} (i : wcI t a ι0 ι K T m p) (k : tpNo t ι ι' f) : wcN t a ι0 ι' f := ⟨i.1.trans (txF.tp k.1), k.2.1, k.2.2⟩
theorem wcI.by {m p : Nat} {K : List Nat} {T : Nat → TK} (o : wcO Z h t a) (i : wcI t a ι0 ι K T m p) : ι (t + 1) = ι0 (t + 1) := i.1.1 _ (by omega) (by obtain ⟨-, -, -, o5⟩ := o; unfold wcQ; omega)
theorem wc_part (O : wcO Z h t a) {i k : Nat} (hi : i < 37) (hk : k < 4) (v : Int32) : rz_f Z (d + 2) 112 [.ref a, .int (nI i), .int (nI k), .int v] (rz_mk h ι, w) = some (.inl none, (rz_mk h (rz_up ι (a + 1) (i * 4 + k) v), w)) := by
  obtain ⟨o1, o2, o4, o5⟩ := O
  have hza : Z.2.1 ≤ a := by omega
  have c1 : (nI i < 0) = False := nI_nn (by omega)
  have c2 : (nI i < 37) = True := by rw [nI_ltL (by omega) (by decide)]; simp [hi]
  have c3 : (!decide (nI k < 0) && !decide ((3 : Int32) < nI k)) = true := by
    have a1 := nI_nn (show k < 2147483648 by omega)
    have a2 : ((3 : Int32) < nI k) = False := by rw [nI_Llt (by omega) (by decide)]; simp; omega
    simp [a1, a2]
  have ix : rz_ix (nI (i * 4 + k)) 148 := rz_ix_nat (by omega) (by omega)
  rw [e112]
  simp (decide := true) (maxDischargeDepth := 4) only [g112_0, g112_1, g112_4, g112_5, g112_7, g112_10, g112_11, g112_12, g112_13, g112_16, g112_19, g112_20, g112_23, g112_24, g112_25, g112_26, g112_27, g112_28, g112_29, g112_30, rz_k_inl, rz_k_inr, Option.toList_some, Option.toList_none, List.cons_append, List.nil_append, List.append_nil, rz_up_s, rz_u_s, rz_up_n, rz_u_n, ne_eq, not_false_eq_true, not_true_eq_false, Nat.add_assoc, Nat.reduceAdd, reduceIte, Nat.add_eq_left, Nat.left_eq_add, Nat.add_left_cancel_iff, Nat.reduceEqDiff, Nat.add_right_cancel_iff, rz_nb0, rz_nb1, rz_nbb, rz_nbi, rz_isr, rz_zle, if_true, if_false, rz_bi0, rz_bi1, Bool.not_eq_true, Bool.not_eq_false, Bool.true_eq_false, Bool.false_eq_true, rz_ix_lit, cl_lit, Nat.reduceLT, bi_t, bi_f, decide_true, decide_false, Bool.not_false, Bool.not_true, Bool.and_true, Bool.true_and, Bool.and_false, Bool.false_and, oWt_c o1, oWt_f0 o1, oWt_v0 o1, oWt_f1 o1, oWt_v1 o1, oWt_f2 o1, oWt_v2 o1, oWt_f3 o1, oWt_v3 o1, oWt_i4 o1, oWt_i5 o1, oWt_i6 o1, oWt_i7 o1, oWt_i8 o1, oWt_a1 o1, oWt_n1 o1, oWt_a2 o1, oWt_n2 o1, oWt_a3 o1, oWt_n3 o1, o1, hza, c1, c2, hr_within, c3, nI_mL, nI_add, ix, nI_cl (show i * 4 + k < 2147483648 by omega)]
theorem wc_put {m p : Nat} {K : List Nat} {T : Nat → TK} (O : wcO Z h t a) (i : wcI t a ι0 ι K T m p) (hm : m < 37) (q : TK) : ∃ ι', rz_f Z (d + 3) 111 [.ref a, .int (nI q.1), .int (nI q.2.1), .int (nI q.2.2.1), .int (nI q.2.2.2)] (rz_mk h ι, w) = some (.inl (some (.int 1)), (rz_mk h ι', w)) ∧ wcI t a ι0 ι' K (upT T m q) (m + 1) p ∧ ι' t = ι t := by
  have OO := O
  obtain ⟨o1, o2, o4, o5⟩ := O
  obtain ⟨i1, i2, i3, i4, i5, i6, i7, i8⟩ := i
  have hza : Z.2.1 ≤ a := by omega
  have p0 := fun J => wc_part (Z := Z) (d := d) (w := w) (ι := J) (k := 0) OO hm (by omega) (nI q.1)
  have p1 := fun J => wc_part (Z := Z) (d := d) (w := w) (ι := J) (k := 1) OO hm (by omega) (nI q.2.1)
  have p2 := fun J => wc_part (Z := Z) (d := d) (w := w) (ι := J) (k := 2) OO hm (by omega) (nI q.2.2.1)
  have p3 := fun J => wc_part (Z := Z) (d := d) (w := w) (ι := J) (k := 3) OO hm (by omega) (nI q.2.2.2)
  rw [show nI 0 = 0 from rfl] at p0
  rw [show nI 1 = 1 from rfl] at p1
  rw [show nI 2 = 2 from rfl] at p2
  rw [show nI 3 = 3 from rfl] at p3
  refine ⟨rz_up (rz_up (rz_up (rz_up (rz_up ι a 4 (nI (m + 1))) (a + 1) (m * 4 + 0) (nI q.1)) (a + 1) (m * 4 + 1) (nI q.2.1)) (a + 1) (m * 4 + 2) (nI q.2.2.1)) (a + 1) (m * 4 + 3) (nI q.2.2.2), ?_, ⟨((((i1.up (by unfold wcQ; omega) (by omega)).up (by unfold wcQ; omega) (by omega)).up (by unfold wcQ; omega) (by omega)).up (by unfold wcQ; omega) (by omega)).up (by unfold wcQ; omega) (by omega), ?_, ?_, ?_, ?_, ?_, fun j hj => ?_, fun j hj => ?_⟩, ?_⟩
  · rw [e111]
    simp (decide := true) (maxDischargeDepth := 4) only [g111_0, g111_1, g111_4, g111_6, g111_7, g111_8, g111_11, g111_12, g111_13, g111_16, g111_17, g111_19, g111_20, g111_21, g111_24, g111_25, g111_27, g111_28, g111_29, g111_32, g111_33, g111_35, g111_36, g111_37, g111_40, g111_41, g111_43, g111_44, g111_46, g111_49, g111_50, rz_k_inl, rz_k_inr, Option.toList_some, Option.toList_none, List.cons_append, List.nil_append, List.append_nil, rz_up_s, rz_u_s, rz_up_n, rz_u_n, ne_eq, not_false_eq_true, not_true_eq_false, Nat.add_assoc, Nat.reduceAdd, reduceIte, Nat.add_eq_left, Nat.left_eq_add, Nat.add_left_cancel_iff, Nat.reduceEqDiff, Nat.add_right_cancel_iff, rz_nb0, rz_nb1, rz_nbb, rz_nbi, rz_isr, rz_zle, if_true, if_false, rz_bi0, rz_bi1, Bool.not_eq_true, Bool.not_eq_false, Bool.true_eq_false, Bool.false_eq_true, rz_ix_lit, cl_lit, Nat.reduceLT, bi_t, bi_f, decide_true, decide_false, Bool.not_false, Bool.not_true, Bool.and_true, Bool.true_and, Bool.and_false, Bool.false_and, oWt_c o1, oWt_f0 o1, oWt_v0 o1, oWt_f1 o1, oWt_v1 o1, oWt_f2 o1, oWt_v2 o1, oWt_f3 o1, oWt_v3 o1, oWt_i4 o1, oWt_i5 o1, oWt_i6 o1, oWt_i7 o1, oWt_i8 o1, oWt_a1 o1, oWt_n1 o1, oWt_a2 o1, oWt_n2 o1, oWt_a3 o1, oWt_n3 o1, o1, hza, i5, nI_1, p0, p1, p2, p3]
  · simp only [rz_up_n (show t ≠ a + 1 by omega), rz_up_n (show t ≠ a by omega)]; exact i2
  · simp only [rz_up_n (show t ≠ a + 1 by omega), rz_up_n (show t ≠ a by omega)]; exact i3
  · simp only [rz_up_n (show t ≠ a + 1 by omega), rz_up_n (show t ≠ a by omega)]; exact i4
  · simp only [rz_up_n (show a ≠ a + 1 by omega)]; rw [rz_up_s, rz_u_s]
  · simp only [rz_up_n (show a ≠ a + 1 by omega)]; rw [rz_up_s, rz_u_n (by omega)]; exact i6
  · unfold tkI
    simp only [rz_up_s]
    rw [rz_up_n (show a + 1 ≠ a by omega)]
    by_cases e : j = m
    · subst e
      rw [upT_s]
      unfold rz_u
      refine ⟨?_, ?_, ?_, ?_⟩
      · rw [if_neg (by omega), if_neg (by omega), if_neg (by omega), if_pos (by omega)]
      · rw [if_neg (by omega), if_neg (by omega), if_pos rfl]
      · rw [if_neg (by omega), if_pos rfl]
      · rw [if_pos rfl]
    · rw [upT_n e]
      obtain ⟨k0, k1, k2, k3⟩ := i7 j (by omega)
      unfold rz_u
      refine ⟨?_, ?_, ?_, ?_⟩
      · rw [if_neg (by omega), if_neg (by omega), if_neg (by omega), if_neg (by omega)]; exact k0
      · rw [if_neg (by omega), if_neg (by omega), if_neg (by omega), if_neg (by omega)]; exact k1
      · rw [if_neg (by omega), if_neg (by omega), if_neg (by omega), if_neg (by omega)]; exact k2
      · rw [if_neg (by omega), if_neg (by omega), if_neg (by omega), if_neg (by omega)]; exact k3
  · simp only [rz_up_n (show a + 2 ≠ a + 1 by omega), rz_up_n (show a + 2 ≠ a by omega)]; exact i8 j hj
  · simp only [rz_up_n (show t ≠ a + 1 by omega), rz_up_n (show t ≠ a by omega)]
def wcC (Z : rx_Z) (h : Nat → Option rx_E) (w : Nat × Nat) (t a : Nat) (ι0 : Nat → Nat → Int32) (D mi : Nat) (vs : List Value) (ι : Nat → Nat → Int32) (X : WtS ⊕ (Nat × Nat)) : Prop := match X with
  | .inl s => ∃ ι', rz_f Z D mi vs (rz_mk h ι, w) = some (.inl (some (.int 1)), (rz_mk h ι', w)) ∧ wcI t a ι0 ι' s.1 s.2.1 s.2.2.1 s.2.2.2
  | .inr f => ∃ ι', rz_f Z D mi vs (rz_mk h ι, w) = some (.inl (some (.int 0)), (rz_mk h ι', w)) ∧ wcN t a ι0 ι' f
theorem wc_one {e m p op : Nat} {K : List Nat} {T : Nat → TK} (O : wcO Z h t a) (he : ι0 t 1 = nI e) (he6 : e ≤ 600) (hpe : p ≤ e) (hm : m < 37) (i : wcI t a ι0 ι K T m p) : wcC Z h w t a ι0 (d + 4) 110 [.ref a, .int (nI op)] ι (rB (nmN (ι0 (t + 1)) e 7 p) (fun x => .inl (K, upT T m (op, x.1, 0, 0), m + 1, x.2))) := by
  have OO := O
  obtain ⟨o1, o2, o4, o5⟩ := O
  have e1 : ι t 1 = nI e := i.1.2.1.trans he
  have eB := i.by OO
  cases n1 : nmN (ι0 (t + 1)) e 7 p with
  | inr f =>
    obtain ⟨ι1, g1, g2⟩ := tp_num_no (Z := Z) (d := d) (w := w) o2 o4 e1 i.2.2.2.1 hpe he6 (by rw [eB]; exact nmN_no n1)
    refine ⟨ι1, ?_, i.no g2⟩
    rw [e110]
    simp (decide := true) (maxDischargeDepth := 4) only [g110_0, g110_1, g110_4, g110_6, g110_9, g110_10, g110_11, g110_12, g110_15, g110_16, g110_17, g110_18, g110_19, g110_20, g110_23, g110_26, g110_27, g110_30, g110_31, rz_k_inl, rz_k_inr, Option.toList_some, Option.toList_none, List.cons_append, List.nil_append, List.append_nil, rz_up_s, rz_u_s, rz_up_n, rz_u_n, ne_eq, not_false_eq_true, not_true_eq_false, Nat.add_assoc, Nat.reduceAdd, reduceIte, Nat.add_eq_left, Nat.left_eq_add, Nat.add_left_cancel_iff, Nat.reduceEqDiff, Nat.add_right_cancel_iff, rz_nb0, rz_nb1, rz_nbb, rz_nbi, rz_isr, rz_zle, if_true, if_false, rz_bi0, rz_bi1, Bool.not_eq_true, Bool.not_eq_false, Bool.true_eq_false, Bool.false_eq_true, rz_ix_lit, cl_lit, Nat.reduceLT, bi_t, bi_f, decide_true, decide_false, Bool.not_false, Bool.not_true, Bool.and_true, Bool.true_and, Bool.and_false, Bool.false_and, oWt_c o1, oWt_f0 o1, oWt_v0 o1, oWt_f1 o1, oWt_v1 o1, oWt_f2 o1, oWt_v2 o1, oWt_f3 o1, oWt_v3 o1, oWt_i4 o1, oWt_i5 o1, oWt_i6 o1, oWt_i7 o1, oWt_i8 o1, oWt_a1 o1, oWt_n1 o1, oWt_a2 o1, oWt_n2 o1, oWt_a3 o1, oWt_n3 o1, oTp_c, oTp_f0, oTp_v0, oTp_i1, oTp_i2, oTp_i3, oTp_i4, oTp_i5, oTp_i6, oTp_a1, oTp_n1, o1, o2, g1]
  | inl x =>
    obtain ⟨a1, a2, a3, a4, a5⟩ := nmN_ok hpe n1
    obtain ⟨ι1, g1, g2⟩ := tp_num_ok (Z := Z) (d := d) (w := w) o2 o4 e1 i.2.2.2.1 hpe he6 (by rw [eB]; exact a1)
    obtain ⟨ι2, k1, k2, -⟩ := wc_put (Z := Z) (d := d) (w := w) OO (i.tp OO g2) hm (op, x.1, 0, 0)
    rw [show nI 0 = 0 from rfl] at k1
    have x1 := nI_m1 (show x.1 < 2147483648 by omega)
    refine ⟨ι2, ?_, k2⟩
    rw [e110]
    simp (decide := true) (maxDischargeDepth := 4) only [g110_0, g110_1, g110_4, g110_6, g110_9, g110_10, g110_11, g110_12, g110_15, g110_16, g110_17, g110_18, g110_19, g110_20, g110_23, g110_26, g110_27, g110_30, g110_31, rz_k_inl, rz_k_inr, Option.toList_some, Option.toList_none, List.cons_append, List.nil_append, List.append_nil, rz_up_s, rz_u_s, rz_up_n, rz_u_n, ne_eq, not_false_eq_true, not_true_eq_false, Nat.add_assoc, Nat.reduceAdd, reduceIte, Nat.add_eq_left, Nat.left_eq_add, Nat.add_left_cancel_iff, Nat.reduceEqDiff, Nat.add_right_cancel_iff, rz_nb0, rz_nb1, rz_nbb, rz_nbi, rz_isr, rz_zle, if_true, if_false, rz_bi0, rz_bi1, Bool.not_eq_true, Bool.not_eq_false, Bool.true_eq_false, Bool.false_eq_true, rz_ix_lit, cl_lit, Nat.reduceLT, bi_t, bi_f, decide_true, decide_false, Bool.not_false, Bool.not_true, Bool.and_true, Bool.true_and, Bool.and_false, Bool.false_and, oWt_c o1, oWt_f0 o1, oWt_v0 o1, oWt_f1 o1, oWt_v1 o1, oWt_f2 o1, oWt_v2 o1, oWt_f3 o1, oWt_v3 o1, oWt_i4 o1, oWt_i5 o1, oWt_i6 o1, oWt_i7 o1, oWt_i8 o1, oWt_a1 o1, oWt_n1 o1, oWt_a2 o1, oWt_n2 o1, oWt_a3 o1, oWt_n3 o1, oTp_c, oTp_f0, oTp_v0, oTp_i1, oTp_i2, oTp_i3, oTp_i4, oTp_i5, oTp_i6, oTp_a1, oTp_n1, o1, o2, g1, x1, k1]
theorem wc_birth {e m p : Nat} {K : List Nat} {T : Nat → TK} (O : wcO Z h t a) (he : ι0 t 1 = nI e) (he6 : e ≤ 600) (hpe : p ≤ e) (hm : m < 37) (i : wcI t a ι0 ι K T m p) : wcC Z h w t a ι0 (d + 4) 109 [.ref a] ι (rB (nmN (ι0 (t + 1)) e 7 p) (fun x => rB (nmN (ι0 (t + 1)) e 7 x.2) (fun y => .inl (K, upT T m (2, x.1, y.1, 0), m + 1, y.2)))) := by
  have OO := O
  obtain ⟨o1, o2, o4, o5⟩ := O
  have e1 : ι t 1 = nI e := i.1.2.1.trans he
  have eB := i.by OO
  cases n1 : nmN (ι0 (t + 1)) e 7 p with
  | inr f =>
    obtain ⟨ι1, g1, g2⟩ := tp_num_no (Z := Z) (d := d) (w := w) o2 o4 e1 i.2.2.2.1 hpe he6 (by rw [eB]; exact nmN_no n1)
    refine ⟨ι1, ?_, i.no g2⟩
    rw [e109]
    simp (decide := true) (maxDischargeDepth := 4) only [g109_0, g109_1, g109_4, g109_6, g109_9, g109_10, g109_11, g109_12, g109_15, g109_16, g109_19, g109_20, g109_23, g109_25, g109_28, g109_29, g109_30, g109_31, g109_34, g109_35, g109_36, g109_37, g109_38, g109_39, g109_42, g109_45, g109_46, g109_49, g109_50, rz_k_inl, rz_k_inr, Option.toList_some, Option.toList_none, List.cons_append, List.nil_append, List.append_nil, rz_up_s, rz_u_s, rz_up_n, rz_u_n, ne_eq, not_false_eq_true, not_true_eq_false, Nat.add_assoc, Nat.reduceAdd, reduceIte, Nat.add_eq_left, Nat.left_eq_add, Nat.add_left_cancel_iff, Nat.reduceEqDiff, Nat.add_right_cancel_iff, rz_nb0, rz_nb1, rz_nbb, rz_nbi, rz_isr, rz_zle, if_true, if_false, rz_bi0, rz_bi1, Bool.not_eq_true, Bool.not_eq_false, Bool.true_eq_false, Bool.false_eq_true, rz_ix_lit, cl_lit, Nat.reduceLT, bi_t, bi_f, decide_true, decide_false, Bool.not_false, Bool.not_true, Bool.and_true, Bool.true_and, Bool.and_false, Bool.false_and, oWt_c o1, oWt_f0 o1, oWt_v0 o1, oWt_f1 o1, oWt_v1 o1, oWt_f2 o1, oWt_v2 o1, oWt_f3 o1, oWt_v3 o1, oWt_i4 o1, oWt_i5 o1, oWt_i6 o1, oWt_i7 o1, oWt_i8 o1, oWt_a1 o1, oWt_n1 o1, oWt_a2 o1, oWt_n2 o1, oWt_a3 o1, oWt_n3 o1, oTp_c, oTp_f0, oTp_v0, oTp_i1, oTp_i2, oTp_i3, oTp_i4, oTp_i5, oTp_i6, oTp_a1, oTp_n1, o1, o2, g1]
  | inl x =>
    obtain ⟨a1, a2, a3, a4, a5⟩ := nmN_ok hpe n1
    obtain ⟨ι1, g1, g2⟩ := tp_num_ok (Z := Z) (d := d) (w := w) o2 o4 e1 i.2.2.2.1 hpe he6 (by rw [eB]; exact a1)
    have i1 := i.tp OO g2
    have e11 : ι1 t 1 = nI e := i1.1.2.1.trans he
    have eB1 := i1.by OO
    have x1 := nI_m1 (show x.1 < 2147483648 by omega)
    rw [rB_l]
    cases n2 : nmN (ι0 (t + 1)) e 7 x.2 with
    | inr f =>
      obtain ⟨ι2, k1, k2⟩ := tp_num_no (Z := Z) (d := d) (w := w) o2 o4 e11 i1.2.2.2.1 a5 he6 (by rw [eB1]; exact nmN_no n2)
      refine ⟨ι2, ?_, i1.no k2⟩
      rw [e109]
      simp (decide := true) (maxDischargeDepth := 4) only [g109_0, g109_1, g109_4, g109_6, g109_9, g109_10, g109_11, g109_12, g109_15, g109_16, g109_19, g109_20, g109_23, g109_25, g109_28, g109_29, g109_30, g109_31, g109_34, g109_35, g109_36, g109_37, g109_38, g109_39, g109_42, g109_45, g109_46, g109_49, g109_50, rz_k_inl, rz_k_inr, Option.toList_some, Option.toList_none, List.cons_append, List.nil_append, List.append_nil, rz_up_s, rz_u_s, rz_up_n, rz_u_n, ne_eq, not_false_eq_true, not_true_eq_false, Nat.add_assoc, Nat.reduceAdd, reduceIte, Nat.add_eq_left, Nat.left_eq_add, Nat.add_left_cancel_iff, Nat.reduceEqDiff, Nat.add_right_cancel_iff, rz_nb0, rz_nb1, rz_nbb, rz_nbi, rz_isr, rz_zle, if_true, if_false, rz_bi0, rz_bi1, Bool.not_eq_true, Bool.not_eq_false, Bool.true_eq_false, Bool.false_eq_true, rz_ix_lit, cl_lit, Nat.reduceLT, bi_t, bi_f, decide_true, decide_false, Bool.not_false, Bool.not_true, Bool.and_true, Bool.true_and, Bool.and_false, Bool.false_and, oWt_c o1, oWt_f0 o1, oWt_v0 o1, oWt_f1 o1, oWt_v1 o1, oWt_f2 o1, oWt_v2 o1, oWt_f3 o1, oWt_v3 o1, oWt_i4 o1, oWt_i5 o1, oWt_i6 o1, oWt_i7 o1, oWt_i8 o1, oWt_a1 o1, oWt_n1 o1, oWt_a2 o1, oWt_n2 o1, oWt_a3 o1, oWt_n3 o1, oTp_c, oTp_f0, oTp_v0, oTp_i1, oTp_i2, oTp_i3, oTp_i4, oTp_i5, oTp_i6, oTp_a1, oTp_n1, o1, o2, g1, x1, k1]
    | inl y =>
      obtain ⟨b1, b2, b3, b4, b5⟩ := nmN_ok a5 n2
      obtain ⟨ι2, k1, k2⟩ := tp_num_ok (Z := Z) (d := d) (w := w) o2 o4 e11 i1.2.2.2.1 a5 he6 (by rw [eB1]; exact b1)
      obtain ⟨ι3, l1, l2, -⟩ := wc_put (Z := Z) (d := d) (w := w) OO (i1.tp OO k2) hm (2, x.1, y.1, 0)
      rw [show nI 0 = 0 from rfl, show nI 2 = 2 from rfl] at l1
      have y1 := nI_m1 (show y.1 < 2147483648 by omega)
      refine ⟨ι3, ?_, l2⟩
      rw [e109]
      simp (decide := true) (maxDischargeDepth := 4) only [g109_0, g109_1, g109_4, g109_6, g109_9, g109_10, g109_11, g109_12, g109_15, g109_16, g109_19, g109_20, g109_23, g109_25, g109_28, g109_29, g109_30, g109_31, g109_34, g109_35, g109_36, g109_37, g109_38, g109_39, g109_42, g109_45, g109_46, g109_49, g109_50, rz_k_inl, rz_k_inr, Option.toList_some, Option.toList_none, List.cons_append, List.nil_append, List.append_nil, rz_up_s, rz_u_s, rz_up_n, rz_u_n, ne_eq, not_false_eq_true, not_true_eq_false, Nat.add_assoc, Nat.reduceAdd, reduceIte, Nat.add_eq_left, Nat.left_eq_add, Nat.add_left_cancel_iff, Nat.reduceEqDiff, Nat.add_right_cancel_iff, rz_nb0, rz_nb1, rz_nbb, rz_nbi, rz_isr, rz_zle, if_true, if_false, rz_bi0, rz_bi1, Bool.not_eq_true, Bool.not_eq_false, Bool.true_eq_false, Bool.false_eq_true, rz_ix_lit, cl_lit, Nat.reduceLT, bi_t, bi_f, decide_true, decide_false, Bool.not_false, Bool.not_true, Bool.and_true, Bool.true_and, Bool.and_false, Bool.false_and, oWt_c o1, oWt_f0 o1, oWt_v0 o1, oWt_f1 o1, oWt_v1 o1, oWt_f2 o1, oWt_v2 o1, oWt_f3 o1, oWt_v3 o1, oWt_i4 o1, oWt_i5 o1, oWt_i6 o1, oWt_i7 o1, oWt_i8 o1, oWt_a1 o1, oWt_n1 o1, oWt_a2 o1, oWt_n2 o1, oWt_a3 o1, oWt_n3 o1, oTp_c, oTp_f0, oTp_v0, oTp_i1, oTp_i2, oTp_i3, oTp_i4, oTp_i5, oTp_i6, oTp_a1, oTp_n1, o1, o2, g1, x1, k1, y1, l1]
theorem wc_feign {e m p : Nat} {K : List Nat} {T : Nat → TK} (O : wcO Z h t a) (he : ι0 t 1 = nI e) (he6 : e ≤ 600) (hpe : p ≤ e) (hm : m < 37) (i : wcI t a ι0 ι K T m p) : wcC Z h w t a ι0 (d + 4) 108 [.ref a] ι (rB (nmN (ι0 (t + 1)) e 7 p) (fun x => rB (nmN (ι0 (t + 1)) e 2 x.2) (fun y => rB (nmN (ι0 (t + 1)) e 9 y.2) (fun z => .inl (K, upT T m (0, x.1, y.1, z.1), m + 1, z.2))))) := by
  have OO := O
  obtain ⟨o1, o2, o4, o5⟩ := O
  have e1 : ι t 1 = nI e := i.1.2.1.trans he
  have eB := i.by OO
  cases n1 : nmN (ι0 (t + 1)) e 7 p with
  | inr f =>
    obtain ⟨ι1, g1, g2⟩ := tp_num_no (Z := Z) (d := d) (w := w) o2 o4 e1 i.2.2.2.1 hpe he6 (by rw [eB]; exact nmN_no n1)
    refine ⟨ι1, ?_, i.no g2⟩
    rw [e108]
    simp (decide := true) (maxDischargeDepth := 4) only [g108_0, g108_1, g108_4, g108_6, g108_9, g108_10, g108_11, g108_12, g108_15, g108_16, g108_19, g108_20, g108_23, g108_24, g108_27, g108_28, g108_29, g108_30, g108_33, g108_34, g108_37, g108_38, g108_41, g108_43, g108_46, g108_47, g108_48, g108_49, g108_52, g108_53, g108_54, g108_55, g108_56, g108_57, g108_60, g108_63, g108_64, g108_67, g108_68, rz_k_inl, rz_k_inr, Option.toList_some, Option.toList_none, List.cons_append, List.nil_append, List.append_nil, rz_up_s, rz_u_s, rz_up_n, rz_u_n, ne_eq, not_false_eq_true, not_true_eq_false, Nat.add_assoc, Nat.reduceAdd, reduceIte, Nat.add_eq_left, Nat.left_eq_add, Nat.add_left_cancel_iff, Nat.reduceEqDiff, Nat.add_right_cancel_iff, rz_nb0, rz_nb1, rz_nbb, rz_nbi, rz_isr, rz_zle, if_true, if_false, rz_bi0, rz_bi1, Bool.not_eq_true, Bool.not_eq_false, Bool.true_eq_false, Bool.false_eq_true, rz_ix_lit, cl_lit, Nat.reduceLT, bi_t, bi_f, decide_true, decide_false, Bool.not_false, Bool.not_true, Bool.and_true, Bool.true_and, Bool.and_false, Bool.false_and, oWt_c o1, oWt_f0 o1, oWt_v0 o1, oWt_f1 o1, oWt_v1 o1, oWt_f2 o1, oWt_v2 o1, oWt_f3 o1, oWt_v3 o1, oWt_i4 o1, oWt_i5 o1, oWt_i6 o1, oWt_i7 o1, oWt_i8 o1, oWt_a1 o1, oWt_n1 o1, oWt_a2 o1, oWt_n2 o1, oWt_a3 o1, oWt_n3 o1, oTp_c, oTp_f0, oTp_v0, oTp_i1, oTp_i2, oTp_i3, oTp_i4, oTp_i5, oTp_i6, oTp_a1, oTp_n1, o1, o2, g1]
  | inl x =>
    obtain ⟨a1, a2, a3, a4, a5⟩ := nmN_ok hpe n1
    obtain ⟨ι1, g1, g2⟩ := tp_num_ok (Z := Z) (d := d) (w := w) o2 o4 e1 i.2.2.2.1 hpe he6 (by rw [eB]; exact a1)
    have i1 := i.tp OO g2
    have e11 : ι1 t 1 = nI e := i1.1.2.1.trans he
    have eB1 := i1.by OO
    have x1 := nI_m1 (show x.1 < 2147483648 by omega)
    rw [rB_l]
    cases n2 : nmN (ι0 (t + 1)) e 2 x.2 with
    | inr f =>
      obtain ⟨ι2, k1, k2⟩ := tp_num_no (Z := Z) (d := d) (w := w) o2 o4 e11 i1.2.2.2.1 a5 he6 (by rw [eB1]; exact nmN_no n2)
      refine ⟨ι2, ?_, i1.no k2⟩
      rw [e108]
      simp (decide := true) (maxDischargeDepth := 4) only [g108_0, g108_1, g108_4, g108_6, g108_9, g108_10, g108_11, g108_12, g108_15, g108_16, g108_19, g108_20, g108_23, g108_24, g108_27, g108_28, g108_29, g108_30, g108_33, g108_34, g108_37, g108_38, g108_41, g108_43, g108_46, g108_47, g108_48, g108_49, g108_52, g108_53, g108_54, g108_55, g108_56, g108_57, g108_60, g108_63, g108_64, g108_67, g108_68, rz_k_inl, rz_k_inr, Option.toList_some, Option.toList_none, List.cons_append, List.nil_append, List.append_nil, rz_up_s, rz_u_s, rz_up_n, rz_u_n, ne_eq, not_false_eq_true, not_true_eq_false, Nat.add_assoc, Nat.reduceAdd, reduceIte, Nat.add_eq_left, Nat.left_eq_add, Nat.add_left_cancel_iff, Nat.reduceEqDiff, Nat.add_right_cancel_iff, rz_nb0, rz_nb1, rz_nbb, rz_nbi, rz_isr, rz_zle, if_true, if_false, rz_bi0, rz_bi1, Bool.not_eq_true, Bool.not_eq_false, Bool.true_eq_false, Bool.false_eq_true, rz_ix_lit, cl_lit, Nat.reduceLT, bi_t, bi_f, decide_true, decide_false, Bool.not_false, Bool.not_true, Bool.and_true, Bool.true_and, Bool.and_false, Bool.false_and, oWt_c o1, oWt_f0 o1, oWt_v0 o1, oWt_f1 o1, oWt_v1 o1, oWt_f2 o1, oWt_v2 o1, oWt_f3 o1, oWt_v3 o1, oWt_i4 o1, oWt_i5 o1, oWt_i6 o1, oWt_i7 o1, oWt_i8 o1, oWt_a1 o1, oWt_n1 o1, oWt_a2 o1, oWt_n2 o1, oWt_a3 o1, oWt_n3 o1, oTp_c, oTp_f0, oTp_v0, oTp_i1, oTp_i2, oTp_i3, oTp_i4, oTp_i5, oTp_i6, oTp_a1, oTp_n1, o1, o2, g1, x1, k1]
    | inl y =>
      obtain ⟨b1, b2, b3, b4, b5⟩ := nmN_ok a5 n2
      obtain ⟨ι2, k1, k2⟩ := tp_num_ok (Z := Z) (d := d) (w := w) o2 o4 e11 i1.2.2.2.1 a5 he6 (by rw [eB1]; exact b1)
      have i2 := i1.tp OO k2
      have e12 : ι2 t 1 = nI e := i2.1.2.1.trans he
      have eB2 := i2.by OO
      have y1 := nI_m1 (show y.1 < 2147483648 by omega)
      rw [rB_l]
      cases n3 : nmN (ι0 (t + 1)) e 9 y.2 with
      | inr f =>
        obtain ⟨ι3, l1, l2⟩ := tp_num_no (Z := Z) (d := d) (w := w) o2 o4 e12 i2.2.2.2.1 b5 he6 (by rw [eB2]; exact nmN_no n3)
        refine ⟨ι3, ?_, i2.no l2⟩
        rw [e108]
        simp (decide := true) (maxDischargeDepth := 4) only [g108_0, g108_1, g108_4, g108_6, g108_9, g108_10, g108_11, g108_12, g108_15, g108_16, g108_19, g108_20, g108_23, g108_24, g108_27, g108_28, g108_29, g108_30, g108_33, g108_34, g108_37, g108_38, g108_41, g108_43, g108_46, g108_47, g108_48, g108_49, g108_52, g108_53, g108_54, g108_55, g108_56, g108_57, g108_60, g108_63, g108_64, g108_67, g108_68, rz_k_inl, rz_k_inr, Option.toList_some, Option.toList_none, List.cons_append, List.nil_append, List.append_nil, rz_up_s, rz_u_s, rz_up_n, rz_u_n, ne_eq, not_false_eq_true, not_true_eq_false, Nat.add_assoc, Nat.reduceAdd, reduceIte, Nat.add_eq_left, Nat.left_eq_add, Nat.add_left_cancel_iff, Nat.reduceEqDiff, Nat.add_right_cancel_iff, rz_nb0, rz_nb1, rz_nbb, rz_nbi, rz_isr, rz_zle, if_true, if_false, rz_bi0, rz_bi1, Bool.not_eq_true, Bool.not_eq_false, Bool.true_eq_false, Bool.false_eq_true, rz_ix_lit, cl_lit, Nat.reduceLT, bi_t, bi_f, decide_true, decide_false, Bool.not_false, Bool.not_true, Bool.and_true, Bool.true_and, Bool.and_false, Bool.false_and, oWt_c o1, oWt_f0 o1, oWt_v0 o1, oWt_f1 o1, oWt_v1 o1, oWt_f2 o1, oWt_v2 o1, oWt_f3 o1, oWt_v3 o1, oWt_i4 o1, oWt_i5 o1, oWt_i6 o1, oWt_i7 o1, oWt_i8 o1, oWt_a1 o1, oWt_n1 o1, oWt_a2 o1, oWt_n2 o1, oWt_a3 o1, oWt_n3 o1, oTp_c, oTp_f0, oTp_v0, oTp_i1, oTp_i2, oTp_i3, oTp_i4, oTp_i5, oTp_i6, oTp_a1, oTp_n1, o1, o2, g1, x1, k1, y1, l1]
      | inl z =>
        obtain ⟨c1, c2, c3, c4, c5⟩ := nmN_ok b5 n3
        obtain ⟨ι3, l1, l2⟩ := tp_num_ok (Z := Z) (d := d) (w := w) o2 o4 e12 i2.2.2.2.1 b5 he6 (by rw [eB2]; exact c1)
        obtain ⟨ι4, m1, m2, -⟩ := wc_put (Z := Z) (d := d) (w := w) OO (i2.tp OO l2) hm (0, x.1, y.1, z.1)
        rw [show nI 0 = 0 from rfl] at m1
        have z1 := nI_m1 (show z.1 < 2147483648 by omega)
        refine ⟨ι4, ?_, m2⟩
        rw [e108]
        simp (decide := true) (maxDischargeDepth := 4) only [g108_0, g108_1, g108_4, g108_6, g108_9, g108_10, g108_11, g108_12, g108_15, g108_16, g108_19, g108_20, g108_23, g108_24, g108_27, g108_28, g108_29, g108_30, g108_33, g108_34, g108_37, g108_38, g108_41, g108_43, g108_46, g108_47, g108_48, g108_49, g108_52, g108_53, g108_54, g108_55, g108_56, g108_57, g108_60, g108_63, g108_64, g108_67, g108_68, rz_k_inl, rz_k_inr, Option.toList_some, Option.toList_none, List.cons_append, List.nil_append, List.append_nil, rz_up_s, rz_u_s, rz_up_n, rz_u_n, ne_eq, not_false_eq_true, not_true_eq_false, Nat.add_assoc, Nat.reduceAdd, reduceIte, Nat.add_eq_left, Nat.left_eq_add, Nat.add_left_cancel_iff, Nat.reduceEqDiff, Nat.add_right_cancel_iff, rz_nb0, rz_nb1, rz_nbb, rz_nbi, rz_isr, rz_zle, if_true, if_false, rz_bi0, rz_bi1, Bool.not_eq_true, Bool.not_eq_false, Bool.true_eq_false, Bool.false_eq_true, rz_ix_lit, cl_lit, Nat.reduceLT, bi_t, bi_f, decide_true, decide_false, Bool.not_false, Bool.not_true, Bool.and_true, Bool.true_and, Bool.and_false, Bool.false_and, oWt_c o1, oWt_f0 o1, oWt_v0 o1, oWt_f1 o1, oWt_v1 o1, oWt_f2 o1, oWt_v2 o1, oWt_f3 o1, oWt_v3 o1, oWt_i4 o1, oWt_i5 o1, oWt_i6 o1, oWt_i7 o1, oWt_i8 o1, oWt_a1 o1, oWt_n1 o1, oWt_a2 o1, oWt_n2 o1, oWt_a3 o1, oWt_n3 o1, oTp_c, oTp_f0, oTp_v0, oTp_i1, oTp_i2, oTp_i3, oTp_i4, oTp_i5, oTp_i6, oTp_a1, oTp_n1, o1, o2, g1, x1, k1, y1, l1, z1, m1]
end WORK1
