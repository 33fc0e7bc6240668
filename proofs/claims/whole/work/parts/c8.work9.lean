/-! WORK, as it was read: loops well nested -/
def plK (q : TK) : Prop := (q.1 = 0 ∧ q.2.1 ≤ 7 ∧ q.2.2.1 ≤ 2 ∧ q.2.2.2 ≤ 9) ∨ (q.1 = 1 ∧ q.2.1 ≤ 7) ∨ (q.1 = 2 ∧ q.2.1 ≤ 7 ∧ q.2.2.1 ≤ 7) ∨ (q.1 = 3 ∧ q.2.1 ≤ 7) ∨ q.1 = 4
/-- from i to before j, loops at most o deep -/
def bal (T : Nat → TK) : Nat → Nat → Nat → Nat → Prop
  | 0, _, i, j => i = j
  | n + 1, o, i, j => i = j ∨ (i < j ∧ plK (T i) ∧ bal T n o (i + 1) j) ∨ ∃ c, i < c ∧ c < j ∧ 0 < o ∧ (T i).1 = 5 ∧ (T i).2.1 ≤ 60 ∧ (T i).2.2.1 = c ∧ (T c).1 = 6 ∧ (T c).2.1 = i ∧ bal T n (o - 1) (i + 1) c ∧ bal T n o (c + 1) j
def Bal (T : Nat → TK) (o i j : Nat) : Prop := ∃ n, bal T n o i j
theorem bal_le {T : Nat → TK} : ∀ n o i j, bal T n o i j → i ≤ j
  | 0, o, i, j, h => Nat.le_of_eq h
  | n + 1, o, i, j, h => by
    rcases h with h | ⟨h1, -, -⟩ | ⟨c, h1, h2, -⟩
    · omega
    · omega
    · omega
theorem bal_mono {T : Nat → TK} : ∀ n n' o i j, n ≤ n' → bal T n o i j → bal T n' o i j
  | 0, 0, _, _, _, _, h => h
  | 0, n' + 1, _, _, _, _, h => Or.inl h
  | n + 1, 0, _, _, _, h, _ => by omega
  | n + 1, n' + 1, o, i, j, hn, h => by
    rcases h with h | ⟨h1, h2, h3⟩ | ⟨c, h1, h2, h3, h4, h5, h6, h7, h8, h9, h10⟩
    · exact Or.inl h
    · exact Or.inr (Or.inl ⟨h1, h2, bal_mono n n' _ _ _ (by omega) h3⟩)
    · exact Or.inr (Or.inr ⟨c, h1, h2, h3, h4, h5, h6, h7, h8, bal_mono n n' _ _ _ (by omega) h9, bal_mono n n' _ _ _ (by omega) h10⟩)
theorem Bal.le {T : Nat → TK} {o i j : Nat} (h : Bal T o i j) : i ≤ j := bal_le _ _ _ _ h.choose_spec
theorem Bal.refl (T : Nat → TK) (o i : Nat) : Bal T o i i := ⟨0, rfl⟩
theorem Bal.pl {T : Nat → TK} {o i j : Nat} (hp : plK (T i)) (h : Bal T o (i + 1) j) : Bal T o i j := by
  have := h.le
  obtain ⟨n, h⟩ := h
  exact ⟨n + 1, Or.inr (Or.inl ⟨by omega, hp, h⟩)⟩
theorem Bal.ag {T : Nat → TK} {o i j c : Nat} (h0 : 0 < o) (h1 : (T i).1 = 5) (h2 : (T i).2.1 ≤ 60) (h3 : (T i).2.2.1 = c) (h4 : (T c).1 = 6) (h5 : (T c).2.1 = i) (h6 : Bal T (o - 1) (i + 1) c) (h7 : Bal T o (c + 1) j) : Bal T o i j := by
  have l1 := h6.le
  have l2 := h7.le
  obtain ⟨n, h6⟩ := h6
  obtain ⟨n', h7⟩ := h7
  exact ⟨max n n' + 1, Or.inr (Or.inr ⟨c, by omega, by omega, h0, h1, h2, h3, h4, h5, bal_mono _ _ _ _ _ (Nat.le_max_left _ _) h6, bal_mono _ _ _ _ _ (Nat.le_max_right _ _) h7⟩)⟩
theorem bal_app {T : Nat → TK} {o k j : Nat} (h2 : Bal T o k j) : ∀ n i, bal T n o i k → Bal T o i j
  | 0, i, h => by rw [show i = k from h]; exact h2
  | n + 1, i, h => by
    rcases h with h | ⟨h1, hp, h3⟩ | ⟨c, h1, h2', h3, h4, h5, h6, h7, h8, h9, h10⟩
    · rw [h]; exact h2
    · exact Bal.pl hp (bal_app h2 n _ h3)
    · exact Bal.ag h3 h4 h5 h6 h7 h8 ⟨n, h9⟩ (bal_app h2 n _ h10)
theorem Bal.app {T : Nat → TK} {o i k j : Nat} (h1 : Bal T o i k) (h2 : Bal T o k j) : Bal T o i j := by
  obtain ⟨n, h1⟩ := h1
  exact bal_app h2 n i h1
theorem bal_cong {T T' : Nat → TK} : ∀ n o i j, (∀ x, i ≤ x → x < j → T' x = T x) → bal T n o i j → bal T' n o i j
  | 0, _, _, _, _, h => h
  | n + 1, o, i, j, hc, h => by
    rcases h with h | ⟨h1, h2, h3⟩ | ⟨c, h1, h2, h3, h4, h5, h6, h7, h8, h9, h10⟩
    · exact Or.inl h
    · exact Or.inr (Or.inl ⟨h1, by rw [hc i (by omega) h1]; exact h2, bal_cong n _ _ _ (fun x a1 a2 => hc x (by omega) a2) h3⟩)
    · have ei := hc i (by omega) (by omega)
      have ec := hc c (by omega) (by omega)
      exact Or.inr (Or.inr ⟨c, h1, h2, h3, by rw [ei]; exact h4, by rw [ei]; exact h5, by rw [ei]; exact h6, by rw [ec]; exact h7, by rw [ec]; exact h8, bal_cong n _ _ _ (fun x a1 a2 => hc x (by omega) (by omega)) h9, bal_cong n _ _ _ (fun x a1 a2 => hc x (by omega) a2) h10⟩)
theorem Bal.cong {T T' : Nat → TK} {o i j : Nat} (h : Bal T o i j) (hc : ∀ x, i ≤ x → x < j → T' x = T x) : Bal T' o i j := by
  obtain ⟨n, h⟩ := h
  exact ⟨n, bal_cong n o i j hc h⟩
/-- what stands at the head of a stretch -/
theorem Bal.inv {T : Nat → TK} {o i j : Nat} (h : Bal T o i j) (hij : i < j) : (plK (T i) ∧ Bal T o (i + 1) j) ∨ ∃ c, i < c ∧ c < j ∧ 0 < o ∧ (T i).1 = 5 ∧ (T i).2.1 ≤ 60 ∧ (T i).2.2.1 = c ∧ (T c).1 = 6 ∧ (T c).2.1 = i ∧ Bal T (o - 1) (i + 1) c ∧ Bal T o (c + 1) j := by
  obtain ⟨n, h⟩ := h
  cases n with
  | zero => exact absurd h (by show ¬ i = j; omega)
  | succ n =>
    rcases h with h | ⟨h1, h2, h3⟩ | ⟨c, h1, h2, h3, h4, h5, h6, h7, h8, h9, h10⟩
    · omega
    · exact Or.inl ⟨h2, n, h3⟩
    · exact Or.inr ⟨c, h1, h2, h3, h4, h5, h6, h7, h8, ⟨n, h9⟩, ⟨n, h10⟩⟩
/-- loops still to be closed -/
def opn (T : Nat → TK) : List Nat → Nat → Prop
  | [], j => Bal T 6 0 j
  | k :: K, j => k < j ∧ (T k).1 = 5 ∧ (T k).2.1 ≤ 60 ∧ Bal T (6 - (K.length + 1)) (k + 1) j ∧ opn T K k
theorem opn_cong {T T' : Nat → TK} : ∀ K j, (∀ x, x < j → T' x = T x) → opn T K j → opn T' K j
  | [], j, hc, h => Bal.cong h (fun x _ a2 => hc x a2)
  | k :: K, j, hc, h => by
    obtain ⟨h1, h2, h3, h4, h5⟩ := h
    exact ⟨h1, by rw [hc k h1]; exact h2, by rw [hc k h1]; exact h3, h4.cong (fun x _ a2 => hc x a2), opn_cong K k (fun x a => hc x (by omega)) h5⟩
theorem opn_ext {T : Nat → TK} {K : List Nat} {i j : Nat} (h : opn T K i) (hb : Bal T (6 - K.length) i j) : opn T K j := by
  cases K with
  | nil => exact Bal.app h hb
  | cons k K =>
    obtain ⟨h1, h2, h3, h4, h5⟩ := h
    have := hb.le
    exact ⟨by omega, h2, h3, h4.app hb, h5⟩
theorem wtP_pl {B : Nat → Int32} {e p : Nat} {s : TK × Nat} (hp : p ≤ e) (h : wtP B e p = .inl s) : plK s.1 := by
  obtain ⟨w1, w2⟩ := wdR_le (B := B) hp
  unfold wtP at h
  split at h
  · obtain ⟨x, h1, h2⟩ := rB_inl h
    obtain ⟨y, h3, h4⟩ := rB_inl h2
    obtain ⟨z, h5, h6⟩ := rB_inl h4
    obtain ⟨x1, -, x5⟩ := nmN_le (k := 7) w2 (by decide) h1
    obtain ⟨y1, -, y5⟩ := nmN_le (k := 2) x5 (by decide) h3
    obtain ⟨z1, -, z5⟩ := nmN_le (k := 9) y5 (by decide) h5
    cases h6
    exact Or.inl ⟨rfl, x1, y1, z1⟩
  · split at h
    · obtain ⟨x, h1, h2⟩ := rB_inl h
      obtain ⟨x1, -, x5⟩ := nmN_le (k := 7) w2 (by decide) h1
      cases h2
      exact Or.inr (Or.inl ⟨rfl, x1⟩)
    · split at h
      · obtain ⟨x, h1, h2⟩ := rB_inl h
        obtain ⟨y, h3, h4⟩ := rB_inl h2
        obtain ⟨x1, -, x5⟩ := nmN_le (k := 7) w2 (by decide) h1
        obtain ⟨y1, -, y5⟩ := nmN_le (k := 7) x5 (by decide) h3
        cases h4
        exact Or.inr (Or.inr (Or.inl ⟨rfl, x1, y1⟩))
      · split at h
        · obtain ⟨x, h1, h2⟩ := rB_inl h
          obtain ⟨x1, -, x5⟩ := nmN_le (k := 7) w2 (by decide) h1
          cases h2
          exact Or.inr (Or.inr (Or.inr (Or.inl ⟨rfl, x1⟩)))
        · split at h
          · cases h; exact Or.inr (Or.inr (Or.inr (Or.inr rfl)))
          · cases h
theorem wt1_opn {B : Nat → Int32} {e m p : Nat} {K : List Nat} {T : Nat → TK} {s : WtS} (hp : p ≤ e) (hK : K.length ≤ 6) (ho : opn T K m) (h : wt1 B e K T m p = .inl s) : opn s.2.1 s.1 s.2.2.1 := by
  obtain ⟨w1, w2⟩ := wdR_le (B := B) hp
  unfold wt1 at h
  split at h
  · rename_i hc
    obtain ⟨q, h1, h2⟩ := rB_inl h
    cases h2
    cases K with
    | nil => exact absurd rfl hc.2
    | cons k K =>
      obtain ⟨o1, o2, o3, o4, o5⟩ := ho
      have hK : K.length + 1 ≤ 6 := hK
      show opn (wtC k T m) K (m + 1)
      have e1 : ∀ x, x < m → x ≠ k → wtC k T m x = T x := fun x a1 a2 => by unfold wtC; rw [upT_n (by omega), upT_n a2]
      have ek : wtC k T m k = ((T k).1, (T k).2.1, m, (T k).2.2.2) := by unfold wtC; rw [upT_n (by omega), upT_s]
      have em : wtC k T m m = (6, k, 0, 0) := by unfold wtC; rw [upT_s]
      refine opn_ext (opn_cong K k (fun x a => e1 x (by omega) (by omega)) o5) ?_
      refine Bal.ag (c := m) (by omega) (by rw [ek]; exact o2) (by rw [ek]; exact o3) (by rw [ek]) (by rw [em]) (by rw [em]) ?_ (Bal.refl _ _ _)
      rw [show 6 - K.length - 1 = 6 - (K.length + 1) by omega]
      exact o4.cong (fun x a1 a2 => e1 x a2 (by omega))
  · split at h
    · split at h
      · obtain ⟨x, h1, h2⟩ := rB_inl h
        obtain ⟨q, h3, h4⟩ := rB_inl h2
        obtain ⟨x1, -, -⟩ := nmN_le (k := 60) w2 (by decide) h1
        cases h4
        exact ⟨by show m < m + 1; omega, by show (upT T m (5, x.1, 0, 0) m).1 = 5; rw [upT_s], by show (upT T m (5, x.1, 0, 0) m).2.1 ≤ 60; rw [upT_s]; exact x1, Bal.refl _ _ _, opn_cong K m (fun y hy => upT_n (by omega)) ho⟩
      · cases h
    · obtain ⟨t, h1, h2⟩ := rB_inl h
      obtain ⟨q, h3, h4⟩ := rB_inl h2
      cases h4
      show opn (upT T m t.1) K (m + 1)
      refine opn_ext (opn_cong K m (fun y hy => upT_n (by omega)) ho) ?_
      exact Bal.pl (by rw [upT_s]; exact wtP_pl hp h1) (Bal.refl _ _ _)
theorem wtR_bal {B : Nat → Int32} {e : Nat} : ∀ (n : Nat) (K : List Nat) (T : Nat → TK) (m p : Nat) (s : (Nat → TK) × Nat), p ≤ e → e - p < n → K.length ≤ 6 → 9 * m + 5 * K.length ≤ 2 * p → opn T K m → wtR B e n K T m p = .inl s → Bal s.1 6 0 s.2 ∧ 9 * s.2 ≤ 2 * e
  | 0, _, _, _, _, _, _, h, _, _, _, _ => by omega
  | n + 1, K, T, m, p, s, hp, hn, hK, hm, ho, h => by
    rw [wtR] at h
    split at h
    · rename_i hA
      cases h
      obtain ⟨-, hA⟩ := hA
      subst hA
      have hm : 9 * m + 5 * 0 ≤ 2 * p := hm
      exact ⟨ho, by show 9 * m ≤ 2 * e; omega⟩
    · obtain ⟨s1, h1, h2⟩ := rB_inl h
      obtain ⟨p1, p2, p3, p4⟩ := wt1_pr hp hK hm h1
      exact wtR_bal n _ _ _ _ s p2 (by omega) p3 p4 (wt1_opn hp hK ho h1) h2
theorem wtX_bal {B : Nat → Int32} {e : Nat} {s : (Nat → TK) × Nat} (h : wtX B e = .inl s) : Bal s.1 6 0 s.2 ∧ 9 * s.2 ≤ 2 * e := wtR_bal _ [] T00 0 0 s (by omega) (by omega) (by decide) (by decide) (Bal.refl _ _ _) h
/-! what a run of it comes to -/
abbrev MS : Type := Nat × Nat × Nat × (Nat → Int32)
def doR (C : List (Nat × Nat)) (R : Nat → Int32) (q : TK) : Option (Nat → Int32) := if q.1 = 0 then fgnR R q.2.1 q.2.2.1 (nI q.2.2.2) else if q.1 = 1 then drpR R (mOf R) q.2.1 else if q.1 = 2 then berR R (mOf R) q.2.1 q.2.2.1 else if q.1 = 3 then burR C R (mOf R) q.2.1 else if R 61 < 900 then some (yerR R (mOf R)) else none
def dS (C : List (Nat × Nat)) (q : TK) (s : MS) : MS := match doR C s.2.2.2 q with
  | some R => (s.1 + 1, s.2.1 + 1, s.2.2.1, R)
  | none => (s.1 + 1, s.2.1, s.2.2.1 + 1, s.2.2.2)
/-- one move -/
def mS (C : List (Nat × Nat)) (T : Nat → TK) (m : Nat) (a : Nat) (V : List Nat) (s : MS) : Option (Nat × List Nat × MS) :=
  if ¬ a < m then none
  else if (T a).1 = 6 then (match V with
    | [] => some (a + 1, [], s)
    | v :: V => if 1 < v then some ((T a).2.1 + 1, (v - 1) :: V, s) else some (a + 1, V, s))
  else if 200 ≤ s.1 then none
  else if (T a).1 = 5 then (if (T a).2.1 = 0 ∨ 6 ≤ V.length then some ((T a).2.2.1 + 1, V, (s.1 + 1, s.2)) else some (a + 1, (T a).2.1 :: V, (s.1 + 1, s.2)))
  else some (a + 1, V, dS C (T a) s)
def mR (C : List (Nat × Nat)) (T : Nat → TK) (m : Nat) : Nat → Nat → List Nat → MS → MS
  | 0, _, _, s => s
  | n + 1, a, V, s => match mS C T m a V s with
    | none => s
    | some x => mR C T m n x.1 x.2.1 x.2.2
def phi (V : List Nat) (g : Nat) : Nat := 61 * (200 - g) + V.sum
/-- where a run stands -/
def bst (T : Nat → TK) (m : Nat) : List Nat → Nat → Prop
  | [], a => Bal T 6 a m
  | k :: K, a => ∃ c, k < a ∧ a ≤ c ∧ c < m ∧ (T k).1 = 5 ∧ (T k).2.2.1 = c ∧ (T c).1 = 6 ∧ (T c).2.1 = k ∧ Bal T (6 - (K.length + 1)) (k + 1) c ∧ Bal T (6 - (K.length + 1)) a c ∧ bst T m K (c + 1)
theorem plK_n {q : TK} (h : plK q) : q.1 ≠ 6 ∧ q.1 ≠ 5 := by
  unfold plK at h
  omega
theorem bst_le {T : Nat → TK} {m a : Nat} {K : List Nat} (h : bst T m K a) : a ≤ m := by
  cases K with
  | nil => exact (show Bal T 6 a m from h).le
  | cons k K =>
    obtain ⟨c, -, h2, h3, -⟩ := h
    omega
/-- a stretch's end, seen from a level -/
theorem bst_head {T : Nat → TK} {m a : Nat} {K : List Nat} (hb : bst T m K a) (ha : a < m) : (∃ j, a < j ∧ Bal T (6 - K.length) a j ∧ ∀ a', a ≤ a' → Bal T (6 - K.length) a' j → bst T m K a') ∨ ∃ k K', K = k :: K' ∧ (T a).1 = 6 ∧ (T a).2.1 = k ∧ bst T m K (k + 1) ∧ bst T m K' (a + 1) := by
  cases K with
  | nil => exact Or.inl ⟨m, ha, hb, fun a' _ h => h⟩
  | cons k K =>
    obtain ⟨c, h1, h2, h3, h4, h5, h6, h7, h8, h9, h10⟩ := hb
    by_cases e : a = c
    · subst e
      exact Or.inr ⟨k, K, rfl, h6, h7, ⟨a, by omega, h8.le, h3, h4, h5, h6, h7, h8, h8, h10⟩, h10⟩
    · left
      refine ⟨c, by omega, h9, fun a' hk h => ⟨c, by omega, h.le, h3, h4, h5, h6, h7, h8, h, h10⟩⟩
/-- a run keeps its place, and comes nearer to its end -/
def okV (V : List Nat) : Prop := ∀ v ∈ V, 1 ≤ v
theorem mS_ok {C : List (Nat × Nat)} {T : Nat → TK} {m a : Nat} {K V : List Nat} {s : MS} {x : Nat × List Nat × MS} (hb : bst T m K a) (hl : K.length = V.length) (hK : K.length ≤ 6) (hV : okV V) (h : mS C T m a V s = some x) : ∃ K', bst T m K' x.1 ∧ K'.length = x.2.1.length ∧ K'.length ≤ 6 ∧ okV x.2.1 ∧ phi x.2.1 x.2.2.1 < phi V s.1 := by
  unfold mS at h
  by_cases ha : a < m
  · rw [if_neg (fun z => z ha)] at h
    rcases bst_head hb ha with ⟨j, j1, j2, j3⟩ | ⟨k, K', e1, e2, e3, e4, e5⟩
    · rcases j2.inv j1 with ⟨q1, q2⟩ | ⟨c, q1, q2, q3, q4, q5, q6, q7, q8, q9, q10⟩
      · obtain ⟨n6, n5⟩ := plK_n q1
        rw [if_neg n6] at h
        split at h
        · cases h
        · rename_i hg
          cases h
          refine ⟨K, j3 _ (by omega) q2, hl, hK, hV, ?_⟩
          have : (dS C (T a) s).1 = s.1 + 1 := by unfold dS; split <;> rfl
          show phi V (dS C (T a) s).1 < phi V s.1
          rw [this]
          unfold phi
          omega
      · rw [if_neg (by rw [q4]; decide)] at h
        split at h
        · cases h
        · rename_i hg
          split at h
          · rename_i hz
            cases h
            rw [q6]
            refine ⟨K, j3 _ (by omega) q10, hl, hK, hV, ?_⟩
            show phi V (s.1 + 1) < phi V s.1
            unfold phi
            omega
          · rename_i hz
            have hK6 : K.length < 6 := by omega
            cases h
            refine ⟨a :: K, ⟨c, by omega, by omega, ?_, q4, q6, q7, q8, ?_, ?_, ?_⟩, ?_, ?_, ?_, ?_⟩
            · -- c < m
              have : j ≤ m := bst_le (j3 j (by omega) (Bal.refl _ _ _))
              omega
            · rw [show 6 - (K.length + 1) = 6 - K.length - 1 by omega]; exact q9
            · rw [show 6 - (K.length + 1) = 6 - K.length - 1 by omega]; exact q9
            · exact j3 _ (by omega) q10
            · show K.length + 1 = V.length + 1; omega
            · show K.length + 1 ≤ 6; omega
            · intro v hv
              rcases List.mem_cons.mp hv with z | z
              · rw [z]; omega
              · exact hV v z
            · show phi ((T a).2.1 :: V) (s.1 + 1) < phi V s.1
              unfold phi
              rw [List.sum_cons]
              omega
    · rw [if_pos e2] at h
      cases V with
      | nil => rw [e1] at hl; cases hl
      | cons v V =>
        have hv := hV v List.mem_cons_self
        have hV' : okV V := fun y hy => hV y (List.mem_cons_of_mem _ hy)
        have hl' : K'.length = V.length := by rw [e1] at hl; exact Nat.succ.inj hl
        have hK' : K'.length + 1 ≤ 6 := by rw [e1] at hK; exact hK
        dsimp only at h
        split at h
        · cases h
          rw [e3]
          refine ⟨K, e4, hl, hK, ?_, ?_⟩
          · intro y hy
            rcases List.mem_cons.mp hy with z | z
            · rw [z]; omega
            · exact hV' y z
          · show phi ((v - 1) :: V) s.1 < phi (v :: V) s.1
            unfold phi
            rw [List.sum_cons, List.sum_cons]
            omega
        · cases h
          refine ⟨K', e5, hl', by omega, hV', ?_⟩
          show phi V s.1 < phi (v :: V) s.1
          unfold phi
          rw [List.sum_cons]
          omega
  · rw [if_pos ha] at h; cases h
theorem mR_fuel {C : List (Nat × Nat)} {T : Nat → TK} {m : Nat} : ∀ (n n' a : Nat) (K V : List Nat) (s : MS), bst T m K a → K.length = V.length → K.length ≤ 6 → okV V → phi V s.1 < n → phi V s.1 < n' → mR C T m n a V s = mR C T m n' a V s
  | 0, _, _, _, _, _, _, _, _, _, h, _ => by omega
  | _, 0, _, _, _, _, _, _, _, _, _, h => by omega
  | n + 1, n' + 1, a, K, V, s, hb, hl, hK, hV, h1, h2 => by
    rw [mR, mR]
    cases x0 : mS C T m a V s with
    | none => rfl
    | some x =>
      obtain ⟨K', k1, k2, k3, k4, k5⟩ := mS_ok hb hl hK hV x0
      exact mR_fuel n n' _ K' _ _ k1 k2 k3 k4 (by omega) (by omega)
/-- comes to an end, with this -/
def Rn (C : List (Nat × Nat)) (T : Nat → TK) (m a : Nat) (V : List Nat) (s f : MS) : Prop := ∃ N, ∀ n, N ≤ n → mR C T m n a V s = f
theorem Rn.step {C : List (Nat × Nat)} {T : Nat → TK} {m a : Nat} {V : List Nat} {s f : MS} {x : Nat × List Nat × MS} (h : mS C T m a V s = some x) (hr : Rn C T m x.1 x.2.1 x.2.2 f) : Rn C T m a V s f := by
  obtain ⟨N, hN⟩ := hr
  refine ⟨N + 1, fun n hn => ?_⟩
  obtain ⟨n, rfl⟩ : ∃ k, n = k + 1 := ⟨n - 1, by omega⟩
  rw [mR, h]
  exact hN n (by omega)
theorem Rn.stop {C : List (Nat × Nat)} {T : Nat → TK} {m a : Nat} {V : List Nat} {s : MS} (h : mS C T m a V s = none) : Rn C T m a V s s := ⟨1, fun n hn => by
  obtain ⟨n, rfl⟩ : ∃ k, n = k + 1 := ⟨n - 1, by omega⟩
  rw [mR, h]⟩
theorem Rn.uni {C : List (Nat × Nat)} {T : Nat → TK} {m a : Nat} {V : List Nat} {s f f' : MS} (h1 : Rn C T m a V s f) (h2 : Rn C T m a V s f') : f = f' := by
  obtain ⟨N, hN⟩ := h1
  obtain ⟨N', hN'⟩ := h2
  rw [← hN (max N N') (Nat.le_max_left _ _), hN' (max N N') (Nat.le_max_right _ _)]
/-- once 200 are begun, nothing more is done -/
theorem Rn.full {C : List (Nat × Nat)} {T : Nat → TK} {m : Nat} {s : MS} (hs : 200 ≤ s.1) : ∀ (k z a : Nat) (V : List Nat), V.sum + V.length ≤ k → m - a ≤ z → Rn C T m a V s s := by
  intro k
  induction k with
  | zero =>
    intro z
    induction z with
    | zero =>
      intro a V hV hz
      exact Rn.stop (by unfold mS; rw [if_pos (by omega)])
    | succ z ih =>
      intro a V hV hz
      have hV0 : V = [] := by cases V with | nil => rfl | cons v V => rw [List.length_cons] at hV; omega
      subst hV0
      by_cases ha : a < m
      · by_cases h6 : (T a).1 = 6
        · refine Rn.step (x := (a + 1, [], s)) (by unfold mS; rw [if_neg (fun y => y ha), if_pos h6]) (ih (a + 1) [] (by decide) (by omega))
        · exact Rn.stop (by unfold mS; rw [if_neg (fun y => y ha), if_neg h6, if_pos hs])
      · exact Rn.stop (by unfold mS; rw [if_pos ha])
  | succ k ihk =>
    intro z
    induction z with
    | zero =>
      intro a V hV hz
      exact Rn.stop (by unfold mS; rw [if_pos (by omega)])
    | succ z ih =>
      intro a V hV hz
      by_cases ha : a < m
      · by_cases h6 : (T a).1 = 6
        · cases V with
          | nil => exact Rn.step (x := (a + 1, [], s)) (by unfold mS; rw [if_neg (fun y => y ha), if_pos h6]) (ih (a + 1) [] hV (by omega))
          | cons v V =>
            rw [List.sum_cons, List.length_cons] at hV
            by_cases hv : 1 < v
            · exact Rn.step (x := ((T a).2.1 + 1, (v - 1) :: V, s)) (by unfold mS; rw [if_neg (fun y => y ha), if_pos h6]; dsimp only; rw [if_pos hv]) (ihk m _ ((v - 1) :: V) (by rw [List.sum_cons, List.length_cons]; omega) (by omega))
            · exact Rn.step (x := (a + 1, V, s)) (by unfold mS; rw [if_neg (fun y => y ha), if_pos h6]; dsimp only; rw [if_neg hv]) (ihk m _ V (by omega) (by omega))
        · exact Rn.stop (by unfold mS; rw [if_neg (fun y => y ha), if_neg h6, if_pos hs])
      · exact Rn.stop (by unfold mS; rw [if_pos ha])
/-- so a run is what 12462 moves make of it -/
theorem mR_run {C : List (Nat × Nat)} {T : Nat → TK} {m : Nat} {s f : MS} (hb : Bal T 6 0 m) (hg : s.1 = 0) (hr : Rn C T m 0 [] s f) : mR C T m 12462 0 [] s = f := by
  obtain ⟨N, hN⟩ := hr
  have hp : phi [] s.1 = 12200 := by unfold phi; rw [hg]; rfl
  rw [← hN (max N 12462) (Nat.le_max_left _ _)]
  exact mR_fuel _ _ 0 [] [] s hb rfl (by decide) (fun v hv => by cases hv) (by omega) (by have := Nat.le_max_right N 12462; omega)
