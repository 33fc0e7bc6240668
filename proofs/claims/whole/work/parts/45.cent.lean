/-! a century, as both go through it -/
theorem b_32767 : ∀ i, i < 32 → bt 32767 i = decide (i < 15) := by decide +kernel
def lcg (s : Int32) : Int32 := s * 1103515245 + 12345
def vN (s : Int32) : Nat := ((s.toUInt32 >>> ((16 : Int32).toUInt32 &&& Int32.toUInt32 31)).toInt32).toBitVec.toNat % 32768
theorem vN_lt (s : Int32) : vN s < 32768 := Nat.mod_lt _ (by decide)
theorem vN_u (s : Int32) : (s.toUInt32 >>> ((16 : Int32).toUInt32 &&& Int32.toUInt32 31)).toInt32 &&& 32767 = nI (vN s) := pk_and _ 15 (by decide)
theorem vN_s (s : Int32) : (s >>> ((16 : Int32) &&& 31)) &&& 32767 = nI (vN s) := by
  rw [← vN_u]
  apply b_ext
  intro i hi
  rw [b_and, b_and, b_32767 i hi]
  have e1 := b_sshr 16 (by omega) s hi
  have e2 := b_ushr 16 (by omega) s i
  rw [show nI 16 = 16 from rfl] at e1 e2
  rw [e1, e2]
  by_cases h15 : i < 15
  · rw [if_pos (by omega)]
  · simp [h15]
theorem vN_8 (s : Int32) : nI (vN s) &&& (8 - 1) = nI (vN s % 8) := pk_andN (by have := vN_lt s; omega) 3 (by decide)
theorem vN_16 (s : Int32) : nI (vN s) &&& (16 - 1) = nI (vN s % 16) := pk_andN (by have := vN_lt s; omega) 4 (by decide)
theorem vN_r8 (s : Int32) : nI (vN s) - nI (vN s) / 8 * 8 = nI (vN s % 8) := pk_rem (d := 8) (by have := vN_lt s; omega) (by decide) (by decide)
theorem vN_r16 (s : Int32) : nI (vN s) - nI (vN s) / 16 * 16 = nI (vN s % 16) := pk_rem (d := 16) (by have := vN_lt s; omega) (by decide) (by decide)
/-- a row that births, deaths and years may meet -/
def wkR (R : Nat → Int32) (m : Nat) (dk : Option Nat) : Prop := R 57 = nI m ∧ m ≤ 8 ∧ R 58 = oN dk ∧ (∀ q, dk = some q → q < 8) ∧ ∀ p, p < 8 → rLv R p = true → p < m
theorem okR.wk {R : Nat → Int32} {m lv : Nat} {dk : Option Nat} (h : okR R m dk lv) : wkR R m dk := ⟨h.1, h.2.1, h.2.2.1, h.d8, fun _ hp hl => h.lvm hp hl⟩
theorem addR_57 {R : Nat → Int32} {m : Nat} (hm : m < 8) (x y z e : Int32) : addR R m x y z e 57 = R 57 + 1 := by
  unfold addR shIs
  rw [if_neg (by omega), rz_u_n (by omega), rz_u_n (by omega), rz_u_n (by omega), rz_u_n (by omega), rz_u_n (by omega), rz_u_s]
theorem addR_58 {R : Nat → Int32} {m : Nat} (hm : m < 8) (x y z e : Int32) : addR R m x y z e 58 = R 58 := by
  unfold addR shIs
  rw [if_neg (by omega), rz_u_n (by omega), rz_u_n (by omega), rz_u_n (by omega), rz_u_n (by omega), rz_u_n (by omega), rz_u_n (by omega)]
theorem addR_56 {R : Nat → Int32} {m : Nat} (hm : m < 8) (x y z e : Int32) : addR R m x y z e 56 = R 56 ||| rBit m := by
  unfold addR shIs
  rw [if_neg (by omega), rz_u_n (by omega), rz_u_n (by omega), rz_u_n (by omega), rz_u_n (by omega), rz_u_s]
theorem wkR.ber {R : Nat → Int32} {m : Nat} {dk : Option Nat} (h : wkR R m dk) (a b : Nat) : ∃ m', wkR ((berR R m a b).getD R) m' dk ∧ m ≤ m' := by
  unfold berR
  split
  · rename_i hc
    have hm := hc.2.2.2
    refine ⟨m + 1, ⟨?_, by omega, ?_, h.2.2.2.1, ?_⟩, by omega⟩
    · simp only [Option.getD_some]
      rw [addR_57 hm, h.1, nI_1]
    · simp only [Option.getD_some]
      rw [addR_58 hm]; exact h.2.2.1
    · intro p hp hl
      simp only [Option.getD_some] at hl
      rw [rLv_bt (by omega), addR_56 hm, bt_set (by omega) (by omega)] at hl
      by_cases e : p = m
      · omega
      · simp only [e, decide_false, Bool.or_false] at hl
        have := h.2.2.2.2 p hp (by rw [rLv_bt (by omega)]; exact hl)
        omega
  · exact ⟨m, h, Nat.le_refl m⟩
theorem wkR.bur {R : Nat → Int32} {m : Nat} {dk : Option Nat} (h : wkR R m dk) (C : List (Nat × Nat)) {p : Nat} (hp : p < 8) : ∃ dk', wkR ((burR C R m p).getD R) m dk' := by
  have hl : ∀ q, q < 8 → bt (R 56 &&& (rBit p ^^^ (-1))) q = true → q < m := fun q hq hb => by
    rw [bt_clr (by omega) (by omega)] at hb
    simp only [Bool.and_eq_true] at hb
    exact h.2.2.2.2 q hq (by rw [rLv_bt (by omega)]; exact hb.1)
  unfold burR
  split
  · simp only [Option.getD_some]
    split
    · have e57 : ∀ x, crnR (kilR R p) x 57 = R 57 := fun x => by
        unfold crnR kilR; rw [rz_u_n (by decide), rz_u_n (by decide), rz_u_n (by decide), rz_u_n (by decide)]
      have e58 : ∀ x, crnR (kilR R p) x 58 = x := fun x => by
        unfold crnR; rw [rz_u_n (by decide), rz_u_n (by decide), rz_u_s]
      have e56 : ∀ x, crnR (kilR R p) x 56 = R 56 &&& (rBit p ^^^ (-1)) := fun x => by
        unfold crnR kilR; rw [rz_u_n (by decide), rz_u_n (by decide), rz_u_n (by decide), rz_u_s]
      rcases furS_1 C (kilR R p) p m h.2.1 with e | ⟨n, h1, -, -, e⟩
      · refine ⟨none, by rw [e57]; exact h.1, h.2.1, by rw [e58]; exact e, fun q hq => (nomatch hq), fun q hq hb => hl q hq ?_⟩
        rw [rLv_bt (by omega), e56] at hb; exact hb
      · refine ⟨some n, by rw [e57]; exact h.1, h.2.1, by rw [e58]; exact e, fun q hq => by cases hq; have := h.2.1; omega, fun q hq hb => hl q hq ?_⟩
        rw [rLv_bt (by omega), e56] at hb; exact hb
    · refine ⟨dk, ?_, h.2.1, ?_, h.2.2.2.1, fun q hq hb => hl q hq ?_⟩
      · unfold kilR; rw [rz_u_n (by decide)]; exact h.1
      · unfold kilR; rw [rz_u_n (by decide)]; exact h.2.2.1
      · rw [rLv_bt (by omega)] at hb; unfold kilR at hb; rw [rz_u_s] at hb; exact hb
  · exact ⟨dk, h⟩
theorem yerR_n0 {R : Nat → Int32} {m i : Nat} (hm : m ≤ 8) (hi : i < 48 ∨ (56 ≤ i ∧ i ≠ 59 ∧ i ≠ 61)) : yerR R m i = R i := by
  unfold yerR
  rw [rz_u_n (by omega), rz_u_n (by omega)]
  exact agdR_n m (by omega)
theorem wkR.yer {R : Nat → Int32} {m : Nat} {dk : Option Nat} (h : wkR R m dk) : wkR (yerR R m) m dk := by
  have hm := h.2.1
  refine ⟨by rw [yerR_n0 hm (by omega)]; exact h.1, hm, by rw [yerR_n0 hm (by omega)]; exact h.2.2.1, h.2.2.2.1, fun p hp hl => h.2.2.2.2 p hp ?_⟩
  unfold rLv at hl ⊢
  rw [yerR_n0 hm (by omega)] at hl; exact hl
def mOf (R : Nat → Int32) : Nat := (R 57).toNatClampNeg
theorem wkR.mo {R : Nat → Int32} {m : Nat} {dk : Option Nat} (h : wkR R m dk) : mOf R = m := by
  unfold mOf; rw [h.1, nI_cl (by have := h.2.1; omega)]
/-- one of its years: the seed, the row -/
def cyB (x : Int32 × (Nat → Int32)) : Nat → Int32 := (berR x.2 (mOf x.2) (vN (lcg x.1) % 8) (vN (lcg (lcg x.1)) % 8)).getD x.2
def cyY (C : List (Nat × Nat)) (q : Int32) (x : Int32 × (Nat → Int32)) : Int32 × (Nat → Int32) :=
  if nI (vN (lcg (lcg (lcg x.1))) % 16) < q then (lcg (lcg (lcg (lcg x.1))), yerR ((burR C (cyB x) (mOf (cyB x)) (vN (lcg (lcg (lcg (lcg x.1)))) % 8)).getD (cyB x)) (mOf (cyB x)))
  else (lcg (lcg (lcg x.1)), yerR (cyB x) (mOf (cyB x)))
def cyN (C : List (Nat × Nat)) (q s : Int32) (R : Nat → Int32) : Nat → Int32 × (Nat → Int32)
  | 0 => (s, R)
  | n + 1 => cyY C q (cyN C q s R n)
theorem wkR.cy {C : List (Nat × Nat)} {q : Int32} {x : Int32 × (Nat → Int32)} {m : Nat} {dk : Option Nat} (h : wkR x.2 m dk) : ∃ m' dk', wkR (cyY C q x).2 m' dk' := by
  unfold cyY
  have hm := h.mo
  obtain ⟨m1, h1, -⟩ := h.ber (vN (lcg x.1) % 8) (vN (lcg (lcg x.1)) % 8)
  have hB : cyB x = (berR x.2 m (vN (lcg x.1) % 8) (vN (lcg (lcg x.1)) % 8)).getD x.2 := by unfold cyB; rw [hm]
  rw [← hB] at h1
  rw [h1.mo]
  split
  · obtain ⟨dk2, h2⟩ := h1.bur C (p := vN (lcg (lcg (lcg (lcg x.1)))) % 8) (Nat.mod_lt _ (by decide))
    exact ⟨m1, dk2, h2.yer⟩
  · exact ⟨m1, dk, h1.yer⟩
theorem wkR.cyN {C : List (Nat × Nat)} {q s : Int32} {R : Nat → Int32} {m : Nat} {dk : Option Nat} (h : wkR R m dk) : ∀ n, ∃ m' dk', wkR (cyN C q s R n).2 m' dk'
  | 0 => ⟨m, dk, h⟩
  | n + 1 => by
    obtain ⟨m1, d1, h1⟩ := wkR.cyN (C := C) (q := q) (s := s) h n
    exact h1.cy
/-- there are no more dukes by a year than one more -/
theorem cyY_60 {C : List (Nat × Nat)} {q : Int32} {x : Int32 × (Nat → Int32)} {m : Nat} {dk : Option Nat} (h : wkR x.2 m dk) : (cyY C q x).2 60 = x.2 60 ∨ (cyY C q x).2 60 = x.2 60 + 1 := by
  obtain ⟨m1, h1, -⟩ := h.ber (vN (lcg x.1) % 8) (vN (lcg (lcg x.1)) % 8)
  have hB : cyB x = (berR x.2 m (vN (lcg x.1) % 8) (vN (lcg (lcg x.1)) % 8)).getD x.2 := by unfold cyB; rw [h.mo]
  rw [← hB] at h1
  have e0 : cyB x 60 = x.2 60 := by
    rw [hB]
    unfold berR
    split
    · rename_i hc
      have hm := hc.2.2.2
      simp only [Option.getD_some]
      unfold addR shIs
      rw [if_neg (by omega), rz_u_n (by omega), rz_u_n (by omega), rz_u_n (by omega), rz_u_n (by omega), rz_u_n (by omega), rz_u_n (by omega)]
    · rfl
  unfold cyY
  rw [h1.mo]
  split
  · have : ∀ p, (burR C (cyB x) m1 p).getD (cyB x) 60 = x.2 60 ∨ (burR C (cyB x) m1 p).getD (cyB x) 60 = x.2 60 + 1 := by
      intro p
      unfold burR
      split
      · simp only [Option.getD_some]
        split
        · have e60 : ∀ v, crnR (kilR (cyB x) p) v 60 = x.2 60 + (if v = -1 then 0 else 1) := fun v => by
            unfold crnR kilR; rw [rz_u_s, rz_u_n (by decide), e0]
          rw [e60]
          split
          · left; rw [Int32.add_zero]
          · right; rfl
        · left; unfold kilR; rw [rz_u_n (by decide)]; exact e0
      · left; exact e0
    simp only
    rw [yerR_n0 h1.2.1 (by omega)]
    exact this _
  · left
    simp only
    rw [yerR_n0 h1.2.1 (by omega)]
    exact e0
theorem cyN_60 {C : List (Nat × Nat)} {q s : Int32} {R : Nat → Int32} {m dn : Nat} {dk : Option Nat} (h : wkR R m dk) (h60 : R 60 = nI dn) : ∀ n, ∃ e, e ≤ dn + n ∧ (cyN C q s R n).2 60 = nI e
  | 0 => ⟨dn, Nat.le_refl _, h60⟩
  | n + 1 => by
    obtain ⟨e, h1, h2⟩ := cyN_60 (C := C) (q := q) (s := s) h h60 n
    obtain ⟨m1, d1, w1⟩ := h.cyN (C := C) (q := q) (s := s) n
    rcases cyY_60 (C := C) (q := q) w1 with h3 | h3
    · exact ⟨e, by omega, by rw [← h2]; exact h3⟩
    · exact ⟨e + 1, by omega, by rw [← nI_1, ← h2]; exact h3⟩
