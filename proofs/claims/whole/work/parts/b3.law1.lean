/-! the text of a LAW: what both read -/
abbrev LwR : Type := (List (Nat × Nat) × Nat) ⊕ (Nat × Nat)
abbrev LwF : Type := Nat → Nat → List (Nat × Nat) → Nat → LwR
theorem rB_inl {α β φ : Type} {x : α ⊕ φ} {f : α → β ⊕ φ} {s : β} (h : rB x f = .inl s) : ∃ a, x = .inl a ∧ f a = .inl s := by
  cases x with
  | inl a => exact ⟨a, rfl, h⟩
  | inr e => cases h
def op1 (c : Int32) : Nat := if c = 43 then 2 else if c = 45 then 3 else 0
def op3 (c : Int32) : Nat := if c = 42 then 4 else if c = 47 then 5 else if c = 37 then 6 else 0
def lwW (B : Nat → Int32) (q r : Nat) : Nat := if wdIs B q r (WD 4) = true then 7 else if wdIs B q r (WD 5) = true then 8 else if wdIs B q r (WD 6) = true then 10 else if wdIs B q r (WD 7) = true then 11 else if wdIs B q r (WD 8) = true then 12 else if wdIs B q r (WD 9) = true then 13 else if wdIs B q r (WD 10) = true then 14 else if wdIs B q r (WD 11) = true then 15 else if wdIs B q r (WD 12) = true then 16 else if wdIs B q r (WD 13) = true then 17 else 0
def lwA (f : LwF) (o : Nat) (C : List (Nat × Nat)) (p : Nat) : LwR := rB (f 2 o C p) (fun s => f 1 o s.1 s.2)
def lwB (B : Nat → Int32) (e : Nat) (f : LwF) (o : Nat) (C : List (Nat × Nat)) (p : Nat) : LwR := if op1 (sg B e (sk B e p)) = 0 then .inl (C, sk B e p) else rB (f 2 o C (sk B e p + 1)) (fun s => f 1 o (s.1 ++ [(op1 (sg B e (sk B e p)), 0)]) s.2)
def lwG (f : LwF) (o : Nat) (C : List (Nat × Nat)) (p : Nat) : LwR := rB (f 4 o C p) (fun s => f 3 o s.1 s.2)
def lwH (B : Nat → Int32) (e : Nat) (f : LwF) (o : Nat) (C : List (Nat × Nat)) (p : Nat) : LwR := if op3 (sg B e (sk B e p)) = 0 then .inl (C, sk B e p) else rB (f 4 o C (sk B e p + 1)) (fun s => f 3 o (s.1 ++ [(op3 (sg B e (sk B e p)), 0)]) s.2)
/-- in brackets -/
def lwI1 (B : Nat → Int32) (e : Nat) (f : LwF) (o : Nat) (C : List (Nat × Nat)) (p : Nat) : LwR := if sg B e (sk B e p) = 40 then (if o < 6 then rB (f 0 (o + 1) C (sk B e p + 1)) (fun s => rB (smP B e 41 s.2) (fun q => .inl (s.1, q))) else .inr (3, sk B e p)) else .inr (1, sk B e p)
/-- of two -/
def lwI2 (B : Nat → Int32) (e : Nat) (f : LwF) (o : Nat) (C : List (Nat × Nat)) (p j : Nat) : LwR := if o < 6 then rB (smP B e 91 (wdR B e p)) (fun q => rB (f 0 (o + 1) C q) (fun s => rB (smP B e 44 s.2) (fun q2 => rB (f 0 (o + 1) s.1 q2) (fun s2 => rB (smP B e 93 s2.2) (fun q3 => .inl (s2.1 ++ [(j, 0)], q3)))))) else .inr (3, sk B e p)
def lwO (B : Nat → Int32) (e : Nat) (f : LwF) (o : Nat) (C : List (Nat × Nat)) (p : Nat) : LwR :=
  if isD (sg B e (sk B e p)) = true then rB (nmN B e 999 p) (fun x => .inl (C ++ [(0, x.1)], x.2))
  else if wdIs B (sk B e p) (wdR B e p) (WD 3) = true then lwI1 B e f o C p
  else if lwW B (sk B e p) (wdR B e p) = 7 ∨ lwW B (sk B e p) (wdR B e p) = 8 then lwI2 B e f o C p (lwW B (sk B e p) (wdR B e p))
  else if lwW B (sk B e p) (wdR B e p) = 0 then .inr (1, sk B e p) else .inl (C ++ [(1, lwW B (sk B e p) (wdR B e p) - 10)], wdR B e p)
def lwP (B : Nat → Int32) (e : Nat) : Nat → LwF
  | 0 => fun _ _ _ _ => .inr (0, 0)
  | n + 1 => fun m o C p => if m = 0 then lwA (lwP B e n) o C p else if m = 1 then lwB B e (lwP B e n) o C p else if m = 2 then lwG (lwP B e n) o C p else if m = 3 then lwH B e (lwP B e n) o C p else lwO B e (lwP B e n) o C p
theorem op1_c (c : Int32) : op1 c = 0 ∨ (op1 c = 2 ∧ c = 43) ∨ (op1 c = 3 ∧ c = 45) := by
  unfold op1
  by_cases h : c = 43
  · rw [if_pos h]; right; left; exact ⟨rfl, h⟩
  · rw [if_neg h]
    by_cases h2 : c = 45
    · rw [if_pos h2]; right; right; exact ⟨rfl, h2⟩
    · rw [if_neg h2]; left; rfl
theorem op3_c (c : Int32) : op3 c = 0 ∨ (op3 c = 4 ∧ c = 42) ∨ (op3 c = 5 ∧ c = 47) ∨ (op3 c = 6 ∧ c = 37) := by
  unfold op3
  by_cases h : c = 42
  · rw [if_pos h]; right; left; exact ⟨rfl, h⟩
  · rw [if_neg h]
    by_cases h2 : c = 47
    · rw [if_pos h2]; right; right; left; exact ⟨rfl, h2⟩
    · rw [if_neg h2]
      by_cases h3 : c = 37
      · rw [if_pos h3]; right; right; right; exact ⟨rfl, h3⟩
      · rw [if_neg h3]; left; rfl
theorem lwW_c (B : Nat → Int32) (q r : Nat) : lwW B q r = 0 ∨ lwW B q r = 7 ∨ lwW B q r = 8 ∨ (10 ≤ lwW B q r ∧ lwW B q r ≤ 17) := by
  unfold lwW
  repeat' split
  all_goals omega
theorem sg_lt {B : Nat → Int32} {e p : Nat} {c : Int32} (hc : c ≠ -1) (h : sg B e p = c) : p < e := by
  apply Decidable.byContradiction
  intro z
  rw [show sg B e p = -1 from if_neg z] at h
  exact hc h.symm
theorem wd_ne {B : Nat → Int32} {q r : Nat} (hqr : q ≤ r) (h : ¬ wdIs B q r (WD 3) = true) : q < r := by
  apply Decidable.byContradiction
  intro z
  apply h
  unfold wdIs
  rw [if_pos (by show r - q = 0; omega)]
  rfl
/-- what is read is read forwards, and a sign is read for each that is written down -/
def lwQ (e : Nat) (C : List (Nat × Nat)) (p : Nat) (s : List (Nat × Nat) × Nat) : Prop := p ≤ s.2 ∧ s.2 ≤ e ∧ s.1.length + p ≤ C.length + s.2
theorem lwP_pr {B : Nat → Int32} {e : Nat} : ∀ (n m o : Nat) (C : List (Nat × Nat)) (p : Nat) (s : List (Nat × Nat) × Nat), p ≤ e → lwP B e n m o C p = .inl s → lwQ e C p s ∧ (m ≠ 1 → m ≠ 3 → p < s.2)
  | 0, _, _, _, _, _, _, h => by cases h
  | n + 1, m, o, C, p, s, hp, h => by
    have ih := fun m o C p s => lwP_pr (B := B) (e := e) n m o C p s
    have hsk := sk_le (B := B) hp
    have hge := sk_ge B e p
    unfold lwP at h
    unfold lwQ
    split at h
    · unfold lwA at h
      obtain ⟨a, h1, h2⟩ := rB_inl h
      obtain ⟨⟨a1, a2, a3⟩, a4⟩ := ih _ _ _ _ _ hp h1
      obtain ⟨⟨b1, b2, b3⟩, -⟩ := ih _ _ _ _ _ a2 h2
      have a4 := a4 (by omega) (by omega)
      exact ⟨⟨by omega, b2, by omega⟩, fun _ _ => by omega⟩
    · split at h
      · rename_i hm
        unfold lwB at h
        split at h
        · cases h; exact ⟨⟨hge, hsk, by show C.length + p ≤ C.length + sk B e p; omega⟩, fun z => absurd hm z⟩
        · rename_i hop
          have hlt : sk B e p < e := by
            rcases op1_c (sg B e (sk B e p)) with z | ⟨-, z⟩ | ⟨-, z⟩
            · exact absurd z hop
            · exact sg_lt (by decide) z
            · exact sg_lt (by decide) z
          obtain ⟨a, h1, h2⟩ := rB_inl h
          obtain ⟨⟨a1, a2, a3⟩, -⟩ := ih _ _ _ _ _ (by omega) h1
          obtain ⟨⟨b1, b2, b3⟩, -⟩ := ih _ _ _ _ _ a2 h2
          rw [List.length_append] at b3
          have b3 : s.1.length + a.2 ≤ a.1.length + 1 + s.2 := b3
          exact ⟨⟨by omega, b2, by omega⟩, fun z => absurd hm z⟩
      · split at h
        · unfold lwG at h
          obtain ⟨a, h1, h2⟩ := rB_inl h
          obtain ⟨⟨a1, a2, a3⟩, a4⟩ := ih _ _ _ _ _ hp h1
          obtain ⟨⟨b1, b2, b3⟩, -⟩ := ih _ _ _ _ _ a2 h2
          have a4 := a4 (by omega) (by omega)
          exact ⟨⟨by omega, b2, by omega⟩, fun _ _ => by omega⟩
        · split at h
          · rename_i hm
            unfold lwH at h
            split at h
            · cases h; exact ⟨⟨hge, hsk, by show C.length + p ≤ C.length + sk B e p; omega⟩, fun _ z => absurd hm z⟩
            · rename_i hop
              have hlt : sk B e p < e := by
                rcases op3_c (sg B e (sk B e p)) with z | ⟨-, z⟩ | ⟨-, z⟩ | ⟨-, z⟩
                · exact absurd z hop
                · exact sg_lt (by decide) z
                · exact sg_lt (by decide) z
                · exact sg_lt (by decide) z
              obtain ⟨a, h1, h2⟩ := rB_inl h
              obtain ⟨⟨a1, a2, a3⟩, -⟩ := ih _ _ _ _ _ (by omega) h1
              obtain ⟨⟨b1, b2, b3⟩, -⟩ := ih _ _ _ _ _ a2 h2
              rw [List.length_append] at b3
              have b3 : s.1.length + a.2 ≤ a.1.length + 1 + s.2 := b3
              exact ⟨⟨by omega, b2, by omega⟩, fun _ z => absurd hm z⟩
          · have hw := wdR_le (B := B) hp
            unfold lwO at h
            split at h
            · obtain ⟨a, h1, h2⟩ := rB_inl h
              obtain ⟨-, -, -, x4, x5⟩ := nmN_ok hp h1
              cases h2
              refine ⟨⟨by show p ≤ a.2; omega, x5, ?_⟩, fun _ _ => by show p < a.2; omega⟩
              rw [List.length_append]
              show C.length + 1 + p ≤ C.length + a.2
              omega
            · split at h
              · unfold lwI1 at h
                split at h
                · rename_i hs
                  have hlt := sg_lt (by decide) hs
                  split at h
                  · obtain ⟨a, h1, h2⟩ := rB_inl h
                    obtain ⟨q, h3, h4⟩ := rB_inl h2
                    obtain ⟨⟨a1, a2, a3⟩, -⟩ := ih _ _ _ _ _ (by omega) h1
                    obtain ⟨-, s2, s3⟩ := smP_ok a2 (by decide) h3
                    have := sk_ge B e a.2
                    cases h4
                    exact ⟨⟨by show p ≤ q; omega, s3, by show a.1.length + p ≤ C.length + q; omega⟩, fun _ _ => by show p < q; omega⟩
                  · cases h
                · cases h
              · rename_i hwd
                have hlt := wd_ne hw.1 hwd
                split at h
                · unfold lwI2 at h
                  split at h
                  · obtain ⟨q, h1, h2⟩ := rB_inl h
                    obtain ⟨a, h3, h4⟩ := rB_inl h2
                    obtain ⟨q2, h5, h6⟩ := rB_inl h4
                    obtain ⟨a2, h7, h8⟩ := rB_inl h6
                    obtain ⟨q3, h9, h10⟩ := rB_inl h8
                    obtain ⟨-, s2, s3⟩ := smP_ok hw.2 (by decide) h1
                    obtain ⟨⟨x1, x2, x3⟩, -⟩ := ih _ _ _ _ _ s3 h3
                    obtain ⟨-, t2, t3⟩ := smP_ok x2 (by decide) h5
                    obtain ⟨⟨y1, y2, y3⟩, -⟩ := ih _ _ _ _ _ t3 h7
                    obtain ⟨-, u2, u3⟩ := smP_ok y2 (by decide) h9
                    have g1 := sk_ge B e (wdR B e p)
                    have g2 := sk_ge B e a.2
                    have g3 := sk_ge B e a2.2
                    cases h10
                    refine ⟨⟨by show p ≤ q3; omega, u3, ?_⟩, fun _ _ => by show p < q3; omega⟩
                    rw [List.length_append]
                    show a2.1.length + 1 + p ≤ C.length + q3
                    omega
                  · cases h
                · split at h
                  · cases h
                  · cases h
                    refine ⟨⟨by show p ≤ wdR B e p; omega, hw.2, ?_⟩, fun _ _ => by show p < wdR B e p; omega⟩
                    rw [List.length_append]
                    show C.length + 1 + p ≤ C.length + wdR B e p
                    omega
/-- .. and comes to one number, with few waiting -/
theorem dpt_app : ∀ (C X : List (Nat × Nat)) (k : Nat), dpt (C ++ X) k = (dpt C k).bind (fun j => dpt X j)
  | [], X, k => rfl
  | q :: C, X, k => by
    rw [List.cons_append, show dpt (q :: (C ++ X)) k = (if q.1 < 2 then (if k < 21 then dpt (C ++ X) (k + 1) else none) else if 2 ≤ k then dpt (C ++ X) (k - 1) else none) from rfl, show dpt (q :: C) k = (if q.1 < 2 then (if k < 21 then dpt C (k + 1) else none) else if 2 ≤ k then dpt C (k - 1) else none) from rfl]
    split
    · split
      · exact dpt_app C X (k + 1)
      · rfl
    · split
      · exact dpt_app C X (k - 1)
      · rfl
def dpO (C : List (Nat × Nat)) (S : List (Nat × Nat)) (i j : Nat) : Prop := (∀ q ∈ C, okQ q) → (∀ q ∈ S, okQ q) ∧ ∀ k0, dpt C k0 = some i → dpt S k0 = some j
theorem dpO.trans {C S T : List (Nat × Nat)} {i j k : Nat} (h1 : dpO C S i j) (h2 : dpO S T j k) : dpO C T i k := fun hC => ⟨(h2 (h1 hC).1).1, fun k0 hk => (h2 (h1 hC).1).2 k0 ((h1 hC).2 k0 hk)⟩
theorem dpO.push {C : List (Nat × Nat)} {q : Nat × Nat} {i : Nat} (hq : okQ q) (h2 : q.1 < 2) (hi : i < 21) : dpO C (C ++ [q]) i (i + 1) := fun hC => ⟨fun x hx => (List.mem_append.mp hx).elim (hC x) (fun z => by rw [List.mem_singleton] at z; rw [z]; exact hq), fun k0 hk => by
  rw [dpt_app, hk]
  show dpt [q] i = some (i + 1)
  unfold dpt
  rw [if_pos h2, if_pos hi]
  rfl⟩
theorem dpO.op {C : List (Nat × Nat)} {j i : Nat} (hj : 2 ≤ j) (hj8 : j ≤ 8) : dpO C (C ++ [(j, 0)]) (i + 2) (i + 1) := fun hC => ⟨fun x hx => (List.mem_append.mp hx).elim (hC x) (fun z => by rw [List.mem_singleton] at z; rw [z]; exact Or.inr (Or.inr ⟨hj, hj8⟩)), fun k0 hk => by
  rw [dpt_app, hk]
  show dpt [(j, 0)] (i + 2) = some (i + 1)
  unfold dpt
  rw [if_neg (by show ¬ j < 2; omega), if_pos (by omega)]
  rfl⟩
theorem lwP_dp {B : Nat → Int32} {e : Nat} : ∀ (n m o : Nat) (C : List (Nat × Nat)) (p : Nat) (s : List (Nat × Nat) × Nat) (i : Nat), p ≤ e → o ≤ 6 → lwP B e n m o C p = .inl s → (m = 0 → i ≤ 3 * o → dpO C s.1 i (i + 1)) ∧ (m = 1 → i ≤ 3 * o → dpO C s.1 (i + 1) (i + 1)) ∧ (m = 2 → i ≤ 3 * o + 1 → dpO C s.1 i (i + 1)) ∧ (m = 3 → i ≤ 3 * o + 1 → dpO C s.1 (i + 1) (i + 1)) ∧ (m = 4 → i ≤ 3 * o + 2 → dpO C s.1 i (i + 1))
  | 0, _, _, _, _, _, _, _, _, h => by cases h
  | n + 1, m, o, C, p, s, i, hp, ho, h => by
    have ih := fun m o C p s i => lwP_dp (B := B) (e := e) n m o C p s i
    have hsk := sk_le (B := B) hp
    unfold lwP at h
    refine ⟨fun hm hi => ?_, fun hm hi => ?_, fun hm hi => ?_, fun hm hi => ?_, fun hm hi => ?_⟩
    · subst hm
      rw [if_pos rfl] at h
      unfold lwA at h
      obtain ⟨a, h1, h2⟩ := rB_inl h
      have pr := (lwP_pr _ _ _ _ _ _ hp h1).1
      exact ((ih _ _ _ _ _ i hp ho h1).2.2.1 rfl (by omega)).trans ((ih _ _ _ _ _ i pr.2.1 ho h2).2.1 rfl hi)
    · subst hm
      rw [if_neg (by omega), if_pos rfl] at h
      unfold lwB at h
      split at h
      · cases h; exact fun hC => ⟨hC, fun _ hk => hk⟩
      · rename_i hop
        have hj : 2 ≤ op1 (sg B e (sk B e p)) ∧ op1 (sg B e (sk B e p)) ≤ 8 ∧ sk B e p < e := by
          rcases op1_c (sg B e (sk B e p)) with z | ⟨z1, z⟩ | ⟨z1, z⟩
          · exact absurd z hop
          · exact ⟨by omega, by omega, sg_lt (by decide) z⟩
          · exact ⟨by omega, by omega, sg_lt (by decide) z⟩
        obtain ⟨a, h1, h2⟩ := rB_inl h
        have pr := (lwP_pr _ _ _ _ _ _ (by omega) h1).1
        exact ((ih _ _ _ _ _ (i + 1) (by omega) ho h1).2.2.1 rfl (by omega)).trans ((dpO.op hj.1 hj.2.1).trans ((ih _ _ _ _ _ i pr.2.1 ho h2).2.1 rfl hi))
    · subst hm
      rw [if_neg (by omega), if_neg (by omega), if_pos rfl] at h
      unfold lwG at h
      obtain ⟨a, h1, h2⟩ := rB_inl h
      have pr := (lwP_pr _ _ _ _ _ _ hp h1).1
      exact ((ih _ _ _ _ _ i hp ho h1).2.2.2.2 rfl (by omega)).trans ((ih _ _ _ _ _ i pr.2.1 ho h2).2.2.2.1 rfl hi)
    · subst hm
      rw [if_neg (by omega), if_neg (by omega), if_neg (by omega), if_pos rfl] at h
      unfold lwH at h
      split at h
      · cases h; exact fun hC => ⟨hC, fun _ hk => hk⟩
      · rename_i hop
        have hj : 2 ≤ op3 (sg B e (sk B e p)) ∧ op3 (sg B e (sk B e p)) ≤ 8 ∧ sk B e p < e := by
          rcases op3_c (sg B e (sk B e p)) with z | ⟨z1, z⟩ | ⟨z1, z⟩ | ⟨z1, z⟩
          · exact absurd z hop
          · exact ⟨by omega, by omega, sg_lt (by decide) z⟩
          · exact ⟨by omega, by omega, sg_lt (by decide) z⟩
          · exact ⟨by omega, by omega, sg_lt (by decide) z⟩
        obtain ⟨a, h1, h2⟩ := rB_inl h
        have pr := (lwP_pr _ _ _ _ _ _ (by omega) h1).1
        exact ((ih _ _ _ _ _ (i + 1) (by omega) ho h1).2.2.2.2 rfl (by omega)).trans ((dpO.op hj.1 hj.2.1).trans ((ih _ _ _ _ _ i pr.2.1 ho h2).2.2.2.1 rfl hi))
    · subst hm
      rw [if_neg (by omega), if_neg (by omega), if_neg (by omega), if_neg (by omega)] at h
      have hw := wdR_le (B := B) hp
      unfold lwO at h
      split at h
      · obtain ⟨a, h1, h2⟩ := rB_inl h
        obtain ⟨x1, -, -⟩ := nmN_le (k := 999) hp (by decide) h1
        cases h2
        exact dpO.push (Or.inl ⟨rfl, x1⟩) (by show 0 < 2; omega) (by omega)
      · split at h
        · unfold lwI1 at h
          split at h
          · rename_i hs
            have hlt := sg_lt (by decide) hs
            split at h
            · obtain ⟨a, h1, h2⟩ := rB_inl h
              obtain ⟨q, h3, h4⟩ := rB_inl h2
              cases h4
              exact (ih _ _ _ _ _ i (by omega) (by omega) h1).1 rfl (by omega)
            · cases h
          · cases h
        · split at h
          · rename_i hj
            unfold lwI2 at h
            split at h
            · obtain ⟨q, h1, h2⟩ := rB_inl h
              obtain ⟨a, h3, h4⟩ := rB_inl h2
              obtain ⟨q2, h5, h6⟩ := rB_inl h4
              obtain ⟨a2, h7, h8⟩ := rB_inl h6
              obtain ⟨q3, h9, h10⟩ := rB_inl h8
              obtain ⟨-, -, s3⟩ := smP_ok hw.2 (by decide) h1
              have x2 := (lwP_pr _ _ _ _ _ _ s3 h3).1.2.1
              obtain ⟨-, -, t3⟩ := smP_ok x2 (by decide) h5
              cases h10
              exact ((ih _ _ _ _ _ i s3 (by omega) h3).1 rfl (by omega)).trans (((ih _ _ _ _ _ (i + 1) t3 (by omega) h7).1 rfl (by omega)).trans (dpO.op (by omega) (by omega)))
            · cases h
          · split at h
            · cases h
            · rename_i h0 h1
              cases h
              have := lwW_c B (sk B e p) (wdR B e p)
              exact dpO.push (Or.inr (Or.inl ⟨rfl, by show lwW B (sk B e p) (wdR B e p) - 10 < 8; omega⟩)) (by show 1 < 2; omega) (by omega)
/-- the whole text -/
def lwX (B : Nat → Int32) (e : Nat) : List (Nat × Nat) ⊕ (Nat × Nat) := rB (lwP B e (4 * e + 5) 0 0 [] 0) (fun s => if sk B e s.2 < e then .inr (1, sk B e s.2) else .inl s.1)
theorem lwX_ok {B : Nat → Int32} {e : Nat} {C : List (Nat × Nat)} (he : e ≤ 150) (h : lwX B e = .inl C) : okC C := by
  unfold lwX at h
  obtain ⟨s, h1, h2⟩ := rB_inl h
  split at h2
  · cases h2
  · cases h2
    obtain ⟨⟨a1, a2, a3⟩, -⟩ := lwP_pr _ _ _ _ _ _ (by omega) h1
    have d := (lwP_dp _ _ _ _ _ _ 0 (by omega) (by omega) h1).1 rfl (by omega) (fun q hq => by cases hq)
    refine ⟨d.1, d.2 0 rfl, ?_⟩
    have a3 : s.1.length + 0 ≤ 0 + s.2 := a3
    omega
