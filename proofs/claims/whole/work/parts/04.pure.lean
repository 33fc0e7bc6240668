/-! THE READER OF CODE: one function reads the code of every method over a pure heap; what it answers, the machine does (parts 04 to 06). Here: locals, and the instructions that touch the frame alone. -/
abbrev rx_L : Type := List (Option Value)
def rx_ld (L : rx_L) (i : Nat) : Option Value := match L[i]? with
  | some (some v) => some v
  | _ => none
def rx_kill (L : rx_L) (i : Nat) : rx_L := match i with
  | 0 => L
  | j + 1 => match L[j]? with
    | some (some w) => if w.category = 2 then L.set j none else L
    | _ => L
def rx_st1 (L : rx_L) (i : Nat) (v : Value) : rx_L := (rx_kill L i).set i (some v)
def rx_st2 (L : rx_L) (i : Nat) (v : Value) : rx_L := ((rx_kill L i).set i (some v)).set (i + 1) none
def rx_prs (L : rx_L) : List (Nat × Value) := (List.range L.length).filterMap (fun i => (rx_ld L i).map (fun v => (i, v)))
theorem rx_ld_lt {L : rx_L} {i : Nat} {v : Value} (h : rx_ld L i = some v) : i < L.length ∧ L[i]? = some (some v) := by
  unfold rx_ld at h
  split at h
  · rename_i w hw
    cases h
    exact ⟨(List.getElem?_eq_some_iff.mp hw).1, hw⟩
  · cases h
theorem rx_ld_of {L : rx_L} {i : Nat} {v : Value} (h : L[i]? = some (some v)) : rx_ld L i = some v := by
  unfold rx_ld
  rw [h]
theorem rx_prs_mem {L : rx_L} {i : Nat} {v : Value} : (i, v) ∈ rx_prs L ↔ rx_ld L i = some v := by
  unfold rx_prs
  rw [List.mem_filterMap]
  constructor
  · rintro ⟨j, -, h⟩
    obtain ⟨w, hw, e⟩ := Option.map_eq_some_iff.mp h
    cases e
    exact hw
  · intro h
    exact ⟨i, List.mem_range.mpr (rx_ld_lt h).1, by rw [h]; rfl⟩
theorem rx_kill_len (L : rx_L) (i : Nat) : (rx_kill L i).length = L.length := by
  unfold rx_kill
  split
  · rfl
  · split
    · split
      · simp
      · rfl
    · rfl
theorem rx_kill_get {L : rx_L} {i j : Nat} {v : Value} (h : (rx_kill L i)[j]? = some (some v)) : L[j]? = some (some v) ∧ ¬ (j + 1 = i ∧ v.category = 2) := by
  unfold rx_kill at h
  split at h
  · exact ⟨h, fun q => by omega⟩
  · rename_i k
    split at h
    · rename_i w hw
      split at h
      · rename_i hc
        by_cases e : j = k
        · subst e
          rw [List.getElem?_set_self (List.getElem?_eq_some_iff.mp hw).1] at h
          cases h
        · rw [List.getElem?_set_ne (Ne.symm e)] at h
          exact ⟨h, fun q => e (by omega)⟩
      · rename_i hc
        refine ⟨h, fun q => ?_⟩
        have e : j = k := by omega
        subst e
        rw [hw] at h
        cases h
        exact hc q.2
    · rename_i hw
      refine ⟨h, fun q => ?_⟩
      have e : j = k := by omega
      subst e
      exact hw _ h
def rx_LH (ls : Array Slot) (nL : Nat) (L : rx_L) : Prop := L.length = nL ∧ lv_has ls nL (rx_prs L)
theorem rx_LH.at {ls : Array Slot} {nL : Nat} {L : rx_L} (h : rx_LH ls nL L) {i : Nat} {v : Value} (hi : rx_ld L i = some v) : ls[i]? = some (.val v) := h.2.2.2 (i, v) (rx_prs_mem.mpr hi)
theorem rx_LH.size {ls : Array Slot} {nL : Nat} {L : rx_L} (h : rx_LH ls nL L) : ls.size = nL := h.2.1
theorem rx_LH.s1 {ls' : Array Slot} {nL : Nat} {L : rx_L} {i : Nat} {v : Value} (hl : L.length = nL) (h : lv_has ls' nL ((i, v) :: (rx_prs L).filter (fun q => !(q.1 == i) && !(q.1 + 1 == i && q.2.category == 2)))) : rx_LH ls' nL (rx_st1 L i v) := by
  refine ⟨by simp [rx_st1, rx_kill_len, hl], h.1, h.2.1, fun q hq => h.2.2 q ?_⟩
  obtain ⟨j, w⟩ := q
  have hj := (rx_ld_lt (rx_prs_mem.mp hq)).2
  unfold rx_st1 at hj
  by_cases e : j = i
  · subst e
    by_cases hlt : j < (rx_kill L j).length
    · rw [List.getElem?_set_self hlt] at hj
      cases hj
      exact List.mem_cons_self
    · rw [List.getElem?_eq_none (by simp; omega)] at hj
      cases hj
  · rw [List.getElem?_set_ne (Ne.symm e)] at hj
    obtain ⟨h1, h2⟩ := rx_kill_get hj
    refine List.mem_cons_of_mem _ (List.mem_filter.mpr ⟨rx_prs_mem.mpr (rx_ld_of h1), ?_⟩)
    simp only [Bool.and_eq_true, Bool.not_eq_true', beq_eq_false_iff_ne, ne_eq, e, not_false_eq_true, true_and, Bool.and_eq_false_imp, beq_iff_eq]
    intro a b
    exact h2 ⟨a, b⟩
theorem rx_LH.s2 {ls' : Array Slot} {nL : Nat} {L : rx_L} {i : Nat} {v : Value} (hl : L.length = nL) (h : lv_has ls' nL ((i, v) :: (rx_prs L).filter (fun q => !(q.1 == i) && (!(q.1 == i + 1) && !(q.1 + 1 == i && q.2.category == 2))))) : rx_LH ls' nL (rx_st2 L i v) := by
  refine ⟨by simp [rx_st2, rx_kill_len, hl], h.1, h.2.1, fun q hq => h.2.2 q ?_⟩
  obtain ⟨j, w⟩ := q
  have hj := (rx_ld_lt (rx_prs_mem.mp hq)).2
  unfold rx_st2 at hj
  by_cases e1 : j = i + 1
  · subst e1
    by_cases hlt : i + 1 < ((rx_kill L i).set i (some v)).length
    · rw [List.getElem?_set_self hlt] at hj
      cases hj
    · rw [List.getElem?_eq_none (by simp at hlt ⊢; omega)] at hj
      cases hj
  · rw [List.getElem?_set_ne (Ne.symm e1)] at hj
    by_cases e : j = i
    · subst e
      by_cases hlt : j < (rx_kill L j).length
      · rw [List.getElem?_set_self hlt] at hj
        cases hj
        exact List.mem_cons_self
      · rw [List.getElem?_eq_none (by simp; omega)] at hj
        cases hj
    · rw [List.getElem?_set_ne (Ne.symm e)] at hj
      obtain ⟨h1, h2⟩ := rx_kill_get hj
      refine List.mem_cons_of_mem _ (List.mem_filter.mpr ⟨rx_prs_mem.mpr (rx_ld_of h1), ?_⟩)
      simp only [Bool.and_eq_true, Bool.not_eq_true', beq_eq_false_iff_ne, ne_eq, e, e1, not_false_eq_true, true_and, Bool.and_eq_false_imp, beq_iff_eq]
      intro a b
      exact h2 ⟨a, b⟩
-- the locals at a method's entry
def rx_in0 : List Value → rx_L
  | [] => []
  | v :: vs => if v.category = 2 then some v :: none :: rx_in0 vs else some v :: rx_in0 vs
def rx_in (vs : List Value) (n : Nat) : rx_L := rx_in0 vs ++ List.replicate (n - (rx_in0 vs).length) none
theorem rx_in0_mem : ∀ (vs : List Value) (o j : Nat) (w : Value), (rx_in0 vs)[j]? = some (some w) → (o + j, w) ∈ lv_args o vs
  | [], o, j, w, h => by simp [rx_in0] at h
  | v :: vs, o, j, w, h => by
    unfold rx_in0 at h
    unfold lv_args
    by_cases hc : v.category = 2
    · rw [if_pos hc] at h
      rw [if_pos hc]
      match j, h with
      | 0, h =>
        cases h
        exact List.mem_cons_self
      | 1, h => cases h
      | j + 2, h =>
        have := rx_in0_mem vs (o + 2) j w (by simpa using h)
        rw [show o + (j + 2) = o + 2 + j by omega]
        exact List.mem_cons_of_mem _ this
    · rw [if_neg hc] at h
      rw [if_neg hc]
      match j, h with
      | 0, h =>
        cases h
        exact List.mem_cons_self
      | j + 1, h =>
        have := rx_in0_mem vs (o + 1) j w (by simpa using h)
        rw [show o + (j + 1) = o + 1 + j by omega]
        exact List.mem_cons_of_mem _ this
theorem rx_in0_len : ∀ vs : List Value, (rx_in0 vs).length = (lg_sl vs).length
  | [] => rfl
  | v :: vs => by
    have := rx_in0_len vs
    unfold rx_in0
    by_cases hc : v.category = 2
    · simp [lg_sl, hc, this]
    · simp [lg_sl, hc, this]
theorem rx_entry (vs : List Value) {n : Nat} (h : (rx_in0 vs).length ≤ n) : rx_LH ((lg_sl vs ++ List.replicate (n - (lg_sl vs).length) Slot.unset).toArray) n (rx_in vs n) := by
  have h1 := lv_entry vs (n := n) (by rw [← rx_in0_len]; exact h)
  refine ⟨by simp [rx_in]; omega, h1.1, h1.2.1, fun q hq => h1.2.2 q ?_⟩
  obtain ⟨j, w⟩ := q
  have hj := (rx_ld_lt (rx_prs_mem.mp hq)).2
  unfold rx_in at hj
  by_cases hl : j < (rx_in0 vs).length
  · rw [List.getElem?_append_left hl] at hj
    have := rx_in0_mem vs 0 j w hj
    rwa [Nat.zero_add] at this
  · rw [List.getElem?_append_right (by omega), List.getElem?_replicate] at hj
    split at hj <;> cases hj
-- the instructions that touch the frame alone
abbrev rx_P : Type := Option (Nat × rx_L × List Value)
def rx_n (len k : Nat) (x : rx_P) : rx_P := if len = k then x else none
theorem rx_n_some {len k : Nat} {x : rx_P} {r : Nat × rx_L × List Value} (h : rx_n len k x = some r) : len = k ∧ x = some r := by
  unfold rx_n at h
  split at h
  · rename_i e
    exact ⟨e, h⟩
  · cases h
def rx_ldI (L : rx_L) (i pc : Nat) (S : List Value) : rx_P := match rx_ld L i with
  | some (.int x) => some (pc, L, .int x :: S)
  | _ => none
def rx_ldL (L : rx_L) (i pc : Nat) (S : List Value) : rx_P := match rx_ld L i with
  | some (.long x) => some (pc, L, .long x :: S)
  | _ => none
def rx_ldA (L : rx_L) (i pc : Nat) (S : List Value) : rx_P := match rx_ld L i with
  | some (.ref x) => some (pc, L, .ref x :: S)
  | some .null => some (pc, L, .null :: S)
  | _ => none
def rx_stI (L : rx_L) (i pc : Nat) (S : List Value) : rx_P := match S with
  | .int x :: r => if i < L.length then some (pc, rx_st1 L i (.int x), r) else none
  | _ => none
def rx_stL (L : rx_L) (i pc : Nat) (S : List Value) : rx_P := match S with
  | .long x :: r => if i + 1 < L.length then some (pc, rx_st2 L i (.long x), r) else none
  | _ => none
def rx_stA (L : rx_L) (i pc : Nat) (S : List Value) : rx_P := match S with
  | .ref x :: r => if i < L.length then some (pc, rx_st1 L i (.ref x), r) else none
  | .null :: r => if i < L.length then some (pc, rx_st1 L i .null, r) else none
  | _ => none
def rx_inc (L : rx_L) (i : Nat) (n : Int) (pc : Nat) (S : List Value) : rx_P := match rx_ld L i with
  | some (.int x) => some (pc, rx_st1 L i (.int (x + Int32.ofInt n)), S)
  | _ => none
def rx_bI (f : Int32 → Int32 → Int32) (L : rx_L) (pc : Nat) (S : List Value) : rx_P := match S with
  | .int y :: .int x :: r => some (pc, L, .int (f x y) :: r)
  | _ => none
def rx_dI (f : Int32 → Int32 → Int32) (L : rx_L) (pc : Nat) (S : List Value) : rx_P := match S with
  | .int y :: .int x :: r => if y = 0 then none else some (pc, L, .int (f x y) :: r)
  | _ => none
def rx_bL (f : Int64 → Int64 → Int64) (L : rx_L) (pc : Nat) (S : List Value) : rx_P := match S with
  | .long y :: .long x :: r => some (pc, L, .long (f x y) :: r)
  | _ => none
def rx_dL (f : Int64 → Int64 → Int64) (L : rx_L) (pc : Nat) (S : List Value) : rx_P := match S with
  | .long y :: .long x :: r => if y = 0 then none else some (pc, L, .long (f x y) :: r)
  | _ => none
def rx_sL (f : Int64 → Int32 → Int64) (L : rx_L) (pc : Nat) (S : List Value) : rx_P := match S with
  | .int y :: .long x :: r => some (pc, L, .long (f x y) :: r)
  | _ => none
def rx_uI (f : Int32 → Int32) (L : rx_L) (pc : Nat) (S : List Value) : rx_P := match S with
  | .int x :: r => some (pc, L, .int (f x) :: r)
  | _ => none
def rx_i2l (L : rx_L) (pc : Nat) (S : List Value) : rx_P := match S with
  | .int x :: r => some (pc, L, .long x.toInt64 :: r)
  | _ => none
def rx_l2i (L : rx_L) (pc : Nat) (S : List Value) : rx_P := match S with
  | .long x :: r => some (pc, L, .int x.toInt32 :: r)
  | _ => none
def rx_lcmp (L : rx_L) (pc : Nat) (S : List Value) : rx_P := match S with
  | .long y :: .long x :: r => some (pc, L, .int (lg_cmp x y) :: r)
  | _ => none
def rx_dup (L : rx_L) (pc : Nat) (S : List Value) : rx_P := match S with
  | v :: r => if v.category = 1 then some (pc, L, v :: v :: r) else none
  | _ => none
def rx_pop (L : rx_L) (pc : Nat) (S : List Value) : rx_P := match S with
  | v :: r => if v.category = 1 then some (pc, L, r) else none
  | _ => none
def rx_dup2 (L : rx_L) (pc : Nat) (S : List Value) : rx_P := match S with
  | v :: w :: r => if v.category = 1 ∧ w.category = 1 then some (pc, L, v :: w :: v :: w :: r) else none
  | _ => none
def rx_jmp (L : rx_L) (pc : Nat) (off : Int) (S : List Value) : rx_P := if 0 ≤ (pc : Int) + off then some (((pc : Int) + off).toNat, L, S) else none
def rx_br (b : Bool) (L : rx_L) (pc : Nat) (off : Int) (S : List Value) : rx_P := if 0 ≤ (pc : Int) + off then some (if b then ((pc : Int) + off).toNat else pc + 3, L, S) else none
def rx_if1 (f : Int32 → Bool) (L : rx_L) (pc : Nat) (off : Int) (S : List Value) : rx_P := match S with
  | .int x :: r => rx_br (f x) L pc off r
  | _ => none
def rx_if2 (f : Int32 → Int32 → Bool) (L : rx_L) (pc : Nat) (off : Int) (S : List Value) : rx_P := match S with
  | .int y :: .int x :: r => rx_br (f x y) L pc off r
  | _ => none
def rx_ifn (b : Bool) (L : rx_L) (pc : Nat) (off : Int) (S : List Value) : rx_P := match S with
  | .null :: r => rx_br b L pc off r
  | .ref _ :: r => rx_br (!b) L pc off r
  | _ => none
def rx_tsw (L : rx_L) (pc : Nat) (d lo hi : Int) (offs : Array Int) (S : List Value) : rx_P := match S with
  | .int x :: r => if x.toInt < lo ∨ hi < x.toInt then rx_jmp L pc d r else match offs[(x.toInt - lo).toNat]? with
    | some o => rx_jmp L pc o r
    | none => none
  | _ => none
def rx_lsw (L : rx_L) (pc : Nat) (d : Int) (ps : Array (Int × Int)) (S : List Value) : rx_P := match S with
  | .int x :: r => if (ps.toList.zip (ps.toList.drop 1)).all (fun (a, next) => a.1 < next.1) = true then rx_jmp L pc (Op.lookupswitch.offset ps.toList d x.toInt) r else none
  | _ => none
def rx_pure (i : Instr) (len pc : Nat) (L : rx_L) (S : List Value) : rx_P := match i with
  | .iconst n => rx_n len 1 (some (pc + 1, L, .int (Int32.ofInt n) :: S))
  | .bipush n => rx_n len 2 (some (pc + 2, L, .int (Int8.ofInt n).toInt32 :: S))
  | .sipush n => rx_n len 3 (some (pc + 3, L, .int (Int16.ofInt n).toInt32 :: S))
  | .lconst n => rx_n len 1 (some (pc + 1, L, .long (Int64.ofNat (n : Nat)) :: S))
  | .aconst_null => rx_n len 1 (some (pc + 1, L, .null :: S))
  | .iload k => rx_n len 2 (rx_ldI L k (pc + 2) S)
  | .iload_n k => rx_n len 1 (rx_ldI L k (pc + 1) S)
  | .lload k => rx_n len 2 (rx_ldL L k (pc + 2) S)
  | .lload_n k => rx_n len 1 (rx_ldL L k (pc + 1) S)
  | .aload k => rx_n len 2 (rx_ldA L k (pc + 2) S)
  | .aload_n k => rx_n len 1 (rx_ldA L k (pc + 1) S)
  | .istore k => rx_n len 2 (rx_stI L k (pc + 2) S)
  | .istore_n k => rx_n len 1 (rx_stI L k (pc + 1) S)
  | .lstore k => rx_n len 2 (rx_stL L k (pc + 2) S)
  | .lstore_n k => rx_n len 1 (rx_stL L k (pc + 1) S)
  | .astore k => rx_n len 2 (rx_stA L k (pc + 2) S)
  | .astore_n k => rx_n len 1 (rx_stA L k (pc + 1) S)
  | .iinc k n => rx_n len 3 (rx_inc L k n (pc + 3) S)
  | .iadd => rx_n len 1 (rx_bI (fun x y => x + y) L (pc + 1) S)
  | .isub => rx_n len 1 (rx_bI (fun x y => x - y) L (pc + 1) S)
  | .imul => rx_n len 1 (rx_bI (fun x y => x * y) L (pc + 1) S)
  | .iand => rx_n len 1 (rx_bI (fun x y => x &&& y) L (pc + 1) S)
  | .ior => rx_n len 1 (rx_bI (fun x y => x ||| y) L (pc + 1) S)
  | .ixor => rx_n len 1 (rx_bI (fun x y => x ^^^ y) L (pc + 1) S)
  | .ishl => rx_n len 1 (rx_bI (fun x y => x <<< (y &&& 31)) L (pc + 1) S)
  | .ishr => rx_n len 1 (rx_bI (fun x y => x >>> (y &&& 31)) L (pc + 1) S)
  | .iushr => rx_n len 1 (rx_bI (fun x y => (x.toUInt32 >>> (y.toUInt32 &&& Int32.toUInt32 31)).toInt32) L (pc + 1) S)
  | .idiv => rx_n len 1 (rx_dI (fun x y => x / y) L (pc + 1) S)
  | .irem => rx_n len 1 (rx_dI (fun x y => x - x / y * y) L (pc + 1) S)
  | .ineg => rx_n len 1 (rx_uI (fun x => -x) L (pc + 1) S)
  | .i2c => rx_n len 1 (rx_uI (fun x => (x.toUInt32 % 65536).toInt32) L (pc + 1) S)
  | .ladd => rx_n len 1 (rx_bL (fun x y => x + y) L (pc + 1) S)
  | .lsub => rx_n len 1 (rx_bL (fun x y => x - y) L (pc + 1) S)
  | .lmul => rx_n len 1 (rx_bL (fun x y => x * y) L (pc + 1) S)
  | .land => rx_n len 1 (rx_bL (fun x y => x &&& y) L (pc + 1) S)
  | .lor => rx_n len 1 (rx_bL (fun x y => x ||| y) L (pc + 1) S)
  | .lxor => rx_n len 1 (rx_bL (fun x y => x ^^^ y) L (pc + 1) S)
  | .ldiv => rx_n len 1 (rx_dL (fun x y => x / y) L (pc + 1) S)
  | .lrem => rx_n len 1 (rx_dL (fun x y => x - x / y * y) L (pc + 1) S)
  | .lshl => rx_n len 1 (rx_sL (fun x y => x <<< (y.toInt64 &&& 63)) L (pc + 1) S)
  | .lshr => rx_n len 1 (rx_sL (fun x y => x >>> (y.toInt64 &&& 63)) L (pc + 1) S)
  | .lushr => rx_n len 1 (rx_sL (fun x y => (x.toUInt64 >>> (y.toInt64.toUInt64 &&& Int64.toUInt64 63)).toInt64) L (pc + 1) S)
  | .i2l => rx_n len 1 (rx_i2l L (pc + 1) S)
  | .l2i => rx_n len 1 (rx_l2i L (pc + 1) S)
  | .lcmp => rx_n len 1 (rx_lcmp L (pc + 1) S)
  | .dup => rx_n len 1 (rx_dup L (pc + 1) S)
  | .dup2 => rx_n len 1 (rx_dup2 L (pc + 1) S)
  | .pop => rx_n len 1 (rx_pop L (pc + 1) S)
  | .goto off => rx_n len 3 (rx_jmp L pc off S)
  | .ifnull off => rx_n len 3 (rx_ifn true L pc off S)
  | .ifnonnull off => rx_n len 3 (rx_ifn false L pc off S)
  | .ifCond c off => rx_n len 3 (match c with
    | .eq => rx_if1 (fun x => decide (x = 0)) L pc off S
    | .ne => rx_if1 (fun x => !decide (x = 0)) L pc off S
    | .lt => rx_if1 (fun x => decide (x < 0)) L pc off S
    | .ge => rx_if1 (fun x => decide (0 ≤ x)) L pc off S
    | .gt => rx_if1 (fun x => decide (0 < x)) L pc off S
    | .le => rx_if1 (fun x => decide (x ≤ 0)) L pc off S)
  | .if_icmp c off => rx_n len 3 (match c with
    | .eq => rx_if2 (fun x y => decide (x = y)) L pc off S
    | .ne => rx_if2 (fun x y => !decide (x = y)) L pc off S
    | .lt => rx_if2 (fun x y => decide (x < y)) L pc off S
    | .ge => rx_if2 (fun x y => decide (y ≤ x)) L pc off S
    | .gt => rx_if2 (fun x y => decide (y < x)) L pc off S
    | .le => rx_if2 (fun x y => decide (x ≤ y)) L pc off S)
  | .tableswitch d lo hi offs => rx_tsw L pc d lo hi offs S
  | .lookupswitch d ps => rx_lsw L pc d ps S
  | _ => none
