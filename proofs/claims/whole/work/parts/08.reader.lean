/-! THE READER -/
abbrev rx_R : Type := (Option Value ⊕ String) × rx_S
abbrev rx_Q : Type := Nat × Instr × Nat × Nat × Nat × Nat
abbrev rx_M : Type := MethodName × ByteArray × Nat × Option FieldType × Nat × List rx_Q
abbrev rx_C : Type := Nat → List Value → rx_S → Option rx_R
def rx_xn (k : Nat) : String := match k with
  | 0 => "java/lang/IllegalArgumentException"
  | _ => "java/util/NoSuchElementException"
/-- copying, texts, the usual law's row, Object's constructor -/
def rx_spA (Z : rx_Z) (q : rx_Q) (L : rx_L) (S : List Value) (σ : rx_S) : Option rx_F := match q.2.1 with
  | .getstatic _ => some (q.1 + 3, L, (if q.2.2.2.1 = 0 then .ref (Z.2.2.2 0) else if q.2.2.2.1 = 1 then .int 1 else if Z.2.2.2 40 = 0 then .null else .ref (Z.2.2.2 41)) :: S, σ)
  | .ldc _ => some (q.1 + 2, L, .ref (Z.2.2.2 (1 + q.2.2.2.2.1)) :: S, σ)
  | .getfield _ => match S with
    | .ref b :: r => match σ.1 b with
      | some (.inl (t, v, _)) => if t = 9 then some (q.1 + 3, L, (if q.2.2.2.1 = 60 then .ref v else .int 0) :: r, σ) else none
      | _ => none
    | _ => none
  | .invokestatic _ => if q.2.2.2.1 = 10 then (match S with
    | .int y :: .int x :: r => if (r.map fun v => v.category).sum ≤ 8 then some (q.1 + 3, L, .int (if x < y then y else x) :: r, σ) else none
    | _ => none) else if q.2.2.2.1 = 11 then (match S with
    | .int y :: .int x :: r => if (r.map fun v => v.category).sum ≤ 8 then some (q.1 + 3, L, .int (if y < x then y else x) :: r, σ) else none
    | _ => none) else if q.2.2.2.1 = 12 then (match S with
    | .int x :: r => if (r.map fun v => v.category).sum ≤ 8 then some (q.1 + 3, L, .int (if 0 ≤ x then x else 0 - x) :: r, σ) else none
    | _ => none) else (match S with
    | .int n :: .int dp :: .ref b :: .int sp :: .ref a :: r => match σ.1 a, σ.1 b with
      | some (.inl (t0, n0, f)), some (.inl (t1, n1, g)) => if t0 = 0 ∧ t1 = 0 ∧ Z.2.1 ≤ b ∧ ¬ sp < 0 ∧ ¬ dp < 0 ∧ ¬ n < 0 ∧ sp.toNatClampNeg + n.toNatClampNeg ≤ n0 ∧ dp.toNatClampNeg + n.toNatClampNeg ≤ n1 ∧ (r.map fun v => v.category).sum ≤ 8 ∧ (∀ i, i < n.toNatClampNeg → fits .int (f (sp.toNatClampNeg + i)) = true) then some (q.1 + 3, L, r, (rx_up σ.1 b (.inl (0, n1, va_cpy f g sp.toNatClampNeg dp.toNatClampNeg n.toNatClampNeg)), σ.2)) else none
      | _, _ => none
    | _ => none)
  | .invokespecial _ => match S with
    | .ref _ :: r => if (r.map fun v => v.category).sum ≤ 8 then some (q.1 + 3, L, r, σ) else none
    | _ => none
  | _ => none
def rx_fin (th : Bool) (pc : Nat) (L : rx_L) (rest : List Value) (x : Option rx_R) : Option (rx_F ⊕ rx_R) := match x with
  | some (.inl v, σ') => some (.inl (pc + 3, L, v.toList ++ rest, σ'))
  | some (.inr E, σ') => if th then some (.inr (.inr E, σ')) else none
  | none => none
def rx_cV (call : rx_C) (n mi cn pc : Nat) (L : rx_L) (S : List Value) (σ : rx_S) : Option (rx_F ⊕ rx_R) := match S.drop n with
  | .ref b :: rest => match σ.1 b with
    | some (.inr (c, _)) => if c = cn ∧ n ≤ S.length ∧ (rest.map fun v => v.category).sum ≤ 8 then rx_fin true pc L rest (call mi (.ref b :: (S.take n).reverse) σ) else none
    | some (.inl (t, _, _)) => if t = 9 ∧ cn = 50 ∧ n ≤ S.length ∧ (rest.map fun v => v.category).sum ≤ 8 then rx_fin true pc L rest (call mi (.ref b :: (S.take n).reverse) σ) else none
    | _ => none
  | _ => none
def rx_cI (call : rx_C) (n mi pc : Nat) (L : rx_L) (S : List Value) (σ : rx_S) : Option (rx_F ⊕ rx_R) := match S.drop n with
  | .ref b :: rest => if n ≤ S.length ∧ (rest.map fun v => v.category).sum ≤ 8 then rx_fin false pc L rest (call mi (.ref b :: (S.take n).reverse) σ) else none
  | _ => none
def rx_cS (th : Bool) (call : rx_C) (n mi pc : Nat) (L : rx_L) (S : List Value) (σ : rx_S) : Option (rx_F ⊕ rx_R) := if n ≤ S.length ∧ ((S.drop n).map fun v => v.category).sum ≤ 8 then rx_fin th pc L (S.drop n) (call mi ((S.take n).reverse) σ) else none
def rx_re (ret : Option FieldType) (i : Instr) (S : List Value) (σ : rx_S) : Option rx_R := match i with
  | .ireturn => match S, ret with
    | [.int v], some ty => if narrow ty (.int v) = .int v then some (.inl (some (.int v)), σ) else none
    | _, _ => none
  | .lreturn => match S, ret with
    | [.long v], some .long => some (.inl (some (.long v)), σ)
    | _, _ => none
  | .areturn => match S, ret with
    | [.ref a], some (.object _) => some (.inl (some (.ref a)), σ)
    | _, _ => none
  | .return_ => match S, ret with
    | [], none => some (.inl none, σ)
    | _, _ => none
  | _ => none
def rx_lf (len k : Nat) (x : Option rx_F) : Option (rx_F ⊕ rx_R) := if len = k then x.map .inl else none
def rx_one (Z : rx_Z) (call : rx_C) (ret : Option FieldType) (q : rx_Q) (L : rx_L) (S : List Value) (σ : rx_S) : Option (rx_F ⊕ rx_R) := match q.2.1 with
  | .getfield _ => if q.2.2.2.1 < 50 then rx_lf q.2.2.1 3 (rx_getf q.2.2.2.1 q.2.2.2.2.1 (q.1 + 3) L S σ) else rx_lf q.2.2.1 3 (rx_spA Z q L S σ)
  | .putfield _ => rx_lf q.2.2.1 3 (rx_putf Z q.2.2.2.1 q.2.2.2.2.1 q.2.2.2.2.2 (q.1 + 3) L S σ)
  | .iaload => rx_lf q.2.2.1 1 (rx_aget 0 (q.1 + 1) L S σ)
  | .baload => rx_lf q.2.2.1 1 (rx_aget 8 (q.1 + 1) L S σ)
  | .laload => rx_lf q.2.2.1 1 (rx_aget 1 (q.1 + 1) L S σ)
  | .aaload => if q.2.2.2.1 = 2 then rx_lf q.2.2.1 1 (rx_aget 2 (q.1 + 1) L S σ) else rx_lf q.2.2.1 1 (rx_aget 3 (q.1 + 1) L S σ)
  | .iastore => rx_lf q.2.2.1 1 (rx_aset Z 0 (q.1 + 1) L S σ)
  | .lastore => rx_lf q.2.2.1 1 (rx_aset Z 1 (q.1 + 1) L S σ)
  | .aastore => rx_lf q.2.2.1 1 (rx_asetq Z q.2.2.2.1 (q.1 + 1) L S σ)
  | .arraylength => rx_lf q.2.2.1 1 (rx_alen (q.1 + 1) L S σ)
  | .new _ => if q.2.2.2.2.2 = 0 then rx_lf q.2.2.1 3 (rx_new q.2.2.2.1 q.2.2.2.2.1 (rx_df q.2.2.2.1) (q.1 + 3) L S σ) else if q.2.2.2.2.2 = 1 ∧ S = [] ∧ q.2.2.1 = 3 then some (.inr (.inr (rx_xn q.2.2.2.1), σ)) else none
  | .newarray t => match t with
    | .int => rx_lf q.2.2.1 2 (rx_newa 0 (q.1 + 2) L S σ)
    | .long => rx_lf q.2.2.1 2 (rx_newa 1 (q.1 + 2) L S σ)
    | _ => none
  | .anewarray _ => rx_lf q.2.2.1 3 (rx_newa 2 (q.1 + 3) L S σ)
  | .multianewarray _ k => if k = 2 then rx_lf q.2.2.1 4 (rx_mna (q.1 + 4) L S σ) else none
  | .ldc _ => if q.2.2.2.1 = 0 then rx_lf q.2.2.1 2 (some (q.1 + 2, L, .int (Int32.ofNat q.2.2.2.2.1) :: S, σ)) else rx_lf q.2.2.1 2 (rx_spA Z q L S σ)
  | .ldc_w _ => rx_lf q.2.2.1 3 (some (q.1 + 3, L, .int (Int32.ofNat q.2.2.2.2.1) :: S, σ))
  | .getstatic _ => rx_lf q.2.2.1 3 (rx_spA Z q L S σ)
  | .invokevirtual _ => if q.2.2.1 = 3 then rx_cV call q.2.2.2.2.2 q.2.2.2.2.1 q.2.2.2.1 q.1 L S σ else none
  | .invokestatic _ => if q.2.2.1 = 3 then (if q.2.2.2.1 = 1 then rx_cS true call q.2.2.2.2.2 q.2.2.2.2.1 q.1 L S σ else if q.2.2.2.1 = 3 then rx_cS false call q.2.2.2.2.2 q.2.2.2.2.1 q.1 L S σ else rx_lf q.2.2.1 3 (rx_spA Z q L S σ)) else none
  | .invokespecial _ => if q.2.2.1 = 3 then (if q.2.2.2.1 = 2 ∨ q.2.2.2.1 = 4 then rx_cI call q.2.2.2.2.2 q.2.2.2.2.1 q.1 L S σ else rx_lf q.2.2.1 3 (rx_spA Z q L S σ)) else none
  | .ireturn | .lreturn | .areturn | .return_ => if q.2.2.1 = 1 then (rx_re ret q.2.1 S σ).map .inr else none
  | i => (rx_pure i q.2.2.1 q.1 L S).map (fun r => .inl (r.1, r.2.1, r.2.2, σ))
def rx_fetch (code : List rx_Q) (pc : Nat) : Option rx_Q := code.find? (fun q => q.1 == pc)
def rx_steps (Z : rx_Z) (call : rx_C) (row : rx_M) : Nat → rx_F → Option rx_R
  | 0, _ => none
  | n + 1, x => match rx_fetch row.2.2.2.2.2 x.1 with
    | none => none
    | some q => match rx_one Z call row.2.2.2.1 q x.2.1 x.2.2.1 x.2.2.2 with
      | none => none
      | some (.inl y) => rx_steps Z call row n y
      | some (.inr r) => some r
def rx_ev (ML : List rx_M) (Z : rx_Z) (N : Nat) : Nat → rx_C
  | 0 => fun _ _ _ => none
  | d + 1 => fun mi vs σ => match ML[mi]? with
    | none => none
    | some row => if (rx_in0 vs).length ≤ row.2.2.1 then rx_steps Z (rx_ev ML Z N d) row N (0, rx_in vs row.2.2.1, [], σ) else none
/-! what must hold of the tables -/
def rx_np (y : MethodName) (n : Nat) : Prop := (parseMethodDescriptor y.desc).map (fun d => d.parameters.length) = some n
def rx_qok (ML : List rx_M) (NL : List (String × Nat × MethodName × String)) (SK : String → ByteArray → rx_Q → Prop) (own : String) (cc : ByteArray) (ini : Bool) (q : rx_Q) : Prop := match q.2.1 with
  | .getfield idx => (q.2.2.2.1 < 50 → rx_okG own idx q.2.2.2.1 q.2.2.2.2.1) ∧ (¬ q.2.2.2.1 < 50 → SK own cc q)
  | .putfield idx => rx_okP own idx q.2.2.2.1 q.2.2.2.2.1 q.2.2.2.2.2 (ini = true)
  | .aastore => rx_okQ q.2.2.2.1
  | .new idx => (q.2.2.2.2.2 = 0 → rx_okN own idx q.2.2.2.1 q.2.2.2.2.1 (rx_df q.2.2.2.1)) ∧ (q.2.2.2.2.2 = 1 → SK own cc q)
  | .anewarray idx => Cond.classLink own idx "FarthestHeir$Moment" ∈ rx_tbl
  | .multianewarray idx _ => Cond.classLink own idx "[[I" ∈ rx_tbl
  | .ldc idx => (q.2.2.2.1 = 0 → Cond.constant own idx (Int32.ofNat q.2.2.2.2.1) ∈ rx_tbl) ∧ (¬ q.2.2.2.1 = 0 → SK own cc q)
  | .ldc_w idx => Cond.constant own idx (Int32.ofNat q.2.2.2.2.1) ∈ rx_tbl
  | .getstatic _ => SK own cc q
  | .invokevirtual idx => ∃ row, ML[q.2.2.2.2.1]? = some row ∧ row.2.2.2.2.1 = q.2.2.2.1 ∧ Cond.methodLink own idx row.1 ∈ rx_tbl ∧ Cond.instanceMethod row.1 ∈ rx_tbl ∧ Cond.selects row.1.cls row.1 row.1 ∈ rx_tbl ∧ rx_np row.1 q.2.2.2.2.2 ∧ (q.2.2.2.1 = 50 → row.1.cls = "java/lang/String") ∧ (¬ q.2.2.2.1 = 50 → ∃ (T : u_T) (N : Nat), vwCl[row.2.2.2.2.1]? = some (row.1.cls, T, N))
  | .invokestatic idx => (q.2.2.2.1 = 1 → ∃ row, ML[q.2.2.2.2.1]? = some row ∧ Cond.methodLink own idx row.1 ∈ rx_tbl ∧ Cond.static row.1 ∈ rx_tbl ∧ rx_np row.1 q.2.2.2.2.2) ∧ (q.2.2.2.1 = 3 → ∃ row host, ML[q.2.2.2.2.1]? = some row ∧ (own, idx, row.1, host) ∈ NL ∧ Cond.static row.1 ∈ rx_tbl ∧ rx_np row.1 q.2.2.2.2.2) ∧ (¬ q.2.2.2.1 = 1 → ¬ q.2.2.2.1 = 3 → SK own cc q)
  | .invokespecial idx => (q.2.2.2.1 = 2 → ∃ row, ML[q.2.2.2.2.1]? = some row ∧ row.1.name = "<init>" ∧ row.2.2.2.1 = none ∧ Cond.methodLink own idx row.1 ∈ rx_tbl ∧ Cond.instanceMethod row.1 ∈ rx_tbl ∧ rx_np row.1 q.2.2.2.2.2) ∧ (q.2.2.2.1 = 4 → ∃ row host, ML[q.2.2.2.2.1]? = some row ∧ row.1.name = "<init>" ∧ row.2.2.2.1 = none ∧ (own, idx, row.1, host) ∈ NL ∧ Cond.instanceMethod row.1 ∈ rx_tbl ∧ rx_np row.1 q.2.2.2.2.2) ∧ (¬ (q.2.2.2.1 = 2 ∨ q.2.2.2.1 = 4) → SK own cc q)
  | _ => True
def rx_ws (row : rx_M) : List Cond := Cond.code row.1 row.2.1 row.2.2.1 row.2.2.2.1 :: rx_tbl
def rx_ini (y : MethodName) : Bool := y.name == "<init>"
def rx_Mok (ML : List rx_M) (NL : List (String × Nat × MethodName × String)) (SK : String → ByteArray → rx_Q → Prop) (row : rx_M) : Prop := plainName row.1.cls = true ∧ Cond.code row.1 row.2.1 row.2.2.1 row.2.2.2.1 ∈ rx_tbl ∧ Cond.initialized row.1.cls ∈ rx_tbl ∧ (row.1.cls ≠ "java/lang/invoke/MethodHandle" ∧ row.1.cls ≠ "java/lang/invoke/VarHandle") ∧ row.2.2.1 ≤ 21 ∧ (∀ q ∈ row.2.2.2.2.2, decode row.2.1 q.1 = .ok (q.2.1, q.2.2.1)) ∧ ∀ q ∈ row.2.2.2.2.2, rx_qok ML NL SK row.1.cls row.2.1 (rx_ini row.1) q
/-! the contract -/
def rx_mc (σ : rx_S) (r : rx_R) : Nat := (r.2.2.1 - σ.2.1) + (match r.1 with
  | .inl _ => 0
  | .inr _ => 1)
def rx_ms (σ : rx_S) (r : rx_R) : Nat := (r.2.2.2 - σ.2.2) + (match r.1 with
  | .inl _ => 0
  | .inr _ => 6)
def rx_room (d mc ms : Nat) : Room := { frames := d + 8, cells := mc, slots := ms, locals := 40 * d + 200 }
def rx_Pc (Z : rx_Z) (X : State → Prop) (vs : List Value) (σ : rx_S) : Array Value → State → Prop := fun v U => v = vs.toArray ∧ rx_H Z U σ U.heap ∧ va_K Z.1 vwCl [] U ∧ X U
def rx_Qc (Z : rx_Z) (r : rx_R) : Array Value → State → Outcome → State → Prop := fun _ _ o t => match r.1 with
  | .inl v => o = .returned v ∧ rx_H Z t r.2 t.heap
  | .inr _ => False
def rx_XC (Z : rx_Z) (r : rx_R) : String → State → State → Prop := fun E _ t => match r.1 with
  | .inl _ => False
  | .inr E' => E = E' ∧ ∃ nx : Nat, r.2.2.1 ≤ nx ∧ rx_H Z t (r.2.1, nx, r.2.2.2) t.heap
def rx_con (l : Launch) (Z : rx_Z) (X : State → Prop) (d : Nat) (row : rx_M) (vs : List Value) (σ : rx_S) (r : rx_R) : Prop := vx_Met l row.1 (rx_ws row) (rx_room d (rx_mc σ r) (rx_ms σ r)) (rx_Pc Z X vs σ) (rx_Qc Z r) (rx_XC Z r) (rx_mc σ r) (rx_ms σ r) (fun q => Z.2.1 ≤ q)
/-- a callee: it makes no cell undone, and keeps its contract -/
def rx_cok (ML : List rx_M) (l : Launch) (Z : rx_Z) (X : State → Prop) (d : Nat) (call : rx_C) : Prop := ∀ (mi : Nat) (row : rx_M) (vs : List Value) (σ : rx_S) (r : rx_R), ML[mi]? = some row → call mi vs σ = some r → σ.2.1 ≤ r.2.2.1 ∧ σ.2.2 ≤ r.2.2.2 ∧ rx_con l Z X d row vs σ r
