/-- the tables' words that stay true while the machine goes on -/
def rx_tbl : List Cond := lw_tbl.filter goodWord
theorem rx_mem (i : Nat) {w : Cond} (h : tables_1[i]? = some w) (hg : goodWord w = true) : w ∈ rx_tbl := List.mem_filter.mpr ⟨List.mem_append_right _ (List.mem_of_getElem? h), hg⟩
theorem rx_tbl_in {w : Cond} (h : w ∈ rx_tbl) : w ∈ lw_tbl := (List.mem_filter.mp h).1
theorem rx_good : ∀ ws : List Cond, (∀ w ∈ ws, w ∈ rx_tbl) → GoodIn rx_tbl ws := fun _ h w hw => ⟨h w hw, good_of_word (List.mem_filter.mp (h w hw)).2⟩
/-! The pure heap: a cell is an array (its type's number, its length, what it holds) or an object (its class's number, its fields); and when a machine's heap holds it. -/
abbrev rx_E : Type := (Nat × Nat × (Nat → Value)) ⊕ (Nat × List Value)
abbrev rx_S : Type := (Nat → Option rx_E) × Nat × Nat
abbrev rx_Z : Type := va_G × Nat × Heap × (Nat → Nat)
def rx_up (h : Nat → Option rx_E) (a : Nat) (x : rx_E) : Nat → Option rx_E := fun q => if q = a then some x else h q
theorem rx_up_self (h : Nat → Option rx_E) (a : Nat) (x : rx_E) : rx_up h a x a = some x := if_pos rfl
theorem rx_up_ne (h : Nat → Option rx_E) {a b : Nat} (x : rx_E) (hb : b ≠ a) : rx_up h a x b = h b := if_neg hb
def rx_ty (t : Nat) : FieldType := match t with
  | 0 => .int
  | 1 => .long
  | 2 => .object "FarthestHeir$Moment"
  | 8 => .byte
  | _ => .array .int
/-- of an array of objects: its class's component is the class of that name -/
def rx_ra (U : State) (cA : ClassId) (ty : FieldType) : Prop := match ty with
  | .object C => ∃ (kA : Class) (comp : ClassId), U.vm.classes[cA]? = some kA ∧ kA.kind = .array comp (.object C) ∧ U.vm.findClass C = some comp
  | _ => True
def rx_isA (U : State) (cell : Cell) (ty : FieldType) : Prop := U.isArrayOf cell ty ∧ rx_ra U cell.cls ty
theorem rx_ra.moved {u U : State} (hvm : u.vm.Alike U.vm) {cA : ClassId} {ty : FieldType} (h : rx_ra u cA ty) : rx_ra U cA ty := by
  cases ty with
  | object C =>
    obtain ⟨kA, comp, h1, h2, h3⟩ := h
    obtain ⟨k', hk', he⟩ := hvm.2.2 _ _ h1
    exact ⟨k', comp, hk', by rw [he]; exact h2, by rw [hvm.findClass]; exact h3⟩
  | _ => trivial
def rx_arr (U : State) (H : Heap) (a : Nat) (ty : FieldType) (n : Nat) (f : Nat → Value) : Prop := ∃ cell : Cell, H[a]? = some cell ∧ rx_isA U cell ty ∧ cell.vm ≠ .unknown ∧ (n ≤ cell.slots.size ∧ cell.slots.size.toInt32 = Int32.ofNat n) ∧ ∀ j, j < n → cell.slots[j]? = some (f j)
/-- a String constant, and its row of bytes: it lies in the old heap -/
def rx_str (Z : rx_Z) (U : State) (a v : Nat) : Prop := a < Z.2.1 ∧ va_O "java/lang/String" a (fun q => Z.2.1 ≤ q) U Z.2.2.1 ∧ va_OF "java/lang/String" "coder" "B" (.int 0) a (fun q => Z.2.1 ≤ q) U Z.2.2.1 ∧ va_OF "java/lang/String" "value" "[B" (.ref v) a (fun q => Z.2.1 ≤ q) U Z.2.2.1
def rx_at (Z : rx_Z) (U : State) (H : Heap) (a : Nat) (x : rx_E) : Prop := match x with
  | .inl (t, n, f) => if t = 9 then rx_str Z U a n else rx_arr U H a (rx_ty t) n f
  | .inr o => va_at Z.1 vwCl (a, .inr o) H
def rx_H (Z : rx_Z) (U : State) (σ : rx_S) (H : Heap) : Prop := H.size = σ.2.1 ∧ Z.2.1 ≤ σ.2.1 ∧ (∀ (a : Nat) (x : rx_E), σ.1 a = some x → a < σ.2.1 ∧ rx_at Z U H a x) ∧ ∀ q : Nat, q < Z.2.1 → H[q]? = Z.2.2.1[q]?
theorem rx_arr.kept {U : State} {H H' : Heap} {a : Nat} {ty : FieldType} {n : Nat} {f : Nat → Value} (h : rx_arr U H a ty n f) (hq : H'[a]? = H[a]?) : rx_arr U H' a ty n f := by
  obtain ⟨cell, h1, h2⟩ := h
  exact ⟨cell, by rw [hq]; exact h1, h2⟩
theorem rx_at.kept {Z : rx_Z} {U : State} {H H' : Heap} {a : Nat} {x : rx_E} (h : rx_at Z U H a x) (hq : H'[a]? = H[a]?) : rx_at Z U H' a x := by
  unfold rx_at at h ⊢
  split at h
  · split at h
    · rename_i ht
      simp only [ht, if_true]
      exact h
    · rename_i ht
      simp only [ht, if_false]
      exact h.kept hq
  · exact va_at.kept h hq
theorem rx_at.moved {Z : rx_Z} {u U : State} (hvm : u.vm.Alike U.vm) {H : Heap} {a : Nat} {x : rx_E} (h : rx_at Z u H a x) : rx_at Z U H a x := by
  unfold rx_at at h ⊢
  split at h
  · split at h
    · rename_i ht
      simp only [ht, if_true]
      obtain ⟨h1, h2, h3, h4⟩ := h
      exact ⟨h1, h2.moved hvm, h3.moved hvm, h4.moved hvm⟩
    · rename_i ht
      simp only [ht, if_false]
      obtain ⟨cell, h1, h2, h3⟩ := h
      exact ⟨cell, h1, ⟨State.isArrayOf_alike hvm h2.1, h2.2.moved hvm⟩, h3⟩
  · exact h
theorem rx_H.moved {Z : rx_Z} {u U : State} (hvm : u.vm.Alike U.vm) {σ : rx_S} {H : Heap} (h : rx_H Z u σ H) : rx_H Z U σ H := ⟨h.1, h.2.1, fun a x hx => ⟨(h.2.2.1 a x hx).1, (h.2.2.1 a x hx).2.moved hvm⟩, h.2.2.2⟩
/-- one old cell is written -/
theorem rx_H.set {Z : rx_Z} {U : State} {σ : rx_S} {H H' : Heap} (h : rx_H Z U σ H) {a : Nat} {x : rx_E} (ha : Z.2.1 ≤ a) (hlt : a < σ.2.1) (hz : H'.size = H.size) (oq : ∀ q, q ≠ a → H'[q]? = H[q]?) (hx : rx_at Z U H' a x) : rx_H Z U (rx_up σ.1 a x, σ.2) H' := by
  refine ⟨by rw [hz]; exact h.1, h.2.1, fun b y hb => ?_, fun q hq => ?_⟩
  · by_cases e : b = a
    · subst e
      have e2 : x = y := Option.some.inj ((rx_up_self σ.1 b x).symm.trans hb)
      rw [← e2]
      exact ⟨hlt, hx⟩
    · have hb' : σ.1 b = some y := (rx_up_ne σ.1 x e).symm.trans hb
      exact ⟨(h.2.2.1 b y hb').1, (h.2.2.1 b y hb').2.kept (oq b e)⟩
  · rw [oq q (by omega)]
    exact h.2.2.2 q hq
/-- a new cell -/
theorem rx_H.push {Z : rx_Z} {U : State} {σ : rx_S} {H H' : Heap} (h : rx_H Z U σ H) {x : rx_E} {k : Nat} (hz : H'.size = σ.2.1 + 1) (oq : ∀ q, q < σ.2.1 → H'[q]? = H[q]?) (hx : rx_at Z U H' σ.2.1 x) : rx_H Z U (rx_up σ.1 σ.2.1 x, σ.2.1 + 1, k) H' := by
  refine ⟨hz, Nat.le_succ_of_le h.2.1, fun b y hb => ?_, fun q hq => ?_⟩
  · by_cases e : b = σ.2.1
    · subst e
      have e2 : x = y := Option.some.inj ((rx_up_self σ.1 σ.2.1 x).symm.trans hb)
      rw [← e2]
      exact ⟨Nat.lt_succ_self _, hx⟩
    · have hb' : σ.1 b = some y := (rx_up_ne σ.1 x e).symm.trans hb
      exact ⟨Nat.lt_succ_of_lt (h.2.2.1 b y hb').1, (h.2.2.1 b y hb').2.kept (oq b (h.2.2.1 b y hb').1)⟩
  · rw [oq q (Nat.lt_of_lt_of_le hq h.2.1)]
    exact h.2.2.2 q hq
-- reading and writing, as functions
abbrev rx_F : Type := Nat × rx_L × List Value × rx_S
def rx_getf (ci k pc : Nat) (L : rx_L) (S : List Value) (σ : rx_S) : Option rx_F := match S with
  | .ref a :: r => match σ.1 a with
    | some (.inr (c, fs)) => if c = ci then (match fs[k]? with
      | some v => some (pc, L, v :: r, σ)
      | none => none) else none
    | _ => none
  | _ => none
def rx_fit (kd : Nat) (v : Value) : Bool := match kd, v with
  | 0, .int _ => true
  | 1, .ref _ => true
  | 1, .null => true
  | _, _ => false
def rx_putf (Z : rx_Z) (ci k kd pc : Nat) (L : rx_L) (S : List Value) (σ : rx_S) : Option rx_F := match S with
  | v :: .ref a :: r => match σ.1 a with
    | some (.inr (c, fs)) => if c = ci ∧ Z.2.1 ≤ a ∧ rx_fit kd v = true ∧ k < fs.length then some (pc, L, r, (rx_up σ.1 a (.inr (ci, fs.set k v)), σ.2)) else none
    | _ => none
  | _ => none
def rx_aget (t pc : Nat) (L : rx_L) (S : List Value) (σ : rx_S) : Option rx_F := match S with
  | .int i :: .ref a :: r => match σ.1 a with
    | some (.inl (t', n, f)) => if t' = t ∧ ¬ i < 0 ∧ i.toNatClampNeg < n then some (pc, L, f i.toNatClampNeg :: r, σ) else none
    | _ => none
  | _ => none
def rx_vt (t : Nat) (v : Value) : Bool := match t, v with
  | 0, .int _ => true
  | 1, .long _ => true
  | _, _ => false
def rx_aset (Z : rx_Z) (t pc : Nat) (L : rx_L) (S : List Value) (σ : rx_S) : Option rx_F := match S with
  | v :: .int i :: .ref a :: r => match σ.1 a with
    | some (.inl (t', n, f)) => if t' = t ∧ Z.2.1 ≤ a ∧ rx_vt t v = true ∧ ¬ i < 0 ∧ i.toNatClampNeg < n then some (pc, L, r, (rx_up σ.1 a (.inl (t, n, va_up f i.toNatClampNeg v)), σ.2)) else none
    | _ => none
  | _ => none
def rx_alen (pc : Nat) (L : rx_L) (S : List Value) (σ : rx_S) : Option rx_F := match S with
  | .ref a :: r => match σ.1 a with
    | some (.inl (t, n, _)) => if t = 9 then none else some (pc, L, .int (Int32.ofNat n) :: r, σ)
    | _ => none
  | _ => none
def rx_new (ci N : Nat) (dfs : List Value) (pc : Nat) (L : rx_L) (S : List Value) (σ : rx_S) : Option rx_F := some (pc, L, .ref σ.2.1 :: S, (rx_up σ.1 σ.2.1 (.inr (ci, dfs)), σ.2.1 + 1, σ.2.2 + N))
def rx_dv (t : Nat) : Value := match t with
  | 0 => .int 0
  | 1 => .long 0
  | _ => .null
def rx_newa (t pc : Nat) (L : rx_L) (S : List Value) (σ : rx_S) : Option rx_F := match S with
  | .int n :: r => if ¬ n < 0 ∧ n.toNatClampNeg ≤ 65536 then some (pc, L, .ref σ.2.1 :: r, (rx_up σ.1 σ.2.1 (.inl (t, n.toNatClampNeg, fun _ => rx_dv t)), σ.2.1 + 1, σ.2.2 + n.toNatClampNeg)) else none
  | _ => none
section RXH
variable {p : Program} {l : Launch} {e : Env} {R : Room} {s : State} {m : MethodId} {args : Array Value} {below : List Frame} {meth : Method} {c : Code} {H : Heap} {locs : List Loc} {cells slots : Nat} {Q : State → Prop} {cc : ByteArray} {nL : Nat} {Z : rx_Z} {σ : rx_S} {pc : Nat} {L : rx_L} {S : List Value} {ls : Array Slot} {own : String} {idx : Nat}
/-- the words of a class's fields are among the tables' -/
def rx_okC (ci : Nat) (C : String) (T : u_T) (N : Nat) : Prop := vwCl[ci]? = some (C, T, N) ∧ ∀ w ∈ u_ws C T N, w ∈ rx_tbl
def rx_okG (own : String) (idx ci k : Nat) : Prop := ∃ (C : String) (T : u_T) (N : Nat), rx_okC ci C T N ∧ k < N ∧ Cond.fieldLink own idx (T k).1 (T k).2.1 (T k).2.2.1 ∈ rx_tbl
theorem rx_getf_ok (hx : p.tables.exec = Jvm.exec) (hb : c.code = cc) (hts : ∀ w ∈ rx_tbl, w.before args s = true) (hown : s.vm.findClass own = some m.cls) (hK : va_K Z.1 vwCl [] s) (hH : rx_H Z s σ H) {ci k : Nat} (hok : rx_okG own idx ci k) (hdg : decode cc pc = .ok (.getfield idx, 3)) {x : rx_F} (h : rx_getf ci k (pc + 3) L S σ = some x)
    (kk : ∀ v r, x = (pc + 3, L, v :: r, σ) → W p l e R s m args below meth c H locs cells slots Q (F0 m (pc + 3) ls (v :: r))) : W p l e R s m args below meth c H locs cells slots Q (F0 m pc ls S) := by
  unfold rx_getf at h
  split at h
  · rename_i a r
    split at h
    · rename_i c9 fs hcell
      split at h
      · rename_i e9
        subst e9
        split at h
        · rename_i v hv
          obtain ⟨C, T, N, ⟨hc, hin⟩, hk, hl⟩ := hok
          have hat := (hH.2.2.1 a _ hcell).2
          exact va_get (D := Z.1) (cl := vwCl) (ws := [(a, .inr (c9, fs))]) (C := C) (T := T) (N := N) hx hb hts hin hown hK (fun k9 q9 h9 => by
            have hz : k9 < 1 := (List.getElem?_eq_some_iff.mp h9).1
            rw [show k9 = 0 by omega] at h9
            cases h9
            exact hat) 0 rfl hc k hk (hts _ hl) (fun _ h9 => h9) hv hdg (kk v r (Option.some.inj h).symm)
        · cases h
      · cases h
    · cases h
  · cases h
def rx_okP (own : String) (idx ci k kd : Nat) (ini : Prop) : Prop := ∃ (C : String) (T : u_T) (N : Nat) (ty : Nat → FieldType), rx_okC ci C T N ∧ k < N ∧ Cond.fieldLink own idx (T k).1 (T k).2.1 (T k).2.2.1 ∈ rx_tbl ∧ (∀ k, k < N → parseFieldDescriptor (T k).2.2.1 = some (ty k)) ∧ (∀ a, a < N → ∀ b, b < N → a ≠ b → (T a).2.1 ≠ (T b).2.1) ∧ ((kd = 0 ∧ ty k = .int) ∨ (kd = 1 ∧ ((∃ q, ty k = .object q) ∨ ∃ q, ty k = .array q))) ∧ ((T k).2.2.2 = false ∨ ((T k).2.2.2 = true ∧ ini ∧ (T k).1 = own))
theorem rx_fit_ok {kd : Nat} {v : Value} {ty : FieldType} (h : rx_fit kd v = true) (ht : (kd = 0 ∧ ty = .int) ∨ (kd = 1 ∧ ((∃ q, ty = .object q) ∨ ∃ q, ty = .array q))) : narrow ty v = v ∧ fits ty v = true := by
  rcases ht with ⟨rfl, rfl⟩ | ⟨rfl, ⟨q, rfl⟩ | ⟨q, rfl⟩⟩ <;> cases v <;> first | (cases h; done) | exact ⟨rfl, rfl⟩
theorem rx_putf_ok (hx : p.tables.exec = Jvm.exec) (hb : c.code = cc) (hts : ∀ w ∈ rx_tbl, w.before args s = true) (hown : s.vm.findClass own = some m.cls) (hK : va_K Z.1 vwCl [] s) (hH : rx_H Z s σ H) {ci k kd : Nat} (hok : rx_okP own idx ci k kd (meth.name = "<init>")) (hdg : decode cc pc = .ok (.putfield idx, 3)) {x : rx_F} (h : rx_putf Z ci k kd (pc + 3) L S σ = some x)
    (kk : ∀ (r : List Value) (σ' : rx_S) (H' : Heap) (lo : Loc), x = (pc + 3, L, r, σ') → σ'.2 = σ.2 → rx_H Z s σ' H' → Z.2.1 ≤ lo.base → W p l e R s m args below meth c H' (locs ++ [lo]) cells slots Q (F0 m (pc + 3) ls r)) : W p l e R s m args below meth c H locs cells slots Q (F0 m pc ls S) := by
  unfold rx_putf at h
  split at h
  · rename_i v a r
    split at h
    · rename_i c9 fs hcell
      split at h
      · rename_i e9
        obtain ⟨e9, hbs, hfit, hlen⟩ := e9
        subst e9
        obtain ⟨C, T, N, ty, ⟨hc, hin⟩, hk, hl, hty, hnm, hkd, hfin⟩ := hok
        have hap := va_apart (own := own) (D := Z.1) (cl := vwCl) hts hin ty hty hnm hK hc
        obtain ⟨hlt, r0, h1, cell, q1, q2, q3, q4⟩ := hH.2.2.1 a _ hcell
        have hr : r0 = (C, T, N) := Option.some.inj (h1.symm.trans hc)
        subst hr
        obtain ⟨hS, hfc, kC, hkC, hkind⟩ := hK.1 c9 _ hc
        obtain ⟨cf, kf, fi, f, hi, hsl⟩ := hS k hk
        have hlay := hts _ (hin _ (u_in_lay hk))
        unfold u_lay at hlay
        have hst := (u_facts hfc hkC (u_lays hts hin hk) hi).1
        obtain ⟨hn1, hf1⟩ := rx_fit_ok hfit hkd
        have fin : ∀ H' : Heap, H'[a]? = some (cell.setSlot f.slot v) → H'.size = H.size → (∀ q, q ≠ a → H'[q]? = H[q]?) → W p l e R s m args below meth c H' (locs ++ [⟨a, f.slot⟩]) cells slots Q (F0 m (pc + 3) ls r) := by
          intro H' e1 e2 e3
          rw [hsl] at e1
          refine kk r _ H' _ (Option.some.inj h).symm rfl (hH.set hbs hlt e2 e3 ?_) hbs
          exact ⟨_, hc, t_OB.to (V := updV (vp_V fs) k v) ⟨_, e1, q2, q3, t_set q4 hap hk v⟩ (fun j _ => vp_updV_set hlen v j)⟩
        rcases hfin with hfin | ⟨hfin, hini, hdecl⟩
        · rw [if_neg (by rw [hfin]; decide)] at hlay
          have h6 := u_store hfc hkC hkind hlay hi (hty k hk) hn1 hf1
          exact W.putK hx hb (f := f) ⟨hown, hts _ hl, ⟨_, _, _, hi⟩, hst⟩ (by rw [q2]; exact h6) q1 q3 (by rw [hsl]; exact k2_hasslot (q4 k hk)) rfl rfl hdg fin
        · rw [if_pos hfin] at hlay
          have hcf : m.cls = cf := by
            obtain ⟨_, _, c', _, _, _, -, -, hf', -, -, -, hown2, -⟩ := Cond.laysFinal_spec hlay
            have e1 : c' = cf := by have := hi.symm.trans hf'; simp at this; exact this.1.symm
            rw [hdecl] at hown2
            rw [← e1]; exact Option.some.inj (hown.symm.trans hown2)
          have h6 := u_fits hfc hkC hkind (Or.inr hlay) hi (hty k hk) hn1 hf1
          exact W.putFinK hx hb hown (hts _ hl) hi hst hcf hini (by rw [q2]; exact h6) q1 q3 (by rw [hsl]; exact k2_hasslot (q4 k hk)) rfl rfl hdg fin
      · cases h
    · cases h
  · cases h
end RXH
