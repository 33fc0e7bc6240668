def rx_asetq (Z : rx_Z) (ci pc : Nat) (L : rx_L) (S : List Value) (σ : rx_S) : Option rx_F := match S with
  | .ref v :: .int i :: .ref a :: r => match σ.1 a, σ.1 v with
    | some (.inl (t', n, f)), some (.inr (c, _)) => if t' = 2 ∧ c = ci ∧ Z.2.1 ≤ a ∧ ¬ i < 0 ∧ i.toNatClampNeg < n then some (pc, L, r, (rx_up σ.1 a (.inl (2, n, va_up f i.toNatClampNeg (.ref v))), σ.2)) else none
    | _, _ => none
  | .null :: .int i :: .ref a :: r => match σ.1 a with
    | some (.inl (t', n, f)) => if t' = 2 ∧ Z.2.1 ≤ a ∧ ¬ i < 0 ∧ i.toNatClampNeg < n then some (pc, L, r, (rx_up σ.1 a (.inl (2, n, va_up f i.toNatClampNeg .null)), σ.2)) else none
    | _ => none
  | _ => none
def rx_mnh (h : Nat → Option rx_E) (nx N K : Nat) : Nat → Option rx_E := fun q => if q = nx then some (.inl (3, N, fun j => .ref (nx + 1 + j))) else if nx < q ∧ q < nx + 1 + N then some (.inl (0, K, fun _ => .int 0)) else h q
def rx_mna (pc : Nat) (L : rx_L) (S : List Value) (σ : rx_S) : Option rx_F := match S with
  | .int k :: .int n :: r => if ¬ n < 0 ∧ ¬ k < 0 ∧ n.toNatClampNeg ≤ 65536 ∧ k.toNatClampNeg ≤ 65536 then some (pc, L, .ref σ.2.1 :: r, (rx_mnh σ.1 σ.2.1 n.toNatClampNeg k.toNatClampNeg, σ.2.1 + 1 + n.toNatClampNeg, σ.2.2 + n.toNatClampNeg + n.toNatClampNeg * k.toNatClampNeg)) else none
  | _ => none
section RXA
variable {p : Program} {l : Launch} {e : Env} {R : Room} {s : State} {m : MethodId} {args : Array Value} {below : List Frame} {meth : Method} {c : Code} {H : Heap} {locs : List Loc} {cells slots : Nat} {Q : State → Prop} {cc : ByteArray} {nL : Nat} {Z : rx_Z} {σ : rx_S} {pc : Nat} {L : rx_L} {S : List Value} {ls : Array Slot} {own : String} {idx : Nat}
theorem rx_at_arr {U : State} {a t n : Nat} {f : Nat → Value} (ht : t ≠ 9) (h : rx_at Z U H a (.inl (t, n, f))) : rx_arr U H a (rx_ty t) n f := by
  have h2 : (if t = 9 then rx_str Z U a n else rx_arr U H a (rx_ty t) n f) := h
  rwa [if_neg ht] at h2
theorem rx_at_of {U : State} {a t n : Nat} {f : Nat → Value} (ht : t ≠ 9) (h : rx_arr U H a (rx_ty t) n f) : rx_at Z U H a (.inl (t, n, f)) := by
  show (if t = 9 then rx_str Z U a n else rx_arr U H a (rx_ty t) n f)
  rwa [if_neg ht]
theorem rx_aget_ok {t : Nat} {x : rx_F} {pc' : Nat} (h : rx_aget t pc' L S σ = some x) (hH : rx_H Z s σ H) (ht : t ≠ 9) : ∃ (i : Int32) (a : Nat) (r : List Value) (v : Value) (cell : Cell), S = .int i :: .ref a :: r ∧ x = (pc', L, v :: r, σ) ∧ H[a]? = some cell ∧ s.isArrayOf cell (rx_ty t) ∧ cell.vm ≠ .unknown ∧ ¬ (i < 0 ∨ cell.slots.size ≤ i.toNatClampNeg) ∧ cell.slots[i.toNatClampNeg]? = some v := by
  unfold rx_aget at h
  split at h
  · rename_i i a r
    split at h
    · rename_i t' n f hcell
      split at h
      · rename_i q
        obtain ⟨rfl, h0, h1⟩ := q
        obtain ⟨cell, g1, g2, g3, g4, g5⟩ := rx_at_arr ht (hH.2.2.1 a _ hcell).2
        exact ⟨i, a, r, _, cell, rfl, (Option.some.inj h).symm, g1, g2.1, g3, fun z => by have g41 := g4.1; rcases z with z | z; exact h0 z; omega, g5 _ h1⟩
      · cases h
    · cases h
  · cases h
theorem rx_arr.store {U : State} {H' : Heap} {a n i : Nat} {ty : FieldType} {f : Nat → Value} {v : Value} {cell : Cell} (g2 : rx_isA U cell ty) (g3 : cell.vm ≠ .unknown) (g4 : n ≤ cell.slots.size ∧ cell.slots.size.toInt32 = Int32.ofNat n) (g5 : ∀ j, j < n → cell.slots[j]? = some (f j)) (h : H'[a]? = some (cell.setSlot i v)) : rx_arr U H' a ty n (va_up f i v) := by
  refine ⟨_, h, g2, g3, by rw [k2_slotsz]; exact g4, fun j hj => ?_⟩
  by_cases e : j = i
  · subst e
    simp [Cell.setSlot, va_up, Nat.lt_of_lt_of_le hj g4.1]
  · simp [Cell.setSlot, va_up, e, Array.getElem?_setIfInBounds, Ne.symm e, g5 j hj]
theorem rx_aset_ok {t : Nat} {x : rx_F} {pc' : Nat} (h : rx_aset Z t pc' L S σ = some x) (hH : rx_H Z s σ H) (ht : t ≠ 9) : ∃ (v : Value) (i : Int32) (a : Nat) (r : List Value) (σ' : rx_S) (cell : Cell), S = v :: .int i :: .ref a :: r ∧ rx_vt t v = true ∧ x = (pc', L, r, σ') ∧ σ'.2 = σ.2 ∧ Z.2.1 ≤ a ∧ H[a]? = some cell ∧ s.isArrayOf cell (rx_ty t) ∧ cell.vm ≠ .unknown ∧ ¬ (i < 0 ∨ cell.slots.size ≤ i.toNatClampNeg) ∧
    ∀ H' : Heap, H'[a]? = some (cell.setSlot i.toNatClampNeg v) → H'.size = H.size → (∀ q, q ≠ a → H'[q]? = H[q]?) → rx_H Z s σ' H' := by
  unfold rx_aset at h
  split at h
  · rename_i v i a r
    split at h
    · rename_i t' n f hcell
      split at h
      · rename_i q
        obtain ⟨rfl, hbs, hvt, h0, h1⟩ := q
        obtain ⟨cell, g1, g2, g3, g4, g5⟩ := rx_at_arr ht (hH.2.2.1 a _ hcell).2
        exact ⟨v, i, a, r, _, cell, rfl, hvt, (Option.some.inj h).symm, rfl, hbs, g1, g2.1, g3, fun z => by have g41 := g4.1; rcases z with z | z; exact h0 z; omega, fun H' e1 e2 e3 => hH.set hbs (hH.2.2.1 a _ hcell).1 e2 e3 (rx_at_of ht (rx_arr.store g2 g3 g4 g5 e1))⟩
      · cases h
    · cases h
  · cases h
theorem rx_aload_ok (hx : p.tables.exec = Jvm.exec) (hb : c.code = cc) (hH : rx_H Z s σ H) {t : Nat} {i : Instr} (hi : (i = .iaload ∧ t = 0) ∨ (i = .laload ∧ t = 1) ∨ (i = .aaload ∧ (t = 2 ∨ t = 3)) ∨ (i = .baload ∧ t = 8)) (hdg : decode cc pc = .ok (i, 1)) {x : rx_F} (h : rx_aget t (pc + 1) L S σ = some x)
    (kk : ∀ v r, x = (pc + 1, L, v :: r, σ) → W p l e R s m args below meth c H locs cells slots Q (F0 m (pc + 1) ls (v :: r))) : W p l e R s m args below meth c H locs cells slots Q (F0 m pc ls S) := by
  obtain ⟨j, a, r, v, cell, rfl, hxx, g1, g2, g3, g4, g5⟩ := rx_aget_ok h hH (by omega)
  rcases hi with ⟨rfl, rfl⟩ | ⟨rfl, rfl⟩ | ⟨rfl, rfl | rfl⟩ | ⟨rfl, rfl⟩
  · exact W.iald hx hb g1 g2 g3 g4 g5 rfl rfl hdg (kk v r hxx)
  · exact W.lald hx hb g1 g2 g3 g4 g5 rfl rfl hdg (kk v r hxx)
  · exact W.aald hx hb g1 g2 rfl g3 g4 g5 rfl rfl hdg (kk v r hxx)
  · exact W.aald hx hb g1 g2 rfl g3 g4 g5 rfl rfl hdg (kk v r hxx)
  · exact W.bald hx hb g1 g2 g3 g4 g5 rfl rfl hdg (kk v r hxx)
theorem rx_astore_ok (hx : p.tables.exec = Jvm.exec) (hb : c.code = cc) (hH : rx_H Z s σ H) {t : Nat} {i : Instr} (hi : (i = .iastore ∧ t = 0) ∨ (i = .lastore ∧ t = 1)) (hdg : decode cc pc = .ok (i, 1)) {x : rx_F} (h : rx_aset Z t (pc + 1) L S σ = some x)
    (kk : ∀ (r : List Value) (σ' : rx_S) (H' : Heap) (lo : Loc), x = (pc + 1, L, r, σ') → σ'.2 = σ.2 → rx_H Z s σ' H' → Z.2.1 ≤ lo.base → W p l e R s m args below meth c H' (locs ++ [lo]) cells slots Q (F0 m (pc + 1) ls r)) : W p l e R s m args below meth c H locs cells slots Q (F0 m pc ls S) := by
  obtain ⟨v, j, a, r, σ', cell, rfl, hv, hxx, h2, hbs, g1, g2, g3, g4, g5⟩ := rx_aset_ok h hH (by omega)
  rcases hi with ⟨rfl, rfl⟩ | ⟨rfl, rfl⟩
  · cases v <;> first | (cases hv; done) | exact W.iast hx hb g1 g2 g3 g4 rfl rfl hdg (fun H' e1 e2 e3 => kk r σ' H' _ hxx h2 (g5 H' e1 e2 e3) hbs)
  · cases v <;> first | (cases hv; done) | exact W.last hx hb g1 g2 g3 g4 rfl rfl hdg (fun H' e1 e2 e3 => kk r σ' H' _ hxx h2 (g5 H' e1 e2 e3) hbs)
theorem rx_alen_ok (hx : p.tables.exec = Jvm.exec) (hb : c.code = cc) (hH : rx_H Z s σ H) (hdg : decode cc pc = .ok (.arraylength, 1)) {x : rx_F} (h : rx_alen (pc + 1) L S σ = some x)
    (kk : ∀ v r, x = (pc + 1, L, v :: r, σ) → W p l e R s m args below meth c H locs cells slots Q (F0 m (pc + 1) ls (v :: r))) : W p l e R s m args below meth c H locs cells slots Q (F0 m pc ls S) := by
  unfold rx_alen at h
  split at h
  · rename_i a r
    split at h
    · rename_i t n f hcell
      split at h
      · cases h
      · rename_i ht
        obtain ⟨cell, g1, g2, g3, g4, g5⟩ := rx_at_arr ht (hH.2.2.1 a _ hcell).2
        exact W.alen hx hb g1 g2.1 g4.2 rfl rfl hdg (kk _ r (Option.some.inj h).symm)
    · cases h
  · cases h
def rx_okQ (ci : Nat) : Prop := ∃ (T : u_T) (N : Nat), vwCl[ci]? = some ("FarthestHeir$Moment", T, N)
theorem rx_asetq_ok (hx : p.tables.exec = Jvm.exec) (hb : c.code = cc) (hK : va_K Z.1 vwCl [] s) (hH : rx_H Z s σ H) {ci : Nat} (hok : rx_okQ ci) (hdg : decode cc pc = .ok (.aastore, 1)) {x : rx_F} (h : rx_asetq Z ci (pc + 1) L S σ = some x)
    (kk : ∀ (r : List Value) (σ' : rx_S) (H' : Heap) (lo : Loc), x = (pc + 1, L, r, σ') → σ'.2 = σ.2 → rx_H Z s σ' H' → Z.2.1 ≤ lo.base → W p l e R s m args below meth c H' (locs ++ [lo]) cells slots Q (F0 m (pc + 1) ls r)) : W p l e R s m args below meth c H locs cells slots Q (F0 m pc ls S) := by
  unfold rx_asetq at h
  split at h
  · rename_i v i a r
    split at h
    · rename_i t' n f c9 fs ha hv
      split at h
      · rename_i q
        obtain ⟨rfl, rfl, hbs, h0, h1⟩ := q
        obtain ⟨cell, g1, g2, g3, g4, g5⟩ := rx_at_arr (by decide) (hH.2.2.1 a _ ha).2
        obtain ⟨T, N, hc⟩ := hok
        obtain ⟨-, r0, hr0, cellV, q1, q2, q3, -⟩ := hH.2.2.1 v _ hv
        have hcls := (hK.1 c9 _ hc).2
        obtain ⟨kA, comp, k1, k2, k3⟩ := g2.2
        have hcomp : comp = Z.1.1 c9 := Option.some.inj (k3.symm.trans hcls.1)
        subst hcomp
        obtain ⟨kC, hkC, -⟩ := id hcls.2
        exact W.aast hx hb g1 g2.1.1 g3 k1 k2 rfl hkC ⟨h0, Nat.lt_of_lt_of_le h1 g4.1⟩ q1 (fun q h => by rw [q3] at h; cases h) (by rw [q2]; exact hkC) (by rw [q2]; exact va_assign hcls) rfl rfl hdg
          (fun H' e1 e2 e3 => kk r _ H' _ (Option.some.inj h).symm rfl (hH.set hbs (hH.2.2.1 a _ ha).1 e2 e3 (rx_at_of (by decide) (rx_arr.store g2 g3 g4 g5 e1))) hbs)
      · cases h
    · cases h
  · rename_i i a r
    split at h
    · rename_i t' n f ha
      split at h
      · rename_i q
        obtain ⟨rfl, hbs, h0, h1⟩ := q
        obtain ⟨cell, g1, g2, g3, g4, g5⟩ := rx_at_arr (by decide) (hH.2.2.1 a _ ha).2
        exact va_WaastN (C := "FarthestHeir$Moment") hx hb g1 g2.1 g3 (fun z => by have g41 := g4.1; rcases z with z | z; exact h0 z; omega) rfl rfl hdg
          (fun H' e1 e2 e3 => kk r _ H' _ (Option.some.inj h).symm rfl (hH.set hbs (hH.2.2.1 a _ ha).1 e2 e3 (rx_at_of (by decide) (rx_arr.store g2 g3 g4 g5 e1))) hbs)
      · cases h
    · cases h
  · cases h
def rx_okN (own : String) (idx ci N : Nat) (dfs : List Value) : Prop := ∃ (C : String) (T : u_T) (ty : Nat → FieldType), rx_okC ci C T N ∧ (∀ k, k < N → parseFieldDescriptor (T k).2.2.1 = some (ty k)) ∧ Cond.classLink own idx C ∈ rx_tbl ∧ Cond.instantiable C N ∈ rx_tbl ∧ Cond.initialized C ∈ rx_tbl ∧ ∀ j, j < N → defaultValue (ty j) = vp_V dfs j
theorem rx_new_ok (hx : p.tables.exec = Jvm.exec) (hb : c.code = cc) (hts : ∀ w ∈ rx_tbl, w.before args s = true) (hown : s.vm.findClass own = some m.cls) (hK : va_K Z.1 vwCl [] s) (hH : rx_H Z s σ H) {ci N : Nat} {dfs : List Value} (hok : rx_okN own idx ci N dfs) (hdg : decode cc pc = .ok (.new idx, 3)) {x : rx_F} (h : rx_new ci N dfs (pc + 3) L S σ = some x) (hcells : cells + 1 ≤ R.cells) (hslots : slots + N ≤ R.slots)
    (kk : ∀ (S' : List Value) (σ' : rx_S) (H' : Heap), x = (pc + 3, L, S', σ') → σ'.2 = (σ.2.1 + 1, σ.2.2 + N) → rx_H Z s σ' H' → W p l e R s m args below meth c H' locs (cells + 1) (slots + N) Q (F0 m (pc + 3) ls S')) : W p l e R s m args below meth c H locs cells slots Q (F0 m pc ls S) := by
  obtain ⟨C, T, ty, ⟨hc, hin⟩, hty, hcl, hins, hini, hdf⟩ := hok
  have hKn := hK.1 ci _ hc
  refine W.newcK hx hb hown (hts _ hcl) (hts _ hins) (hts _ hini) rfl hdg hcells hslots hKn.2.1 hH.1 fun H1 kC hkC e1 z1 o1 => ?_
  refine kk _ _ H1 (Option.some.inj h).symm rfl (hH.push z1 o1 ?_)
  exact ⟨_, hc, (u_born ty hts hin hKn hkC e1 hty).to hdf⟩
theorem rx_newa_ok (hx : p.tables.exec = Jvm.exec) (hb : c.code = cc) (hH : rx_H Z s σ H) {t : Nat} {at9 : ArrayType} (hi : (at9 = .int ∧ t = 0) ∨ (at9 = .long ∧ t = 1)) (harr : (Cond.arrayClass (rx_ty t)).before args s = true) (hdg : decode cc pc = .ok (.newarray at9, 2)) {x : rx_F} (h : rx_newa t (pc + 2) L S σ = some x) (hR : ∀ N, x.2.2.2.2.2 = σ.2.2 + N → cells + 1 ≤ R.cells ∧ slots + N ≤ R.slots)
    (kk : ∀ (N : Nat) (S' : List Value) (σ' : rx_S) (H' : Heap), x = (pc + 2, L, S', σ') → σ'.2 = (σ.2.1 + 1, σ.2.2 + N) → rx_H Z s σ' H' → W p l e R s m args below meth c H' locs (cells + 1) (slots + N) Q (F0 m (pc + 2) ls S')) : W p l e R s m args below meth c H locs cells slots Q (F0 m pc ls S) := by
  unfold rx_newa at h
  split at h
  · rename_i n r
    split at h
    · rename_i q
      obtain ⟨h0, h1⟩ := q
      have hxx := (Option.some.inj h).symm
      obtain ⟨r1, r2⟩ := hR n.toNatClampNeg (by rw [hxx])
      rcases hi with ⟨rfl, rfl⟩ | ⟨rfl, rfl⟩
      · have harr2 : (Cond.arrayClass (newarray.typeOf .int)).before args s = true := harr
        have hby : n.toNatClampNeg * componentBytes (newarray.typeOf .int) ≤ 536870912 := by show n.toNatClampNeg * 4 ≤ 536870912; omega
        refine W.newaK (atype := .int) (N := n.toNatClampNeg) hx hb harr2 rfl hdg rfl h0 rfl hby r1 r2 hH.1 fun H1 cA e1 z1 o1 hA => ?_
        exact kk _ _ _ H1 hxx rfl (hH.push z1 o1 (rx_at_of (by decide) ⟨_, e1, ⟨hA _ _, trivial⟩, (fun h => by cases h), ⟨Nat.le_of_eq (arrV_size _ _ _).symm, by rw [arrV_size]⟩, fun j hj => arrV_read _ _ hj⟩))
      · have harr2 : (Cond.arrayClass (newarray.typeOf .long)).before args s = true := harr
        have hby : n.toNatClampNeg * componentBytes (newarray.typeOf .long) ≤ 536870912 := by show n.toNatClampNeg * 8 ≤ 536870912; omega
        refine W.newaK (atype := .long) (N := n.toNatClampNeg) hx hb harr2 rfl hdg rfl h0 rfl hby r1 r2 hH.1 fun H1 cA e1 z1 o1 hA => ?_
        exact kk _ _ _ H1 hxx rfl (hH.push z1 o1 (rx_at_of (by decide) ⟨_, e1, ⟨hA _ _, trivial⟩, (fun h => by cases h), ⟨Nat.le_of_eq (arrV_size _ _ _).symm, by rw [arrV_size]⟩, fun j hj => arrV_read _ _ hj⟩))
    · cases h
  · cases h
theorem rx_newq_ok (hx : p.tables.exec = Jvm.exec) (hb : c.code = cc) (hown : s.vm.findClass own = some m.cls) (hH : rx_H Z s σ H) (hcl : (Cond.classLink own idx "FarthestHeir$Moment").before args s = true) (hov : (Cond.arrayOver (.object "FarthestHeir$Moment")).before args s = true) (hdg : decode cc pc = .ok (.anewarray idx, 3)) {x : rx_F} (h : rx_newa 2 (pc + 3) L S σ = some x) (hR : ∀ N, x.2.2.2.2.2 = σ.2.2 + N → cells + 1 ≤ R.cells ∧ slots + N ≤ R.slots)
    (kk : ∀ (N : Nat) (S' : List Value) (σ' : rx_S) (H' : Heap), x = (pc + 3, L, S', σ') → σ'.2 = (σ.2.1 + 1, σ.2.2 + N) → rx_H Z s σ' H' → W p l e R s m args below meth c H' locs (cells + 1) (slots + N) Q (F0 m (pc + 3) ls S')) : W p l e R s m args below meth c H locs cells slots Q (F0 m pc ls S) := by
  unfold rx_newa at h
  split at h
  · rename_i n r
    split at h
    · rename_i q
      obtain ⟨h0, h1⟩ := q
      have hxx := (Option.some.inj h).symm
      obtain ⟨r1, r2⟩ := hR n.toNatClampNeg (by rw [hxx])
      refine W.anew hx hb hown hcl hov rfl hdg rfl h0 (by omega) r1 r2 fun cA kA comp f1 f2 f3 f4 => ?_
      have hz : H.size = σ.2.1 := hH.1
      refine W.eq (g2 := F0 m (pc + 3) ls (.ref σ.2.1 :: r)) (by rw [← hz]) ?_
      refine kk _ _ _ _ hxx rfl (hH.push (by rw [Array.size_push, hz]) (fun q hq => by rw [Array.getElem?_push, if_neg (by omega)]) (rx_at_of (by decide) ?_))
      refine ⟨arrV cA n.toNatClampNeg (fun _ => .null), by rw [← hz, Array.getElem?_push_size, ← arrV_new], ⟨⟨fun k h => (by cases h), kA, f2, comp, f3⟩, kA, comp, f2, f3, f4⟩, (fun h => by cases h), ⟨Nat.le_of_eq (arrV_size _ _ _).symm, by rw [arrV_size]⟩, fun j hj => arrV_read _ _ hj⟩
    · cases h
  · cases h
theorem rx_mna_ok (hx : p.tables.exec = Jvm.exec) (hb : c.code = cc) (hown : s.vm.findClass own = some m.cls) (hH : rx_H Z s σ H) (hcl : (Cond.classLink own idx "[[I").before args s = true) (hov : (Cond.arrayOver (.array .int)).before args s = true) (harr : (Cond.arrayClass .int).before args s = true) (hdg : decode cc pc = .ok (.multianewarray idx 2, 4)) {x : rx_F} (h : rx_mna (pc + 4) L S σ = some x) (hR : ∀ C N, x.2.2.2.2 = (σ.2.1 + C, σ.2.2 + N) → cells + C ≤ R.cells ∧ slots + N ≤ R.slots)
    (kk : ∀ (C N : Nat) (S' : List Value) (σ' : rx_S) (H' : Heap), x = (pc + 4, L, S', σ') → σ'.2 = (σ.2.1 + C, σ.2.2 + N) → rx_H Z s σ' H' → W p l e R s m args below meth c H' locs (cells + C) (slots + N) Q (F0 m (pc + 4) ls S')) : W p l e R s m args below meth c H locs cells slots Q (F0 m pc ls S) := by
  unfold rx_mna at h
  split at h
  · rename_i k n r
    split at h
    · rename_i q
      obtain ⟨hn, hk, hn1, hk1⟩ := q
      have hxx := (Option.some.inj h).symm
      obtain ⟨r1, r2⟩ := hR (1 + n.toNatClampNeg) (n.toNatClampNeg + n.toNatClampNeg * k.toNatClampNeg) (by rw [hxx]; simp only [Prod.mk.injEq]; omega)
      intro T hT Xs
      obtain ⟨vm₁, cA, comp, -, fA, fC, hO, hI, X', step⟩ := Xs.multianewarray2F hx hown (ty := .int) hcl hov harr (g := F0 m pc ls (.int k :: .int n :: r)) rfl (by rw [hb]; exact hdg) rfl hn hk (by omega) (by show _ * 4 ≤ _; omega) (by omega) rfl rfl r1 r2
      generalize hF : Jvm.Free.Multi.fill (T.setVm vm₁) cA comp n.toNatClampNeg k.toNatClampNeg (defaultValue .int) n.toNatClampNeg = F at X' step
      have hTh : (T.setVm vm₁).heap = H := hT
      obtain ⟨f1, f2, -, -⟩ := Jvm.Free.Multi.fill_facts (T.setVm vm₁) cA comp n.toNatClampNeg k.toNatClampNeg (defaultValue .int) n.toNatClampNeg
      rw [hF, hTh] at f1 f2
      have hold : ∀ x : Nat, x < H.size → F.heap[x]? = H[x]? := fun x hx => by
        have := Jvm.Free.Multi.fill_old (T.setVm vm₁) cA comp n.toNatClampNeg k.toNatClampNeg (defaultValue .int) (a := x) (by rw [hTh]; exact hx) n.toNatClampNeg
        rw [hF, hTh] at this
        exact this
      have hrow : ∀ j : Nat, j < n.toNatClampNeg → F.heap[H.size + 1 + j]? = some (Jvm.Free.Multi.innerC comp k.toNatClampNeg (defaultValue .int)) := fun j hj => by
        have := Jvm.Free.Multi.fill_inner (T.setVm vm₁) cA comp n.toNatClampNeg k.toNatClampNeg (defaultValue .int) n.toNatClampNeg j hj
        rw [hF, hTh] at this
        exact this
      have hz : H.size = σ.2.1 := hH.1
      rw [hz] at f1 f2 hold hrow
      have hHF : rx_H Z s (rx_mnh σ.1 σ.2.1 n.toNatClampNeg k.toNatClampNeg, σ.2.1 + 1 + n.toNatClampNeg, σ.2.2 + n.toNatClampNeg + n.toNatClampNeg * k.toNatClampNeg) F.heap := by
        refine ⟨f1, by have := hH.2.1; show Z.2.1 ≤ σ.2.1 + 1 + n.toNatClampNeg; omega, fun b y hb9 => ?_, fun q hq => ?_⟩
        · have hb2 : rx_mnh σ.1 σ.2.1 n.toNatClampNeg k.toNatClampNeg b = some y := hb9
          show b < σ.2.1 + 1 + n.toNatClampNeg ∧ _
          unfold rx_mnh at hb2
          split at hb2
          · rename_i eb
            subst eb
            have ey := Option.some.inj hb2
            subst ey
            refine ⟨by omega, rx_at_of (by decide) ⟨_, f2, ⟨(hO _ _ _).1, trivial⟩, (hO _ _ _).2, ?_, fun j hj => ?_⟩⟩
            · rw [vr_outer, arrV_size]; exact ⟨Nat.le_refl _, rfl⟩
            · rw [vr_outer, arrV_read _ _ hj, if_pos hj]; rfl
          · split at hb2
            · rename_i eb
              have ey := Option.some.inj hb2
              subst ey
              refine ⟨by omega, rx_at_of (by decide) ⟨Jvm.Free.Multi.innerC comp k.toNatClampNeg (defaultValue .int), ?_, ⟨(hI _ _).1, trivial⟩, (hI _ _).2, ?_, fun j hj => ?_⟩⟩
              · have := hrow (b - (σ.2.1 + 1)) (by omega)
                rw [show σ.2.1 + 1 + (b - (σ.2.1 + 1)) = b by omega] at this
                exact this
              · simp [Jvm.Free.Multi.innerC]
              · simp [Jvm.Free.Multi.innerC, hj]; rfl
            · have h9 := hH.2.2.1 b y hb2
              exact ⟨by omega, h9.2.kept (hold b h9.1)⟩
        · rw [hold q (Nat.lt_of_lt_of_le hq hH.2.1)]
          exact hH.2.2.2 q hq
      have w := kk (1 + n.toNatClampNeg) (n.toNatClampNeg + n.toNatClampNeg * k.toNatClampNeg) _ _ F.heap hxx (by show (_, _) = (_, _); rw [← Nat.add_assoc, ← Nat.add_assoc]) hHF
      obtain ⟨t2, a1, b1⟩ := w F rfl (by rw [← Nat.add_assoc, ← Nat.add_assoc]; exact X')
      refine ⟨t2, step t2 ?_, b1⟩
      have e9 : T.heap.size = σ.2.1 := by rw [hT]; exact hz
      rw [e9]
      exact a1
    · cases h
  · cases h
end RXA
