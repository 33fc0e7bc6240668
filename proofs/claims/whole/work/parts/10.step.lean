/-! what the reader answers, the machine does -/
def rx_ctx (p : Program) (row : rx_M) (s : State) (m : MethodId) (args : Array Value) (meth : Method) (c : Code) : Prop := p.tables.exec = Jvm.exec ∧ c.code = row.2.1 ∧ c.maxLocals = row.2.2.1 ∧ s.vm.findClass row.1.cls = some m.cls ∧ (∀ w ∈ rx_tbl, w.before args s = true) ∧ meth.sig.returnType = row.2.2.2.1 ∧ meth.locks = false ∧ (∀ x ∈ c.exceptionTable.toList, False) ∧ meth.name = row.1.name
def rx_sln (i : Instr) : Nat := match i with
  | .ldc _ => 2
  | _ => 3
def rx_SA (l : Launch) (Z : rx_Z) (X : State → Prop) (SK : String → ByteArray → rx_Q → Prop) : Prop := ∀ (p : Program) (e : Env) (R : Room) (s : State) (m : MethodId) (args : Array Value) (below : List Frame) (meth : Method) (c : Code) (H : Heap) (locs : List Loc) (cells slots : Nat) (Q : State → Prop) (cc : ByteArray) (own : String) (q : rx_Q) (L : rx_L) (S : List Value) (σ : rx_S) (x : rx_F) (ls : Array Slot),
  p.tables.exec = Jvm.exec → c.code = cc → c.maxLocals = ls.size → s.vm.findClass own = some m.cls → (∀ w ∈ rx_tbl, w.before args s = true) → va_K Z.1 vwCl [] s → X s → rx_H Z s σ H → SK own cc q → q.2.2.1 = rx_sln q.2.1 → decode cc q.1 = .ok (q.2.1, q.2.2.1) → rx_spA Z q L S σ = some x → 8 ≤ R.frames → 200 ≤ R.locals → cells ≤ R.cells → slots ≤ R.slots →
  (∀ (H' : Heap) (locs' : List Loc), rx_H Z s x.2.2.2 H' → (∀ z ∈ locs', Z.2.1 ≤ z.base) → W p l e R s m args below meth c H' (locs ++ locs') cells slots Q (F0 m x.1 ls x.2.2.1)) → W p l e R s m args below meth c H locs cells slots Q (F0 m q.1 ls S)
def rx_ST (l : Launch) (Z : rx_Z) (X : State → Prop) (SK : String → ByteArray → rx_Q → Prop) : Prop := ∀ (p : Program) (e : Env) (R : Room) (s : State) (m : MethodId) (args : Array Value) (below : List Frame) (meth : Method) (c : Code) (H : Heap) (locs : List Loc) (cells slots mc ms : Nat) (cc : ByteArray) (own : String) (pc idx len a1 a2 : Nat) (σ : rx_S) (ls : Array Slot) (Qc : Array Value → State → Outcome → State → Prop),
  p.tables.exec = Jvm.exec → c.code = cc → c.maxLocals = ls.size → s.vm.findClass own = some m.cls → (∀ w ∈ rx_tbl, w.before args s = true) → va_K Z.1 vwCl [] s → X s → rx_H Z s σ H → SK own cc (pc, .new idx, len, a1, a2, 1) → decode cc pc = .ok (.new idx, 3) → s.heap.size ≤ H.size → (∀ q, q < Z.2.1 → s.heap[q]? = Z.2.2.1[q]?) → 8 ≤ R.frames → 200 ≤ R.locals → cells + 1 ≤ R.cells → slots + 6 ≤ R.slots → (∀ x ∈ c.exceptionTable.toList, False) → meth.locks = false → (∀ z ∈ locs, Z.2.1 ≤ z.base) → cells + 1 ≤ mc → slots + 6 ≤ ms →
  W p l e R s m args below meth c H locs cells slots (vx_MQ below Qc (rx_XC Z (.inr (rx_xn a1), σ)) args s mc ms (fun q => Z.2.1 ≤ q)) (F0 m pc ls [])
theorem rx_met {l : Launch} {y : MethodName} {ws : List Cond} {rm : Room} {Pc : Array Value → State → Prop} {Qc : Array Value → State → Outcome → State → Prop} {XC : String → State → State → Prop} {mc ms : Nat} {free : Addr → Prop} (h : vx_Met l y ws rm Pc Qc XC mc ms free) (hX : ∀ E st t, ¬ XC E st t) : Met l y ws rm Pc Qc mc ms free := by
  unfold vx_Met at h
  unfold Met
  exact MetFree.mono h (fun _ _ q => q) (fun _ _ _ _ _ q => q) (fun a st o t _ q => by
    rcases q with q | ⟨z, -, E, ce, L, hx, -⟩
    · exact q
    · exact absurd hx (hX E st t))
section RXS
variable {p : Program} {l : Launch} {e : Env} {R : Room} {s : State} {m : MethodId} {args : Array Value} {below : List Frame} {meth : Method} {c : Code} {H : Heap} {locs : List Loc} {cells slots : Nat} {Q : State → Prop} {Z : rx_Z} {X : State → Prop} {pc : Nat} {ls : Array Slot} {rest st0 : List Value} {mc ms : Nat}
theorem rx_blind {vs : List Value} {σ : rx_S} (hXw : ∀ (s U : State), s.WarmedH U.vm → X s → X U) : FrameBlind (rx_Pc Z X vs σ) := by
  intro a U g mk h
  obtain ⟨h1, h2, h3, h4⟩ := h
  exact ⟨h1, rx_H.moved (u := U) (Vm.Alike.refl U.vm) h2, va_K.moved (u := U) (Vm.Alike.refl U.vm) h3, hXw U _ (State.WarmedH.refl U) h4⟩
theorem rx_pre {vs : List Value} {σ : rx_S} (hXw : ∀ (s U : State), s.WarmedH U.vm → X s → X U) (hH : rx_H Z s σ H) (hK : va_K Z.1 vwCl [] s) (hX : X s) : ∀ U : State, U.heap = H → s.WarmedH U.vm → rx_Pc Z X vs σ vs.toArray U := by
  intro U hU hW
  exact ⟨rfl, by rw [hU]; exact hH.moved hW.alike, va_K.moved hW.alike hK, hXw s U hW hX⟩
/-- behind a call that returns or throws -/
theorem rx_aft {r : rx_R} (hr : vx_Run p l e R s m args below meth c H locs cells slots mc ms (F0 m pc ls st0) rest (fun st o t => rx_Qc Z r #[] st o t) (rx_XC Z r) (fun q => Z.2.1 ≤ q))
    (kk : ∀ (v : Option Value) (H' : Heap) (locs' : List Loc), r.1 = .inl v → rx_H Z s r.2 H' → (∀ z ∈ locs', Z.2.1 ≤ z.base) → W p l e R s m args below meth c H' (locs ++ locs') (cells + mc) (slots + ms) Q (F0 m (pc + 3) ls (v.toList ++ rest)))
    (kx : ∀ (E : String) (H' : Heap) (locs' : List Loc) (q9 : Addr) (ce : Cell) (nx : Nat), r.1 = .inr E → r.2.2.1 ≤ nx → rx_H Z s (r.2.1, nx, r.2.2.2) H' → (∀ z ∈ locs', Z.2.1 ≤ z.base) → H'[q9]? = some ce → ce.vm = .none → s.vm.findClass E = some ce.cls → vx_W p l e R s m args below meth c H' (locs ++ locs') (cells + mc) (slots + ms) Q (F0 m pc ls rest) q9) : W p l e R s m args below meth c H locs cells slots Q (F0 m pc ls st0) := by
  intro T hT Xs
  rcases hr T hT Xs with ⟨v, st₀, t, T', L, h0, X', hL, e1, e2, hq, st⟩ | ⟨q, st₀, t, T', L, E, ce, h0, X', hL, e1, e2, hq, hce, hcv, hcl, st⟩
  · have hal : t.vm.Alike s.vm := by rw [← e2]; exact X'.warmed.alike.symm
    unfold rx_Qc at hq
    split at hq
    · rename_i v9 hr1
      obtain ⟨hv, hH⟩ := hq
      cases hv
      obtain ⟨t2, a1, b1⟩ := kk v T'.heap L hr1 (by rw [e1]; exact hH.moved hal) hL T' rfl X'
      exact ⟨t2, st t2 a1, b1⟩
    · exact hq.elim
  · have hal : t.vm.Alike s.vm := by rw [← e2]; exact X'.warmed.alike.symm
    unfold rx_XC at hq
    split at hq
    · exact hq.elim
    · rename_i E9 hr1
      obtain ⟨rfl, nx, hnx, hH⟩ := hq
      obtain ⟨t2, a1, b1⟩ := kx E T'.heap L q ce nx hr1 hnx (by rw [e1]; exact hH.moved hal) hL (by rw [e1]; exact hce) hcv hcl T' rfl X'
      exact ⟨t2, st.trans a1, b1⟩
/-- behind a call that returns -/
theorem rx_aftM {r : rx_R} (hr : va_Run p l e R s m args below meth c H locs cells slots mc ms (F0 m pc ls st0) rest (fun st o t => rx_Qc Z r #[] st o t) (fun q => Z.2.1 ≤ q))
    (kk : ∀ (v : Option Value) (H' : Heap) (locs' : List Loc), r.1 = .inl v → rx_H Z s r.2 H' → (∀ z ∈ locs', Z.2.1 ≤ z.base) → W p l e R s m args below meth c H' (locs ++ locs') (cells + mc) (slots + ms) Q (F0 m (pc + 3) ls (v.toList ++ rest))) : W p l e R s m args below meth c H locs cells slots Q (F0 m pc ls st0) := by
  intro T hT Xs
  obtain ⟨v, st₀, t, T', L, h0, X', hL, e1, e2, hq, st⟩ := hr T hT Xs
  have hal : t.vm.Alike s.vm := by rw [← e2]; exact X'.warmed.alike.symm
  unfold rx_Qc at hq
  split at hq
  · rename_i v9 hr1
    obtain ⟨hv, hH⟩ := hq
    cases hv
    obtain ⟨t2, a1, b1⟩ := kk v T'.heap L hr1 (by rw [e1]; exact hH.moved hal) hL T' rfl X'
    exact ⟨t2, st t2 a1, b1⟩
  · exact hq.elim
end RXS
