/-! the law: both objects, one call after another -/
def R_law : String := "FarthestHeirLaw"
def lw_P (b : Addr) (xs : List Int32) (args : Array Value) (s : State) : Prop := args = #[.ref b] ∧ s.IntsAt b xs ∧ xs.length ≤ 4608 ∧ (Jvm.Cond.and given_1 narrow_1).before args s = true
def lw_Q (_ : Array Value) (s : State) (o : Outcome) (t : State) : Prop := o = .returned (some (.int 1)) ∧ Framed s o t [] 601024 7293034
def lw_Z (below : List Frame) (a : Array Value) (s : State) : State → Prop := fun t => ∃ o, t.status = .running ∧ Ended t below o ∧ lw_Q a s o t
/-- the law's own end, with 1 on the stack, nothing written that was there before, its room as the claim has it -/
theorem lw_ret {p : Program} {l : Launch} {e : Env} {s : State} {m : MethodId} {below : List Frame} {meth : Method} {c : Code} {b : Nat} (hx : p.tables.exec = Jvm.exec) (hb : c.code = code) (hr : meth.sig.returnType = ret) (hlocks : meth.locks = false) {pc : Nat} {H : Heap} {ls : Array Slot} (hdg : decode code pc = .ok (.ireturn, 1)) : W p l e room_1 s m #[Value.ref b] below meth c H [] 601024 7293034 (lw_Z below #[Value.ref b] s) (F0 m pc ls [.int 1]) := by
  intro T hT X
  obtain ⟨fs, hret, hrun, hended, hW, hframe⟩ := X.leave (v := some (.int 1)) (hlocks := hlocks) (fun h => by rw [hr] at h; cases h)
  have hmeth' : T.vm.method? m = some meth := X.method'
  refine ⟨T.setFrames fs, ?_, .returned (some (.int 1)), hrun, hended, rfl, ⟨_, rfl⟩, hW, hframe⟩
  jvm_step X.here [X.here.top, hx, hb, hdg, hmeth', hr, ret, narrow_b1]
  (try refine ⟨rfl, ?_⟩); (try refine ⟨rfl, ?_⟩)
  first | (intro acts; rw [hret _ acts rfl rfl rfl]) | rw [hret _ _ rfl rfl rfl]
  exact Steps.refl _
/-- what holds at the law's entry: the machine, the code, the tables' words (any of lw_tbl by 'hts w (by decide +kernel)'), the script of L ints xs at the cell b, what the Statement gives of the start (any of its parts by flat_of_before) -/
def lw_At (p : Program) (s : State) (m : MethodId) (meth : Method) (c : Code) (b L : Nat) (xs : Nat → Int32) : Prop :=
  p.tables.exec = Jvm.exec ∧ c.code = code ∧ meth.sig.returnType = ret ∧ c.maxLocals = 8 ∧ s.vm.findClass R_law = some m.cls ∧ (∀ w ∈ lw_tbl, w.before #[Value.ref b] s = true) ∧ va_X b L xs s s.heap ∧ b < s.heap.size ∧ meth.locks = false ∧ (Jvm.Cond.and given_1 narrow_1).before #[Value.ref b] s = true
def LW (p : Program) (l : Launch) (s : State) (m : MethodId) (args : Array Value) (c : Code) (sb L : Nat) (xs : Nat → Int32) (Z : rx_Z) : Prop := p.tables.exec = Jvm.exec ∧ c.code = cL_law_ ∧ c.maxLocals = 8 ∧ s.vm.findClass "FarthestHeirLaw" = some m.cls ∧ (∀ w ∈ rx_tbl, w.before args s = true) ∧ va_X sb L xs s s.heap ∧ sb < s.heap.size ∧ L ≤ 4608 ∧ l.stackTraces = false ∧ Z.2.1 = s.heap.size ∧ Z.2.2.1 = s.heap ∧ Z.2.1 = Z.2.2.1.size ∧ va_K Z.1 vwCl [] s ∧ wrX Z s
/-- between two calls -/
def LI (Z : rx_Z) (s : State) (cB bB : Nat) (H : Heap) (locs : List Loc) (X : XS) : Prop := ∃ (h : Nat → Option rx_E) (ι : Nat → Nat → Int32) (w : Nat × Nat) (nx : Nat), rx_H Z s (rz_mk h ι, w) H ∧ nx ≤ w.1 ∧ CX Z h ι nx cB bB X ∧ MX Z h ι bB X ∧ (∃ f, h (bB + 475) = some (.inl (1, 1, f))) ∧ ∀ q ∈ locs, Z.2.1 ≤ q.base
/-- the class has answered, the reference not yet -/
def LM (Z : rx_Z) (s : State) (cB bB : Nat) (zc : (Nat → Value) → Prop) (H : Heap) (locs : List Loc) (X X' : XS) : Prop := ∃ (h : Nat → Option rx_E) (ι : Nat → Nat → Int32) (w : Nat × Nat) (f : Nat → Value), rx_H Z s (rz_mk h ι, w) H ∧ CX Z h ι w.1 cB bB X' ∧ MX Z h ι bB X ∧ h (bB + 475) = some (.inl (1, 1, f)) ∧ zc f ∧ ∀ q ∈ locs, Z.2.1 ≤ q.base
theorem LI.S {Z : rx_Z} {s : State} {cB bB : Nat} {H : Heap} {locs : List Loc} {X : XS} (hI : LI Z s cB bB H locs X) (hz1 : Z.2.1 = s.heap.size) (hz2 : Z.2.2.1 = s.heap) : va_S (fun q => s.heap.size ≤ q) s.heap H locs := by
  obtain ⟨h, ι, w, nx, hH, -, -, -, -, hlo⟩ := hI
  exact lw_S hz1 hz2 hH hlo
theorem LI.ob {Z : rx_Z} {s : State} {cB bB : Nat} {H : Heap} {locs : List Loc} {X : XS} (hI : LI Z s cB bB H locs X) (_ : Z.2.1 = s.heap.size) : Z.2.1 ≤ bB + 475 := by
  obtain ⟨h, ι, w, nx, -, -, i, -⟩ := hI
  have h1 : Z.2.1 ≤ cB := i.1.1
  have h2 : bB = cB + 41 := i.1.2.1
  omega
theorem LM.S {Z : rx_Z} {s : State} {cB bB : Nat} {zc : (Nat → Value) → Prop} {H : Heap} {locs : List Loc} {X X' : XS} (hI : LM Z s cB bB zc H locs X X') (hz1 : Z.2.1 = s.heap.size) (hz2 : Z.2.2.1 = s.heap) : va_S (fun q => s.heap.size ≤ q) s.heap H locs := by
  obtain ⟨h, ι, w, f, hH, -, -, -, -, hlo⟩ := hI
  exact lw_S hz1 hz2 hH hlo
section LCA
variable {p : Program} {l : Launch} {e : Env} {s : State} {m : MethodId} {args : Array Value} {below : List Frame} {meth : Method} {c : Code} {H : Heap} {locs : List Loc} {cells slots : Nat} {Q : State → Prop} {Z : rx_Z} {ls : Array Slot} {sb L i cB bB : Nat} {xs : Nat → Int32} {X X' : XS} {o : Value ⊕ Nat} {vs rest : List Value} {t mi n pc idx : Nat}
theorem app_lo {locs locs' : List Loc} (h1 : ∀ q ∈ locs, Z.2.1 ≤ q.base) (h2 : ∀ q ∈ locs', Z.2.1 ≤ q.base) : ∀ q ∈ locs ++ locs', Z.2.1 ≤ q.base := fun q hq => (List.mem_append.mp hq).elim (h1 q) (h2 q)
theorem CX.oc {h : Nat → Option rx_E} {ι : Nat → Nat → Int32} {nx : Nat} (i : CX Z h ι nx cB bB X) : rz_oc h cB 11 := by
  obtain ⟨⟨-, -, -, -, -, -, -, l, l', r, pv, d1, -⟩, -⟩ := i
  exact ⟨_, d1.1⟩
/-- the class by a wrapper -/
theorem lc_stat {y : MethodName} {bytes : ByteArray} {maxL : Nat} {hh : List (Nat × Nat × Nat × Nat)} (C : LW p l s m args c sb L xs Z) (ok : okO t o) (hCL : CLq Z 40 mi vs cB bB X o X') (hI : LI Z s cB bB H locs X)
    (hM : ∀ {h h1 : Nat → Option rx_E} {ι ι1 : Nat → Nat → Int32} {w w1 : Nat × Nat}, rz_oc h cB 11 → rz_f Z 40 mi (.ref cB :: vs) (rz_mk h ι, w) = some (ouC o, (rz_mk h1 ι1, w1)) → w1.1 ≤ w.1 + 5 → w1.2 ≤ w.2 + 68 → (∃ f, h1 (bB + 475) = some (.inl (1, 1, f))) → vx_Met l y (Cond.codeWith y bytes maxL (some .int) hh :: rx_tbl) wrM (rx_Pc Z (wrX Z) (.ref cB :: (vs ++ [.ref (bB + 475)])) (rz_mk h ι, w)) (wQc Z t o h1 ι1 w1 (bB + 475)) (fun _ _ _ => False) 6 74 (fun q => Z.2.1 ≤ q))
    (hw : Cond.codeWith y bytes maxL (some .int) hh ∈ rx_tbl ∧ Cond.initialized y.cls ∈ rx_tbl ∧ Cond.methodLink "FarthestHeirLaw" idx y ∈ rx_tbl ∧ Cond.static y ∈ rx_tbl) (hy : y.cls ≠ "java/lang/invoke/MethodHandle" ∧ y.cls ≠ "java/lang/invoke/VarHandle") (hnp : rx_np y n) (hn : (Value.ref cB :: (vs ++ [.ref (bB + 475)])).length = n) (hsz : ls.size = 8) (hdg : decode cL_law_ pc = .ok (.invokestatic idx, 3)) (hmx : maxL ≤ 21) (hrm : cells + 6 ≤ 601024 ∧ slots + 74 ≤ 7293034)
    (kk : ∀ (H' : Heap) (locs' : List Loc), LM Z s cB bB (fun f => ∀ v, o = .inl v → f 0 = .long (lgV v)) H' locs' X X' → W p l e room_1 s m args below meth c H' locs' (cells + 6) (slots + 74) Q (F0 m (pc + 3) ls [.int (cdO t o)])) : W p l e room_1 s m args below meth c H locs cells slots Q (F0 m pc ls (Value.ref cB :: (vs ++ [.ref (bB + 475)])).reverse) := by
  obtain ⟨hx, hb, hml, hown, hts, hXs, hbl, hLL, hl9, hz1, hz2, hbs, hK, hX⟩ := id C
  obtain ⟨h, ι, w, nx, hH, hnx, hCX, hMX, ⟨f, hf0⟩, hlo⟩ := hI
  obtain ⟨h1, ι1, w1, hf, a1, a2, a3, hCX1, hcl⟩ := hCL h ι w nx hnx hCX
  have hb41 : bB = cB + 41 := hCX.1.2.1
  have hf1 : h1 (bB + 475) = some (.inl (1, 1, f)) := by rw [(hcl _ (by omega) (by omega)).1]; exact hf0
  have hMX1 : MX Z h1 ι1 bB X := ⟨hMX.1.cl hcl, by rw [(hcl _ (by omega) (by omega)).2]; exact hMX.2⟩
  have key := lw_stat (Z := Z) (R := room_1) (p := p) (e := e) (m := m) (args := args) (below := below) (meth := meth) (c := c) (H := H) (locs := locs) (cells := cells) (slots := slots) (Q := Q) (ls := ls) (rest := []) (pc := pc) (idx := idx) (n := n) ⟨hx, hb, hml, hown, hts⟩ hK hX (hM hCX.oc hf a2 a3 ⟨f, hf1⟩) hw hy hnp hn hH hsz (by decide) hdg hmx ⟨by decide, by decide⟩ hrm (by
    intro v st T H' locs' hq hT hal hlo'
    cases o with
    | inl v0 =>
      obtain ⟨ho, hH'⟩ := hq
      cases ho
      rw [hT] at hH'
      have hne : ∀ a, a ≠ bB + 475 → rz_he h1 (bB + 475) 0 (.long (lgV v0)) a = h1 a := fun a ha => he_ne ha
      refine kk H' (locs ++ locs') ⟨_, ι1, w1, va_up f 0 (.long (lgV v0)), hH'.moved hal, ⟨hCX1.1.md (fun a ha => ⟨hne a (by omega), rfl⟩), hCX1.2⟩, ⟨hMX1.1.keep (fun a b1 b2 => hne a (by omega)) ?_ (fun _ _ => rfl) (fun _ _ => rfl) (fun _ _ => rfl), hMX1.2⟩, he_s hf1, ?_, app_lo hlo hlo'⟩
      · obtain ⟨g, hg⟩ := hMX1.1.2.2.1
        exact ⟨g, (hne _ (by omega)).trans hg⟩
      · intro v1 hv1
        cases hv1
        rfl
    | inr k =>
      obtain ⟨ho, nx1, hnx1, hH'⟩ := hq
      cases ho
      rw [hT] at hH'
      exact kk H' (locs ++ locs') ⟨h1, ι1, (nx1, w1.2), f, hH'.moved hal, ⟨hCX1.1.more hnx1, hCX1.2⟩, hMX1, hf1, fun v1 hv1 => (by cases hv1), app_lo hlo hlo'⟩)
  rw [List.append_nil] at key
  exact key
/-- the class itself, where it never refuses -/
theorem lc_cls {row : rx_M} {T9 : u_T} {N9 : Nat} (C : LW p l s m args c sb L xs Z) (ok : okO 3 o) (hCL : CLq Z 40 mi vs cB bB X o X') (hI : LI Z s cB bB H locs X) (hrow : rx_ML[mi]? = some row) (hw : Cond.methodLink "FarthestHeirLaw" idx row.1 ∈ rx_tbl ∧ Cond.instanceMethod row.1 ∈ rx_tbl ∧ Cond.selects row.1.cls row.1 row.1 ∈ rx_tbl) (hnp : rx_np row.1 n) (hcl9 : vwCl[11]? = some (row.1.cls, T9, N9)) (hn : vs.length = n) (hsz : ls.size = 8) (hsum : (rest.map fun v => v.category).sum ≤ 8) (hdg : decode cL_law_ pc = .ok (.invokevirtual idx, 3)) (hrm : cells + 6 ≤ 601024 ∧ slots + 74 ≤ 7293034)
    (kk : ∀ (y : Int32) (H' : Heap) (locs' : List Loc), o = .inl (.int y) → LM Z s cB bB (fun _ => True) H' locs' X X' → W p l e room_1 s m args below meth c H' locs' (cells + 6) (slots + 74) Q (F0 m (pc + 3) ls (.int y :: rest))) : W p l e room_1 s m args below meth c H locs cells slots Q (F0 m pc ls (vs.reverse ++ .ref cB :: rest)) := by
  obtain ⟨hx, hb, hml, hown, hts, hXs, hbl, hLL, hl9, hz1, hz2, hbs, hK, hX⟩ := id C
  obtain ⟨h, ι, w, nx, hH, hnx, hCX, hMX, ⟨f, hf0⟩, hlo⟩ := hI
  obtain ⟨h1, ι1, w1, hf, a1, a2, a3, hCX1, hcl⟩ := hCL h ι w nx hnx hCX
  obtain ⟨y, rfl⟩ := ok.e3
  have hb41 : bB = cB + 41 := hCX.1.2.1
  have hf1 : h1 (bB + 475) = some (.inl (1, 1, f)) := by rw [(hcl _ (by omega) (by omega)).1]; exact hf0
  have hMX1 : MX Z h1 ι1 bB X := ⟨hMX.1.cl hcl, by rw [(hcl _ (by omega) (by omega)).2]; exact hMX.2⟩
  obtain ⟨fs, hfs⟩ := hCX.oc
  have hmc : cells + rx_mc (rz_mk h ι, w) (ouC (.inl (.int y)), (rz_mk h1 ι1, w1)) ≤ cells + 6 := by show cells + (w1.1 - w.1 + 0) ≤ cells + 6; omega
  have hms : slots + rx_ms (rz_mk h ι, w) (ouC (.inl (.int y)), (rz_mk h1 ι1, w1)) ≤ slots + 74 := by show slots + (w1.2 - w.2 + 0) ≤ slots + 74; omega
  refine lw_virt (d := 40) hl9 hbs ⟨hx, hb, hml, hown, hts⟩ hK hX.1 hrow hw hnp hcl9 (rz_mk_obj hfs) hn hsum hf hH hsz hdg ⟨by decide, by decide⟩ ⟨Nat.le_trans hmc hrm.1, Nat.le_trans hms hrm.2⟩ ?_ ?_
  · intro v H' locs' hv hH' hlo'
    cases hv
    exact W.widen (k := cells + 6) (n := slots + 74) hmc hms (kk y H' (locs ++ locs') rfl ⟨h1, ι1, w1, f, hH', hCX1, hMX1, hf1, trivial, app_lo hlo hlo'⟩)
  · intro E H' locs' q9 ce nx9 hE
    cases hE
/-- the reference's call -/
theorem lc_ref {row : rx_M} {T9 : u_T} {N9 : Nat} {h : Nat → Option rx_E} {ι : Nat → Nat → Int32} {w : Nat × Nat} {x : Int32} {f : Nat → Value} (C : LW p l s m args c sb L xs Z) (hMR : MRq Z 40 mi vs bB X o x X') (hrow : rx_ML[mi]? = some row) (hw : Cond.methodLink "FarthestHeirLaw" idx row.1 ∈ rx_tbl ∧ Cond.instanceMethod row.1 ∈ rx_tbl ∧ Cond.selects row.1.cls row.1 row.1 ∈ rx_tbl) (hnp : rx_np row.1 n) (hcl9 : vwCl[12]? = some (row.1.cls, T9, N9)) (hn : vs.length = n) (hsz : ls.size = 8) (hsum : (rest.map fun v => v.category).sum ≤ 8) (hdg : decode cL_law_ pc = .ok (.invokevirtual idx, 3)) (hc : cells ≤ 601024) (hs : slots ≤ 7293034) (hH : rx_H Z s (rz_mk h ι, w) H) (hCX : CX Z h ι w.1 cB bB X') (hMX : MX Z h ι bB X) (hf0 : h (bB + 475) = some (.inl (1, 1, f))) (hlo : ∀ q ∈ locs, Z.2.1 ≤ q.base)
    (kk : ∀ (v : Value) (h' : Nat → Option rx_E) (ι' : Nat → Nat → Int32) (H' : Heap) (locs' : List Loc), rx_H Z s (rz_mk h' ι', w) H' → CX Z h' ι' w.1 cB bB X' → MX Z h' ι' bB X' → h' (bB + 475) = some (.inl (1, 1, f)) → (∀ q ∈ locs', Z.2.1 ≤ q.base) → ι' bB 0 = x → (∀ v0, o = .inl v0 → v = v0) → (∀ k, o = .inr k → v = if mi = 261 then .long 0 else .int 0) → W p l e room_1 s m args below meth c H' locs' cells slots Q (F0 m (pc + 3) ls (v :: rest))) : W p l e room_1 s m args below meth c H locs cells slots Q (F0 m pc ls (vs.reverse ++ .ref bB :: rest)) := by
  obtain ⟨hx, hb, hml, hown, hts, hXs, hbl, hLL, hl9, hz1, hz2, hbs, hK, hX⟩ := id C
  obtain ⟨v, h1, ι1, hf, hMX1, hmd, e0, e1, e2⟩ := hMR h ι w hMX
  have hb41 : bB = cB + 41 := hCX.1.2.1
  have hmc : cells + rx_mc (rz_mk h ι, w) (.inl (some v), (rz_mk h1 ι1, w)) = cells := by show cells + (w.1 - w.1 + 0) = cells; omega
  have hms : slots + rx_ms (rz_mk h ι, w) (.inl (some v), (rz_mk h1 ι1, w)) = slots := by show slots + (w.2 - w.2 + 0) = slots; omega
  refine lw_virt (d := 40) hl9 hbs ⟨hx, hb, hml, hown, hts⟩ hK hX.1 hrow hw hnp hcl9 (rz_mk_obj hMX.1.2.1.1) hn hsum hf hH hsz hdg ⟨by decide, by decide⟩ ⟨by rw [hmc]; exact hc, by rw [hms]; exact hs⟩ ?_ ?_
  · intro v9 H' locs' hv hH' hlo'
    cases hv
    rw [hmc, hms]
    exact kk v h1 ι1 H' (locs ++ locs') hH' ⟨hCX.1.md (fun a ha => hmd a (by omega)), by rw [(hmd _ (by omega)).2]; exact hCX.2⟩ hMX1 (by rw [(hmd _ (by omega)).1]; exact hf0) (app_lo hlo hlo') e0 e1 e2
  · intro E H' locs' q9 ce nx9 hE
    cases hE
/-- the reference, where the class never refuses -/
theorem lc_mod {row : rx_M} {T9 : u_T} {N9 p2 : Nat} {off : Int} {y x : Int32} (C : LW p l s m args c sb L xs Z) (ho : o = .inl (.int y)) (hMR : MRq Z 40 mi vs bB X o x X') (hrow : rx_ML[mi]? = some row) (hw : Cond.methodLink "FarthestHeirLaw" idx row.1 ∈ rx_tbl ∧ Cond.instanceMethod row.1 ∈ rx_tbl ∧ Cond.selects row.1.cls row.1 row.1 ∈ rx_tbl) (hnp : rx_np row.1 n) (hcl9 : vwCl[12]? = some (row.1.cls, T9, N9)) (hn : vs.length = n) (hm : LM Z s cB bB (fun _ => True) H locs X X') (hl : lv_has ls 8 [(0, .ref sb), (1, .ref cB), (2, .ref bB), (3, .ref (bB + 475)), (4, .int (nI i))]) (hc : cells + 6 ≤ 601024) (hs : slots + 74 ≤ 7293034)
    (hd : decode cL_law_ p2 = .ok (.invokevirtual idx, 3) ∧ decode cL_law_ (p2 + 3) = .ok (.if_icmp .eq off, 3)) (ht : ((p2 + 3 : Nat) : Int) + off = ((2623 : Nat) : Int))
    (kk : ∀ (H' : Heap) (locs' : List Loc) (ls' : Array Slot) (X' : XS), LI Z s cB bB H' locs' X' → lv_has ls' 8 [(0, .ref sb), (1, .ref cB), (2, .ref bB), (3, .ref (bB + 475)), (4, .int (nI i))] → W p l e room_1 s m args below meth c H' locs' (cells + 6) (slots + 74) Q (F0 m 2623 ls' [])) : W p l e room_1 s m args below meth c H locs (cells + 6) (slots + 74) Q (F0 m p2 ls (vs.reverse ++ .ref bB :: [.int y])) := by
  obtain ⟨h, ι, w, f, hH, hCX, hMX, hf0, -, hlo⟩ := hm
  refine lc_ref C hMR hrow hw hnp hcl9 hn hl.1 (Nat.le_of_ble_eq_true rfl) hd.1 hc hs hH hCX hMX hf0 hlo ?_
  intro v h' ι' H' locs' hH' hCX' hMX' hf' hlo' e0 e1 e2
  obtain rfl := e1 _ ho
  refine lv_icmp_eq (tgt := 2623) C.1 C.2.1 hd.2 ht (fun _ => ?_) (fun hne => absurd rfl hne)
  exact kk H' locs' ls X' ⟨h', ι', w, w.1, hH', Nat.le_refl _, hCX', hMX', ⟨f, hf'⟩, hlo'⟩ hl
theorem cdO_0 (h : cdO t o = 0) : ∃ v, o = .inl v := by
  cases o with
  | inl v => exact ⟨v, rfl⟩
  | inr k =>
    exfalso
    revert h
    unfold cdO
    dsimp only
    split
    · split <;> decide
    · decide
/-- behind the wrapper: the reference, what it says that it refused, what both answered -/
theorem lc_tail {row : rx_M} {T9 : u_T} {N9 p2 : Nat} {go : Int} (C : LW p l s m args c sb L xs Z) (ok : okO t o) (hMR : MRq Z 40 mi vs bB X o (cdO t o) X') (ht4 : t ≠ 4) (hm261 : mi ≠ 261) (hrow : rx_ML[mi]? = some row) (hw : Cond.methodLink "FarthestHeirLaw" idx row.1 ∈ rx_tbl ∧ Cond.instanceMethod row.1 ∈ rx_tbl ∧ Cond.selects row.1.cls row.1 row.1 ∈ rx_tbl) (hnp : rx_np row.1 n) (hcl9 : vwCl[12]? = some (row.1.cls, T9, N9)) (hn : vs.length = n) (hm : LM Z s cB bB (fun f => ∀ v, o = .inl v → f 0 = .long (lgV v)) H locs X X') (hl : lv_has ls 8 [(5, .int (cdO t o)), (0, .ref sb), (1, .ref cB), (2, .ref bB), (3, .ref (bB + 475)), (4, .int (nI i))]) (hc : cells + 6 ≤ 601024) (hs : slots + 74 ≤ 7293034)
    (hd : decode cL_law_ p2 = .ok (.invokevirtual idx, 3) ∧ decode cL_law_ (p2 + 3) = .ok (.istore 6, 2) ∧ decode cL_law_ (p2 + 5) = .ok (.aload_n 2, 1) ∧ decode cL_law_ (p2 + 6) = .ok (.invokevirtual 134, 3) ∧ decode cL_law_ (p2 + 9) = .ok (.iload 5, 2) ∧ decode cL_law_ (p2 + 11) = .ok (.if_icmp .eq 5, 3) ∧ decode cL_law_ (p2 + 16) = .ok (.iload 5, 2) ∧ decode cL_law_ (p2 + 18) = .ok (.ifCond .ne 15, 3) ∧ decode cL_law_ (p2 + 21) = .ok (.aload_n 3, 1) ∧ decode cL_law_ (p2 + 22) = .ok (.iconst 0, 1) ∧ decode cL_law_ (p2 + 23) = .ok (.laload, 1) ∧ decode cL_law_ (p2 + 24) = .ok (.iload 6, 2) ∧ decode cL_law_ (p2 + 26) = .ok (.i2l, 1) ∧ decode cL_law_ (p2 + 27) = .ok (.lcmp, 1) ∧ decode cL_law_ (p2 + 28) = .ok (.ifCond .eq 5, 3) ∧ decode cL_law_ (p2 + 33) = .ok (.goto go, 3)) (hgo : ((p2 + 33 : Nat) : Int) + go = ((2623 : Nat) : Int))
    (kk : ∀ (H' : Heap) (locs' : List Loc) (ls' : Array Slot) (X' : XS), LI Z s cB bB H' locs' X' → lv_has ls' 8 [(0, .ref sb), (1, .ref cB), (2, .ref bB), (3, .ref (bB + 475)), (4, .int (nI i))] → W p l e room_1 s m args below meth c H' locs' (cells + 6) (slots + 74) Q (F0 m 2623 ls' [])) : W p l e room_1 s m args below meth c H locs (cells + 6) (slots + 74) Q (F0 m p2 ls (vs.reverse ++ [.ref bB])) := by
  obtain ⟨d0, d3, d5, d6, d9, d11, d16, d18, d21, d22, d23, d24, d26, d27, d28, d33⟩ := hd
  obtain ⟨h, ι, w, f, hH, hCX, hMX, hf0, hzc, hlo⟩ := hm
  have hx := C.1
  have hb := C.2.1
  refine lc_ref C hMR hrow hw hnp hcl9 hn hl.1 (Nat.le_of_ble_eq_true rfl) d0 hc hs hH hCX hMX hf0 hlo ?_
  intro v h' ι' H' locs' hH' hCX' hMX' hf' hlo' e0 e1 e2
  obtain ⟨y, rfl, hy⟩ : ∃ y, v = .int y ∧ ∀ v0, o = .inl v0 → v0 = .int y := by
    cases o with
    | inl v0 =>
      obtain rfl := e1 _ rfl
      rcases ok with ⟨h4, -⟩ | ⟨-, y, rfl⟩
      · exact absurd h4 ht4
      · exact ⟨y, rfl, fun v0 h => (Sum.inl.inj h).symm⟩
    | inr k =>
      have q := e2 k rfl
      rw [if_neg hm261] at q
      exact ⟨0, q, fun v0 h => (by cases h)⟩
  refine lv_istore (lv' := [(6, .int y), (5, .int (cdO t o)), (0, .ref sb), (1, .ref cB), (2, .ref bB), (3, .ref (bB + 475)), (4, .int (nI i))]) hx hb d3 hl (by decide) rfl (fun ls1 hl1 => ?_)
  refine lv_aload_n hx hb d5 rfl (lv_at hl1 4 rfl) ?_
  obtain ⟨hx, hb, hml, hown, hts, hXs, hbl, hLL, hl9, hz1, hz2, hbs, hK, hX⟩ := id C
  have hmc : cells + 6 + rx_mc (rz_mk h' ι', w) (.inl (some (.int (ι' bB 0))), (rz_mk h' ι', w)) = cells + 6 := by show cells + 6 + (w.1 - w.1 + 0) = cells + 6; omega
  have hms : slots + 74 + rx_ms (rz_mk h' ι', w) (.inl (some (.int (ι' bB 0))), (rz_mk h' ι', w)) = slots + 74 := by show slots + 74 + (w.2 - w.2 + 0) = slots + 74; omega
  refine lw_virt (d := 40) (As := []) (mi := 173) (n := 0) hl9 hbs ⟨hx, hb, hml, hown, hts⟩ hK hX.1 (show rx_ML[173]? = some rx_m173 from rfl) ⟨rl_w1496, rl_w1497, rl_w1498⟩ rx_p173 (show vwCl[12]? = some (rx_m173.1.cls, _, _) from rfl) (rz_mk_obj hMX'.1.2.1.1) rfl (by decide) (mi_thrown (d := 39) hMX'.1.2.1) hH' hl1.1 d6 ⟨by decide, by decide⟩ ⟨by rw [hmc]; exact hc, by rw [hms]; exact hs⟩ ?_ (fun E _ _ _ _ _ hE => by cases hE)
  intro v9 H2 locs2 hv hH2 hlo2
  cases hv
  rw [hmc, hms, e0]
  refine lv_iload hx hb d9 (lv_at hl1 1 rfl) ?_
  refine lv_icmp_eq (tgt := p2 + 16) hx hb d11 (by omega) (fun _ => ?_) (fun hne => absurd rfl hne)
  refine lv_iload hx hb d16 (lv_at hl1 1 rfl) ?_
  have fin : W p l e room_1 s m args below meth c H2 (locs' ++ locs2) (cells + 6) (slots + 74) Q (F0 m (p2 + 33) ls1 []) := by
    refine lv_goto (tgt := 2623) hx hb d33 hgo ?_
    exact kk H2 (locs' ++ locs2) ls1 X' ⟨h', ι', w, w.1, hH2, Nat.le_refl _, hCX', hMX', ⟨f, hf'⟩, app_lo hlo' hlo2⟩ (lv_sub hl1 [2, 3, 4, 5, 6] rfl)
  refine lv_if_ne (tgt := p2 + 33) hx hb d18 (by omega) (fun _ => fin) (fun h0 => ?_)
  obtain ⟨v0, rfl⟩ := cdO_0 h0
  obtain rfl := hy _ rfl
  have hz0 := hzc _ rfl
  refine lv_aload_n hx hb d21 rfl (lv_at hl1 5 rfl) ?_
  refine lv_iconst (v := 0) hx hb d22 (by decide) ?_
  have hz9 : rz_mk h' ι' (bB + 475) = some (.inl (1, 1, f)) := by unfold rz_mk; rw [hf']; rfl
  have hst : rx_aget 1 (p2 + 23 + 1) [] [.int 0, .ref (bB + 475)] (rz_mk h' ι', w) = some (p2 + 23 + 1, [], [f 0], (rz_mk h' ι', w)) := by
    unfold rx_aget
    dsimp only
    rw [hz9]
    dsimp only
    rw [if_pos ⟨rfl, by decide, by decide⟩]
    rfl
  refine rx_aload_ok (L := []) hx hb hH2 (Or.inr (Or.inl ⟨rfl, rfl⟩)) d23 hst (fun v r e9 => ?_)
  cases e9
  rw [hz0]
  refine lv_iload hx hb d24 (lv_at hl1 0 rfl) ?_
  refine lv_i2l hx hb d26 rfl ?_
  refine W.lcmp hx hb d27 ?_
  rw [show lgV (.int y) = y.toInt64 from rfl, lg_cmp_s]
  exact lv_if_eq (tgt := p2 + 33) hx hb d28 (by omega) (fun _ => fin) (fun hne => absurd rfl hne)
/-- the same, where the answer is a long -/
theorem lc_tailL {row : rx_M} {T9 : u_T} {N9 p2 : Nat} {go : Int} (C : LW p l s m args c sb L xs Z) (ok : okO 4 o) (hMR : MRq Z 40 261 vs bB X o (cdO 4 o) X') (hrow : rx_ML[261]? = some row) (hw : Cond.methodLink "FarthestHeirLaw" idx row.1 ∈ rx_tbl ∧ Cond.instanceMethod row.1 ∈ rx_tbl ∧ Cond.selects row.1.cls row.1 row.1 ∈ rx_tbl) (hnp : rx_np row.1 n) (hcl9 : vwCl[12]? = some (row.1.cls, T9, N9)) (hn : vs.length = n) (hm : LM Z s cB bB (fun f => ∀ v, o = .inl v → f 0 = .long (lgV v)) H locs X X') (hl : lv_has ls 8 [(5, .int (cdO 4 o)), (0, .ref sb), (1, .ref cB), (2, .ref bB), (3, .ref (bB + 475)), (4, .int (nI i))]) (hc : cells + 6 ≤ 601024) (hs : slots + 74 ≤ 7293034)
    (hd : decode cL_law_ p2 = .ok (.invokevirtual idx, 3) ∧ decode cL_law_ (p2 + 3) = .ok (.lstore 6, 2) ∧ decode cL_law_ (p2 + 5) = .ok (.aload_n 2, 1) ∧ decode cL_law_ (p2 + 6) = .ok (.invokevirtual 134, 3) ∧ decode cL_law_ (p2 + 9) = .ok (.iload 5, 2) ∧ decode cL_law_ (p2 + 11) = .ok (.if_icmp .eq 5, 3) ∧ decode cL_law_ (p2 + 16) = .ok (.iload 5, 2) ∧ decode cL_law_ (p2 + 18) = .ok (.ifCond .ne 14, 3) ∧ decode cL_law_ (p2 + 21) = .ok (.aload_n 3, 1) ∧ decode cL_law_ (p2 + 22) = .ok (.iconst 0, 1) ∧ decode cL_law_ (p2 + 23) = .ok (.laload, 1) ∧ decode cL_law_ (p2 + 24) = .ok (.lload 6, 2) ∧ decode cL_law_ (p2 + 26) = .ok (.lcmp, 1) ∧ decode cL_law_ (p2 + 27) = .ok (.ifCond .eq 5, 3) ∧ decode cL_law_ (p2 + 32) = .ok (.goto go, 3)) (hgo : ((p2 + 32 : Nat) : Int) + go = ((2623 : Nat) : Int))
    (kk : ∀ (H' : Heap) (locs' : List Loc) (ls' : Array Slot) (X' : XS), LI Z s cB bB H' locs' X' → lv_has ls' 8 [(0, .ref sb), (1, .ref cB), (2, .ref bB), (3, .ref (bB + 475)), (4, .int (nI i))] → W p l e room_1 s m args below meth c H' locs' (cells + 6) (slots + 74) Q (F0 m 2623 ls' [])) : W p l e room_1 s m args below meth c H locs (cells + 6) (slots + 74) Q (F0 m p2 ls (vs.reverse ++ [.ref bB])) := by
  obtain ⟨d0, d3, d5, d6, d9, d11, d16, d18, d21, d22, d23, d24, d26, d27, d32⟩ := hd
  obtain ⟨h, ι, w, f, hH, hCX, hMX, hf0, hzc, hlo⟩ := hm
  have hx := C.1
  have hb := C.2.1
  refine lc_ref C hMR hrow hw hnp hcl9 hn hl.1 (Nat.le_of_ble_eq_true rfl) d0 hc hs hH hCX hMX hf0 hlo ?_
  intro v h' ι' H' locs' hH' hCX' hMX' hf' hlo' e0 e1 e2
  obtain ⟨y, rfl, hy⟩ : ∃ y, v = .long y ∧ ∀ v0, o = .inl v0 → v0 = .long y := by
    cases o with
    | inl v0 =>
      obtain rfl := e1 _ rfl
      rcases ok with ⟨-, y, rfl⟩ | ⟨h4, -⟩
      · exact ⟨y, rfl, fun v0 h => (Sum.inl.inj h).symm⟩
      · exact absurd rfl h4
    | inr k =>
      have q := e2 k rfl
      rw [if_pos rfl] at q
      exact ⟨0, q, fun v0 h => (by cases h)⟩
  refine lv_lstore (lv' := [(6, .long y), (5, .int (cdO 4 o)), (0, .ref sb), (1, .ref cB), (2, .ref bB), (3, .ref (bB + 475)), (4, .int (nI i))]) hx hb d3 hl (by decide) rfl (fun ls1 hl1 => ?_)
  refine lv_aload_n hx hb d5 rfl (lv_at hl1 4 rfl) ?_
  obtain ⟨hx, hb, hml, hown, hts, hXs, hbl, hLL, hl9, hz1, hz2, hbs, hK, hX⟩ := id C
  have hmc : cells + 6 + rx_mc (rz_mk h' ι', w) (.inl (some (.int (ι' bB 0))), (rz_mk h' ι', w)) = cells + 6 := by show cells + 6 + (w.1 - w.1 + 0) = cells + 6; omega
  have hms : slots + 74 + rx_ms (rz_mk h' ι', w) (.inl (some (.int (ι' bB 0))), (rz_mk h' ι', w)) = slots + 74 := by show slots + 74 + (w.2 - w.2 + 0) = slots + 74; omega
  refine lw_virt (d := 40) (As := []) (mi := 173) (n := 0) hl9 hbs ⟨hx, hb, hml, hown, hts⟩ hK hX.1 (show rx_ML[173]? = some rx_m173 from rfl) ⟨rl_w1496, rl_w1497, rl_w1498⟩ rx_p173 (show vwCl[12]? = some (rx_m173.1.cls, _, _) from rfl) (rz_mk_obj hMX'.1.2.1.1) rfl (by decide) (mi_thrown (d := 39) hMX'.1.2.1) hH' hl1.1 d6 ⟨by decide, by decide⟩ ⟨by rw [hmc]; exact hc, by rw [hms]; exact hs⟩ ?_ (fun E _ _ _ _ _ hE => by cases hE)
  intro v9 H2 locs2 hv hH2 hlo2
  cases hv
  rw [hmc, hms, e0]
  refine lv_iload hx hb d9 (lv_at hl1 1 rfl) ?_
  refine lv_icmp_eq (tgt := p2 + 16) hx hb d11 (by omega) (fun _ => ?_) (fun hne => absurd rfl hne)
  refine lv_iload hx hb d16 (lv_at hl1 1 rfl) ?_
  have fin : W p l e room_1 s m args below meth c H2 (locs' ++ locs2) (cells + 6) (slots + 74) Q (F0 m (p2 + 32) ls1 []) := by
    refine lv_goto (tgt := 2623) hx hb d32 hgo ?_
    exact kk H2 (locs' ++ locs2) ls1 X' ⟨h', ι', w, w.1, hH2, Nat.le_refl _, hCX', hMX', ⟨f, hf'⟩, app_lo hlo' hlo2⟩ (lv_sub hl1 [2, 3, 4, 5, 6] rfl)
  refine lv_if_ne (tgt := p2 + 32) hx hb d18 (by omega) (fun _ => fin) (fun h0 => ?_)
  obtain ⟨v0, rfl⟩ := cdO_0 h0
  obtain rfl := hy _ rfl
  have hz0 := hzc _ rfl
  refine lv_aload_n hx hb d21 rfl (lv_at hl1 5 rfl) ?_
  refine lv_iconst (v := 0) hx hb d22 (by decide) ?_
  have hz9 : rz_mk h' ι' (bB + 475) = some (.inl (1, 1, f)) := by unfold rz_mk; rw [hf']; rfl
  have hst : rx_aget 1 (p2 + 23 + 1) [] [.int 0, .ref (bB + 475)] (rz_mk h' ι', w) = some (p2 + 23 + 1, [], [f 0], (rz_mk h' ι', w)) := by
    unfold rx_aget
    dsimp only
    rw [hz9]
    dsimp only
    rw [if_pos ⟨rfl, by decide, by decide⟩]
    rfl
  refine rx_aload_ok (L := []) hx hb hH2 (Or.inr (Or.inl ⟨rfl, rfl⟩)) d23 hst (fun v r e9 => ?_)
  cases e9
  rw [hz0]
  refine lv_lload hx hb d24 (lv_at hl1 0 rfl) ?_
  refine W.lcmp hx hb d26 ?_
  rw [show lgV (.long y) = y from rfl, lg_cmp_s]
  exact lv_if_eq (tgt := p2 + 32) hx hb d27 (by omega) (fun _ => fin) (fun hne => absurd rfl hne)
end LCA
