/-! the law's own steps over the machine -/
theorem lw_cok {l : Launch} {Z : rx_Z} (hl : l.stackTraces = false) (hbs : Z.2.1 = Z.2.2.1.size) (d : Nat) : rx_cok rx_ML l Z (rx_X Z) d (rz_f Z d) := by
  intro mi row vs σ r hr h
  obtain ⟨N, hN⟩ := rz_f_iff.mp h
  exact rx_ev_ok (rx_FIX l hl Z hbs) N d mi row vs σ r hr hN
theorem lw_blind {Z : rx_Z} {X : State → Prop} {vs : List Value} {σ : rx_S} (hXw : ∀ (s U : State), s.WarmedH U.vm → X s → X U) : FrameBlind (rx_Pc Z X vs σ) := rx_blind hXw
section LWA
variable {p : Program} {l : Launch} {e : Env} {R : Room} {s : State} {m : MethodId} {args : Array Value} {below : List Frame} {meth : Method} {c : Code} {H : Heap} {locs : List Loc} {cells slots : Nat} {Q : State → Prop} {cc : ByteArray} {nL : Nat} {Z : rx_Z} {σ : rx_S} {own : String} {ls : Array Slot} {pc idx : Nat} {rest : List Value}
/-- a call on an object: it comes back, or throws -/
theorem lw_virt {d mi n c9 b : Nat} {row : rx_M} {fs As : List Value} {r1 : rx_R} {T9 : u_T} {N9 : Nat} (hl : l.stackTraces = false) (hbs : Z.2.1 = Z.2.2.1.size) (hCF : CallFix p m c cc nL s args rx_tbl own) (hK : va_K Z.1 vwCl [] s) (hX : rx_X Z s) (hr : rx_ML[mi]? = some row) (hw : Cond.methodLink own idx row.1 ∈ rx_tbl ∧ Cond.instanceMethod row.1 ∈ rx_tbl ∧ Cond.selects row.1.cls row.1 row.1 ∈ rx_tbl) (hnp : rx_np row.1 n) (hcl : vwCl[c9]? = some (row.1.cls, T9, N9)) (hcell : σ.1 b = some (.inr (c9, fs))) (hn : As.length = n) (hsum : (rest.map fun v => v.category).sum ≤ 8) (hf : rz_f Z d mi (.ref b :: As) σ = some r1) (hH : rx_H Z s σ H) (hsz : ls.size = nL) (hdg : decode cc pc = .ok (.invokevirtual idx, 3)) (hR : d + 9 ≤ R.frames ∧ 40 * (d + 1) + 200 ≤ R.locals) (hrm : cells + rx_mc σ r1 ≤ R.cells ∧ slots + rx_ms σ r1 ≤ R.slots)
    (kk : ∀ (v : Option Value) (H' : Heap) (locs' : List Loc), r1.1 = .inl v → rx_H Z s r1.2 H' → (∀ z ∈ locs', Z.2.1 ≤ z.base) → W p l e R s m args below meth c H' (locs ++ locs') (cells + rx_mc σ r1) (slots + rx_ms σ r1) Q (F0 m (pc + 3) ls (v.toList ++ rest)))
    (kx : ∀ (E : String) (H' : Heap) (locs' : List Loc) (q9 : Addr) (ce : Cell) (nx : Nat), r1.1 = .inr E → r1.2.2.1 ≤ nx → rx_H Z s (r1.2.1, nx, r1.2.2.2) H' → (∀ z ∈ locs', Z.2.1 ≤ z.base) → H'[q9]? = some ce → ce.vm = .none → s.vm.findClass E = some ce.cls → vx_W p l e R s m args below meth c H' (locs ++ locs') (cells + rx_mc σ r1) (slots + rx_ms σ r1) Q (F0 m pc ls rest) q9) : W p l e R s m args below meth c H locs cells slots Q (F0 m pc ls (As.reverse ++ .ref b :: rest)) := by
  have F := rx_FIX l hl Z hbs
  obtain ⟨-, -, hcon⟩ := lw_cok hl hbs d mi row _ σ r1 hr hf
  have hXw := F.1
  obtain ⟨-, hcode9, hini9, hmh9, hmx9, -, -⟩ := F.2.2.2.2.2.2 row (List.mem_of_getElem? hr)
  obtain ⟨-, r0, hr0, cellB, q1, q2, q3, -⟩ := hH.2.2.1 b _ hcell
  obtain ⟨hx, hb, hml, hown, hts⟩ := id hCF
  have cb : CallB R s args own idx row.1 row.2.1 row.2.2.1 row.2.2.2.1 (rx_ws row) (rx_room d (rx_mc σ r1) (rx_ms σ r1)) (rx_mc σ r1) (rx_ms σ r1) n := callB_of n hts (rx_GI hcode9) rfl rfl rfl (hts _ hini9) (hts _ hw.1) ⟨hmh9.1, hmh9.2, hnp⟩ ⟨by show d + 8 + 1 ≤ R.frames; omega, by show 8 + (row.2.2.1 + 11) + (40 * d + 200) ≤ R.locals; omega⟩
  exact rx_aft (rest := rest) (vx_runV (b := b) (As := As) (C := row.1.cls) hCF hcon ⟨cb, hts _ hw.2.1, hts _ hw.2.2⟩ ⟨rx_blind hXw, ⟨cellB, q1, by rw [q3]; rfl, by rw [q2]; exact (hK.1 c9 _ hcl).2.1⟩, rx_pre hXw hH hK hX⟩ rfl hn hsz rfl (lv_room hsum) hdg hrm) kk kx
/-- a constructor -/
theorem lw_init {d mi n b : Nat} {row : rx_M} {As : List Value} {σ' : rx_S} (hl : l.stackTraces = false) (hbs : Z.2.1 = Z.2.2.1.size) (hCF : CallFix p m c cc nL s args rx_tbl own) (hK : va_K Z.1 vwCl [] s) (hX : rx_X Z s) (hr : rx_ML[mi]? = some row) (hnm : row.1.name = "<init>") (hrt : row.2.2.2.1 = none) (hw : Cond.methodLink own idx row.1 ∈ rx_tbl ∧ Cond.instanceMethod row.1 ∈ rx_tbl) (hnp : rx_np row.1 n) (hn : As.length = n) (hsum : (rest.map fun v => v.category).sum ≤ 8) (hf : rz_f Z d mi (.ref b :: As) σ = some (.inl none, σ')) (hH : rx_H Z s σ H) (hsz : ls.size = nL) (hdg : decode cc pc = .ok (.invokespecial idx, 3)) (hR : d + 9 ≤ R.frames ∧ 40 * (d + 1) + 200 ≤ R.locals) (hrm : cells + rx_mc σ (.inl none, σ') ≤ R.cells ∧ slots + rx_ms σ (.inl none, σ') ≤ R.slots)
    (kk : ∀ (H' : Heap) (locs' : List Loc), rx_H Z s σ' H' → (∀ z ∈ locs', Z.2.1 ≤ z.base) → W p l e R s m args below meth c H' (locs ++ locs') (cells + rx_mc σ (.inl none, σ')) (slots + rx_ms σ (.inl none, σ')) Q (F0 m (pc + 3) ls rest)) : W p l e R s m args below meth c H locs cells slots Q (F0 m pc ls (As.reverse ++ .ref b :: rest)) := by
  have F := rx_FIX l hl Z hbs
  obtain ⟨-, -, hcon⟩ := lw_cok hl hbs d mi row _ σ _ hr hf
  have hXw := F.1
  obtain ⟨-, hcode9, hini9, hmh9, hmx9, -, -⟩ := F.2.2.2.2.2.2 row (List.mem_of_getElem? hr)
  obtain ⟨hx, hb, hml, hown, hts⟩ := id hCF
  have cb : CallB R s args own idx row.1 row.2.1 row.2.2.1 row.2.2.2.1 (rx_ws row) (rx_room d (rx_mc σ (.inl none, σ')) (rx_ms σ (.inl none, σ'))) (rx_mc σ (.inl none, σ')) (rx_ms σ (.inl none, σ')) n := callB_of n hts (rx_GI hcode9) rfl rfl rfl (hts _ hini9) (hts _ hw.1) ⟨hmh9.1, hmh9.2, hnp⟩ ⟨by show d + 8 + 1 ≤ R.frames; omega, by show 8 + (row.2.2.1 + 11) + (40 * d + 200) ≤ R.locals; omega⟩
  rw [hrt] at cb
  exact rx_aftM (r := (.inl none, σ')) (rest := rest) (va_runI (b := b) (As := As) hCF (rx_met hcon (fun E st t q => q)) ⟨cb, hnm, hts _ hw.2⟩ ⟨rx_blind hXw, rx_pre hXw hH hK hX⟩ rfl hn hsz rfl (lv_room hsum) hdg hrm) (fun v H' locs' hv h1 h2 => by
    cases hv
    exact kk H' locs' h1 h2)
/-- behind a call with any contract -/
theorem lw_aft {mc ms : Nat} {st0 : List Value} {Qa : State → Outcome → State → Prop} (hr : va_Run p l e R s m args below meth c H locs cells slots mc ms (F0 m pc ls st0) rest Qa (fun q => Z.2.1 ≤ q))
    (kk : ∀ (v : Option Value) (st t : State) (H' : Heap) (locs' : List Loc), Qa st (.returned v) t → t.heap = H' → t.vm.Alike s.vm → (∀ z ∈ locs', Z.2.1 ≤ z.base) → W p l e R s m args below meth c H' (locs ++ locs') (cells + mc) (slots + ms) Q (F0 m (pc + 3) ls (v.toList ++ rest))) : W p l e R s m args below meth c H locs cells slots Q (F0 m pc ls st0) := by
  intro T hT Xs
  obtain ⟨v, st₀, t, T', L, h0, X', hL, e1, e2, hq, st⟩ := hr T hT Xs
  have hal : t.vm.Alike s.vm := by rw [← e2]; exact X'.warmed.alike.symm
  obtain ⟨t2, a1, b1⟩ := kk v st₀ t T'.heap L hq e1.symm hal hL T' rfl X'
  exact ⟨t2, st t2 a1, b1⟩
theorem lw_S (hz1 : Z.2.1 = s.heap.size) (hz2 : Z.2.2.1 = s.heap) (hH : rx_H Z s σ H) (hlo : ∀ z ∈ locs, Z.2.1 ≤ z.base) : va_S (fun q => s.heap.size ≤ q) s.heap H locs := by
  refine ⟨by rw [hH.1, ← hz1]; exact hH.2.1, fun q hq _ => ?_, fun z hz => by show s.heap.size ≤ z.base; rw [← hz1]; exact hlo z hz⟩
  rw [hH.2.2.2 q (by rw [hz1]; exact hq), hz2]
/-- an argument of the script: a constant's place -/
theorem lw_argC {sb L i k : Nat} {xs : Nat → Int32} {ki : Int} {lv : List (Nat × Value)} {a0 a4 : Nat} (hx : p.tables.exec = Jvm.exec) (hb : c.code = cc) (hX : va_X sb L xs s s.heap) (hbl : sb < s.heap.size) (hS : va_S (fun q => s.heap.size ≤ q) s.heap H locs) (hl : lv_has ls nL lv) (h0 : lv[a0]? = some (0, .ref sb)) (h4 : lv[a4]? = some (4, .int (nI i))) (hL : L ≤ 4608) (hi : i + k < L) (hk : Int32.ofInt ki = nI k)
    (hd : decode cc pc = .ok (.aload_n 0, 1) ∧ decode cc (pc + 1) = .ok (.iload 4, 2) ∧ decode cc (pc + 3) = .ok (.iconst ki, 1) ∧ decode cc (pc + 4) = .ok (.iadd, 1) ∧ decode cc (pc + 5) = .ok (.iaload, 1))
    (kk : W p l e R s m args below meth c H locs cells slots Q (F0 m (pc + 6) ls (.int (xs (i + k)) :: rest))) : W p l e R s m args below meth c H locs cells slots Q (F0 m pc ls rest) := by
  obtain ⟨d0, d1, d2, d3, d4⟩ := hd
  refine lv_aload_n hx hb d0 rfl (lv_at hl a0 h0) ?_
  refine lv_iload hx hb d1 (lv_at hl a4 h4) ?_
  refine lv_iconst (v := nI k) hx hb d2 hk ?_
  refine lv_iadd hx hb d3 ?_
  have e1 : nI i + nI k = nI (i + k) := nI_add i k
  rw [e1]
  refine va_sld hx hb hX hbl (Nat.not_le.mpr hbl) hS (nI_in hi (by omega)) d4 ?_
  rw [nI_cl (show i + k < 2147483648 by omega)]
  exact kk
theorem lw_argB {sb L i k : Nat} {xs : Nat → Int32} {ki : Int} {lv : List (Nat × Value)} {a0 a4 : Nat} (hx : p.tables.exec = Jvm.exec) (hb : c.code = cc) (hX : va_X sb L xs s s.heap) (hbl : sb < s.heap.size) (hS : va_S (fun q => s.heap.size ≤ q) s.heap H locs) (hl : lv_has ls nL lv) (h0 : lv[a0]? = some (0, .ref sb)) (h4 : lv[a4]? = some (4, .int (nI i))) (hL : L ≤ 4608) (hi : i + k < L) (hk : (Int8.ofInt ki).toInt32 = nI k)
    (hd : decode cc pc = .ok (.aload_n 0, 1) ∧ decode cc (pc + 1) = .ok (.iload 4, 2) ∧ decode cc (pc + 3) = .ok (.bipush ki, 2) ∧ decode cc (pc + 5) = .ok (.iadd, 1) ∧ decode cc (pc + 6) = .ok (.iaload, 1))
    (kk : W p l e R s m args below meth c H locs cells slots Q (F0 m (pc + 7) ls (.int (xs (i + k)) :: rest))) : W p l e R s m args below meth c H locs cells slots Q (F0 m pc ls rest) := by
  obtain ⟨d0, d1, d2, d3, d4⟩ := hd
  refine lv_aload_n hx hb d0 rfl (lv_at hl a0 h0) ?_
  refine lv_iload hx hb d1 (lv_at hl a4 h4) ?_
  refine lv_bipush (v := nI k) hx hb d2 hk ?_
  refine lv_iadd hx hb d3 ?_
  have e1 : nI i + nI k = nI (i + k) := nI_add i k
  rw [e1]
  refine va_sld hx hb hX hbl (Nat.not_le.mpr hbl) hS (nI_in hi (by omega)) d4 ?_
  rw [nI_cl (show i + k < 2147483648 by omega)]
  exact kk
end LWA
/-! what both sides answer, in one form -/
def cdO (t : Nat) (o : Value ⊕ Nat) : Int32 := match o with
  | .inl _ => 0
  | .inr k => if t = 2 then (if k = 1 then 1 else 2) else 1
def JXq (t : Nat) (Z : rx_Z) (mc mm : Nat) (vs : List Value) (c b : Nat) (X : XS) : Prop := ∃ o X', okO t o ∧ CLq Z 40 mc vs c b X o X' ∧ MRq Z 40 mm vs b X o (cdO t o) X'
theorem J1q.jj {t mc mm c b : Nat} {Z : rx_Z} {vs : List Value} {X : XS} (h : J1q t Z 40 mc mm vs c b X) (ht : t ≠ 2) : JXq t Z mc mm vs c b X := by
  obtain ⟨o, X', h1, h2, h3⟩ := h
  refine ⟨o, X', h1, h2, ?_⟩
  cases o with
  | inl v => exact h3
  | inr k => unfold cdO; dsimp only; rw [if_neg ht]; exact h3
theorem J2q.jj {mc mm c b : Nat} {Z : rx_Z} {vs : List Value} {X : XS} (h : J2q Z 40 mc mm vs c b X) : JXq 2 Z mc mm vs c b X := by
  obtain ⟨o, X', h1, h2, h3⟩ := h
  refine ⟨o, X', h1, h2, ?_⟩
  cases o with
  | inl v => exact h3
  | inr k => exact h3
def lgV (v : Value) : Int64 := match v with
  | .int x => x.toInt64
  | .long x => x
  | _ => 0
theorem lg_cmp_s (x : Int64) : lg_cmp x x = 0 := by unfold lg_cmp; simp
