/-! the law's wrappers: a call and its catches -/
theorem okO.e0 {k : Nat} (h : okO 0 (.inr k)) : k = 0 := by unfold okO at h; dsimp only at h; omega
theorem okO.e1 {k : Nat} (h : okO 1 (.inr k)) : k = 1 := by unfold okO at h; dsimp only at h; omega
theorem okO.e2 {k : Nat} (h : okO 2 (.inr k)) : k = 0 ∨ k = 1 := by unfold okO at h; dsimp only at h; omega
theorem okO.e4 {k : Nat} (h : okO 4 (.inr k)) : k = 0 := by unfold okO at h; dsimp only at h; omega
theorem okO.e3 {o : Value ⊕ Nat} (h : okO 3 o) : ∃ x, o = .inl (.int x) := by
  cases o with
  | inl v =>
    rcases h with ⟨h4, -⟩ | ⟨-, x, rfl⟩
    · cases h4
    · exact ⟨x, rfl⟩
  | inr k => unfold okO at h; dsimp only at h; omega
def wrX (Z : rx_Z) (U : State) : Prop := rx_X Z U ∧ va_Nc "java/lang/IllegalArgumentException" "java/util/NoSuchElementException" U
theorem wrX_w (Z : rx_Z) : ∀ (s U : State), s.WarmedH U.vm → wrX Z s → wrX Z U := fun s U hW h => ⟨rx_X_w Z s U hW h.1, h.2.moved hW.alike⟩
def wQc (Z : rx_Z) (t : Nat) (o : Value ⊕ Nat) (h1 : Nat → Option rx_E) (ι1 : Nat → Nat → Int32) (w1 : Nat × Nat) (ob : Nat) : Array Value → State → Outcome → State → Prop := fun _ _ oo T => match o with
  | .inl v => oo = .returned (some (.int 0)) ∧ rx_H Z T (rz_mk (rz_he h1 ob 0 (.long (lgV v))) ι1, w1) T.heap
  | .inr k => oo = .returned (some (.int (cdO t (.inr k)))) ∧ ∃ nx : Nat, w1.1 ≤ nx ∧ rx_H Z T (rz_mk h1 ι1, nx, w1.2) T.heap
abbrev wrM : Room := { frames := 50, cells := 6, slots := 74, locals := 2000 }
section WRA
variable {p : Program} {l : Launch} {e : Env} {R : Room} {s : State} {m : MethodId} {args : Array Value} {below : List Frame} {meth : Method} {c : Code} {H : Heap} {locs : List Loc} {cells slots : Nat} {Q : State → Prop} {cc : ByteArray} {nL : Nat} {Z : rx_Z} {σ : rx_S} {own : String} {ls : Array Slot} {pc idx : Nat} {rest : List Value}
theorem wr_end {k : Int32} {ki : Int} {Qc : Array Value → State → Outcome → State → Prop} {XC : String → State → State → Prop} (hx : p.tables.exec = Jvm.exec) (hb : c.code = cc) (hr : meth.sig.returnType = some .int) (hlocks : meth.locks = false) (hd1 : decode cc pc = .ok (.iconst ki, 1)) (hk : Int32.ofInt ki = k) (hd2 : decode cc (pc + 1) = .ok (.ireturn, 1)) (hc : cells ≤ 6) (hs : slots ≤ 74) (hlo : ∀ z ∈ locs, Z.2.1 ≤ z.base) (hq : ∀ t : State, t.heap = H → s.vm.Alike t.vm → Qc args s (.returned (some (.int k))) t) : W p l e R s m args below meth c H locs cells slots (vx_MQ below Qc XC args s 6 74 (fun q => Z.2.1 ≤ q)) (F0 m pc ls []) := by
  refine lv_iconst (v := k) hx hb hd1 hk ?_
  refine W.widen (k := 6) (n := 74) hc hs ?_
  exact vx_ret (W.zret hx hb hr rfl (fun t ht hW => hq t ht hW.alike) hlo hd2 hlocks)
theorem wr_ast {q ei pr : Nat} (hx : p.tables.exec = Jvm.exec) (hb : c.code = cc) (hl : lv_has ls nL []) (hd : (decode cc pc = .ok (.astore_n 3, 1) ∧ ei = 3 ∧ pr = pc + 1) ∨ (decode cc pc = .ok (.astore ei, 2) ∧ pr = pc + 2)) (hn : ei < nL) (kk : ∀ ls' : Array Slot, W p l e R s m args below meth c H locs cells slots Q (F0 m pr ls' [])) : W p l e R s m args below meth c H locs cells slots Q (F0 m pc ls [.ref q]) := by
  rcases hd with ⟨h, rfl, rfl⟩ | ⟨h, rfl⟩
  · exact lv_astore_n (i := 3) hx hb h rfl hl hn rfl (fun ls' _ => kk ls')
  · exact lv_astore hx hb h hl hn rfl (fun ls' _ => kk ls')
/-- a catch: its handler stores what was thrown and answers a number -/
theorem wr_catch {t ob k pv pr ei : Nat} {ki : Int} {o : Value ⊕ Nat} {h1 : Nat → Option rx_E} {ι1 : Nat → Nat → Int32} {w1 : Nat × Nat} {q9 : Addr} {ce : Cell} {nx : Nat} {x : ExceptionTableEntry} {pre suf : List ExceptionTableEntry} (hx : p.tables.exec = Jvm.exec) (hb : c.code = cc) (hr : meth.sig.returnType = some .int) (hlocks : meth.locks = false) (hown : s.vm.findClass own = some m.cls) (hl : lv_has ls nL []) (hX : wrX Z s) (ho : o = .inr k) (hk1 : k = 0 ∨ k = 1)
    (htab : c.exceptionTable.toList = pre ++ x :: suf) (hpass : ∀ z ∈ pre, covers z pv = false ∨ (z.catchType ≠ 0 ∧ ∃ nm : String, (Cond.classLink own z.catchType nm).before args s = true ∧ va_Nc (rx_xn k) nm s)) (hcov : covers x pv = true) (h0 : x.catchType ≠ 0) (hlink : (Cond.classLink own x.catchType (rx_xn k)).before args s = true)
    (hnx : w1.1 ≤ nx) (hH : rx_H Z s (rz_mk h1 ι1, nx, w1.2) H) (hlo : ∀ z ∈ locs, Z.2.1 ≤ z.base) (hce : H[q9]? = some ce) (hcv : ce.vm = .none) (hcl : s.vm.findClass (rx_xn k) = some ce.cls) (hc : cells ≤ 6) (hs : slots ≤ 74)
    (had : (decode cc x.handlerPc = .ok (.astore_n 3, 1) ∧ ei = 3 ∧ pr = x.handlerPc + 1) ∨ (decode cc x.handlerPc = .ok (.astore ei, 2) ∧ pr = x.handlerPc + 2)) (hei : ei < nL) (hd1 : decode cc pr = .ok (.iconst ki, 1)) (hki : Int32.ofInt ki = cdO t (.inr k)) (hd2 : decode cc (pr + 1) = .ok (.ireturn, 1)) :
    vx_W p l e R s m args below meth c H locs cells slots (vx_MQ below (wQc Z t o h1 ι1 w1 ob) (fun _ _ _ => False) args s 6 74 (fun q => Z.2.1 ≤ q)) (F0 m pv ls rest) q9 := by
  have hcast : (Cond.castable (rx_xn k) (rx_xn k)).before args s = true := by
    rcases hk1 with e | e
    · subst e; exact hX.1.2.2.1 _ (List.mem_of_getElem? (i := 0) rfl)
    · subst e; exact hX.1.2.2.1 _ (List.mem_of_getElem? (i := 1) rfl)
  refine vx_catch hown pre x suf htab hpass hcov h0 hlink hcast hce hcv hcl ?_
  refine wr_ast hx hb hl had hei (fun ls' => ?_)
  refine wr_end hx hb hr hlocks hd1 hki hd2 hc hs hlo (fun T hT hal => ?_)
  subst ho
  exact ⟨rfl, nx, hnx, by rw [hT]; exact hH.moved hal⟩
/-- the call within a wrapper -/
theorem wr_main {t n pv pl pe ob cB mi : Nat} {go : Int} {row : rx_M} {T9 : u_T} {N9 : Nat} {vs : List Value} {o : Value ⊕ Nat} {h h1 : Nat → Option rx_E} {ι ι1 : Nat → Nat → Int32} {w w1 : Nat × Nat} (hl9 : l.stackTraces = false) (hbs : Z.2.1 = Z.2.2.1.size) (hCF : CallFix p m c cc nL s args rx_tbl own) (hr : meth.sig.returnType = some .int) (hlocks : meth.locks = false) (hK : va_K Z.1 vwCl [] s) (hX : wrX Z s) (hrow : rx_ML[mi]? = some row) (hw : Cond.methodLink own idx row.1 ∈ rx_tbl ∧ Cond.instanceMethod row.1 ∈ rx_tbl ∧ Cond.selects row.1.cls row.1 row.1 ∈ rx_tbl) (hnp : rx_np row.1 n) (hcl : vwCl[11]? = some (row.1.cls, T9, N9)) (hoc : rz_oc h cB 11) (hn : vs.length = n)
    (hf : rz_f Z 40 mi (.ref cB :: vs) (rz_mk h ι, w) = some (ouC o, (rz_mk h1 ι1, w1))) (hw1 : w1.1 ≤ w.1 + 5) (hw2 : w1.2 ≤ w.2 + 68) (ok : okO t o) (hout : ∃ f, h1 ob = some (.inl (1, 1, f))) (hob : Z.2.1 ≤ ob) (hH : rx_H Z s (rz_mk h ι, w) H) (hl : lv_has ls nL []) (hR : 49 ≤ R.frames ∧ 1840 ≤ R.locals ∧ 6 ≤ R.cells ∧ 74 ≤ R.slots)
    (hdv : decode cc pv = .ok (.invokevirtual idx, 3)) (hdn : (t ≠ 4 ∧ decode cc (pv + 3) = .ok (.i2l, 1) ∧ pl = pv + 4) ∨ (t = 4 ∧ pl = pv + 3)) (hdl : decode cc pl = .ok (.lastore, 1)) (hdg : decode cc (pl + 1) = .ok (.goto go, 3)) (hgo : ((pl + 1 : Nat) : Int) + go = (pe : Int)) (hde : decode cc pe = .ok (.iconst 0, 1) ∧ decode cc (pe + 1) = .ok (.ireturn, 1))
    (kx : ∀ k, o = .inr k → ∀ (H' : Heap) (locs' : List Loc) (q9 : Addr) (ce : Cell) (nx cl sl : Nat), w1.1 ≤ nx → rx_H Z s (rz_mk h1 ι1, nx, w1.2) H' → (∀ z ∈ locs', Z.2.1 ≤ z.base) → H'[q9]? = some ce → ce.vm = .none → s.vm.findClass (rx_xn k) = some ce.cls → cl ≤ 6 → sl ≤ 74 → vx_W p l e R s m args below meth c H' locs' cl sl (vx_MQ below (wQc Z t o h1 ι1 w1 ob) (fun _ _ _ => False) args s 6 74 (fun q => Z.2.1 ≤ q)) (F0 m pv ls [.int 0, .ref ob]) q9) :
    W p l e R s m args below meth c H [] 0 0 (vx_MQ below (wQc Z t o h1 ι1 w1 ob) (fun _ _ _ => False) args s 6 74 (fun q => Z.2.1 ≤ q)) (F0 m pv ls (vs.reverse ++ .ref cB :: [.int 0, .ref ob])) := by
  obtain ⟨hx, hb, hml, hown, hts⟩ := id hCF
  obtain ⟨fs, hfs⟩ := hoc
  have hmc : 0 + rx_mc (rz_mk h ι, w) (ouC o, (rz_mk h1 ι1, w1)) ≤ 6 := by
    cases o with
    | inl v => show 0 + (w1.1 - w.1 + 0) ≤ 6; omega
    | inr k => show 0 + (w1.1 - w.1 + 1) ≤ 6; omega
  have hms : 0 + rx_ms (rz_mk h ι, w) (ouC o, (rz_mk h1 ι1, w1)) ≤ 74 := by
    cases o with
    | inl v => show 0 + (w1.2 - w.2 + 0) ≤ 74; omega
    | inr k => show 0 + (w1.2 - w.2 + 6) ≤ 74; omega
  refine lw_virt (d := 40) hl9 hbs hCF hK hX.1 hrow hw hnp hcl (rz_mk_obj hfs) hn (Nat.le_of_ble_eq_true rfl) hf hH hl.1 hdv ⟨hR.1, hR.2.1⟩ ⟨Nat.le_trans hmc hR.2.2.1, Nat.le_trans hms hR.2.2.2⟩ ?_ ?_
  · intro v H' locs' hv hH' hlo'
    cases o with
    | inr k => cases hv
    | inl v0 =>
      cases hv
      obtain ⟨f, hz⟩ := hout
      have key : ∀ y : Int64, y = lgV v0 → W p l e R s m args below meth c H' ([] ++ locs') (0 + rx_mc (rz_mk h ι, w) (ouC (.inl v0), (rz_mk h1 ι1, w1))) (0 + rx_ms (rz_mk h ι, w) (ouC (.inl v0), (rz_mk h1 ι1, w1))) (vx_MQ below (wQc Z t (.inl v0) h1 ι1 w1 ob) (fun _ _ _ => False) args s 6 74 (fun q => Z.2.1 ≤ q)) (F0 m pl ls [.long y, .int 0, .ref ob]) := by
        intro y hy
        have hz9 : rz_mk h1 ι1 ob = some (.inl (1, 1, f)) := by unfold rz_mk; rw [hz]; rfl
        have hst : rx_aset Z 1 (pl + 1) [] [.long y, .int 0, .ref ob] (rz_mk h1 ι1, w1) = some (pl + 1, [], [], (rx_up (rz_mk h1 ι1) ob (.inl (1, 1, va_up f 0 (.long y))), w1)) := by
          unfold rx_aset
          dsimp only
          rw [hz9]
          dsimp only
          rw [if_pos ⟨rfl, hob, rfl, by decide, by decide⟩]
          rfl
        refine rx_astore_ok (L := []) hx hb hH' (Or.inr ⟨rfl, rfl⟩) hdl hst ?_
        intro r σ' H2 lo e1 e2 hH2 hlo2
        cases e1
        rw [rz_mk_astR hz (by decide)] at hH2
        refine lv_goto (tgt := pe) hx hb hdg hgo ?_
        refine wr_end (k := 0) hx hb hr hlocks hde.1 (by decide) hde.2 hmc hms ?_ (fun T hT hal => ?_)
        · intro q hq
          rcases List.mem_append.mp hq with a | a
          · exact hlo' q a
          · rw [List.mem_singleton.mp a]; exact hlo2
        · rw [hy] at hH2
          exact ⟨rfl, by rw [hT]; exact hH2.moved hal⟩
      rcases hdn with ⟨ht, hd, rfl⟩ | ⟨ht, rfl⟩
      · rcases ok with ⟨h4, -⟩ | ⟨-, x, rfl⟩
        · exact absurd h4 ht
        · exact lv_i2l hx hb hd rfl (key _ rfl)
      · rcases ok with ⟨-, x, rfl⟩ | ⟨h4, -⟩
        · exact key _ rfl
        · exact absurd ht h4
  · intro E H' locs' q9 ce nx hE hnx hH' hlo' hce hcv hcl9
    cases o with
    | inl v0 => cases hE
    | inr k =>
      cases hE
      exact kx k rfl H' ([] ++ locs') q9 ce nx _ _ hnx hH' hlo' hce hcv hcl9 hmc hms
/-- the law calls a wrapper -/
theorem lw_stat {y : MethodName} {bytes : ByteArray} {maxL n : Nat} {hh : List (Nat × Nat × Nat × Nat)} {As : List Value} {Qc : Array Value → State → Outcome → State → Prop} (hCF : CallFix p m c cc nL s args rx_tbl own) (hK : va_K Z.1 vwCl [] s) (hX : wrX Z s) (hM : vx_Met l y (Cond.codeWith y bytes maxL (some .int) hh :: rx_tbl) wrM (rx_Pc Z (wrX Z) As σ) Qc (fun _ _ _ => False) 6 74 (fun q => Z.2.1 ≤ q)) (hw : Cond.codeWith y bytes maxL (some .int) hh ∈ rx_tbl ∧ Cond.initialized y.cls ∈ rx_tbl ∧ Cond.methodLink own idx y ∈ rx_tbl ∧ Cond.static y ∈ rx_tbl) (hy : y.cls ≠ "java/lang/invoke/MethodHandle" ∧ y.cls ≠ "java/lang/invoke/VarHandle") (hnp : rx_np y n) (hn : As.length = n) (hH : rx_H Z s σ H) (hsz : ls.size = nL) (hsum : (rest.map fun v => v.category).sum ≤ 8) (hdg : decode cc pc = .ok (.invokestatic idx, 3)) (hmx : maxL ≤ 21) (hR : 51 ≤ R.frames ∧ 2040 ≤ R.locals) (hrm : cells + 6 ≤ R.cells ∧ slots + 74 ≤ R.slots)
    (kk : ∀ (v : Option Value) (st t : State) (H' : Heap) (locs' : List Loc), Qc As.toArray st (.returned v) t → t.heap = H' → t.vm.Alike s.vm → (∀ z ∈ locs', Z.2.1 ≤ z.base) → W p l e R s m args below meth c H' (locs ++ locs') (cells + 6) (slots + 74) Q (F0 m (pc + 3) ls (v.toList ++ rest))) : W p l e R s m args below meth c H locs cells slots Q (F0 m pc ls (As.reverse ++ rest)) := by
  obtain ⟨hx, hb, hml, hown, hts⟩ := id hCF
  have hG : GoodIn rx_tbl (Cond.codeWith y bytes maxL (some .int) hh :: rx_tbl) := rx_good _ (fun w hw9 => by
    rcases List.mem_cons.mp hw9 with rfl | q
    · exact hw.1
    · exact q)
  refine lw_aft (Z := Z) (vx_runSW (As := As) hCF (rx_met hM (fun _ _ _ q => q)) ⟨⟨rfl, rfl, hR.1, ?_, pay_in hts hG, List.mem_cons_self⟩, hts _ hw.1, hts _ hw.2.1, hy, ?_, hts _ hw.2.2.1, hts _ hw.2.2.2⟩ ⟨rx_blind (wrX_w Z), rx_pre (wrX_w Z) hH hK hX⟩ rfl hn hsz rfl (lv_room hsum) hdg hrm) kk
  · show 8 + (maxL + 11) + 2000 ≤ R.locals
    omega
  · intro sig h
    unfold rx_np at hnp
    rw [h] at hnp
    exact (Option.some.inj hnp).symm
end WRA
