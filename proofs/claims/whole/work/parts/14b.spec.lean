/-- what the special steps rest on: it stays while the machine goes on -/
def rx_X (Z : rx_Z) (U : State) : Prop :=
  (∀ q ∈ rx_NL, va_Nw (.methodLinkNest q.1 q.2.1 q.2.2.1 q.2.2.2) U) ∧ (va_AO "FarthestHeir$Moment" U ∧ va_AOA .int U) ∧ (∀ w ∈ rx_CB, va_Nw w U) ∧ (∀ q ∈ rx_SL, vk_R q.1 q.2.1 q.2.2.1 (Z.2.2.2 (1 + q.2.2.2)) U) ∧ va_Z "FarthestHeir$Law" "USUAL" "[I" (.ref (Z.2.2.2 0)) (fun q => Z.2.1 ≤ q) U Z.2.2.1 ∧ va_Z "java/lang/String" "COMPACT_STRINGS" "Z" (.int 1) (fun q => Z.2.1 ≤ q) U Z.2.2.1 ∧ va_Z "jdk/internal/util/Preconditions" "SIOOBE_FORMATTER" "Ljava/util/function/BiFunction;" (if Z.2.2.2 40 = 0 then .null else .ref (Z.2.2.2 41)) (fun q => Z.2.1 ≤ q) U Z.2.2.1 ∧ vx_Zq Bundle.tN "UNASSIGNED_STACK" Bundle.steD (fun q => Z.2.1 ≤ q) U Z.2.2.1 ∧ vx_Zq Bundle.tN "SUPPRESSED_SENTINEL" Bundle.listD (fun q => Z.2.1 ≤ q) U Z.2.2.1
theorem rx_CB_w {s U : State} (hW : s.WarmedH U.vm) (h : ∀ w ∈ rx_CB, va_Nw w s) : ∀ w ∈ rx_CB, va_Nw w U :=
  rx_cons (va_Nw.warmC hW (h _ (List.mem_of_getElem? (i := 0) rfl))) (rx_cons (va_Nw.warmC hW (h _ (List.mem_of_getElem? (i := 1) rfl))) (rx_cons (va_Nw.warmD hW (h _ (List.mem_of_getElem? (i := 2) rfl))) (rx_cons (va_Nw.warmD hW (h _ (List.mem_of_getElem? (i := 3) rfl))) (rx_cons (va_Nw.warmD hW (h _ (List.mem_of_getElem? (i := 4) rfl))) rx_nil))))
theorem rx_X_w (Z : rx_Z) : ∀ (s U : State), s.WarmedH U.vm → rx_X Z s → rx_X Z U := by
  intro s U hW h
  obtain ⟨h1, ⟨h2, h3⟩, h4, h5, h6, h7, h8, h9, h10⟩ := h
  exact ⟨fun q hq => va_Nw.warmM hW (h1 q hq), ⟨h2.moved hW.alike, over_moved (a := #[]) hW.alike h3⟩, rx_CB_w hW h4, fun q hq => (h5 q hq).warm hW, h6.moved hW.alike, h7.moved hW.alike, h8.moved hW.alike, h9.moved hW.alike, h10.moved hW.alike⟩
theorem rx_getsZ {p : Program} {l : Launch} {e : Env} {R : Room} {s : State} {m : MethodId} {args : Array Value} {below : List Frame} {meth : Method} {c : Code} {H : Heap} {locs : List Loc} {cells slots : Nat} {Q : State → Prop} {cc : ByteArray} {own : String} {idx pc : Nat} {ls : Array Slot} {rest : List Value} {Z : rx_Z} {σ : rx_S} {C n dd : String} {v : Value} (hx : p.tables.exec = Jvm.exec) (hb : c.code = cc) (hown : s.vm.findClass own = some m.cls) (hl : (Cond.fieldLink own idx C n dd).before args s = true) (hZ : va_Z C n dd v (fun q => Z.2.1 ≤ q) s Z.2.2.1) (hH : rx_H Z s σ H) (hdg : decode cc pc = .ok (.getstatic idx, 3))
    (kk : W p l e R s m args below meth c H locs cells slots Q (F0 m (pc + 3) ls (v :: rest))) : W p l e R s m args below meth c H locs cells slots Q (F0 m pc ls rest) := by
  obtain ⟨cf, kf, fi, f, a, cell, h1, h2, h3, h4, h5, h6, h7, h8⟩ := hZ
  exact W.gets hx hb hown hl h1 h2 h3 h4 (by rw [hH.2.2.2 a (Nat.not_le.mp h8)]; exact h5) (fun e => by rw [e] at h6; cases h6) h7 rfl hdg kk
theorem rx_getfZ {p : Program} {l : Launch} {e : Env} {R : Room} {s : State} {m : MethodId} {args : Array Value} {below : List Frame} {meth : Method} {c : Code} {H : Heap} {locs : List Loc} {cells slots : Nat} {Q : State → Prop} {cc : ByteArray} {own : String} {idx pc b : Nat} {ls : Array Slot} {rest : List Value} {Z : rx_Z} {σ : rx_S} {C n dd : String} {v : Value} (hx : p.tables.exec = Jvm.exec) (hb : c.code = cc) (hown : s.vm.findClass own = some m.cls) (hl : (Cond.fieldLink own idx C n dd).before args s = true) (hZ : va_OF C n dd v b (fun q => Z.2.1 ≤ q) s Z.2.2.1) (hH : rx_H Z s σ H) (hdg : decode cc pc = .ok (.getfield idx, 3))
    (kk : W p l e R s m args below meth c H locs cells slots Q (F0 m (pc + 3) ls (v :: rest))) : W p l e R s m args below meth c H locs cells slots Q (F0 m pc ls (.ref b :: rest)) := by
  obtain ⟨cf, k, fi, f, cell, h1, h2, h3, h4, h5, h6⟩ := hZ
  exact W.getf hx hb hown hl h1 h2 (by rw [hH.2.2.2 b (Nat.not_le.mp h6)]; exact h3) h4 (v := v) h5 rfl rfl hdg kk
theorem rx_pairs (at_ : Nat) : ∀ (xs : List Value) (i : Nat) (c : Cell), (c.storePairs at_ (xs.zipIdx i)).cls = c.cls ∧ (c.storePairs at_ (xs.zipIdx i)).vm = c.vm ∧ (c.storePairs at_ (xs.zipIdx i)).slots.size = c.slots.size ∧ ∀ k, k < c.slots.size → (c.storePairs at_ (xs.zipIdx i)).slots[k]? = if at_ + i ≤ k ∧ k < at_ + i + xs.length then some (xs.getD (k - (at_ + i)) .null) else c.slots[k]?
  | [], i, c => ⟨rfl, rfl, rfl, fun k hk => by
    rw [if_neg (by simp only [List.length_nil]; omega)]
    rfl⟩
  | x :: xs, i, c => by
    rw [List.zipIdx_cons]
    obtain ⟨h1, h2, h3, h4⟩ := rx_pairs at_ xs (i + 1) (c.setSlot (at_ + i) x)
    have hz : (c.setSlot (at_ + i) x).slots.size = c.slots.size := by unfold Cell.setSlot; simp
    refine ⟨h1, h2, by rw [← hz]; exact h3, fun k hk => ?_⟩
    refine (h4 k (by rw [hz]; exact hk)).trans ?_
    by_cases hk9 : k = at_ + i
    · subst hk9
      rw [if_neg (by omega), if_pos (by simp only [List.length_cons]; omega)]
      unfold Cell.setSlot
      simp [hk]
    · by_cases h : at_ + (i + 1) ≤ k ∧ k < at_ + (i + 1) + xs.length
      · rw [if_pos h, if_pos (by simp only [List.length_cons]; omega)]
        have e : k - (at_ + i) = (k - (at_ + (i + 1))) + 1 := by omega
        rw [e, List.getD_cons_succ]
      · rw [if_neg h, if_neg (by simp only [List.length_cons]; omega)]
        unfold Cell.setSlot
        simp [Array.getElem?_setIfInBounds, Ne.symm hk9]
/-- copying ints -/
theorem rx_copy {p : Program} {l : Launch} {e : Env} {R : Room} {s : State} {m : MethodId} {args : Array Value} {below : List Frame} {meth : Method} {c : Code} {H : Heap} {locs : List Loc} {cells slots : Nat} {Q : State → Prop} {cc : ByteArray} {own : String} {idx pc a b n0 n1 : Nat} {ls : Array Slot} {rest : List Value} {Z : rx_Z} {σ : rx_S} {f g : Nat → Value} {sp dp n : Int32} (hx : p.tables.exec = Jvm.exec) (hb : c.code = cc) (hml : c.maxLocals = ls.size) (hown : s.vm.findClass own = some m.cls) (hlink : (Cond.methodLink own idx arraycopyName).before args s = true) (hnat : (Cond.native arraycopyName).before args s = true) (hstat : (Cond.static arraycopyName).before args s = true) (hini : (Cond.initialized "java/lang/System").before args s = true) (hH : rx_H Z s σ H) (ha : σ.1 a = some (.inl (0, n0, f))) (hbb : σ.1 b = some (.inl (0, n1, g))) (hbs : Z.2.1 ≤ b)
    (h1 : ¬ sp < 0) (h2 : ¬ dp < 0) (h3 : ¬ n < 0) (h4 : sp.toNatClampNeg + n.toNatClampNeg ≤ n0) (h5 : dp.toNatClampNeg + n.toNatClampNeg ≤ n1) (hfit : ∀ i, i < n.toNatClampNeg → fits .int (f (sp.toNatClampNeg + i)) = true) (hframes : 1 ≤ R.frames) (hlocals : (rest.map fun v => v.category).sum + (nativeFrameWords "java/lang/System" "arraycopy" 5 + 11) ≤ R.locals) (hdg : decode cc pc = .ok (.invokestatic idx, 3))
    (kk : ∀ (H' : Heap) (locs' : List Loc), rx_H Z s (rx_up σ.1 b (.inl (0, n1, va_cpy f g sp.toNatClampNeg dp.toNatClampNeg n.toNatClampNeg)), σ.2) H' → (∀ z ∈ locs', Z.2.1 ≤ z.base) → W p l e R s m args below meth c H' (locs ++ locs') cells slots Q (F0 m (pc + 3) ls rest)) : W p l e R s m args below meth c H locs cells slots Q (F0 m pc ls (.int n :: .int dp :: .ref b :: .int sp :: .ref a :: rest)) := by
  have nn : ∀ z : Int32, ¬ z < 0 → z.toInt = (z.toNatClampNeg : Int) := by
    intro z hz
    have hz0 : (0 : Int) ≤ z.toInt := by
      have := Int32.not_lt.mp hz
      simpa using Int32.le_iff_toInt_le.mp this
    show z.toInt = ((z.toInt.toNat : Nat) : Int)
    omega
  intro T hT X
  obtain ⟨-, a0⟩ := hH.2.2.1 a _ ha
  obtain ⟨hblt, b0⟩ := hH.2.2.1 b _ hbb
  have a0 : rx_arr s H a .int n0 f := a0
  have b0 : rx_arr s H b .int n1 g := b0
  obtain ⟨cs, c1, ⟨⟨c2, k0, hk0, cm0, hkk0⟩, -⟩, c3, ⟨c4, -⟩, c5⟩ := a0
  obtain ⟨cd, d1, ⟨⟨d2, k1, hk1, cm1, hkk1⟩, -⟩, d3, ⟨d4, d4'⟩, d5⟩ := b0
  obtain ⟨vm', X', step⟩ := X.arraycopy hx hown hlink hnat hstat hini (src := a) (dst := b) (cs := cs) (cd := cd) (srcPos := sp) (destPos := dp) (n := n) (by rw [hT]; exact c1) (by rw [hT]; exact d1)
    c2 d2 c3 d3 hk0 hk1 hkk0 hkk1 (by simp [refKind]) h1 h2 h3
    (by rw [nn sp h1, nn n h3]; omega)
    (by rw [nn dp h2, nn n h3]; omega)
    (fun vm₁ _ i hi => by
      have e : cs.slots.getD (sp.toNatClampNeg + i) .null = f (sp.toNatClampNeg + i) := by
        rw [Array.getD_eq_getD_getElem?, c5 _ (by omega)]
        rfl
      refine ⟨?_, ?_⟩
      · rw [e]
        exact hfit i hi
      · rw [e]
        have h9 := hfit i hi
        generalize f (sp.toNatClampNeg + i) = v9 at h9
        cases v9 <;> first | exact trivial | cases h9)
    (g := F0 m pc ls (.int n :: .int dp :: .ref b :: .int sp :: .ref a :: rest)) rfl (by rw [hml]) (rest := rest) rfl (by rw [hb]; exact hdg) hframes (by show 2 * 0 + _ + _ ≤ _; omega)
  have e0 : cs.stretch sp.toNatClampNeg n.toNatClampNeg = (List.range n.toNatClampNeg).map (fun i => f (sp.toNatClampNeg + i)) := by
    unfold Cell.stretch
    apply List.map_congr_left
    intro i hi
    have hi' := List.mem_range.mp hi
    rw [Array.getD_eq_getD_getElem?, c5 _ (by omega)]
    rfl
  have e1 : copied cs cd sp dp n = cd.storePairs dp.toNatClampNeg (((List.range n.toNatClampNeg).map (fun i => f (sp.toNatClampNeg + i))).zipIdx 0) := by
    rw [← e0]
    rfl
  obtain ⟨p1, p2, p3, p4⟩ := rx_pairs dp.toNatClampNeg ((List.range n.toNatClampNeg).map (fun i => f (sp.toNatClampNeg + i))) 0 cd
  rw [← e1] at p1 p2 p3 p4
  have hl : b < H.size := (Array.getElem?_eq_some_iff.mp d1).1
  have hheap : ((T.setVm vm').setCell b (copied cs cd sp dp n)).heap = H.setIfInBounds b (copied cs cd sp dp n) := by rw [← hT]; rfl
  have oq : ∀ q : Nat, q ≠ b → (H.setIfInBounds b (copied cs cd sp dp n))[q]? = H[q]? := fun q hq => by simp [Array.getElem?_setIfInBounds, Ne.symm hq]
  have hnew : rx_at Z s (H.setIfInBounds b (copied cs cd sp dp n)) b (.inl (0, n1, va_cpy f g sp.toNatClampNeg dp.toNatClampNeg n.toNatClampNeg)) := by
    refine ⟨copied cs cd sp dp n, by simp [Array.getElem?_setIfInBounds, hl], ⟨⟨by rw [p2]; exact d2, k1, by rw [p1]; exact hk1, cm1, hkk1⟩, trivial⟩, by rw [p2]; exact d3, ⟨by rw [p3]; exact d4, by rw [p3]; exact d4'⟩, fun j hj => ?_⟩
    rw [p4 j (by omega)]
    unfold va_cpy
    by_cases h : dp.toNatClampNeg ≤ j ∧ j < dp.toNatClampNeg + n.toNatClampNeg
    · rw [if_pos h, if_pos (by simp only [List.length_map, List.length_range, Nat.add_zero]; exact h), List.getD_eq_getElem?_getD, List.getElem?_map, List.getElem?_range (by omega)]
      rfl
    · rw [if_neg h, if_neg (by simp only [List.length_map, List.length_range, Nat.add_zero]; exact h)]
      exact d5 j hj
  obtain ⟨t, a1, b1⟩ := kk (H.setIfInBounds b (copied cs cd sp dp n)) _ (hH.set hbs hblt (by simp) oq hnew) (fun q hq => by
      obtain ⟨z, -, hz⟩ := List.mem_map.mp hq
      rw [← hz]
      exact hbs) _ hheap X'
  exact ⟨t, step t a1, b1⟩
theorem rx_SA_ok (l : Launch) (Z : rx_Z) : rx_SA l Z (rx_X Z) rx_SK := by
  intro p e R s m args below meth c H locs cells slots Q cc own q L S σ x ls hx hb hml hown hts hK hX hH hsk hln hdg hsp hR1 hR2 hc1 hc2 kk
  obtain ⟨pc, i, len, a1, a2, a3⟩ := q
  have k0 : rx_H Z s x.2.2.2 H → W p l e R s m args below meth c H locs cells slots Q (F0 m x.1 ls x.2.2.1) := fun h9 => by
    have := kk H [] h9 (fun z hz => by cases hz)
    rwa [List.append_nil] at this
  obtain ⟨x1, ⟨x2, x2'⟩, x3, x4, x5, x6, x7, x8, x9⟩ := id hX
  have mA : (Cond.native arraycopyName).before args s = true := hts _ (rx_mem 107 (by decide +kernel) (by decide +kernel))
  have mI : (Cond.initialized "java/lang/System").before args s = true := hts _ (rx_mem 6 (by decide +kernel) (by decide +kernel))
  have mM : (Cond.initialized "java/lang/Math").before args s = true := hts _ (rx_mem 18 (by decide +kernel) (by decide +kernel))
  cases i
  case getstatic idx =>
    have hln : len = 3 := hln
    subst hln
    cases hsp
    rcases hsk with ⟨h9, hl⟩ | ⟨h9, hl⟩ | ⟨h9, hl⟩
    · have h9 : a1 = 0 := h9
      subst h9
      exact rx_getsZ hx hb hown (hts _ hl) x5 hH hdg (k0 hH)
    · have h9 : a1 = 1 := h9
      subst h9
      exact rx_getsZ hx hb hown (hts _ hl) x6 hH hdg (k0 hH)
    · have h9 : a1 = 2 := h9
      subst h9
      exact rx_getsZ hx hb hown (hts _ hl) x7 hH hdg (k0 hH)
  case ldc idx =>
    have hln : len = 2 := hln
    subst hln
    cases hsp
    obtain ⟨tx, htx⟩ := hsk
    exact va_ldcS hx hb hown (x4 _ htx) hdg (k0 hH)
  case getfield idx =>
    have hln : len = 3 := hln
    subst hln
    unfold rx_spA at hsp
    dsimp only at hsp
    split at hsp
    · rename_i b r
      split at hsp
      · rename_i t v f9 hcell
        split at hsp
        · rename_i ht
          subst ht
          obtain ⟨-, hat⟩ := hH.2.2.1 b _ hcell
          have hat : rx_str Z s b v := hat
          obtain ⟨hlt, -, hco, hva⟩ := hat
          rcases hsk with ⟨h9, hl⟩ | ⟨h9, hl⟩
          · have h9 : a1 = 60 := h9
            subst h9
            cases hsp
            exact rx_getfZ hx hb hown (hts _ hl) hva hH hdg (k0 hH)
          · have h9 : a1 = 61 := h9
            subst h9
            cases hsp
            exact rx_getfZ hx hb hown (hts _ hl) hco hH hdg (k0 hH)
        · cases hsp
      · cases hsp
    · cases hsp
  case invokestatic idx =>
    have hln : len = 3 := hln
    subst hln
    unfold rx_spA at hsp
    dsimp only at hsp
    rcases hsk with ⟨h9, hl⟩ | ⟨h9, hl⟩ | ⟨h9, hl⟩ | ⟨h9, hl⟩
    · have h9 : a1 = 6 := h9
      subst h9
      rw [if_neg (by decide), if_neg (by decide), if_neg (by decide)] at hsp
      split at hsp
      · split at hsp
        · split at hsp
          · rename_i n dp b sp a r _ _ t0 n0 f t1 n1 g ha hbb hq
            obtain ⟨rfl, rfl, hbs, q1, q2, q3, q4, q5, q6, q7⟩ := hq
            cases hsp
            have hfw : nativeFrameWords "java/lang/System" "arraycopy" 5 ≤ 100 := by decide +kernel
            exact rx_copy hx hb hml hown (hts _ hl) mA (hts _ (rx_mem 106 (by decide +kernel) (by decide +kernel))) mI hH ha hbb hbs q1 q2 q3 q4 q5 q7 (by omega) (by omega) hdg (fun H' locs' h1 h2 => kk H' locs' h1 h2)
          · cases hsp
        · cases hsp
      · cases hsp
    · have h9 : a1 = 10 := h9
      subst h9
      rw [if_pos rfl] at hsp
      split at hsp
      · split at hsp
        · rename_i y9 x9 r hq
          cases hsp
          exact va_mmax hx hb hml hown (hts _ hl) (hts _ (rx_mem2 210 (by rfl) (by decide +kernel))) mM (hts _ (rx_mem2 211 (by rfl) (by decide +kernel))) (by omega) (by omega) hc1 hc2 hdg (k0 hH)
        · cases hsp
      · cases hsp
    · have h9 : a1 = 11 := h9
      subst h9
      rw [if_neg (by decide), if_pos rfl] at hsp
      split at hsp
      · split at hsp
        · rename_i y9 x9 r hq
          cases hsp
          exact va_mmin hx hb hml hown (hts _ hl) (hts _ (rx_mem3 92 (by rfl) (by decide +kernel))) mM (hts _ (rx_mem3 93 (by rfl) (by decide +kernel))) (by omega) (by omega) hc1 hc2 hdg (k0 hH)
        · cases hsp
      · cases hsp
    · have h9 : a1 = 12 := h9
      subst h9
      rw [if_neg (by decide), if_neg (by decide), if_pos rfl] at hsp
      split at hsp
      · split at hsp
        · rename_i x9 r hq
          cases hsp
          exact va_mabs hx hb hml hown (hts _ hl) (hts _ (rx_mem2 186 (by rfl) (by decide +kernel))) mM (hts _ (rx_mem2 187 (by rfl) (by decide +kernel))) (by omega) (by omega) hc1 hc2 hdg (k0 hH)
        · cases hsp
      · cases hsp
  case invokespecial idx =>
    have hln : len = 3 := hln
    subst hln
    unfold rx_spA at hsp
    dsimp only at hsp
    split at hsp
    · split at hsp
      · rename_i b r hq
        cases hsp
        refine W.objInit hx hb hown (hts _ hsk.2) (hts _ (rx_mem 34 (by decide +kernel) (by decide +kernel))) (hts _ (rx_mem1 35 (by rfl) (by decide +kernel))) rfl (by rw [hml]) rfl hdg (by omega) ?_ (k0 hH)
        show 2 * 0 + _ + 12 ≤ _
        omega
      · cases hsp
    · cases hsp
  case new idx => cases hsp
  all_goals exact absurd hsk (fun q => by cases q)
/-- throwing -/
theorem rx_fitn : ∀ n ∈ rx_nms, Bundle.fit n = true := by decide +kernel
theorem rx_fitx (k : Nat) : Bundle.fit (rx_xn k) = true := by
  unfold rx_xn
  split <;> decide +kernel
theorem rx_ST_ok (l : Launch) (hl : l.stackTraces = false) (Z : rx_Z) (hbs : Z.2.1 = Z.2.2.1.size) : rx_ST l Z (rx_X Z) rx_SK := by
  intro p e R s m args below meth c H locs cells slots mc ms cc own pc idx len a1 a2 σ ls Qc hx hb hml hown hts hK hX hH hsk hdg hsz hold hR1 hR2 hR3 hR4 hxt hlk hlocs hmc hms
  obtain ⟨x1, ⟨x2, x2'⟩, x3, x4, x5, x6, x7, x8, x9⟩ := id hX
  obtain ⟨t1, t2, t3, t4, t5, t6, t7, t8⟩ := (show rx_thr own cc pc idx a1 a2 from hsk)
  have hCB : ∀ w ∈ rx_CB, w.before args s = true := by
    intro w hw
    have hn := x3 w hw
    exact va_Nw.use ((show ∀ w ∈ rx_CB, w.onTables = true by decide +kernel) w hw) hn
  have hk9 : ∀ a : Nat, a < Z.2.2.1.size → ¬ Z.2.1 ≤ a → s.heap[a]? = Z.2.2.1[a]? := fun a _ h2 => hold a (Nat.not_le.mp h2)
  refine vx_throw0 (names := rx_nms) (A := fun q => Z.2.1 ≤ q) hx hb hl hown (rx_fitx a1) rx_fitn (hts _ t1) (hts _ t2) (vx_hat (fun w hw => hts _ (t6 w hw)) t7 hCB) t8 (x8.kept hk9) (x9.kept hk9) ⟨hsz, fun q h1 h2 => ?_, hlocs⟩ hml.symm hdg t3 t4 t5 (fun x hx9 => (hxt x hx9).elim) ?_ ?_ hR3 hR4 hlk (fun t hal h1 h2 => ?_) hlocs hmc hms
  · rw [hold q (Nat.not_le.mp h2)]
    exact hH.2.2.2 q (Nat.not_le.mp h2)
  · show 2 + 3 < _
    omega
  · show 0 + (13 * (2 + 1) + 42) ≤ _
    omega
  · refine ⟨rfl, t.heap.size, by show σ.2.1 ≤ _; rw [← hH.1]; exact h1, rfl, ?_, fun a x hx9 => ?_, fun q hq => ?_⟩
    · exact Nat.le_trans hH.2.1 (by rw [← hH.1]; exact h1)
    · have := hH.2.2.1 a x hx9
      have hlt : a < H.size := by rw [hH.1]; exact this.1
      exact ⟨Nat.lt_of_lt_of_le hlt h1, (this.2.kept (h2 a hlt)).moved hal⟩
    · have hlt : q < H.size := by rw [hH.1]; exact Nat.lt_of_lt_of_le hq hH.2.1
      rw [h2 q hlt]
      exact hH.2.2.2 q hq
