/-! THE HEAP, taken apart: which cells there are and how they hang together (h), and the ints that they hold (ι) -/
def rz_iv (i : Int32) (v : Value) : Value := match v with
  | .int _ => .int i
  | v => v
def rz_fill (f : Nat → Int32) (e : rx_E) : rx_E := match e with
  | .inl (t, n, g) => .inl (t, n, if t = 0 then fun i => .int (f i) else g)
  | .inr (c, fs) => .inr (c, fs.mapIdx fun k v => rz_iv (f k) v)
def rz_mk (h : Nat → Option rx_E) (ι : Nat → Nat → Int32) : Nat → Option rx_E := fun a => (h a).map (rz_fill (ι a))
def rz_u (f : Nat → Int32) (k : Nat) (v : Int32) : Nat → Int32 := fun j => if j = k then v else f j
def rz_up (ι : Nat → Nat → Int32) (a k : Nat) (v : Int32) : Nat → Nat → Int32 := fun b => if b = a then rz_u (ι a) k v else ι b
/-- the cell is all zero -/
def rz_z (ι : Nat → Nat → Int32) (a : Nat) : Nat → Nat → Int32 := fun b => if b = a then fun _ => 0 else ι b
def rz_zs (ι : Nat → Nat → Int32) (a n : Nat) : Nat → Nat → Int32 := fun b => if a ≤ b ∧ b < a + 1 + n then fun _ => 0 else ι b
def rz_cp (ι : Nat → Nat → Int32) (a b sp dp n : Nat) : Nat → Nat → Int32 := fun q => if q = b then va_cpy (ι a) (ι b) sp dp n else ι q
theorem rz_u_s (f : Nat → Int32) (k : Nat) (v : Int32) : rz_u f k v k = v := if_pos rfl
theorem rz_u_n {f : Nat → Int32} {k j : Nat} {v : Int32} (h : j ≠ k) : rz_u f k v j = f j := if_neg h
theorem rz_up_s (ι : Nat → Nat → Int32) (a k : Nat) (v : Int32) : rz_up ι a k v a = rz_u (ι a) k v := if_pos rfl
theorem rz_up_n {ι : Nat → Nat → Int32} {a b k : Nat} {v : Int32} (h : b ≠ a) : rz_up ι a k v b = ι b := if_neg h
theorem rz_z_s (ι : Nat → Nat → Int32) (a : Nat) : rz_z ι a a = fun _ => 0 := if_pos rfl
theorem rz_z_n {ι : Nat → Nat → Int32} {a b : Nat} (h : b ≠ a) : rz_z ι a b = ι b := if_neg h
theorem rz_cp_s (ι : Nat → Nat → Int32) (a b sp dp n : Nat) : rz_cp ι a b sp dp n b = va_cpy (ι a) (ι b) sp dp n := if_pos rfl
theorem rz_cp_n {ι : Nat → Nat → Int32} {a b c sp dp n : Nat} (h : c ≠ b) : rz_cp ι a b sp dp n c = ι c := if_neg h
-- what the cells are
def rz_isr (v : Value) : Bool := match v with
  | .ref _ => true
  | .null => true
  | _ => false
def rz_fI (h : Nat → Option rx_E) (a ci k : Nat) : Prop := ∃ fs z, h a = some (.inr (ci, fs)) ∧ fs[k]? = some (.int z)
def rz_fR (h : Nat → Option rx_E) (a ci k : Nat) : Prop := ∃ fs v, h a = some (.inr (ci, fs)) ∧ fs[k]? = some v ∧ rz_isr v = true
def rz_rv (h : Nat → Option rx_E) (a k : Nat) : Value := match h a with
  | some (.inr (_, fs)) => fs.getD k .null
  | _ => .null
def rz_oc (h : Nat → Option rx_E) (a c : Nat) : Prop := ∃ fs, h a = some (.inr (c, fs))
def rz_ar (h : Nat → Option rx_E) (a t : Nat) : Prop := ∃ n f, h a = some (.inl (t, n, f))
def rz_ln (h : Nat → Option rx_E) (a : Nat) : Nat := match h a with
  | some (.inl (_, n, _)) => n
  | _ => 0
def rz_el (h : Nat → Option rx_E) (a i : Nat) : Value := match h a with
  | some (.inl (_, _, f)) => f i
  | _ => .null
def rz_ix (i : Int32) (n : Nat) : Prop := ¬ i < 0 ∧ i.toNatClampNeg < n
/-- a reference field is set -/
def rz_hs (h : Nat → Option rx_E) (a k : Nat) (v : Value) : Nat → Option rx_E := match h a with
  | some (.inr (c, fs)) => rx_up h a (.inr (c, fs.set k v))
  | _ => h
/-- an element of a row of references, or of longs, is set -/
def rz_he (h : Nat → Option rx_E) (a i : Nat) (v : Value) : Nat → Option rx_E := match h a with
  | some (.inl (t, n, f)) => rx_up h a (.inl (t, n, va_up f i v))
  | _ => h
theorem rz_mk_obj {h : Nat → Option rx_E} {ι : Nat → Nat → Int32} {a c : Nat} {fs : List Value} (e : h a = some (.inr (c, fs))) : rz_mk h ι a = some (.inr (c, fs.mapIdx fun k v => rz_iv (ι a k) v)) := by
  unfold rz_mk; rw [e]; rfl
theorem rz_mk_arr {h : Nat → Option rx_E} {ι : Nat → Nat → Int32} {a t n : Nat} {f : Nat → Value} (e : h a = some (.inl (t, n, f))) : rz_mk h ι a = some (.inl (t, n, if t = 0 then fun i => .int (ι a i) else f)) := by
  unfold rz_mk; rw [e]; rfl
theorem rz_mk_ne {h : Nat → Option rx_E} {ι ι' : Nat → Nat → Int32} {h' : Nat → Option rx_E} {b : Nat} (e1 : h' b = h b) (e2 : ι' b = ι b) : rz_mk h' ι' b = rz_mk h ι b := by
  unfold rz_mk; rw [e1, e2]
theorem rz_mk_putI {h : Nat → Option rx_E} {ι : Nat → Nat → Int32} {a c k : Nat} {fs : List Value} {z v : Int32} (e : h a = some (.inr (c, fs))) (hk : fs[k]? = some (.int z)) : rx_up (rz_mk h ι) a (.inr (c, (fs.mapIdx fun k v => rz_iv (ι a k) v).set k (.int v))) = rz_mk h (rz_up ι a k v) := by
  funext b
  by_cases hb : b = a
  · subst hb
    rw [rx_up_self, rz_mk_obj e, rz_up_s]
    congr 3
    apply List.ext_getElem?
    intro j
    rw [List.getElem?_set, List.getElem?_mapIdx, List.getElem?_mapIdx]
    by_cases hj : k = j
    · subst hj
      have hl := (List.getElem?_eq_some_iff.mp hk).1
      rw [hk]
      simp [hl, rz_iv, rz_u_s]
    · simp [hj, rz_u_n (Ne.symm hj)]
  · rw [rx_up_ne _ _ hb]
    exact (rz_mk_ne rfl (rz_up_n hb)).symm
theorem rz_mk_putR {h : Nat → Option rx_E} {ι : Nat → Nat → Int32} {a c k : Nat} {fs : List Value} {v : Value} (e : h a = some (.inr (c, fs))) (hv : rz_isr v = true) : rx_up (rz_mk h ι) a (.inr (c, (fs.mapIdx fun k v => rz_iv (ι a k) v).set k v)) = rz_mk (rz_hs h a k v) ι := by
  funext b
  have e2 : rz_hs h a k v = rx_up h a (.inr (c, fs.set k v)) := by unfold rz_hs; rw [e]
  by_cases hb : b = a
  · subst hb
    rw [rx_up_self, rz_mk_obj (c := c) (fs := fs.set k v) (by rw [e2, rx_up_self])]
    congr 3
    apply List.ext_getElem?
    intro j
    rw [List.getElem?_set, List.getElem?_mapIdx, List.getElem?_mapIdx, List.getElem?_set]
    by_cases hj : k = j
    · subst hj
      by_cases hl : k < fs.length
      · simp only [if_true, List.length_mapIdx, hl, Option.map_some]
        cases v <;> first | rfl | cases hv
      · simp [hl]
    · simp [hj]
  · rw [rx_up_ne _ _ hb]
    exact (rz_mk_ne (by rw [e2, rx_up_ne _ _ hb]) rfl).symm
theorem rz_mk_astI {h : Nat → Option rx_E} {ι : Nat → Nat → Int32} {a n i : Nat} {f : Nat → Value} {v : Int32} (e : h a = some (.inl (0, n, f))) : rx_up (rz_mk h ι) a (.inl (0, n, va_up (fun i => .int (ι a i)) i (.int v))) = rz_mk h (rz_up ι a i v) := by
  funext b
  by_cases hb : b = a
  · subst hb
    rw [rx_up_self, rz_mk_arr e, rz_up_s, if_pos rfl]
    congr 4
    funext j
    unfold va_up rz_u
    split <;> rfl
  · rw [rx_up_ne _ _ hb]
    exact (rz_mk_ne rfl (rz_up_n hb)).symm
theorem rz_mk_astR {h : Nat → Option rx_E} {ι : Nat → Nat → Int32} {a t n i : Nat} {f : Nat → Value} {v : Value} (e : h a = some (.inl (t, n, f))) (ht : t ≠ 0) : rx_up (rz_mk h ι) a (.inl (t, n, va_up f i v)) = rz_mk (rz_he h a i v) ι := by
  funext b
  have e2 : rz_he h a i v = rx_up h a (.inl (t, n, va_up f i v)) := by unfold rz_he; rw [e]
  by_cases hb : b = a
  · subst hb
    rw [rx_up_self, rz_mk_arr (t := t) (n := n) (f := va_up f i v) (by rw [e2, rx_up_self]), if_neg ht]
  · rw [rx_up_ne _ _ hb]
    exact (rz_mk_ne (by rw [e2, rx_up_ne _ _ hb]) rfl).symm
theorem rz_mk_new {h : Nat → Option rx_E} {ι : Nat → Nat → Int32} {a : Nat} {e : rx_E} (he : rz_fill (fun _ => 0) e = e) : rx_up (rz_mk h ι) a e = rz_mk (rx_up h a e) (rz_z ι a) := by
  funext b
  by_cases hb : b = a
  · subst hb
    rw [rx_up_self]
    unfold rz_mk
    rw [rx_up_self, rz_z_s, Option.map_some, he]
  · rw [rx_up_ne _ _ hb]
    exact (rz_mk_ne (rx_up_ne _ _ hb) (rz_z_n hb)).symm
theorem rz_mk_mna {h : Nat → Option rx_E} {ι : Nat → Nat → Int32} {a n k : Nat} : rx_mnh (rz_mk h ι) a n k = rz_mk (rx_mnh h a n k) (rz_zs ι a n) := by
  funext b
  unfold rx_mnh rz_mk rz_zs
  dsimp only
  by_cases h1 : b = a
  · subst h1
    simp [rz_fill]
  · by_cases h2 : a < b ∧ b < a + 1 + n
    · rw [if_neg h1, if_pos h2, if_neg h1, if_pos h2, if_pos ⟨by omega, h2.2⟩]
      simp [rz_fill]
    · rw [if_neg h1, if_neg h2, if_neg h1, if_neg h2, if_neg (by omega)]
theorem rz_mk_cp {h : Nat → Option rx_E} {ι : Nat → Nat → Int32} {a b n1 sp dp n : Nat} {g : Nat → Value} (e : h b = some (.inl (0, n1, g))) : rx_up (rz_mk h ι) b (.inl (0, n1, va_cpy (fun i => .int (ι a i)) (fun i => .int (ι b i)) sp dp n)) = rz_mk h (rz_cp ι a b sp dp n) := by
  funext q
  by_cases hb : q = b
  · subst hb
    rw [rx_up_self, rz_mk_arr e, rz_cp_s, if_pos rfl]
    congr 4
    funext j
    unfold va_cpy
    split <;> rfl
  · rw [rx_up_ne _ _ hb]
    exact (rz_mk_ne rfl (rz_cp_n hb)).symm
-- THE STEPS
section RZS
variable {Z : rx_Z} {d : Nat} {row : rx_M} {pc : Nat} {L : rx_L} {S : List Value} {σ : rx_S} {h : Nat → Option rx_E} {ι : Nat → Nat → Int32} {w : Nat × Nat} {a b ci k j x1 x2 x3 mi n : Nat} {x y i : Int32} {u v : Value}
theorem rz_gI (hf : rx_fetch row.2.2.2.2.2 pc = some (pc, .getfield j, 3, ci, k, x3)) (hci : ci < 50) (hc : rz_fI h a ci k) : rg Z d row pc L (.ref a :: S) (rz_mk h ι, w) = rg Z d row (pc + 3) L (.int (ι a k) :: S) (rz_mk h ι, w) := by
  obtain ⟨fs, z, h1, h2⟩ := hc
  refine rz_s1 (fun c => ?_)
  unfold rx_at1; rw [hf]
  show (if ci < 50 then rx_lf 3 3 (rx_getf ci k (pc + 3) L (.ref a :: S) (rz_mk h ι, w)) else _) = _
  rw [if_pos hci]
  simp [rx_lf, rx_getf, rz_mk_obj h1, h2, rz_iv]
theorem rz_gR (hf : rx_fetch row.2.2.2.2.2 pc = some (pc, .getfield j, 3, ci, k, x3)) (hci : ci < 50) (hc : rz_fR h a ci k) : rg Z d row pc L (.ref a :: S) (rz_mk h ι, w) = rg Z d row (pc + 3) L (rz_rv h a k :: S) (rz_mk h ι, w) := by
  obtain ⟨fs, v, h1, h2, h3⟩ := hc
  refine rz_s1 (fun c => ?_)
  unfold rx_at1; rw [hf]
  show (if ci < 50 then rx_lf 3 3 (rx_getf ci k (pc + 3) L (.ref a :: S) (rz_mk h ι, w)) else _) = _
  rw [if_pos hci]
  have h4 : rz_rv h a k = v := by unfold rz_rv; rw [h1]; simp [List.getD, h2]
  have h5 : rz_iv (ι a k) v = v := by cases v <;> first | rfl | cases h3
  simp [rx_lf, rx_getf, rz_mk_obj h1, h2, h4, h5]
theorem rz_pI (hf : rx_fetch row.2.2.2.2.2 pc = some (pc, .putfield j, 3, ci, k, 0)) (hc : rz_fI h a ci k) (hz : Z.2.1 ≤ a) : rg Z d row pc L (.int x :: .ref a :: S) (rz_mk h ι, w) = rg Z d row (pc + 3) L S (rz_mk h (rz_up ι a k x), w) := by
  obtain ⟨fs, z, h1, h2⟩ := hc
  refine rz_s1 (fun c => ?_)
  unfold rx_at1; rw [hf]
  have hl := (List.getElem?_eq_some_iff.mp h2).1
  show rx_lf 3 3 (rx_putf Z ci k 0 (pc + 3) L (.int x :: .ref a :: S) (rz_mk h ι, w)) = _
  simp [rx_lf, rx_putf, rz_mk_obj h1, hz, rx_fit, hl, rz_mk_putI h1 h2]
theorem rz_pR (hf : rx_fetch row.2.2.2.2.2 pc = some (pc, .putfield j, 3, ci, k, 1)) (hc : rz_fR h a ci k) (hv : rz_isr v = true) (hz : Z.2.1 ≤ a) : rg Z d row pc L (v :: .ref a :: S) (rz_mk h ι, w) = rg Z d row (pc + 3) L S (rz_mk (rz_hs h a k v) ι, w) := by
  obtain ⟨fs, v0, h1, h2, h3⟩ := hc
  refine rz_s1 (fun c => ?_)
  unfold rx_at1; rw [hf]
  have hl := (List.getElem?_eq_some_iff.mp h2).1
  have hft : rx_fit 1 v = true := by cases v <;> first | rfl | cases hv
  show rx_lf 3 3 (rx_putf Z ci k 1 (pc + 3) L (v :: .ref a :: S) (rz_mk h ι, w)) = _
  simp [rx_lf, rx_putf, rz_mk_obj h1, hz, hft, hl, rz_mk_putR h1 hv]
theorem rz_iald (hf : rx_fetch row.2.2.2.2.2 pc = some (pc, .iaload, 1, x1, x2, x3)) (hc : rz_ar h a 0) (hi : rz_ix i (rz_ln h a)) : rg Z d row pc L (.int i :: .ref a :: S) (rz_mk h ι, w) = rg Z d row (pc + 1) L (.int (ι a i.toNatClampNeg) :: S) (rz_mk h ι, w) := by
  obtain ⟨n, f, h1⟩ := hc
  have hn : rz_ln h a = n := by unfold rz_ln; rw [h1]
  rw [hn] at hi
  refine rz_s1 (fun c => ?_)
  unfold rx_at1; rw [hf]
  show rx_lf 1 1 (rx_aget 0 (pc + 1) L (.int i :: .ref a :: S) (rz_mk h ι, w)) = _
  simp [rx_lf, rx_aget, rz_mk_arr h1, hi.1, hi.2]
theorem rz_iast (hf : rx_fetch row.2.2.2.2.2 pc = some (pc, .iastore, 1, x1, x2, x3)) (hc : rz_ar h a 0) (hi : rz_ix i (rz_ln h a)) (hz : Z.2.1 ≤ a) : rg Z d row pc L (.int x :: .int i :: .ref a :: S) (rz_mk h ι, w) = rg Z d row (pc + 1) L S (rz_mk h (rz_up ι a i.toNatClampNeg x), w) := by
  obtain ⟨n, f, h1⟩ := hc
  have hn : rz_ln h a = n := by unfold rz_ln; rw [h1]
  rw [hn] at hi
  refine rz_s1 (fun c => ?_)
  unfold rx_at1; rw [hf]
  show rx_lf 1 1 (rx_aset Z 0 (pc + 1) L (.int x :: .int i :: .ref a :: S) (rz_mk h ι, w)) = _
  simp [rx_lf, rx_aset, rz_mk_arr h1, hi.1, hi.2, hz, rx_vt, rz_mk_astI h1]
theorem rz_aald {t : Nat} (ht : (x1 = 2 ∧ t = 2) ∨ (x1 ≠ 2 ∧ t = 3)) (hf : rx_fetch row.2.2.2.2.2 pc = some (pc, .aaload, 1, x1, x2, x3)) (hc : rz_ar h a t) (hi : rz_ix i (rz_ln h a)) : rg Z d row pc L (.int i :: .ref a :: S) (rz_mk h ι, w) = rg Z d row (pc + 1) L (rz_el h a i.toNatClampNeg :: S) (rz_mk h ι, w) := by
  obtain ⟨n, f, h1⟩ := hc
  have hn : rz_ln h a = n := by unfold rz_ln; rw [h1]
  rw [hn] at hi
  have he : rz_el h a i.toNatClampNeg = f i.toNatClampNeg := by unfold rz_el; rw [h1]
  refine rz_s1 (fun c => ?_)
  unfold rx_at1; rw [hf]
  show (if x1 = 2 then rx_lf 1 1 (rx_aget 2 (pc + 1) L (.int i :: .ref a :: S) (rz_mk h ι, w)) else rx_lf 1 1 (rx_aget 3 (pc + 1) L (.int i :: .ref a :: S) (rz_mk h ι, w))) = _
  rcases ht with ⟨e1, rfl⟩ | ⟨e1, rfl⟩
  · simp [e1, rx_lf, rx_aget, rz_mk_arr h1, hi.1, hi.2, he]
  · simp [e1, rx_lf, rx_aget, rz_mk_arr h1, hi.1, hi.2, he]
theorem rz_aast (hf : rx_fetch row.2.2.2.2.2 pc = some (pc, .aastore, 1, ci, x2, x3)) (hc : rz_ar h a 2) (hb : rz_oc h b ci) (hi : rz_ix i (rz_ln h a)) (hz : Z.2.1 ≤ a) : rg Z d row pc L (.ref b :: .int i :: .ref a :: S) (rz_mk h ι, w) = rg Z d row (pc + 1) L S (rz_mk (rz_he h a i.toNatClampNeg (.ref b)) ι, w) := by
  obtain ⟨n, f, h1⟩ := hc
  obtain ⟨fs, h2⟩ := hb
  have hn : rz_ln h a = n := by unfold rz_ln; rw [h1]
  rw [hn] at hi
  refine rz_s1 (fun c => ?_)
  unfold rx_at1; rw [hf]
  show rx_lf 1 1 (rx_asetq Z ci (pc + 1) L (.ref b :: .int i :: .ref a :: S) (rz_mk h ι, w)) = _
  simp [rx_lf, rx_asetq, rz_mk_arr h1, rz_mk_obj h2, hi.1, hi.2, hz, rz_mk_astR h1]
theorem rz_aastN (hf : rx_fetch row.2.2.2.2.2 pc = some (pc, .aastore, 1, ci, x2, x3)) (hc : rz_ar h a 2) (hi : rz_ix i (rz_ln h a)) (hz : Z.2.1 ≤ a) : rg Z d row pc L (.null :: .int i :: .ref a :: S) (rz_mk h ι, w) = rg Z d row (pc + 1) L S (rz_mk (rz_he h a i.toNatClampNeg .null) ι, w) := by
  obtain ⟨n, f, h1⟩ := hc
  have hn : rz_ln h a = n := by unfold rz_ln; rw [h1]
  rw [hn] at hi
  refine rz_s1 (fun c => ?_)
  unfold rx_at1; rw [hf]
  show rx_lf 1 1 (rx_asetq Z ci (pc + 1) L (.null :: .int i :: .ref a :: S) (rz_mk h ι, w)) = _
  simp [rx_lf, rx_asetq, rz_mk_arr h1, hi.1, hi.2, hz, rz_mk_astR h1]
theorem rz_alen {t : Nat} (ht : t ≠ 9) (hf : rx_fetch row.2.2.2.2.2 pc = some (pc, .arraylength, 1, x1, x2, x3)) (hc : rz_ar h a t) : rg Z d row pc L (.ref a :: S) (rz_mk h ι, w) = rg Z d row (pc + 1) L (.int (Int32.ofNat (rz_ln h a)) :: S) (rz_mk h ι, w) := by
  obtain ⟨n, f, h1⟩ := hc
  have hn : rz_ln h a = n := by unfold rz_ln; rw [h1]
  refine rz_s1 (fun c => ?_)
  unfold rx_at1; rw [hf]
  show rx_lf 1 1 (rx_alen (pc + 1) L (.ref a :: S) (rz_mk h ι, w)) = _
  simp [rx_lf, rx_alen, rz_mk_arr h1, hn, ht]
theorem rz_lald {f : Nat → Int64} (hf : rx_fetch row.2.2.2.2.2 pc = some (pc, .laload, 1, x1, x2, x3)) (hc : h a = some (.inl (1, n, fun i => .long (f i)))) (hi : rz_ix i n) : rg Z d row pc L (.int i :: .ref a :: S) (rz_mk h ι, w) = rg Z d row (pc + 1) L (.long (f i.toNatClampNeg) :: S) (rz_mk h ι, w) := by
  refine rz_s1 (fun c => ?_)
  unfold rx_at1; rw [hf]
  show rx_lf 1 1 (rx_aget 1 (pc + 1) L (.int i :: .ref a :: S) (rz_mk h ι, w)) = _
  simp [rx_lf, rx_aget, rz_mk_arr hc, hi.1, hi.2]
theorem rz_last {f : Nat → Value} {q : Int64} (hf : rx_fetch row.2.2.2.2.2 pc = some (pc, .lastore, 1, x1, x2, x3)) (hc : h a = some (.inl (1, n, f))) (hi : rz_ix i n) (hz : Z.2.1 ≤ a) : rg Z d row pc L (.long q :: .int i :: .ref a :: S) (rz_mk h ι, w) = rg Z d row (pc + 1) L S (rz_mk (rz_he h a i.toNatClampNeg (.long q)) ι, w) := by
  refine rz_s1 (fun c => ?_)
  unfold rx_at1; rw [hf]
  show rx_lf 1 1 (rx_aset Z 1 (pc + 1) L (.long q :: .int i :: .ref a :: S) (rz_mk h ι, w)) = _
  simp [rx_lf, rx_aset, rz_mk_arr hc, hi.1, hi.2, hz, rx_vt, rz_mk_astR hc]
theorem rz_bald (hf : rx_fetch row.2.2.2.2.2 pc = some (pc, .baload, 1, x1, x2, x3)) (hc : rz_ar h a 8) (hi : rz_ix i (rz_ln h a)) : rg Z d row pc L (.int i :: .ref a :: S) (rz_mk h ι, w) = rg Z d row (pc + 1) L (rz_el h a i.toNatClampNeg :: S) (rz_mk h ι, w) := by
  obtain ⟨n, f, h1⟩ := hc
  have hn : rz_ln h a = n := by unfold rz_ln; rw [h1]
  rw [hn] at hi
  have he : rz_el h a i.toNatClampNeg = f i.toNatClampNeg := by unfold rz_el; rw [h1]
  refine rz_s1 (fun c => ?_)
  unfold rx_at1; rw [hf]
  show rx_lf 1 1 (rx_aget 8 (pc + 1) L (.int i :: .ref a :: S) (rz_mk h ι, w)) = _
  simp [rx_lf, rx_aget, rz_mk_arr h1, hi.1, hi.2, he]
theorem rz_nw (hf : rx_fetch row.2.2.2.2.2 pc = some (pc, .new j, 3, ci, n, 0)) (he : rz_fill (fun _ => 0) (.inr (ci, rx_df ci)) = .inr (ci, rx_df ci)) : rg Z d row pc L S (rz_mk h ι, w) = rg Z d row (pc + 3) L (.ref w.1 :: S) (rz_mk (rx_up h w.1 (.inr (ci, rx_df ci))) (rz_z ι w.1), w.1 + 1, w.2 + n) := by
  refine rz_s1 (fun c => ?_)
  unfold rx_at1; rw [hf]
  show rx_lf 3 3 (rx_new ci n (rx_df ci) (pc + 3) L S (rz_mk h ι, w)) = _
  simp only [rx_lf, if_true, rx_new, Option.map_some, rz_mk_new he]
theorem rz_nwx {E : Nat} (hf : rx_fetch row.2.2.2.2.2 pc = some (pc, .new j, 3, E, x2, 1)) : rg Z d row pc L [] σ = some (.inr (rx_xn E), σ) := by
  refine rz_r1 (fun c => ?_)
  unfold rx_at1; rw [hf]
  rfl
theorem rz_nwa (hf : rx_fetch row.2.2.2.2.2 pc = some (pc, .newarray .int, 2, x1, x2, x3)) (hx : ¬ x < 0) (hn : x.toNatClampNeg ≤ 65536) : rg Z d row pc L (.int x :: S) (rz_mk h ι, w) = rg Z d row (pc + 2) L (.ref w.1 :: S) (rz_mk (rx_up h w.1 (.inl (0, x.toNatClampNeg, fun _ => .int 0))) (rz_z ι w.1), w.1 + 1, w.2 + x.toNatClampNeg) := by
  refine rz_s1 (fun c => ?_)
  unfold rx_at1; rw [hf]
  show rx_lf 2 2 (rx_newa 0 (pc + 2) L (.int x :: S) (rz_mk h ι, w)) = _
  rw [← rz_mk_new (e := .inl (0, x.toNatClampNeg, fun _ => .int 0)) rfl]
  simp [rx_lf, rx_newa, hx, hn, rx_dv]
theorem rz_nwl (hf : rx_fetch row.2.2.2.2.2 pc = some (pc, .newarray .long, 2, x1, x2, x3)) (hx : ¬ x < 0) (hn : x.toNatClampNeg ≤ 65536) : rg Z d row pc L (.int x :: S) (rz_mk h ι, w) = rg Z d row (pc + 2) L (.ref w.1 :: S) (rz_mk (rx_up h w.1 (.inl (1, x.toNatClampNeg, fun _ => .long 0))) (rz_z ι w.1), w.1 + 1, w.2 + x.toNatClampNeg) := by
  refine rz_s1 (fun c => ?_)
  unfold rx_at1; rw [hf]
  show rx_lf 2 2 (rx_newa 1 (pc + 2) L (.int x :: S) (rz_mk h ι, w)) = _
  rw [← rz_mk_new (e := .inl (1, x.toNatClampNeg, fun _ => .long 0)) rfl]
  simp [rx_lf, rx_newa, hx, hn, rx_dv]
theorem rz_nwr (hf : rx_fetch row.2.2.2.2.2 pc = some (pc, .anewarray j, 3, x1, x2, x3)) (hx : ¬ x < 0) (hn : x.toNatClampNeg ≤ 65536) : rg Z d row pc L (.int x :: S) (rz_mk h ι, w) = rg Z d row (pc + 3) L (.ref w.1 :: S) (rz_mk (rx_up h w.1 (.inl (2, x.toNatClampNeg, fun _ => .null))) (rz_z ι w.1), w.1 + 1, w.2 + x.toNatClampNeg) := by
  refine rz_s1 (fun c => ?_)
  unfold rx_at1; rw [hf]
  show rx_lf 3 3 (rx_newa 2 (pc + 3) L (.int x :: S) (rz_mk h ι, w)) = _
  rw [← rz_mk_new (e := .inl (2, x.toNatClampNeg, fun _ => .null)) rfl]
  simp [rx_lf, rx_newa, hx, hn, rx_dv]
theorem rz_nwm (hf : rx_fetch row.2.2.2.2.2 pc = some (pc, .multianewarray j 2, 4, x1, x2, x3)) (hx : ¬ x < 0) (hy : ¬ y < 0) (hn : x.toNatClampNeg ≤ 65536) (hk : y.toNatClampNeg ≤ 65536) : rg Z d row pc L (.int y :: .int x :: S) (rz_mk h ι, w) = rg Z d row (pc + 4) L (.ref w.1 :: S) (rz_mk (rx_mnh h w.1 x.toNatClampNeg y.toNatClampNeg) (rz_zs ι w.1 x.toNatClampNeg), w.1 + 1 + x.toNatClampNeg, w.2 + x.toNatClampNeg + x.toNatClampNeg * y.toNatClampNeg) := by
  refine rz_s1 (fun c => ?_)
  unfold rx_at1; rw [hf]
  show rx_lf 4 4 (rx_mna (pc + 4) L (.int y :: .int x :: S) (rz_mk h ι, w)) = _
  simp [rx_lf, rx_mna, hx, hy, hn, hk, rz_mk_mna]
theorem rz_acp {sp dp m : Int32} (hf : rx_fetch row.2.2.2.2.2 pc = some (pc, .invokestatic j, 3, 6, x2, x3)) (hS : (S.map fun v => v.category).sum ≤ 8) (ha : rz_ar h a 0) (hb : rz_ar h b 0) (hz : Z.2.1 ≤ b) (h1 : ¬ sp < 0) (h2 : ¬ dp < 0) (h3 : ¬ m < 0) (h4 : sp.toNatClampNeg + m.toNatClampNeg ≤ rz_ln h a) (h5 : dp.toNatClampNeg + m.toNatClampNeg ≤ rz_ln h b) : rg Z d row pc L (.int m :: .int dp :: .ref b :: .int sp :: .ref a :: S) (rz_mk h ι, w) = rg Z d row (pc + 3) L S (rz_mk h (rz_cp ι a b sp.toNatClampNeg dp.toNatClampNeg m.toNatClampNeg), w) := by
  obtain ⟨n0, f, e1⟩ := ha
  obtain ⟨n1, g, e2⟩ := hb
  have en1 : rz_ln h a = n0 := by unfold rz_ln; rw [e1]
  have en2 : rz_ln h b = n1 := by unfold rz_ln; rw [e2]
  rw [en1] at h4
  rw [en2] at h5
  refine rz_s1 (fun c => ?_)
  unfold rx_at1; rw [hf]
  show rx_lf 3 3 (rx_spA Z (pc, .invokestatic j, 3, 6, x2, x3) L (.int m :: .int dp :: .ref b :: .int sp :: .ref a :: S) (rz_mk h ι, w)) = _
  have hfit : ∀ i, i < m.toNatClampNeg → fits .int (.int (ι a (sp.toNatClampNeg + i))) = true := fun _ _ => rfl
  rw [← rz_mk_cp (a := a) e2]
  simp [rx_lf, rx_spA, rz_mk_arr e1, rz_mk_arr e2, hz, h1, h2, h3, h4, h5, hS]
  exact hfit
theorem rz_max (hf : rx_fetch row.2.2.2.2.2 pc = some (pc, .invokestatic j, 3, 10, x2, x3)) (hS : (S.map fun v => v.category).sum ≤ 8) : rg Z d row pc L (.int y :: .int x :: S) σ = rg Z d row (pc + 3) L (.int (if x < y then y else x) :: S) σ := by
  refine rz_s1 (fun c => ?_)
  unfold rx_at1; rw [hf]
  show rx_lf 3 3 (rx_spA Z (pc, .invokestatic j, 3, 10, x2, x3) L (.int y :: .int x :: S) σ) = _
  simp [rx_lf, rx_spA, hS]
theorem rz_min (hf : rx_fetch row.2.2.2.2.2 pc = some (pc, .invokestatic j, 3, 11, x2, x3)) (hS : (S.map fun v => v.category).sum ≤ 8) : rg Z d row pc L (.int y :: .int x :: S) σ = rg Z d row (pc + 3) L (.int (if y < x then y else x) :: S) σ := by
  refine rz_s1 (fun c => ?_)
  unfold rx_at1; rw [hf]
  show rx_lf 3 3 (rx_spA Z (pc, .invokestatic j, 3, 11, x2, x3) L (.int y :: .int x :: S) σ) = _
  simp [rx_lf, rx_spA, hS]
theorem rz_abs (hf : rx_fetch row.2.2.2.2.2 pc = some (pc, .invokestatic j, 3, 12, x2, x3)) (hS : (S.map fun v => v.category).sum ≤ 8) : rg Z d row pc L (.int x :: S) σ = rg Z d row (pc + 3) L (.int (if 0 ≤ x then x else 0 - x) :: S) σ := by
  refine rz_s1 (fun c => ?_)
  unfold rx_at1; rw [hf]
  show rx_lf 3 3 (rx_spA Z (pc, .invokestatic j, 3, 12, x2, x3) L (.int x :: S) σ) = _
  simp [rx_lf, rx_spA, hS]
-- a String's row of bytes, and how it is written down
theorem rz_sval (hf : rx_fetch row.2.2.2.2.2 pc = some (pc, .getfield j, 3, 60, x2, x3)) (hc : rz_ar h a 9) : rg Z d row pc L (.ref a :: S) (rz_mk h ι, w) = rg Z d row (pc + 3) L (.ref (rz_ln h a) :: S) (rz_mk h ι, w) := by
  obtain ⟨n, f, h1⟩ := hc
  have hn : rz_ln h a = n := by unfold rz_ln; rw [h1]
  refine rz_s1 (fun c => ?_)
  unfold rx_at1; rw [hf]
  show rx_lf 3 3 (rx_spA Z (pc, .getfield j, 3, 60, x2, x3) L (.ref a :: S) (rz_mk h ι, w)) = _
  simp [rx_lf, rx_spA, rz_mk_arr h1, hn]
theorem rz_scod (hf : rx_fetch row.2.2.2.2.2 pc = some (pc, .getfield j, 3, 61, x2, x3)) (hc : rz_ar h a 9) : rg Z d row pc L (.ref a :: S) (rz_mk h ι, w) = rg Z d row (pc + 3) L (.int 0 :: S) (rz_mk h ι, w) := by
  obtain ⟨n, f, h1⟩ := hc
  refine rz_s1 (fun c => ?_)
  unfold rx_at1; rw [hf]
  show rx_lf 3 3 (rx_spA Z (pc, .getfield j, 3, 61, x2, x3) L (.ref a :: S) (rz_mk h ι, w)) = _
  simp [rx_lf, rx_spA, rz_mk_arr h1]
-- calls
theorem rz_cv {rest : List Value} (hf : rx_fetch row.2.2.2.2.2 pc = some (pc, .invokevirtual j, 3, ci, mi, n)) (hS : S.drop n = .ref a :: rest) (hn : n ≤ S.length) (hr : (rest.map fun v => v.category).sum ≤ 8) (hc : rz_oc h a ci) : rg Z d row pc L S (rz_mk h ι, w) = rz_k true (rz_f Z d mi (.ref a :: (S.take n).reverse) (rz_mk h ι, w)) (fun v σ' => rg Z d row (pc + 3) L (v.toList ++ rest) σ') := by
  obtain ⟨fs, h1⟩ := hc
  refine rz_c1 (fun c => ?_)
  unfold rx_at1; rw [hf]
  show rx_cV c n mi ci pc L S (rz_mk h ι, w) = _
  unfold rx_cV
  rw [hS]
  simp [rz_mk_obj h1, hn, hr]
theorem rz_cvs {rest : List Value} (hf : rx_fetch row.2.2.2.2.2 pc = some (pc, .invokevirtual j, 3, 50, mi, n)) (hS : S.drop n = .ref a :: rest) (hn : n ≤ S.length) (hr : (rest.map fun v => v.category).sum ≤ 8) (hc : rz_ar h a 9) : rg Z d row pc L S (rz_mk h ι, w) = rz_k true (rz_f Z d mi (.ref a :: (S.take n).reverse) (rz_mk h ι, w)) (fun v σ' => rg Z d row (pc + 3) L (v.toList ++ rest) σ') := by
  obtain ⟨m, f, h1⟩ := hc
  refine rz_c1 (fun c => ?_)
  unfold rx_at1; rw [hf]
  show rx_cV c n mi 50 pc L S (rz_mk h ι, w) = _
  unfold rx_cV
  rw [hS]
  simp [rz_mk_arr h1, hn, hr]
theorem rz_ci {rest : List Value} (h24 : x1 = 2 ∨ x1 = 4) (hf : rx_fetch row.2.2.2.2.2 pc = some (pc, .invokespecial j, 3, x1, mi, n)) (hS : S.drop n = .ref a :: rest) (hn : n ≤ S.length) (hr : (rest.map fun v => v.category).sum ≤ 8) : rg Z d row pc L S σ = rz_k false (rz_f Z d mi (.ref a :: (S.take n).reverse) σ) (fun v σ' => rg Z d row (pc + 3) L (v.toList ++ rest) σ') := by
  refine rz_c1 (fun c => ?_)
  unfold rx_at1; rw [hf]
  show (if x1 = 2 ∨ x1 = 4 then rx_cI c n mi pc L S σ else rx_lf 3 3 (rx_spA Z (pc, .invokespecial j, 3, x1, mi, n) L S σ)) = _
  rw [if_pos h24]
  unfold rx_cI
  rw [hS]
  simp [hn, hr]
theorem rz_cs {rest : List Value} (hf : rx_fetch row.2.2.2.2.2 pc = some (pc, .invokestatic j, 3, 1, mi, n)) (hS : S.drop n = rest) (hn : n ≤ S.length) (hr : (rest.map fun v => v.category).sum ≤ 8) : rg Z d row pc L S σ = rz_k true (rz_f Z d mi ((S.take n).reverse) σ) (fun v σ' => rg Z d row (pc + 3) L (v.toList ++ rest) σ') := by
  refine rz_c1 (fun c => ?_)
  unfold rx_at1; rw [hf]
  show rx_cS true c n mi pc L S σ = _
  unfold rx_cS
  rw [hS]
  simp [hn, hr]
theorem rz_cs3 {rest : List Value} (hf : rx_fetch row.2.2.2.2.2 pc = some (pc, .invokestatic j, 3, 3, mi, n)) (hS : S.drop n = rest) (hn : n ≤ S.length) (hr : (rest.map fun v => v.category).sum ≤ 8) : rg Z d row pc L S σ = rz_k false (rz_f Z d mi ((S.take n).reverse) σ) (fun v σ' => rg Z d row (pc + 3) L (v.toList ++ rest) σ') := by
  refine rz_c1 (fun c => ?_)
  unfold rx_at1; rw [hf]
  show rx_cS false c n mi pc L S σ = _
  unfold rx_cS
  rw [hS]
  simp [hn, hr]
theorem rz_oi (hf : rx_fetch row.2.2.2.2.2 pc = some (pc, .invokespecial j, 3, 5, x2, x3)) (hr : (S.map fun v => v.category).sum ≤ 8) : rg Z d row pc L (.ref a :: S) σ = rg Z d row (pc + 3) L S σ := by
  refine rz_s1 (fun c => ?_)
  unfold rx_at1; rw [hf]
  show rx_lf 3 3 (rx_spA Z (pc, .invokespecial j, 3, 5, x2, x3) L (.ref a :: S) σ) = _
  simp [rx_lf, rx_spA, hr]
theorem rz_k_inl {th : Bool} {o : Option Value} {f : Option Value → rx_S → Option rx_R} : rz_k th (some (.inl o, σ)) f = f o σ := rfl
theorem rz_k_inr {E : String} {f : Option Value → rx_S → Option rx_R} : rz_k true (some (.inr E, σ)) f = some (.inr E, σ) := rfl
-- returns
theorem rz_reti {ty : FieldType} (hf : rx_fetch row.2.2.2.2.2 pc = some (pc, .ireturn, 1, x1, x2, x3)) (hr : row.2.2.2.1 = some ty) (hn : narrow ty (.int x) = .int x) : rg Z d row pc L [.int x] σ = some (.inl (some (.int x)), σ) := by
  refine rz_r1 (fun c => ?_)
  unfold rx_at1; rw [hf]
  show (rx_re row.2.2.2.1 .ireturn [.int x] σ).map (fun r => (Sum.inr r : rx_F ⊕ rx_R)) = _
  rw [hr]
  simp [rx_re, hn]
def bi (b : Bool) : Int32 := if b = true then 1 else 0
theorem rz_nb0 : narrow .boolean (.int 0) = .int 0 := by decide
theorem rz_nb1 : narrow .boolean (.int 1) = .int 1 := by decide
theorem rz_nbb (b : Bool) : narrow .boolean (.int (bi b)) = .int (bi b) := by cases b <;> decide
theorem rz_nbi (p : Prop) [Decidable p] {x y : Int32} (hx : narrow .boolean (.int x) = .int x) (hy : narrow .boolean (.int y) = .int y) : narrow .boolean (.int (if p then x else y)) = .int (if p then x else y) := by
  split <;> assumption
-- branches
theorem rz_le_lt {x y : Int32} : (decide (y ≤ x)) = !decide (x < y) := by
  by_cases h1 : x < y
  · have : ¬ y ≤ x := Int32.not_le.mpr h1
    simp [h1, this]
  · have : y ≤ x := Int32.not_lt.mp h1
    simp [h1, this]
theorem rz_br {t : Nat} {off : Int} {bb : Bool} {p : Prop} [Decidable p] (hb : bb = decide p) (ht : (pc : Int) + off = (t : Int)) (h : ∀ c, rx_at1 Z c row pc L (v :: S) σ = (rx_br bb L pc off S).map (fun r => .inl (r.1, r.2.1, r.2.2, σ))) : rg Z d row pc L (v :: S) σ = if p then rg Z d row t L S σ else rg Z d row (pc + 3) L S σ := by
  refine rz_b1 (fun c => ?_)
  rw [h c, hb]
  unfold rx_br
  rw [ht, if_pos (by omega), Int.toNat_natCast]
  rfl
theorem rz_br2 {t : Nat} {off : Int} {bb : Bool} {p : Prop} [Decidable p] (hb : bb = decide p) (ht : (pc : Int) + off = (t : Int)) (h : ∀ c, rx_at1 Z c row pc L (u :: v :: S) σ = (rx_br bb L pc off S).map (fun r => .inl (r.1, r.2.1, r.2.2, σ))) : rg Z d row pc L (u :: v :: S) σ = if p then rg Z d row t L S σ else rg Z d row (pc + 3) L S σ := by
  refine rz_b1 (fun c => ?_)
  rw [h c, hb]
  unfold rx_br
  rw [ht, if_pos (by omega), Int.toNat_natCast]
  rfl
theorem rz_nif {p : Prop} [Decidable p] {A B : Option rx_R} : (if ¬ p then A else B) = if p then B else A := by
  by_cases h : p <;> simp [h]
theorem rz_if1 {t : Nat} {off : Int} {cc : Jvm.ClassFile.Cond} (ht : (pc : Int) + off = (t : Int)) (hf : rx_fetch row.2.2.2.2.2 pc = some (pc, .ifCond cc off, 3, x1, x2, x3)) : rg Z d row pc L (.int x :: S) σ = match cc with
    | .eq => if x = 0 then rg Z d row t L S σ else rg Z d row (pc + 3) L S σ
    | .ne => if x = 0 then rg Z d row (pc + 3) L S σ else rg Z d row t L S σ
    | .lt => if x < 0 then rg Z d row t L S σ else rg Z d row (pc + 3) L S σ
    | .ge => if x < 0 then rg Z d row (pc + 3) L S σ else rg Z d row t L S σ
    | .gt => if 0 < x then rg Z d row t L S σ else rg Z d row (pc + 3) L S σ
    | .le => if 0 < x then rg Z d row (pc + 3) L S σ else rg Z d row t L S σ := by
  cases cc <;> dsimp only
  · exact rz_br (bb := decide (x = 0)) rfl ht (fun c => by unfold rx_at1; rw [hf]; rfl)
  · rw [← rz_nif]
    exact rz_br (bb := !decide (x = 0)) (by simp) ht (fun c => by unfold rx_at1; rw [hf]; rfl)
  · exact rz_br (bb := decide (x < 0)) rfl ht (fun c => by unfold rx_at1; rw [hf]; rfl)
  · rw [← rz_nif]
    exact rz_br (bb := decide (0 ≤ x)) (by rw [rz_le_lt, decide_not]) ht (fun c => by unfold rx_at1; rw [hf]; rfl)
  · exact rz_br (bb := decide (0 < x)) rfl ht (fun c => by unfold rx_at1; rw [hf]; rfl)
  · rw [← rz_nif]
    exact rz_br (bb := decide (x ≤ 0)) (by rw [rz_le_lt, decide_not]) ht (fun c => by unfold rx_at1; rw [hf]; rfl)
theorem rz_if2 {t : Nat} {off : Int} {cc : Jvm.ClassFile.Cond} (ht : (pc : Int) + off = (t : Int)) (hf : rx_fetch row.2.2.2.2.2 pc = some (pc, .if_icmp cc off, 3, x1, x2, x3)) : rg Z d row pc L (.int y :: .int x :: S) σ = match cc with
    | .eq => if x = y then rg Z d row t L S σ else rg Z d row (pc + 3) L S σ
    | .ne => if x = y then rg Z d row (pc + 3) L S σ else rg Z d row t L S σ
    | .lt => if x < y then rg Z d row t L S σ else rg Z d row (pc + 3) L S σ
    | .ge => if x < y then rg Z d row (pc + 3) L S σ else rg Z d row t L S σ
    | .gt => if y < x then rg Z d row t L S σ else rg Z d row (pc + 3) L S σ
    | .le => if y < x then rg Z d row (pc + 3) L S σ else rg Z d row t L S σ := by
  cases cc <;> dsimp only
  · exact rz_br2 (bb := decide (x = y)) rfl ht (fun c => by unfold rx_at1; rw [hf]; rfl)
  · rw [← rz_nif]
    exact rz_br2 (bb := !decide (x = y)) (by simp) ht (fun c => by unfold rx_at1; rw [hf]; rfl)
  · exact rz_br2 (bb := decide (x < y)) rfl ht (fun c => by unfold rx_at1; rw [hf]; rfl)
  · rw [← rz_nif]
    exact rz_br2 (bb := decide (y ≤ x)) (by rw [rz_le_lt, decide_not]) ht (fun c => by unfold rx_at1; rw [hf]; rfl)
  · exact rz_br2 (bb := decide (y < x)) rfl ht (fun c => by unfold rx_at1; rw [hf]; rfl)
  · rw [← rz_nif]
    exact rz_br2 (bb := decide (x ≤ y)) (by rw [rz_le_lt, decide_not]) ht (fun c => by unfold rx_at1; rw [hf]; rfl)
theorem rz_div (hf : rx_fetch row.2.2.2.2.2 pc = some (pc, .idiv, 1, x1, x2, x3)) (hy : ¬ y = 0) : rg Z d row pc L (.int y :: .int x :: S) σ = rg Z d row (pc + 1) L (.int (x / y) :: S) σ := by
  refine rz_s1 (fun c => ?_)
  unfold rx_at1; rw [hf]
  show (rx_n 1 1 (rx_dI (fun x y => x / y) L (pc + 1) (.int y :: .int x :: S))).map (fun r => Sum.inl (r.1, r.2.1, r.2.2, σ)) = _
  simp [rx_n, rx_dI, hy]
theorem rz_rem (hf : rx_fetch row.2.2.2.2.2 pc = some (pc, .irem, 1, x1, x2, x3)) (hy : ¬ y = 0) : rg Z d row pc L (.int y :: .int x :: S) σ = rg Z d row (pc + 1) L (.int (x - x / y * y) :: S) σ := by
  refine rz_s1 (fun c => ?_)
  unfold rx_at1; rw [hf]
  show (rx_n 1 1 (rx_dI (fun x y => x - x / y * y) L (pc + 1) (.int y :: .int x :: S))).map (fun r => Sum.inl (r.1, r.2.1, r.2.2, σ)) = _
  simp [rx_n, rx_dI, hy]
theorem rz_ldiv {p q : Int64} (hf : rx_fetch row.2.2.2.2.2 pc = some (pc, .ldiv, 1, x1, x2, x3)) (hy : ¬ q = 0) : rg Z d row pc L (.long q :: .long p :: S) σ = rg Z d row (pc + 1) L (.long (p / q) :: S) σ := by
  refine rz_s1 (fun c => ?_)
  unfold rx_at1; rw [hf]
  show (rx_n 1 1 (rx_dL (fun x y => x / y) L (pc + 1) (.long q :: .long p :: S))).map (fun r => Sum.inl (r.1, r.2.1, r.2.2, σ)) = _
  simp [rx_n, rx_dL, hy]
theorem rz_lrem {p q : Int64} (hf : rx_fetch row.2.2.2.2.2 pc = some (pc, .lrem, 1, x1, x2, x3)) (hy : ¬ q = 0) : rg Z d row pc L (.long q :: .long p :: S) σ = rg Z d row (pc + 1) L (.long (p - p / q * q) :: S) σ := by
  refine rz_s1 (fun c => ?_)
  unfold rx_at1; rw [hf]
  show (rx_n 1 1 (rx_dL (fun x y => x - x / y * y) L (pc + 1) (.long q :: .long p :: S))).map (fun r => Sum.inl (r.1, r.2.1, r.2.2, σ)) = _
  simp [rx_n, rx_dL, hy]
theorem rz_join {p : Prop} [Decidable p] : (if p then rg Z d row pc L (.int x :: S) σ else rg Z d row pc L (.int y :: S) σ) = rg Z d row pc L (.int (if p then x else y) :: S) σ := by
  split <;> rfl
end RZS
