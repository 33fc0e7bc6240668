theorem rx_okP.mono {own : String} {idx ci k kd : Nat} {a b : Prop} (h : rx_okP own idx ci k kd a) (hab : a → b) : rx_okP own idx ci k kd b := by
  obtain ⟨C, T, N, ty, h1, h2, h3, h4, h5, h6, h7⟩ := h
  exact ⟨C, T, N, ty, h1, h2, h3, h4, h5, h6, h7.elim Or.inl (fun q => Or.inr ⟨q.1, hab q.2.1, q.2.2⟩)⟩
theorem rx_re_i {ret : Option FieldType} {S : List Value} {σ : rx_S} {z : rx_R} (h : rx_re ret .ireturn S σ = some z) : ∃ v ty, S = [.int v] ∧ ret = some ty ∧ narrow ty (.int v) = .int v ∧ z = (.inl (some (.int v)), σ) := by
  unfold rx_re at h
  dsimp only at h
  split at h
  · split at h
    · rename_i v ty hn
      exact ⟨v, ty, rfl, rfl, hn, (Option.some.inj h).symm⟩
    · cases h
  · cases h
theorem rx_re_l {ret : Option FieldType} {S : List Value} {σ : rx_S} {z : rx_R} (h : rx_re ret .lreturn S σ = some z) : ∃ v, S = [.long v] ∧ ret = some .long ∧ z = (.inl (some (.long v)), σ) := by
  unfold rx_re at h
  dsimp only at h
  split at h
  · rename_i v
    exact ⟨v, rfl, rfl, (Option.some.inj h).symm⟩
  · cases h
theorem rx_re_a {ret : Option FieldType} {S : List Value} {σ : rx_S} {z : rx_R} (h : rx_re ret .areturn S σ = some z) : ∃ a nm, S = [.ref a] ∧ ret = some (.object nm) ∧ z = (.inl (some (.ref a)), σ) := by
  unfold rx_re at h
  dsimp only at h
  split at h
  · rename_i a nm
    exact ⟨a, nm, rfl, rfl, (Option.some.inj h).symm⟩
  · cases h
theorem rx_re_v {ret : Option FieldType} {S : List Value} {σ : rx_S} {z : rx_R} (h : rx_re ret .return_ S σ = some z) : S = [] ∧ ret = none ∧ z = (.inl none, σ) := by
  unfold rx_re at h
  dsimp only at h
  split at h
  · exact ⟨rfl, rfl, (Option.some.inj h).symm⟩
  · cases h
section RXT
variable {p : Program} {l : Launch} {e : Env} {s : State} {m : MethodId} {args : Array Value} {below : List Frame} {meth : Method} {c : Code} {H : Heap} {locs : List Loc} {Z : rx_Z} {X : State → Prop} {ls : Array Slot} {ML : List rx_M} {NL : List (String × Nat × MethodName × String)} {SK : String → ByteArray → rx_Q → Prop} {d : Nat} {call : rx_C} {row : rx_M} {σ0 : rx_S} {r : rx_R}
/-- what is fixed over a whole method -/
def rx_fix (ML : List rx_M) (NL : List (String × Nat × MethodName × String)) (SK : String → ByteArray → rx_Q → Prop) (l : Launch) (Z : rx_Z) (X : State → Prop) : Prop :=
  (∀ (s U : State), s.WarmedH U.vm → X s → X U) ∧ (∀ U, X U → ∀ q ∈ NL, va_Nw (.methodLinkNest q.1 q.2.1 q.2.2.1 q.2.2.2) U) ∧ (∀ U, X U → va_AO "FarthestHeir$Moment" U ∧ va_AOA .int U) ∧ (Cond.arrayClass .int ∈ rx_tbl ∧ Cond.arrayClass .long ∈ rx_tbl) ∧ rx_SA l Z X SK ∧ rx_ST l Z X SK ∧ ∀ row ∈ ML, rx_Mok ML NL SK row
theorem rx_mc_le {σ σ0 : rx_S} {r : rx_R} (h : rx_le σ r.2) : σ.2.1 - σ0.2.1 ≤ rx_mc σ0 r ∧ σ.2.2 - σ0.2.2 ≤ rx_ms σ0 r := by
  have h1 := h.1
  have h2 := h.2
  unfold rx_mc rx_ms
  constructor <;> omega
/-- a callee's room within the caller's -/
theorem rx_cb {σ σ0 : rx_S} {r r1 : rx_R} (h0 : rx_le σ0 σ) (h1 : rx_le σ r1.2) (h2 : (∃ v, r1.1 = .inl v ∧ rx_le r1.2 r.2) ∨ r1 = r) : (σ.2.1 - σ0.2.1) + rx_mc σ r1 ≤ rx_mc σ0 r ∧ (σ.2.2 - σ0.2.2) + rx_ms σ r1 ≤ rx_ms σ0 r := by
  obtain ⟨a1, a2⟩ := h0
  obtain ⟨b1, b2⟩ := h1
  unfold rx_mc rx_ms
  rcases h2 with ⟨v, hv, c1, c2⟩ | rfl
  · rw [hv]
    constructor
    · show σ.2.1 - σ0.2.1 + (r1.2.2.1 - σ.2.1 + 0) ≤ _
      omega
    · show σ.2.2 - σ0.2.2 + (r1.2.2.2 - σ.2.2 + 0) ≤ _
      omega
  · constructor <;> omega
theorem rx_GI (h : Cond.code row.1 row.2.1 row.2.2.1 row.2.2.2.1 ∈ rx_tbl) : GoodIn rx_tbl (rx_ws row) := rx_good _ (fun w hw => by
  rcases List.mem_cons.mp hw with rfl | hw
  · exact h
  · exact hw)
set_option maxHeartbeats 4000000 in
theorem rx_one_ok (F : rx_fix ML NL SK l Z X) (hcall : rx_cok ML l Z X d call) (hrow : rx_Mok ML NL SK row) (C : rx_ctx p row s m args meth c) (hK : va_K Z.1 vwCl [] s) (hX : X s) (hs0 : s.heap.size ≤ σ0.2.1 ∧ ∀ q, q < Z.2.1 → s.heap[q]? = Z.2.2.1[q]?) {q : rx_Q} (hq : q ∈ row.2.2.2.2.2) {L : rx_L} {S : List Value} {σ : rx_S} {y : rx_F ⊕ rx_R} (h : rx_one Z call row.2.2.2.1 q L S σ = some y) (h0 : rx_le σ0 σ) (hyr : rx_le (rx_yS y) r.2) (hyq : ∀ r', y = .inr r' → r' = r) (hH : rx_H Z s σ H) (hlo : ∀ z ∈ locs, Z.2.1 ≤ z.base) (hL : rx_LH ls row.2.2.1 L)
    (k : ∀ (x : rx_F) (H' : Heap) (locs' : List Loc), y = .inl x → rx_le σ0 x.2.2.2 → rx_H Z s x.2.2.2 H' → (∀ z ∈ locs', Z.2.1 ≤ z.base) → rx_W p l e (rx_room (d + 1) (rx_mc σ0 r) (rx_ms σ0 r)) s m args below meth c row.2.2.1 H' locs' (x.2.2.2.2.1 - σ0.2.1) (x.2.2.2.2.2 - σ0.2.2) (vx_MQ below (rx_Qc Z r) (rx_XC Z r) args s (rx_mc σ0 r) (rx_ms σ0 r) (fun q => Z.2.1 ≤ q)) (x.1, x.2.1, x.2.2.1)) :
    W p l e (rx_room (d + 1) (rx_mc σ0 r) (rx_ms σ0 r)) s m args below meth c H locs (σ.2.1 - σ0.2.1) (σ.2.2 - σ0.2.2) (vx_MQ below (rx_Qc Z r) (rx_XC Z r) args s (rx_mc σ0 r) (rx_ms σ0 r) (fun q => Z.2.1 ≤ q)) (F0 m q.1 ls S) := by
  obtain ⟨hx, hb, hml, hown, hts, hret, hlocks, hex, hname⟩ := id C
  obtain ⟨hXw, hNL, hAO, hAC, hSA, hST, hMok⟩ := id F
  obtain ⟨hpl, hcode, hini, hmh, hmx, hdec, hqok⟩ := id hrow
  have hdg := hdec q hq
  have hqk := hqok q hq
  have hcm : ∀ mi vs σ r, call mi vs σ = some r → ∀ rw9, ML[mi]? = some rw9 → rx_le σ r.2 := fun mi vs σ r hc rw9 hr9 => ⟨(hcall mi rw9 vs σ r hr9 hc).1, (hcall mi rw9 vs σ r hr9 hc).2.1⟩
  -- the same state behind
  have same : ∀ (x : rx_F) (H' : Heap) (locs' : List Loc), y = .inl x → x.2.2.2.2 = σ.2 → rx_H Z s x.2.2.2 H' → (∀ z ∈ locs', Z.2.1 ≤ z.base) → rx_W p l e (rx_room (d + 1) (rx_mc σ0 r) (rx_ms σ0 r)) s m args below meth c row.2.2.1 H' locs' (σ.2.1 - σ0.2.1) (σ.2.2 - σ0.2.2) (vx_MQ below (rx_Qc Z r) (rx_XC Z r) args s (rx_mc σ0 r) (rx_ms σ0 r) (fun q => Z.2.1 ≤ q)) (x.1, x.2.1, x.2.2.1) := by
    intro x H' locs' h1 h2 h3 h4
    have := k x H' locs' h1 (by unfold rx_le; rw [h2]; exact h0) h3 h4
    rwa [h2] at this
  have grow : ∀ (x : rx_F) (C9 N9 : Nat) (H' : Heap) (locs' : List Loc), y = .inl x → x.2.2.2.2 = (σ.2.1 + C9, σ.2.2 + N9) → rx_H Z s x.2.2.2 H' → (∀ z ∈ locs', Z.2.1 ≤ z.base) → rx_W p l e (rx_room (d + 1) (rx_mc σ0 r) (rx_ms σ0 r)) s m args below meth c row.2.2.1 H' locs' (σ.2.1 - σ0.2.1 + C9) (σ.2.2 - σ0.2.2 + N9) (vx_MQ below (rx_Qc Z r) (rx_XC Z r) args s (rx_mc σ0 r) (rx_ms σ0 r) (fun q => Z.2.1 ≤ q)) (x.1, x.2.1, x.2.2.1) := by
    intro x C9 N9 H' locs' h1 h2 h3 h4
    have := k x H' locs' h1 (by have a := h0.1; have b := h0.2; unfold rx_le; rw [h2]; exact ⟨by show _ ≤ σ.2.1 + C9; omega, by show _ ≤ σ.2.2 + N9; omega⟩) h3 h4
    rw [h2] at this
    have e1 : (σ.2.1 + C9) - σ0.2.1 = σ.2.1 - σ0.2.1 + C9 := by have a := h0.1; omega
    have e2 : (σ.2.2 + N9) - σ0.2.2 = σ.2.2 - σ0.2.2 + N9 := by have a := h0.2; omega
    rw [← e1, ← e2]
    exact this
  have room : ∀ (x : rx_F) (C9 N9 : Nat), y = .inl x → x.2.2.2.2 = (σ.2.1 + C9, σ.2.2 + N9) → σ.2.1 - σ0.2.1 + C9 ≤ (rx_room (d + 1) (rx_mc σ0 r) (rx_ms σ0 r)).cells ∧ σ.2.2 - σ0.2.2 + N9 ≤ (rx_room (d + 1) (rx_mc σ0 r) (rx_ms σ0 r)).slots := by
    intro x C9 N9 h1 h2
    subst h1
    have h3 : rx_le x.2.2.2 r.2 := hyr
    obtain ⟨g1, g2⟩ := rx_mc_le (σ0 := σ0) h3
    rw [h2] at g1 g2
    have a := h0.1
    have b := h0.2
    have g1 : σ.2.1 + C9 - σ0.2.1 ≤ rx_mc σ0 r := g1
    have g2 : σ.2.2 + N9 - σ0.2.2 ≤ rx_ms σ0 r := g2
    exact ⟨by show _ ≤ rx_mc σ0 r; omega, by show _ ≤ rx_ms σ0 r; omega⟩
  have app : ∀ locs' : List Loc, (∀ z ∈ locs', Z.2.1 ≤ z.base) → ∀ z ∈ locs ++ locs', Z.2.1 ≤ z.base := fun locs' h9 z hz => (List.mem_append.mp hz).elim (hlo z) (h9 z)
  have one : ∀ lo : Loc, Z.2.1 ≤ lo.base → ∀ z ∈ locs ++ [lo], Z.2.1 ≤ z.base := fun lo h9 => app [lo] (fun z hz => by rw [List.mem_singleton.mp hz]; exact h9)
  have hR1 : 8 ≤ (rx_room (d + 1) (rx_mc σ0 r) (rx_ms σ0 r)).frames := by show 8 ≤ d + 1 + 8; omega
  have hR2 : 200 ≤ (rx_room (d + 1) (rx_mc σ0 r) (rx_ms σ0 r)).locals := by show 200 ≤ 40 * (d + 1) + 200; omega
  have spec : ∀ z : rx_F, y = .inl z → SK row.1.cls row.2.1 q → q.2.2.1 = rx_sln q.2.1 → rx_spA Z q L S σ = some z → W p l e (rx_room (d + 1) (rx_mc σ0 r) (rx_ms σ0 r)) s m args below meth c H locs (σ.2.1 - σ0.2.1) (σ.2.2 - σ0.2.2) (vx_MQ below (rx_Qc Z r) (rx_XC Z r) args s (rx_mc σ0 r) (rx_ms σ0 r) (fun q => Z.2.1 ≤ q)) (F0 m q.1 ls S) := by
    intro z hz hsk hln hsp
    have hle9 : rx_le σ r.2 := by subst hz; have h9 : rx_le z.2.2.2 r.2 := hyr; unfold rx_le at h9 ⊢; rw [(rx_spA_s hsp).2] at h9; exact h9
    obtain ⟨g1, g2⟩ := rx_mc_le (σ0 := σ0) hle9
    refine hSA p e _ s m args below meth c H locs _ _ _ row.2.1 row.1.cls q L S σ z ls hx hb (hml.trans hL.size.symm) hown hts hK hX hH hsk hln hdg hsp hR1 hR2 g1 g2 (fun H' locs' h1 h2 => ?_)
    exact same z H' (locs ++ locs') hz (rx_spA_s hsp).2 h1 (app locs' h2) ls (by rw [show z.2.1 = L from (rx_spA_s hsp).1]; exact hL)
  -- behind a call
  have back : ∀ (rest : List Value) (mi : Nat) (vs : List Value) (rw9 : rx_M) (th : Bool), ML[mi]? = some rw9 → rx_fin th q.1 L rest (call mi vs σ) = some y → ∃ r1, call mi vs σ = some r1 ∧ rx_con l Z X d rw9 vs σ r1 ∧ rx_le σ r1.2 ∧ ((σ.2.1 - σ0.2.1) + rx_mc σ r1 ≤ (rx_room (d + 1) (rx_mc σ0 r) (rx_ms σ0 r)).cells ∧ (σ.2.2 - σ0.2.2) + rx_ms σ r1 ≤ (rx_room (d + 1) (rx_mc σ0 r) (rx_ms σ0 r)).slots) ∧
      (∀ (v : Option Value) (H' : Heap) (locs' : List Loc), r1.1 = .inl v → rx_H Z s r1.2 H' → (∀ z ∈ locs', Z.2.1 ≤ z.base) → W p l e (rx_room (d + 1) (rx_mc σ0 r) (rx_ms σ0 r)) s m args below meth c H' (locs ++ locs') (σ.2.1 - σ0.2.1 + rx_mc σ r1) (σ.2.2 - σ0.2.2 + rx_ms σ r1) (vx_MQ below (rx_Qc Z r) (rx_XC Z r) args s (rx_mc σ0 r) (rx_ms σ0 r) (fun q => Z.2.1 ≤ q)) (F0 m (q.1 + 3) ls (v.toList ++ rest))) ∧
      (∀ (E : String) (H' : Heap) (locs' : List Loc) (q9 : Addr) (ce : Cell) (nx : Nat), r1.1 = .inr E → r1.2.2.1 ≤ nx → rx_H Z s (r1.2.1, nx, r1.2.2.2) H' → (∀ z ∈ locs', Z.2.1 ≤ z.base) → H'[q9]? = some ce → ce.vm = .none → s.vm.findClass E = some ce.cls → vx_W p l e (rx_room (d + 1) (rx_mc σ0 r) (rx_ms σ0 r)) s m args below meth c H' (locs ++ locs') (σ.2.1 - σ0.2.1 + rx_mc σ r1) (σ.2.2 - σ0.2.2 + rx_ms σ r1) (vx_MQ below (rx_Qc Z r) (rx_XC Z r) args s (rx_mc σ0 r) (rx_ms σ0 r) (fun q => Z.2.1 ≤ q)) (F0 m q.1 ls rest) q9) ∧ (th = false → ∃ v, r1.1 = .inl v) := by
    intro rest mi vs rw9 th hr9 hf
    obtain ⟨r1, hc1, hcase⟩ := rx_fin_some hf
    obtain ⟨m1, m2, hcon⟩ := hcall mi rw9 vs σ r1 hr9 hc1
    have hle : rx_le σ r1.2 := ⟨m1, m2⟩
    have hrm : (σ.2.1 - σ0.2.1) + rx_mc σ r1 ≤ rx_mc σ0 r ∧ (σ.2.2 - σ0.2.2) + rx_ms σ r1 ≤ rx_ms σ0 r := by
      refine rx_cb h0 hle ?_
      rcases hcase with ⟨v, hv, hy⟩ | ⟨E, hE, -, hy⟩
      · exact Or.inl ⟨v, hv, by rw [hy] at hyr; exact hyr⟩
      · exact Or.inr (hyq r1 hy)
    refine ⟨r1, hc1, hcon, hle, hrm, ?_, ?_, ?_⟩
    · intro v H' locs' hv hH' hlo'
      rcases hcase with ⟨v9, hv9, hy⟩ | ⟨E, hE, -, hy⟩
      · cases hv.symm.trans hv9
        have := k _ H' (locs ++ locs') hy ⟨Nat.le_trans h0.1 hle.1, Nat.le_trans h0.2 hle.2⟩ hH' (app locs' hlo') ls hL
        refine W.cs ?_ ?_ this
        · unfold rx_mc; rw [hv]
          have a := h0.1; have b := hle.1
          show σ.2.1 - σ0.2.1 + (r1.2.2.1 - σ.2.1 + 0) = r1.2.2.1 - σ0.2.1
          omega
        · unfold rx_ms; rw [hv]
          have a := h0.2; have b := hle.2
          show σ.2.2 - σ0.2.2 + (r1.2.2.2 - σ.2.2 + 0) = r1.2.2.2 - σ0.2.2
          omega
      · rw [hv] at hE; cases hE
    · intro E H' locs' q9 ce nx hE hnx hH' hlo' hce hcv hcl
      rcases hcase with ⟨v9, hv9, hy⟩ | ⟨E9, hE9, -, hy⟩
      · rw [hE] at hv9; cases hv9
      · have er : r1 = r := hyq r1 hy
        rw [er] at hE hnx hH' hrm ⊢
        refine vx_out (fun z hz => (hex z hz).elim) hlocks hce hcv hcl (fun t ht hal => ?_) (app locs' hlo') hrm.1 hrm.2
        unfold rx_XC
        rw [hE]
        exact ⟨rfl, nx, hnx, by rw [ht]; exact hH'.moved hal⟩
    · intro hth
      rcases hcase with ⟨v9, hv9, hy⟩ | ⟨E9, hE9, ht, hy⟩
      · exact ⟨v9, hv9⟩
      · rw [hth] at ht; cases ht
  have hCF : CallFix p m c row.2.1 row.2.2.1 s args rx_tbl row.1.cls := ⟨hx, hb, hml, hown, hts⟩
  obtain ⟨pc, i, len, a1, a2, a3⟩ := q
  have pu : ∀ j, decode row.2.1 pc = .ok (j, len) → (rx_pure j len pc L S).map (fun r => (Sum.inl (r.1, r.2.1, r.2.2, σ) : rx_F ⊕ rx_R)) = some y → W p l e (rx_room (d + 1) (rx_mc σ0 r) (rx_ms σ0 r)) s m args below meth c H locs (σ.2.1 - σ0.2.1) (σ.2.2 - σ0.2.2) (vx_MQ below (rx_Qc Z r) (rx_XC Z r) args s (rx_mc σ0 r) (rx_ms σ0 r) (fun q => Z.2.1 ≤ q)) (F0 m pc ls S) := fun j hd hj => by
    obtain ⟨z, hz, hy⟩ := Option.map_eq_some_iff.mp hj
    exact rx_pure_ok hx hb hd hz hL (same _ H locs hy.symm rfl hH hlo)
  have cbok : ∀ (rw9 : rx_M) (idx9 n9 : Nat) (r1 : rx_R), rx_Mok ML NL SK rw9 → Cond.methodLink row.1.cls idx9 rw9.1 ∈ rx_tbl → rx_np rw9.1 n9 → CallB (rx_room (d + 1) (rx_mc σ0 r) (rx_ms σ0 r)) s args row.1.cls idx9 rw9.1 rw9.2.1 rw9.2.2.1 rw9.2.2.2.1 (rx_ws rw9) (rx_room d (rx_mc σ r1) (rx_ms σ r1)) (rx_mc σ r1) (rx_ms σ r1) n9 := by
    intro rw9 idx9 n9 r1 hm hl9 hn9
    obtain ⟨-, hcode9, hini9, hmh9, hmx9, -, -⟩ := hm
    exact callB_of n9 hts (rx_GI hcode9) rfl rfl rfl (hts _ hini9) (hts _ hl9) ⟨hmh9.1, hmh9.2, hn9⟩ ⟨by show d + 8 + 1 ≤ d + 1 + 8; omega, by show 8 + (rw9.2.2.1 + 11) + (40 * d + 200) ≤ 40 * (d + 1) + 200; omega⟩
  have cnok : ∀ (rw9 : rx_M) (host : String) (idx9 n9 : Nat) (r1 : rx_R), rx_Mok ML NL SK rw9 → (row.1.cls, idx9, rw9.1, host) ∈ NL → rx_np rw9.1 n9 → va_CN (rx_room (d + 1) (rx_mc σ0 r) (rx_ms σ0 r)) s args row.1.cls idx9 rw9.1 host rw9.2.1 rw9.2.2.1 rw9.2.2.2.1 (rx_ws rw9) (rx_room d (rx_mc σ r1) (rx_ms σ r1)) (rx_mc σ r1) (rx_ms σ r1) n9 := by
    intro rw9 host idx9 n9 r1 hm hl9 hn9
    obtain ⟨-, hcode9, hini9, hmh9, hmx9, -, -⟩ := hm
    exact va_cnB n9 hts (rx_GI hcode9) rfl rfl rfl (hNL s hX _ hl9) (hts _ hini9) ⟨hmh9.1, hmh9.2, hn9⟩ ⟨by show d + 8 + 1 ≤ d + 1 + 8; omega, by show 8 + (rw9.2.2.1 + 11) + (40 * d + 200) ≤ 40 * (d + 1) + 200; omega⟩
  have nox : ∀ (r1 : rx_R), (∃ v, r1.1 = .inl v) → ∀ E st t, ¬ rx_XC Z r1 E st t := by
    intro r1 ⟨v, hv⟩ E st t hq9
    unfold rx_XC at hq9
    rw [hv] at hq9
    exact hq9
  have tk : ∀ n9 : Nat, n9 ≤ S.length → ((S.take n9).reverse).length = n9 := fun n9 h9 => by rw [List.length_reverse, List.length_take]; omega
  have stk : ∀ (n9 : Nat) (rest : List Value), S.drop n9 = rest → S = ((S.take n9).reverse).reverse ++ rest := fun n9 rest h9 => by rw [List.reverse_reverse, ← h9, List.take_append_drop]
  cases i
  case getfield idx =>
    have hh : (if a1 < 50 then rx_lf len 3 (rx_getf a1 a2 (pc + 3) L S σ) else rx_lf len 3 (rx_spA Z (pc, .getfield idx, len, a1, a2, a3) L S σ)) = some y := h
    split at hh
    · rename_i ea
      obtain ⟨rfl, z, hz, hy⟩ := rx_lf_some hh; exact rx_getf_ok hx hb hts hown hK hH (hqk.1 ea) hdg hz (fun v rr e9 => by subst e9; exact same _ H locs hy rfl hH hlo ls hL)
    · rename_i ea
      obtain ⟨rfl, z, hz, hy⟩ := rx_lf_some hh
      exact spec z hy (hqk.2 ea) rfl hz
  case baload => obtain ⟨rfl, z, hz, hy⟩ := rx_lf_some h; exact rx_aload_ok hx hb hH (Or.inr (Or.inr (Or.inr ⟨rfl, rfl⟩))) hdg hz (fun v rr e9 => by subst e9; exact same _ H locs hy rfl hH hlo ls hL)
  case putfield idx => obtain ⟨rfl, z, hz, hy⟩ := rx_lf_some h; exact rx_putf_ok hx hb hts hown hK hH (rx_okP.mono hqk (fun q => by rw [hname]; exact eq_of_beq q)) hdg hz (fun rr σ' H' lo e9 h2 hH' hb9 => by subst e9; exact same _ H' (locs ++ [lo]) hy h2 hH' (one lo hb9) ls hL)
  case iaload => obtain ⟨rfl, z, hz, hy⟩ := rx_lf_some h; exact rx_aload_ok hx hb hH (Or.inl ⟨rfl, rfl⟩) hdg hz (fun v rr e9 => by subst e9; exact same _ H locs hy rfl hH hlo ls hL)
  case laload => obtain ⟨rfl, z, hz, hy⟩ := rx_lf_some h; exact rx_aload_ok hx hb hH (Or.inr (Or.inl ⟨rfl, rfl⟩)) hdg hz (fun v rr e9 => by subst e9; exact same _ H locs hy rfl hH hlo ls hL)
  case aaload =>
    have hh : (if a1 = 2 then rx_lf len 1 (rx_aget 2 (pc + 1) L S σ) else rx_lf len 1 (rx_aget 3 (pc + 1) L S σ)) = some y := h
    split at hh
    · obtain ⟨rfl, z, hz, hy⟩ := rx_lf_some hh; exact rx_aload_ok hx hb hH (Or.inr (Or.inr (Or.inl ⟨rfl, Or.inl rfl⟩))) hdg hz (fun v rr e9 => by subst e9; exact same _ H locs hy rfl hH hlo ls hL)
    · obtain ⟨rfl, z, hz, hy⟩ := rx_lf_some hh; exact rx_aload_ok hx hb hH (Or.inr (Or.inr (Or.inl ⟨rfl, Or.inr rfl⟩))) hdg hz (fun v rr e9 => by subst e9; exact same _ H locs hy rfl hH hlo ls hL)
  case iastore => obtain ⟨rfl, z, hz, hy⟩ := rx_lf_some h; exact rx_astore_ok hx hb hH (Or.inl ⟨rfl, rfl⟩) hdg hz (fun rr σ' H' lo e9 h2 hH' hb9 => by subst e9; exact same _ H' (locs ++ [lo]) hy h2 hH' (one lo hb9) ls hL)
  case lastore => obtain ⟨rfl, z, hz, hy⟩ := rx_lf_some h; exact rx_astore_ok hx hb hH (Or.inr ⟨rfl, rfl⟩) hdg hz (fun rr σ' H' lo e9 h2 hH' hb9 => by subst e9; exact same _ H' (locs ++ [lo]) hy h2 hH' (one lo hb9) ls hL)
  case aastore => obtain ⟨rfl, z, hz, hy⟩ := rx_lf_some h; exact rx_asetq_ok hx hb hK hH hqk hdg hz (fun rr σ' H' lo e9 h2 hH' hb9 => by subst e9; exact same _ H' (locs ++ [lo]) hy h2 hH' (one lo hb9) ls hL)
  case arraylength => obtain ⟨rfl, z, hz, hy⟩ := rx_lf_some h; exact rx_alen_ok hx hb hH hdg hz (fun v rr e9 => by subst e9; exact same _ H locs hy rfl hH hlo ls hL)
  case new idx =>
    have hh : (if a3 = 0 then rx_lf len 3 (rx_new a1 a2 (rx_df a1) (pc + 3) L S σ) else if a3 = 1 ∧ S = [] ∧ len = 3 then some (.inr (.inr (rx_xn a1), σ)) else none) = some y := h
    split at hh
    · rename_i e3
      obtain ⟨rfl, z, hz, hy⟩ := rx_lf_some hh
      have hzz : z.2.2.2.2 = (σ.2.1 + 1, σ.2.2 + a2) := by cases hz; rfl
      obtain ⟨r1, r2⟩ := room z 1 a2 hy hzz
      exact rx_new_ok hx hb hts hown hK hH (hqk.1 e3) hdg hz r1 r2 (fun S' σ' H' e9 h2 hH' => by subst e9; exact grow _ 1 a2 H' locs hy h2 hH' hlo ls hL)
    · split at hh
      · rename_i e3
        obtain ⟨rfl, rfl, rfl⟩ := e3
        cases hh
        have er := hyq _ rfl
        subst er
        have g1 : rx_mc σ0 (.inr (rx_xn a1), σ) = σ.2.1 - σ0.2.1 + 1 := rfl
        have g2 : rx_ms σ0 (.inr (rx_xn a1), σ) = σ.2.2 - σ0.2.2 + 6 := rfl
        exact hST p e _ s m args below meth c H locs _ _ _ _ row.2.1 row.1.cls pc idx 3 a1 a2 σ ls _ hx hb (hml.trans hL.size.symm) hown hts hK hX hH (hqk.2 rfl) hdg (by rw [hH.1]; exact Nat.le_trans hs0.1 h0.1) hs0.2 hR1 hR2 (Nat.le_refl _) (Nat.le_refl _) hex hlocks hlo (Nat.le_refl _) (Nat.le_refl _)
      · cases hh
  case newarray t =>
    cases t
    case int =>
      obtain ⟨rfl, z, hz, hy⟩ := rx_lf_some h
      obtain ⟨-, N0, hN0⟩ := rx_newa_s hz
      exact rx_newa_ok hx hb hH (Or.inl ⟨rfl, rfl⟩) (hts _ hAC.1) hdg hz (fun N hN => room z 1 N hy (by rw [hN0] at hN ⊢; rw [show σ.2.2 + N0 = σ.2.2 + N from hN])) (fun N S' σ' H' e9 h2 hH' => by subst e9; exact grow _ 1 N H' locs hy h2 hH' hlo ls hL)
    case long =>
      obtain ⟨rfl, z, hz, hy⟩ := rx_lf_some h
      obtain ⟨-, N0, hN0⟩ := rx_newa_s hz
      exact rx_newa_ok hx hb hH (Or.inr ⟨rfl, rfl⟩) (hts _ hAC.2) hdg hz (fun N hN => room z 1 N hy (by rw [hN0] at hN ⊢; rw [show σ.2.2 + N0 = σ.2.2 + N from hN])) (fun N S' σ' H' e9 h2 hH' => by subst e9; exact grow _ 1 N H' locs hy h2 hH' hlo ls hL)
    all_goals cases h
  case anewarray idx =>
    obtain ⟨rfl, z, hz, hy⟩ := rx_lf_some h
    obtain ⟨-, N0, hN0⟩ := rx_newa_s hz
    exact rx_newq_ok hx hb hown hH (hts _ hqk) (va_AO.use (hAO s hX).1) hdg hz (fun N hN => room z 1 N hy (by rw [hN0] at hN ⊢; rw [show σ.2.2 + N0 = σ.2.2 + N from hN])) (fun N S' σ' H' e9 h2 hH' => by subst e9; exact grow _ 1 N H' locs hy h2 hH' hlo ls hL)
  case multianewarray idx kd =>
    have hh : (if kd = 2 then rx_lf len 4 (rx_mna (pc + 4) L S σ) else none) = some y := h
    split at hh
    · rename_i e2
      subst e2
      obtain ⟨rfl, z, hz, hy⟩ := rx_lf_some hh
      exact rx_mna_ok hx hb hown hH (hts _ hqk) (va_AOA.use (hAO s hX).2) (hts _ hAC.1) hdg hz (fun C9 N9 hC => room z C9 N9 hy hC) (fun C9 N9 S' σ' H' e9 h2 hH' => by subst e9; exact grow _ C9 N9 H' locs hy h2 hH' hlo ls hL)
    · cases hh
  case ldc idx =>
    have hh : (if a1 = 0 then rx_lf len 2 (some (pc + 2, L, .int (Int32.ofNat a2) :: S, σ)) else rx_lf len 2 (rx_spA Z (pc, .ldc idx, len, a1, a2, a3) L S σ)) = some y := h
    split at hh
    · rename_i e1
      obtain ⟨rfl, z, hz, hy⟩ := rx_lf_some hh
      cases hz
      exact lv_ldc hx hb hown (hts _ (hqk.1 e1)) hdg (same _ H locs hy rfl hH hlo ls hL)
    · rename_i e1
      obtain ⟨rfl, z, hz, hy⟩ := rx_lf_some hh
      exact spec z hy (hqk.2 e1) rfl hz
  case ldc_w idx =>
    obtain ⟨rfl, z, hz, hy⟩ := rx_lf_some h
    cases hz
    exact lv_ldcw hx hb hown (hts _ hqk) hdg (same _ H locs hy rfl hH hlo ls hL)
  case getstatic idx => obtain ⟨rfl, z, hz, hy⟩ := rx_lf_some h; exact spec z hy hqk rfl hz
  case invokevirtual idx =>
    have hh : (if len = 3 then rx_cV call a3 a2 a1 pc L S σ else none) = some y := h
    split at hh
    · rename_i e3
      have e3 : len = 3 := e3
      subst e3
      obtain ⟨rw9, hr9, hcn, hl9, hi9, hse9, hnp9, hst9, hob9⟩ := hqk
      unfold rx_cV at hh
      split at hh
      · rename_i b rest hdrop
        split at hh
        · rename_i c9 fs hcell
          split at hh
          · rename_i e4
            obtain ⟨rfl, hlen, hsum⟩ := e4
            obtain ⟨r1, hc1, hcon, hle, hrm, kk, kx, -⟩ := back rest a2 _ rw9 true hr9 hh
            obtain ⟨-, r0, hr0, cellB, q1, q2, q3, -⟩ := hH.2.2.1 b _ hcell
            have h50 : ¬ c9 = 50 := by
              intro e5
              subst e5
              cases hr0
            obtain ⟨T9, N9, hcl9⟩ := hob9 h50
            have hcn : rw9.2.2.2.2.1 = c9 := hcn
            rw [hcn] at hcl9
            exact rx_aft (rest := rest) (vx_runV (b := b) (As := (S.take a3).reverse) (C := rw9.1.cls) hCF hcon ⟨cbok rw9 idx a3 r1 (hMok rw9 (List.mem_of_getElem? hr9)) hl9 hnp9, hts _ hi9, hts _ hse9⟩ ⟨rx_blind hXw, ⟨cellB, q1, by rw [q3]; rfl, by rw [q2]; exact (hK.1 c9 _ hcl9).2.1⟩, rx_pre hXw hH hK hX⟩ rfl (tk a3 hlen) hL.size (stk a3 _ hdrop) (lv_room hsum) hdg hrm) kk kx
          · cases hh
        · rename_i t9 v9 f9 hcell
          split at hh
          · rename_i e4
            obtain ⟨rfl, e50, hlen, hsum⟩ := e4
            obtain ⟨r1, hc1, hcon, hle, hrm, kk, kx, -⟩ := back rest a2 _ rw9 true hr9 hh
            obtain ⟨-, hat⟩ := hH.2.2.1 b _ hcell
            have hat : rx_str Z s b v9 := hat
            obtain ⟨hlt, ⟨cellB, q1, q2, q3, q4⟩, -⟩ := hat
            have hcs := hst9 e50
            exact rx_aft (rest := rest) (vx_runV (b := b) (As := (S.take a3).reverse) (C := rw9.1.cls) hCF hcon ⟨cbok rw9 idx a3 r1 (hMok rw9 (List.mem_of_getElem? hr9)) hl9 hnp9, hts _ hi9, hts _ hse9⟩ ⟨rx_blind hXw, ⟨cellB, by rw [hH.2.2.2 b hlt]; exact q1, q2, by rw [hcs]; exact q3⟩, rx_pre hXw hH hK hX⟩ rfl (tk a3 hlen) hL.size (stk a3 _ hdrop) (lv_room hsum) hdg hrm) kk kx
          · cases hh
        · cases hh
      · cases hh
    · cases hh
  case invokestatic idx =>
    have hh : (if len = 3 then (if a1 = 1 then rx_cS true call a3 a2 pc L S σ else if a1 = 3 then rx_cS false call a3 a2 pc L S σ else rx_lf len 3 (rx_spA Z (pc, .invokestatic idx, len, a1, a2, a3) L S σ)) else none) = some y := h
    split at hh
    · rename_i e3
      have e3 : len = 3 := e3
      subst e3
      split at hh
      · rename_i ea
        obtain ⟨rw9, hr9, hl9, hs9, hnp9⟩ := hqk.1 ea
        unfold rx_cS at hh
        split at hh
        · rename_i e4
          obtain ⟨hlen, hsum⟩ := e4
          obtain ⟨r1, hc1, hcon, hle, hrm, kk, kx, -⟩ := back (S.drop a3) a2 _ rw9 true hr9 hh
          exact rx_aft (rest := S.drop a3) (vx_runS (As := (S.take a3).reverse) hCF hcon ⟨cbok rw9 idx a3 r1 (hMok rw9 (List.mem_of_getElem? hr9)) hl9 hnp9, hts _ hs9⟩ ⟨rx_blind hXw, rx_pre hXw hH hK hX⟩ rfl (tk a3 hlen) hL.size (stk a3 _ rfl) (lv_room hsum) hdg hrm) kk kx
        · cases hh
      · rename_i ea
        split at hh
        · rename_i eb
          obtain ⟨rw9, host, hr9, hl9, hs9, hnp9⟩ := hqk.2.1 eb
          unfold rx_cS at hh
          split at hh
          · rename_i e4
            obtain ⟨hlen, hsum⟩ := e4
            obtain ⟨r1, hc1, hcon, hle, hrm, kk, kx, hin⟩ := back (S.drop a3) a2 _ rw9 false hr9 hh
            exact rx_aftM (rest := S.drop a3) (va_runSN (As := (S.take a3).reverse) hCF (rx_met hcon (nox r1 (hin rfl))) ⟨cnok rw9 host idx a3 r1 (hMok rw9 (List.mem_of_getElem? hr9)) hl9 hnp9, hts _ hs9, trivial⟩ ⟨rx_blind hXw, rx_pre hXw hH hK hX⟩ rfl (tk a3 hlen) hL.size (stk a3 _ rfl) (lv_room hsum) hdg hrm) kk
          · cases hh
        · rename_i eb
          obtain ⟨-, z, hz, hy⟩ := rx_lf_some hh
          exact spec z hy (hqk.2.2 ea eb) rfl hz
    · cases hh
  case invokespecial idx =>
    have hh : (if len = 3 then (if a1 = 2 ∨ a1 = 4 then rx_cI call a3 a2 pc L S σ else rx_lf len 3 (rx_spA Z (pc, .invokespecial idx, len, a1, a2, a3) L S σ)) else none) = some y := h
    split at hh
    · rename_i e3
      have e3 : len = 3 := e3
      subst e3
      split at hh
      · rename_i ea
        unfold rx_cI at hh
        split at hh
        · rename_i b rest hdrop
          split at hh
          · rename_i e4
            obtain ⟨hlen, hsum⟩ := e4
            rcases ea with ea | ea
            · obtain ⟨rw9, hr9, hnm9, hrt9, hl9, hi9, hnp9⟩ := hqk.1 ea
              obtain ⟨r1, hc1, hcon, hle, hrm, kk, kx, hin⟩ := back rest a2 _ rw9 false hr9 hh
              have hcb := cbok rw9 idx a3 r1 (hMok rw9 (List.mem_of_getElem? hr9)) hl9 hnp9
              rw [hrt9] at hcb
              exact rx_aftM (rest := rest) (va_runI (b := b) (As := (S.take a3).reverse) hCF (rx_met hcon (nox r1 (hin rfl))) ⟨hcb, hnm9, hts _ hi9⟩ ⟨rx_blind hXw, rx_pre hXw hH hK hX⟩ rfl (tk a3 hlen) hL.size (stk a3 _ hdrop) (lv_room hsum) hdg hrm) kk
            · obtain ⟨rw9, host, hr9, hnm9, hrt9, hl9, hi9, hnp9⟩ := hqk.2.1 ea
              obtain ⟨r1, hc1, hcon, hle, hrm, kk, kx, hin⟩ := back rest a2 _ rw9 false hr9 hh
              have hcb := cnok rw9 host idx a3 r1 (hMok rw9 (List.mem_of_getElem? hr9)) hl9 hnp9
              rw [hrt9] at hcb
              exact rx_aftM (rest := rest) (va_runIN (b := b) (As := (S.take a3).reverse) hCF (rx_met hcon (nox r1 (hin rfl))) ⟨hcb, hnm9, hts _ hi9⟩ ⟨rx_blind hXw, rx_pre hXw hH hK hX⟩ rfl (tk a3 hlen) hL.size (stk a3 _ hdrop) (lv_room hsum) hdg hrm) kk
          · cases hh
        · cases hh
      · rename_i ea
        obtain ⟨-, z, hz, hy⟩ := rx_lf_some hh
        exact spec z hy (hqk.2.2 ea) rfl hz
    · cases hh
  case ireturn =>
    have hh : (if len = 1 then (rx_re row.2.2.2.1 .ireturn S σ).map .inr else none) = some y := h
    split at hh
    · rename_i e1
      have e1 : len = 1 := e1
      subst e1
      obtain ⟨z, hz, hy⟩ := Option.map_eq_some_iff.mp hh
      obtain ⟨v, ty, rfl, hrt, hn, hzz⟩ := rx_re_i hz
      have er := (hyq z hy.symm).symm.trans hzz
      subst er
      exact vx_ret (W.zret hx hb (hret.trans hrt) hn (fun t ht hW => ⟨rfl, by rw [ht]; exact hH.moved hW.alike⟩) hlo hdg hlocks)
    · cases hh
  case lreturn =>
    have hh : (if len = 1 then (rx_re row.2.2.2.1 .lreturn S σ).map .inr else none) = some y := h
    split at hh
    · rename_i e1
      have e1 : len = 1 := e1
      subst e1
      obtain ⟨z, hz, hy⟩ := Option.map_eq_some_iff.mp hh
      obtain ⟨v, rfl, hrt, hzz⟩ := rx_re_l hz
      have er := (hyq z hy.symm).symm.trans hzz
      subst er
      exact vx_ret (W.lret hx hb (hret.trans hrt) (fun t ht hW => ⟨rfl, by rw [ht]; exact hH.moved hW.alike⟩) hlo hdg hlocks)
    · cases hh
  case areturn =>
    have hh : (if len = 1 then (rx_re row.2.2.2.1 .areturn S σ).map .inr else none) = some y := h
    split at hh
    · rename_i e1
      have e1 : len = 1 := e1
      subst e1
      obtain ⟨z, hz, hy⟩ := Option.map_eq_some_iff.mp hh
      obtain ⟨a, nm, rfl, hrt, hzz⟩ := rx_re_a hz
      have er := (hyq z hy.symm).symm.trans hzz
      subst er
      exact vx_ret (W.aret hx hb (hret.trans hrt) (Or.inl ⟨nm, rfl⟩) (Or.inr ⟨a, rfl⟩) (fun t ht hW => ⟨rfl, by rw [ht]; exact hH.moved hW.alike⟩) hlo hdg hlocks)
    · cases hh
  case return_ =>
    have hh : (if len = 1 then (rx_re row.2.2.2.1 .return_ S σ).map .inr else none) = some y := h
    split at hh
    · rename_i e1
      have e1 : len = 1 := e1
      subst e1
      obtain ⟨z, hz, hy⟩ := Option.map_eq_some_iff.mp hh
      obtain ⟨rfl, hrt, hzz⟩ := rx_re_v hz
      have er := (hyq z hy.symm).symm.trans hzz
      subst er
      exact vx_ret (W.vret hx hb (hret.trans hrt) (fun t ht hW => ⟨rfl, by rw [ht]; exact hH.moved hW.alike⟩) hlo hdg hlocks)
    · cases hh
  all_goals first | exact pu _ hdg h | exact absurd h (fun q => by cases q)
theorem rx_steps_ok (F : rx_fix ML NL SK l Z X) (hcall : rx_cok ML l Z X d call) (hcm : ∀ mi vs σ r, call mi vs σ = some r → rx_le σ r.2) (hrow : rx_Mok ML NL SK row) (C : rx_ctx p row s m args meth c) (hK : va_K Z.1 vwCl [] s) (hX : X s) (hs0 : s.heap.size ≤ σ0.2.1 ∧ ∀ q, q < Z.2.1 → s.heap[q]? = Z.2.2.1[q]?) : ∀ (n : Nat) (x : rx_F), rx_steps Z call row n x = some r → rx_le σ0 x.2.2.2 → ∀ (H : Heap) (locs : List Loc), rx_H Z s x.2.2.2 H → (∀ z ∈ locs, Z.2.1 ≤ z.base) → rx_W p l e (rx_room (d + 1) (rx_mc σ0 r) (rx_ms σ0 r)) s m args below meth c row.2.2.1 H locs (x.2.2.2.2.1 - σ0.2.1) (x.2.2.2.2.2 - σ0.2.2) (vx_MQ below (rx_Qc Z r) (rx_XC Z r) args s (rx_mc σ0 r) (rx_ms σ0 r) (fun q => Z.2.1 ≤ q)) (x.1, x.2.1, x.2.2.1)
  | 0, x, h => by cases h
  | n + 1, x, h => by
    intro h0 H locs hH hlo ls hL
    unfold rx_steps at h
    split at h
    · cases h
    · rename_i q hq
      have hmem : q ∈ row.2.2.2.2.2 := List.mem_of_find?_eq_some hq
      have hpc : q.1 = x.1 := by have := List.find?_some hq; exact eq_of_beq this
      have hL : rx_LH ls row.2.2.1 x.2.1 := hL
      show W p l e _ s m args below meth c H locs _ _ _ (F0 m x.1 ls x.2.2.1)
      rw [← hpc]
      split at h
      · cases h
      · rename_i y hy
        exact rx_one_ok F hcall hrow C hK hX hs0 hmem hy h0 (rx_steps_mono hcm n y r h) (fun r' e9 => by cases e9) hH hlo hL (fun x' H' locs' e9 h1 h2 h3 => by cases e9; exact rx_steps_ok F hcall hcm hrow C hK hX hs0 n y h h1 H' locs' h2 h3)
      · rename_i r' hy
        cases h
        exact rx_one_ok F hcall hrow C hK hX hs0 hmem hy h0 (rx_le.refl _) (fun r' e9 => by cases e9; rfl) hH hlo hL (fun x' H' locs' e9 => by cases e9)
end RXT
