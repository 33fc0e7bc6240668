theorem rx_ev_mono (ML : List rx_M) (Z : rx_Z) (N : Nat) : ∀ (d mi : Nat) (vs : List Value) (σ : rx_S) (r : rx_R), rx_ev ML Z N d mi vs σ = some r → rx_le σ r.2
  | 0, mi, vs, σ, r, h => by cases h
  | d + 1, mi, vs, σ, r, h => by
    unfold rx_ev at h
    split at h
    · cases h
    · split at h
      · exact rx_steps_mono (fun mi vs σ r h9 => rx_ev_mono ML Z N d mi vs σ r h9) N _ r h
      · cases h
/-- ONE THEOREM FOR ALL METHODS: what the reader answers of a method, that method does -/
theorem rx_ev_ok {ML : List rx_M} {NL : List (String × Nat × MethodName × String)} {SK : String → ByteArray → rx_Q → Prop} {l : Launch} {Z : rx_Z} {X : State → Prop} (F : rx_fix ML NL SK l Z X) (N : Nat) : ∀ d : Nat, rx_cok ML l Z X d (rx_ev ML Z N d)
  | 0 => by
    intro mi row vs σ r _ h
    cases h
  | d + 1 => by
    intro mi row vs σ r hrow h
    have hmo := rx_ev_mono ML Z N (d + 1) mi vs σ r h
    refine ⟨hmo.1, hmo.2, ?_⟩
    unfold rx_ev at h
    rw [hrow] at h
    dsimp only at h
    split at h
    · rename_i hlen
      have hM := F.2.2.2.2.2.2 row (List.mem_of_getElem? hrow)
      refine vx_ofW (cc := row.2.1) (maxL := row.2.2.1) (ret := row.2.2.2.1) hM.1 rfl ?_
      intro p e s m args below meth c s₁ B hml hex hv
      obtain ⟨rfl, hH, hK, hX⟩ := hv
      have hts := atoms_spec (ws := rx_ws row) B.pre
      have C : rx_ctx p row s m vs.toArray meth c := ⟨B.exec, B.bytes, hml, findClass_of_methodNamed B.named, fun w hw => hts w (List.mem_cons_of_mem _ hw), B.returns, B.notSynchronized, hex, (name_of_methodNamed B.named B.method).1⟩
      have hl := rx_entry vs hlen
      rw [lg_entry_eq]
      have key := rx_steps_ok (p := p) (e := e) (below := below) (σ0 := σ) F (rx_ev_ok F N d) (rx_ev_mono ML Z N d) hM C hK hX ⟨Nat.le_of_eq hH.1, hH.2.2.2⟩ N (0, rx_in vs row.2.2.1, [], σ) h (rx_le.refl σ) s.heap [] hH (fun z hz => by cases hz) _ hl
      exact W.cs (Nat.sub_self _).symm (Nat.sub_self _).symm key
    · cases h
theorem rx_sel (i : Nat) {C : String} {y : MethodName} (h : (lw_privs[i]?).map (fun q => Cond.selects q.1.cls q.1 q.1) = some (Cond.selects C y y)) (hg : goodWord (Cond.selects C y y) = true) : Cond.selects C y y ∈ rx_tbl := by
  obtain ⟨q, h1, h2⟩ := Option.map_eq_some_iff.mp h
  refine List.mem_filter.mpr ⟨List.mem_append_left _ ?_, hg⟩
  rw [← h2]
  exact List.mem_map.mpr ⟨q, List.mem_of_getElem? h1, rfl⟩
theorem rx_cons {α : Type} {P : α → Prop} {a : α} {l : List α} (h : P a) (t : ∀ q ∈ l, P q) : ∀ q ∈ a :: l, P q := fun q hq => (List.mem_cons.mp hq).elim (fun e => by rw [e]; exact h) (t q)
theorem rx_nil {α : Type} {P : α → Prop} : ∀ q ∈ ([] : List α), P q := fun _ h => nomatch h
theorem rx_mem1 (i : Nat) {w : Cond} (h : tables_1_1[i]? = some w) (hg : goodWord w = true) : w ∈ rx_tbl := List.mem_filter.mpr ⟨List.mem_append_right _ (show w ∈ tables_1 from List.mem_append_left _ (List.mem_of_getElem? h)), hg⟩
theorem rx_mem2 (i : Nat) {w : Cond} (h : tables_1_2[i]? = some w) (hg : goodWord w = true) : w ∈ rx_tbl := List.mem_filter.mpr ⟨List.mem_append_right _ (show w ∈ tables_1 from List.mem_append_right _ (List.mem_append_left _ (List.mem_of_getElem? h))), hg⟩
theorem rx_mem3 (i : Nat) {w : Cond} (h : tables_1_3[i]? = some w) (hg : goodWord w = true) : w ∈ rx_tbl := List.mem_filter.mpr ⟨List.mem_append_right _ (show w ∈ tables_1 from List.mem_append_right _ (List.mem_append_right _ (List.mem_append_left _ (List.mem_of_getElem? h)))), hg⟩
theorem rx_mem4 (i : Nat) {w : Cond} (h : tables_1_4[i]? = some w) (hg : goodWord w = true) : w ∈ rx_tbl := List.mem_filter.mpr ⟨List.mem_append_right _ (show w ∈ tables_1 from List.mem_append_right _ (List.mem_append_right _ (List.mem_append_right _ (List.mem_append_left _ (List.mem_of_getElem? h))))), hg⟩
theorem rx_mem5 (i : Nat) {w : Cond} (h : tables_1_5[i]? = some w) (hg : goodWord w = true) : w ∈ rx_tbl := List.mem_filter.mpr ⟨List.mem_append_right _ (show w ∈ tables_1 from List.mem_append_right _ (List.mem_append_right _ (List.mem_append_right _ (List.mem_append_right _ (List.mem_append_left _ (List.mem_of_getElem? h)))))), hg⟩
theorem rx_mem6 (i : Nat) {w : Cond} (h : tables_1_6[i]? = some w) (hg : goodWord w = true) : w ∈ rx_tbl := List.mem_filter.mpr ⟨List.mem_append_right _ (show w ∈ tables_1 from List.mem_append_right _ (List.mem_append_right _ (List.mem_append_right _ (List.mem_append_right _ (List.mem_append_right _ (List.mem_append_left _ (List.mem_of_getElem? h))))))), hg⟩
theorem rx_mem7 (i : Nat) {w : Cond} (h : tables_1_7[i]? = some w) (hg : goodWord w = true) : w ∈ rx_tbl := List.mem_filter.mpr ⟨List.mem_append_right _ (show w ∈ tables_1 from List.mem_append_right _ (List.mem_append_right _ (List.mem_append_right _ (List.mem_append_right _ (List.mem_append_right _ (List.mem_append_right _ (List.mem_append_left _ (List.mem_of_getElem? h)))))))), hg⟩
theorem rx_mem8 (i : Nat) {w : Cond} (h : tables_1_8[i]? = some w) (hg : goodWord w = true) : w ∈ rx_tbl := List.mem_filter.mpr ⟨List.mem_append_right _ (show w ∈ tables_1 from List.mem_append_right _ (List.mem_append_right _ (List.mem_append_right _ (List.mem_append_right _ (List.mem_append_right _ (List.mem_append_right _ (List.mem_append_right _ (List.mem_append_left _ (List.mem_of_getElem? h))))))))), hg⟩
theorem rx_mem9 (i : Nat) {w : Cond} (h : tables_1_9[i]? = some w) (hg : goodWord w = true) : w ∈ rx_tbl := List.mem_filter.mpr ⟨List.mem_append_right _ (show w ∈ tables_1 from List.mem_append_right _ (List.mem_append_right _ (List.mem_append_right _ (List.mem_append_right _ (List.mem_append_right _ (List.mem_append_right _ (List.mem_append_right _ (List.mem_append_right _ (List.mem_of_getElem? h))))))))), hg⟩
