theorem rx_ev_mono (ML : List rx_M) (Z : rx_Z) (N : Nat) : ∀ (d mi : Nat) (vs : List Value) (σ : rx_S) (r : rx_R), rx_ev ML Z N d mi vs σ = some r → rx_le σ r.2
  | 0, mi, vs, σ, r, h => by cases h
  | d + 1, mi, vs, σ, r, h => by
    unfold rx_ev at h
    split at h
    · cases h
    · split at h
      · exact rx_steps_mono (fun mi vs σ r h9 => rx_ev_mono ML Z N d mi vs σ r h9) N _ r h
      · cases h
/-- ONE THEOREM FOR ALL METHODS: what the reader answers of a method, that method does -/
theorem rx_ev_ok {ML : List rx_M} {NL : List (String × Nat × MethodName × String)} {SK : String → ByteArray → rx_Q → Prop} {l : Launch} {Z : rx_Z} {X : State → Prop} (F : rx_fix ML NL SK l Z X) (N : Nat) : ∀ d : Nat, rx_cok ML l Z X d (rx_ev ML Z N d)
  | 0 => by
    intro mi row vs σ r _ h
    cases h
  | d + 1 => by
    intro mi row vs σ r hrow h
    have hmo := rx_ev_mono ML Z N (d + 1) mi vs σ r h
    refine ⟨hmo.1, hmo.2, ?_⟩
    unfold rx_ev at h
    rw [hrow] at h
    dsimp only at h
    split at h
    · rename_i hlen
      have hM := F.2.2.2.2.2.2 row (List.mem_of_getElem? hrow)
      refine vx_ofW (cc := row.2.1) (maxL := row.2.2.1) (ret := row.2.2.2.1) hM.1 rfl ?_
      intro p e s m args below meth c s₁ B hml hex hv
      obtain ⟨rfl, hH, hK, hX⟩ := hv
      have hts := atoms_spec (ws := rx_ws row) B.pre
      have C : rx_ctx p row s m vs.toArray meth c := ⟨B.exec, B.bytes, hml, findClass_of_methodNamed B.named, fun w hw => hts w (List.mem_cons_of_mem _ hw), B.returns, B.notSynchronized, hex, (name_of_methodNamed B.named B.method).1⟩
      have hl := rx_entry vs hlen
      rw [lg_entry_eq]
      have key := rx_steps_ok (p := p) (e := e) (below := below) (σ0 := σ) F (rx_ev_ok F N d) (rx_ev_mono ML Z N d) hM C hK hX N (0, rx_in vs row.2.2.1, [], σ) h (rx_le.refl σ) s.heap [] hH (fun z hz => by cases hz) _ hl
      exact W.cs (Nat.sub_self _).symm (Nat.sub_self _).symm key
    · cases h
