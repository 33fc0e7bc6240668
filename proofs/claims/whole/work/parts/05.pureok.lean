section RXP
variable {p : Program} {l : Launch} {e : Env} {R : Room} {s : State} {m : MethodId} {args : Array Value} {below : List Frame} {meth : Method} {c : Code} {H : Heap} {locs : List Loc} {cells slots : Nat} {Q : State → Prop} {cc : ByteArray} {nL : Nat}
/-- where the machine stands with these locals, at this place, with this stack -/
def rx_W (p : Program) (l : Launch) (e : Env) (R : Room) (s : State) (m : MethodId) (args : Array Value) (below : List Frame) (meth : Method) (c : Code) (nL : Nat) (H : Heap) (locs : List Loc) (cells slots : Nat) (Q : State → Prop) (r : Nat × rx_L × List Value) : Prop :=
  ∀ ls : Array Slot, rx_LH ls nL r.2.1 → W p l e R s m args below meth c H locs cells slots Q (F0 m r.1 ls r.2.2)
theorem rx_ldI_ok {L : rx_L} {i pc : Nat} {S : List Value} {r : Nat × rx_L × List Value} (h : rx_ldI L i pc S = some r) : ∃ x, rx_ld L i = some (.int x) ∧ r = (pc, L, .int x :: S) := by
  unfold rx_ldI at h
  split at h
  · rename_i x hx
    exact ⟨x, hx, (Option.some.inj h).symm⟩
  · cases h
theorem rx_ldL_ok {L : rx_L} {i pc : Nat} {S : List Value} {r : Nat × rx_L × List Value} (h : rx_ldL L i pc S = some r) : ∃ x, rx_ld L i = some (.long x) ∧ r = (pc, L, .long x :: S) := by
  unfold rx_ldL at h
  split at h
  · rename_i x hx
    exact ⟨x, hx, (Option.some.inj h).symm⟩
  · cases h
theorem rx_ldA_ok {L : rx_L} {i pc : Nat} {S : List Value} {r : Nat × rx_L × List Value} (h : rx_ldA L i pc S = some r) : (∃ x, rx_ld L i = some (.ref x) ∧ r = (pc, L, .ref x :: S)) ∨ (rx_ld L i = some .null ∧ r = (pc, L, .null :: S)) := by
  unfold rx_ldA at h
  split at h
  · rename_i x hx
    exact Or.inl ⟨x, hx, (Option.some.inj h).symm⟩
  · rename_i hx
    exact Or.inr ⟨hx, (Option.some.inj h).symm⟩
  · cases h
theorem rx_stI_ok {L : rx_L} {i pc : Nat} {S : List Value} {r : Nat × rx_L × List Value} (h : rx_stI L i pc S = some r) : ∃ x S', S = .int x :: S' ∧ i < L.length ∧ r = (pc, rx_st1 L i (.int x), S') := by
  unfold rx_stI at h
  split at h
  · split at h
    · rename_i x S' hi
      exact ⟨x, S', rfl, hi, (Option.some.inj h).symm⟩
    · cases h
  · cases h
theorem rx_stL_ok {L : rx_L} {i pc : Nat} {S : List Value} {r : Nat × rx_L × List Value} (h : rx_stL L i pc S = some r) : ∃ x S', S = .long x :: S' ∧ i + 1 < L.length ∧ r = (pc, rx_st2 L i (.long x), S') := by
  unfold rx_stL at h
  split at h
  · split at h
    · rename_i x S' hi
      exact ⟨x, S', rfl, hi, (Option.some.inj h).symm⟩
    · cases h
  · cases h
theorem rx_stA_ok {L : rx_L} {i pc : Nat} {S : List Value} {r : Nat × rx_L × List Value} (h : rx_stA L i pc S = some r) : (∃ x S', S = .ref x :: S' ∧ i < L.length ∧ r = (pc, rx_st1 L i (.ref x), S')) ∨ (∃ S', S = .null :: S' ∧ i < L.length ∧ r = (pc, rx_st1 L i .null, S')) := by
  unfold rx_stA at h
  split at h
  · split at h
    · rename_i x S' hi
      exact Or.inl ⟨x, S', rfl, hi, (Option.some.inj h).symm⟩
    · cases h
  · split at h
    · rename_i S' hi
      exact Or.inr ⟨S', rfl, hi, (Option.some.inj h).symm⟩
    · cases h
  · cases h
theorem rx_bI_ok {f : Int32 → Int32 → Int32} {L : rx_L} {pc : Nat} {S : List Value} {r : Nat × rx_L × List Value} (h : rx_bI f L pc S = some r) : ∃ x y S', S = .int y :: .int x :: S' ∧ r = (pc, L, .int (f x y) :: S') := by
  unfold rx_bI at h
  split at h
  · rename_i y x S'
    exact ⟨x, y, S', rfl, (Option.some.inj h).symm⟩
  · cases h
theorem rx_dI_ok {f : Int32 → Int32 → Int32} {L : rx_L} {pc : Nat} {S : List Value} {r : Nat × rx_L × List Value} (h : rx_dI f L pc S = some r) : ∃ x y S', S = .int y :: .int x :: S' ∧ ¬ y = 0 ∧ r = (pc, L, .int (f x y) :: S') := by
  unfold rx_dI at h
  split at h
  · split at h
    · cases h
    · rename_i y x S' hy
      exact ⟨x, y, S', rfl, hy, (Option.some.inj h).symm⟩
  · cases h
theorem rx_bL_ok {f : Int64 → Int64 → Int64} {L : rx_L} {pc : Nat} {S : List Value} {r : Nat × rx_L × List Value} (h : rx_bL f L pc S = some r) : ∃ x y S', S = .long y :: .long x :: S' ∧ r = (pc, L, .long (f x y) :: S') := by
  unfold rx_bL at h
  split at h
  · rename_i y x S'
    exact ⟨x, y, S', rfl, (Option.some.inj h).symm⟩
  · cases h
theorem rx_dL_ok {f : Int64 → Int64 → Int64} {L : rx_L} {pc : Nat} {S : List Value} {r : Nat × rx_L × List Value} (h : rx_dL f L pc S = some r) : ∃ x y S', S = .long y :: .long x :: S' ∧ ¬ y = 0 ∧ r = (pc, L, .long (f x y) :: S') := by
  unfold rx_dL at h
  split at h
  · split at h
    · cases h
    · rename_i y x S' hy
      exact ⟨x, y, S', rfl, hy, (Option.some.inj h).symm⟩
  · cases h
theorem rx_sL_ok {f : Int64 → Int32 → Int64} {L : rx_L} {pc : Nat} {S : List Value} {r : Nat × rx_L × List Value} (h : rx_sL f L pc S = some r) : ∃ x y S', S = .int y :: .long x :: S' ∧ r = (pc, L, .long (f x y) :: S') := by
  unfold rx_sL at h
  split at h
  · rename_i y x S'
    exact ⟨x, y, S', rfl, (Option.some.inj h).symm⟩
  · cases h
theorem rx_jmp_ok {L : rx_L} {pc : Nat} {off : Int} {S : List Value} {r : Nat × rx_L × List Value} (h : rx_jmp L pc off S = some r) : ∃ t : Nat, (pc : Int) + off = (t : Int) ∧ r = (t, L, S) := by
  unfold rx_jmp at h
  split at h
  · rename_i hp
    exact ⟨_, (Int.toNat_of_nonneg hp).symm, (Option.some.inj h).symm⟩
  · cases h
theorem rx_br_ok {b : Bool} {L : rx_L} {pc : Nat} {off : Int} {S : List Value} {r : Nat × rx_L × List Value} (h : rx_br b L pc off S = some r) : ∃ t : Nat, (pc : Int) + off = (t : Int) ∧ ((b = true ∧ r = (t, L, S)) ∨ (b = false ∧ r = (pc + 3, L, S))) := by
  unfold rx_br at h
  split at h
  · rename_i hp
    refine ⟨_, (Int.toNat_of_nonneg hp).symm, ?_⟩
    cases b
    · exact Or.inr ⟨rfl, (Option.some.inj h).symm⟩
    · exact Or.inl ⟨rfl, (Option.some.inj h).symm⟩
  · cases h
theorem rx_go1 {f : Int32 → Bool} {L : rx_L} {pc : Nat} {off : Int} {S : List Value} {r : Nat × rx_L × List Value} {ls : Array Slot} (h : rx_if1 f L pc off S = some r) (hL : rx_LH ls nL L) (k : rx_W p l e R s m args below meth c nL H locs cells slots Q r)
    (row : ∀ (x : Int32) (rest : List Value) (tgt : Nat), (pc : Int) + off = (tgt : Int) → (f x = true → W p l e R s m args below meth c H locs cells slots Q (F0 m tgt ls rest)) → (f x = false → W p l e R s m args below meth c H locs cells slots Q (F0 m (pc + 3) ls rest)) → W p l e R s m args below meth c H locs cells slots Q (F0 m pc ls (.int x :: rest))) : W p l e R s m args below meth c H locs cells slots Q (F0 m pc ls S) := by
  unfold rx_if1 at h
  split at h
  · rename_i x S'
    obtain ⟨t, ht, ⟨hb, rfl⟩ | ⟨hb, rfl⟩⟩ := rx_br_ok h
    · exact row x S' t ht (fun _ => k ls hL) (fun q => by rw [hb] at q; cases q)
    · exact row x S' t ht (fun q => by rw [hb] at q; cases q) (fun _ => k ls hL)
  · cases h
theorem rx_go2 {f : Int32 → Int32 → Bool} {L : rx_L} {pc : Nat} {off : Int} {S : List Value} {r : Nat × rx_L × List Value} {ls : Array Slot} (h : rx_if2 f L pc off S = some r) (hL : rx_LH ls nL L) (k : rx_W p l e R s m args below meth c nL H locs cells slots Q r)
    (row : ∀ (x y : Int32) (rest : List Value) (tgt : Nat), (pc : Int) + off = (tgt : Int) → (f x y = true → W p l e R s m args below meth c H locs cells slots Q (F0 m tgt ls rest)) → (f x y = false → W p l e R s m args below meth c H locs cells slots Q (F0 m (pc + 3) ls rest)) → W p l e R s m args below meth c H locs cells slots Q (F0 m pc ls (.int y :: .int x :: rest))) : W p l e R s m args below meth c H locs cells slots Q (F0 m pc ls S) := by
  unfold rx_if2 at h
  split at h
  · rename_i y x S'
    obtain ⟨t, ht, ⟨hb, rfl⟩ | ⟨hb, rfl⟩⟩ := rx_br_ok h
    · exact row x y S' t ht (fun _ => k ls hL) (fun q => by rw [hb] at q; cases q)
    · exact row x y S' t ht (fun q => by rw [hb] at q; cases q) (fun _ => k ls hL)
  · cases h
end RXP
section RXQ
variable {p : Program} {l : Launch} {e : Env} {R : Room} {s : State} {m : MethodId} {args : Array Value} {below : List Frame} {meth : Method} {c : Code} {H : Heap} {locs : List Loc} {cells slots : Nat} {Q : State → Prop} {cc : ByteArray} {nL : Nat}
set_option maxHeartbeats 4000000 in
theorem rx_pure_ok (hx : p.tables.exec = Jvm.exec) (hb : c.code = cc) {i : Instr} {len pc : Nat} {L : rx_L} {S : List Value} {r : Nat × rx_L × List Value} (hdg : decode cc pc = .ok (i, len)) (h : rx_pure i len pc L S = some r) {ls : Array Slot} (hL : rx_LH ls nL L) (k : rx_W p l e R s m args below meth c nL H locs cells slots Q r) : W p l e R s m args below meth c H locs cells slots Q (F0 m pc ls S) := by
  cases i
  case iconst n => obtain ⟨rfl, h⟩ := rx_n_some h; cases h; exact lv_iconst hx hb hdg rfl (k ls hL)
  case bipush n => obtain ⟨rfl, h⟩ := rx_n_some h; cases h; exact lv_bipush hx hb hdg rfl (k ls hL)
  case sipush n => obtain ⟨rfl, h⟩ := rx_n_some h; cases h; exact lv_sipush hx hb hdg rfl (k ls hL)
  case lconst n => obtain ⟨rfl, h⟩ := rx_n_some h; cases h; exact lv_lconst hx hb hdg rfl (k ls hL)
  case aconst_null => obtain ⟨rfl, h⟩ := rx_n_some h; cases h; exact lv_null hx hb hdg (k ls hL)
  case iload j => obtain ⟨rfl, h⟩ := rx_n_some h; obtain ⟨x, hx1, rfl⟩ := rx_ldI_ok h; exact lv_iload hx hb hdg (hL.at hx1) (k ls hL)
  case iload_n j => obtain ⟨rfl, h⟩ := rx_n_some h; obtain ⟨x, hx1, rfl⟩ := rx_ldI_ok h; exact lv_iload_n hx hb hdg rfl (hL.at hx1) (k ls hL)
  case lload j => obtain ⟨rfl, h⟩ := rx_n_some h; obtain ⟨x, hx1, rfl⟩ := rx_ldL_ok h; exact lv_lload hx hb hdg (hL.at hx1) (k ls hL)
  case lload_n j => obtain ⟨rfl, h⟩ := rx_n_some h; obtain ⟨x, hx1, rfl⟩ := rx_ldL_ok h; exact lv_lload_n hx hb hdg rfl (hL.at hx1) (k ls hL)
  case aload j =>
    obtain ⟨rfl, h⟩ := rx_n_some h
    obtain ⟨x, hx1, rfl⟩ | ⟨hx1, rfl⟩ := rx_ldA_ok h
    · exact lv_aload hx hb hdg (hL.at hx1) (k ls hL)
    · exact lv_aloadN hx hb hdg (hL.at hx1) (k ls hL)
  case aload_n j =>
    obtain ⟨rfl, h⟩ := rx_n_some h
    obtain ⟨x, hx1, rfl⟩ | ⟨hx1, rfl⟩ := rx_ldA_ok h
    · exact lv_aload_n hx hb hdg rfl (hL.at hx1) (k ls hL)
    · exact lv_aload_nN hx hb hdg rfl (hL.at hx1) (k ls hL)
  case istore j => obtain ⟨rfl, h⟩ := rx_n_some h; obtain ⟨x, S', rfl, hi, rfl⟩ := rx_stI_ok h; exact lv_istore hx hb hdg hL.2 (by rw [← hL.1]; exact hi) rfl (fun ls' h' => k ls' (rx_LH.s1 hL.1 h'))
  case istore_n j => obtain ⟨rfl, h⟩ := rx_n_some h; obtain ⟨x, S', rfl, hi, rfl⟩ := rx_stI_ok h; exact lv_istore_n hx hb hdg rfl hL.2 (by rw [← hL.1]; exact hi) rfl (fun ls' h' => k ls' (rx_LH.s1 hL.1 h'))
  case lstore j => obtain ⟨rfl, h⟩ := rx_n_some h; obtain ⟨x, S', rfl, hi, rfl⟩ := rx_stL_ok h; exact lv_lstore hx hb hdg hL.2 (by rw [← hL.1]; exact hi) rfl (fun ls' h' => k ls' (rx_LH.s2 hL.1 h'))
  case lstore_n j => obtain ⟨rfl, h⟩ := rx_n_some h; obtain ⟨x, S', rfl, hi, rfl⟩ := rx_stL_ok h; exact lv_lstore_n hx hb hdg rfl hL.2 (by rw [← hL.1]; exact hi) rfl (fun ls' h' => k ls' (rx_LH.s2 hL.1 h'))
  case astore j =>
    obtain ⟨rfl, h⟩ := rx_n_some h
    obtain ⟨x, S', rfl, hi, rfl⟩ | ⟨S', rfl, hi, rfl⟩ := rx_stA_ok h
    · exact lv_astore hx hb hdg hL.2 (by rw [← hL.1]; exact hi) rfl (fun ls' h' => k ls' (rx_LH.s1 hL.1 h'))
    · exact lv_astoreN hx hb hdg hL.2 (by rw [← hL.1]; exact hi) rfl (fun ls' h' => k ls' (rx_LH.s1 hL.1 h'))
  case astore_n j =>
    obtain ⟨rfl, h⟩ := rx_n_some h
    obtain ⟨x, S', rfl, hi, rfl⟩ | ⟨S', rfl, hi, rfl⟩ := rx_stA_ok h
    · exact lv_astore_n hx hb hdg rfl hL.2 (by rw [← hL.1]; exact hi) rfl (fun ls' h' => k ls' (rx_LH.s1 hL.1 h'))
    · exact lv_astore_nN hx hb hdg rfl hL.2 (by rw [← hL.1]; exact hi) rfl (fun ls' h' => k ls' (rx_LH.s1 hL.1 h'))
  case iinc j n =>
    obtain ⟨rfl, h⟩ := rx_n_some h
    have h : rx_inc L j n (pc + 3) S = some r := h
    unfold rx_inc at h
    split at h
    · rename_i x hx1
      cases h
      obtain ⟨kk, hk⟩ := List.getElem?_of_mem (rx_prs_mem.mpr hx1)
      exact lv_iinc hx hb hdg hL.2 hk rfl (by rw [← hL.1]; exact (rx_ld_lt hx1).1) rfl (fun ls' h' => k ls' (rx_LH.s1 hL.1 h'))
    · cases h
  case iadd => obtain ⟨rfl, h⟩ := rx_n_some h; obtain ⟨x, y, S', rfl, rfl⟩ := rx_bI_ok h; exact lv_iadd hx hb hdg (k ls hL)
  case isub => obtain ⟨rfl, h⟩ := rx_n_some h; obtain ⟨x, y, S', rfl, rfl⟩ := rx_bI_ok h; exact lv_isub hx hb hdg (k ls hL)
  case imul => obtain ⟨rfl, h⟩ := rx_n_some h; obtain ⟨x, y, S', rfl, rfl⟩ := rx_bI_ok h; exact lv_imul hx hb hdg (k ls hL)
  case iand => obtain ⟨rfl, h⟩ := rx_n_some h; obtain ⟨x, y, S', rfl, rfl⟩ := rx_bI_ok h; exact lv_iand hx hb hdg (k ls hL)
  case ior => obtain ⟨rfl, h⟩ := rx_n_some h; obtain ⟨x, y, S', rfl, rfl⟩ := rx_bI_ok h; exact lv_ior hx hb hdg (k ls hL)
  case ixor => obtain ⟨rfl, h⟩ := rx_n_some h; obtain ⟨x, y, S', rfl, rfl⟩ := rx_bI_ok h; exact lv_ixor hx hb hdg (k ls hL)
  case ishl => obtain ⟨rfl, h⟩ := rx_n_some h; obtain ⟨x, y, S', rfl, rfl⟩ := rx_bI_ok h; exact lv_ishl hx hb hdg (k ls hL)
  case ishr => obtain ⟨rfl, h⟩ := rx_n_some h; obtain ⟨x, y, S', rfl, rfl⟩ := rx_bI_ok h; exact lv_ishr hx hb hdg (k ls hL)
  case iushr => obtain ⟨rfl, h⟩ := rx_n_some h; obtain ⟨x, y, S', rfl, rfl⟩ := rx_bI_ok h; exact lv_iushr hx hb hdg rfl (k ls hL)
  case idiv => obtain ⟨rfl, h⟩ := rx_n_some h; obtain ⟨x, y, S', rfl, hy, rfl⟩ := rx_dI_ok h; exact lv_idiv hx hb hdg hy (k ls hL)
  case irem => obtain ⟨rfl, h⟩ := rx_n_some h; obtain ⟨x, y, S', rfl, hy, rfl⟩ := rx_dI_ok h; exact lv_irem hx hb hdg hy (k ls hL)
  case ineg =>
    obtain ⟨rfl, h⟩ := rx_n_some h
    have h : rx_uI (fun x => -x) L (pc + 1) S = some r := h
    unfold rx_uI at h
    split at h
    · cases h; exact lv_ineg hx hb hdg (k ls hL)
    · cases h
  case i2c =>
    obtain ⟨rfl, h⟩ := rx_n_some h
    have h : rx_uI (fun x => (x.toUInt32 % 65536).toInt32) L (pc + 1) S = some r := h
    unfold rx_uI at h
    split at h
    · cases h; exact lv_i2c hx hb hdg rfl (k ls hL)
    · cases h
  case ladd => obtain ⟨rfl, h⟩ := rx_n_some h; obtain ⟨x, y, S', rfl, rfl⟩ := rx_bL_ok h; exact lv_ladd hx hb hdg (k ls hL)
  case lsub => obtain ⟨rfl, h⟩ := rx_n_some h; obtain ⟨x, y, S', rfl, rfl⟩ := rx_bL_ok h; exact lv_lsub hx hb hdg (k ls hL)
  case lmul => obtain ⟨rfl, h⟩ := rx_n_some h; obtain ⟨x, y, S', rfl, rfl⟩ := rx_bL_ok h; exact lv_lmul hx hb hdg (k ls hL)
  case land => obtain ⟨rfl, h⟩ := rx_n_some h; obtain ⟨x, y, S', rfl, rfl⟩ := rx_bL_ok h; exact lv_land hx hb hdg (k ls hL)
  case lor => obtain ⟨rfl, h⟩ := rx_n_some h; obtain ⟨x, y, S', rfl, rfl⟩ := rx_bL_ok h; exact lv_lor hx hb hdg (k ls hL)
  case lxor => obtain ⟨rfl, h⟩ := rx_n_some h; obtain ⟨x, y, S', rfl, rfl⟩ := rx_bL_ok h; exact lv_lxor hx hb hdg (k ls hL)
  case ldiv => obtain ⟨rfl, h⟩ := rx_n_some h; obtain ⟨x, y, S', rfl, hy, rfl⟩ := rx_dL_ok h; exact lv_ldiv hx hb hdg hy (k ls hL)
  case lrem => obtain ⟨rfl, h⟩ := rx_n_some h; obtain ⟨x, y, S', rfl, hy, rfl⟩ := rx_dL_ok h; exact lv_lrem hx hb hdg hy (k ls hL)
  case lshl => obtain ⟨rfl, h⟩ := rx_n_some h; obtain ⟨x, y, S', rfl, rfl⟩ := rx_sL_ok h; exact lv_lshl hx hb hdg rfl (k ls hL)
  case lshr => obtain ⟨rfl, h⟩ := rx_n_some h; obtain ⟨x, y, S', rfl, rfl⟩ := rx_sL_ok h; exact lv_lshr hx hb hdg rfl (k ls hL)
  case lushr => obtain ⟨rfl, h⟩ := rx_n_some h; obtain ⟨x, y, S', rfl, rfl⟩ := rx_sL_ok h; exact lv_lushr hx hb hdg rfl (k ls hL)
  case i2l =>
    obtain ⟨rfl, h⟩ := rx_n_some h
    have h : rx_i2l L (pc + 1) S = some r := h
    unfold rx_i2l at h
    split at h
    · cases h; exact lv_i2l hx hb hdg rfl (k ls hL)
    · cases h
  case l2i =>
    obtain ⟨rfl, h⟩ := rx_n_some h
    have h : rx_l2i L (pc + 1) S = some r := h
    unfold rx_l2i at h
    split at h
    · cases h; exact lv_l2i hx hb hdg rfl (k ls hL)
    · cases h
  case lcmp =>
    obtain ⟨rfl, h⟩ := rx_n_some h
    have h : rx_lcmp L (pc + 1) S = some r := h
    unfold rx_lcmp at h
    split at h
    · cases h; exact W.lcmp hx hb hdg (k ls hL)
    · cases h
  case dup =>
    obtain ⟨rfl, h⟩ := rx_n_some h
    have h : rx_dup L (pc + 1) S = some r := h
    unfold rx_dup at h
    split at h
    · split at h
      · rename_i hc; cases h; exact lv_dup hx hb hdg hc (k ls hL)
      · cases h
    · cases h
  case pop =>
    obtain ⟨rfl, h⟩ := rx_n_some h
    have h : rx_pop L (pc + 1) S = some r := h
    unfold rx_pop at h
    split at h
    · split at h
      · rename_i hc; cases h; exact lv_pop hx hb hdg hc (k ls hL)
      · cases h
    · cases h
  case dup2 =>
    obtain ⟨rfl, h⟩ := rx_n_some h
    have h : rx_dup2 L (pc + 1) S = some r := h
    unfold rx_dup2 at h
    split at h
    · split at h
      · rename_i hc; cases h; exact lv_dup2_11 hx hb hdg hc.1 hc.2 (k ls hL)
      · cases h
    · cases h
  case goto off => obtain ⟨rfl, h⟩ := rx_n_some h; obtain ⟨t, ht, rfl⟩ := rx_jmp_ok h; exact lv_goto hx hb hdg ht (k ls hL)
  case ifnull off =>
    obtain ⟨rfl, h⟩ := rx_n_some h
    have h : rx_ifn true L pc off S = some r := h
    unfold rx_ifn at h
    split at h
    · obtain ⟨t, ht, ⟨-, rfl⟩ | ⟨q, -⟩⟩ := rx_br_ok h
      · exact lv_ifnullN hx hb hdg ht (k ls hL)
      · cases q
    · obtain ⟨t, ht, ⟨q, -⟩ | ⟨-, rfl⟩⟩ := rx_br_ok h
      · cases q
      · exact lv_ifnull hx hb hdg (k ls hL)
    · cases h
  case ifnonnull off =>
    obtain ⟨rfl, h⟩ := rx_n_some h
    have h : rx_ifn false L pc off S = some r := h
    unfold rx_ifn at h
    split at h
    · obtain ⟨t, ht, ⟨q, -⟩ | ⟨-, rfl⟩⟩ := rx_br_ok h
      · cases q
      · exact lv_ifnonnullN hx hb hdg (k ls hL)
    · obtain ⟨t, ht, ⟨-, rfl⟩ | ⟨q, -⟩⟩ := rx_br_ok h
      · exact lv_ifnonnull hx hb hdg ht (k ls hL)
      · cases q
    · cases h
  case ifCond cd off =>
    obtain ⟨rfl, h⟩ := rx_n_some h
    cases cd
    case eq => exact rx_go1 h hL k (fun x rest t ht k1 k2 => lv_if_eq hx hb hdg ht (fun q => k1 (by simp [q])) (fun q => k2 (by simp [q])))
    case ne => exact rx_go1 h hL k (fun x rest t ht k1 k2 => lv_if_ne hx hb hdg ht (fun q => k1 (by simp [q])) (fun q => k2 (by simp [q])))
    case lt => exact rx_go1 h hL k (fun x rest t ht k1 k2 => lv_if_lt hx hb hdg ht (fun q => k1 (decide_eq_true q)) (fun q => k2 (decide_eq_false q)))
    case ge => exact rx_go1 h hL k (fun x rest t ht k1 k2 => lv_if_ge hx hb hdg ht (fun q => k1 (decide_eq_true q)) (fun q => k2 (decide_eq_false q)))
    case gt => exact rx_go1 h hL k (fun x rest t ht k1 k2 => lv_if_gt hx hb hdg ht (fun q => k1 (decide_eq_true q)) (fun q => k2 (decide_eq_false q)))
    case le => exact rx_go1 h hL k (fun x rest t ht k1 k2 => lv_if_le hx hb hdg ht (fun q => k1 (decide_eq_true q)) (fun q => k2 (decide_eq_false q)))
  case if_icmp cd off =>
    obtain ⟨rfl, h⟩ := rx_n_some h
    cases cd
    case eq => exact rx_go2 h hL k (fun x y rest t ht k1 k2 => lv_icmp_eq hx hb hdg ht (fun q => k1 (by simp [q])) (fun q => k2 (by simp [q])))
    case ne => exact rx_go2 h hL k (fun x y rest t ht k1 k2 => lv_icmp_ne hx hb hdg ht (fun q => k1 (by simp [q])) (fun q => k2 (by simp [q])))
    case lt => exact rx_go2 h hL k (fun x y rest t ht k1 k2 => lv_icmp_lt hx hb hdg ht (fun q => k1 (decide_eq_true q)) (fun q => k2 (decide_eq_false q)))
    case ge => exact rx_go2 h hL k (fun x y rest t ht k1 k2 => lv_icmp_ge hx hb hdg ht (fun q => k1 (decide_eq_true q)) (fun q => k2 (decide_eq_false q)))
    case gt => exact rx_go2 h hL k (fun x y rest t ht k1 k2 => lv_icmp_gt hx hb hdg ht (fun q => k1 (decide_eq_true q)) (fun q => k2 (decide_eq_false q)))
    case le => exact rx_go2 h hL k (fun x y rest t ht k1 k2 => lv_icmp_le hx hb hdg ht (fun q => k1 (decide_eq_true q)) (fun q => k2 (decide_eq_false q)))
  case tableswitch d lo hi offs =>
    have h : rx_tsw L pc d lo hi offs S = some r := h
    unfold rx_tsw at h
    split at h
    · split at h
      · rename_i hq
        obtain ⟨t, ht, rfl⟩ := rx_jmp_ok h
        exact lv_tableOut hx hb hdg hq ht (k ls hL)
      · rename_i hq
        split at h
        · rename_i o ho
          obtain ⟨t, ht, rfl⟩ := rx_jmp_ok h
          exact lv_tableIn hx hb hdg (fun z => hq (Or.inl z)) (fun z => hq (Or.inr z)) ho ht (k ls hL)
        · cases h
    · cases h
  case lookupswitch d ps =>
    have h : rx_lsw L pc d ps S = some r := h
    unfold rx_lsw at h
    split at h
    · split at h
      · rename_i hq
        obtain ⟨t, ht, rfl⟩ := rx_jmp_ok h
        exact lv_lookup hx hb hdg hq rfl ht (k ls hL)
      · cases h
    · cases h
  all_goals exact absurd h (by intro q; cases q)
end RXQ
