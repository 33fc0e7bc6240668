/-! how the cells of the class and of the reference hang together (written by program) -/
section RZL
variable {h : Nat → Option rx_E} {a t l r : Nat} {pv : Value}
def oBk (h : Nat → Option rx_E) (a : Nat) : Prop := h a = some (.inr (0, [.ref (a + 1), .ref (a + 2), .int 0])) ∧ h (a + 1) = some (.inl (0, 8, fun _ => .int 0)) ∧ h (a + 2) = some (.inl (0, 8, fun _ => .int 0))
theorem oBk_c (o : oBk h a) : rz_oc h a 0 := ⟨_, o.1⟩
theorem oBk_f0 (o : oBk h a) : rz_fR h a 0 0 := ⟨_, _, o.1, rfl, rfl⟩
theorem oBk_v0 (o : oBk h a) : rz_rv h a 0 = .ref (a + 1) := by unfold rz_rv; rw [o.1]; rfl
theorem oBk_f1 (o : oBk h a) : rz_fR h a 0 1 := ⟨_, _, o.1, rfl, rfl⟩
theorem oBk_v1 (o : oBk h a) : rz_rv h a 1 = .ref (a + 2) := by unfold rz_rv; rw [o.1]; rfl
theorem oBk_i2 (o : oBk h a) : rz_fI h a 0 2 := ⟨_, _, o.1, rfl⟩
theorem oBk_a1 (o : oBk h a) : rz_ar h (a + 1) 0 := ⟨_, _, o.2.1⟩
theorem oBk_n1 (o : oBk h a) : rz_ln h (a + 1) = 8 := by unfold rz_ln; rw [o.2.1]
theorem oBk_a2 (o : oBk h a) : rz_ar h (a + 2) 0 := ⟨_, _, o.2.2⟩
theorem oBk_n2 (o : oBk h a) : rz_ln h (a + 2) = 8 := by unfold rz_ln; rw [o.2.2]
def oCh (h : Nat → Option rx_E) (a : Nat) : Prop := h a = some (.inr (1, [.int 0]))
theorem oCh_c (o : oCh h a) : rz_oc h a 1 := ⟨_, o⟩
theorem oCh_i0 (o : oCh h a) : rz_fI h a 1 0 := ⟨_, _, o, rfl⟩
def oCt (h : Nat → Option rx_E) (a : Nat) : Prop := h a = some (.inr (2, [.ref (a + 1), .ref (a + 2), .ref (a + 3), .ref (a + 4), .ref (a + 5), .ref (a + 6)])) ∧ h (a + 1) = some (.inl (0, 64, fun _ => .int 0)) ∧ h (a + 2) = some (.inl (0, 2048, fun _ => .int 0)) ∧ h (a + 3) = some (.inl (0, 8, fun _ => .int 0)) ∧ h (a + 4) = some (.inl (0, 8, fun _ => .int 0)) ∧ h (a + 5) = some (.inl (0, 8, fun _ => .int 0)) ∧ h (a + 6) = some (.inl (0, 8, fun _ => .int 0))
theorem oCt_c (o : oCt h a) : rz_oc h a 2 := ⟨_, o.1⟩
theorem oCt_f0 (o : oCt h a) : rz_fR h a 2 0 := ⟨_, _, o.1, rfl, rfl⟩
theorem oCt_v0 (o : oCt h a) : rz_rv h a 0 = .ref (a + 1) := by unfold rz_rv; rw [o.1]; rfl
theorem oCt_f1 (o : oCt h a) : rz_fR h a 2 1 := ⟨_, _, o.1, rfl, rfl⟩
theorem oCt_v1 (o : oCt h a) : rz_rv h a 1 = .ref (a + 2) := by unfold rz_rv; rw [o.1]; rfl
theorem oCt_f2 (o : oCt h a) : rz_fR h a 2 2 := ⟨_, _, o.1, rfl, rfl⟩
theorem oCt_v2 (o : oCt h a) : rz_rv h a 2 = .ref (a + 3) := by unfold rz_rv; rw [o.1]; rfl
theorem oCt_f3 (o : oCt h a) : rz_fR h a 2 3 := ⟨_, _, o.1, rfl, rfl⟩
theorem oCt_v3 (o : oCt h a) : rz_rv h a 3 = .ref (a + 4) := by unfold rz_rv; rw [o.1]; rfl
theorem oCt_f4 (o : oCt h a) : rz_fR h a 2 4 := ⟨_, _, o.1, rfl, rfl⟩
theorem oCt_v4 (o : oCt h a) : rz_rv h a 4 = .ref (a + 5) := by unfold rz_rv; rw [o.1]; rfl
theorem oCt_f5 (o : oCt h a) : rz_fR h a 2 5 := ⟨_, _, o.1, rfl, rfl⟩
theorem oCt_v5 (o : oCt h a) : rz_rv h a 5 = .ref (a + 6) := by unfold rz_rv; rw [o.1]; rfl
theorem oCt_a1 (o : oCt h a) : rz_ar h (a + 1) 0 := ⟨_, _, o.2.1⟩
theorem oCt_n1 (o : oCt h a) : rz_ln h (a + 1) = 64 := by unfold rz_ln; rw [o.2.1]
theorem oCt_a2 (o : oCt h a) : rz_ar h (a + 2) 0 := ⟨_, _, o.2.2.1⟩
theorem oCt_n2 (o : oCt h a) : rz_ln h (a + 2) = 2048 := by unfold rz_ln; rw [o.2.2.1]
theorem oCt_a3 (o : oCt h a) : rz_ar h (a + 3) 0 := ⟨_, _, o.2.2.2.1⟩
theorem oCt_n3 (o : oCt h a) : rz_ln h (a + 3) = 8 := by unfold rz_ln; rw [o.2.2.2.1]
theorem oCt_a4 (o : oCt h a) : rz_ar h (a + 4) 0 := ⟨_, _, o.2.2.2.2.1⟩
theorem oCt_n4 (o : oCt h a) : rz_ln h (a + 4) = 8 := by unfold rz_ln; rw [o.2.2.2.2.1]
theorem oCt_a5 (o : oCt h a) : rz_ar h (a + 5) 0 := ⟨_, _, o.2.2.2.2.2.1⟩
theorem oCt_n5 (o : oCt h a) : rz_ln h (a + 5) = 8 := by unfold rz_ln; rw [o.2.2.2.2.2.1]
theorem oCt_a6 (o : oCt h a) : rz_ar h (a + 6) 0 := ⟨_, _, o.2.2.2.2.2.2⟩
theorem oCt_n6 (o : oCt h a) : rz_ln h (a + 6) = 8 := by unfold rz_ln; rw [o.2.2.2.2.2.2]
def oDk (h : Nat → Option rx_E) (a : Nat) (t : Nat) : Prop := h a = some (.inr (3, [.ref t, .int 0, .int 0, .int 0]))
theorem oDk_c (o : oDk h a t) : rz_oc h a 3 := ⟨_, o⟩
theorem oDk_f0 (o : oDk h a t) : rz_fR h a 3 0 := ⟨_, _, o, rfl, rfl⟩
theorem oDk_v0 (o : oDk h a t) : rz_rv h a 0 = .ref t := by unfold rz_rv; rw [o]; rfl
theorem oDk_i1 (o : oDk h a t) : rz_fI h a 3 1 := ⟨_, _, o, rfl⟩
theorem oDk_i2 (o : oDk h a t) : rz_fI h a 3 2 := ⟨_, _, o, rfl⟩
theorem oDk_i3 (o : oDk h a t) : rz_fI h a 3 3 := ⟨_, _, o, rfl⟩
def oGs (h : Nat → Option rx_E) (a : Nat) : Prop := h a = some (.inr (4, [.ref (a + 1), .ref (a + 2), .ref (a + 3), .int 0, .int 0, .int 0])) ∧ h (a + 1) = some (.inl (0, 100, fun _ => .int 0)) ∧ h (a + 2) = some (.inl (0, 30, fun _ => .int 0)) ∧ h (a + 3) = some (.inl (0, 1000, fun _ => .int 0))
theorem oGs_c (o : oGs h a) : rz_oc h a 4 := ⟨_, o.1⟩
theorem oGs_f0 (o : oGs h a) : rz_fR h a 4 0 := ⟨_, _, o.1, rfl, rfl⟩
theorem oGs_v0 (o : oGs h a) : rz_rv h a 0 = .ref (a + 1) := by unfold rz_rv; rw [o.1]; rfl
theorem oGs_f1 (o : oGs h a) : rz_fR h a 4 1 := ⟨_, _, o.1, rfl, rfl⟩
theorem oGs_v1 (o : oGs h a) : rz_rv h a 1 = .ref (a + 2) := by unfold rz_rv; rw [o.1]; rfl
theorem oGs_f2 (o : oGs h a) : rz_fR h a 4 2 := ⟨_, _, o.1, rfl, rfl⟩
theorem oGs_v2 (o : oGs h a) : rz_rv h a 2 = .ref (a + 3) := by unfold rz_rv; rw [o.1]; rfl
theorem oGs_i3 (o : oGs h a) : rz_fI h a 4 3 := ⟨_, _, o.1, rfl⟩
theorem oGs_i4 (o : oGs h a) : rz_fI h a 4 4 := ⟨_, _, o.1, rfl⟩
theorem oGs_i5 (o : oGs h a) : rz_fI h a 4 5 := ⟨_, _, o.1, rfl⟩
theorem oGs_a1 (o : oGs h a) : rz_ar h (a + 1) 0 := ⟨_, _, o.2.1⟩
theorem oGs_n1 (o : oGs h a) : rz_ln h (a + 1) = 100 := by unfold rz_ln; rw [o.2.1]
theorem oGs_a2 (o : oGs h a) : rz_ar h (a + 2) 0 := ⟨_, _, o.2.2.1⟩
theorem oGs_n2 (o : oGs h a) : rz_ln h (a + 2) = 30 := by unfold rz_ln; rw [o.2.2.1]
theorem oGs_a3 (o : oGs h a) : rz_ar h (a + 3) 0 := ⟨_, _, o.2.2.2⟩
theorem oGs_n3 (o : oGs h a) : rz_ln h (a + 3) = 1000 := by unfold rz_ln; rw [o.2.2.2]
def oLw (h : Nat → Option rx_E) (a : Nat) : Prop := h a = some (.inr (5, [.ref (a + 1), .ref (a + 2), .ref (a + 3), .int 0])) ∧ h (a + 1) = some (.inl (0, 150, fun _ => .int 0)) ∧ h (a + 2) = some (.inl (0, 21, fun _ => .int 0)) ∧ h (a + 3) = some (.inl (0, 8, fun _ => .int 0))
theorem oLw_c (o : oLw h a) : rz_oc h a 5 := ⟨_, o.1⟩
theorem oLw_f0 (o : oLw h a) : rz_fR h a 5 0 := ⟨_, _, o.1, rfl, rfl⟩
theorem oLw_v0 (o : oLw h a) : rz_rv h a 0 = .ref (a + 1) := by unfold rz_rv; rw [o.1]; rfl
theorem oLw_f1 (o : oLw h a) : rz_fR h a 5 1 := ⟨_, _, o.1, rfl, rfl⟩
theorem oLw_v1 (o : oLw h a) : rz_rv h a 1 = .ref (a + 2) := by unfold rz_rv; rw [o.1]; rfl
theorem oLw_f2 (o : oLw h a) : rz_fR h a 5 2 := ⟨_, _, o.1, rfl, rfl⟩
theorem oLw_v2 (o : oLw h a) : rz_rv h a 2 = .ref (a + 3) := by unfold rz_rv; rw [o.1]; rfl
theorem oLw_i3 (o : oLw h a) : rz_fI h a 5 3 := ⟨_, _, o.1, rfl⟩
theorem oLw_a1 (o : oLw h a) : rz_ar h (a + 1) 0 := ⟨_, _, o.2.1⟩
theorem oLw_n1 (o : oLw h a) : rz_ln h (a + 1) = 150 := by unfold rz_ln; rw [o.2.1]
theorem oLw_a2 (o : oLw h a) : rz_ar h (a + 2) 0 := ⟨_, _, o.2.2.1⟩
theorem oLw_n2 (o : oLw h a) : rz_ln h (a + 2) = 21 := by unfold rz_ln; rw [o.2.2.1]
theorem oLw_a3 (o : oLw h a) : rz_ar h (a + 3) 0 := ⟨_, _, o.2.2.2⟩
theorem oLw_n3 (o : oLw h a) : rz_ln h (a + 3) = 8 := by unfold rz_ln; rw [o.2.2.2]
def oLt (h : Nat → Option rx_E) (a : Nat) (t : Nat) (l : Nat) : Prop := h a = some (.inr (6, [.ref t, .ref l]))
theorem oLt_c (o : oLt h a t l) : rz_oc h a 6 := ⟨_, o⟩
theorem oLt_f0 (o : oLt h a t l) : rz_fR h a 6 0 := ⟨_, _, o, rfl, rfl⟩
theorem oLt_v0 (o : oLt h a t l) : rz_rv h a 0 = .ref t := by unfold rz_rv; rw [o]; rfl
theorem oLt_f1 (o : oLt h a t l) : rz_fR h a 6 1 := ⟨_, _, o, rfl, rfl⟩
theorem oLt_v1 (o : oLt h a t l) : rz_rv h a 1 = .ref l := by unfold rz_rv; rw [o]; rfl
def oMm (h : Nat → Option rx_E) (a : Nat) (r : Nat) (pv : Value) : Prop := h a = some (.inr (7, [.ref r, pv, .int 0])) ∧ rz_isr pv = true
theorem oMm_c (o : oMm h a r pv) : rz_oc h a 7 := ⟨_, o.1⟩
theorem oMm_f0 (o : oMm h a r pv) : rz_fR h a 7 0 := ⟨_, _, o.1, rfl, rfl⟩
theorem oMm_v0 (o : oMm h a r pv) : rz_rv h a 0 = .ref r := by unfold rz_rv; rw [o.1]; rfl
theorem oMm_f1 (o : oMm h a r pv) : rz_fR h a 7 1 := ⟨_, _, o.1, rfl, o.2⟩
theorem oMm_v1 (o : oMm h a r pv) : rz_rv h a 1 = pv := by unfold rz_rv; rw [o.1]; rfl
theorem oMm_i2 (o : oMm h a r pv) : rz_fI h a 7 2 := ⟨_, _, o.1, rfl⟩
def oRl (h : Nat → Option rx_E) (a : Nat) : Prop := h a = some (.inr (8, [.ref (a + 1), .ref (a + 2), .ref (a + 3), .int 0, .int 0, .int 0, .int 0, .int 0, .int 0])) ∧ h (a + 1) = some (.inl (0, 24, fun _ => .int 0)) ∧ h (a + 2) = some (.inl (0, 24, fun _ => .int 0)) ∧ h (a + 3) = some (.inl (0, 8, fun _ => .int 0))
theorem oRl_c (o : oRl h a) : rz_oc h a 8 := ⟨_, o.1⟩
theorem oRl_f0 (o : oRl h a) : rz_fR h a 8 0 := ⟨_, _, o.1, rfl, rfl⟩
theorem oRl_v0 (o : oRl h a) : rz_rv h a 0 = .ref (a + 1) := by unfold rz_rv; rw [o.1]; rfl
theorem oRl_f1 (o : oRl h a) : rz_fR h a 8 1 := ⟨_, _, o.1, rfl, rfl⟩
theorem oRl_v1 (o : oRl h a) : rz_rv h a 1 = .ref (a + 2) := by unfold rz_rv; rw [o.1]; rfl
theorem oRl_f2 (o : oRl h a) : rz_fR h a 8 2 := ⟨_, _, o.1, rfl, rfl⟩
theorem oRl_v2 (o : oRl h a) : rz_rv h a 2 = .ref (a + 3) := by unfold rz_rv; rw [o.1]; rfl
theorem oRl_i3 (o : oRl h a) : rz_fI h a 8 3 := ⟨_, _, o.1, rfl⟩
theorem oRl_i4 (o : oRl h a) : rz_fI h a 8 4 := ⟨_, _, o.1, rfl⟩
theorem oRl_i5 (o : oRl h a) : rz_fI h a 8 5 := ⟨_, _, o.1, rfl⟩
theorem oRl_i6 (o : oRl h a) : rz_fI h a 8 6 := ⟨_, _, o.1, rfl⟩
theorem oRl_i7 (o : oRl h a) : rz_fI h a 8 7 := ⟨_, _, o.1, rfl⟩
theorem oRl_i8 (o : oRl h a) : rz_fI h a 8 8 := ⟨_, _, o.1, rfl⟩
theorem oRl_a1 (o : oRl h a) : rz_ar h (a + 1) 0 := ⟨_, _, o.2.1⟩
theorem oRl_n1 (o : oRl h a) : rz_ln h (a + 1) = 24 := by unfold rz_ln; rw [o.2.1]
theorem oRl_a2 (o : oRl h a) : rz_ar h (a + 2) 0 := ⟨_, _, o.2.2.1⟩
theorem oRl_n2 (o : oRl h a) : rz_ln h (a + 2) = 24 := by unfold rz_ln; rw [o.2.2.1]
theorem oRl_a3 (o : oRl h a) : rz_ar h (a + 3) 0 := ⟨_, _, o.2.2.2⟩
theorem oRl_n3 (o : oRl h a) : rz_ln h (a + 3) = 8 := by unfold rz_ln; rw [o.2.2.2]
def oTp (h : Nat → Option rx_E) (a : Nat) : Prop := h a = some (.inr (9, [.ref (a + 1), .int 0, .int 0, .int 0, .int 0, .int 0, .int 0])) ∧ h (a + 1) = some (.inl (0, 600, fun _ => .int 0))
theorem oTp_c (o : oTp h a) : rz_oc h a 9 := ⟨_, o.1⟩
theorem oTp_f0 (o : oTp h a) : rz_fR h a 9 0 := ⟨_, _, o.1, rfl, rfl⟩
theorem oTp_v0 (o : oTp h a) : rz_rv h a 0 = .ref (a + 1) := by unfold rz_rv; rw [o.1]; rfl
theorem oTp_i1 (o : oTp h a) : rz_fI h a 9 1 := ⟨_, _, o.1, rfl⟩
theorem oTp_i2 (o : oTp h a) : rz_fI h a 9 2 := ⟨_, _, o.1, rfl⟩
theorem oTp_i3 (o : oTp h a) : rz_fI h a 9 3 := ⟨_, _, o.1, rfl⟩
theorem oTp_i4 (o : oTp h a) : rz_fI h a 9 4 := ⟨_, _, o.1, rfl⟩
theorem oTp_i5 (o : oTp h a) : rz_fI h a 9 5 := ⟨_, _, o.1, rfl⟩
theorem oTp_i6 (o : oTp h a) : rz_fI h a 9 6 := ⟨_, _, o.1, rfl⟩
theorem oTp_a1 (o : oTp h a) : rz_ar h (a + 1) 0 := ⟨_, _, o.2⟩
theorem oTp_n1 (o : oTp h a) : rz_ln h (a + 1) = 600 := by unfold rz_ln; rw [o.2]
def oWt (h : Nat → Option rx_E) (a : Nat) (t : Nat) : Prop := h a = some (.inr (10, [.ref t, .ref (a + 1), .ref (a + 2), .ref (a + 3), .int 0, .int 0, .int 0, .int 0, .int 0])) ∧ h (a + 1) = some (.inl (0, 148, fun _ => .int 0)) ∧ h (a + 2) = some (.inl (0, 6, fun _ => .int 0)) ∧ h (a + 3) = some (.inl (0, 6, fun _ => .int 0))
theorem oWt_c (o : oWt h a t) : rz_oc h a 10 := ⟨_, o.1⟩
theorem oWt_f0 (o : oWt h a t) : rz_fR h a 10 0 := ⟨_, _, o.1, rfl, rfl⟩
theorem oWt_v0 (o : oWt h a t) : rz_rv h a 0 = .ref t := by unfold rz_rv; rw [o.1]; rfl
theorem oWt_f1 (o : oWt h a t) : rz_fR h a 10 1 := ⟨_, _, o.1, rfl, rfl⟩
theorem oWt_v1 (o : oWt h a t) : rz_rv h a 1 = .ref (a + 1) := by unfold rz_rv; rw [o.1]; rfl
theorem oWt_f2 (o : oWt h a t) : rz_fR h a 10 2 := ⟨_, _, o.1, rfl, rfl⟩
theorem oWt_v2 (o : oWt h a t) : rz_rv h a 2 = .ref (a + 2) := by unfold rz_rv; rw [o.1]; rfl
theorem oWt_f3 (o : oWt h a t) : rz_fR h a 10 3 := ⟨_, _, o.1, rfl, rfl⟩
theorem oWt_v3 (o : oWt h a t) : rz_rv h a 3 = .ref (a + 3) := by unfold rz_rv; rw [o.1]; rfl
theorem oWt_i4 (o : oWt h a t) : rz_fI h a 10 4 := ⟨_, _, o.1, rfl⟩
theorem oWt_i5 (o : oWt h a t) : rz_fI h a 10 5 := ⟨_, _, o.1, rfl⟩
theorem oWt_i6 (o : oWt h a t) : rz_fI h a 10 6 := ⟨_, _, o.1, rfl⟩
theorem oWt_i7 (o : oWt h a t) : rz_fI h a 10 7 := ⟨_, _, o.1, rfl⟩
theorem oWt_i8 (o : oWt h a t) : rz_fI h a 10 8 := ⟨_, _, o.1, rfl⟩
theorem oWt_a1 (o : oWt h a t) : rz_ar h (a + 1) 0 := ⟨_, _, o.2.1⟩
theorem oWt_n1 (o : oWt h a t) : rz_ln h (a + 1) = 148 := by unfold rz_ln; rw [o.2.1]
theorem oWt_a2 (o : oWt h a t) : rz_ar h (a + 2) 0 := ⟨_, _, o.2.2.1⟩
theorem oWt_n2 (o : oWt h a t) : rz_ln h (a + 2) = 6 := by unfold rz_ln; rw [o.2.2.1]
theorem oWt_a3 (o : oWt h a t) : rz_ar h (a + 3) 0 := ⟨_, _, o.2.2.2⟩
theorem oWt_n3 (o : oWt h a t) : rz_ln h (a + 3) = 6 := by unfold rz_ln; rw [o.2.2.2]
def oHr (h : Nat → Option rx_E) (a : Nat) (l : Nat) (r : Nat) (pv : Value) : Prop := h a = some (.inr (11, [.ref (a + 1), .ref (a + 3), .ref (a + 4), .ref (a + 9), .ref (a + 13), .ref (a + 16), .ref (a + 23), .ref (a + 27), .ref (a + 31), .ref (a + 32), .ref l, .ref r, pv, .int 0, .int 0, .int 0, .int 0, .int 0])) ∧ rz_isr pv = true
theorem oHr_c (o : oHr h a l r pv) : rz_oc h a 11 := ⟨_, o.1⟩
theorem oHr_f0 (o : oHr h a l r pv) : rz_fR h a 11 0 := ⟨_, _, o.1, rfl, rfl⟩
theorem oHr_v0 (o : oHr h a l r pv) : rz_rv h a 0 = .ref (a + 1) := by unfold rz_rv; rw [o.1]; rfl
theorem oHr_f1 (o : oHr h a l r pv) : rz_fR h a 11 1 := ⟨_, _, o.1, rfl, rfl⟩
theorem oHr_v1 (o : oHr h a l r pv) : rz_rv h a 1 = .ref (a + 3) := by unfold rz_rv; rw [o.1]; rfl
theorem oHr_f2 (o : oHr h a l r pv) : rz_fR h a 11 2 := ⟨_, _, o.1, rfl, rfl⟩
theorem oHr_v2 (o : oHr h a l r pv) : rz_rv h a 2 = .ref (a + 4) := by unfold rz_rv; rw [o.1]; rfl
theorem oHr_f3 (o : oHr h a l r pv) : rz_fR h a 11 3 := ⟨_, _, o.1, rfl, rfl⟩
theorem oHr_v3 (o : oHr h a l r pv) : rz_rv h a 3 = .ref (a + 9) := by unfold rz_rv; rw [o.1]; rfl
theorem oHr_f4 (o : oHr h a l r pv) : rz_fR h a 11 4 := ⟨_, _, o.1, rfl, rfl⟩
theorem oHr_v4 (o : oHr h a l r pv) : rz_rv h a 4 = .ref (a + 13) := by unfold rz_rv; rw [o.1]; rfl
theorem oHr_f5 (o : oHr h a l r pv) : rz_fR h a 11 5 := ⟨_, _, o.1, rfl, rfl⟩
theorem oHr_v5 (o : oHr h a l r pv) : rz_rv h a 5 = .ref (a + 16) := by unfold rz_rv; rw [o.1]; rfl
theorem oHr_f6 (o : oHr h a l r pv) : rz_fR h a 11 6 := ⟨_, _, o.1, rfl, rfl⟩
theorem oHr_v6 (o : oHr h a l r pv) : rz_rv h a 6 = .ref (a + 23) := by unfold rz_rv; rw [o.1]; rfl
theorem oHr_f7 (o : oHr h a l r pv) : rz_fR h a 11 7 := ⟨_, _, o.1, rfl, rfl⟩
theorem oHr_v7 (o : oHr h a l r pv) : rz_rv h a 7 = .ref (a + 27) := by unfold rz_rv; rw [o.1]; rfl
theorem oHr_f8 (o : oHr h a l r pv) : rz_fR h a 11 8 := ⟨_, _, o.1, rfl, rfl⟩
theorem oHr_v8 (o : oHr h a l r pv) : rz_rv h a 8 = .ref (a + 31) := by unfold rz_rv; rw [o.1]; rfl
theorem oHr_f9 (o : oHr h a l r pv) : rz_fR h a 11 9 := ⟨_, _, o.1, rfl, rfl⟩
theorem oHr_v9 (o : oHr h a l r pv) : rz_rv h a 9 = .ref (a + 32) := by unfold rz_rv; rw [o.1]; rfl
theorem oHr_f10 (o : oHr h a l r pv) : rz_fR h a 11 10 := ⟨_, _, o.1, rfl, rfl⟩
theorem oHr_v10 (o : oHr h a l r pv) : rz_rv h a 10 = .ref l := by unfold rz_rv; rw [o.1]; rfl
theorem oHr_f11 (o : oHr h a l r pv) : rz_fR h a 11 11 := ⟨_, _, o.1, rfl, rfl⟩
theorem oHr_v11 (o : oHr h a l r pv) : rz_rv h a 11 = .ref r := by unfold rz_rv; rw [o.1]; rfl
theorem oHr_f12 (o : oHr h a l r pv) : rz_fR h a 11 12 := ⟨_, _, o.1, rfl, o.2⟩
theorem oHr_v12 (o : oHr h a l r pv) : rz_rv h a 12 = pv := by unfold rz_rv; rw [o.1]; rfl
theorem oHr_i13 (o : oHr h a l r pv) : rz_fI h a 11 13 := ⟨_, _, o.1, rfl⟩
theorem oHr_i14 (o : oHr h a l r pv) : rz_fI h a 11 14 := ⟨_, _, o.1, rfl⟩
theorem oHr_i15 (o : oHr h a l r pv) : rz_fI h a 11 15 := ⟨_, _, o.1, rfl⟩
theorem oHr_i16 (o : oHr h a l r pv) : rz_fI h a 11 16 := ⟨_, _, o.1, rfl⟩
theorem oHr_i17 (o : oHr h a l r pv) : rz_fI h a 11 17 := ⟨_, _, o.1, rfl⟩
def oMd (h : Nat → Option rx_E) (a : Nat) : Prop := h a = some (.inr (12, [.int 0, .int 0, .int 0, .int 0, .int 0, .int 0, .int 0, .int 0, .int 0, .ref (a + 1), .ref (a + 2), .ref (a + 3), .ref (a + 4), .ref (a + 5), .ref (a + 14), .int 0, .int 0, .ref (a + 23), .ref (a + 184), .ref (a + 345), .ref (a + 354), .ref (a + 363), .ref (a + 364), .ref (a + 365), .int 0, .ref (a + 446), .ref (a + 447), .ref (a + 448), .ref (a + 465), .int 0, .int 0, .int 0, .int 0, .int 0, .int 0, .int 0, .ref (a + 469), .ref (a + 470), .ref (a + 471), .int 0, .ref (a + 472), .ref (a + 473), .int 0, .ref (a + 474), .int 0])) ∧ h (a + 1) = some (.inl (0, 600, fun _ => .int 0)) ∧ h (a + 2) = some (.inl (0, 2, fun _ => .int 0)) ∧ h (a + 3) = some (.inl (0, 3, fun _ => .int 0)) ∧ h (a + 4) = some (.inl (0, 3, fun _ => .int 0)) ∧ h (a + 363) = some (.inl (0, 160, fun _ => .int 0)) ∧ h (a + 364) = some (.inl (0, 8, fun _ => .int 0)) ∧ h (a + 446) = some (.inl (0, 62, fun _ => .int 0)) ∧ h (a + 447) = some (.inl (0, 62, fun _ => .int 0)) ∧ h (a + 469) = some (.inl (0, 100, fun _ => .int 0)) ∧ h (a + 470) = some (.inl (0, 8, fun _ => .int 0)) ∧ h (a + 471) = some (.inl (0, 8, fun _ => .int 0)) ∧ h (a + 472) = some (.inl (0, 8, fun _ => .int 0)) ∧ h (a + 473) = some (.inl (0, 8, fun _ => .int 0)) ∧ h (a + 5) = some (.inl (3, 8, fun j => .ref (a + (6 + j)))) ∧ (∀ j, j < 8 → h (a + (6 + j)) = some (.inl (0, 3, fun _ => .int 0))) ∧ h (a + 14) = some (.inl (3, 8, fun j => .ref (a + (15 + j)))) ∧ (∀ j, j < 8 → h (a + (15 + j)) = some (.inl (0, 3, fun _ => .int 0))) ∧ h (a + 23) = some (.inl (3, 160, fun j => .ref (a + (24 + j)))) ∧ (∀ j, j < 160 → h (a + (24 + j)) = some (.inl (0, 2, fun _ => .int 0))) ∧ h (a + 184) = some (.inl (3, 160, fun j => .ref (a + (185 + j)))) ∧ (∀ j, j < 160 → h (a + (185 + j)) = some (.inl (0, 2, fun _ => .int 0))) ∧ h (a + 345) = some (.inl (3, 8, fun j => .ref (a + (346 + j)))) ∧ (∀ j, j < 8 → h (a + (346 + j)) = some (.inl (0, 2, fun _ => .int 0))) ∧ h (a + 354) = some (.inl (3, 8, fun j => .ref (a + (355 + j)))) ∧ (∀ j, j < 8 → h (a + (355 + j)) = some (.inl (0, 2, fun _ => .int 0))) ∧ h (a + 365) = some (.inl (3, 80, fun j => .ref (a + (366 + j)))) ∧ (∀ j, j < 80 → h (a + (366 + j)) = some (.inl (0, 5, fun _ => .int 0))) ∧ h (a + 448) = some (.inl (3, 16, fun j => .ref (a + (449 + j)))) ∧ (∀ j, j < 16 → h (a + (449 + j)) = some (.inl (0, 62, fun _ => .int 0))) ∧ h (a + 465) = some (.inl (3, 3, fun j => .ref (a + (466 + j)))) ∧ (∀ j, j < 3 → h (a + (466 + j)) = some (.inl (0, 1055, fun _ => .int 0)))
theorem oMd_c (o : oMd h a) : rz_oc h a 12 := ⟨_, o.1⟩
theorem oMd_i0 (o : oMd h a) : rz_fI h a 12 0 := ⟨_, _, o.1, rfl⟩
theorem oMd_i1 (o : oMd h a) : rz_fI h a 12 1 := ⟨_, _, o.1, rfl⟩
theorem oMd_i2 (o : oMd h a) : rz_fI h a 12 2 := ⟨_, _, o.1, rfl⟩
theorem oMd_i3 (o : oMd h a) : rz_fI h a 12 3 := ⟨_, _, o.1, rfl⟩
theorem oMd_i4 (o : oMd h a) : rz_fI h a 12 4 := ⟨_, _, o.1, rfl⟩
theorem oMd_i5 (o : oMd h a) : rz_fI h a 12 5 := ⟨_, _, o.1, rfl⟩
theorem oMd_i6 (o : oMd h a) : rz_fI h a 12 6 := ⟨_, _, o.1, rfl⟩
theorem oMd_i7 (o : oMd h a) : rz_fI h a 12 7 := ⟨_, _, o.1, rfl⟩
theorem oMd_i8 (o : oMd h a) : rz_fI h a 12 8 := ⟨_, _, o.1, rfl⟩
theorem oMd_f9 (o : oMd h a) : rz_fR h a 12 9 := ⟨_, _, o.1, rfl, rfl⟩
theorem oMd_v9 (o : oMd h a) : rz_rv h a 9 = .ref (a + 1) := by unfold rz_rv; rw [o.1]; rfl
theorem oMd_f10 (o : oMd h a) : rz_fR h a 12 10 := ⟨_, _, o.1, rfl, rfl⟩
theorem oMd_v10 (o : oMd h a) : rz_rv h a 10 = .ref (a + 2) := by unfold rz_rv; rw [o.1]; rfl
theorem oMd_f11 (o : oMd h a) : rz_fR h a 12 11 := ⟨_, _, o.1, rfl, rfl⟩
theorem oMd_v11 (o : oMd h a) : rz_rv h a 11 = .ref (a + 3) := by unfold rz_rv; rw [o.1]; rfl
theorem oMd_f12 (o : oMd h a) : rz_fR h a 12 12 := ⟨_, _, o.1, rfl, rfl⟩
theorem oMd_v12 (o : oMd h a) : rz_rv h a 12 = .ref (a + 4) := by unfold rz_rv; rw [o.1]; rfl
theorem oMd_f13 (o : oMd h a) : rz_fR h a 12 13 := ⟨_, _, o.1, rfl, rfl⟩
theorem oMd_v13 (o : oMd h a) : rz_rv h a 13 = .ref (a + 5) := by unfold rz_rv; rw [o.1]; rfl
theorem oMd_f14 (o : oMd h a) : rz_fR h a 12 14 := ⟨_, _, o.1, rfl, rfl⟩
theorem oMd_v14 (o : oMd h a) : rz_rv h a 14 = .ref (a + 14) := by unfold rz_rv; rw [o.1]; rfl
theorem oMd_i15 (o : oMd h a) : rz_fI h a 12 15 := ⟨_, _, o.1, rfl⟩
theorem oMd_i16 (o : oMd h a) : rz_fI h a 12 16 := ⟨_, _, o.1, rfl⟩
theorem oMd_f17 (o : oMd h a) : rz_fR h a 12 17 := ⟨_, _, o.1, rfl, rfl⟩
theorem oMd_v17 (o : oMd h a) : rz_rv h a 17 = .ref (a + 23) := by unfold rz_rv; rw [o.1]; rfl
theorem oMd_f18 (o : oMd h a) : rz_fR h a 12 18 := ⟨_, _, o.1, rfl, rfl⟩
theorem oMd_v18 (o : oMd h a) : rz_rv h a 18 = .ref (a + 184) := by unfold rz_rv; rw [o.1]; rfl
theorem oMd_f19 (o : oMd h a) : rz_fR h a 12 19 := ⟨_, _, o.1, rfl, rfl⟩
theorem oMd_v19 (o : oMd h a) : rz_rv h a 19 = .ref (a + 345) := by unfold rz_rv; rw [o.1]; rfl
theorem oMd_f20 (o : oMd h a) : rz_fR h a 12 20 := ⟨_, _, o.1, rfl, rfl⟩
theorem oMd_v20 (o : oMd h a) : rz_rv h a 20 = .ref (a + 354) := by unfold rz_rv; rw [o.1]; rfl
theorem oMd_f21 (o : oMd h a) : rz_fR h a 12 21 := ⟨_, _, o.1, rfl, rfl⟩
theorem oMd_v21 (o : oMd h a) : rz_rv h a 21 = .ref (a + 363) := by unfold rz_rv; rw [o.1]; rfl
theorem oMd_f22 (o : oMd h a) : rz_fR h a 12 22 := ⟨_, _, o.1, rfl, rfl⟩
theorem oMd_v22 (o : oMd h a) : rz_rv h a 22 = .ref (a + 364) := by unfold rz_rv; rw [o.1]; rfl
theorem oMd_f23 (o : oMd h a) : rz_fR h a 12 23 := ⟨_, _, o.1, rfl, rfl⟩
theorem oMd_v23 (o : oMd h a) : rz_rv h a 23 = .ref (a + 365) := by unfold rz_rv; rw [o.1]; rfl
theorem oMd_i24 (o : oMd h a) : rz_fI h a 12 24 := ⟨_, _, o.1, rfl⟩
theorem oMd_f25 (o : oMd h a) : rz_fR h a 12 25 := ⟨_, _, o.1, rfl, rfl⟩
theorem oMd_v25 (o : oMd h a) : rz_rv h a 25 = .ref (a + 446) := by unfold rz_rv; rw [o.1]; rfl
theorem oMd_f26 (o : oMd h a) : rz_fR h a 12 26 := ⟨_, _, o.1, rfl, rfl⟩
theorem oMd_v26 (o : oMd h a) : rz_rv h a 26 = .ref (a + 447) := by unfold rz_rv; rw [o.1]; rfl
theorem oMd_f27 (o : oMd h a) : rz_fR h a 12 27 := ⟨_, _, o.1, rfl, rfl⟩
theorem oMd_v27 (o : oMd h a) : rz_rv h a 27 = .ref (a + 448) := by unfold rz_rv; rw [o.1]; rfl
theorem oMd_f28 (o : oMd h a) : rz_fR h a 12 28 := ⟨_, _, o.1, rfl, rfl⟩
theorem oMd_v28 (o : oMd h a) : rz_rv h a 28 = .ref (a + 465) := by unfold rz_rv; rw [o.1]; rfl
theorem oMd_i29 (o : oMd h a) : rz_fI h a 12 29 := ⟨_, _, o.1, rfl⟩
theorem oMd_i30 (o : oMd h a) : rz_fI h a 12 30 := ⟨_, _, o.1, rfl⟩
theorem oMd_i31 (o : oMd h a) : rz_fI h a 12 31 := ⟨_, _, o.1, rfl⟩
theorem oMd_i32 (o : oMd h a) : rz_fI h a 12 32 := ⟨_, _, o.1, rfl⟩
theorem oMd_i33 (o : oMd h a) : rz_fI h a 12 33 := ⟨_, _, o.1, rfl⟩
theorem oMd_i34 (o : oMd h a) : rz_fI h a 12 34 := ⟨_, _, o.1, rfl⟩
theorem oMd_i35 (o : oMd h a) : rz_fI h a 12 35 := ⟨_, _, o.1, rfl⟩
theorem oMd_f36 (o : oMd h a) : rz_fR h a 12 36 := ⟨_, _, o.1, rfl, rfl⟩
theorem oMd_v36 (o : oMd h a) : rz_rv h a 36 = .ref (a + 469) := by unfold rz_rv; rw [o.1]; rfl
theorem oMd_f37 (o : oMd h a) : rz_fR h a 12 37 := ⟨_, _, o.1, rfl, rfl⟩
theorem oMd_v37 (o : oMd h a) : rz_rv h a 37 = .ref (a + 470) := by unfold rz_rv; rw [o.1]; rfl
theorem oMd_f38 (o : oMd h a) : rz_fR h a 12 38 := ⟨_, _, o.1, rfl, rfl⟩
theorem oMd_v38 (o : oMd h a) : rz_rv h a 38 = .ref (a + 471) := by unfold rz_rv; rw [o.1]; rfl
theorem oMd_i39 (o : oMd h a) : rz_fI h a 12 39 := ⟨_, _, o.1, rfl⟩
theorem oMd_f40 (o : oMd h a) : rz_fR h a 12 40 := ⟨_, _, o.1, rfl, rfl⟩
theorem oMd_v40 (o : oMd h a) : rz_rv h a 40 = .ref (a + 472) := by unfold rz_rv; rw [o.1]; rfl
theorem oMd_f41 (o : oMd h a) : rz_fR h a 12 41 := ⟨_, _, o.1, rfl, rfl⟩
theorem oMd_v41 (o : oMd h a) : rz_rv h a 41 = .ref (a + 473) := by unfold rz_rv; rw [o.1]; rfl
theorem oMd_i42 (o : oMd h a) : rz_fI h a 12 42 := ⟨_, _, o.1, rfl⟩
theorem oMd_f43 (o : oMd h a) : rz_fR h a 12 43 := ⟨_, _, o.1, rfl, rfl⟩
theorem oMd_v43 (o : oMd h a) : rz_rv h a 43 = .ref (a + 474) := by unfold rz_rv; rw [o.1]; rfl
theorem oMd_i44 (o : oMd h a) : rz_fI h a 12 44 := ⟨_, _, o.1, rfl⟩
theorem oMd_a1 (o : oMd h a) : rz_ar h (a + 1) 0 := ⟨_, _, o.2.1⟩
theorem oMd_n1 (o : oMd h a) : rz_ln h (a + 1) = 600 := by unfold rz_ln; rw [o.2.1]
theorem oMd_a2 (o : oMd h a) : rz_ar h (a + 2) 0 := ⟨_, _, o.2.2.1⟩
theorem oMd_n2 (o : oMd h a) : rz_ln h (a + 2) = 2 := by unfold rz_ln; rw [o.2.2.1]
theorem oMd_a3 (o : oMd h a) : rz_ar h (a + 3) 0 := ⟨_, _, o.2.2.2.1⟩
theorem oMd_n3 (o : oMd h a) : rz_ln h (a + 3) = 3 := by unfold rz_ln; rw [o.2.2.2.1]
theorem oMd_a4 (o : oMd h a) : rz_ar h (a + 4) 0 := ⟨_, _, o.2.2.2.2.1⟩
theorem oMd_n4 (o : oMd h a) : rz_ln h (a + 4) = 3 := by unfold rz_ln; rw [o.2.2.2.2.1]
theorem oMd_a363 (o : oMd h a) : rz_ar h (a + 363) 0 := ⟨_, _, o.2.2.2.2.2.1⟩
theorem oMd_n363 (o : oMd h a) : rz_ln h (a + 363) = 160 := by unfold rz_ln; rw [o.2.2.2.2.2.1]
theorem oMd_a364 (o : oMd h a) : rz_ar h (a + 364) 0 := ⟨_, _, o.2.2.2.2.2.2.1⟩
theorem oMd_n364 (o : oMd h a) : rz_ln h (a + 364) = 8 := by unfold rz_ln; rw [o.2.2.2.2.2.2.1]
theorem oMd_a446 (o : oMd h a) : rz_ar h (a + 446) 0 := ⟨_, _, o.2.2.2.2.2.2.2.1⟩
theorem oMd_n446 (o : oMd h a) : rz_ln h (a + 446) = 62 := by unfold rz_ln; rw [o.2.2.2.2.2.2.2.1]
theorem oMd_a447 (o : oMd h a) : rz_ar h (a + 447) 0 := ⟨_, _, o.2.2.2.2.2.2.2.2.1⟩
theorem oMd_n447 (o : oMd h a) : rz_ln h (a + 447) = 62 := by unfold rz_ln; rw [o.2.2.2.2.2.2.2.2.1]
theorem oMd_a469 (o : oMd h a) : rz_ar h (a + 469) 0 := ⟨_, _, o.2.2.2.2.2.2.2.2.2.1⟩
theorem oMd_n469 (o : oMd h a) : rz_ln h (a + 469) = 100 := by unfold rz_ln; rw [o.2.2.2.2.2.2.2.2.2.1]
theorem oMd_a470 (o : oMd h a) : rz_ar h (a + 470) 0 := ⟨_, _, o.2.2.2.2.2.2.2.2.2.2.1⟩
theorem oMd_n470 (o : oMd h a) : rz_ln h (a + 470) = 8 := by unfold rz_ln; rw [o.2.2.2.2.2.2.2.2.2.2.1]
theorem oMd_a471 (o : oMd h a) : rz_ar h (a + 471) 0 := ⟨_, _, o.2.2.2.2.2.2.2.2.2.2.2.1⟩
theorem oMd_n471 (o : oMd h a) : rz_ln h (a + 471) = 8 := by unfold rz_ln; rw [o.2.2.2.2.2.2.2.2.2.2.2.1]
theorem oMd_a472 (o : oMd h a) : rz_ar h (a + 472) 0 := ⟨_, _, o.2.2.2.2.2.2.2.2.2.2.2.2.1⟩
theorem oMd_n472 (o : oMd h a) : rz_ln h (a + 472) = 8 := by unfold rz_ln; rw [o.2.2.2.2.2.2.2.2.2.2.2.2.1]
theorem oMd_a473 (o : oMd h a) : rz_ar h (a + 473) 0 := ⟨_, _, o.2.2.2.2.2.2.2.2.2.2.2.2.2.1⟩
theorem oMd_n473 (o : oMd h a) : rz_ln h (a + 473) = 8 := by unfold rz_ln; rw [o.2.2.2.2.2.2.2.2.2.2.2.2.2.1]
theorem oMd_a5 (o : oMd h a) : rz_ar h (a + 5) 3 := ⟨_, _, o.2.2.2.2.2.2.2.2.2.2.2.2.2.2.1⟩
theorem oMd_n5 (o : oMd h a) : rz_ln h (a + 5) = 8 := by unfold rz_ln; rw [o.2.2.2.2.2.2.2.2.2.2.2.2.2.2.1]
theorem oMd_e5 (o : oMd h a) (j : Nat) : rz_el h (a + 5) j = .ref (a + (6 + j)) := by unfold rz_el; rw [o.2.2.2.2.2.2.2.2.2.2.2.2.2.2.1]
theorem oMd_ra5 (o : oMd h a) {j : Nat} (hj : j < 8) : rz_ar h (a + (6 + j)) 0 := ⟨_, _, o.2.2.2.2.2.2.2.2.2.2.2.2.2.2.2.1 j hj⟩
theorem oMd_rn5 (o : oMd h a) {j : Nat} (hj : j < 8) : rz_ln h (a + (6 + j)) = 3 := by unfold rz_ln; rw [o.2.2.2.2.2.2.2.2.2.2.2.2.2.2.2.1 j hj]
theorem oMd_a14 (o : oMd h a) : rz_ar h (a + 14) 3 := ⟨_, _, o.2.2.2.2.2.2.2.2.2.2.2.2.2.2.2.2.1⟩
theorem oMd_n14 (o : oMd h a) : rz_ln h (a + 14) = 8 := by unfold rz_ln; rw [o.2.2.2.2.2.2.2.2.2.2.2.2.2.2.2.2.1]
theorem oMd_e14 (o : oMd h a) (j : Nat) : rz_el h (a + 14) j = .ref (a + (15 + j)) := by unfold rz_el; rw [o.2.2.2.2.2.2.2.2.2.2.2.2.2.2.2.2.1]
theorem oMd_ra14 (o : oMd h a) {j : Nat} (hj : j < 8) : rz_ar h (a + (15 + j)) 0 := ⟨_, _, o.2.2.2.2.2.2.2.2.2.2.2.2.2.2.2.2.2.1 j hj⟩
theorem oMd_rn14 (o : oMd h a) {j : Nat} (hj : j < 8) : rz_ln h (a + (15 + j)) = 3 := by unfold rz_ln; rw [o.2.2.2.2.2.2.2.2.2.2.2.2.2.2.2.2.2.1 j hj]
theorem oMd_a23 (o : oMd h a) : rz_ar h (a + 23) 3 := ⟨_, _, o.2.2.2.2.2.2.2.2.2.2.2.2.2.2.2.2.2.2.1⟩
theorem oMd_n23 (o : oMd h a) : rz_ln h (a + 23) = 160 := by unfold rz_ln; rw [o.2.2.2.2.2.2.2.2.2.2.2.2.2.2.2.2.2.2.1]
theorem oMd_e23 (o : oMd h a) (j : Nat) : rz_el h (a + 23) j = .ref (a + (24 + j)) := by unfold rz_el; rw [o.2.2.2.2.2.2.2.2.2.2.2.2.2.2.2.2.2.2.1]
theorem oMd_ra23 (o : oMd h a) {j : Nat} (hj : j < 160) : rz_ar h (a + (24 + j)) 0 := ⟨_, _, o.2.2.2.2.2.2.2.2.2.2.2.2.2.2.2.2.2.2.2.1 j hj⟩
theorem oMd_rn23 (o : oMd h a) {j : Nat} (hj : j < 160) : rz_ln h (a + (24 + j)) = 2 := by unfold rz_ln; rw [o.2.2.2.2.2.2.2.2.2.2.2.2.2.2.2.2.2.2.2.1 j hj]
theorem oMd_a184 (o : oMd h a) : rz_ar h (a + 184) 3 := ⟨_, _, o.2.2.2.2.2.2.2.2.2.2.2.2.2.2.2.2.2.2.2.2.1⟩
theorem oMd_n184 (o : oMd h a) : rz_ln h (a + 184) = 160 := by unfold rz_ln; rw [o.2.2.2.2.2.2.2.2.2.2.2.2.2.2.2.2.2.2.2.2.1]
theorem oMd_e184 (o : oMd h a) (j : Nat) : rz_el h (a + 184) j = .ref (a + (185 + j)) := by unfold rz_el; rw [o.2.2.2.2.2.2.2.2.2.2.2.2.2.2.2.2.2.2.2.2.1]
theorem oMd_ra184 (o : oMd h a) {j : Nat} (hj : j < 160) : rz_ar h (a + (185 + j)) 0 := ⟨_, _, o.2.2.2.2.2.2.2.2.2.2.2.2.2.2.2.2.2.2.2.2.2.1 j hj⟩
theorem oMd_rn184 (o : oMd h a) {j : Nat} (hj : j < 160) : rz_ln h (a + (185 + j)) = 2 := by unfold rz_ln; rw [o.2.2.2.2.2.2.2.2.2.2.2.2.2.2.2.2.2.2.2.2.2.1 j hj]
theorem oMd_a345 (o : oMd h a) : rz_ar h (a + 345) 3 := ⟨_, _, o.2.2.2.2.2.2.2.2.2.2.2.2.2.2.2.2.2.2.2.2.2.2.1⟩
theorem oMd_n345 (o : oMd h a) : rz_ln h (a + 345) = 8 := by unfold rz_ln; rw [o.2.2.2.2.2.2.2.2.2.2.2.2.2.2.2.2.2.2.2.2.2.2.1]
theorem oMd_e345 (o : oMd h a) (j : Nat) : rz_el h (a + 345) j = .ref (a + (346 + j)) := by unfold rz_el; rw [o.2.2.2.2.2.2.2.2.2.2.2.2.2.2.2.2.2.2.2.2.2.2.1]
theorem oMd_ra345 (o : oMd h a) {j : Nat} (hj : j < 8) : rz_ar h (a + (346 + j)) 0 := ⟨_, _, o.2.2.2.2.2.2.2.2.2.2.2.2.2.2.2.2.2.2.2.2.2.2.2.1 j hj⟩
theorem oMd_rn345 (o : oMd h a) {j : Nat} (hj : j < 8) : rz_ln h (a + (346 + j)) = 2 := by unfold rz_ln; rw [o.2.2.2.2.2.2.2.2.2.2.2.2.2.2.2.2.2.2.2.2.2.2.2.1 j hj]
theorem oMd_a354 (o : oMd h a) : rz_ar h (a + 354) 3 := ⟨_, _, o.2.2.2.2.2.2.2.2.2.2.2.2.2.2.2.2.2.2.2.2.2.2.2.2.1⟩
theorem oMd_n354 (o : oMd h a) : rz_ln h (a + 354) = 8 := by unfold rz_ln; rw [o.2.2.2.2.2.2.2.2.2.2.2.2.2.2.2.2.2.2.2.2.2.2.2.2.1]
theorem oMd_e354 (o : oMd h a) (j : Nat) : rz_el h (a + 354) j = .ref (a + (355 + j)) := by unfold rz_el; rw [o.2.2.2.2.2.2.2.2.2.2.2.2.2.2.2.2.2.2.2.2.2.2.2.2.1]
theorem oMd_ra354 (o : oMd h a) {j : Nat} (hj : j < 8) : rz_ar h (a + (355 + j)) 0 := ⟨_, _, o.2.2.2.2.2.2.2.2.2.2.2.2.2.2.2.2.2.2.2.2.2.2.2.2.2.1 j hj⟩
theorem oMd_rn354 (o : oMd h a) {j : Nat} (hj : j < 8) : rz_ln h (a + (355 + j)) = 2 := by unfold rz_ln; rw [o.2.2.2.2.2.2.2.2.2.2.2.2.2.2.2.2.2.2.2.2.2.2.2.2.2.1 j hj]
theorem oMd_a365 (o : oMd h a) : rz_ar h (a + 365) 3 := ⟨_, _, o.2.2.2.2.2.2.2.2.2.2.2.2.2.2.2.2.2.2.2.2.2.2.2.2.2.2.1⟩
theorem oMd_n365 (o : oMd h a) : rz_ln h (a + 365) = 80 := by unfold rz_ln; rw [o.2.2.2.2.2.2.2.2.2.2.2.2.2.2.2.2.2.2.2.2.2.2.2.2.2.2.1]
theorem oMd_e365 (o : oMd h a) (j : Nat) : rz_el h (a + 365) j = .ref (a + (366 + j)) := by unfold rz_el; rw [o.2.2.2.2.2.2.2.2.2.2.2.2.2.2.2.2.2.2.2.2.2.2.2.2.2.2.1]
theorem oMd_ra365 (o : oMd h a) {j : Nat} (hj : j < 80) : rz_ar h (a + (366 + j)) 0 := ⟨_, _, o.2.2.2.2.2.2.2.2.2.2.2.2.2.2.2.2.2.2.2.2.2.2.2.2.2.2.2.1 j hj⟩
theorem oMd_rn365 (o : oMd h a) {j : Nat} (hj : j < 80) : rz_ln h (a + (366 + j)) = 5 := by unfold rz_ln; rw [o.2.2.2.2.2.2.2.2.2.2.2.2.2.2.2.2.2.2.2.2.2.2.2.2.2.2.2.1 j hj]
theorem oMd_a448 (o : oMd h a) : rz_ar h (a + 448) 3 := ⟨_, _, o.2.2.2.2.2.2.2.2.2.2.2.2.2.2.2.2.2.2.2.2.2.2.2.2.2.2.2.2.1⟩
theorem oMd_n448 (o : oMd h a) : rz_ln h (a + 448) = 16 := by unfold rz_ln; rw [o.2.2.2.2.2.2.2.2.2.2.2.2.2.2.2.2.2.2.2.2.2.2.2.2.2.2.2.2.1]
theorem oMd_e448 (o : oMd h a) (j : Nat) : rz_el h (a + 448) j = .ref (a + (449 + j)) := by unfold rz_el; rw [o.2.2.2.2.2.2.2.2.2.2.2.2.2.2.2.2.2.2.2.2.2.2.2.2.2.2.2.2.1]
theorem oMd_ra448 (o : oMd h a) {j : Nat} (hj : j < 16) : rz_ar h (a + (449 + j)) 0 := ⟨_, _, o.2.2.2.2.2.2.2.2.2.2.2.2.2.2.2.2.2.2.2.2.2.2.2.2.2.2.2.2.2.1 j hj⟩
theorem oMd_rn448 (o : oMd h a) {j : Nat} (hj : j < 16) : rz_ln h (a + (449 + j)) = 62 := by unfold rz_ln; rw [o.2.2.2.2.2.2.2.2.2.2.2.2.2.2.2.2.2.2.2.2.2.2.2.2.2.2.2.2.2.1 j hj]
theorem oMd_a465 (o : oMd h a) : rz_ar h (a + 465) 3 := ⟨_, _, o.2.2.2.2.2.2.2.2.2.2.2.2.2.2.2.2.2.2.2.2.2.2.2.2.2.2.2.2.2.2.1⟩
theorem oMd_n465 (o : oMd h a) : rz_ln h (a + 465) = 3 := by unfold rz_ln; rw [o.2.2.2.2.2.2.2.2.2.2.2.2.2.2.2.2.2.2.2.2.2.2.2.2.2.2.2.2.2.2.1]
theorem oMd_e465 (o : oMd h a) (j : Nat) : rz_el h (a + 465) j = .ref (a + (466 + j)) := by unfold rz_el; rw [o.2.2.2.2.2.2.2.2.2.2.2.2.2.2.2.2.2.2.2.2.2.2.2.2.2.2.2.2.2.2.1]
theorem oMd_ra465 (o : oMd h a) {j : Nat} (hj : j < 3) : rz_ar h (a + (466 + j)) 0 := ⟨_, _, o.2.2.2.2.2.2.2.2.2.2.2.2.2.2.2.2.2.2.2.2.2.2.2.2.2.2.2.2.2.2.2 j hj⟩
theorem oMd_rn465 (o : oMd h a) {j : Nat} (hj : j < 3) : rz_ln h (a + (466 + j)) = 1055 := by unfold rz_ln; rw [o.2.2.2.2.2.2.2.2.2.2.2.2.2.2.2.2.2.2.2.2.2.2.2.2.2.2.2.2.2.2.2 j hj]
end RZL
