/-! layouts under change elsewhere -/
theorem okS.of {Z : rx_Z} {h : Nat → Option rx_E} {ι : Nat → Nat → Int32} {nx c b : Nat} {X : XS} (i : CX Z h ι nx c b X) : okS X := by
  obtain ⟨⟨-, -, -, -, -, i6, ⟨-, -, -, -, -, -, -, -, -, f10⟩, -⟩, e⟩ := i
  exact ⟨i6, fun q => by rw [← e]; exact f10 q⟩
theorem oTp.ag {h h' : Nat → Option rx_E} {a : Nat} (o : oTp h a) (e : ∀ x, a ≤ x → x < a + 2 → h' x = h x) : oTp h' a := by
  obtain ⟨o0, o1⟩ := o
  exact ⟨(e _ (by omega) (by omega)).trans o0, (e _ (by omega) (by omega)).trans o1⟩
theorem oDk.ag {h h' : Nat → Option rx_E} {a t : Nat} (o : oDk h a t) (e : h' a = h a) : oDk h' a t := by
  show h' a = _
  rw [e]; exact o
theorem oLt.ag {h h' : Nat → Option rx_E} {a t l : Nat} (o : oLt h a t l) (e : h' a = h a) : oLt h' a t l := by
  show h' a = _
  rw [e]; exact o
theorem oLw.ag {h h' : Nat → Option rx_E} {a : Nat} (o : oLw h a) (e : ∀ x, a ≤ x → x < a + 4 → h' x = h x) : oLw h' a := by
  obtain ⟨o0, o1, o2, o3⟩ := o
  exact ⟨(e _ (by omega) (by omega)).trans o0, (e _ (by omega) (by omega)).trans o1, (e _ (by omega) (by omega)).trans o2, (e _ (by omega) (by omega)).trans o3⟩
theorem oWt.ag {h h' : Nat → Option rx_E} {a t : Nat} (o : oWt h a t) (e : ∀ x, a ≤ x → x < a + 4 → h' x = h x) : oWt h' a t := by
  obtain ⟨o0, o1, o2, o3⟩ := o
  exact ⟨(e _ (by omega) (by omega)).trans o0, (e _ (by omega) (by omega)).trans o1, (e _ (by omega) (by omega)).trans o2, (e _ (by omega) (by omega)).trans o3⟩
theorem oBk.ag {h h' : Nat → Option rx_E} {a : Nat} (o : oBk h a) (e : ∀ x, a ≤ x → x < a + 3 → h' x = h x) : oBk h' a := by
  obtain ⟨o0, o1, o2⟩ := o
  exact ⟨(e _ (by omega) (by omega)).trans o0, (e _ (by omega) (by omega)).trans o1, (e _ (by omega) (by omega)).trans o2⟩
theorem oCt.ag {h h' : Nat → Option rx_E} {a : Nat} (o : oCt h a) (e : ∀ x, a ≤ x → x < a + 7 → h' x = h x) : oCt h' a := by
  obtain ⟨o0, o1, o2, o3, o4, o5, o6⟩ := o
  exact ⟨(e _ (by omega) (by omega)).trans o0, (e _ (by omega) (by omega)).trans o1, (e _ (by omega) (by omega)).trans o2, (e _ (by omega) (by omega)).trans o3, (e _ (by omega) (by omega)).trans o4, (e _ (by omega) (by omega)).trans o5, (e _ (by omega) (by omega)).trans o6⟩
theorem oGs.ag {h h' : Nat → Option rx_E} {a : Nat} (o : oGs h a) (e : ∀ x, a ≤ x → x < a + 4 → h' x = h x) : oGs h' a := by
  obtain ⟨o0, o1, o2, o3⟩ := o
  exact ⟨(e _ (by omega) (by omega)).trans o0, (e _ (by omega) (by omega)).trans o1, (e _ (by omega) (by omega)).trans o2, (e _ (by omega) (by omega)).trans o3⟩
theorem oCh.ag {h h' : Nat → Option rx_E} {a : Nat} (o : oCh h a) (e : h' a = h a) : oCh h' a := by
  show h' a = _
  rw [e]; exact o
