/-! the special steps: copying, texts, the usual law's row, Object's constructor, throwing -/
def rx_nms : List String := ["java/lang/RuntimeException", "java/lang/Exception"]
/-- the words of a throw that aren't good ones -/
def rx_CB : List Cond := [Cond.castable "java/lang/IllegalArgumentException" "java/lang/IllegalArgumentException", Cond.castable "java/util/NoSuchElementException" "java/util/NoSuchElementException", Cond.declares ⟨"java/lang/RuntimeException", "<init>", "()V"⟩, Cond.declares ⟨"java/lang/Exception", "<init>", "()V"⟩, Cond.declares ⟨"java/lang/Throwable", "<init>", "()V"⟩]
def rx_thr (own : String) (cc : ByteArray) (pc idx k ic : Nat) : Prop := Cond.classLink own idx (rx_xn k) ∈ rx_tbl ∧ Cond.initialized (rx_xn k) ∈ rx_tbl ∧ decode cc (pc + 3) = .ok (.dup, 1) ∧ decode cc (pc + 4) = .ok (.invokespecial ic, 3) ∧ decode cc (pc + 7) = .ok (.athrow, 1) ∧ (∀ w ∈ (vx_at0 own ic (rx_xn k) rx_nms).filter goodWord, w ∈ rx_tbl) ∧ (∀ w ∈ (vx_at0 own ic (rx_xn k) rx_nms).filter (fun w => !goodWord w), w ∈ rx_CB) ∧ (∀ w ∈ Cond.classLink own idx (rx_xn k) :: Cond.initialized (rx_xn k) :: vx_at0 own ic (rx_xn k) rx_nms, vx_ot w = true)
def rx_SK (own : String) (cc : ByteArray) (q : rx_Q) : Prop := match q.2.1 with
  | .getstatic idx => Cond.fieldLink own idx "FarthestHeir$Law" "USUAL" "[I" ∈ rx_tbl
  | .ldc idx => ∃ tx, (own, idx, tx, q.2.2.2.2.1) ∈ rx_SL
  | .invokestatic idx => q.2.2.2.1 = 6 ∧ Cond.methodLink own idx arraycopyName ∈ rx_tbl
  | .invokevirtual idx => (q.2.2.2.1 = 107 ∧ Cond.methodLink own idx yJ0_length_8abf5 ∈ rx_tbl) ∨ (q.2.2.2.1 = 108 ∧ Cond.methodLink own idx yJ0_charAt_5068e ∈ rx_tbl)
  | .invokespecial idx => q.2.2.2.1 = 5 ∧ Cond.methodLink own idx objectInit ∈ rx_tbl
  | .new idx => rx_thr own cc q.1 idx q.2.2.2.1 q.2.2.2.2.1
  | _ => False
