/-! the special steps: copying, texts, the usual law's row, Object's constructor, throwing -/
def rx_nms : List String := ["java/lang/RuntimeException", "java/lang/Exception"]
/-- the words of a throw that aren't good ones -/
def rx_CB : List Cond := [Cond.castable "java/lang/IllegalArgumentException" "java/lang/IllegalArgumentException", Cond.castable "java/util/NoSuchElementException" "java/util/NoSuchElementException", Cond.declares ⟨"java/lang/RuntimeException", "<init>", "()V"⟩, Cond.declares ⟨"java/lang/Exception", "<init>", "()V"⟩, Cond.declares ⟨"java/lang/Throwable", "<init>", "()V"⟩]
def rx_thr (own : String) (cc : ByteArray) (pc idx k ic : Nat) : Prop := Cond.classLink own idx (rx_xn k) ∈ rx_tbl ∧ Cond.initialized (rx_xn k) ∈ rx_tbl ∧ decode cc (pc + 3) = .ok (.dup, 1) ∧ decode cc (pc + 4) = .ok (.invokespecial ic, 3) ∧ decode cc (pc + 7) = .ok (.athrow, 1) ∧ (∀ w ∈ (vx_at0 own ic (rx_xn k) rx_nms).filter goodWord, w ∈ rx_tbl) ∧ (∀ w ∈ (vx_at0 own ic (rx_xn k) rx_nms).filter (fun w => !goodWord w), w ∈ rx_CB) ∧ (∀ w ∈ Cond.classLink own idx (rx_xn k) :: Cond.initialized (rx_xn k) :: vx_at0 own ic (rx_xn k) rx_nms, vx_ot w = true)
def rx_SK (own : String) (cc : ByteArray) (q : rx_Q) : Prop := match q.2.1 with
  | .getstatic idx => (q.2.2.2.1 = 0 ∧ Cond.fieldLink own idx "FarthestHeir$Law" "USUAL" "[I" ∈ rx_tbl) ∨ (q.2.2.2.1 = 1 ∧ Cond.fieldLink own idx "java/lang/String" "COMPACT_STRINGS" "Z" ∈ rx_tbl) ∨ (q.2.2.2.1 = 2 ∧ Cond.fieldLink own idx "jdk/internal/util/Preconditions" "SIOOBE_FORMATTER" "Ljava/util/function/BiFunction;" ∈ rx_tbl)
  | .ldc idx => ∃ tx, (own, idx, tx, q.2.2.2.2.1) ∈ rx_SL
  | .getfield idx => (q.2.2.2.1 = 60 ∧ Cond.fieldLink own idx "java/lang/String" "value" "[B" ∈ rx_tbl) ∨ (q.2.2.2.1 = 61 ∧ Cond.fieldLink own idx "java/lang/String" "coder" "B" ∈ rx_tbl)
  | .invokestatic idx => (q.2.2.2.1 = 6 ∧ Cond.methodLink own idx arraycopyName ∈ rx_tbl) ∨ (q.2.2.2.1 = 10 ∧ Cond.methodLink own idx Lib.Math.max.name ∈ rx_tbl) ∨ (q.2.2.2.1 = 11 ∧ Cond.methodLink own idx Lib.Math.min.name ∈ rx_tbl) ∨ (q.2.2.2.1 = 12 ∧ Cond.methodLink own idx Lib.Math.abs.name ∈ rx_tbl)
  | .invokespecial idx => q.2.2.2.1 = 5 ∧ Cond.methodLink own idx objectInit ∈ rx_tbl
  | .new idx => rx_thr own cc q.1 idx q.2.2.2.1 q.2.2.2.2.1
  | _ => False
