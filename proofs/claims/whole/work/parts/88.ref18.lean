/-! the reference: one year of a century -/
section REF18
variable {Z : rx_Z} {d : Nat} {h : Nat → Option rx_E} {ι : Nat → Nat → Int32} {w : Nat × Nat} {b m lv : Nat} {C : List (Nat × Nat)} {R : Nat → Int32} {dk : Option Nat}
theorem fr44 {a : Nat → Nat → Int32} (hf : frM b ι a) (ht : a b 0 = 0) (v : Int32) : frM b ι (rz_up a b 44 v) ∧ rz_up a b 44 v b 0 = 0 ∧ rz_up a b 44 v b 44 = v ∧ rz_up a b 44 v (b + 447) = a (b + 447) := ⟨hf.upF (by unfold scF; omega), by rw [rz_up_s, rz_u_n (by decide)]; exact ht, by rw [rz_up_s, rz_u_s], rz_up_n (by omega)⟩
theorem frT {a : Nat → Nat → Int32} (hf : frM b ι a) (ht : a b 0 = 0) {f : Nat → Int32} (h62 : ∀ i, 62 ≤ i → f i = a (b + 447) i) : frM b ι (rz_rw a (b + 447) f) ∧ rz_rw a (b + 447) f b 0 = 0 ∧ rz_rw a (b + 447) f b 44 = a b 44 ∧ rz_rw a (b + 447) f (b + 447) = f := ⟨hf.rwT h62, by rw [rz_rw_n (show b ≠ b + 447 by omega)]; exact ht, by rw [rz_rw_n (show b ≠ b + 447 by omega)], rz_rw_s _ _ _⟩
end REF18
