/-! a new object of the reference -/
section NEW4
variable {Z : rx_Z} {d : Nat} {h : Nat → Option rx_E} {ι : Nat → Nat → Int32}
theorem mnh_s {h : Nat → Option rx_E} {a n k : Nat} : rx_mnh h a n k a = some (.inl (3, n, fun j => .ref (a + 1 + j))) := by unfold rx_mnh; rw [if_pos rfl]
theorem mnh_e {h : Nat → Option rx_E} {a n k x : Nat} (h1 : a < x) (h2 : x < a + 1 + n) : rx_mnh h a n k x = some (.inl (0, k, fun _ => .int 0)) := by unfold rx_mnh; rw [if_neg (by omega), if_pos ⟨h1, h2⟩]
theorem mnh_n {h : Nat → Option rx_E} {a n k x : Nat} (h1 : x < a ∨ a + 1 + n ≤ x) : rx_mnh h a n k x = h x := by unfold rx_mnh; rw [if_neg (by omega), if_neg (by omega)]
theorem zzs_n {ι : Nat → Nat → Int32} {a n x : Nat} (h1 : x < a ∨ a + 1 + n ≤ x) : rz_zs ι a n x = ι x := by unfold rz_zs; rw [if_neg (by omega)]
theorem zzs_e {ι : Nat → Nat → Int32} {a n x : Nat} (h1 : a ≤ x) (h2 : x < a + 1 + n) : rz_zs ι a n x = (fun _ => 0) := by unfold rz_zs; rw [if_pos ⟨h1, h2⟩]
theorem zz_s {ι : Nat → Nat → Int32} {a : Nat} : rz_z ι a a = (fun _ => 0) := by unfold rz_z; rw [if_pos rfl]
theorem nw_model0 {b s : Nat} (hz : Z.2.1 ≤ b) (e : h b = some (.inr (12, rx_df 12))) (he : ι b = (fun _ => 0)) : ∃ h' ι', rz_f Z (d + 3) 171 [.ref b] (rz_mk h ι, (b + 1, s)) = rg Z (d + 2) rx_m171 224 [some (.ref b)] [.ref b] (rz_mk h' ι', (b + 475, s + 6774)) ∧ oMd h' b ∧ h' (b + 474) = some (.inl (1, 14, fun _ => .long 0)) ∧ ι' b = rz_u (fun _ => 0) 3 (-1) ∧ (∀ x, b < x → x < b + 475 → ι' x = (fun _ => 0)) ∧ ∀ x, (x < b ∨ b + 475 ≤ x) → h' x = h x ∧ ι' x = ι x := by
  have ag0 : h b = some (.inr (12, [.int 0, .int 0, .int 0, .int 0, .int 0, .int 0, .int 0, .int 0, .int 0, .null, .null, .null, .null, .null, .null, .int 0, .int 0, .null, .null, .null, .null, .null, .null, .null, .int 0, .null, .null, .null, .null, .int 0, .int 0, .int 0, .int 0, .int 0, .int 0, .int 0, .null, .null, .null, .int 0, .null, .null, .int 0, .null, .int 0])) := by rw [e]; rfl
  obtain ⟨i0, I0⟩ : ∃ y, y = rz_up ι b 3 (-1) := ⟨_, rfl⟩
  have ib0 : i0 b = rz_u (fun _ => 0) 3 (-1) := by rw [I0, rz_up_s, he]
  obtain ⟨m1, N1⟩ : ∃ y, y = rx_up h (b + 1) (.inl (0, 600, fun _ => .int 0)) := ⟨_, rfl⟩
  obtain ⟨i1, J1⟩ : ∃ y, y = rz_z i0 (b + 1) := ⟨_, rfl⟩
  have am1 : m1 b = some (.inr (12, [.int 0, .int 0, .int 0, .int 0, .int 0, .int 0, .int 0, .int 0, .int 0, .null, .null, .null, .null, .null, .null, .int 0, .int 0, .null, .null, .null, .null, .null, .null, .null, .int 0, .null, .null, .null, .null, .int 0, .int 0, .int 0, .int 0, .int 0, .int 0, .int 0, .null, .null, .null, .int 0, .null, .null, .int 0, .null, .int 0])) := by rw [N1, up_ne (by omega)]; exact ag0
  have ib1 : i1 b = rz_u (fun _ => 0) 3 (-1) := by rw [J1, zz_ne (by omega)]; exact ib0
  obtain ⟨g1, G1⟩ : ∃ y, y = rz_hs m1 b 9 (.ref (b + 1)) := ⟨_, rfl⟩
  have ag1 : g1 b = some (.inr (12, [.int 0, .int 0, .int 0, .int 0, .int 0, .int 0, .int 0, .int 0, .int 0, .ref (b + 1), .null, .null, .null, .null, .null, .int 0, .int 0, .null, .null, .null, .null, .null, .null, .null, .int 0, .null, .null, .null, .null, .int 0, .int 0, .int 0, .int 0, .int 0, .int 0, .int 0, .null, .null, .null, .int 0, .null, .null, .int 0, .null, .int 0])) := by rw [G1, hs_s am1]; rfl
  have K1 : ∀ x, x ≠ b → (x < b + 1 ∨ b + 2 ≤ x) → g1 x = h x ∧ i1 x = i0 x := fun x hx hy => ⟨by rw [G1, hs_ne hx, N1, up_ne (by omega)], by rw [J1, zz_ne (by omega)]⟩
  have Y1 : ∀ x, b < x → x < b + 2 → i1 x = (fun _ => 0) := fun x h1 h2 => by rw [show x = b + 1 by omega, J1, zz_s]
  obtain ⟨m2, N2⟩ : ∃ y, y = rx_up g1 (b + 2) (.inl (0, 2, fun _ => .int 0)) := ⟨_, rfl⟩
  obtain ⟨i2, J2⟩ : ∃ y, y = rz_z i1 (b + 2) := ⟨_, rfl⟩
  have am2 : m2 b = some (.inr (12, [.int 0, .int 0, .int 0, .int 0, .int 0, .int 0, .int 0, .int 0, .int 0, .ref (b + 1), .null, .null, .null, .null, .null, .int 0, .int 0, .null, .null, .null, .null, .null, .null, .null, .int 0, .null, .null, .null, .null, .int 0, .int 0, .int 0, .int 0, .int 0, .int 0, .int 0, .null, .null, .null, .int 0, .null, .null, .int 0, .null, .int 0])) := by rw [N2, up_ne (by omega)]; exact ag1
  have ib2 : i2 b = rz_u (fun _ => 0) 3 (-1) := by rw [J2, zz_ne (by omega)]; exact ib1
  obtain ⟨g2, G2⟩ : ∃ y, y = rz_hs m2 b 10 (.ref (b + 2)) := ⟨_, rfl⟩
  have ag2 : g2 b = some (.inr (12, [.int 0, .int 0, .int 0, .int 0, .int 0, .int 0, .int 0, .int 0, .int 0, .ref (b + 1), .ref (b + 2), .null, .null, .null, .null, .int 0, .int 0, .null, .null, .null, .null, .null, .null, .null, .int 0, .null, .null, .null, .null, .int 0, .int 0, .int 0, .int 0, .int 0, .int 0, .int 0, .null, .null, .null, .int 0, .null, .null, .int 0, .null, .int 0])) := by rw [G2, hs_s am2]; rfl
  have K2 : ∀ x, x ≠ b → (x < b + 2 ∨ b + 3 ≤ x) → g2 x = g1 x ∧ i2 x = i1 x := fun x hx hy => ⟨by rw [G2, hs_ne hx, N2, up_ne (by omega)], by rw [J2, zz_ne (by omega)]⟩
  have Y2 : ∀ x, b < x → x < b + 3 → i2 x = (fun _ => 0) := fun x h1 h2 => by
    by_cases h3 : x < b + 2
    · rw [(K2 x (by omega) (by omega)).2]; exact Y1 x h1 h3
    · exact (by rw [show x = b + 2 by omega, J2, zz_s])
  obtain ⟨m3, N3⟩ : ∃ y, y = rx_up g2 (b + 3) (.inl (0, 3, fun _ => .int 0)) := ⟨_, rfl⟩
  obtain ⟨i3, J3⟩ : ∃ y, y = rz_z i2 (b + 3) := ⟨_, rfl⟩
  have am3 : m3 b = some (.inr (12, [.int 0, .int 0, .int 0, .int 0, .int 0, .int 0, .int 0, .int 0, .int 0, .ref (b + 1), .ref (b + 2), .null, .null, .null, .null, .int 0, .int 0, .null, .null, .null, .null, .null, .null, .null, .int 0, .null, .null, .null, .null, .int 0, .int 0, .int 0, .int 0, .int 0, .int 0, .int 0, .null, .null, .null, .int 0, .null, .null, .int 0, .null, .int 0])) := by rw [N3, up_ne (by omega)]; exact ag2
  have ib3 : i3 b = rz_u (fun _ => 0) 3 (-1) := by rw [J3, zz_ne (by omega)]; exact ib2
  obtain ⟨g3, G3⟩ : ∃ y, y = rz_hs m3 b 11 (.ref (b + 3)) := ⟨_, rfl⟩
  have ag3 : g3 b = some (.inr (12, [.int 0, .int 0, .int 0, .int 0, .int 0, .int 0, .int 0, .int 0, .int 0, .ref (b + 1), .ref (b + 2), .ref (b + 3), .null, .null, .null, .int 0, .int 0, .null, .null, .null, .null, .null, .null, .null, .int 0, .null, .null, .null, .null, .int 0, .int 0, .int 0, .int 0, .int 0, .int 0, .int 0, .null, .null, .null, .int 0, .null, .null, .int 0, .null, .int 0])) := by rw [G3, hs_s am3]; rfl
  have K3 : ∀ x, x ≠ b → (x < b + 3 ∨ b + 4 ≤ x) → g3 x = g2 x ∧ i3 x = i2 x := fun x hx hy => ⟨by rw [G3, hs_ne hx, N3, up_ne (by omega)], by rw [J3, zz_ne (by omega)]⟩
  have Y3 : ∀ x, b < x → x < b + 4 → i3 x = (fun _ => 0) := fun x h1 h2 => by
    by_cases h3 : x < b + 3
    · rw [(K3 x (by omega) (by omega)).2]; exact Y2 x h1 h3
    · exact (by rw [show x = b + 3 by omega, J3, zz_s])
  obtain ⟨m4, N4⟩ : ∃ y, y = rx_up g3 (b + 4) (.inl (0, 3, fun _ => .int 0)) := ⟨_, rfl⟩
  obtain ⟨i4, J4⟩ : ∃ y, y = rz_z i3 (b + 4) := ⟨_, rfl⟩
  have am4 : m4 b = some (.inr (12, [.int 0, .int 0, .int 0, .int 0, .int 0, .int 0, .int 0, .int 0, .int 0, .ref (b + 1), .ref (b + 2), .ref (b + 3), .null, .null, .null, .int 0, .int 0, .null, .null, .null, .null, .null, .null, .null, .int 0, .null, .null, .null, .null, .int 0, .int 0, .int 0, .int 0, .int 0, .int 0, .int 0, .null, .null, .null, .int 0, .null, .null, .int 0, .null, .int 0])) := by rw [N4, up_ne (by omega)]; exact ag3
  have ib4 : i4 b = rz_u (fun _ => 0) 3 (-1) := by rw [J4, zz_ne (by omega)]; exact ib3
  obtain ⟨g4, G4⟩ : ∃ y, y = rz_hs m4 b 12 (.ref (b + 4)) := ⟨_, rfl⟩
  have ag4 : g4 b = some (.inr (12, [.int 0, .int 0, .int 0, .int 0, .int 0, .int 0, .int 0, .int 0, .int 0, .ref (b + 1), .ref (b + 2), .ref (b + 3), .ref (b + 4), .null, .null, .int 0, .int 0, .null, .null, .null, .null, .null, .null, .null, .int 0, .null, .null, .null, .null, .int 0, .int 0, .int 0, .int 0, .int 0, .int 0, .int 0, .null, .null, .null, .int 0, .null, .null, .int 0, .null, .int 0])) := by rw [G4, hs_s am4]; rfl
  have K4 : ∀ x, x ≠ b → (x < b + 4 ∨ b + 5 ≤ x) → g4 x = g3 x ∧ i4 x = i3 x := fun x hx hy => ⟨by rw [G4, hs_ne hx, N4, up_ne (by omega)], by rw [J4, zz_ne (by omega)]⟩
  have Y4 : ∀ x, b < x → x < b + 5 → i4 x = (fun _ => 0) := fun x h1 h2 => by
    by_cases h3 : x < b + 4
    · rw [(K4 x (by omega) (by omega)).2]; exact Y3 x h1 h3
    · exact (by rw [show x = b + 4 by omega, J4, zz_s])
  obtain ⟨m5, N5⟩ : ∃ y, y = rx_mnh g4 (b + 5) 8 3 := ⟨_, rfl⟩
  obtain ⟨i5, J5⟩ : ∃ y, y = rz_zs i4 (b + 5) 8 := ⟨_, rfl⟩
  have am5 : m5 b = some (.inr (12, [.int 0, .int 0, .int 0, .int 0, .int 0, .int 0, .int 0, .int 0, .int 0, .ref (b + 1), .ref (b + 2), .ref (b + 3), .ref (b + 4), .null, .null, .int 0, .int 0, .null, .null, .null, .null, .null, .null, .null, .int 0, .null, .null, .null, .null, .int 0, .int 0, .int 0, .int 0, .int 0, .int 0, .int 0, .null, .null, .null, .int 0, .null, .null, .int 0, .null, .int 0])) := by rw [N5, mnh_n (by omega)]; exact ag4
  have ib5 : i5 b = rz_u (fun _ => 0) 3 (-1) := by rw [J5, zzs_n (by omega)]; exact ib4
  obtain ⟨g5, G5⟩ : ∃ y, y = rz_hs m5 b 13 (.ref (b + 5)) := ⟨_, rfl⟩
  have ag5 : g5 b = some (.inr (12, [.int 0, .int 0, .int 0, .int 0, .int 0, .int 0, .int 0, .int 0, .int 0, .ref (b + 1), .ref (b + 2), .ref (b + 3), .ref (b + 4), .ref (b + 5), .null, .int 0, .int 0, .null, .null, .null, .null, .null, .null, .null, .int 0, .null, .null, .null, .null, .int 0, .int 0, .int 0, .int 0, .int 0, .int 0, .int 0, .null, .null, .null, .int 0, .null, .null, .int 0, .null, .int 0])) := by rw [G5, hs_s am5]; rfl
  have K5 : ∀ x, x ≠ b → (x < b + 5 ∨ b + 14 ≤ x) → g5 x = g4 x ∧ i5 x = i4 x := fun x hx hy => ⟨by rw [G5, hs_ne hx, N5, mnh_n (by omega)], by rw [J5, zzs_n (by omega)]⟩
  have Y5 : ∀ x, b < x → x < b + 14 → i5 x = (fun _ => 0) := fun x h1 h2 => by
    by_cases h3 : x < b + 5
    · rw [(K5 x (by omega) (by omega)).2]; exact Y4 x h1 h3
    · exact (by rw [J5, zzs_e (by omega) (by omega)])
  obtain ⟨m6, N6⟩ : ∃ y, y = rx_mnh g5 (b + 14) 8 3 := ⟨_, rfl⟩
  obtain ⟨i6, J6⟩ : ∃ y, y = rz_zs i5 (b + 14) 8 := ⟨_, rfl⟩
  have am6 : m6 b = some (.inr (12, [.int 0, .int 0, .int 0, .int 0, .int 0, .int 0, .int 0, .int 0, .int 0, .ref (b + 1), .ref (b + 2), .ref (b + 3), .ref (b + 4), .ref (b + 5), .null, .int 0, .int 0, .null, .null, .null, .null, .null, .null, .null, .int 0, .null, .null, .null, .null, .int 0, .int 0, .int 0, .int 0, .int 0, .int 0, .int 0, .null, .null, .null, .int 0, .null, .null, .int 0, .null, .int 0])) := by rw [N6, mnh_n (by omega)]; exact ag5
  have ib6 : i6 b = rz_u (fun _ => 0) 3 (-1) := by rw [J6, zzs_n (by omega)]; exact ib5
  obtain ⟨g6, G6⟩ : ∃ y, y = rz_hs m6 b 14 (.ref (b + 14)) := ⟨_, rfl⟩
  have ag6 : g6 b = some (.inr (12, [.int 0, .int 0, .int 0, .int 0, .int 0, .int 0, .int 0, .int 0, .int 0, .ref (b + 1), .ref (b + 2), .ref (b + 3), .ref (b + 4), .ref (b + 5), .ref (b + 14), .int 0, .int 0, .null, .null, .null, .null, .null, .null, .null, .int 0, .null, .null, .null, .null, .int 0, .int 0, .int 0, .int 0, .int 0, .int 0, .int 0, .null, .null, .null, .int 0, .null, .null, .int 0, .null, .int 0])) := by rw [G6, hs_s am6]; rfl
  have K6 : ∀ x, x ≠ b → (x < b + 14 ∨ b + 23 ≤ x) → g6 x = g5 x ∧ i6 x = i5 x := fun x hx hy => ⟨by rw [G6, hs_ne hx, N6, mnh_n (by omega)], by rw [J6, zzs_n (by omega)]⟩
  have Y6 : ∀ x, b < x → x < b + 23 → i6 x = (fun _ => 0) := fun x h1 h2 => by
    by_cases h3 : x < b + 14
    · rw [(K6 x (by omega) (by omega)).2]; exact Y5 x h1 h3
    · exact (by rw [J6, zzs_e (by omega) (by omega)])
  obtain ⟨m7, N7⟩ : ∃ y, y = rx_mnh g6 (b + 23) 160 2 := ⟨_, rfl⟩
  obtain ⟨i7, J7⟩ : ∃ y, y = rz_zs i6 (b + 23) 160 := ⟨_, rfl⟩
  have am7 : m7 b = some (.inr (12, [.int 0, .int 0, .int 0, .int 0, .int 0, .int 0, .int 0, .int 0, .int 0, .ref (b + 1), .ref (b + 2), .ref (b + 3), .ref (b + 4), .ref (b + 5), .ref (b + 14), .int 0, .int 0, .null, .null, .null, .null, .null, .null, .null, .int 0, .null, .null, .null, .null, .int 0, .int 0, .int 0, .int 0, .int 0, .int 0, .int 0, .null, .null, .null, .int 0, .null, .null, .int 0, .null, .int 0])) := by rw [N7, mnh_n (by omega)]; exact ag6
  have ib7 : i7 b = rz_u (fun _ => 0) 3 (-1) := by rw [J7, zzs_n (by omega)]; exact ib6
  obtain ⟨g7, G7⟩ : ∃ y, y = rz_hs m7 b 17 (.ref (b + 23)) := ⟨_, rfl⟩
  have ag7 : g7 b = some (.inr (12, [.int 0, .int 0, .int 0, .int 0, .int 0, .int 0, .int 0, .int 0, .int 0, .ref (b + 1), .ref (b + 2), .ref (b + 3), .ref (b + 4), .ref (b + 5), .ref (b + 14), .int 0, .int 0, .ref (b + 23), .null, .null, .null, .null, .null, .null, .int 0, .null, .null, .null, .null, .int 0, .int 0, .int 0, .int 0, .int 0, .int 0, .int 0, .null, .null, .null, .int 0, .null, .null, .int 0, .null, .int 0])) := by rw [G7, hs_s am7]; rfl
  have K7 : ∀ x, x ≠ b → (x < b + 23 ∨ b + 184 ≤ x) → g7 x = g6 x ∧ i7 x = i6 x := fun x hx hy => ⟨by rw [G7, hs_ne hx, N7, mnh_n (by omega)], by rw [J7, zzs_n (by omega)]⟩
  have Y7 : ∀ x, b < x → x < b + 184 → i7 x = (fun _ => 0) := fun x h1 h2 => by
    by_cases h3 : x < b + 23
    · rw [(K7 x (by omega) (by omega)).2]; exact Y6 x h1 h3
    · exact (by rw [J7, zzs_e (by omega) (by omega)])
  obtain ⟨m8, N8⟩ : ∃ y, y = rx_mnh g7 (b + 184) 160 2 := ⟨_, rfl⟩
  obtain ⟨i8, J8⟩ : ∃ y, y = rz_zs i7 (b + 184) 160 := ⟨_, rfl⟩
  have am8 : m8 b = some (.inr (12, [.int 0, .int 0, .int 0, .int 0, .int 0, .int 0, .int 0, .int 0, .int 0, .ref (b + 1), .ref (b + 2), .ref (b + 3), .ref (b + 4), .ref (b + 5), .ref (b + 14), .int 0, .int 0, .ref (b + 23), .null, .null, .null, .null, .null, .null, .int 0, .null, .null, .null, .null, .int 0, .int 0, .int 0, .int 0, .int 0, .int 0, .int 0, .null, .null, .null, .int 0, .null, .null, .int 0, .null, .int 0])) := by rw [N8, mnh_n (by omega)]; exact ag7
  have ib8 : i8 b = rz_u (fun _ => 0) 3 (-1) := by rw [J8, zzs_n (by omega)]; exact ib7
  obtain ⟨g8, G8⟩ : ∃ y, y = rz_hs m8 b 18 (.ref (b + 184)) := ⟨_, rfl⟩
  have ag8 : g8 b = some (.inr (12, [.int 0, .int 0, .int 0, .int 0, .int 0, .int 0, .int 0, .int 0, .int 0, .ref (b + 1), .ref (b + 2), .ref (b + 3), .ref (b + 4), .ref (b + 5), .ref (b + 14), .int 0, .int 0, .ref (b + 23), .ref (b + 184), .null, .null, .null, .null, .null, .int 0, .null, .null, .null, .null, .int 0, .int 0, .int 0, .int 0, .int 0, .int 0, .int 0, .null, .null, .null, .int 0, .null, .null, .int 0, .null, .int 0])) := by rw [G8, hs_s am8]; rfl
  have K8 : ∀ x, x ≠ b → (x < b + 184 ∨ b + 345 ≤ x) → g8 x = g7 x ∧ i8 x = i7 x := fun x hx hy => ⟨by rw [G8, hs_ne hx, N8, mnh_n (by omega)], by rw [J8, zzs_n (by omega)]⟩
  have Y8 : ∀ x, b < x → x < b + 345 → i8 x = (fun _ => 0) := fun x h1 h2 => by
    by_cases h3 : x < b + 184
    · rw [(K8 x (by omega) (by omega)).2]; exact Y7 x h1 h3
    · exact (by rw [J8, zzs_e (by omega) (by omega)])
  obtain ⟨m9, N9⟩ : ∃ y, y = rx_mnh g8 (b + 345) 8 2 := ⟨_, rfl⟩
  obtain ⟨i9, J9⟩ : ∃ y, y = rz_zs i8 (b + 345) 8 := ⟨_, rfl⟩
  have am9 : m9 b = some (.inr (12, [.int 0, .int 0, .int 0, .int 0, .int 0, .int 0, .int 0, .int 0, .int 0, .ref (b + 1), .ref (b + 2), .ref (b + 3), .ref (b + 4), .ref (b + 5), .ref (b + 14), .int 0, .int 0, .ref (b + 23), .ref (b + 184), .null, .null, .null, .null, .null, .int 0, .null, .null, .null, .null, .int 0, .int 0, .int 0, .int 0, .int 0, .int 0, .int 0, .null, .null, .null, .int 0, .null, .null, .int 0, .null, .int 0])) := by rw [N9, mnh_n (by omega)]; exact ag8
  have ib9 : i9 b = rz_u (fun _ => 0) 3 (-1) := by rw [J9, zzs_n (by omega)]; exact ib8
  obtain ⟨g9, G9⟩ : ∃ y, y = rz_hs m9 b 19 (.ref (b + 345)) := ⟨_, rfl⟩
  have ag9 : g9 b = some (.inr (12, [.int 0, .int 0, .int 0, .int 0, .int 0, .int 0, .int 0, .int 0, .int 0, .ref (b + 1), .ref (b + 2), .ref (b + 3), .ref (b + 4), .ref (b + 5), .ref (b + 14), .int 0, .int 0, .ref (b + 23), .ref (b + 184), .ref (b + 345), .null, .null, .null, .null, .int 0, .null, .null, .null, .null, .int 0, .int 0, .int 0, .int 0, .int 0, .int 0, .int 0, .null, .null, .null, .int 0, .null, .null, .int 0, .null, .int 0])) := by rw [G9, hs_s am9]; rfl
  have K9 : ∀ x, x ≠ b → (x < b + 345 ∨ b + 354 ≤ x) → g9 x = g8 x ∧ i9 x = i8 x := fun x hx hy => ⟨by rw [G9, hs_ne hx, N9, mnh_n (by omega)], by rw [J9, zzs_n (by omega)]⟩
  have Y9 : ∀ x, b < x → x < b + 354 → i9 x = (fun _ => 0) := fun x h1 h2 => by
    by_cases h3 : x < b + 345
    · rw [(K9 x (by omega) (by omega)).2]; exact Y8 x h1 h3
    · exact (by rw [J9, zzs_e (by omega) (by omega)])
  obtain ⟨m10, N10⟩ : ∃ y, y = rx_mnh g9 (b + 354) 8 2 := ⟨_, rfl⟩
  obtain ⟨i10, J10⟩ : ∃ y, y = rz_zs i9 (b + 354) 8 := ⟨_, rfl⟩
  have am10 : m10 b = some (.inr (12, [.int 0, .int 0, .int 0, .int 0, .int 0, .int 0, .int 0, .int 0, .int 0, .ref (b + 1), .ref (b + 2), .ref (b + 3), .ref (b + 4), .ref (b + 5), .ref (b + 14), .int 0, .int 0, .ref (b + 23), .ref (b + 184), .ref (b + 345), .null, .null, .null, .null, .int 0, .null, .null, .null, .null, .int 0, .int 0, .int 0, .int 0, .int 0, .int 0, .int 0, .null, .null, .null, .int 0, .null, .null, .int 0, .null, .int 0])) := by rw [N10, mnh_n (by omega)]; exact ag9
  have ib10 : i10 b = rz_u (fun _ => 0) 3 (-1) := by rw [J10, zzs_n (by omega)]; exact ib9
  obtain ⟨g10, G10⟩ : ∃ y, y = rz_hs m10 b 20 (.ref (b + 354)) := ⟨_, rfl⟩
  have ag10 : g10 b = some (.inr (12, [.int 0, .int 0, .int 0, .int 0, .int 0, .int 0, .int 0, .int 0, .int 0, .ref (b + 1), .ref (b + 2), .ref (b + 3), .ref (b + 4), .ref (b + 5), .ref (b + 14), .int 0, .int 0, .ref (b + 23), .ref (b + 184), .ref (b + 345), .ref (b + 354), .null, .null, .null, .int 0, .null, .null, .null, .null, .int 0, .int 0, .int 0, .int 0, .int 0, .int 0, .int 0, .null, .null, .null, .int 0, .null, .null, .int 0, .null, .int 0])) := by rw [G10, hs_s am10]; rfl
  have K10 : ∀ x, x ≠ b → (x < b + 354 ∨ b + 363 ≤ x) → g10 x = g9 x ∧ i10 x = i9 x := fun x hx hy => ⟨by rw [G10, hs_ne hx, N10, mnh_n (by omega)], by rw [J10, zzs_n (by omega)]⟩
  have Y10 : ∀ x, b < x → x < b + 363 → i10 x = (fun _ => 0) := fun x h1 h2 => by
    by_cases h3 : x < b + 354
    · rw [(K10 x (by omega) (by omega)).2]; exact Y9 x h1 h3
    · exact (by rw [J10, zzs_e (by omega) (by omega)])
  obtain ⟨m11, N11⟩ : ∃ y, y = rx_up g10 (b + 363) (.inl (0, 160, fun _ => .int 0)) := ⟨_, rfl⟩
  obtain ⟨i11, J11⟩ : ∃ y, y = rz_z i10 (b + 363) := ⟨_, rfl⟩
  have am11 : m11 b = some (.inr (12, [.int 0, .int 0, .int 0, .int 0, .int 0, .int 0, .int 0, .int 0, .int 0, .ref (b + 1), .ref (b + 2), .ref (b + 3), .ref (b + 4), .ref (b + 5), .ref (b + 14), .int 0, .int 0, .ref (b + 23), .ref (b + 184), .ref (b + 345), .ref (b + 354), .null, .null, .null, .int 0, .null, .null, .null, .null, .int 0, .int 0, .int 0, .int 0, .int 0, .int 0, .int 0, .null, .null, .null, .int 0, .null, .null, .int 0, .null, .int 0])) := by rw [N11, up_ne (by omega)]; exact ag10
  have ib11 : i11 b = rz_u (fun _ => 0) 3 (-1) := by rw [J11, zz_ne (by omega)]; exact ib10
  obtain ⟨g11, G11⟩ : ∃ y, y = rz_hs m11 b 21 (.ref (b + 363)) := ⟨_, rfl⟩
  have ag11 : g11 b = some (.inr (12, [.int 0, .int 0, .int 0, .int 0, .int 0, .int 0, .int 0, .int 0, .int 0, .ref (b + 1), .ref (b + 2), .ref (b + 3), .ref (b + 4), .ref (b + 5), .ref (b + 14), .int 0, .int 0, .ref (b + 23), .ref (b + 184), .ref (b + 345), .ref (b + 354), .ref (b + 363), .null, .null, .int 0, .null, .null, .null, .null, .int 0, .int 0, .int 0, .int 0, .int 0, .int 0, .int 0, .null, .null, .null, .int 0, .null, .null, .int 0, .null, .int 0])) := by rw [G11, hs_s am11]; rfl
  have K11 : ∀ x, x ≠ b → (x < b + 363 ∨ b + 364 ≤ x) → g11 x = g10 x ∧ i11 x = i10 x := fun x hx hy => ⟨by rw [G11, hs_ne hx, N11, up_ne (by omega)], by rw [J11, zz_ne (by omega)]⟩
  have Y11 : ∀ x, b < x → x < b + 364 → i11 x = (fun _ => 0) := fun x h1 h2 => by
    by_cases h3 : x < b + 363
    · rw [(K11 x (by omega) (by omega)).2]; exact Y10 x h1 h3
    · exact (by rw [show x = b + 363 by omega, J11, zz_s])
  obtain ⟨m12, N12⟩ : ∃ y, y = rx_up g11 (b + 364) (.inl (0, 8, fun _ => .int 0)) := ⟨_, rfl⟩
  obtain ⟨i12, J12⟩ : ∃ y, y = rz_z i11 (b + 364) := ⟨_, rfl⟩
  have am12 : m12 b = some (.inr (12, [.int 0, .int 0, .int 0, .int 0, .int 0, .int 0, .int 0, .int 0, .int 0, .ref (b + 1), .ref (b + 2), .ref (b + 3), .ref (b + 4), .ref (b + 5), .ref (b + 14), .int 0, .int 0, .ref (b + 23), .ref (b + 184), .ref (b + 345), .ref (b + 354), .ref (b + 363), .null, .null, .int 0, .null, .null, .null, .null, .int 0, .int 0, .int 0, .int 0, .int 0, .int 0, .int 0, .null, .null, .null, .int 0, .null, .null, .int 0, .null, .int 0])) := by rw [N12, up_ne (by omega)]; exact ag11
  have ib12 : i12 b = rz_u (fun _ => 0) 3 (-1) := by rw [J12, zz_ne (by omega)]; exact ib11
  obtain ⟨g12, G12⟩ : ∃ y, y = rz_hs m12 b 22 (.ref (b + 364)) := ⟨_, rfl⟩
  have ag12 : g12 b = some (.inr (12, [.int 0, .int 0, .int 0, .int 0, .int 0, .int 0, .int 0, .int 0, .int 0, .ref (b + 1), .ref (b + 2), .ref (b + 3), .ref (b + 4), .ref (b + 5), .ref (b + 14), .int 0, .int 0, .ref (b + 23), .ref (b + 184), .ref (b + 345), .ref (b + 354), .ref (b + 363), .ref (b + 364), .null, .int 0, .null, .null, .null, .null, .int 0, .int 0, .int 0, .int 0, .int 0, .int 0, .int 0, .null, .null, .null, .int 0, .null, .null, .int 0, .null, .int 0])) := by rw [G12, hs_s am12]; rfl
  have K12 : ∀ x, x ≠ b → (x < b + 364 ∨ b + 365 ≤ x) → g12 x = g11 x ∧ i12 x = i11 x := fun x hx hy => ⟨by rw [G12, hs_ne hx, N12, up_ne (by omega)], by rw [J12, zz_ne (by omega)]⟩
  have Y12 : ∀ x, b < x → x < b + 365 → i12 x = (fun _ => 0) := fun x h1 h2 => by
    by_cases h3 : x < b + 364
    · rw [(K12 x (by omega) (by omega)).2]; exact Y11 x h1 h3
    · exact (by rw [show x = b + 364 by omega, J12, zz_s])
  obtain ⟨m13, N13⟩ : ∃ y, y = rx_mnh g12 (b + 365) 80 5 := ⟨_, rfl⟩
  obtain ⟨i13, J13⟩ : ∃ y, y = rz_zs i12 (b + 365) 80 := ⟨_, rfl⟩
  have am13 : m13 b = some (.inr (12, [.int 0, .int 0, .int 0, .int 0, .int 0, .int 0, .int 0, .int 0, .int 0, .ref (b + 1), .ref (b + 2), .ref (b + 3), .ref (b + 4), .ref (b + 5), .ref (b + 14), .int 0, .int 0, .ref (b + 23), .ref (b + 184), .ref (b + 345), .ref (b + 354), .ref (b + 363), .ref (b + 364), .null, .int 0, .null, .null, .null, .null, .int 0, .int 0, .int 0, .int 0, .int 0, .int 0, .int 0, .null, .null, .null, .int 0, .null, .null, .int 0, .null, .int 0])) := by rw [N13, mnh_n (by omega)]; exact ag12
  have ib13 : i13 b = rz_u (fun _ => 0) 3 (-1) := by rw [J13, zzs_n (by omega)]; exact ib12
  obtain ⟨g13, G13⟩ : ∃ y, y = rz_hs m13 b 23 (.ref (b + 365)) := ⟨_, rfl⟩
  have ag13 : g13 b = some (.inr (12, [.int 0, .int 0, .int 0, .int 0, .int 0, .int 0, .int 0, .int 0, .int 0, .ref (b + 1), .ref (b + 2), .ref (b + 3), .ref (b + 4), .ref (b + 5), .ref (b + 14), .int 0, .int 0, .ref (b + 23), .ref (b + 184), .ref (b + 345), .ref (b + 354), .ref (b + 363), .ref (b + 364), .ref (b + 365), .int 0, .null, .null, .null, .null, .int 0, .int 0, .int 0, .int 0, .int 0, .int 0, .int 0, .null, .null, .null, .int 0, .null, .null, .int 0, .null, .int 0])) := by rw [G13, hs_s am13]; rfl
  have K13 : ∀ x, x ≠ b → (x < b + 365 ∨ b + 446 ≤ x) → g13 x = g12 x ∧ i13 x = i12 x := fun x hx hy => ⟨by rw [G13, hs_ne hx, N13, mnh_n (by omega)], by rw [J13, zzs_n (by omega)]⟩
  have Y13 : ∀ x, b < x → x < b + 446 → i13 x = (fun _ => 0) := fun x h1 h2 => by
    by_cases h3 : x < b + 365
    · rw [(K13 x (by omega) (by omega)).2]; exact Y12 x h1 h3
    · exact (by rw [J13, zzs_e (by omega) (by omega)])
  obtain ⟨m14, N14⟩ : ∃ y, y = rx_up g13 (b + 446) (.inl (0, 62, fun _ => .int 0)) := ⟨_, rfl⟩
  obtain ⟨i14, J14⟩ : ∃ y, y = rz_z i13 (b + 446) := ⟨_, rfl⟩
  have am14 : m14 b = some (.inr (12, [.int 0, .int 0, .int 0, .int 0, .int 0, .int 0, .int 0, .int 0, .int 0, .ref (b + 1), .ref (b + 2), .ref (b + 3), .ref (b + 4), .ref (b + 5), .ref (b + 14), .int 0, .int 0, .ref (b + 23), .ref (b + 184), .ref (b + 345), .ref (b + 354), .ref (b + 363), .ref (b + 364), .ref (b + 365), .int 0, .null, .null, .null, .null, .int 0, .int 0, .int 0, .int 0, .int 0, .int 0, .int 0, .null, .null, .null, .int 0, .null, .null, .int 0, .null, .int 0])) := by rw [N14, up_ne (by omega)]; exact ag13
  have ib14 : i14 b = rz_u (fun _ => 0) 3 (-1) := by rw [J14, zz_ne (by omega)]; exact ib13
  obtain ⟨g14, G14⟩ : ∃ y, y = rz_hs m14 b 25 (.ref (b + 446)) := ⟨_, rfl⟩
  have ag14 : g14 b = some (.inr (12, [.int 0, .int 0, .int 0, .int 0, .int 0, .int 0, .int 0, .int 0, .int 0, .ref (b + 1), .ref (b + 2), .ref (b + 3), .ref (b + 4), .ref (b + 5), .ref (b + 14), .int 0, .int 0, .ref (b + 23), .ref (b + 184), .ref (b + 345), .ref (b + 354), .ref (b + 363), .ref (b + 364), .ref (b + 365), .int 0, .ref (b + 446), .null, .null, .null, .int 0, .int 0, .int 0, .int 0, .int 0, .int 0, .int 0, .null, .null, .null, .int 0, .null, .null, .int 0, .null, .int 0])) := by rw [G14, hs_s am14]; rfl
  have K14 : ∀ x, x ≠ b → (x < b + 446 ∨ b + 447 ≤ x) → g14 x = g13 x ∧ i14 x = i13 x := fun x hx hy => ⟨by rw [G14, hs_ne hx, N14, up_ne (by omega)], by rw [J14, zz_ne (by omega)]⟩
  have Y14 : ∀ x, b < x → x < b + 447 → i14 x = (fun _ => 0) := fun x h1 h2 => by
    by_cases h3 : x < b + 446
    · rw [(K14 x (by omega) (by omega)).2]; exact Y13 x h1 h3
    · exact (by rw [show x = b + 446 by omega, J14, zz_s])
  obtain ⟨m15, N15⟩ : ∃ y, y = rx_up g14 (b + 447) (.inl (0, 62, fun _ => .int 0)) := ⟨_, rfl⟩
  obtain ⟨i15, J15⟩ : ∃ y, y = rz_z i14 (b + 447) := ⟨_, rfl⟩
  have am15 : m15 b = some (.inr (12, [.int 0, .int 0, .int 0, .int 0, .int 0, .int 0, .int 0, .int 0, .int 0, .ref (b + 1), .ref (b + 2), .ref (b + 3), .ref (b + 4), .ref (b + 5), .ref (b + 14), .int 0, .int 0, .ref (b + 23), .ref (b + 184), .ref (b + 345), .ref (b + 354), .ref (b + 363), .ref (b + 364), .ref (b + 365), .int 0, .ref (b + 446), .null, .null, .null, .int 0, .int 0, .int 0, .int 0, .int 0, .int 0, .int 0, .null, .null, .null, .int 0, .null, .null, .int 0, .null, .int 0])) := by rw [N15, up_ne (by omega)]; exact ag14
  have ib15 : i15 b = rz_u (fun _ => 0) 3 (-1) := by rw [J15, zz_ne (by omega)]; exact ib14
  obtain ⟨g15, G15⟩ : ∃ y, y = rz_hs m15 b 26 (.ref (b + 447)) := ⟨_, rfl⟩
  have ag15 : g15 b = some (.inr (12, [.int 0, .int 0, .int 0, .int 0, .int 0, .int 0, .int 0, .int 0, .int 0, .ref (b + 1), .ref (b + 2), .ref (b + 3), .ref (b + 4), .ref (b + 5), .ref (b + 14), .int 0, .int 0, .ref (b + 23), .ref (b + 184), .ref (b + 345), .ref (b + 354), .ref (b + 363), .ref (b + 364), .ref (b + 365), .int 0, .ref (b + 446), .ref (b + 447), .null, .null, .int 0, .int 0, .int 0, .int 0, .int 0, .int 0, .int 0, .null, .null, .null, .int 0, .null, .null, .int 0, .null, .int 0])) := by rw [G15, hs_s am15]; rfl
  have K15 : ∀ x, x ≠ b → (x < b + 447 ∨ b + 448 ≤ x) → g15 x = g14 x ∧ i15 x = i14 x := fun x hx hy => ⟨by rw [G15, hs_ne hx, N15, up_ne (by omega)], by rw [J15, zz_ne (by omega)]⟩
  have Y15 : ∀ x, b < x → x < b + 448 → i15 x = (fun _ => 0) := fun x h1 h2 => by
    by_cases h3 : x < b + 447
    · rw [(K15 x (by omega) (by omega)).2]; exact Y14 x h1 h3
    · exact (by rw [show x = b + 447 by omega, J15, zz_s])
  obtain ⟨m16, N16⟩ : ∃ y, y = rx_mnh g15 (b + 448) 16 62 := ⟨_, rfl⟩
  obtain ⟨i16, J16⟩ : ∃ y, y = rz_zs i15 (b + 448) 16 := ⟨_, rfl⟩
  have am16 : m16 b = some (.inr (12, [.int 0, .int 0, .int 0, .int 0, .int 0, .int 0, .int 0, .int 0, .int 0, .ref (b + 1), .ref (b + 2), .ref (b + 3), .ref (b + 4), .ref (b + 5), .ref (b + 14), .int 0, .int 0, .ref (b + 23), .ref (b + 184), .ref (b + 345), .ref (b + 354), .ref (b + 363), .ref (b + 364), .ref (b + 365), .int 0, .ref (b + 446), .ref (b + 447), .null, .null, .int 0, .int 0, .int 0, .int 0, .int 0, .int 0, .int 0, .null, .null, .null, .int 0, .null, .null, .int 0, .null, .int 0])) := by rw [N16, mnh_n (by omega)]; exact ag15
  have ib16 : i16 b = rz_u (fun _ => 0) 3 (-1) := by rw [J16, zzs_n (by omega)]; exact ib15
  obtain ⟨g16, G16⟩ : ∃ y, y = rz_hs m16 b 27 (.ref (b + 448)) := ⟨_, rfl⟩
  have ag16 : g16 b = some (.inr (12, [.int 0, .int 0, .int 0, .int 0, .int 0, .int 0, .int 0, .int 0, .int 0, .ref (b + 1), .ref (b + 2), .ref (b + 3), .ref (b + 4), .ref (b + 5), .ref (b + 14), .int 0, .int 0, .ref (b + 23), .ref (b + 184), .ref (b + 345), .ref (b + 354), .ref (b + 363), .ref (b + 364), .ref (b + 365), .int 0, .ref (b + 446), .ref (b + 447), .ref (b + 448), .null, .int 0, .int 0, .int 0, .int 0, .int 0, .int 0, .int 0, .null, .null, .null, .int 0, .null, .null, .int 0, .null, .int 0])) := by rw [G16, hs_s am16]; rfl
  have K16 : ∀ x, x ≠ b → (x < b + 448 ∨ b + 465 ≤ x) → g16 x = g15 x ∧ i16 x = i15 x := fun x hx hy => ⟨by rw [G16, hs_ne hx, N16, mnh_n (by omega)], by rw [J16, zzs_n (by omega)]⟩
  have Y16 : ∀ x, b < x → x < b + 465 → i16 x = (fun _ => 0) := fun x h1 h2 => by
    by_cases h3 : x < b + 448
    · rw [(K16 x (by omega) (by omega)).2]; exact Y15 x h1 h3
    · exact (by rw [J16, zzs_e (by omega) (by omega)])
  obtain ⟨m17, N17⟩ : ∃ y, y = rx_mnh g16 (b + 465) 3 1055 := ⟨_, rfl⟩
  obtain ⟨i17, J17⟩ : ∃ y, y = rz_zs i16 (b + 465) 3 := ⟨_, rfl⟩
  have am17 : m17 b = some (.inr (12, [.int 0, .int 0, .int 0, .int 0, .int 0, .int 0, .int 0, .int 0, .int 0, .ref (b + 1), .ref (b + 2), .ref (b + 3), .ref (b + 4), .ref (b + 5), .ref (b + 14), .int 0, .int 0, .ref (b + 23), .ref (b + 184), .ref (b + 345), .ref (b + 354), .ref (b + 363), .ref (b + 364), .ref (b + 365), .int 0, .ref (b + 446), .ref (b + 447), .ref (b + 448), .null, .int 0, .int 0, .int 0, .int 0, .int 0, .int 0, .int 0, .null, .null, .null, .int 0, .null, .null, .int 0, .null, .int 0])) := by rw [N17, mnh_n (by omega)]; exact ag16
  have ib17 : i17 b = rz_u (fun _ => 0) 3 (-1) := by rw [J17, zzs_n (by omega)]; exact ib16
  obtain ⟨g17, G17⟩ : ∃ y, y = rz_hs m17 b 28 (.ref (b + 465)) := ⟨_, rfl⟩
  have ag17 : g17 b = some (.inr (12, [.int 0, .int 0, .int 0, .int 0, .int 0, .int 0, .int 0, .int 0, .int 0, .ref (b + 1), .ref (b + 2), .ref (b + 3), .ref (b + 4), .ref (b + 5), .ref (b + 14), .int 0, .int 0, .ref (b + 23), .ref (b + 184), .ref (b + 345), .ref (b + 354), .ref (b + 363), .ref (b + 364), .ref (b + 365), .int 0, .ref (b + 446), .ref (b + 447), .ref (b + 448), .ref (b + 465), .int 0, .int 0, .int 0, .int 0, .int 0, .int 0, .int 0, .null, .null, .null, .int 0, .null, .null, .int 0, .null, .int 0])) := by rw [G17, hs_s am17]; rfl
  have K17 : ∀ x, x ≠ b → (x < b + 465 ∨ b + 469 ≤ x) → g17 x = g16 x ∧ i17 x = i16 x := fun x hx hy => ⟨by rw [G17, hs_ne hx, N17, mnh_n (by omega)], by rw [J17, zzs_n (by omega)]⟩
  have Y17 : ∀ x, b < x → x < b + 469 → i17 x = (fun _ => 0) := fun x h1 h2 => by
    by_cases h3 : x < b + 465
    · rw [(K17 x (by omega) (by omega)).2]; exact Y16 x h1 h3
    · exact (by rw [J17, zzs_e (by omega) (by omega)])
  obtain ⟨m18, N18⟩ : ∃ y, y = rx_up g17 (b + 469) (.inl (0, 100, fun _ => .int 0)) := ⟨_, rfl⟩
  obtain ⟨i18, J18⟩ : ∃ y, y = rz_z i17 (b + 469) := ⟨_, rfl⟩
  have am18 : m18 b = some (.inr (12, [.int 0, .int 0, .int 0, .int 0, .int 0, .int 0, .int 0, .int 0, .int 0, .ref (b + 1), .ref (b + 2), .ref (b + 3), .ref (b + 4), .ref (b + 5), .ref (b + 14), .int 0, .int 0, .ref (b + 23), .ref (b + 184), .ref (b + 345), .ref (b + 354), .ref (b + 363), .ref (b + 364), .ref (b + 365), .int 0, .ref (b + 446), .ref (b + 447), .ref (b + 448), .ref (b + 465), .int 0, .int 0, .int 0, .int 0, .int 0, .int 0, .int 0, .null, .null, .null, .int 0, .null, .null, .int 0, .null, .int 0])) := by rw [N18, up_ne (by omega)]; exact ag17
  have ib18 : i18 b = rz_u (fun _ => 0) 3 (-1) := by rw [J18, zz_ne (by omega)]; exact ib17
  obtain ⟨g18, G18⟩ : ∃ y, y = rz_hs m18 b 36 (.ref (b + 469)) := ⟨_, rfl⟩
  have ag18 : g18 b = some (.inr (12, [.int 0, .int 0, .int 0, .int 0, .int 0, .int 0, .int 0, .int 0, .int 0, .ref (b + 1), .ref (b + 2), .ref (b + 3), .ref (b + 4), .ref (b + 5), .ref (b + 14), .int 0, .int 0, .ref (b + 23), .ref (b + 184), .ref (b + 345), .ref (b + 354), .ref (b + 363), .ref (b + 364), .ref (b + 365), .int 0, .ref (b + 446), .ref (b + 447), .ref (b + 448), .ref (b + 465), .int 0, .int 0, .int 0, .int 0, .int 0, .int 0, .int 0, .ref (b + 469), .null, .null, .int 0, .null, .null, .int 0, .null, .int 0])) := by rw [G18, hs_s am18]; rfl
  have K18 : ∀ x, x ≠ b → (x < b + 469 ∨ b + 470 ≤ x) → g18 x = g17 x ∧ i18 x = i17 x := fun x hx hy => ⟨by rw [G18, hs_ne hx, N18, up_ne (by omega)], by rw [J18, zz_ne (by omega)]⟩
  have Y18 : ∀ x, b < x → x < b + 470 → i18 x = (fun _ => 0) := fun x h1 h2 => by
    by_cases h3 : x < b + 469
    · rw [(K18 x (by omega) (by omega)).2]; exact Y17 x h1 h3
    · exact (by rw [show x = b + 469 by omega, J18, zz_s])
  obtain ⟨m19, N19⟩ : ∃ y, y = rx_up g18 (b + 470) (.inl (0, 8, fun _ => .int 0)) := ⟨_, rfl⟩
  obtain ⟨i19, J19⟩ : ∃ y, y = rz_z i18 (b + 470) := ⟨_, rfl⟩
  have am19 : m19 b = some (.inr (12, [.int 0, .int 0, .int 0, .int 0, .int 0, .int 0, .int 0, .int 0, .int 0, .ref (b + 1), .ref (b + 2), .ref (b + 3), .ref (b + 4), .ref (b + 5), .ref (b + 14), .int 0, .int 0, .ref (b + 23), .ref (b + 184), .ref (b + 345), .ref (b + 354), .ref (b + 363), .ref (b + 364), .ref (b + 365), .int 0, .ref (b + 446), .ref (b + 447), .ref (b + 448), .ref (b + 465), .int 0, .int 0, .int 0, .int 0, .int 0, .int 0, .int 0, .ref (b + 469), .null, .null, .int 0, .null, .null, .int 0, .null, .int 0])) := by rw [N19, up_ne (by omega)]; exact ag18
  have ib19 : i19 b = rz_u (fun _ => 0) 3 (-1) := by rw [J19, zz_ne (by omega)]; exact ib18
  obtain ⟨g19, G19⟩ : ∃ y, y = rz_hs m19 b 37 (.ref (b + 470)) := ⟨_, rfl⟩
  have ag19 : g19 b = some (.inr (12, [.int 0, .int 0, .int 0, .int 0, .int 0, .int 0, .int 0, .int 0, .int 0, .ref (b + 1), .ref (b + 2), .ref (b + 3), .ref (b + 4), .ref (b + 5), .ref (b + 14), .int 0, .int 0, .ref (b + 23), .ref (b + 184), .ref (b + 345), .ref (b + 354), .ref (b + 363), .ref (b + 364), .ref (b + 365), .int 0, .ref (b + 446), .ref (b + 447), .ref (b + 448), .ref (b + 465), .int 0, .int 0, .int 0, .int 0, .int 0, .int 0, .int 0, .ref (b + 469), .ref (b + 470), .null, .int 0, .null, .null, .int 0, .null, .int 0])) := by rw [G19, hs_s am19]; rfl
  have K19 : ∀ x, x ≠ b → (x < b + 470 ∨ b + 471 ≤ x) → g19 x = g18 x ∧ i19 x = i18 x := fun x hx hy => ⟨by rw [G19, hs_ne hx, N19, up_ne (by omega)], by rw [J19, zz_ne (by omega)]⟩
  have Y19 : ∀ x, b < x → x < b + 471 → i19 x = (fun _ => 0) := fun x h1 h2 => by
    by_cases h3 : x < b + 470
    · rw [(K19 x (by omega) (by omega)).2]; exact Y18 x h1 h3
    · exact (by rw [show x = b + 470 by omega, J19, zz_s])
  obtain ⟨m20, N20⟩ : ∃ y, y = rx_up g19 (b + 471) (.inl (0, 8, fun _ => .int 0)) := ⟨_, rfl⟩
  obtain ⟨i20, J20⟩ : ∃ y, y = rz_z i19 (b + 471) := ⟨_, rfl⟩
  have am20 : m20 b = some (.inr (12, [.int 0, .int 0, .int 0, .int 0, .int 0, .int 0, .int 0, .int 0, .int 0, .ref (b + 1), .ref (b + 2), .ref (b + 3), .ref (b + 4), .ref (b + 5), .ref (b + 14), .int 0, .int 0, .ref (b + 23), .ref (b + 184), .ref (b + 345), .ref (b + 354), .ref (b + 363), .ref (b + 364), .ref (b + 365), .int 0, .ref (b + 446), .ref (b + 447), .ref (b + 448), .ref (b + 465), .int 0, .int 0, .int 0, .int 0, .int 0, .int 0, .int 0, .ref (b + 469), .ref (b + 470), .null, .int 0, .null, .null, .int 0, .null, .int 0])) := by rw [N20, up_ne (by omega)]; exact ag19
  have ib20 : i20 b = rz_u (fun _ => 0) 3 (-1) := by rw [J20, zz_ne (by omega)]; exact ib19
  obtain ⟨g20, G20⟩ : ∃ y, y = rz_hs m20 b 38 (.ref (b + 471)) := ⟨_, rfl⟩
  have ag20 : g20 b = some (.inr (12, [.int 0, .int 0, .int 0, .int 0, .int 0, .int 0, .int 0, .int 0, .int 0, .ref (b + 1), .ref (b + 2), .ref (b + 3), .ref (b + 4), .ref (b + 5), .ref (b + 14), .int 0, .int 0, .ref (b + 23), .ref (b + 184), .ref (b + 345), .ref (b + 354), .ref (b + 363), .ref (b + 364), .ref (b + 365), .int 0, .ref (b + 446), .ref (b + 447), .ref (b + 448), .ref (b + 465), .int 0, .int 0, .int 0, .int 0, .int 0, .int 0, .int 0, .ref (b + 469), .ref (b + 470), .ref (b + 471), .int 0, .null, .null, .int 0, .null, .int 0])) := by rw [G20, hs_s am20]; rfl
  have K20 : ∀ x, x ≠ b → (x < b + 471 ∨ b + 472 ≤ x) → g20 x = g19 x ∧ i20 x = i19 x := fun x hx hy => ⟨by rw [G20, hs_ne hx, N20, up_ne (by omega)], by rw [J20, zz_ne (by omega)]⟩
  have Y20 : ∀ x, b < x → x < b + 472 → i20 x = (fun _ => 0) := fun x h1 h2 => by
    by_cases h3 : x < b + 471
    · rw [(K20 x (by omega) (by omega)).2]; exact Y19 x h1 h3
    · exact (by rw [show x = b + 471 by omega, J20, zz_s])
  obtain ⟨m21, N21⟩ : ∃ y, y = rx_up g20 (b + 472) (.inl (0, 8, fun _ => .int 0)) := ⟨_, rfl⟩
  obtain ⟨i21, J21⟩ : ∃ y, y = rz_z i20 (b + 472) := ⟨_, rfl⟩
  have am21 : m21 b = some (.inr (12, [.int 0, .int 0, .int 0, .int 0, .int 0, .int 0, .int 0, .int 0, .int 0, .ref (b + 1), .ref (b + 2), .ref (b + 3), .ref (b + 4), .ref (b + 5), .ref (b + 14), .int 0, .int 0, .ref (b + 23), .ref (b + 184), .ref (b + 345), .ref (b + 354), .ref (b + 363), .ref (b + 364), .ref (b + 365), .int 0, .ref (b + 446), .ref (b + 447), .ref (b + 448), .ref (b + 465), .int 0, .int 0, .int 0, .int 0, .int 0, .int 0, .int 0, .ref (b + 469), .ref (b + 470), .ref (b + 471), .int 0, .null, .null, .int 0, .null, .int 0])) := by rw [N21, up_ne (by omega)]; exact ag20
  have ib21 : i21 b = rz_u (fun _ => 0) 3 (-1) := by rw [J21, zz_ne (by omega)]; exact ib20
  obtain ⟨g21, G21⟩ : ∃ y, y = rz_hs m21 b 40 (.ref (b + 472)) := ⟨_, rfl⟩
  have ag21 : g21 b = some (.inr (12, [.int 0, .int 0, .int 0, .int 0, .int 0, .int 0, .int 0, .int 0, .int 0, .ref (b + 1), .ref (b + 2), .ref (b + 3), .ref (b + 4), .ref (b + 5), .ref (b + 14), .int 0, .int 0, .ref (b + 23), .ref (b + 184), .ref (b + 345), .ref (b + 354), .ref (b + 363), .ref (b + 364), .ref (b + 365), .int 0, .ref (b + 446), .ref (b + 447), .ref (b + 448), .ref (b + 465), .int 0, .int 0, .int 0, .int 0, .int 0, .int 0, .int 0, .ref (b + 469), .ref (b + 470), .ref (b + 471), .int 0, .ref (b + 472), .null, .int 0, .null, .int 0])) := by rw [G21, hs_s am21]; rfl
  have K21 : ∀ x, x ≠ b → (x < b + 472 ∨ b + 473 ≤ x) → g21 x = g20 x ∧ i21 x = i20 x := fun x hx hy => ⟨by rw [G21, hs_ne hx, N21, up_ne (by omega)], by rw [J21, zz_ne (by omega)]⟩
  have Y21 : ∀ x, b < x → x < b + 473 → i21 x = (fun _ => 0) := fun x h1 h2 => by
    by_cases h3 : x < b + 472
    · rw [(K21 x (by omega) (by omega)).2]; exact Y20 x h1 h3
    · exact (by rw [show x = b + 472 by omega, J21, zz_s])
  obtain ⟨m22, N22⟩ : ∃ y, y = rx_up g21 (b + 473) (.inl (0, 8, fun _ => .int 0)) := ⟨_, rfl⟩
  obtain ⟨i22, J22⟩ : ∃ y, y = rz_z i21 (b + 473) := ⟨_, rfl⟩
  have am22 : m22 b = some (.inr (12, [.int 0, .int 0, .int 0, .int 0, .int 0, .int 0, .int 0, .int 0, .int 0, .ref (b + 1), .ref (b + 2), .ref (b + 3), .ref (b + 4), .ref (b + 5), .ref (b + 14), .int 0, .int 0, .ref (b + 23), .ref (b + 184), .ref (b + 345), .ref (b + 354), .ref (b + 363), .ref (b + 364), .ref (b + 365), .int 0, .ref (b + 446), .ref (b + 447), .ref (b + 448), .ref (b + 465), .int 0, .int 0, .int 0, .int 0, .int 0, .int 0, .int 0, .ref (b + 469), .ref (b + 470), .ref (b + 471), .int 0, .ref (b + 472), .null, .int 0, .null, .int 0])) := by rw [N22, up_ne (by omega)]; exact ag21
  have ib22 : i22 b = rz_u (fun _ => 0) 3 (-1) := by rw [J22, zz_ne (by omega)]; exact ib21
  obtain ⟨g22, G22⟩ : ∃ y, y = rz_hs m22 b 41 (.ref (b + 473)) := ⟨_, rfl⟩
  have ag22 : g22 b = some (.inr (12, [.int 0, .int 0, .int 0, .int 0, .int 0, .int 0, .int 0, .int 0, .int 0, .ref (b + 1), .ref (b + 2), .ref (b + 3), .ref (b + 4), .ref (b + 5), .ref (b + 14), .int 0, .int 0, .ref (b + 23), .ref (b + 184), .ref (b + 345), .ref (b + 354), .ref (b + 363), .ref (b + 364), .ref (b + 365), .int 0, .ref (b + 446), .ref (b + 447), .ref (b + 448), .ref (b + 465), .int 0, .int 0, .int 0, .int 0, .int 0, .int 0, .int 0, .ref (b + 469), .ref (b + 470), .ref (b + 471), .int 0, .ref (b + 472), .ref (b + 473), .int 0, .null, .int 0])) := by rw [G22, hs_s am22]; rfl
  have K22 : ∀ x, x ≠ b → (x < b + 473 ∨ b + 474 ≤ x) → g22 x = g21 x ∧ i22 x = i21 x := fun x hx hy => ⟨by rw [G22, hs_ne hx, N22, up_ne (by omega)], by rw [J22, zz_ne (by omega)]⟩
  have Y22 : ∀ x, b < x → x < b + 474 → i22 x = (fun _ => 0) := fun x h1 h2 => by
    by_cases h3 : x < b + 473
    · rw [(K22 x (by omega) (by omega)).2]; exact Y21 x h1 h3
    · exact (by rw [show x = b + 473 by omega, J22, zz_s])
  obtain ⟨m23, N23⟩ : ∃ y, y = rx_up g22 (b + 474) (.inl (1, 14, fun _ => .long 0)) := ⟨_, rfl⟩
  obtain ⟨i23, J23⟩ : ∃ y, y = rz_z i22 (b + 474) := ⟨_, rfl⟩
  have am23 : m23 b = some (.inr (12, [.int 0, .int 0, .int 0, .int 0, .int 0, .int 0, .int 0, .int 0, .int 0, .ref (b + 1), .ref (b + 2), .ref (b + 3), .ref (b + 4), .ref (b + 5), .ref (b + 14), .int 0, .int 0, .ref (b + 23), .ref (b + 184), .ref (b + 345), .ref (b + 354), .ref (b + 363), .ref (b + 364), .ref (b + 365), .int 0, .ref (b + 446), .ref (b + 447), .ref (b + 448), .ref (b + 465), .int 0, .int 0, .int 0, .int 0, .int 0, .int 0, .int 0, .ref (b + 469), .ref (b + 470), .ref (b + 471), .int 0, .ref (b + 472), .ref (b + 473), .int 0, .null, .int 0])) := by rw [N23, up_ne (by omega)]; exact ag22
  have ib23 : i23 b = rz_u (fun _ => 0) 3 (-1) := by rw [J23, zz_ne (by omega)]; exact ib22
  obtain ⟨g23, G23⟩ : ∃ y, y = rz_hs m23 b 43 (.ref (b + 474)) := ⟨_, rfl⟩
  have ag23 : g23 b = some (.inr (12, [.int 0, .int 0, .int 0, .int 0, .int 0, .int 0, .int 0, .int 0, .int 0, .ref (b + 1), .ref (b + 2), .ref (b + 3), .ref (b + 4), .ref (b + 5), .ref (b + 14), .int 0, .int 0, .ref (b + 23), .ref (b + 184), .ref (b + 345), .ref (b + 354), .ref (b + 363), .ref (b + 364), .ref (b + 365), .int 0, .ref (b + 446), .ref (b + 447), .ref (b + 448), .ref (b + 465), .int 0, .int 0, .int 0, .int 0, .int 0, .int 0, .int 0, .ref (b + 469), .ref (b + 470), .ref (b + 471), .int 0, .ref (b + 472), .ref (b + 473), .int 0, .ref (b + 474), .int 0])) := by rw [G23, hs_s am23]; rfl
  have K23 : ∀ x, x ≠ b → (x < b + 474 ∨ b + 475 ≤ x) → g23 x = g22 x ∧ i23 x = i22 x := fun x hx hy => ⟨by rw [G23, hs_ne hx, N23, up_ne (by omega)], by rw [J23, zz_ne (by omega)]⟩
  have Y23 : ∀ x, b < x → x < b + 475 → i23 x = (fun _ => 0) := fun x h1 h2 => by
    by_cases h3 : x < b + 474
    · rw [(K23 x (by omega) (by omega)).2]; exact Y22 x h1 h3
    · exact (by rw [show x = b + 474 by omega, J23, zz_s])
  have F23 : ∀ x, x ≠ b → x < b + 475 → g23 x = g23 x := fun x _ _ => rfl
  have F22 : ∀ x, x ≠ b → x < b + 474 → g23 x = g22 x := fun x hx hy => (F23 x hx (by omega)).trans (K23 x hx (by omega)).1
  have F21 : ∀ x, x ≠ b → x < b + 473 → g23 x = g21 x := fun x hx hy => (F22 x hx (by omega)).trans (K22 x hx (by omega)).1
  have F20 : ∀ x, x ≠ b → x < b + 472 → g23 x = g20 x := fun x hx hy => (F21 x hx (by omega)).trans (K21 x hx (by omega)).1
  have F19 : ∀ x, x ≠ b → x < b + 471 → g23 x = g19 x := fun x hx hy => (F20 x hx (by omega)).trans (K20 x hx (by omega)).1
  have F18 : ∀ x, x ≠ b → x < b + 470 → g23 x = g18 x := fun x hx hy => (F19 x hx (by omega)).trans (K19 x hx (by omega)).1
  have F17 : ∀ x, x ≠ b → x < b + 469 → g23 x = g17 x := fun x hx hy => (F18 x hx (by omega)).trans (K18 x hx (by omega)).1
  have F16 : ∀ x, x ≠ b → x < b + 465 → g23 x = g16 x := fun x hx hy => (F17 x hx (by omega)).trans (K17 x hx (by omega)).1
  have F15 : ∀ x, x ≠ b → x < b + 448 → g23 x = g15 x := fun x hx hy => (F16 x hx (by omega)).trans (K16 x hx (by omega)).1
  have F14 : ∀ x, x ≠ b → x < b + 447 → g23 x = g14 x := fun x hx hy => (F15 x hx (by omega)).trans (K15 x hx (by omega)).1
  have F13 : ∀ x, x ≠ b → x < b + 446 → g23 x = g13 x := fun x hx hy => (F14 x hx (by omega)).trans (K14 x hx (by omega)).1
  have F12 : ∀ x, x ≠ b → x < b + 365 → g23 x = g12 x := fun x hx hy => (F13 x hx (by omega)).trans (K13 x hx (by omega)).1
  have F11 : ∀ x, x ≠ b → x < b + 364 → g23 x = g11 x := fun x hx hy => (F12 x hx (by omega)).trans (K12 x hx (by omega)).1
  have F10 : ∀ x, x ≠ b → x < b + 363 → g23 x = g10 x := fun x hx hy => (F11 x hx (by omega)).trans (K11 x hx (by omega)).1
  have F9 : ∀ x, x ≠ b → x < b + 354 → g23 x = g9 x := fun x hx hy => (F10 x hx (by omega)).trans (K10 x hx (by omega)).1
  have F8 : ∀ x, x ≠ b → x < b + 345 → g23 x = g8 x := fun x hx hy => (F9 x hx (by omega)).trans (K9 x hx (by omega)).1
  have F7 : ∀ x, x ≠ b → x < b + 184 → g23 x = g7 x := fun x hx hy => (F8 x hx (by omega)).trans (K8 x hx (by omega)).1
  have F6 : ∀ x, x ≠ b → x < b + 23 → g23 x = g6 x := fun x hx hy => (F7 x hx (by omega)).trans (K7 x hx (by omega)).1
  have F5 : ∀ x, x ≠ b → x < b + 14 → g23 x = g5 x := fun x hx hy => (F6 x hx (by omega)).trans (K6 x hx (by omega)).1
  have F4 : ∀ x, x ≠ b → x < b + 5 → g23 x = g4 x := fun x hx hy => (F5 x hx (by omega)).trans (K5 x hx (by omega)).1
  have F3 : ∀ x, x ≠ b → x < b + 4 → g23 x = g3 x := fun x hx hy => (F4 x hx (by omega)).trans (K4 x hx (by omega)).1
  have F2 : ∀ x, x ≠ b → x < b + 3 → g23 x = g2 x := fun x hx hy => (F3 x hx (by omega)).trans (K3 x hx (by omega)).1
  have F1 : ∀ x, x ≠ b → x < b + 2 → g23 x = g1 x := fun x hx hy => (F2 x hx (by omega)).trans (K2 x hx (by omega)).1
  have M1 : ∀ x, x ≠ b → x < b + 2 → g23 x = m1 x := fun x hx hy => (F1 x hx hy).trans (by rw [G1, hs_ne hx])
  have C1 : g23 (b + 1) = some (.inl (0, 600, fun _ => .int 0)) := by rw [M1 _ (by omega) (by omega), N1]; exact rx_up_self _ _ _
  have M2 : ∀ x, x ≠ b → x < b + 3 → g23 x = m2 x := fun x hx hy => (F2 x hx hy).trans (by rw [G2, hs_ne hx])
  have C2 : g23 (b + 2) = some (.inl (0, 2, fun _ => .int 0)) := by rw [M2 _ (by omega) (by omega), N2]; exact rx_up_self _ _ _
  have M3 : ∀ x, x ≠ b → x < b + 4 → g23 x = m3 x := fun x hx hy => (F3 x hx hy).trans (by rw [G3, hs_ne hx])
  have C3 : g23 (b + 3) = some (.inl (0, 3, fun _ => .int 0)) := by rw [M3 _ (by omega) (by omega), N3]; exact rx_up_self _ _ _
  have M4 : ∀ x, x ≠ b → x < b + 5 → g23 x = m4 x := fun x hx hy => (F4 x hx hy).trans (by rw [G4, hs_ne hx])
  have C4 : g23 (b + 4) = some (.inl (0, 3, fun _ => .int 0)) := by rw [M4 _ (by omega) (by omega), N4]; exact rx_up_self _ _ _
  have M5 : ∀ x, x ≠ b → x < b + 14 → g23 x = m5 x := fun x hx hy => (F5 x hx hy).trans (by rw [G5, hs_ne hx])
  have C5 : g23 (b + 5) = some (.inl (3, 8, fun j => .ref (b + (6 + j)))) := by
    rw [M5 _ (by omega) (by omega), N5, mnh_s, show (fun j => Value.ref (b + 5 + 1 + j)) = (fun j => Value.ref (b + (6 + j))) from funext fun j => by rw [show b + 5 + 1 + j = b + (6 + j) by omega]]
  have D5 : ∀ j, j < 8 → g23 (b + (6 + j)) = some (.inl (0, 3, fun _ => .int 0)) := fun j hj => by rw [M5 _ (by omega) (by omega), N5, mnh_e (by omega) (by omega)]
  have M6 : ∀ x, x ≠ b → x < b + 23 → g23 x = m6 x := fun x hx hy => (F6 x hx hy).trans (by rw [G6, hs_ne hx])
  have C6 : g23 (b + 14) = some (.inl (3, 8, fun j => .ref (b + (15 + j)))) := by
    rw [M6 _ (by omega) (by omega), N6, mnh_s, show (fun j => Value.ref (b + 14 + 1 + j)) = (fun j => Value.ref (b + (15 + j))) from funext fun j => by rw [show b + 14 + 1 + j = b + (15 + j) by omega]]
  have D6 : ∀ j, j < 8 → g23 (b + (15 + j)) = some (.inl (0, 3, fun _ => .int 0)) := fun j hj => by rw [M6 _ (by omega) (by omega), N6, mnh_e (by omega) (by omega)]
  have M7 : ∀ x, x ≠ b → x < b + 184 → g23 x = m7 x := fun x hx hy => (F7 x hx hy).trans (by rw [G7, hs_ne hx])
  have C7 : g23 (b + 23) = some (.inl (3, 160, fun j => .ref (b + (24 + j)))) := by
    rw [M7 _ (by omega) (by omega), N7, mnh_s, show (fun j => Value.ref (b + 23 + 1 + j)) = (fun j => Value.ref (b + (24 + j))) from funext fun j => by rw [show b + 23 + 1 + j = b + (24 + j) by omega]]
  have D7 : ∀ j, j < 160 → g23 (b + (24 + j)) = some (.inl (0, 2, fun _ => .int 0)) := fun j hj => by rw [M7 _ (by omega) (by omega), N7, mnh_e (by omega) (by omega)]
  have M8 : ∀ x, x ≠ b → x < b + 345 → g23 x = m8 x := fun x hx hy => (F8 x hx hy).trans (by rw [G8, hs_ne hx])
  have C8 : g23 (b + 184) = some (.inl (3, 160, fun j => .ref (b + (185 + j)))) := by
    rw [M8 _ (by omega) (by omega), N8, mnh_s, show (fun j => Value.ref (b + 184 + 1 + j)) = (fun j => Value.ref (b + (185 + j))) from funext fun j => by rw [show b + 184 + 1 + j = b + (185 + j) by omega]]
  have D8 : ∀ j, j < 160 → g23 (b + (185 + j)) = some (.inl (0, 2, fun _ => .int 0)) := fun j hj => by rw [M8 _ (by omega) (by omega), N8, mnh_e (by omega) (by omega)]
  have M9 : ∀ x, x ≠ b → x < b + 354 → g23 x = m9 x := fun x hx hy => (F9 x hx hy).trans (by rw [G9, hs_ne hx])
  have C9 : g23 (b + 345) = some (.inl (3, 8, fun j => .ref (b + (346 + j)))) := by
    rw [M9 _ (by omega) (by omega), N9, mnh_s, show (fun j => Value.ref (b + 345 + 1 + j)) = (fun j => Value.ref (b + (346 + j))) from funext fun j => by rw [show b + 345 + 1 + j = b + (346 + j) by omega]]
  have D9 : ∀ j, j < 8 → g23 (b + (346 + j)) = some (.inl (0, 2, fun _ => .int 0)) := fun j hj => by rw [M9 _ (by omega) (by omega), N9, mnh_e (by omega) (by omega)]
  have M10 : ∀ x, x ≠ b → x < b + 363 → g23 x = m10 x := fun x hx hy => (F10 x hx hy).trans (by rw [G10, hs_ne hx])
  have C10 : g23 (b + 354) = some (.inl (3, 8, fun j => .ref (b + (355 + j)))) := by
    rw [M10 _ (by omega) (by omega), N10, mnh_s, show (fun j => Value.ref (b + 354 + 1 + j)) = (fun j => Value.ref (b + (355 + j))) from funext fun j => by rw [show b + 354 + 1 + j = b + (355 + j) by omega]]
  have D10 : ∀ j, j < 8 → g23 (b + (355 + j)) = some (.inl (0, 2, fun _ => .int 0)) := fun j hj => by rw [M10 _ (by omega) (by omega), N10, mnh_e (by omega) (by omega)]
  have M11 : ∀ x, x ≠ b → x < b + 364 → g23 x = m11 x := fun x hx hy => (F11 x hx hy).trans (by rw [G11, hs_ne hx])
  have C11 : g23 (b + 363) = some (.inl (0, 160, fun _ => .int 0)) := by rw [M11 _ (by omega) (by omega), N11]; exact rx_up_self _ _ _
  have M12 : ∀ x, x ≠ b → x < b + 365 → g23 x = m12 x := fun x hx hy => (F12 x hx hy).trans (by rw [G12, hs_ne hx])
  have C12 : g23 (b + 364) = some (.inl (0, 8, fun _ => .int 0)) := by rw [M12 _ (by omega) (by omega), N12]; exact rx_up_self _ _ _
  have M13 : ∀ x, x ≠ b → x < b + 446 → g23 x = m13 x := fun x hx hy => (F13 x hx hy).trans (by rw [G13, hs_ne hx])
  have C13 : g23 (b + 365) = some (.inl (3, 80, fun j => .ref (b + (366 + j)))) := by
    rw [M13 _ (by omega) (by omega), N13, mnh_s, show (fun j => Value.ref (b + 365 + 1 + j)) = (fun j => Value.ref (b + (366 + j))) from funext fun j => by rw [show b + 365 + 1 + j = b + (366 + j) by omega]]
  have D13 : ∀ j, j < 80 → g23 (b + (366 + j)) = some (.inl (0, 5, fun _ => .int 0)) := fun j hj => by rw [M13 _ (by omega) (by omega), N13, mnh_e (by omega) (by omega)]
  have M14 : ∀ x, x ≠ b → x < b + 447 → g23 x = m14 x := fun x hx hy => (F14 x hx hy).trans (by rw [G14, hs_ne hx])
  have C14 : g23 (b + 446) = some (.inl (0, 62, fun _ => .int 0)) := by rw [M14 _ (by omega) (by omega), N14]; exact rx_up_self _ _ _
  have M15 : ∀ x, x ≠ b → x < b + 448 → g23 x = m15 x := fun x hx hy => (F15 x hx hy).trans (by rw [G15, hs_ne hx])
  have C15 : g23 (b + 447) = some (.inl (0, 62, fun _ => .int 0)) := by rw [M15 _ (by omega) (by omega), N15]; exact rx_up_self _ _ _
  have M16 : ∀ x, x ≠ b → x < b + 465 → g23 x = m16 x := fun x hx hy => (F16 x hx hy).trans (by rw [G16, hs_ne hx])
  have C16 : g23 (b + 448) = some (.inl (3, 16, fun j => .ref (b + (449 + j)))) := by
    rw [M16 _ (by omega) (by omega), N16, mnh_s, show (fun j => Value.ref (b + 448 + 1 + j)) = (fun j => Value.ref (b + (449 + j))) from funext fun j => by rw [show b + 448 + 1 + j = b + (449 + j) by omega]]
  have D16 : ∀ j, j < 16 → g23 (b + (449 + j)) = some (.inl (0, 62, fun _ => .int 0)) := fun j hj => by rw [M16 _ (by omega) (by omega), N16, mnh_e (by omega) (by omega)]
  have M17 : ∀ x, x ≠ b → x < b + 469 → g23 x = m17 x := fun x hx hy => (F17 x hx hy).trans (by rw [G17, hs_ne hx])
  have C17 : g23 (b + 465) = some (.inl (3, 3, fun j => .ref (b + (466 + j)))) := by
    rw [M17 _ (by omega) (by omega), N17, mnh_s, show (fun j => Value.ref (b + 465 + 1 + j)) = (fun j => Value.ref (b + (466 + j))) from funext fun j => by rw [show b + 465 + 1 + j = b + (466 + j) by omega]]
  have D17 : ∀ j, j < 3 → g23 (b + (466 + j)) = some (.inl (0, 1055, fun _ => .int 0)) := fun j hj => by rw [M17 _ (by omega) (by omega), N17, mnh_e (by omega) (by omega)]
  have M18 : ∀ x, x ≠ b → x < b + 470 → g23 x = m18 x := fun x hx hy => (F18 x hx hy).trans (by rw [G18, hs_ne hx])
  have C18 : g23 (b + 469) = some (.inl (0, 100, fun _ => .int 0)) := by rw [M18 _ (by omega) (by omega), N18]; exact rx_up_self _ _ _
  have M19 : ∀ x, x ≠ b → x < b + 471 → g23 x = m19 x := fun x hx hy => (F19 x hx hy).trans (by rw [G19, hs_ne hx])
  have C19 : g23 (b + 470) = some (.inl (0, 8, fun _ => .int 0)) := by rw [M19 _ (by omega) (by omega), N19]; exact rx_up_self _ _ _
  have M20 : ∀ x, x ≠ b → x < b + 472 → g23 x = m20 x := fun x hx hy => (F20 x hx hy).trans (by rw [G20, hs_ne hx])
  have C20 : g23 (b + 471) = some (.inl (0, 8, fun _ => .int 0)) := by rw [M20 _ (by omega) (by omega), N20]; exact rx_up_self _ _ _
  have M21 : ∀ x, x ≠ b → x < b + 473 → g23 x = m21 x := fun x hx hy => (F21 x hx hy).trans (by rw [G21, hs_ne hx])
  have C21 : g23 (b + 472) = some (.inl (0, 8, fun _ => .int 0)) := by rw [M21 _ (by omega) (by omega), N21]; exact rx_up_self _ _ _
  have M22 : ∀ x, x ≠ b → x < b + 474 → g23 x = m22 x := fun x hx hy => (F22 x hx hy).trans (by rw [G22, hs_ne hx])
  have C22 : g23 (b + 473) = some (.inl (0, 8, fun _ => .int 0)) := by rw [M22 _ (by omega) (by omega), N22]; exact rx_up_self _ _ _
  have M23 : ∀ x, x ≠ b → x < b + 475 → g23 x = m23 x := fun x hx hy => (F23 x hx hy).trans (by rw [G23, hs_ne hx])
  have C23 : g23 (b + 474) = some (.inl (1, 14, fun _ => .long 0)) := by rw [M23 _ (by omega) (by omega), N23]; exact rx_up_self _ _ _
  have fr : ∀ x, (x < b ∨ b + 475 ≤ x) → g23 x = h x ∧ i23 x = ι x := fun x hx => by
    have e23 := K23 x (by omega) (by omega)
    have e22 := K22 x (by omega) (by omega)
    have e21 := K21 x (by omega) (by omega)
    have e20 := K20 x (by omega) (by omega)
    have e19 := K19 x (by omega) (by omega)
    have e18 := K18 x (by omega) (by omega)
    have e17 := K17 x (by omega) (by omega)
    have e16 := K16 x (by omega) (by omega)
    have e15 := K15 x (by omega) (by omega)
    have e14 := K14 x (by omega) (by omega)
    have e13 := K13 x (by omega) (by omega)
    have e12 := K12 x (by omega) (by omega)
    have e11 := K11 x (by omega) (by omega)
    have e10 := K10 x (by omega) (by omega)
    have e9 := K9 x (by omega) (by omega)
    have e8 := K8 x (by omega) (by omega)
    have e7 := K7 x (by omega) (by omega)
    have e6 := K6 x (by omega) (by omega)
    have e5 := K5 x (by omega) (by omega)
    have e4 := K4 x (by omega) (by omega)
    have e3 := K3 x (by omega) (by omega)
    have e2 := K2 x (by omega) (by omega)
    have e1 := K1 x (by omega) (by omega)
    have e0 : i0 x = ι x := by rw [I0, rz_up_n (by omega)]
    exact ⟨e23.1.trans (e22.1.trans (e21.1.trans (e20.1.trans (e19.1.trans (e18.1.trans (e17.1.trans (e16.1.trans (e15.1.trans (e14.1.trans (e13.1.trans (e12.1.trans (e11.1.trans (e10.1.trans (e9.1.trans (e8.1.trans (e7.1.trans (e6.1.trans (e5.1.trans (e4.1.trans (e3.1.trans (e2.1.trans (e1.1)))))))))))))))))))))), e23.2.trans (e22.2.trans (e21.2.trans (e20.2.trans (e19.2.trans (e18.2.trans (e17.2.trans (e16.2.trans (e15.2.trans (e14.2.trans (e13.2.trans (e12.2.trans (e11.2.trans (e10.2.trans (e9.2.trans (e8.2.trans (e7.2.trans (e6.2.trans (e5.2.trans (e4.2.trans (e3.2.trans (e2.2.trans (e1.2.trans (e0)))))))))))))))))))))))⟩
  refine ⟨g23, i23, ?_, ⟨ag23, C1, C2, C3, C4, C11, C12, C14, C15, C18, C19, C20, C21, C22, C5, D5, C6, D6, C7, D7, C8, D8, C9, D9, C10, D10, C13, D13, C16, D16, C17, D17⟩, C23, ib23, Y23, fr⟩
  rw [e171]
  simp (decide := true) (maxDischargeDepth := 4) only [g171_0, g171_1, g171_4, g171_5, g171_6, g171_9, g171_10, g171_13, g171_15, g171_18, g171_19, g171_20, g171_22, g171_25, g171_26, g171_27, g171_29, g171_32, g171_33, g171_34, g171_36, g171_39, g171_40, g171_42, g171_43, g171_47, g171_50, g171_51, g171_53, g171_54, g171_58, g171_61, g171_62, g171_65, g171_66, g171_70, g171_73, g171_74, g171_77, g171_78, g171_82, g171_85, g171_86, g171_88, g171_89, g171_93, g171_96, g171_97, g171_99, g171_100, g171_104, g171_107, g171_108, g171_111, g171_113, g171_116, g171_117, g171_119, g171_121, g171_124, g171_125, g171_127, g171_128, g171_132, g171_135, g171_136, g171_138, g171_140, g171_143, g171_144, g171_146, g171_148, g171_151, g171_152, g171_154, g171_156, g171_160, g171_163, g171_164, g171_165, g171_168, g171_172, g171_175, g171_176, g171_178, g171_180, g171_183, g171_184, g171_186, g171_188, g171_191, g171_192, g171_194, g171_196, g171_199, g171_200, g171_202, g171_204, g171_207, g171_208, g171_210, g171_212, g171_215, g171_216, g171_218, g171_220, g171_223, rz_k_inl, rz_k_inr, Option.toList_some, Option.toList_none, List.cons_append, List.nil_append, List.append_nil, rz_up_s, rz_u_s, rz_up_n, rz_u_n, ne_eq, not_false_eq_true, not_true_eq_false, Nat.add_assoc, Nat.reduceAdd, reduceIte, Nat.add_eq_left, Nat.left_eq_add, Nat.add_left_cancel_iff, Nat.reduceEqDiff, Nat.add_right_cancel_iff, rz_nb0, rz_nb1, rz_nbb, rz_nbi, rz_isr, rz_zle, if_true, if_false, rz_bi0, rz_bi1, Bool.not_eq_true, Bool.not_eq_false, Bool.true_eq_false, Bool.false_eq_true, rz_ix_lit, cl_lit, Nat.reduceLT, bi_t, bi_f, decide_true, decide_false, Bool.not_false, Bool.not_true, Bool.and_true, Bool.true_and, Bool.and_false, Bool.false_and, (show rz_fI h b 12 3 from ⟨_, _, ag0, rfl⟩), ← I0, ← N1, ← J1, g171_15 (⟨_, _, am1, rfl, rfl⟩ : rz_fR m1 b 12 9) isr_r hz, ← G1, ← N2, ← J2, g171_22 (⟨_, _, am2, rfl, rfl⟩ : rz_fR m2 b 12 10) isr_r hz, ← G2, ← N3, ← J3, g171_29 (⟨_, _, am3, rfl, rfl⟩ : rz_fR m3 b 12 11) isr_r hz, ← G3, ← N4, ← J4, g171_36 (⟨_, _, am4, rfl, rfl⟩ : rz_fR m4 b 12 12) isr_r hz, ← G4, ← N5, ← J5, g171_47 (⟨_, _, am5, rfl, rfl⟩ : rz_fR m5 b 12 13) isr_r hz, ← G5, ← N6, ← J6, g171_58 (⟨_, _, am6, rfl, rfl⟩ : rz_fR m6 b 12 14) isr_r hz, ← G6, ← N7, ← J7, g171_70 (⟨_, _, am7, rfl, rfl⟩ : rz_fR m7 b 12 17) isr_r hz, ← G7, ← N8, ← J8, g171_82 (⟨_, _, am8, rfl, rfl⟩ : rz_fR m8 b 12 18) isr_r hz, ← G8, ← N9, ← J9, g171_93 (⟨_, _, am9, rfl, rfl⟩ : rz_fR m9 b 12 19) isr_r hz, ← G9, ← N10, ← J10, g171_104 (⟨_, _, am10, rfl, rfl⟩ : rz_fR m10 b 12 20) isr_r hz, ← G10, ← N11, ← J11, g171_113 (⟨_, _, am11, rfl, rfl⟩ : rz_fR m11 b 12 21) isr_r hz, ← G11, ← N12, ← J12, g171_121 (⟨_, _, am12, rfl, rfl⟩ : rz_fR m12 b 12 22) isr_r hz, ← G12, ← N13, ← J13, g171_132 (⟨_, _, am13, rfl, rfl⟩ : rz_fR m13 b 12 23) isr_r hz, ← G13, ← N14, ← J14, g171_140 (⟨_, _, am14, rfl, rfl⟩ : rz_fR m14 b 12 25) isr_r hz, ← G14, ← N15, ← J15, g171_148 (⟨_, _, am15, rfl, rfl⟩ : rz_fR m15 b 12 26) isr_r hz, ← G15, ← N16, ← J16, g171_160 (⟨_, _, am16, rfl, rfl⟩ : rz_fR m16 b 12 27) isr_r hz, ← G16, ← N17, ← J17, g171_172 (⟨_, _, am17, rfl, rfl⟩ : rz_fR m17 b 12 28) isr_r hz, ← G17, ← N18, ← J18, g171_180 (⟨_, _, am18, rfl, rfl⟩ : rz_fR m18 b 12 36) isr_r hz, ← G18, ← N19, ← J19, g171_188 (⟨_, _, am19, rfl, rfl⟩ : rz_fR m19 b 12 37) isr_r hz, ← G19, ← N20, ← J20, g171_196 (⟨_, _, am20, rfl, rfl⟩ : rz_fR m20 b 12 38) isr_r hz, ← G20, ← N21, ← J21, g171_204 (⟨_, _, am21, rfl, rfl⟩ : rz_fR m21 b 12 40) isr_r hz, ← G21, ← N22, ← J22, g171_212 (⟨_, _, am22, rfl, rfl⟩ : rz_fR m22 b 12 41) isr_r hz, ← G22, ← N23, ← J23, g171_220 (⟨_, _, am23, rfl, rfl⟩ : rz_fR m23 b 12 43) isr_r hz, ← G23, hz, isr_r, Nat.add_zero]
theorem nw_model {b s : Nat} (hz : Z.2.1 ≤ b) (e : h b = some (.inr (12, rx_df 12))) (he : ι b = (fun _ => 0)) : ∃ h' ι', rz_f Z (d + 3) 171 [.ref b] (rz_mk h ι, (b + 1, s)) = some (.inl none, (rz_mk h' ι', (b + 475, s + 6774))) ∧ MI Z h' ι' b 0 (-1) R00 [] [] [] [] 10 0 0 0 ∧ ι' (b + 1) = (fun _ => 0) ∧ ∀ x, (x < b ∨ b + 475 ≤ x) → h' x = h x ∧ ι' x = ι x := by
  obtain ⟨g, i, z1, z2, z3, z4, z5, z6⟩ := nw_model0 (Z := Z) (d := d) (s := s) hz e he
  obtain ⟨j, J⟩ : ∃ y, y = rz_up (rz_up (rz_up i (b + 3) 0 0) (b + 3) 1 0) (b + 3) 2 10 := ⟨_, rfl⟩
  have n1 := md_nothing (Z := Z) (d := d + 1) (ι := i) (w := (b + 475, s + 6774)) z2 hz
  rw [← J] at n1
  have jn : ∀ x, x ≠ b + 3 → j x = i x := fun x hx => by rw [J, rz_up_n hx, rz_up_n hx, rz_up_n hx]
  obtain ⟨k, a1, a2, a3, a4, a5, a6⟩ := mk_anew (Z := Z) (d := d) (ι := j) (w := (b + 475, s + 6774)) (P := []) (dk := 0) (ld := 10) (by decide) z2 hz (by decide) (by rw [J, rz_up_s, rz_u_n (by decide), rz_up_s, rz_u_n (by decide), rz_up_s, rz_u_s]; rfl) (by rw [J, rz_up_s, rz_u_n (by decide), rz_up_s, rz_u_s]; rfl) (by rw [J, rz_up_s, rz_u_s]; rfl) (fun q hq => absurd hq (Nat.not_lt_zero _)) (fun q _ => by rw [jn _ (by omega), z5 _ (by omega) (by omega)])
  have kn : ∀ x, x ≠ b → x ≠ b + 3 → x ≠ b + 4 → x ≠ b + 446 → ¬ (b + 15 ≤ x ∧ x < b + 23) → k x = i x := fun x h1 h2 h3 h4 h5 => (a5 x h1 h3 h4 h5).trans (jn x h2)
  have kz : ∀ x, b < x → x < b + 475 → x ≠ b + 3 → x ≠ b + 4 → x ≠ b + 446 → ¬ (b + 15 ≤ x ∧ x < b + 23) → k x = (fun _ => 0) := fun x h1 h2 h3 h4 h5 h6 => (kn x (by omega) h3 h4 h5 h6).trans (z5 x h1 h2)
  have kb : k b = rz_u (rz_u (rz_u (rz_u (rz_u (rz_u (fun _ => 0) 3 (-1)) 15 0) 29 0) 30 0) 31 0) 32 0 := by rw [a6, jn b (by omega), z4]
  have e0 : crnR (dkR []) (if ([] : List P3).length = 0 then -1 else nI 0) = R00 := by
    funext i
    show crnR R00 (-1) i = R00 i
    unfold crnR rz_u R00
    by_cases h0 : i = 60
    · subst h0; rfl
    · rw [if_neg h0]
      by_cases h1 : i = 59
      · subst h1; rfl
      · rw [if_neg h1]
        by_cases h2 : i = 58
        · rw [if_pos h2, if_pos h2]
        · rw [if_neg h2, if_neg h2]
  refine ⟨g, k, ?_, ⟨hz, z2, ⟨fun _ => 0, z3⟩, ⟨by decide, okR_0, Or.inl rfl, bkW_nil, by decide, fun x hx => (by cases hx), by decide, fun x hx => (by cases hx)⟩, ⟨by rw [kb]; rfl, fun q hq => absurd hq (Nat.not_lt_zero _), Or.inl rfl⟩, ⟨by rw [kb]; rfl, fun q hq => absurd hq (Nat.not_lt_zero _), bkW_nil.1⟩, a2.trans e0, fun q _ => by rw [kz _ (by omega) (by omega) (by omega) (by omega) (by omega) (by omega)], ⟨fun q hq x _ => by rw [kz _ (by omega) (by omega) (by omega) (by omega) (by omega) (by omega)], fun q hq => absurd hq (Nat.not_lt_zero _)⟩, fun q hq => absurd hq (Nat.not_lt_zero _), by rw [kb]; rfl, by rw [kb]; rfl, by rw [kb]; rfl, by rw [kb]; rfl, by rw [kb]; rfl, a4, by rw [kz _ (by omega) (by omega) (by omega) (by omega) (by omega) (by omega)], by rw [kz _ (by omega) (by omega) (by omega) (by omega) (by omega) (by omega)]⟩, kz _ (by omega) (by omega) (by omega) (by omega) (by omega) (by omega), fun x hx => ⟨(z6 x hx).1, (kn x (by omega) (by omega) (by omega) (by omega) (by omega)).trans (z6 x hx).2⟩⟩
  rw [z1, g171_224 (oMd_c z2), n1, rz_k_inl]
  show rg Z (d + 2) rx_m171 227 [some (.ref b)] [] _ = _
  rw [g171_227, g171_228 (oMd_c z2), a1, rz_k_inl]
  exact g171_231
end NEW4
