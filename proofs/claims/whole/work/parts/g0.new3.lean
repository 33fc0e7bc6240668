/-! a new object of the class -/
section NEW3
variable {Z : rx_Z} {d : Nat} {h : Nat → Option rx_E} {ι : Nat → Nat → Int32}
def nwC (h h' : Nat → Option rx_E) (ι ι' : Nat → Nat → Int32) (c : Nat) : Prop := clL h' c ∧ oHr h' c (c + 33) (c + 37) .null ∧ oLt h' (c + 4) (c + 1) (c + 5) ∧ lwIs ι' (c + 33) usL ∧ oRl h' (c + 37) ∧ rl ι' (c + 37) = R00 ∧ h' (c + 32) = some (.inl (2, 3, fun _ => .null)) ∧ fdI ι' c 0 (-1) [] 0 10 0 0 0 ∧ ι' (c + 2) = (fun _ => 0) ∧ ∀ x, (x < c ∨ c + 41 ≤ x) → h' x = h x ∧ ι' x = ι x
theorem nw_heir {c s : Nat} (hz : Z.2.1 ≤ c) (e : h c = some (.inr (11, rx_df 11))) (ho : olI Z h ι) : ∃ h' ι', rz_f Z (d + 4) 119 [.ref c] (rz_mk h ι, (c + 1, s)) = some (.inl none, (rz_mk h' ι', (c + 41, s + 4587))) ∧ nwC h h' ι ι' c := by
  have ag0 : h c = some (.inr (11, [.null, .null, .null, .null, .null, .null, .null, .null, .null, .null, .null, .null, .null, .int 0, .int 0, .int 0, .int 0, .int 0])) := by rw [e]; rfl
  have O0 : olI Z h ι := ho
  obtain ⟨n1, N1⟩ : ∃ y, y = rx_up h (c + 1) (.inr (9, rx_df 9)) := ⟨_, rfl⟩
  obtain ⟨j1, J1⟩ : ∃ y, y = rz_z ι (c + 1) := ⟨_, rfl⟩
  have an1 : n1 c = some (.inr (11, [.null, .null, .null, .null, .null, .null, .null, .null, .null, .null, .null, .null, .null, .int 0, .int 0, .int 0, .int 0, .int 0])) := by rw [N1, up_ne (by omega)]; exact ag0
  obtain ⟨m1, i1, z1', t1_1, t2_1, t3_1, t4_1, fr1⟩ := nw_tape (Z := Z) (d := d + 2) (h := n1) (ι := j1) (a := c + 1) (s := s + 7) (by omega) (by rw [N1]; exact rx_up_self _ _ _)
  have z1 : rz_f Z (d + 3) 87 [.ref (c + 1)] (rz_mk n1 j1, (c + 2, s + 7)) = some (.inl none, (rz_mk m1 i1, (c + 3, s + 607))) := z1'
  have am1 : m1 c = some (.inr (11, [.null, .null, .null, .null, .null, .null, .null, .null, .null, .null, .null, .null, .null, .int 0, .int 0, .int 0, .int 0, .int 0])) := by rw [(fr1 c (by omega)).1]; exact an1
  obtain ⟨g1, G1⟩ : ∃ y, y = rz_hs m1 c 0 (.ref (c + 1)) := ⟨_, rfl⟩
  have ag1 : g1 c = some (.inr (11, [.ref (c + 1), .null, .null, .null, .null, .null, .null, .null, .null, .null, .null, .null, .null, .int 0, .int 0, .int 0, .int 0, .int 0])) := by rw [G1, hs_s am1]; rfl
  have K1 : ∀ x, x ≠ c → (x < c + 1 ∨ c + 3 ≤ x) → g1 x = h x ∧ i1 x = ι x := fun x hx hy => ⟨by rw [G1, hs_ne hx, (fr1 x hy).1, N1, up_ne (by omega)], by rw [(fr1 x hy).2, J1, zz_ne (by omega)]⟩
  have O1 : olI Z g1 i1 := O0.ag (fun x hx => K1 x (by omega) (by omega))
  obtain ⟨n2, N2⟩ : ∃ y, y = rx_up g1 (c + 3) (.inr (3, rx_df 3)) := ⟨_, rfl⟩
  obtain ⟨j2, J2⟩ : ∃ y, y = rz_z i1 (c + 3) := ⟨_, rfl⟩
  have an2 : n2 c = some (.inr (11, [.ref (c + 1), .null, .null, .null, .null, .null, .null, .null, .null, .null, .null, .null, .null, .int 0, .int 0, .int 0, .int 0, .int 0])) := by rw [N2, up_ne (by omega)]; exact ag1
  obtain ⟨m2, i2, z2', t1_2, fr2⟩ := nw_duk (Z := Z) (d := d + 2) (h := n2) (ι := j2) (a := c + 3) (s := s + 611) (t := c + 1) (by omega) (by rw [N2]; exact rx_up_self _ _ _)
  have z2 : rz_f Z (d + 3) 21 [.ref (c + 3), .ref (c + 1)] (rz_mk n2 j2, (c + 4, s + 611)) = some (.inl none, (rz_mk m2 i2, (c + 4, s + 611))) := z2'
  have am2 : m2 c = some (.inr (11, [.ref (c + 1), .null, .null, .null, .null, .null, .null, .null, .null, .null, .null, .null, .null, .int 0, .int 0, .int 0, .int 0, .int 0])) := by rw [(fr2 c (by omega)).1]; exact an2
  obtain ⟨g2, G2⟩ : ∃ y, y = rz_hs m2 c 1 (.ref (c + 3)) := ⟨_, rfl⟩
  have ag2 : g2 c = some (.inr (11, [.ref (c + 1), .ref (c + 3), .null, .null, .null, .null, .null, .null, .null, .null, .null, .null, .null, .int 0, .int 0, .int 0, .int 0, .int 0])) := by rw [G2, hs_s am2]; rfl
  have K2 : ∀ x, x ≠ c → (x < c + 3 ∨ c + 4 ≤ x) → g2 x = g1 x ∧ i2 x = i1 x := fun x hx hy => ⟨by rw [G2, hs_ne hx, (fr2 x hy).1, N2, up_ne (by omega)], by rw [(fr2 x hy).2, J2, zz_ne (by omega)]⟩
  have O2 : olI Z g2 i2 := O1.ag (fun x hx => K2 x (by omega) (by omega))
  obtain ⟨n3, N3⟩ : ∃ y, y = rx_up g2 (c + 4) (.inr (6, rx_df 6)) := ⟨_, rfl⟩
  obtain ⟨j3, J3⟩ : ∃ y, y = rz_z i2 (c + 4) := ⟨_, rfl⟩
  have an3 : n3 c = some (.inr (11, [.ref (c + 1), .ref (c + 3), .null, .null, .null, .null, .null, .null, .null, .null, .null, .null, .null, .int 0, .int 0, .int 0, .int 0, .int 0])) := by rw [N3, up_ne (by omega)]; exact ag2
  obtain ⟨m3, i3, z3', t1_3, t2_3, fr3⟩ := nw_lawText (Z := Z) (d := d) (h := n3) (ι := j3) (a := c + 4) (s := s + 613) (t := c + 1) (by omega) (by rw [N3]; exact rx_up_self _ _ _) (O2.ag (fun x hx => ⟨by rw [N3, up_ne (by omega)], by rw [J3, zz_ne (by omega)]⟩))
  have z3 : rz_f Z (d + 3) 53 [.ref (c + 4), .ref (c + 1)] (rz_mk n3 j3, (c + 5, s + 613)) = some (.inl none, (rz_mk m3 i3, (c + 9, s + 796))) := z3'
  have am3 : m3 c = some (.inr (11, [.ref (c + 1), .ref (c + 3), .null, .null, .null, .null, .null, .null, .null, .null, .null, .null, .null, .int 0, .int 0, .int 0, .int 0, .int 0])) := by rw [(fr3 c (by omega)).1]; exact an3
  obtain ⟨g3, G3⟩ : ∃ y, y = rz_hs m3 c 2 (.ref (c + 4)) := ⟨_, rfl⟩
  have ag3 : g3 c = some (.inr (11, [.ref (c + 1), .ref (c + 3), .ref (c + 4), .null, .null, .null, .null, .null, .null, .null, .null, .null, .null, .int 0, .int 0, .int 0, .int 0, .int 0])) := by rw [G3, hs_s am3]; rfl
  have K3 : ∀ x, x ≠ c → (x < c + 4 ∨ c + 9 ≤ x) → g3 x = g2 x ∧ i3 x = i2 x := fun x hx hy => ⟨by rw [G3, hs_ne hx, (fr3 x hy).1, N3, up_ne (by omega)], by rw [(fr3 x hy).2, J3, zz_ne (by omega)]⟩
  have O3 : olI Z g3 i3 := O2.ag (fun x hx => K3 x (by omega) (by omega))
  obtain ⟨n4, N4⟩ : ∃ y, y = rx_up g3 (c + 9) (.inr (10, rx_df 10)) := ⟨_, rfl⟩
  obtain ⟨j4, J4⟩ : ∃ y, y = rz_z i3 (c + 9) := ⟨_, rfl⟩
  have an4 : n4 c = some (.inr (11, [.ref (c + 1), .ref (c + 3), .ref (c + 4), .null, .null, .null, .null, .null, .null, .null, .null, .null, .null, .int 0, .int 0, .int 0, .int 0, .int 0])) := by rw [N4, up_ne (by omega)]; exact ag3
  obtain ⟨m4, i4, z4', t1_4, fr4⟩ := nw_work (Z := Z) (d := d + 2) (h := n4) (ι := j4) (a := c + 9) (s := s + 805) (t := c + 1) (by omega) (by rw [N4]; exact rx_up_self _ _ _)
  have z4 : rz_f Z (d + 3) 102 [.ref (c + 9), .ref (c + 1)] (rz_mk n4 j4, (c + 10, s + 805)) = some (.inl none, (rz_mk m4 i4, (c + 13, s + 965))) := z4'
  have am4 : m4 c = some (.inr (11, [.ref (c + 1), .ref (c + 3), .ref (c + 4), .null, .null, .null, .null, .null, .null, .null, .null, .null, .null, .int 0, .int 0, .int 0, .int 0, .int 0])) := by rw [(fr4 c (by omega)).1]; exact an4
  obtain ⟨g4, G4⟩ : ∃ y, y = rz_hs m4 c 3 (.ref (c + 9)) := ⟨_, rfl⟩
  have ag4 : g4 c = some (.inr (11, [.ref (c + 1), .ref (c + 3), .ref (c + 4), .ref (c + 9), .null, .null, .null, .null, .null, .null, .null, .null, .null, .int 0, .int 0, .int 0, .int 0, .int 0])) := by rw [G4, hs_s am4]; rfl
  have K4 : ∀ x, x ≠ c → (x < c + 9 ∨ c + 13 ≤ x) → g4 x = g3 x ∧ i4 x = i3 x := fun x hx hy => ⟨by rw [G4, hs_ne hx, (fr4 x hy).1, N4, up_ne (by omega)], by rw [(fr4 x hy).2, J4, zz_ne (by omega)]⟩
  have O4 : olI Z g4 i4 := O3.ag (fun x hx => K4 x (by omega) (by omega))
  obtain ⟨n5, N5⟩ : ∃ y, y = rx_up g4 (c + 13) (.inr (0, rx_df 0)) := ⟨_, rfl⟩
  obtain ⟨j5, J5⟩ : ∃ y, y = rz_z i4 (c + 13) := ⟨_, rfl⟩
  have an5 : n5 c = some (.inr (11, [.ref (c + 1), .ref (c + 3), .ref (c + 4), .ref (c + 9), .null, .null, .null, .null, .null, .null, .null, .null, .null, .int 0, .int 0, .int 0, .int 0, .int 0])) := by rw [N5, up_ne (by omega)]; exact ag4
  obtain ⟨m5, i5, z5', t1_5, t2_5, t3_5, fr5⟩ := nw_book (Z := Z) (d := d + 1) (h := n5) (ι := j5) (a := c + 13) (s := s + 968) (by omega) (by rw [N5]; exact rx_up_self _ _ _)
  have z5 : rz_f Z (d + 3) 0 [.ref (c + 13)] (rz_mk n5 j5, (c + 14, s + 968)) = some (.inl none, (rz_mk m5 i5, (c + 16, s + 984))) := z5'
  have am5 : m5 c = some (.inr (11, [.ref (c + 1), .ref (c + 3), .ref (c + 4), .ref (c + 9), .null, .null, .null, .null, .null, .null, .null, .null, .null, .int 0, .int 0, .int 0, .int 0, .int 0])) := by rw [(fr5 c (by omega)).1]; exact an5
  obtain ⟨g5, G5⟩ : ∃ y, y = rz_hs m5 c 4 (.ref (c + 13)) := ⟨_, rfl⟩
  have ag5 : g5 c = some (.inr (11, [.ref (c + 1), .ref (c + 3), .ref (c + 4), .ref (c + 9), .ref (c + 13), .null, .null, .null, .null, .null, .null, .null, .null, .int 0, .int 0, .int 0, .int 0, .int 0])) := by rw [G5, hs_s am5]; rfl
  have K5 : ∀ x, x ≠ c → (x < c + 13 ∨ c + 16 ≤ x) → g5 x = g4 x ∧ i5 x = i4 x := fun x hx hy => ⟨by rw [G5, hs_ne hx, (fr5 x hy).1, N5, up_ne (by omega)], by rw [(fr5 x hy).2, J5, zz_ne (by omega)]⟩
  have O5 : olI Z g5 i5 := O4.ag (fun x hx => K5 x (by omega) (by omega))
  obtain ⟨n6, N6⟩ : ∃ y, y = rx_up g5 (c + 16) (.inr (2, rx_df 2)) := ⟨_, rfl⟩
  obtain ⟨j6, J6⟩ : ∃ y, y = rz_z i5 (c + 16) := ⟨_, rfl⟩
  have an6 : n6 c = some (.inr (11, [.ref (c + 1), .ref (c + 3), .ref (c + 4), .ref (c + 9), .ref (c + 13), .null, .null, .null, .null, .null, .null, .null, .null, .int 0, .int 0, .int 0, .int 0, .int 0])) := by rw [N6, up_ne (by omega)]; exact ag5
  obtain ⟨m6, i6, z6', t1_6, fr6⟩ := nw_court (Z := Z) (d := d + 2) (h := n6) (ι := j6) (a := c + 16) (s := s + 990) (by omega) (by rw [N6]; exact rx_up_self _ _ _)
  have z6 : rz_f Z (d + 3) 9 [.ref (c + 16)] (rz_mk n6 j6, (c + 17, s + 990)) = some (.inl none, (rz_mk m6 i6, (c + 23, s + 3134))) := z6'
  have am6 : m6 c = some (.inr (11, [.ref (c + 1), .ref (c + 3), .ref (c + 4), .ref (c + 9), .ref (c + 13), .null, .null, .null, .null, .null, .null, .null, .null, .int 0, .int 0, .int 0, .int 0, .int 0])) := by rw [(fr6 c (by omega)).1]; exact an6
  obtain ⟨g6, G6⟩ : ∃ y, y = rz_hs m6 c 5 (.ref (c + 16)) := ⟨_, rfl⟩
  have ag6 : g6 c = some (.inr (11, [.ref (c + 1), .ref (c + 3), .ref (c + 4), .ref (c + 9), .ref (c + 13), .ref (c + 16), .null, .null, .null, .null, .null, .null, .null, .int 0, .int 0, .int 0, .int 0, .int 0])) := by rw [G6, hs_s am6]; rfl
  have K6 : ∀ x, x ≠ c → (x < c + 16 ∨ c + 23 ≤ x) → g6 x = g5 x ∧ i6 x = i5 x := fun x hx hy => ⟨by rw [G6, hs_ne hx, (fr6 x hy).1, N6, up_ne (by omega)], by rw [(fr6 x hy).2, J6, zz_ne (by omega)]⟩
  have O6 : olI Z g6 i6 := O5.ag (fun x hx => K6 x (by omega) (by omega))
  obtain ⟨n7, N7⟩ : ∃ y, y = rx_up g6 (c + 23) (.inr (4, rx_df 4)) := ⟨_, rfl⟩
  obtain ⟨j7, J7⟩ : ∃ y, y = rz_z i6 (c + 23) := ⟨_, rfl⟩
  have an7 : n7 c = some (.inr (11, [.ref (c + 1), .ref (c + 3), .ref (c + 4), .ref (c + 9), .ref (c + 13), .ref (c + 16), .null, .null, .null, .null, .null, .null, .null, .int 0, .int 0, .int 0, .int 0, .int 0])) := by rw [N7, up_ne (by omega)]; exact ag6
  obtain ⟨m7, i7, z7', t1_7, fr7⟩ := nw_guess (Z := Z) (d := d + 2) (h := n7) (ι := j7) (a := c + 23) (s := s + 3140) (by omega) (by rw [N7]; exact rx_up_self _ _ _)
  have z7 : rz_f Z (d + 3) 28 [.ref (c + 23)] (rz_mk n7 j7, (c + 24, s + 3140)) = some (.inl none, (rz_mk m7 i7, (c + 27, s + 4270))) := z7'
  have am7 : m7 c = some (.inr (11, [.ref (c + 1), .ref (c + 3), .ref (c + 4), .ref (c + 9), .ref (c + 13), .ref (c + 16), .null, .null, .null, .null, .null, .null, .null, .int 0, .int 0, .int 0, .int 0, .int 0])) := by rw [(fr7 c (by omega)).1]; exact an7
  obtain ⟨g7, G7⟩ : ∃ y, y = rz_hs m7 c 6 (.ref (c + 23)) := ⟨_, rfl⟩
  have ag7 : g7 c = some (.inr (11, [.ref (c + 1), .ref (c + 3), .ref (c + 4), .ref (c + 9), .ref (c + 13), .ref (c + 16), .ref (c + 23), .null, .null, .null, .null, .null, .null, .int 0, .int 0, .int 0, .int 0, .int 0])) := by rw [G7, hs_s am7]; rfl
  have K7 : ∀ x, x ≠ c → (x < c + 23 ∨ c + 27 ≤ x) → g7 x = g6 x ∧ i7 x = i6 x := fun x hx hy => ⟨by rw [G7, hs_ne hx, (fr7 x hy).1, N7, up_ne (by omega)], by rw [(fr7 x hy).2, J7, zz_ne (by omega)]⟩
  have O7 : olI Z g7 i7 := O6.ag (fun x hx => K7 x (by omega) (by omega))
  obtain ⟨n8, N8⟩ : ∃ y, y = rx_up g7 (c + 27) (.inr (8, rx_df 8)) := ⟨_, rfl⟩
  obtain ⟨j8, J8⟩ : ∃ y, y = rz_z i7 (c + 27) := ⟨_, rfl⟩
  have an8 : n8 c = some (.inr (11, [.ref (c + 1), .ref (c + 3), .ref (c + 4), .ref (c + 9), .ref (c + 13), .ref (c + 16), .ref (c + 23), .null, .null, .null, .null, .null, .null, .int 0, .int 0, .int 0, .int 0, .int 0])) := by rw [N8, up_ne (by omega)]; exact ag7
  obtain ⟨m8, i8, z8', t1_8, t2_8, fr8⟩ := rm_init (Z := Z) (d := d + 2) (h := n8) (ι := j8) (a := c + 27) (s := s + 4279) (by omega) (by rw [N8]; exact rx_up_self _ _ _)
  have z8 : rz_f Z (d + 3) 65 [.ref (c + 27)] (rz_mk n8 j8, (c + 28, s + 4279)) = some (.inl none, (rz_mk m8 i8, (c + 31, s + 4335))) := z8'
  have am8 : m8 c = some (.inr (11, [.ref (c + 1), .ref (c + 3), .ref (c + 4), .ref (c + 9), .ref (c + 13), .ref (c + 16), .ref (c + 23), .null, .null, .null, .null, .null, .null, .int 0, .int 0, .int 0, .int 0, .int 0])) := by rw [(fr8 c (by omega)).1]; exact an8
  obtain ⟨g8, G8⟩ : ∃ y, y = rz_hs m8 c 7 (.ref (c + 27)) := ⟨_, rfl⟩
  have ag8 : g8 c = some (.inr (11, [.ref (c + 1), .ref (c + 3), .ref (c + 4), .ref (c + 9), .ref (c + 13), .ref (c + 16), .ref (c + 23), .ref (c + 27), .null, .null, .null, .null, .null, .int 0, .int 0, .int 0, .int 0, .int 0])) := by rw [G8, hs_s am8]; rfl
  have K8 : ∀ x, x ≠ c → (x < c + 27 ∨ c + 31 ≤ x) → g8 x = g7 x ∧ i8 x = i7 x := fun x hx hy => ⟨by rw [G8, hs_ne hx, (fr8 x hy).1, N8, up_ne (by omega)], by rw [(fr8 x hy).2, J8, zz_ne (by omega)]⟩
  have O8 : olI Z g8 i8 := O7.ag (fun x hx => K8 x (by omega) (by omega))
  obtain ⟨n9, N9⟩ : ∃ y, y = rx_up g8 (c + 31) (.inr (1, rx_df 1)) := ⟨_, rfl⟩
  obtain ⟨j9, J9⟩ : ∃ y, y = rz_z i8 (c + 31) := ⟨_, rfl⟩
  have an9 : n9 c = some (.inr (11, [.ref (c + 1), .ref (c + 3), .ref (c + 4), .ref (c + 9), .ref (c + 13), .ref (c + 16), .ref (c + 23), .ref (c + 27), .null, .null, .null, .null, .null, .int 0, .int 0, .int 0, .int 0, .int 0])) := by rw [N9, up_ne (by omega)]; exact ag8
  obtain ⟨m9, i9, z9', t1_9, fr9⟩ := nw_chron (Z := Z) (d := d + 2) (h := n9) (ι := j9) (a := c + 31) (s := s + 4336) (by omega) (by rw [N9]; exact rx_up_self _ _ _)
  have z9 : rz_f Z (d + 3) 6 [.ref (c + 31)] (rz_mk n9 j9, (c + 32, s + 4336)) = some (.inl none, (rz_mk m9 i9, (c + 32, s + 4336))) := z9'
  have am9 : m9 c = some (.inr (11, [.ref (c + 1), .ref (c + 3), .ref (c + 4), .ref (c + 9), .ref (c + 13), .ref (c + 16), .ref (c + 23), .ref (c + 27), .null, .null, .null, .null, .null, .int 0, .int 0, .int 0, .int 0, .int 0])) := by rw [(fr9 c (by omega)).1]; exact an9
  obtain ⟨g9, G9⟩ : ∃ y, y = rz_hs m9 c 8 (.ref (c + 31)) := ⟨_, rfl⟩
  have ag9 : g9 c = some (.inr (11, [.ref (c + 1), .ref (c + 3), .ref (c + 4), .ref (c + 9), .ref (c + 13), .ref (c + 16), .ref (c + 23), .ref (c + 27), .ref (c + 31), .null, .null, .null, .null, .int 0, .int 0, .int 0, .int 0, .int 0])) := by rw [G9, hs_s am9]; rfl
  have K9 : ∀ x, x ≠ c → (x < c + 31 ∨ c + 32 ≤ x) → g9 x = g8 x ∧ i9 x = i8 x := fun x hx hy => ⟨by rw [G9, hs_ne hx, (fr9 x hy).1, N9, up_ne (by omega)], by rw [(fr9 x hy).2, J9, zz_ne (by omega)]⟩
  have O9 : olI Z g9 i9 := O8.ag (fun x hx => K9 x (by omega) (by omega))
  obtain ⟨m10, N10⟩ : ∃ y, y = rx_up g9 (c + 32) (.inl (2, 3, fun _ => .null)) := ⟨_, rfl⟩
  obtain ⟨i10, J10⟩ : ∃ y, y = rz_z i9 (c + 32) := ⟨_, rfl⟩
  have am10 : m10 c = some (.inr (11, [.ref (c + 1), .ref (c + 3), .ref (c + 4), .ref (c + 9), .ref (c + 13), .ref (c + 16), .ref (c + 23), .ref (c + 27), .ref (c + 31), .null, .null, .null, .null, .int 0, .int 0, .int 0, .int 0, .int 0])) := by rw [N10, up_ne (by omega)]; exact ag9
  obtain ⟨g10, G10⟩ : ∃ y, y = rz_hs m10 c 9 (.ref (c + 32)) := ⟨_, rfl⟩
  have ag10 : g10 c = some (.inr (11, [.ref (c + 1), .ref (c + 3), .ref (c + 4), .ref (c + 9), .ref (c + 13), .ref (c + 16), .ref (c + 23), .ref (c + 27), .ref (c + 31), .ref (c + 32), .null, .null, .null, .int 0, .int 0, .int 0, .int 0, .int 0])) := by rw [G10, hs_s am10]; rfl
  have K10 : ∀ x, x ≠ c → (x < c + 32 ∨ c + 33 ≤ x) → g10 x = g9 x ∧ i10 x = i9 x := fun x hx hy => ⟨by rw [G10, hs_ne hx, N10, up_ne (by omega)], by rw [J10, zz_ne (by omega)]⟩
  have O10 : olI Z g10 i10 := O9.ag (fun x hx => K10 x (by omega) (by omega))
  obtain ⟨n11, N11⟩ : ∃ y, y = rx_up g10 (c + 33) (.inr (5, rx_df 5)) := ⟨_, rfl⟩
  obtain ⟨j11, J11⟩ : ∃ y, y = rz_z i10 (c + 33) := ⟨_, rfl⟩
  have an11 : n11 c = some (.inr (11, [.ref (c + 1), .ref (c + 3), .ref (c + 4), .ref (c + 9), .ref (c + 13), .ref (c + 16), .ref (c + 23), .ref (c + 27), .ref (c + 31), .ref (c + 32), .null, .null, .null, .int 0, .int 0, .int 0, .int 0, .int 0])) := by rw [N11, up_ne (by omega)]; exact ag10
  obtain ⟨m11, i11, z11', t1_11, t2_11, fr11⟩ := nw_law (Z := Z) (d := d + 1) (h := n11) (ι := j11) (a := c + 33) (s := s + 4343) (by omega) (by rw [N11]; exact rx_up_self _ _ _) (O10.ag (fun x hx => ⟨by rw [N11, up_ne (by omega)], by rw [J11, zz_ne (by omega)]⟩))
  have z11 : rz_f Z (d + 3) 40 [.ref (c + 33)] (rz_mk n11 j11, (c + 34, s + 4343)) = some (.inl none, (rz_mk m11 i11, (c + 37, s + 4522))) := z11'
  have am11 : m11 c = some (.inr (11, [.ref (c + 1), .ref (c + 3), .ref (c + 4), .ref (c + 9), .ref (c + 13), .ref (c + 16), .ref (c + 23), .ref (c + 27), .ref (c + 31), .ref (c + 32), .null, .null, .null, .int 0, .int 0, .int 0, .int 0, .int 0])) := by rw [(fr11 c (by omega)).1]; exact an11
  obtain ⟨g11, G11⟩ : ∃ y, y = rz_hs m11 c 10 (.ref (c + 33)) := ⟨_, rfl⟩
  have ag11 : g11 c = some (.inr (11, [.ref (c + 1), .ref (c + 3), .ref (c + 4), .ref (c + 9), .ref (c + 13), .ref (c + 16), .ref (c + 23), .ref (c + 27), .ref (c + 31), .ref (c + 32), .ref (c + 33), .null, .null, .int 0, .int 0, .int 0, .int 0, .int 0])) := by rw [G11, hs_s am11]; rfl
  have K11 : ∀ x, x ≠ c → (x < c + 33 ∨ c + 37 ≤ x) → g11 x = g10 x ∧ i11 x = i10 x := fun x hx hy => ⟨by rw [G11, hs_ne hx, (fr11 x hy).1, N11, up_ne (by omega)], by rw [(fr11 x hy).2, J11, zz_ne (by omega)]⟩
  have O11 : olI Z g11 i11 := O10.ag (fun x hx => K11 x (by omega) (by omega))
  obtain ⟨n12, N12⟩ : ∃ y, y = rx_up g11 (c + 37) (.inr (8, rx_df 8)) := ⟨_, rfl⟩
  obtain ⟨j12, J12⟩ : ∃ y, y = rz_z i11 (c + 37) := ⟨_, rfl⟩
  have an12 : n12 c = some (.inr (11, [.ref (c + 1), .ref (c + 3), .ref (c + 4), .ref (c + 9), .ref (c + 13), .ref (c + 16), .ref (c + 23), .ref (c + 27), .ref (c + 31), .ref (c + 32), .ref (c + 33), .null, .null, .int 0, .int 0, .int 0, .int 0, .int 0])) := by rw [N12, up_ne (by omega)]; exact ag11
  obtain ⟨m12, i12, z12', t1_12, t2_12, fr12⟩ := rm_init (Z := Z) (d := d + 2) (h := n12) (ι := j12) (a := c + 37) (s := s + 4531) (by omega) (by rw [N12]; exact rx_up_self _ _ _)
  have z12 : rz_f Z (d + 3) 65 [.ref (c + 37)] (rz_mk n12 j12, (c + 38, s + 4531)) = some (.inl none, (rz_mk m12 i12, (c + 41, s + 4587))) := z12'
  have am12 : m12 c = some (.inr (11, [.ref (c + 1), .ref (c + 3), .ref (c + 4), .ref (c + 9), .ref (c + 13), .ref (c + 16), .ref (c + 23), .ref (c + 27), .ref (c + 31), .ref (c + 32), .ref (c + 33), .null, .null, .int 0, .int 0, .int 0, .int 0, .int 0])) := by rw [(fr12 c (by omega)).1]; exact an12
  obtain ⟨g12, G12⟩ : ∃ y, y = rz_hs m12 c 11 (.ref (c + 37)) := ⟨_, rfl⟩
  have ag12 : g12 c = some (.inr (11, [.ref (c + 1), .ref (c + 3), .ref (c + 4), .ref (c + 9), .ref (c + 13), .ref (c + 16), .ref (c + 23), .ref (c + 27), .ref (c + 31), .ref (c + 32), .ref (c + 33), .ref (c + 37), .null, .int 0, .int 0, .int 0, .int 0, .int 0])) := by rw [G12, hs_s am12]; rfl
  have K12 : ∀ x, x ≠ c → (x < c + 37 ∨ c + 41 ≤ x) → g12 x = g11 x ∧ i12 x = i11 x := fun x hx hy => ⟨by rw [G12, hs_ne hx, (fr12 x hy).1, N12, up_ne (by omega)], by rw [(fr12 x hy).2, J12, zz_ne (by omega)]⟩
  have O12 : olI Z g12 i12 := O11.ag (fun x hx => K12 x (by omega) (by omega))
  obtain ⟨g13, G13⟩ : ∃ y, y = rz_hs g12 c 12 .null := ⟨_, rfl⟩
  have ag13 : g13 c = some (.inr (11, [.ref (c + 1), .ref (c + 3), .ref (c + 4), .ref (c + 9), .ref (c + 13), .ref (c + 16), .ref (c + 23), .ref (c + 27), .ref (c + 31), .ref (c + 32), .ref (c + 33), .ref (c + 37), .null, .int 0, .int 0, .int 0, .int 0, .int 0])) := by rw [G13, hs_s ag12]; rfl
  obtain ⟨i13, I13⟩ : ∃ y, y = rz_up (rz_up (rz_up (rz_up (rz_up i12 c 13 0) c 14 10) c 15 0) c 16 0) c 17 0 := ⟨_, rfl⟩
  have K13 : ∀ x, x ≠ c → g13 x = g12 x ∧ i13 x = i12 x := fun x hx => ⟨by rw [G13, hs_ne hx], by rw [I13, rz_up_n hx, rz_up_n hx, rz_up_n hx, rz_up_n hx, rz_up_n hx]⟩
  have F12 : ∀ x, x ≠ c → x < c + 41 → g13 x = g12 x ∧ i13 x = i12 x := fun x hx _ => K13 x hx
  have F11 : ∀ x, x ≠ c → x < c + 37 → g13 x = g11 x ∧ i13 x = i11 x := fun x hx hy => ⟨(F12 x hx (by omega)).1.trans (K12 x hx (by omega)).1, (F12 x hx (by omega)).2.trans (K12 x hx (by omega)).2⟩
  have F10 : ∀ x, x ≠ c → x < c + 33 → g13 x = g10 x ∧ i13 x = i10 x := fun x hx hy => ⟨(F11 x hx (by omega)).1.trans (K11 x hx (by omega)).1, (F11 x hx (by omega)).2.trans (K11 x hx (by omega)).2⟩
  have F9 : ∀ x, x ≠ c → x < c + 32 → g13 x = g9 x ∧ i13 x = i9 x := fun x hx hy => ⟨(F10 x hx (by omega)).1.trans (K10 x hx (by omega)).1, (F10 x hx (by omega)).2.trans (K10 x hx (by omega)).2⟩
  have F8 : ∀ x, x ≠ c → x < c + 31 → g13 x = g8 x ∧ i13 x = i8 x := fun x hx hy => ⟨(F9 x hx (by omega)).1.trans (K9 x hx (by omega)).1, (F9 x hx (by omega)).2.trans (K9 x hx (by omega)).2⟩
  have F7 : ∀ x, x ≠ c → x < c + 27 → g13 x = g7 x ∧ i13 x = i7 x := fun x hx hy => ⟨(F8 x hx (by omega)).1.trans (K8 x hx (by omega)).1, (F8 x hx (by omega)).2.trans (K8 x hx (by omega)).2⟩
  have F6 : ∀ x, x ≠ c → x < c + 23 → g13 x = g6 x ∧ i13 x = i6 x := fun x hx hy => ⟨(F7 x hx (by omega)).1.trans (K7 x hx (by omega)).1, (F7 x hx (by omega)).2.trans (K7 x hx (by omega)).2⟩
  have F5 : ∀ x, x ≠ c → x < c + 16 → g13 x = g5 x ∧ i13 x = i5 x := fun x hx hy => ⟨(F6 x hx (by omega)).1.trans (K6 x hx (by omega)).1, (F6 x hx (by omega)).2.trans (K6 x hx (by omega)).2⟩
  have F4 : ∀ x, x ≠ c → x < c + 13 → g13 x = g4 x ∧ i13 x = i4 x := fun x hx hy => ⟨(F5 x hx (by omega)).1.trans (K5 x hx (by omega)).1, (F5 x hx (by omega)).2.trans (K5 x hx (by omega)).2⟩
  have F3 : ∀ x, x ≠ c → x < c + 9 → g13 x = g3 x ∧ i13 x = i3 x := fun x hx hy => ⟨(F4 x hx (by omega)).1.trans (K4 x hx (by omega)).1, (F4 x hx (by omega)).2.trans (K4 x hx (by omega)).2⟩
  have F2 : ∀ x, x ≠ c → x < c + 4 → g13 x = g2 x ∧ i13 x = i2 x := fun x hx hy => ⟨(F3 x hx (by omega)).1.trans (K3 x hx (by omega)).1, (F3 x hx (by omega)).2.trans (K3 x hx (by omega)).2⟩
  have F1 : ∀ x, x ≠ c → x < c + 3 → g13 x = g1 x ∧ i13 x = i1 x := fun x hx hy => ⟨(F2 x hx (by omega)).1.trans (K2 x hx (by omega)).1, (F2 x hx (by omega)).2.trans (K2 x hx (by omega)).2⟩
  have M1 : ∀ x, c + 1 ≤ x → x < c + 3 → g13 x = m1 x ∧ i13 x = i1 x := fun x h1 h2 => ⟨(F1 x (by omega) (by omega)).1.trans (by rw [G1, hs_ne (by omega)]), (F1 x (by omega) (by omega)).2⟩
  have M2 : ∀ x, c + 3 ≤ x → x < c + 4 → g13 x = m2 x ∧ i13 x = i2 x := fun x h1 h2 => ⟨(F2 x (by omega) (by omega)).1.trans (by rw [G2, hs_ne (by omega)]), (F2 x (by omega) (by omega)).2⟩
  have M3 : ∀ x, c + 4 ≤ x → x < c + 9 → g13 x = m3 x ∧ i13 x = i3 x := fun x h1 h2 => ⟨(F3 x (by omega) (by omega)).1.trans (by rw [G3, hs_ne (by omega)]), (F3 x (by omega) (by omega)).2⟩
  have M4 : ∀ x, c + 9 ≤ x → x < c + 13 → g13 x = m4 x ∧ i13 x = i4 x := fun x h1 h2 => ⟨(F4 x (by omega) (by omega)).1.trans (by rw [G4, hs_ne (by omega)]), (F4 x (by omega) (by omega)).2⟩
  have M5 : ∀ x, c + 13 ≤ x → x < c + 16 → g13 x = m5 x ∧ i13 x = i5 x := fun x h1 h2 => ⟨(F5 x (by omega) (by omega)).1.trans (by rw [G5, hs_ne (by omega)]), (F5 x (by omega) (by omega)).2⟩
  have M6 : ∀ x, c + 16 ≤ x → x < c + 23 → g13 x = m6 x ∧ i13 x = i6 x := fun x h1 h2 => ⟨(F6 x (by omega) (by omega)).1.trans (by rw [G6, hs_ne (by omega)]), (F6 x (by omega) (by omega)).2⟩
  have M7 : ∀ x, c + 23 ≤ x → x < c + 27 → g13 x = m7 x ∧ i13 x = i7 x := fun x h1 h2 => ⟨(F7 x (by omega) (by omega)).1.trans (by rw [G7, hs_ne (by omega)]), (F7 x (by omega) (by omega)).2⟩
  have M8 : ∀ x, c + 27 ≤ x → x < c + 31 → g13 x = m8 x ∧ i13 x = i8 x := fun x h1 h2 => ⟨(F8 x (by omega) (by omega)).1.trans (by rw [G8, hs_ne (by omega)]), (F8 x (by omega) (by omega)).2⟩
  have M9 : ∀ x, c + 31 ≤ x → x < c + 32 → g13 x = m9 x ∧ i13 x = i9 x := fun x h1 h2 => ⟨(F9 x (by omega) (by omega)).1.trans (by rw [G9, hs_ne (by omega)]), (F9 x (by omega) (by omega)).2⟩
  have M10 : ∀ x, c + 32 ≤ x → x < c + 33 → g13 x = m10 x ∧ i13 x = i10 x := fun x h1 h2 => ⟨(F10 x (by omega) (by omega)).1.trans (by rw [G10, hs_ne (by omega)]), (F10 x (by omega) (by omega)).2⟩
  have M11 : ∀ x, c + 33 ≤ x → x < c + 37 → g13 x = m11 x ∧ i13 x = i11 x := fun x h1 h2 => ⟨(F11 x (by omega) (by omega)).1.trans (by rw [G11, hs_ne (by omega)]), (F11 x (by omega) (by omega)).2⟩
  have M12 : ∀ x, c + 37 ≤ x → x < c + 41 → g13 x = m12 x ∧ i13 x = i12 x := fun x h1 h2 => ⟨(F12 x (by omega) (by omega)).1.trans (by rw [G12, hs_ne (by omega)]), (F12 x (by omega) (by omega)).2⟩
  have fr : ∀ x, (x < c ∨ c + 41 ≤ x) → g13 x = h x ∧ i13 x = ι x := fun x hx => by
    have e13 := K13 x (by omega)
    have e12 := K12 x (by omega) (by omega)
    have e11 := K11 x (by omega) (by omega)
    have e10 := K10 x (by omega) (by omega)
    have e9 := K9 x (by omega) (by omega)
    have e8 := K8 x (by omega) (by omega)
    have e7 := K7 x (by omega) (by omega)
    have e6 := K6 x (by omega) (by omega)
    have e5 := K5 x (by omega) (by omega)
    have e4 := K4 x (by omega) (by omega)
    have e3 := K3 x (by omega) (by omega)
    have e2 := K2 x (by omega) (by omega)
    have e1 := K1 x (by omega) (by omega)
    exact ⟨e13.1.trans (e12.1.trans (e11.1.trans (e10.1.trans (e9.1.trans (e8.1.trans (e7.1.trans (e6.1.trans (e5.1.trans (e4.1.trans (e3.1.trans (e2.1.trans (e1.1)))))))))))), e13.2.trans (e12.2.trans (e11.2.trans (e10.2.trans (e9.2.trans (e8.2.trans (e7.2.trans (e6.2.trans (e5.2.trans (e4.2.trans (e3.2.trans (e2.2.trans (e1.2))))))))))))⟩
  refine ⟨g13, i13, ?_, ⟨t1_1.ag (fun x h1 h2 => (M1 x (by omega) (by omega)).1), t1_2.ag (M2 _ (by omega) (by omega)).1, t1_4.ag (fun x h1 h2 => (M4 x (by omega) (by omega)).1), t1_5.ag (fun x h1 h2 => (M5 x (by omega) (by omega)).1), t1_6.ag (fun x h1 h2 => (M6 x (by omega) (by omega)).1), t1_7.ag (fun x h1 h2 => (M7 x (by omega) (by omega)).1), t1_8.ag (fun x h1 h2 => (M8 x (by omega) (by omega)).1), t1_9.ag (M9 _ (by omega) (by omega)).1, t2_3.ag (fun x h1 h2 => (M3 x (by omega) (by omega)).1), t1_11.ag (fun x h1 h2 => (M11 x (by omega) (by omega)).1)⟩, ⟨ag13, rfl⟩, t1_3.ag (M3 _ (by omega) (by omega)).1, ⟨by rw [(M11 _ (by omega) (by omega)).2]; exact t2_11.1, fun q hq => by rw [(M11 _ (by omega) (by omega)).2]; exact t2_11.2.1 q hq, t2_11.2.2⟩, t1_12.ag (fun x h1 h2 => (M12 x (by omega) (by omega)).1), (rl_eq (M12 _ (by omega) (by omega)).2 (M12 _ (by omega) (by omega)).2 (M12 _ (by omega) (by omega)).2 (M12 _ (by omega) (by omega)).2).trans t2_12, (M10 _ (by omega) (by omega)).1.trans (by rw [N10]; exact rx_up_self _ _ _), ⟨?_, ?_, ?_, ?_, ?_, ?_, ?_, ?_, ?_, ?_⟩, ?_, fr⟩
  · rw [e119]
    simp (decide := true) (maxDischargeDepth := 4) only [g119_0, g119_1, g119_4, g119_5, g119_8, g119_9, g119_12, g119_15, g119_16, g119_19, g119_20, g119_21, g119_24, g119_27, g119_30, g119_31, g119_34, g119_35, g119_36, g119_39, g119_42, g119_45, g119_46, g119_49, g119_50, g119_51, g119_54, g119_57, g119_60, g119_61, g119_64, g119_65, g119_68, g119_71, g119_72, g119_75, g119_76, g119_79, g119_82, g119_83, g119_86, g119_87, g119_90, g119_93, g119_94, g119_97, g119_98, g119_101, g119_104, g119_105, g119_108, g119_109, g119_112, g119_115, g119_116, g119_117, g119_120, g119_123, g119_124, g119_127, g119_128, g119_131, g119_134, g119_135, g119_138, g119_139, g119_142, g119_145, g119_146, g119_147, g119_150, g119_151, g119_152, g119_155, g119_156, g119_158, g119_161, g119_162, g119_163, g119_166, g119_167, g119_168, g119_171, g119_172, g119_173, g119_176, rz_k_inl, rz_k_inr, Option.toList_some, Option.toList_none, List.cons_append, List.nil_append, List.append_nil, rz_up_s, rz_u_s, rz_up_n, rz_u_n, ne_eq, not_false_eq_true, not_true_eq_false, Nat.add_assoc, Nat.reduceAdd, reduceIte, Nat.add_eq_left, Nat.left_eq_add, Nat.add_left_cancel_iff, Nat.reduceEqDiff, Nat.add_right_cancel_iff, rz_nb0, rz_nb1, rz_nbb, rz_nbi, rz_isr, rz_zle, if_true, if_false, rz_bi0, rz_bi1, Bool.not_eq_true, Bool.not_eq_false, Bool.true_eq_false, Bool.false_eq_true, rz_ix_lit, cl_lit, Nat.reduceLT, bi_t, bi_f, decide_true, decide_false, Bool.not_false, Bool.not_true, Bool.and_true, Bool.true_and, Bool.and_false, Bool.false_and, ← N1, ← J1, z1, g119_12 (⟨_, _, am1, rfl, rfl⟩ : rz_fR m1 c 11 0) isr_r hz, ← G1, ← N2, ← J2, z2, g119_21 (⟨_, _, an2, rfl, rfl⟩ : rz_fR n2 c 11 0), (show rz_rv n2 c 0 = .ref (c + 1) from by unfold rz_rv; rw [an2]; rfl), g119_27 (⟨_, _, am2, rfl, rfl⟩ : rz_fR m2 c 11 1) isr_r hz, ← G2, ← N3, ← J3, z3, g119_36 (⟨_, _, an3, rfl, rfl⟩ : rz_fR n3 c 11 0), (show rz_rv n3 c 0 = .ref (c + 1) from by unfold rz_rv; rw [an3]; rfl), g119_42 (⟨_, _, am3, rfl, rfl⟩ : rz_fR m3 c 11 2) isr_r hz, ← G3, ← N4, ← J4, z4, g119_51 (⟨_, _, an4, rfl, rfl⟩ : rz_fR n4 c 11 0), (show rz_rv n4 c 0 = .ref (c + 1) from by unfold rz_rv; rw [an4]; rfl), g119_57 (⟨_, _, am4, rfl, rfl⟩ : rz_fR m4 c 11 3) isr_r hz, ← G4, ← N5, ← J5, z5, g119_68 (⟨_, _, am5, rfl, rfl⟩ : rz_fR m5 c 11 4) isr_r hz, ← G5, ← N6, ← J6, z6, g119_79 (⟨_, _, am6, rfl, rfl⟩ : rz_fR m6 c 11 5) isr_r hz, ← G6, ← N7, ← J7, z7, g119_90 (⟨_, _, am7, rfl, rfl⟩ : rz_fR m7 c 11 6) isr_r hz, ← G7, ← N8, ← J8, z8, g119_101 (⟨_, _, am8, rfl, rfl⟩ : rz_fR m8 c 11 7) isr_r hz, ← G8, ← N9, ← J9, z9, g119_112 (⟨_, _, am9, rfl, rfl⟩ : rz_fR m9 c 11 8) isr_r hz, ← G9, ← N10, ← J10, g119_120 (⟨_, _, am10, rfl, rfl⟩ : rz_fR m10 c 11 9) isr_r hz, ← G10, ← N11, ← J11, z11, g119_131 (⟨_, _, am11, rfl, rfl⟩ : rz_fR m11 c 11 10) isr_r hz, ← G11, ← N12, ← J12, z12, g119_142 (⟨_, _, am12, rfl, rfl⟩ : rz_fR m12 c 11 11) isr_r hz, ← G12, g119_147 (⟨_, _, ag12, rfl, rfl⟩ : rz_fR g12 c 11 12) isr_n hz, ← G13, (show rz_fI g13 c 11 13 from ⟨_, _, ag13, rfl⟩), (show rz_fI g13 c 11 14 from ⟨_, _, ag13, rfl⟩), (show rz_fI g13 c 11 15 from ⟨_, _, ag13, rfl⟩), (show rz_fI g13 c 11 16 from ⟨_, _, ag13, rfl⟩), (show rz_fI g13 c 11 17 from ⟨_, _, ag13, rfl⟩), ← I13, hz, isr_r, Nat.add_zero]
  · rw [I13, rz_up_s, rz_u_n (by decide), rz_up_s, rz_u_n (by decide), rz_up_s, rz_u_n (by decide), rz_up_s, rz_u_n (by decide), rz_up_s, rz_u_s]; rfl
  · rw [I13, rz_up_s, rz_u_n (by decide), rz_up_s, rz_u_n (by decide), rz_up_s, rz_u_n (by decide), rz_up_s, rz_u_s]
  · rw [I13, rz_up_s, rz_u_n (by decide), rz_up_s, rz_u_n (by decide), rz_up_s, rz_u_s]
  · rw [I13, rz_up_s, rz_u_n (by decide), rz_up_s, rz_u_s]
  · rw [I13, rz_up_s, rz_u_s]
  · rw [(M1 _ (by omega) (by omega)).2]; exact t2_1
  · rw [(M1 _ (by omega) (by omega)).2]; exact t3_1
  · intro q hq; rw [(M5 _ (by omega) (by omega)).2]; exact t2_5 q hq
  · rw [(M5 _ (by omega) (by omega)).2]; exact t3_5
  · intro x; rw [(M1 _ (by omega) (by omega)).2, show i1 (c + 2) = _ from t4_1]; show (0 : Int32) ≠ -1; decide
  · rw [(M1 _ (by omega) (by omega)).2]; exact t4_1
end NEW3
