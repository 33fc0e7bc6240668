/-! each instruction, one step (written by program) -/
section RZG
variable {Z : rx_Z} {d : Nat} {S : List Value} {L : rx_L} {σ : rx_S} {h : Nat → Option rx_E} {ι : Nat → Nat → Int32} {w : Nat × Nat} {a b t0 t1 t2 t3 t4 t5 t6 t7 t8 : Nat} {x y z s0 s1 s2 s3 s4 s5 s6 s7 s8 s9 s10 : Int32} {p q q0 q1 q2 q3 : Int64} {v v1 v2 v3 v4 v5 v6 v7 v8 v9 v10 : Value} {l0 l1 l2 l3 l4 l5 l6 l7 l8 l9 l10 l11 l12 l13 l14 : Option Value}
theorem g172_0 : rg Z d rx_m172 0 [some (.ref a)] S (rz_mk h ι, w) = rg Z d rx_m172 1 [some (.ref a)] (.ref a :: S) (rz_mk h ι, w) := rz_s1 fun _ => rfl
theorem g172_1 (c : rz_fR h a 12 11) : rg Z d rx_m172 1 L (.ref a :: S) (rz_mk h ι, w) = rg Z d rx_m172 4 L (rz_rv h a 11 :: S) (rz_mk h ι, w) := rz_gR rfl (by decide) c
theorem g172_4 : rg Z d rx_m172 4 L S (rz_mk h ι, w) = rg Z d rx_m172 5 L (.int 0 :: S) (rz_mk h ι, w) := rz_s1 fun _ => rfl
theorem g172_5 : rg Z d rx_m172 5 L S (rz_mk h ι, w) = rg Z d rx_m172 6 L (.int 0 :: S) (rz_mk h ι, w) := rz_s1 fun _ => rfl
theorem g172_6 (c : rz_ar h a 0) (hi : rz_ix x (rz_ln h a)) (hz : Z.2.1 ≤ a) : rg Z d rx_m172 6 L (.int y :: .int x :: .ref a :: S) (rz_mk h ι, w) = rg Z d rx_m172 7 L S (rz_mk h (rz_up ι a x.toNatClampNeg y), w) := rz_iast rfl c hi hz
theorem g172_7 : rg Z d rx_m172 7 [some (.ref a)] S (rz_mk h ι, w) = rg Z d rx_m172 8 [some (.ref a)] (.ref a :: S) (rz_mk h ι, w) := rz_s1 fun _ => rfl
theorem g172_8 (c : rz_fR h a 12 11) : rg Z d rx_m172 8 L (.ref a :: S) (rz_mk h ι, w) = rg Z d rx_m172 11 L (rz_rv h a 11 :: S) (rz_mk h ι, w) := rz_gR rfl (by decide) c
theorem g172_11 : rg Z d rx_m172 11 L S (rz_mk h ι, w) = rg Z d rx_m172 12 L (.int 1 :: S) (rz_mk h ι, w) := rz_s1 fun _ => rfl
theorem g172_12 : rg Z d rx_m172 12 L S (rz_mk h ι, w) = rg Z d rx_m172 13 L (.int 0 :: S) (rz_mk h ι, w) := rz_s1 fun _ => rfl
theorem g172_13 (c : rz_ar h a 0) (hi : rz_ix x (rz_ln h a)) (hz : Z.2.1 ≤ a) : rg Z d rx_m172 13 L (.int y :: .int x :: .ref a :: S) (rz_mk h ι, w) = rg Z d rx_m172 14 L S (rz_mk h (rz_up ι a x.toNatClampNeg y), w) := rz_iast rfl c hi hz
theorem g172_14 : rg Z d rx_m172 14 [some (.ref a)] S (rz_mk h ι, w) = rg Z d rx_m172 15 [some (.ref a)] (.ref a :: S) (rz_mk h ι, w) := rz_s1 fun _ => rfl
theorem g172_15 (c : rz_fR h a 12 11) : rg Z d rx_m172 15 L (.ref a :: S) (rz_mk h ι, w) = rg Z d rx_m172 18 L (rz_rv h a 11 :: S) (rz_mk h ι, w) := rz_gR rfl (by decide) c
theorem g172_18 : rg Z d rx_m172 18 L S (rz_mk h ι, w) = rg Z d rx_m172 19 L (.int 2 :: S) (rz_mk h ι, w) := rz_s1 fun _ => rfl
theorem g172_19 : rg Z d rx_m172 19 L S (rz_mk h ι, w) = rg Z d rx_m172 21 L (.int 10 :: S) (rz_mk h ι, w) := rz_s1 fun _ => rfl
theorem g172_21 (c : rz_ar h a 0) (hi : rz_ix x (rz_ln h a)) (hz : Z.2.1 ≤ a) : rg Z d rx_m172 21 L (.int y :: .int x :: .ref a :: S) (rz_mk h ι, w) = rg Z d rx_m172 22 L S (rz_mk h (rz_up ι a x.toNatClampNeg y), w) := rz_iast rfl c hi hz
theorem g172_22 : rg Z d rx_m172 22 L [] (rz_mk h ι, w) = some (.inl none, (rz_mk h ι, w)) := rz_r1 fun _ => rfl
theorem e172 : rz_f Z (d + 1) 172 [.ref t0] σ = rg Z d rx_m172 0 [some (.ref t0)] [] σ := rz_f_eq rfl (Nat.le_of_ble_eq_true rfl)
theorem g173_0 : rg Z d rx_m173 0 [some (.ref a)] S (rz_mk h ι, w) = rg Z d rx_m173 1 [some (.ref a)] (.ref a :: S) (rz_mk h ι, w) := rz_s1 fun _ => rfl
theorem g173_1 (c : rz_fI h a 12 0) : rg Z d rx_m173 1 L (.ref a :: S) (rz_mk h ι, w) = rg Z d rx_m173 4 L (.int (ι a 0) :: S) (rz_mk h ι, w) := rz_gI rfl (by decide) c
theorem g173_4 : rg Z d rx_m173 4 L [.int x] (rz_mk h ι, w) = some (.inl (some (.int x)), (rz_mk h ι, w)) := rz_reti rfl rfl rfl
theorem e173 : rz_f Z (d + 1) 173 [.ref t0] σ = rg Z d rx_m173 0 [some (.ref t0)] [] σ := rz_f_eq rfl (Nat.le_of_ble_eq_true rfl)
theorem g174_0 : rg Z d rx_m174 0 [l0, some (.int x), l2, l3] S (rz_mk h ι, w) = rg Z d rx_m174 1 [l0, some (.int x), l2, l3] (.int x :: S) (rz_mk h ι, w) := rz_s1 fun _ => rfl
theorem g174_1 : rg Z d rx_m174 1 L (.int x :: S) (rz_mk h ι, w) = if x = 0 then rg Z d rx_m174 26 L S (rz_mk h ι, w) else rg Z d rx_m174 4 L S (rz_mk h ι, w) := rz_if1 (pc := 1) (t := 26) (off := 25) (cc := .eq) (by decide) rfl
theorem g174_4 : rg Z d rx_m174 4 [some (.ref a), l1, l2, l3] S (rz_mk h ι, w) = rg Z d rx_m174 5 [some (.ref a), l1, l2, l3] (.ref a :: S) (rz_mk h ι, w) := rz_s1 fun _ => rfl
theorem g174_5 (c : rz_fI h a 12 0) : rg Z d rx_m174 5 L (.ref a :: S) (rz_mk h ι, w) = rg Z d rx_m174 8 L (.int (ι a 0) :: S) (rz_mk h ι, w) := rz_gI rfl (by decide) c
theorem g174_8 : rg Z d rx_m174 8 L (.int x :: S) (rz_mk h ι, w) = if x = 0 then rg Z d rx_m174 11 L S (rz_mk h ι, w) else rg Z d rx_m174 26 L S (rz_mk h ι, w) := rz_if1 (pc := 8) (t := 26) (off := 18) (cc := .ne) (by decide) rfl
theorem g174_11 : rg Z d rx_m174 11 [some (.ref a), l1, l2, l3] S (rz_mk h ι, w) = rg Z d rx_m174 12 [some (.ref a), l1, l2, l3] (.ref a :: S) (rz_mk h ι, w) := rz_s1 fun _ => rfl
theorem g174_12 : rg Z d rx_m174 12 [l0, l1, some (.int x), l3] S (rz_mk h ι, w) = rg Z d rx_m174 13 [l0, l1, some (.int x), l3] (.int x :: S) (rz_mk h ι, w) := rz_s1 fun _ => rfl
theorem g174_13 (c : rz_fI h a 12 0) (hz : Z.2.1 ≤ a) : rg Z d rx_m174 13 L (.int x :: .ref a :: S) (rz_mk h ι, w) = rg Z d rx_m174 16 L S (rz_mk h (rz_up ι a 0 x), w) := rz_pI rfl c hz
theorem g174_16 : rg Z d rx_m174 16 [some (.ref a), l1, l2, l3] S (rz_mk h ι, w) = rg Z d rx_m174 17 [some (.ref a), l1, l2, l3] (.ref a :: S) (rz_mk h ι, w) := rz_s1 fun _ => rfl
theorem g174_17 (c : rz_fR h a 12 10) : rg Z d rx_m174 17 L (.ref a :: S) (rz_mk h ι, w) = rg Z d rx_m174 20 L (rz_rv h a 10 :: S) (rz_mk h ι, w) := rz_gR rfl (by decide) c
theorem g174_20 : rg Z d rx_m174 20 [l0, l1, l2, some (.int x)] S (rz_mk h ι, w) = rg Z d rx_m174 21 [l0, l1, l2, some (.int x)] (.int x :: S) (rz_mk h ι, w) := rz_s1 fun _ => rfl
theorem g174_21 : rg Z d rx_m174 21 L (.int x :: .ref b :: S) (rz_mk h ι, w) = rg Z d rx_m174 22 L (.int x :: .ref b :: .int x :: .ref b :: S) (rz_mk h ι, w) := rz_s1 fun _ => rfl
theorem g174_22 (c : rz_ar h a 0) (hi : rz_ix x (rz_ln h a)) : rg Z d rx_m174 22 L (.int x :: .ref a :: S) (rz_mk h ι, w) = rg Z d rx_m174 23 L (.int (ι a x.toNatClampNeg) :: S) (rz_mk h ι, w) := rz_iald rfl c hi
theorem g174_23 : rg Z d rx_m174 23 L S (rz_mk h ι, w) = rg Z d rx_m174 24 L (.int 1 :: S) (rz_mk h ι, w) := rz_s1 fun _ => rfl
theorem g174_24 : rg Z d rx_m174 24 L (.int y :: .int x :: S) (rz_mk h ι, w) = rg Z d rx_m174 25 L (.int (x + y) :: S) (rz_mk h ι, w) := rz_s1 fun _ => rfl
theorem g174_25 (c : rz_ar h a 0) (hi : rz_ix x (rz_ln h a)) (hz : Z.2.1 ≤ a) : rg Z d rx_m174 25 L (.int y :: .int x :: .ref a :: S) (rz_mk h ι, w) = rg Z d rx_m174 26 L S (rz_mk h (rz_up ι a x.toNatClampNeg y), w) := rz_iast rfl c hi hz
theorem g174_26 : rg Z d rx_m174 26 [some (.ref a), l1, l2, l3] S (rz_mk h ι, w) = rg Z d rx_m174 27 [some (.ref a), l1, l2, l3] (.ref a :: S) (rz_mk h ι, w) := rz_s1 fun _ => rfl
theorem g174_27 (c : rz_fI h a 12 0) : rg Z d rx_m174 27 L (.ref a :: S) (rz_mk h ι, w) = rg Z d rx_m174 30 L (.int (ι a 0) :: S) (rz_mk h ι, w) := rz_gI rfl (by decide) c
theorem g174_30 : rg Z d rx_m174 30 L (.int x :: S) (rz_mk h ι, w) = if x = 0 then rg Z d rx_m174 37 L S (rz_mk h ι, w) else rg Z d rx_m174 33 L S (rz_mk h ι, w) := rz_if1 (pc := 30) (t := 37) (off := 7) (cc := .eq) (by decide) rfl
theorem g174_33 : rg Z d rx_m174 33 L S (rz_mk h ι, w) = rg Z d rx_m174 34 L (.int 1 :: S) (rz_mk h ι, w) := rz_s1 fun _ => rfl
theorem g174_34 : rg Z d rx_m174 34 L S (rz_mk h ι, w) = rg Z d rx_m174 38 L S (rz_mk h ι, w) := rz_s1 fun _ => rfl
theorem g174_37 : rg Z d rx_m174 37 L S (rz_mk h ι, w) = rg Z d rx_m174 38 L (.int 0 :: S) (rz_mk h ι, w) := rz_s1 fun _ => rfl
theorem g174_38 (c : narrow .boolean (.int x) = .int x) : rg Z d rx_m174 38 L [.int x] (rz_mk h ι, w) = some (.inl (some (.int x)), (rz_mk h ι, w)) := rz_reti rfl rfl c
theorem e174 : rz_f Z (d + 1) 174 [.ref t0, .int s1, .int s2, .int s3] σ = rg Z d rx_m174 0 [some (.ref t0), some (.int s1), some (.int s2), some (.int s3)] [] σ := rz_f_eq rfl (Nat.le_of_ble_eq_true rfl)
theorem g175_0 : rg Z d rx_m175 0 [some (.int x), l1, l2] S (rz_mk h ι, w) = rg Z d rx_m175 1 [some (.int x), l1, l2] (.int x :: S) (rz_mk h ι, w) := rz_s1 fun _ => rfl
theorem g175_1 : rg Z d rx_m175 1 [l0, some (.int x), l2] S (rz_mk h ι, w) = rg Z d rx_m175 2 [l0, some (.int x), l2] (.int x :: S) (rz_mk h ι, w) := rz_s1 fun _ => rfl
theorem g175_2 : rg Z d rx_m175 2 L (.int y :: .int x :: S) (rz_mk h ι, w) = if x < y then rg Z d rx_m175 14 L S (rz_mk h ι, w) else rg Z d rx_m175 5 L S (rz_mk h ι, w) := rz_if2 (pc := 2) (t := 14) (off := 12) (cc := .lt) (by decide) rfl
theorem g175_5 : rg Z d rx_m175 5 [some (.int x), l1, l2] S (rz_mk h ι, w) = rg Z d rx_m175 6 [some (.int x), l1, l2] (.int x :: S) (rz_mk h ι, w) := rz_s1 fun _ => rfl
theorem g175_6 : rg Z d rx_m175 6 [l0, l1, some (.int x)] S (rz_mk h ι, w) = rg Z d rx_m175 7 [l0, l1, some (.int x)] (.int x :: S) (rz_mk h ι, w) := rz_s1 fun _ => rfl
theorem g175_7 : rg Z d rx_m175 7 L (.int y :: .int x :: S) (rz_mk h ι, w) = if y < x then rg Z d rx_m175 14 L S (rz_mk h ι, w) else rg Z d rx_m175 10 L S (rz_mk h ι, w) := rz_if2 (pc := 7) (t := 14) (off := 7) (cc := .gt) (by decide) rfl
theorem g175_10 : rg Z d rx_m175 10 L S (rz_mk h ι, w) = rg Z d rx_m175 11 L (.int 1 :: S) (rz_mk h ι, w) := rz_s1 fun _ => rfl
theorem g175_11 : rg Z d rx_m175 11 L S (rz_mk h ι, w) = rg Z d rx_m175 15 L S (rz_mk h ι, w) := rz_s1 fun _ => rfl
theorem g175_14 : rg Z d rx_m175 14 L S (rz_mk h ι, w) = rg Z d rx_m175 15 L (.int 0 :: S) (rz_mk h ι, w) := rz_s1 fun _ => rfl
theorem g175_15 (c : narrow .boolean (.int x) = .int x) : rg Z d rx_m175 15 L [.int x] (rz_mk h ι, w) = some (.inl (some (.int x)), (rz_mk h ι, w)) := rz_reti rfl rfl c
theorem e175 : rz_f Z (d + 1) 175 [.int s0, .int s1, .int s2] σ = rg Z d rx_m175 0 [some (.int s0), some (.int s1), some (.int s2)] [] σ := rz_f_eq rfl (Nat.le_of_ble_eq_true rfl)
theorem g176_0 : rg Z d rx_m176 0 [some (.int x), l1] S (rz_mk h ι, w) = rg Z d rx_m176 1 [some (.int x), l1] (.int x :: S) (rz_mk h ι, w) := rz_s1 fun _ => rfl
theorem g176_1 : rg Z d rx_m176 1 [l0, some (.int x)] S (rz_mk h ι, w) = rg Z d rx_m176 2 [l0, some (.int x)] (.int x :: S) (rz_mk h ι, w) := rz_s1 fun _ => rfl
theorem g176_2 : rg Z d rx_m176 2 L (.int y :: .int x :: S) (rz_mk h ι, w) = if x < y then rg Z d rx_m176 5 L S (rz_mk h ι, w) else rg Z d rx_m176 9 L S (rz_mk h ι, w) := rz_if2 (pc := 2) (t := 9) (off := 7) (cc := .ge) (by decide) rfl
theorem g176_5 : rg Z d rx_m176 5 [some (.int x), l1] S (rz_mk h ι, w) = rg Z d rx_m176 6 [some (.int x), l1] (.int x :: S) (rz_mk h ι, w) := rz_s1 fun _ => rfl
theorem g176_6 : rg Z d rx_m176 6 L S (rz_mk h ι, w) = rg Z d rx_m176 10 L S (rz_mk h ι, w) := rz_s1 fun _ => rfl
theorem g176_9 : rg Z d rx_m176 9 [l0, some (.int x)] S (rz_mk h ι, w) = rg Z d rx_m176 10 [l0, some (.int x)] (.int x :: S) (rz_mk h ι, w) := rz_s1 fun _ => rfl
theorem g176_10 : rg Z d rx_m176 10 L [.int x] (rz_mk h ι, w) = some (.inl (some (.int x)), (rz_mk h ι, w)) := rz_reti rfl rfl rfl
theorem e176 : rz_f Z (d + 1) 176 [.int s0, .int s1] σ = rg Z d rx_m176 0 [some (.int s0), some (.int s1)] [] σ := rz_f_eq rfl (Nat.le_of_ble_eq_true rfl)
theorem g177_0 : rg Z d rx_m177 0 [some (.int x), l1] S (rz_mk h ι, w) = rg Z d rx_m177 1 [some (.int x), l1] (.int x :: S) (rz_mk h ι, w) := rz_s1 fun _ => rfl
theorem g177_1 : rg Z d rx_m177 1 [l0, some (.int x)] S (rz_mk h ι, w) = rg Z d rx_m177 2 [l0, some (.int x)] (.int x :: S) (rz_mk h ι, w) := rz_s1 fun _ => rfl
theorem g177_2 : rg Z d rx_m177 2 L (.int y :: .int x :: S) (rz_mk h ι, w) = if y < x then rg Z d rx_m177 5 L S (rz_mk h ι, w) else rg Z d rx_m177 9 L S (rz_mk h ι, w) := rz_if2 (pc := 2) (t := 9) (off := 7) (cc := .le) (by decide) rfl
theorem g177_5 : rg Z d rx_m177 5 [some (.int x), l1] S (rz_mk h ι, w) = rg Z d rx_m177 6 [some (.int x), l1] (.int x :: S) (rz_mk h ι, w) := rz_s1 fun _ => rfl
theorem g177_6 : rg Z d rx_m177 6 L S (rz_mk h ι, w) = rg Z d rx_m177 10 L S (rz_mk h ι, w) := rz_s1 fun _ => rfl
theorem g177_9 : rg Z d rx_m177 9 [l0, some (.int x)] S (rz_mk h ι, w) = rg Z d rx_m177 10 [l0, some (.int x)] (.int x :: S) (rz_mk h ι, w) := rz_s1 fun _ => rfl
theorem g177_10 : rg Z d rx_m177 10 L [.int x] (rz_mk h ι, w) = some (.inl (some (.int x)), (rz_mk h ι, w)) := rz_reti rfl rfl rfl
theorem e177 : rz_f Z (d + 1) 177 [.int s0, .int s1] σ = rg Z d rx_m177 0 [some (.int s0), some (.int s1)] [] σ := rz_f_eq rfl (Nat.le_of_ble_eq_true rfl)
theorem g178_0 : rg Z d rx_m178 0 [some (.int x), l1] S (rz_mk h ι, w) = rg Z d rx_m178 1 [some (.int x), l1] (.int x :: S) (rz_mk h ι, w) := rz_s1 fun _ => rfl
theorem g178_1 : rg Z d rx_m178 1 [l0, some (.int x)] S (rz_mk h ι, w) = rg Z d rx_m178 2 [l0, some (.int x)] (.int x :: S) (rz_mk h ι, w) := rz_s1 fun _ => rfl
theorem g178_2 : rg Z d rx_m178 2 L (.int y :: .int x :: S) (rz_mk h ι, w) = rg Z d rx_m178 3 L (.int (x >>> (y &&& 31)) :: S) (rz_mk h ι, w) := rz_s1 fun _ => rfl
theorem g178_3 : rg Z d rx_m178 3 L S (rz_mk h ι, w) = rg Z d rx_m178 4 L (.int 1 :: S) (rz_mk h ι, w) := rz_s1 fun _ => rfl
theorem g178_4 : rg Z d rx_m178 4 L (.int y :: .int x :: S) (rz_mk h ι, w) = rg Z d rx_m178 5 L (.int (x &&& y) :: S) (rz_mk h ι, w) := rz_s1 fun _ => rfl
theorem g178_5 : rg Z d rx_m178 5 L S (rz_mk h ι, w) = rg Z d rx_m178 6 L (.int 1 :: S) (rz_mk h ι, w) := rz_s1 fun _ => rfl
theorem g178_6 : rg Z d rx_m178 6 L (.int y :: .int x :: S) (rz_mk h ι, w) = if x = y then rg Z d rx_m178 9 L S (rz_mk h ι, w) else rg Z d rx_m178 13 L S (rz_mk h ι, w) := rz_if2 (pc := 6) (t := 13) (off := 7) (cc := .ne) (by decide) rfl
theorem g178_9 : rg Z d rx_m178 9 L S (rz_mk h ι, w) = rg Z d rx_m178 10 L (.int 1 :: S) (rz_mk h ι, w) := rz_s1 fun _ => rfl
theorem g178_10 : rg Z d rx_m178 10 L S (rz_mk h ι, w) = rg Z d rx_m178 14 L S (rz_mk h ι, w) := rz_s1 fun _ => rfl
theorem g178_13 : rg Z d rx_m178 13 L S (rz_mk h ι, w) = rg Z d rx_m178 14 L (.int 0 :: S) (rz_mk h ι, w) := rz_s1 fun _ => rfl
theorem g178_14 (c : narrow .boolean (.int x) = .int x) : rg Z d rx_m178 14 L [.int x] (rz_mk h ι, w) = some (.inl (some (.int x)), (rz_mk h ι, w)) := rz_reti rfl rfl c
theorem e178 : rz_f Z (d + 1) 178 [.int s0, .int s1] σ = rg Z d rx_m178 0 [some (.int s0), some (.int s1)] [] σ := rz_f_eq rfl (Nat.le_of_ble_eq_true rfl)
theorem g179_0 : rg Z d rx_m179 0 [some (.ref a), l1, l2, l3, l4, l5, l6, l7] S (rz_mk h ι, w) = rg Z d rx_m179 1 [some (.ref a), l1, l2, l3, l4, l5, l6, l7] (.ref a :: S) (rz_mk h ι, w) := rz_s1 fun _ => rfl
theorem g179_1 : rg Z d rx_m179 1 L S (rz_mk h ι, w) = rg Z d rx_m179 2 L (.int 0 :: S) (rz_mk h ι, w) := rz_s1 fun _ => rfl
theorem g179_2 (c : rz_fI h a 12 0) (hz : Z.2.1 ≤ a) : rg Z d rx_m179 2 L (.int x :: .ref a :: S) (rz_mk h ι, w) = rg Z d rx_m179 5 L S (rz_mk h (rz_up ι a 0 x), w) := rz_pI rfl c hz
theorem g179_5 : rg Z d rx_m179 5 [some (.ref a), l1, l2, l3, l4, l5, l6, l7] S (rz_mk h ι, w) = rg Z d rx_m179 6 [some (.ref a), l1, l2, l3, l4, l5, l6, l7] (.ref a :: S) (rz_mk h ι, w) := rz_s1 fun _ => rfl
theorem g179_6 (c : rz_fI h a 12 1) : rg Z d rx_m179 6 L (.ref a :: S) (rz_mk h ι, w) = rg Z d rx_m179 9 L (.int (ι a 1) :: S) (rz_mk h ι, w) := rz_gI rfl (by decide) c
theorem g179_9 : rg Z d rx_m179 9 L S (rz_mk h ι, w) = rg Z d rx_m179 11 L (.int 20 :: S) (rz_mk h ι, w) := rz_s1 fun _ => rfl
theorem g179_11 : rg Z d rx_m179 11 L (.int y :: .int x :: S) (rz_mk h ι, w) = rg Z d rx_m179 12 L (.int (x + y) :: S) (rz_mk h ι, w) := rz_s1 fun _ => rfl
theorem g179_12 : rg Z d rx_m179 12 L S (rz_mk h ι, w) = rg Z d rx_m179 15 L (.int 600 :: S) (rz_mk h ι, w) := rz_s1 fun _ => rfl
theorem g179_15 : rg Z d rx_m179 15 L (.int y :: .int x :: S) (rz_mk h ι, w) = if y < x then rg Z d rx_m179 18 L S (rz_mk h ι, w) else rg Z d rx_m179 20 L S (rz_mk h ι, w) := rz_if2 (pc := 15) (t := 20) (off := 5) (cc := .le) (by decide) rfl
theorem g179_18 : rg Z d rx_m179 18 L S (rz_mk h ι, w) = rg Z d rx_m179 19 L (.int (-1) :: S) (rz_mk h ι, w) := rz_s1 fun _ => rfl
theorem g179_19 : rg Z d rx_m179 19 L [.int x] (rz_mk h ι, w) = some (.inl (some (.int x)), (rz_mk h ι, w)) := rz_reti rfl rfl rfl
theorem g179_20 : rg Z d rx_m179 20 L S (rz_mk h ι, w) = rg Z d rx_m179 21 L (.int 0 :: S) (rz_mk h ι, w) := rz_s1 fun _ => rfl
theorem g179_21 : rg Z d rx_m179 21 [l0, l1, l2, l3, l4, some (.int z), l6, l7] (.int x :: S) (rz_mk h ι, w) = rg Z d rx_m179 23 [l0, l1, l2, l3, l4, some (.int z), some (.int x), l7] S (rz_mk h ι, w) := rz_s1 fun _ => rfl
theorem g179_23 : rg Z d rx_m179 23 [l0, l1, l2, l3, l4, l5, some (.int x), l7] S (rz_mk h ι, w) = rg Z d rx_m179 25 [l0, l1, l2, l3, l4, l5, some (.int x), l7] (.int x :: S) (rz_mk h ι, w) := rz_s1 fun _ => rfl
theorem g179_25 : rg Z d rx_m179 25 L S (rz_mk h ι, w) = rg Z d rx_m179 27 L (.int 20 :: S) (rz_mk h ι, w) := rz_s1 fun _ => rfl
theorem g179_27 : rg Z d rx_m179 27 L (.int y :: .int x :: S) (rz_mk h ι, w) = if x < y then rg Z d rx_m179 30 L S (rz_mk h ι, w) else rg Z d rx_m179 120 L S (rz_mk h ι, w) := rz_if2 (pc := 27) (t := 120) (off := 93) (cc := .ge) (by decide) rfl
theorem g179_30 : rg Z d rx_m179 30 [l0, l1, l2, l3, l4, l5, some (.int x), l7] S (rz_mk h ι, w) = rg Z d rx_m179 32 [l0, l1, l2, l3, l4, l5, some (.int x), l7] (.int x :: S) (rz_mk h ι, w) := rz_s1 fun _ => rfl
theorem g179_32 : rg Z d rx_m179 32 L S (rz_mk h ι, w) = rg Z d rx_m179 33 L (.int 4 :: S) (rz_mk h ι, w) := rz_s1 fun _ => rfl
theorem g179_33 : rg Z d rx_m179 33 L (.int y :: .int x :: S) (rz_mk h ι, w) = if x < y then rg Z d rx_m179 36 L S (rz_mk h ι, w) else rg Z d rx_m179 40 L S (rz_mk h ι, w) := rz_if2 (pc := 33) (t := 40) (off := 7) (cc := .ge) (by decide) rfl
theorem g179_36 : rg Z d rx_m179 36 [l0, some (.int x), l2, l3, l4, l5, l6, l7] S (rz_mk h ι, w) = rg Z d rx_m179 37 [l0, some (.int x), l2, l3, l4, l5, l6, l7] (.int x :: S) (rz_mk h ι, w) := rz_s1 fun _ => rfl
theorem g179_37 : rg Z d rx_m179 37 L S (rz_mk h ι, w) = rg Z d rx_m179 76 L S (rz_mk h ι, w) := rz_s1 fun _ => rfl
theorem g179_40 : rg Z d rx_m179 40 [l0, l1, l2, l3, l4, l5, some (.int x), l7] S (rz_mk h ι, w) = rg Z d rx_m179 42 [l0, l1, l2, l3, l4, l5, some (.int x), l7] (.int x :: S) (rz_mk h ι, w) := rz_s1 fun _ => rfl
theorem g179_42 : rg Z d rx_m179 42 L S (rz_mk h ι, w) = rg Z d rx_m179 44 L (.int 8 :: S) (rz_mk h ι, w) := rz_s1 fun _ => rfl
theorem g179_44 : rg Z d rx_m179 44 L (.int y :: .int x :: S) (rz_mk h ι, w) = if x < y then rg Z d rx_m179 47 L S (rz_mk h ι, w) else rg Z d rx_m179 51 L S (rz_mk h ι, w) := rz_if2 (pc := 44) (t := 51) (off := 7) (cc := .ge) (by decide) rfl
theorem g179_47 : rg Z d rx_m179 47 [l0, l1, some (.int x), l3, l4, l5, l6, l7] S (rz_mk h ι, w) = rg Z d rx_m179 48 [l0, l1, some (.int x), l3, l4, l5, l6, l7] (.int x :: S) (rz_mk h ι, w) := rz_s1 fun _ => rfl
theorem g179_48 : rg Z d rx_m179 48 L S (rz_mk h ι, w) = rg Z d rx_m179 76 L S (rz_mk h ι, w) := rz_s1 fun _ => rfl
theorem g179_51 : rg Z d rx_m179 51 [l0, l1, l2, l3, l4, l5, some (.int x), l7] S (rz_mk h ι, w) = rg Z d rx_m179 53 [l0, l1, l2, l3, l4, l5, some (.int x), l7] (.int x :: S) (rz_mk h ι, w) := rz_s1 fun _ => rfl
theorem g179_53 : rg Z d rx_m179 53 L S (rz_mk h ι, w) = rg Z d rx_m179 55 L (.int 12 :: S) (rz_mk h ι, w) := rz_s1 fun _ => rfl
theorem g179_55 : rg Z d rx_m179 55 L (.int y :: .int x :: S) (rz_mk h ι, w) = if x < y then rg Z d rx_m179 58 L S (rz_mk h ι, w) else rg Z d rx_m179 62 L S (rz_mk h ι, w) := rz_if2 (pc := 55) (t := 62) (off := 7) (cc := .ge) (by decide) rfl
theorem g179_58 : rg Z d rx_m179 58 [l0, l1, l2, some (.int x), l4, l5, l6, l7] S (rz_mk h ι, w) = rg Z d rx_m179 59 [l0, l1, l2, some (.int x), l4, l5, l6, l7] (.int x :: S) (rz_mk h ι, w) := rz_s1 fun _ => rfl
theorem g179_59 : rg Z d rx_m179 59 L S (rz_mk h ι, w) = rg Z d rx_m179 76 L S (rz_mk h ι, w) := rz_s1 fun _ => rfl
theorem g179_62 : rg Z d rx_m179 62 [l0, l1, l2, l3, l4, l5, some (.int x), l7] S (rz_mk h ι, w) = rg Z d rx_m179 64 [l0, l1, l2, l3, l4, l5, some (.int x), l7] (.int x :: S) (rz_mk h ι, w) := rz_s1 fun _ => rfl
theorem g179_64 : rg Z d rx_m179 64 L S (rz_mk h ι, w) = rg Z d rx_m179 66 L (.int 16 :: S) (rz_mk h ι, w) := rz_s1 fun _ => rfl
theorem g179_66 : rg Z d rx_m179 66 L (.int y :: .int x :: S) (rz_mk h ι, w) = if x < y then rg Z d rx_m179 69 L S (rz_mk h ι, w) else rg Z d rx_m179 74 L S (rz_mk h ι, w) := rz_if2 (pc := 66) (t := 74) (off := 8) (cc := .ge) (by decide) rfl
theorem g179_69 : rg Z d rx_m179 69 [l0, l1, l2, l3, some (.int x), l5, l6, l7] S (rz_mk h ι, w) = rg Z d rx_m179 71 [l0, l1, l2, l3, some (.int x), l5, l6, l7] (.int x :: S) (rz_mk h ι, w) := rz_s1 fun _ => rfl
theorem g179_71 : rg Z d rx_m179 71 L S (rz_mk h ι, w) = rg Z d rx_m179 76 L S (rz_mk h ι, w) := rz_s1 fun _ => rfl
theorem g179_74 : rg Z d rx_m179 74 [l0, l1, l2, l3, l4, some (.int x), l6, l7] S (rz_mk h ι, w) = rg Z d rx_m179 76 [l0, l1, l2, l3, l4, some (.int x), l6, l7] (.int x :: S) (rz_mk h ι, w) := rz_s1 fun _ => rfl
theorem g179_76 : rg Z d rx_m179 76 [l0, l1, l2, l3, l4, l5, some (.int z), l7] (.int x :: S) (rz_mk h ι, w) = rg Z d rx_m179 78 [l0, l1, l2, l3, l4, l5, some (.int z), some (.int x)] S (rz_mk h ι, w) := rz_s1 fun _ => rfl
theorem g179_78 : rg Z d rx_m179 78 [some (.ref a), l1, l2, l3, l4, l5, l6, l7] S (rz_mk h ι, w) = rg Z d rx_m179 79 [some (.ref a), l1, l2, l3, l4, l5, l6, l7] (.ref a :: S) (rz_mk h ι, w) := rz_s1 fun _ => rfl
theorem g179_79 (c : rz_fR h a 12 9) : rg Z d rx_m179 79 L (.ref a :: S) (rz_mk h ι, w) = rg Z d rx_m179 82 L (rz_rv h a 9 :: S) (rz_mk h ι, w) := rz_gR rfl (by decide) c
theorem g179_82 : rg Z d rx_m179 82 [some (.ref a), l1, l2, l3, l4, l5, l6, l7] S (rz_mk h ι, w) = rg Z d rx_m179 83 [some (.ref a), l1, l2, l3, l4, l5, l6, l7] (.ref a :: S) (rz_mk h ι, w) := rz_s1 fun _ => rfl
theorem g179_83 (c : rz_fI h a 12 1) : rg Z d rx_m179 83 L (.ref a :: S) (rz_mk h ι, w) = rg Z d rx_m179 86 L (.int (ι a 1) :: S) (rz_mk h ι, w) := rz_gI rfl (by decide) c
theorem g179_86 : rg Z d rx_m179 86 [l0, l1, l2, l3, l4, l5, l6, some (.int x)] S (rz_mk h ι, w) = rg Z d rx_m179 88 [l0, l1, l2, l3, l4, l5, l6, some (.int x)] (.int x :: S) (rz_mk h ι, w) := rz_s1 fun _ => rfl
theorem g179_88 : rg Z d rx_m179 88 L S (rz_mk h ι, w) = rg Z d rx_m179 90 L (.int 24 :: S) (rz_mk h ι, w) := rz_s1 fun _ => rfl
theorem g179_90 : rg Z d rx_m179 90 L S (rz_mk h ι, w) = rg Z d rx_m179 92 L (.int 8 :: S) (rz_mk h ι, w) := rz_s1 fun _ => rfl
theorem g179_92 : rg Z d rx_m179 92 [l0, l1, l2, l3, l4, l5, some (.int x), l7] S (rz_mk h ι, w) = rg Z d rx_m179 94 [l0, l1, l2, l3, l4, l5, some (.int x), l7] (.int x :: S) (rz_mk h ι, w) := rz_s1 fun _ => rfl
theorem g179_94 : rg Z d rx_m179 94 L S (rz_mk h ι, w) = rg Z d rx_m179 95 L (.int 4 :: S) (rz_mk h ι, w) := rz_s1 fun _ => rfl
theorem g179_95 : rg Z d rx_m179 95 L (.int 4 :: .int x :: S) (rz_mk h ι, w) = rg Z d rx_m179 96 L (.int (x - x / 4 * 4) :: S) (rz_mk h ι, w) := rz_rem rfl (by decide)
theorem g179_96 : rg Z d rx_m179 96 L (.int y :: .int x :: S) (rz_mk h ι, w) = rg Z d rx_m179 97 L (.int (x * y) :: S) (rz_mk h ι, w) := rz_s1 fun _ => rfl
theorem g179_97 : rg Z d rx_m179 97 L (.int y :: .int x :: S) (rz_mk h ι, w) = rg Z d rx_m179 98 L (.int (x - y) :: S) (rz_mk h ι, w) := rz_s1 fun _ => rfl
theorem g179_98 : rg Z d rx_m179 98 L (.int y :: .int x :: S) (rz_mk h ι, w) = rg Z d rx_m179 99 L (.int (x >>> (y &&& 31)) :: S) (rz_mk h ι, w) := rz_s1 fun _ => rfl
theorem g179_99 : rg Z d rx_m179 99 L S (rz_mk h ι, w) = rg Z d rx_m179 102 L (.int 255 :: S) (rz_mk h ι, w) := rz_s1 fun _ => rfl
theorem g179_102 : rg Z d rx_m179 102 L (.int y :: .int x :: S) (rz_mk h ι, w) = rg Z d rx_m179 103 L (.int (x &&& y) :: S) (rz_mk h ι, w) := rz_s1 fun _ => rfl
theorem g179_103 (c : rz_ar h a 0) (hi : rz_ix x (rz_ln h a)) (hz : Z.2.1 ≤ a) : rg Z d rx_m179 103 L (.int y :: .int x :: .ref a :: S) (rz_mk h ι, w) = rg Z d rx_m179 104 L S (rz_mk h (rz_up ι a x.toNatClampNeg y), w) := rz_iast rfl c hi hz
theorem g179_104 : rg Z d rx_m179 104 [some (.ref a), l1, l2, l3, l4, l5, l6, l7] S (rz_mk h ι, w) = rg Z d rx_m179 105 [some (.ref a), l1, l2, l3, l4, l5, l6, l7] (.ref a :: S) (rz_mk h ι, w) := rz_s1 fun _ => rfl
theorem g179_105 : rg Z d rx_m179 105 L (.ref a :: S) (rz_mk h ι, w) = rg Z d rx_m179 106 L (.ref a :: .ref a :: S) (rz_mk h ι, w) := rz_s1 fun _ => rfl
theorem g179_106 (c : rz_fI h a 12 1) : rg Z d rx_m179 106 L (.ref a :: S) (rz_mk h ι, w) = rg Z d rx_m179 109 L (.int (ι a 1) :: S) (rz_mk h ι, w) := rz_gI rfl (by decide) c
theorem g179_109 : rg Z d rx_m179 109 L S (rz_mk h ι, w) = rg Z d rx_m179 110 L (.int 1 :: S) (rz_mk h ι, w) := rz_s1 fun _ => rfl
theorem g179_110 : rg Z d rx_m179 110 L (.int y :: .int x :: S) (rz_mk h ι, w) = rg Z d rx_m179 111 L (.int (x + y) :: S) (rz_mk h ι, w) := rz_s1 fun _ => rfl
theorem g179_111 (c : rz_fI h a 12 1) (hz : Z.2.1 ≤ a) : rg Z d rx_m179 111 L (.int x :: .ref a :: S) (rz_mk h ι, w) = rg Z d rx_m179 114 L S (rz_mk h (rz_up ι a 1 x), w) := rz_pI rfl c hz
theorem g179_114 : rg Z d rx_m179 114 [l0, l1, l2, l3, l4, some (.int z), some (.int x), l7] S (rz_mk h ι, w) = rg Z d rx_m179 117 [l0, l1, l2, l3, l4, some (.int z), some (.int (x + 1)), l7] S (rz_mk h ι, w) := rz_s1 fun _ => rfl
theorem g179_117 : rg Z d rx_m179 117 L S (rz_mk h ι, w) = rg Z d rx_m179 23 L S (rz_mk h ι, w) := rz_s1 fun _ => rfl
theorem g179_120 : rg Z d rx_m179 120 [some (.ref a), l1, l2, l3, l4, l5, l6, l7] S (rz_mk h ι, w) = rg Z d rx_m179 121 [some (.ref a), l1, l2, l3, l4, l5, l6, l7] (.ref a :: S) (rz_mk h ι, w) := rz_s1 fun _ => rfl
theorem g179_121 (c : rz_fI h a 12 1) : rg Z d rx_m179 121 L (.ref a :: S) (rz_mk h ι, w) = rg Z d rx_m179 124 L (.int (ι a 1) :: S) (rz_mk h ι, w) := rz_gI rfl (by decide) c
theorem g179_124 : rg Z d rx_m179 124 L [.int x] (rz_mk h ι, w) = some (.inl (some (.int x)), (rz_mk h ι, w)) := rz_reti rfl rfl rfl
theorem e179 : rz_f Z (d + 1) 179 [.ref t0, .int s1, .int s2, .int s3, .int s4, .int s5] σ = rg Z d rx_m179 0 [some (.ref t0), some (.int s1), some (.int s2), some (.int s3), some (.int s4), some (.int s5), none, none] [] σ := rz_f_eq rfl (Nat.le_of_ble_eq_true rfl)
theorem g180_0 : rg Z d rx_m180 0 [l0, some (.int x)] S (rz_mk h ι, w) = rg Z d rx_m180 1 [l0, some (.int x)] (.int x :: S) (rz_mk h ι, w) := rz_s1 fun _ => rfl
theorem g180_1 : rg Z d rx_m180 1 [some (.ref a), l1] S (rz_mk h ι, w) = rg Z d rx_m180 2 [some (.ref a), l1] (.ref a :: S) (rz_mk h ι, w) := rz_s1 fun _ => rfl
theorem g180_2 (c : rz_fI h a 12 2) : rg Z d rx_m180 2 L (.ref a :: S) (rz_mk h ι, w) = rg Z d rx_m180 5 L (.int (ι a 2) :: S) (rz_mk h ι, w) := rz_gI rfl (by decide) c
theorem g180_5 : rg Z d rx_m180 5 L (.int y :: .int x :: S) (rz_mk h ι, w) = if x < y then rg Z d rx_m180 12 L S (rz_mk h ι, w) else rg Z d rx_m180 8 L S (rz_mk h ι, w) := rz_if2 (pc := 5) (t := 12) (off := 7) (cc := .lt) (by decide) rfl
theorem g180_8 : rg Z d rx_m180 8 L S (rz_mk h ι, w) = rg Z d rx_m180 9 L (.int (-1) :: S) (rz_mk h ι, w) := rz_s1 fun _ => rfl
theorem g180_9 : rg Z d rx_m180 9 L S (rz_mk h ι, w) = rg Z d rx_m180 18 L S (rz_mk h ι, w) := rz_s1 fun _ => rfl
theorem g180_12 : rg Z d rx_m180 12 [some (.ref a), l1] S (rz_mk h ι, w) = rg Z d rx_m180 13 [some (.ref a), l1] (.ref a :: S) (rz_mk h ι, w) := rz_s1 fun _ => rfl
theorem g180_13 (c : rz_fR h a 12 9) : rg Z d rx_m180 13 L (.ref a :: S) (rz_mk h ι, w) = rg Z d rx_m180 16 L (rz_rv h a 9 :: S) (rz_mk h ι, w) := rz_gR rfl (by decide) c
theorem g180_16 : rg Z d rx_m180 16 [l0, some (.int x)] S (rz_mk h ι, w) = rg Z d rx_m180 17 [l0, some (.int x)] (.int x :: S) (rz_mk h ι, w) := rz_s1 fun _ => rfl
theorem g180_17 (c : rz_ar h a 0) (hi : rz_ix x (rz_ln h a)) : rg Z d rx_m180 17 L (.int x :: .ref a :: S) (rz_mk h ι, w) = rg Z d rx_m180 18 L (.int (ι a x.toNatClampNeg) :: S) (rz_mk h ι, w) := rz_iald rfl c hi
theorem g180_18 : rg Z d rx_m180 18 L [.int x] (rz_mk h ι, w) = some (.inl (some (.int x)), (rz_mk h ι, w)) := rz_reti rfl rfl rfl
theorem e180 : rz_f Z (d + 1) 180 [.ref t0, .int s1] σ = rg Z d rx_m180 0 [some (.ref t0), some (.int s1)] [] σ := rz_f_eq rfl (Nat.le_of_ble_eq_true rfl)
theorem g181_0 : rg Z d rx_m181 0 [some (.ref a)] S (rz_mk h ι, w) = rg Z d rx_m181 1 [some (.ref a)] (.ref a :: S) (rz_mk h ι, w) := rz_s1 fun _ => rfl
theorem g181_1 : rg Z d rx_m181 1 [some (.ref a)] S (rz_mk h ι, w) = rg Z d rx_m181 2 [some (.ref a)] (.ref a :: S) (rz_mk h ι, w) := rz_s1 fun _ => rfl
theorem g181_2 (c : rz_fI h a 12 4) : rg Z d rx_m181 2 L (.ref a :: S) (rz_mk h ι, w) = rg Z d rx_m181 5 L (.int (ι a 4) :: S) (rz_mk h ι, w) := rz_gI rfl (by decide) c
theorem g181_5 (c : rz_oc h a 12) : rg Z d rx_m181 5 L (v1 :: .ref a :: []) (rz_mk h ι, w) = rz_k true (rz_f Z d 180 [.ref a, v1] (rz_mk h ι, w)) (fun v σ' => rg Z d rx_m181 8 L (v.toList ++ []) σ') := rz_cv (pc := 5) (n := 1) (mi := 180) (S := v1 :: .ref a :: []) (rest := []) rfl rfl (Nat.le_of_ble_eq_true rfl) (Nat.le_of_ble_eq_true rfl) c
theorem g181_8 : rg Z d rx_m181 8 L S (rz_mk h ι, w) = rg Z d rx_m181 10 L (.int 32 :: S) (rz_mk h ι, w) := rz_s1 fun _ => rfl
theorem g181_10 : rg Z d rx_m181 10 L (.int y :: .int x :: S) (rz_mk h ι, w) = if x = y then rg Z d rx_m181 13 L S (rz_mk h ι, w) else rg Z d rx_m181 26 L S (rz_mk h ι, w) := rz_if2 (pc := 10) (t := 26) (off := 16) (cc := .ne) (by decide) rfl
theorem g181_13 : rg Z d rx_m181 13 [some (.ref a)] S (rz_mk h ι, w) = rg Z d rx_m181 14 [some (.ref a)] (.ref a :: S) (rz_mk h ι, w) := rz_s1 fun _ => rfl
theorem g181_14 : rg Z d rx_m181 14 L (.ref a :: S) (rz_mk h ι, w) = rg Z d rx_m181 15 L (.ref a :: .ref a :: S) (rz_mk h ι, w) := rz_s1 fun _ => rfl
theorem g181_15 (c : rz_fI h a 12 4) : rg Z d rx_m181 15 L (.ref a :: S) (rz_mk h ι, w) = rg Z d rx_m181 18 L (.int (ι a 4) :: S) (rz_mk h ι, w) := rz_gI rfl (by decide) c
theorem g181_18 : rg Z d rx_m181 18 L S (rz_mk h ι, w) = rg Z d rx_m181 19 L (.int 1 :: S) (rz_mk h ι, w) := rz_s1 fun _ => rfl
theorem g181_19 : rg Z d rx_m181 19 L (.int y :: .int x :: S) (rz_mk h ι, w) = rg Z d rx_m181 20 L (.int (x + y) :: S) (rz_mk h ι, w) := rz_s1 fun _ => rfl
theorem g181_20 (c : rz_fI h a 12 4) (hz : Z.2.1 ≤ a) : rg Z d rx_m181 20 L (.int x :: .ref a :: S) (rz_mk h ι, w) = rg Z d rx_m181 23 L S (rz_mk h (rz_up ι a 4 x), w) := rz_pI rfl c hz
theorem g181_23 : rg Z d rx_m181 23 L S (rz_mk h ι, w) = rg Z d rx_m181 0 L S (rz_mk h ι, w) := rz_s1 fun _ => rfl
theorem g181_26 : rg Z d rx_m181 26 L [] (rz_mk h ι, w) = some (.inl none, (rz_mk h ι, w)) := rz_r1 fun _ => rfl
theorem e181 : rz_f Z (d + 1) 181 [.ref t0] σ = rg Z d rx_m181 0 [some (.ref t0)] [] σ := rz_f_eq rfl (Nat.le_of_ble_eq_true rfl)
theorem g182_0 : rg Z d rx_m182 0 [some (.ref a), l1, l2] S (rz_mk h ι, w) = rg Z d rx_m182 1 [some (.ref a), l1, l2] (.ref a :: S) (rz_mk h ι, w) := rz_s1 fun _ => rfl
theorem g182_1 (c : rz_fI h a 12 5) : rg Z d rx_m182 1 L (.ref a :: S) (rz_mk h ι, w) = rg Z d rx_m182 4 L (.int (ι a 5) :: S) (rz_mk h ι, w) := rz_gI rfl (by decide) c
theorem g182_4 : rg Z d rx_m182 4 L (.int x :: S) (rz_mk h ι, w) = if x = 0 then rg Z d rx_m182 7 L S (rz_mk h ι, w) else rg Z d rx_m182 17 L S (rz_mk h ι, w) := rz_if1 (pc := 4) (t := 17) (off := 13) (cc := .ne) (by decide) rfl
theorem g182_7 : rg Z d rx_m182 7 [some (.ref a), l1, l2] S (rz_mk h ι, w) = rg Z d rx_m182 8 [some (.ref a), l1, l2] (.ref a :: S) (rz_mk h ι, w) := rz_s1 fun _ => rfl
theorem g182_8 : rg Z d rx_m182 8 [l0, some (.int x), l2] S (rz_mk h ι, w) = rg Z d rx_m182 9 [l0, some (.int x), l2] (.int x :: S) (rz_mk h ι, w) := rz_s1 fun _ => rfl
theorem g182_9 (c : rz_fI h a 12 5) (hz : Z.2.1 ≤ a) : rg Z d rx_m182 9 L (.int x :: .ref a :: S) (rz_mk h ι, w) = rg Z d rx_m182 12 L S (rz_mk h (rz_up ι a 5 x), w) := rz_pI rfl c hz
theorem g182_12 : rg Z d rx_m182 12 [some (.ref a), l1, l2] S (rz_mk h ι, w) = rg Z d rx_m182 13 [some (.ref a), l1, l2] (.ref a :: S) (rz_mk h ι, w) := rz_s1 fun _ => rfl
theorem g182_13 : rg Z d rx_m182 13 [l0, l1, some (.int x)] S (rz_mk h ι, w) = rg Z d rx_m182 14 [l0, l1, some (.int x)] (.int x :: S) (rz_mk h ι, w) := rz_s1 fun _ => rfl
theorem g182_14 (c : rz_fI h a 12 6) (hz : Z.2.1 ≤ a) : rg Z d rx_m182 14 L (.int x :: .ref a :: S) (rz_mk h ι, w) = rg Z d rx_m182 17 L S (rz_mk h (rz_up ι a 6 x), w) := rz_pI rfl c hz
theorem g182_17 : rg Z d rx_m182 17 L [] (rz_mk h ι, w) = some (.inl none, (rz_mk h ι, w)) := rz_r1 fun _ => rfl
theorem e182 : rz_f Z (d + 1) 182 [.ref t0, .int s1, .int s2] σ = rg Z d rx_m182 0 [some (.ref t0), some (.int s1), some (.int s2)] [] σ := rz_f_eq rfl (Nat.le_of_ble_eq_true rfl)
theorem g183_0 : rg Z d rx_m183 0 [some (.int x)] S (rz_mk h ι, w) = rg Z d rx_m183 1 [some (.int x)] (.int x :: S) (rz_mk h ι, w) := rz_s1 fun _ => rfl
theorem g183_1 : rg Z d rx_m183 1 L S (rz_mk h ι, w) = rg Z d rx_m183 3 L (.int 48 :: S) (rz_mk h ι, w) := rz_s1 fun _ => rfl
theorem g183_3 : rg Z d rx_m183 3 L (.int y :: .int x :: S) (rz_mk h ι, w) = if x < y then rg Z d rx_m183 16 L S (rz_mk h ι, w) else rg Z d rx_m183 6 L S (rz_mk h ι, w) := rz_if2 (pc := 3) (t := 16) (off := 13) (cc := .lt) (by decide) rfl
theorem g183_6 : rg Z d rx_m183 6 [some (.int x)] S (rz_mk h ι, w) = rg Z d rx_m183 7 [some (.int x)] (.int x :: S) (rz_mk h ι, w) := rz_s1 fun _ => rfl
theorem g183_7 : rg Z d rx_m183 7 L S (rz_mk h ι, w) = rg Z d rx_m183 9 L (.int 57 :: S) (rz_mk h ι, w) := rz_s1 fun _ => rfl
theorem g183_9 : rg Z d rx_m183 9 L (.int y :: .int x :: S) (rz_mk h ι, w) = if y < x then rg Z d rx_m183 16 L S (rz_mk h ι, w) else rg Z d rx_m183 12 L S (rz_mk h ι, w) := rz_if2 (pc := 9) (t := 16) (off := 7) (cc := .gt) (by decide) rfl
theorem g183_12 : rg Z d rx_m183 12 L S (rz_mk h ι, w) = rg Z d rx_m183 13 L (.int 1 :: S) (rz_mk h ι, w) := rz_s1 fun _ => rfl
theorem g183_13 : rg Z d rx_m183 13 L S (rz_mk h ι, w) = rg Z d rx_m183 17 L S (rz_mk h ι, w) := rz_s1 fun _ => rfl
theorem g183_16 : rg Z d rx_m183 16 L S (rz_mk h ι, w) = rg Z d rx_m183 17 L (.int 0 :: S) (rz_mk h ι, w) := rz_s1 fun _ => rfl
theorem g183_17 (c : narrow .boolean (.int x) = .int x) : rg Z d rx_m183 17 L [.int x] (rz_mk h ι, w) = some (.inl (some (.int x)), (rz_mk h ι, w)) := rz_reti rfl rfl c
theorem e183 : rz_f Z (d + 1) 183 [.int s0] σ = rg Z d rx_m183 0 [some (.int s0)] [] σ := rz_f_eq rfl (Nat.le_of_ble_eq_true rfl)
theorem g184_0 : rg Z d rx_m184 0 [some (.int x)] S (rz_mk h ι, w) = rg Z d rx_m184 1 [some (.int x)] (.int x :: S) (rz_mk h ι, w) := rz_s1 fun _ => rfl
theorem g184_1 : rg Z d rx_m184 1 L S (rz_mk h ι, w) = rg Z d rx_m184 3 L (.int 97 :: S) (rz_mk h ι, w) := rz_s1 fun _ => rfl
theorem g184_3 : rg Z d rx_m184 3 L (.int y :: .int x :: S) (rz_mk h ι, w) = if x < y then rg Z d rx_m184 16 L S (rz_mk h ι, w) else rg Z d rx_m184 6 L S (rz_mk h ι, w) := rz_if2 (pc := 3) (t := 16) (off := 13) (cc := .lt) (by decide) rfl
theorem g184_6 : rg Z d rx_m184 6 [some (.int x)] S (rz_mk h ι, w) = rg Z d rx_m184 7 [some (.int x)] (.int x :: S) (rz_mk h ι, w) := rz_s1 fun _ => rfl
theorem g184_7 : rg Z d rx_m184 7 L S (rz_mk h ι, w) = rg Z d rx_m184 9 L (.int 122 :: S) (rz_mk h ι, w) := rz_s1 fun _ => rfl
theorem g184_9 : rg Z d rx_m184 9 L (.int y :: .int x :: S) (rz_mk h ι, w) = if y < x then rg Z d rx_m184 16 L S (rz_mk h ι, w) else rg Z d rx_m184 12 L S (rz_mk h ι, w) := rz_if2 (pc := 9) (t := 16) (off := 7) (cc := .gt) (by decide) rfl
theorem g184_12 : rg Z d rx_m184 12 L S (rz_mk h ι, w) = rg Z d rx_m184 13 L (.int 1 :: S) (rz_mk h ι, w) := rz_s1 fun _ => rfl
theorem g184_13 : rg Z d rx_m184 13 L S (rz_mk h ι, w) = rg Z d rx_m184 17 L S (rz_mk h ι, w) := rz_s1 fun _ => rfl
theorem g184_16 : rg Z d rx_m184 16 L S (rz_mk h ι, w) = rg Z d rx_m184 17 L (.int 0 :: S) (rz_mk h ι, w) := rz_s1 fun _ => rfl
theorem g184_17 (c : narrow .boolean (.int x) = .int x) : rg Z d rx_m184 17 L [.int x] (rz_mk h ι, w) = some (.inl (some (.int x)), (rz_mk h ι, w)) := rz_reti rfl rfl c
theorem e184 : rz_f Z (d + 1) 184 [.int s0] σ = rg Z d rx_m184 0 [some (.int s0)] [] σ := rz_f_eq rfl (Nat.le_of_ble_eq_true rfl)
theorem g185_0 : rg Z d rx_m185 0 [some (.ref a), l1, l2, l3, l4] S (rz_mk h ι, w) = rg Z d rx_m185 1 [some (.ref a), l1, l2, l3, l4] (.ref a :: S) (rz_mk h ι, w) := rz_s1 fun _ => rfl
theorem g185_1 (c : rz_fI h a 12 5) : rg Z d rx_m185 1 L (.ref a :: S) (rz_mk h ι, w) = rg Z d rx_m185 4 L (.int (ι a 5) :: S) (rz_mk h ι, w) := rz_gI rfl (by decide) c
theorem g185_4 : rg Z d rx_m185 4 L (.int x :: S) (rz_mk h ι, w) = if x = 0 then rg Z d rx_m185 9 L S (rz_mk h ι, w) else rg Z d rx_m185 7 L S (rz_mk h ι, w) := rz_if1 (pc := 4) (t := 9) (off := 5) (cc := .eq) (by decide) rfl
theorem g185_7 : rg Z d rx_m185 7 L S (rz_mk h ι, w) = rg Z d rx_m185 8 L (.int 0 :: S) (rz_mk h ι, w) := rz_s1 fun _ => rfl
theorem g185_8 : rg Z d rx_m185 8 L [.int x] (rz_mk h ι, w) = some (.inl (some (.int x)), (rz_mk h ι, w)) := rz_reti rfl rfl rfl
theorem g185_9 : rg Z d rx_m185 9 [some (.ref a), l1, l2, l3, l4] S (rz_mk h ι, w) = rg Z d rx_m185 10 [some (.ref a), l1, l2, l3, l4] (.ref a :: S) (rz_mk h ι, w) := rz_s1 fun _ => rfl
theorem g185_10 (c : rz_oc h a 12) : rg Z d rx_m185 10 L (.ref a :: []) (rz_mk h ι, w) = rz_k true (rz_f Z d 181 [.ref a] (rz_mk h ι, w)) (fun v σ' => rg Z d rx_m185 13 L (v.toList ++ []) σ') := rz_cv (pc := 10) (n := 0) (mi := 181) (S := .ref a :: []) (rest := []) rfl rfl (Nat.le_of_ble_eq_true rfl) (Nat.le_of_ble_eq_true rfl) c
theorem g185_13 : rg Z d rx_m185 13 [some (.ref a), l1, l2, l3, l4] S (rz_mk h ι, w) = rg Z d rx_m185 14 [some (.ref a), l1, l2, l3, l4] (.ref a :: S) (rz_mk h ι, w) := rz_s1 fun _ => rfl
theorem g185_14 (c : rz_fI h a 12 4) : rg Z d rx_m185 14 L (.ref a :: S) (rz_mk h ι, w) = rg Z d rx_m185 17 L (.int (ι a 4) :: S) (rz_mk h ι, w) := rz_gI rfl (by decide) c
theorem g185_17 : rg Z d rx_m185 17 [l0, l1, some (.int z), l3, l4] (.int x :: S) (rz_mk h ι, w) = rg Z d rx_m185 18 [l0, l1, some (.int z), some (.int x), l4] S (rz_mk h ι, w) := rz_s1 fun _ => rfl
theorem g185_18 : rg Z d rx_m185 18 L S (rz_mk h ι, w) = rg Z d rx_m185 19 L (.int 0 :: S) (rz_mk h ι, w) := rz_s1 fun _ => rfl
theorem g185_19 : rg Z d rx_m185 19 [l0, l1, l2, some (.int z), l4] (.int x :: S) (rz_mk h ι, w) = rg Z d rx_m185 21 [l0, l1, l2, some (.int z), some (.int x)] S (rz_mk h ι, w) := rz_s1 fun _ => rfl
theorem g185_21 : rg Z d rx_m185 21 [some (.ref a), l1, l2, l3, l4] S (rz_mk h ι, w) = rg Z d rx_m185 22 [some (.ref a), l1, l2, l3, l4] (.ref a :: S) (rz_mk h ι, w) := rz_s1 fun _ => rfl
theorem g185_22 : rg Z d rx_m185 22 [some (.ref a), l1, l2, l3, l4] S (rz_mk h ι, w) = rg Z d rx_m185 23 [some (.ref a), l1, l2, l3, l4] (.ref a :: S) (rz_mk h ι, w) := rz_s1 fun _ => rfl
theorem g185_23 (c : rz_fI h a 12 4) : rg Z d rx_m185 23 L (.ref a :: S) (rz_mk h ι, w) = rg Z d rx_m185 26 L (.int (ι a 4) :: S) (rz_mk h ι, w) := rz_gI rfl (by decide) c
theorem g185_26 (c : rz_oc h a 12) : rg Z d rx_m185 26 L (v1 :: .ref a :: []) (rz_mk h ι, w) = rz_k true (rz_f Z d 180 [.ref a, v1] (rz_mk h ι, w)) (fun v σ' => rg Z d rx_m185 29 L (v.toList ++ []) σ') := rz_cv (pc := 26) (n := 1) (mi := 180) (S := v1 :: .ref a :: []) (rest := []) rfl rfl (Nat.le_of_ble_eq_true rfl) (Nat.le_of_ble_eq_true rfl) c
theorem g185_29 : rg Z d rx_m185 29 L (v1 :: []) (rz_mk h ι, w) = rz_k true (rz_f Z d 183 [v1] (rz_mk h ι, w)) (fun v σ' => rg Z d rx_m185 32 L (v.toList ++ []) σ') := rz_cs (pc := 29) (n := 1) (mi := 183) (S := v1 :: []) (rest := []) rfl rfl (Nat.le_of_ble_eq_true rfl) (Nat.le_of_ble_eq_true rfl)
theorem g185_32 : rg Z d rx_m185 32 L (.int x :: S) (rz_mk h ι, w) = if x = 0 then rg Z d rx_m185 35 L S (rz_mk h ι, w) else rg Z d rx_m185 44 L S (rz_mk h ι, w) := rz_if1 (pc := 32) (t := 44) (off := 12) (cc := .ne) (by decide) rfl
theorem g185_35 : rg Z d rx_m185 35 [some (.ref a), l1, l2, l3, l4] S (rz_mk h ι, w) = rg Z d rx_m185 36 [some (.ref a), l1, l2, l3, l4] (.ref a :: S) (rz_mk h ι, w) := rz_s1 fun _ => rfl
theorem g185_36 : rg Z d rx_m185 36 L S (rz_mk h ι, w) = rg Z d rx_m185 37 L (.int 1 :: S) (rz_mk h ι, w) := rz_s1 fun _ => rfl
theorem g185_37 : rg Z d rx_m185 37 [some (.ref a), l1, l2, l3, l4] S (rz_mk h ι, w) = rg Z d rx_m185 38 [some (.ref a), l1, l2, l3, l4] (.ref a :: S) (rz_mk h ι, w) := rz_s1 fun _ => rfl
theorem g185_38 (c : rz_fI h a 12 4) : rg Z d rx_m185 38 L (.ref a :: S) (rz_mk h ι, w) = rg Z d rx_m185 41 L (.int (ι a 4) :: S) (rz_mk h ι, w) := rz_gI rfl (by decide) c
theorem g185_41 (c : rz_oc h a 12) : rg Z d rx_m185 41 L (v2 :: v1 :: .ref a :: []) (rz_mk h ι, w) = rz_k true (rz_f Z d 182 [.ref a, v1, v2] (rz_mk h ι, w)) (fun v σ' => rg Z d rx_m185 44 L (v.toList ++ []) σ') := rz_cv (pc := 41) (n := 2) (mi := 182) (S := v2 :: v1 :: .ref a :: []) (rest := []) rfl rfl (Nat.le_of_ble_eq_true rfl) (Nat.le_of_ble_eq_true rfl) c
theorem g185_44 : rg Z d rx_m185 44 [some (.ref a), l1, l2, l3, l4] S (rz_mk h ι, w) = rg Z d rx_m185 45 [some (.ref a), l1, l2, l3, l4] (.ref a :: S) (rz_mk h ι, w) := rz_s1 fun _ => rfl
theorem g185_45 : rg Z d rx_m185 45 [some (.ref a), l1, l2, l3, l4] S (rz_mk h ι, w) = rg Z d rx_m185 46 [some (.ref a), l1, l2, l3, l4] (.ref a :: S) (rz_mk h ι, w) := rz_s1 fun _ => rfl
theorem g185_46 (c : rz_fI h a 12 4) : rg Z d rx_m185 46 L (.ref a :: S) (rz_mk h ι, w) = rg Z d rx_m185 49 L (.int (ι a 4) :: S) (rz_mk h ι, w) := rz_gI rfl (by decide) c
theorem g185_49 (c : rz_oc h a 12) : rg Z d rx_m185 49 L (v1 :: .ref a :: []) (rz_mk h ι, w) = rz_k true (rz_f Z d 180 [.ref a, v1] (rz_mk h ι, w)) (fun v σ' => rg Z d rx_m185 52 L (v.toList ++ []) σ') := rz_cv (pc := 49) (n := 1) (mi := 180) (S := v1 :: .ref a :: []) (rest := []) rfl rfl (Nat.le_of_ble_eq_true rfl) (Nat.le_of_ble_eq_true rfl) c
theorem g185_52 : rg Z d rx_m185 52 L (v1 :: []) (rz_mk h ι, w) = rz_k true (rz_f Z d 183 [v1] (rz_mk h ι, w)) (fun v σ' => rg Z d rx_m185 55 L (v.toList ++ []) σ') := rz_cs (pc := 52) (n := 1) (mi := 183) (S := v1 :: []) (rest := []) rfl rfl (Nat.le_of_ble_eq_true rfl) (Nat.le_of_ble_eq_true rfl)
theorem g185_55 : rg Z d rx_m185 55 L (.int x :: S) (rz_mk h ι, w) = if x = 0 then rg Z d rx_m185 106 L S (rz_mk h ι, w) else rg Z d rx_m185 58 L S (rz_mk h ι, w) := rz_if1 (pc := 55) (t := 106) (off := 51) (cc := .eq) (by decide) rfl
theorem g185_58 : rg Z d rx_m185 58 L S (rz_mk h ι, w) = rg Z d rx_m185 60 L (.int 10 :: S) (rz_mk h ι, w) := rz_s1 fun _ => rfl
theorem g185_60 : rg Z d rx_m185 60 [l0, l1, l2, l3, some (.int x)] S (rz_mk h ι, w) = rg Z d rx_m185 62 [l0, l1, l2, l3, some (.int x)] (.int x :: S) (rz_mk h ι, w) := rz_s1 fun _ => rfl
theorem g185_62 : rg Z d rx_m185 62 L (.int y :: .int x :: S) (rz_mk h ι, w) = rg Z d rx_m185 63 L (.int (x * y) :: S) (rz_mk h ι, w) := rz_s1 fun _ => rfl
theorem g185_63 : rg Z d rx_m185 63 [some (.ref a), l1, l2, l3, l4] S (rz_mk h ι, w) = rg Z d rx_m185 64 [some (.ref a), l1, l2, l3, l4] (.ref a :: S) (rz_mk h ι, w) := rz_s1 fun _ => rfl
theorem g185_64 : rg Z d rx_m185 64 [some (.ref a), l1, l2, l3, l4] S (rz_mk h ι, w) = rg Z d rx_m185 65 [some (.ref a), l1, l2, l3, l4] (.ref a :: S) (rz_mk h ι, w) := rz_s1 fun _ => rfl
theorem g185_65 (c : rz_fI h a 12 4) : rg Z d rx_m185 65 L (.ref a :: S) (rz_mk h ι, w) = rg Z d rx_m185 68 L (.int (ι a 4) :: S) (rz_mk h ι, w) := rz_gI rfl (by decide) c
theorem g185_68 (c : rz_oc h a 12) : rg Z d rx_m185 68 L (v1 :: .ref a :: [.int s0]) (rz_mk h ι, w) = rz_k true (rz_f Z d 180 [.ref a, v1] (rz_mk h ι, w)) (fun v σ' => rg Z d rx_m185 71 L (v.toList ++ [.int s0]) σ') := rz_cv (pc := 68) (n := 1) (mi := 180) (S := v1 :: .ref a :: [.int s0]) (rest := [.int s0]) rfl rfl (Nat.le_of_ble_eq_true rfl) (Nat.le_of_ble_eq_true rfl) c
theorem g185_71 : rg Z d rx_m185 71 L (.int y :: .int x :: S) (rz_mk h ι, w) = rg Z d rx_m185 72 L (.int (x + y) :: S) (rz_mk h ι, w) := rz_s1 fun _ => rfl
theorem g185_72 : rg Z d rx_m185 72 L S (rz_mk h ι, w) = rg Z d rx_m185 74 L (.int 48 :: S) (rz_mk h ι, w) := rz_s1 fun _ => rfl
theorem g185_74 : rg Z d rx_m185 74 L (.int y :: .int x :: S) (rz_mk h ι, w) = rg Z d rx_m185 75 L (.int (x - y) :: S) (rz_mk h ι, w) := rz_s1 fun _ => rfl
theorem g185_75 : rg Z d rx_m185 75 [l0, l1, l2, some (.int z), l4] (.int x :: S) (rz_mk h ι, w) = rg Z d rx_m185 77 [l0, l1, l2, some (.int z), some (.int x)] S (rz_mk h ι, w) := rz_s1 fun _ => rfl
theorem g185_77 : rg Z d rx_m185 77 [l0, l1, l2, l3, some (.int x)] S (rz_mk h ι, w) = rg Z d rx_m185 79 [l0, l1, l2, l3, some (.int x)] (.int x :: S) (rz_mk h ι, w) := rz_s1 fun _ => rfl
theorem g185_79 : rg Z d rx_m185 79 L S (rz_mk h ι, w) = rg Z d rx_m185 81 L (.int 100000 :: S) (rz_mk h ι, w) := rz_s1 fun _ => rfl
theorem g185_81 : rg Z d rx_m185 81 L (.int y :: .int x :: S) (rz_mk h ι, w) = if y < x then rg Z d rx_m185 84 L S (rz_mk h ι, w) else rg Z d rx_m185 89 L S (rz_mk h ι, w) := rz_if2 (pc := 81) (t := 89) (off := 8) (cc := .le) (by decide) rfl
theorem g185_84 : rg Z d rx_m185 84 L S (rz_mk h ι, w) = rg Z d rx_m185 86 L (.int 100000 :: S) (rz_mk h ι, w) := rz_s1 fun _ => rfl
theorem g185_86 : rg Z d rx_m185 86 L S (rz_mk h ι, w) = rg Z d rx_m185 91 L S (rz_mk h ι, w) := rz_s1 fun _ => rfl
theorem g185_89 : rg Z d rx_m185 89 [l0, l1, l2, l3, some (.int x)] S (rz_mk h ι, w) = rg Z d rx_m185 91 [l0, l1, l2, l3, some (.int x)] (.int x :: S) (rz_mk h ι, w) := rz_s1 fun _ => rfl
theorem g185_91 : rg Z d rx_m185 91 [l0, l1, l2, some (.int z), l4] (.int x :: S) (rz_mk h ι, w) = rg Z d rx_m185 93 [l0, l1, l2, some (.int z), some (.int x)] S (rz_mk h ι, w) := rz_s1 fun _ => rfl
theorem g185_93 : rg Z d rx_m185 93 [some (.ref a), l1, l2, l3, l4] S (rz_mk h ι, w) = rg Z d rx_m185 94 [some (.ref a), l1, l2, l3, l4] (.ref a :: S) (rz_mk h ι, w) := rz_s1 fun _ => rfl
theorem g185_94 : rg Z d rx_m185 94 L (.ref a :: S) (rz_mk h ι, w) = rg Z d rx_m185 95 L (.ref a :: .ref a :: S) (rz_mk h ι, w) := rz_s1 fun _ => rfl
theorem g185_95 (c : rz_fI h a 12 4) : rg Z d rx_m185 95 L (.ref a :: S) (rz_mk h ι, w) = rg Z d rx_m185 98 L (.int (ι a 4) :: S) (rz_mk h ι, w) := rz_gI rfl (by decide) c
theorem g185_98 : rg Z d rx_m185 98 L S (rz_mk h ι, w) = rg Z d rx_m185 99 L (.int 1 :: S) (rz_mk h ι, w) := rz_s1 fun _ => rfl
theorem g185_99 : rg Z d rx_m185 99 L (.int y :: .int x :: S) (rz_mk h ι, w) = rg Z d rx_m185 100 L (.int (x + y) :: S) (rz_mk h ι, w) := rz_s1 fun _ => rfl
theorem g185_100 (c : rz_fI h a 12 4) (hz : Z.2.1 ≤ a) : rg Z d rx_m185 100 L (.int x :: .ref a :: S) (rz_mk h ι, w) = rg Z d rx_m185 103 L S (rz_mk h (rz_up ι a 4 x), w) := rz_pI rfl c hz
theorem g185_103 : rg Z d rx_m185 103 L S (rz_mk h ι, w) = rg Z d rx_m185 44 L S (rz_mk h ι, w) := rz_s1 fun _ => rfl
theorem g185_106 : rg Z d rx_m185 106 [l0, l1, l2, l3, some (.int x)] S (rz_mk h ι, w) = rg Z d rx_m185 108 [l0, l1, l2, l3, some (.int x)] (.int x :: S) (rz_mk h ι, w) := rz_s1 fun _ => rfl
theorem g185_108 : rg Z d rx_m185 108 [l0, some (.int x), l2, l3, l4] S (rz_mk h ι, w) = rg Z d rx_m185 109 [l0, some (.int x), l2, l3, l4] (.int x :: S) (rz_mk h ι, w) := rz_s1 fun _ => rfl
theorem g185_109 : rg Z d rx_m185 109 [l0, l1, some (.int x), l3, l4] S (rz_mk h ι, w) = rg Z d rx_m185 110 [l0, l1, some (.int x), l3, l4] (.int x :: S) (rz_mk h ι, w) := rz_s1 fun _ => rfl
theorem g185_110 : rg Z d rx_m185 110 L (v3 :: v2 :: v1 :: []) (rz_mk h ι, w) = rz_k true (rz_f Z d 175 [v1, v2, v3] (rz_mk h ι, w)) (fun v σ' => rg Z d rx_m185 113 L (v.toList ++ []) σ') := rz_cs (pc := 110) (n := 3) (mi := 175) (S := v3 :: v2 :: v1 :: []) (rest := []) rfl rfl (Nat.le_of_ble_eq_true rfl) (Nat.le_of_ble_eq_true rfl)
theorem g185_113 : rg Z d rx_m185 113 L (.int x :: S) (rz_mk h ι, w) = if x = 0 then rg Z d rx_m185 116 L S (rz_mk h ι, w) else rg Z d rx_m185 122 L S (rz_mk h ι, w) := rz_if1 (pc := 113) (t := 122) (off := 9) (cc := .ne) (by decide) rfl
theorem g185_116 : rg Z d rx_m185 116 [some (.ref a), l1, l2, l3, l4] S (rz_mk h ι, w) = rg Z d rx_m185 117 [some (.ref a), l1, l2, l3, l4] (.ref a :: S) (rz_mk h ι, w) := rz_s1 fun _ => rfl
theorem g185_117 : rg Z d rx_m185 117 L S (rz_mk h ι, w) = rg Z d rx_m185 118 L (.int 2 :: S) (rz_mk h ι, w) := rz_s1 fun _ => rfl
theorem g185_118 : rg Z d rx_m185 118 [l0, l1, l2, some (.int x), l4] S (rz_mk h ι, w) = rg Z d rx_m185 119 [l0, l1, l2, some (.int x), l4] (.int x :: S) (rz_mk h ι, w) := rz_s1 fun _ => rfl
theorem g185_119 (c : rz_oc h a 12) : rg Z d rx_m185 119 L (v2 :: v1 :: .ref a :: []) (rz_mk h ι, w) = rz_k true (rz_f Z d 182 [.ref a, v1, v2] (rz_mk h ι, w)) (fun v σ' => rg Z d rx_m185 122 L (v.toList ++ []) σ') := rz_cv (pc := 119) (n := 2) (mi := 182) (S := v2 :: v1 :: .ref a :: []) (rest := []) rfl rfl (Nat.le_of_ble_eq_true rfl) (Nat.le_of_ble_eq_true rfl) c
theorem g185_122 : rg Z d rx_m185 122 [some (.ref a), l1, l2, l3, l4] S (rz_mk h ι, w) = rg Z d rx_m185 123 [some (.ref a), l1, l2, l3, l4] (.ref a :: S) (rz_mk h ι, w) := rz_s1 fun _ => rfl
theorem g185_123 (c : rz_fI h a 12 5) : rg Z d rx_m185 123 L (.ref a :: S) (rz_mk h ι, w) = rg Z d rx_m185 126 L (.int (ι a 5) :: S) (rz_mk h ι, w) := rz_gI rfl (by decide) c
theorem g185_126 : rg Z d rx_m185 126 L (.int x :: S) (rz_mk h ι, w) = if x = 0 then rg Z d rx_m185 129 L S (rz_mk h ι, w) else rg Z d rx_m185 134 L S (rz_mk h ι, w) := rz_if1 (pc := 126) (t := 134) (off := 8) (cc := .ne) (by decide) rfl
theorem g185_129 : rg Z d rx_m185 129 [l0, l1, l2, l3, some (.int x)] S (rz_mk h ι, w) = rg Z d rx_m185 131 [l0, l1, l2, l3, some (.int x)] (.int x :: S) (rz_mk h ι, w) := rz_s1 fun _ => rfl
theorem g185_131 : rg Z d rx_m185 131 L S (rz_mk h ι, w) = rg Z d rx_m185 135 L S (rz_mk h ι, w) := rz_s1 fun _ => rfl
theorem g185_134 : rg Z d rx_m185 134 L S (rz_mk h ι, w) = rg Z d rx_m185 135 L (.int 0 :: S) (rz_mk h ι, w) := rz_s1 fun _ => rfl
theorem g185_135 : rg Z d rx_m185 135 L [.int x] (rz_mk h ι, w) = some (.inl (some (.int x)), (rz_mk h ι, w)) := rz_reti rfl rfl rfl
theorem e185 : rz_f Z (d + 1) 185 [.ref t0, .int s1, .int s2] σ = rg Z d rx_m185 0 [some (.ref t0), some (.int s1), some (.int s2), none, none] [] σ := rz_f_eq rfl (Nat.le_of_ble_eq_true rfl)
theorem g186_0 : rg Z d rx_m186 0 [some (.ref a), l1, l2] S (rz_mk h ι, w) = rg Z d rx_m186 1 [some (.ref a), l1, l2] (.ref a :: S) (rz_mk h ι, w) := rz_s1 fun _ => rfl
theorem g186_1 (c : rz_oc h a 12) : rg Z d rx_m186 1 L (.ref a :: []) (rz_mk h ι, w) = rz_k true (rz_f Z d 181 [.ref a] (rz_mk h ι, w)) (fun v σ' => rg Z d rx_m186 4 L (v.toList ++ []) σ') := rz_cv (pc := 1) (n := 0) (mi := 181) (S := .ref a :: []) (rest := []) rfl rfl (Nat.le_of_ble_eq_true rfl) (Nat.le_of_ble_eq_true rfl) c
theorem g186_4 : rg Z d rx_m186 4 L S (rz_mk h ι, w) = rg Z d rx_m186 5 L (.int 0 :: S) (rz_mk h ι, w) := rz_s1 fun _ => rfl
theorem g186_5 : rg Z d rx_m186 5 [some (.ref b), l1, l2] (.int x :: S) (rz_mk h ι, w) = rg Z d rx_m186 6 [some (.ref b), some (.int x), l2] S (rz_mk h ι, w) := rz_s1 fun _ => rfl
theorem g186_6 : rg Z d rx_m186 6 L S (rz_mk h ι, w) = rg Z d rx_m186 7 L (.int 0 :: S) (rz_mk h ι, w) := rz_s1 fun _ => rfl
theorem g186_7 : rg Z d rx_m186 7 [l0, some (.int z), l2] (.int x :: S) (rz_mk h ι, w) = rg Z d rx_m186 8 [l0, some (.int z), some (.int x)] S (rz_mk h ι, w) := rz_s1 fun _ => rfl
theorem g186_8 : rg Z d rx_m186 8 [some (.ref a), l1, l2] S (rz_mk h ι, w) = rg Z d rx_m186 9 [some (.ref a), l1, l2] (.ref a :: S) (rz_mk h ι, w) := rz_s1 fun _ => rfl
theorem g186_9 : rg Z d rx_m186 9 [some (.ref a), l1, l2] S (rz_mk h ι, w) = rg Z d rx_m186 10 [some (.ref a), l1, l2] (.ref a :: S) (rz_mk h ι, w) := rz_s1 fun _ => rfl
theorem g186_10 (c : rz_fI h a 12 4) : rg Z d rx_m186 10 L (.ref a :: S) (rz_mk h ι, w) = rg Z d rx_m186 13 L (.int (ι a 4) :: S) (rz_mk h ι, w) := rz_gI rfl (by decide) c
theorem g186_13 : rg Z d rx_m186 13 [l0, l1, some (.int x)] S (rz_mk h ι, w) = rg Z d rx_m186 14 [l0, l1, some (.int x)] (.int x :: S) (rz_mk h ι, w) := rz_s1 fun _ => rfl
theorem g186_14 : rg Z d rx_m186 14 L (.int y :: .int x :: S) (rz_mk h ι, w) = rg Z d rx_m186 15 L (.int (x + y) :: S) (rz_mk h ι, w) := rz_s1 fun _ => rfl
theorem g186_15 (c : rz_oc h a 12) : rg Z d rx_m186 15 L (v1 :: .ref a :: []) (rz_mk h ι, w) = rz_k true (rz_f Z d 180 [.ref a, v1] (rz_mk h ι, w)) (fun v σ' => rg Z d rx_m186 18 L (v.toList ++ []) σ') := rz_cv (pc := 15) (n := 1) (mi := 180) (S := v1 :: .ref a :: []) (rest := []) rfl rfl (Nat.le_of_ble_eq_true rfl) (Nat.le_of_ble_eq_true rfl) c
theorem g186_18 : rg Z d rx_m186 18 L (v1 :: []) (rz_mk h ι, w) = rz_k true (rz_f Z d 184 [v1] (rz_mk h ι, w)) (fun v σ' => rg Z d rx_m186 21 L (v.toList ++ []) σ') := rz_cs (pc := 18) (n := 1) (mi := 184) (S := v1 :: []) (rest := []) rfl rfl (Nat.le_of_ble_eq_true rfl) (Nat.le_of_ble_eq_true rfl)
theorem g186_21 : rg Z d rx_m186 21 L (.int x :: S) (rz_mk h ι, w) = if x = 0 then rg Z d rx_m186 61 L S (rz_mk h ι, w) else rg Z d rx_m186 24 L S (rz_mk h ι, w) := rz_if1 (pc := 21) (t := 61) (off := 40) (cc := .eq) (by decide) rfl
theorem g186_24 : rg Z d rx_m186 24 [l0, l1, some (.int x)] S (rz_mk h ι, w) = rg Z d rx_m186 25 [l0, l1, some (.int x)] (.int x :: S) (rz_mk h ι, w) := rz_s1 fun _ => rfl
theorem g186_25 : rg Z d rx_m186 25 L S (rz_mk h ι, w) = rg Z d rx_m186 27 L (.int 6 :: S) (rz_mk h ι, w) := rz_s1 fun _ => rfl
theorem g186_27 : rg Z d rx_m186 27 L (.int y :: .int x :: S) (rz_mk h ι, w) = if x < y then rg Z d rx_m186 30 L S (rz_mk h ι, w) else rg Z d rx_m186 53 L S (rz_mk h ι, w) := rz_if2 (pc := 27) (t := 53) (off := 26) (cc := .ge) (by decide) rfl
theorem g186_30 : rg Z d rx_m186 30 L S (rz_mk h ι, w) = rg Z d rx_m186 32 L (.int 27 :: S) (rz_mk h ι, w) := rz_s1 fun _ => rfl
theorem g186_32 : rg Z d rx_m186 32 [l0, some (.int x), l2] S (rz_mk h ι, w) = rg Z d rx_m186 33 [l0, some (.int x), l2] (.int x :: S) (rz_mk h ι, w) := rz_s1 fun _ => rfl
theorem g186_33 : rg Z d rx_m186 33 L (.int y :: .int x :: S) (rz_mk h ι, w) = rg Z d rx_m186 34 L (.int (x * y) :: S) (rz_mk h ι, w) := rz_s1 fun _ => rfl
theorem g186_34 : rg Z d rx_m186 34 [some (.ref a), l1, l2] S (rz_mk h ι, w) = rg Z d rx_m186 35 [some (.ref a), l1, l2] (.ref a :: S) (rz_mk h ι, w) := rz_s1 fun _ => rfl
theorem g186_35 : rg Z d rx_m186 35 [some (.ref a), l1, l2] S (rz_mk h ι, w) = rg Z d rx_m186 36 [some (.ref a), l1, l2] (.ref a :: S) (rz_mk h ι, w) := rz_s1 fun _ => rfl
theorem g186_36 (c : rz_fI h a 12 4) : rg Z d rx_m186 36 L (.ref a :: S) (rz_mk h ι, w) = rg Z d rx_m186 39 L (.int (ι a 4) :: S) (rz_mk h ι, w) := rz_gI rfl (by decide) c
theorem g186_39 : rg Z d rx_m186 39 [l0, l1, some (.int x)] S (rz_mk h ι, w) = rg Z d rx_m186 40 [l0, l1, some (.int x)] (.int x :: S) (rz_mk h ι, w) := rz_s1 fun _ => rfl
theorem g186_40 : rg Z d rx_m186 40 L (.int y :: .int x :: S) (rz_mk h ι, w) = rg Z d rx_m186 41 L (.int (x + y) :: S) (rz_mk h ι, w) := rz_s1 fun _ => rfl
theorem g186_41 (c : rz_oc h a 12) : rg Z d rx_m186 41 L (v1 :: .ref a :: [.int s0]) (rz_mk h ι, w) = rz_k true (rz_f Z d 180 [.ref a, v1] (rz_mk h ι, w)) (fun v σ' => rg Z d rx_m186 44 L (v.toList ++ [.int s0]) σ') := rz_cv (pc := 41) (n := 1) (mi := 180) (S := v1 :: .ref a :: [.int s0]) (rest := [.int s0]) rfl rfl (Nat.le_of_ble_eq_true rfl) (Nat.le_of_ble_eq_true rfl) c
theorem g186_44 : rg Z d rx_m186 44 L (.int y :: .int x :: S) (rz_mk h ι, w) = rg Z d rx_m186 45 L (.int (x + y) :: S) (rz_mk h ι, w) := rz_s1 fun _ => rfl
theorem g186_45 : rg Z d rx_m186 45 L S (rz_mk h ι, w) = rg Z d rx_m186 47 L (.int 97 :: S) (rz_mk h ι, w) := rz_s1 fun _ => rfl
theorem g186_47 : rg Z d rx_m186 47 L (.int y :: .int x :: S) (rz_mk h ι, w) = rg Z d rx_m186 48 L (.int (x - y) :: S) (rz_mk h ι, w) := rz_s1 fun _ => rfl
theorem g186_48 : rg Z d rx_m186 48 L S (rz_mk h ι, w) = rg Z d rx_m186 49 L (.int 1 :: S) (rz_mk h ι, w) := rz_s1 fun _ => rfl
theorem g186_49 : rg Z d rx_m186 49 L (.int y :: .int x :: S) (rz_mk h ι, w) = rg Z d rx_m186 50 L (.int (x + y) :: S) (rz_mk h ι, w) := rz_s1 fun _ => rfl
theorem g186_50 : rg Z d rx_m186 50 L S (rz_mk h ι, w) = rg Z d rx_m186 54 L S (rz_mk h ι, w) := rz_s1 fun _ => rfl
theorem g186_53 : rg Z d rx_m186 53 [l0, some (.int x), l2] S (rz_mk h ι, w) = rg Z d rx_m186 54 [l0, some (.int x), l2] (.int x :: S) (rz_mk h ι, w) := rz_s1 fun _ => rfl
theorem g186_54 : rg Z d rx_m186 54 [some (.ref b), l1, l2] (.int x :: S) (rz_mk h ι, w) = rg Z d rx_m186 55 [some (.ref b), some (.int x), l2] S (rz_mk h ι, w) := rz_s1 fun _ => rfl
theorem g186_55 : rg Z d rx_m186 55 [l0, some (.int z), some (.int x)] S (rz_mk h ι, w) = rg Z d rx_m186 58 [l0, some (.int z), some (.int (x + 1))] S (rz_mk h ι, w) := rz_s1 fun _ => rfl
theorem g186_58 : rg Z d rx_m186 58 L S (rz_mk h ι, w) = rg Z d rx_m186 8 L S (rz_mk h ι, w) := rz_s1 fun _ => rfl
theorem g186_61 : rg Z d rx_m186 61 [l0, l1, some (.int x)] S (rz_mk h ι, w) = rg Z d rx_m186 62 [l0, l1, some (.int x)] (.int x :: S) (rz_mk h ι, w) := rz_s1 fun _ => rfl
theorem g186_62 : rg Z d rx_m186 62 L S (rz_mk h ι, w) = rg Z d rx_m186 64 L (.int 6 :: S) (rz_mk h ι, w) := rz_s1 fun _ => rfl
theorem g186_64 : rg Z d rx_m186 64 L (.int y :: .int x :: S) (rz_mk h ι, w) = if y < x then rg Z d rx_m186 67 L S (rz_mk h ι, w) else rg Z d rx_m186 71 L S (rz_mk h ι, w) := rz_if2 (pc := 64) (t := 71) (off := 7) (cc := .le) (by decide) rfl
theorem g186_67 : rg Z d rx_m186 67 L S (rz_mk h ι, w) = rg Z d rx_m186 68 L (.int (-1) :: S) (rz_mk h ι, w) := rz_s1 fun _ => rfl
theorem g186_68 : rg Z d rx_m186 68 L S (rz_mk h ι, w) = rg Z d rx_m186 72 L S (rz_mk h ι, w) := rz_s1 fun _ => rfl
theorem g186_71 : rg Z d rx_m186 71 [l0, some (.int x), l2] S (rz_mk h ι, w) = rg Z d rx_m186 72 [l0, some (.int x), l2] (.int x :: S) (rz_mk h ι, w) := rz_s1 fun _ => rfl
theorem g186_72 : rg Z d rx_m186 72 L [.int x] (rz_mk h ι, w) = some (.inl (some (.int x)), (rz_mk h ι, w)) := rz_reti rfl rfl rfl
theorem e186 : rz_f Z (d + 1) 186 [.ref t0] σ = rg Z d rx_m186 0 [some (.ref t0), none, none] [] σ := rz_f_eq rfl (Nat.le_of_ble_eq_true rfl)
theorem g187_0 : rg Z d rx_m187 0 L S (rz_mk h ι, w) = rg Z d rx_m187 2 L (.int 27 :: S) (rz_mk h ι, w) := rz_s1 fun _ => rfl
theorem g187_2 : rg Z d rx_m187 2 L S (rz_mk h ι, w) = rg Z d rx_m187 4 L (.int 27 :: S) (rz_mk h ι, w) := rz_s1 fun _ => rfl
theorem g187_4 : rg Z d rx_m187 4 [some (.int x), l1, l2, l3, l4, l5, l6] S (rz_mk h ι, w) = rg Z d rx_m187 5 [some (.int x), l1, l2, l3, l4, l5, l6] (.int x :: S) (rz_mk h ι, w) := rz_s1 fun _ => rfl
theorem g187_5 : rg Z d rx_m187 5 L (.int y :: .int x :: S) (rz_mk h ι, w) = rg Z d rx_m187 6 L (.int (x * y) :: S) (rz_mk h ι, w) := rz_s1 fun _ => rfl
theorem g187_6 : rg Z d rx_m187 6 [l0, some (.int x), l2, l3, l4, l5, l6] S (rz_mk h ι, w) = rg Z d rx_m187 7 [l0, some (.int x), l2, l3, l4, l5, l6] (.int x :: S) (rz_mk h ι, w) := rz_s1 fun _ => rfl
theorem g187_7 : rg Z d rx_m187 7 L (.int y :: .int x :: S) (rz_mk h ι, w) = rg Z d rx_m187 8 L (.int (x + y) :: S) (rz_mk h ι, w) := rz_s1 fun _ => rfl
theorem g187_8 : rg Z d rx_m187 8 L (.int y :: .int x :: S) (rz_mk h ι, w) = rg Z d rx_m187 9 L (.int (x * y) :: S) (rz_mk h ι, w) := rz_s1 fun _ => rfl
theorem g187_9 : rg Z d rx_m187 9 [l0, l1, some (.int x), l3, l4, l5, l6] S (rz_mk h ι, w) = rg Z d rx_m187 10 [l0, l1, some (.int x), l3, l4, l5, l6] (.int x :: S) (rz_mk h ι, w) := rz_s1 fun _ => rfl
theorem g187_10 : rg Z d rx_m187 10 L (.int y :: .int x :: S) (rz_mk h ι, w) = rg Z d rx_m187 11 L (.int (x + y) :: S) (rz_mk h ι, w) := rz_s1 fun _ => rfl
theorem g187_11 : rg Z d rx_m187 11 [l0, l1, l2, l3, l4, some (.int z), l6] (.int x :: S) (rz_mk h ι, w) = rg Z d rx_m187 13 [l0, l1, l2, l3, l4, some (.int z), some (.int x)] S (rz_mk h ι, w) := rz_s1 fun _ => rfl
theorem g187_13 : rg Z d rx_m187 13 [l0, l1, l2, some (.int x), l4, l5, l6] S (rz_mk h ι, w) = rg Z d rx_m187 14 [l0, l1, l2, some (.int x), l4, l5, l6] (.int x :: S) (rz_mk h ι, w) := rz_s1 fun _ => rfl
theorem g187_14 : rg Z d rx_m187 14 L (.int x :: S) (rz_mk h ι, w) = if x = 0 then rg Z d rx_m187 17 L S (rz_mk h ι, w) else rg Z d rx_m187 22 L S (rz_mk h ι, w) := rz_if1 (pc := 14) (t := 22) (off := 8) (cc := .ne) (by decide) rfl
theorem g187_17 : rg Z d rx_m187 17 [l0, l1, l2, l3, l4, l5, some (.int x)] S (rz_mk h ι, w) = rg Z d rx_m187 19 [l0, l1, l2, l3, l4, l5, some (.int x)] (.int x :: S) (rz_mk h ι, w) := rz_s1 fun _ => rfl
theorem g187_19 : rg Z d rx_m187 19 L S (rz_mk h ι, w) = rg Z d rx_m187 29 L S (rz_mk h ι, w) := rz_s1 fun _ => rfl
theorem g187_22 : rg Z d rx_m187 22 L S (rz_mk h ι, w) = rg Z d rx_m187 24 L (.int 27 :: S) (rz_mk h ι, w) := rz_s1 fun _ => rfl
theorem g187_24 : rg Z d rx_m187 24 [l0, l1, l2, l3, l4, l5, some (.int x)] S (rz_mk h ι, w) = rg Z d rx_m187 26 [l0, l1, l2, l3, l4, l5, some (.int x)] (.int x :: S) (rz_mk h ι, w) := rz_s1 fun _ => rfl
theorem g187_26 : rg Z d rx_m187 26 L (.int y :: .int x :: S) (rz_mk h ι, w) = rg Z d rx_m187 27 L (.int (x * y) :: S) (rz_mk h ι, w) := rz_s1 fun _ => rfl
theorem g187_27 : rg Z d rx_m187 27 [l0, l1, l2, some (.int x), l4, l5, l6] S (rz_mk h ι, w) = rg Z d rx_m187 28 [l0, l1, l2, some (.int x), l4, l5, l6] (.int x :: S) (rz_mk h ι, w) := rz_s1 fun _ => rfl
theorem g187_28 : rg Z d rx_m187 28 L (.int y :: .int x :: S) (rz_mk h ι, w) = rg Z d rx_m187 29 L (.int (x + y) :: S) (rz_mk h ι, w) := rz_s1 fun _ => rfl
theorem g187_29 : rg Z d rx_m187 29 [l0, l1, l2, l3, l4, some (.int z), l6] (.int x :: S) (rz_mk h ι, w) = rg Z d rx_m187 31 [l0, l1, l2, l3, l4, some (.int z), some (.int x)] S (rz_mk h ι, w) := rz_s1 fun _ => rfl
theorem g187_31 : rg Z d rx_m187 31 [l0, l1, l2, l3, some (.int x), l5, l6] S (rz_mk h ι, w) = rg Z d rx_m187 33 [l0, l1, l2, l3, some (.int x), l5, l6] (.int x :: S) (rz_mk h ι, w) := rz_s1 fun _ => rfl
theorem g187_33 : rg Z d rx_m187 33 L (.int x :: S) (rz_mk h ι, w) = if x = 0 then rg Z d rx_m187 36 L S (rz_mk h ι, w) else rg Z d rx_m187 41 L S (rz_mk h ι, w) := rz_if1 (pc := 33) (t := 41) (off := 8) (cc := .ne) (by decide) rfl
theorem g187_36 : rg Z d rx_m187 36 [l0, l1, l2, l3, l4, l5, some (.int x)] S (rz_mk h ι, w) = rg Z d rx_m187 38 [l0, l1, l2, l3, l4, l5, some (.int x)] (.int x :: S) (rz_mk h ι, w) := rz_s1 fun _ => rfl
theorem g187_38 : rg Z d rx_m187 38 L S (rz_mk h ι, w) = rg Z d rx_m187 49 L S (rz_mk h ι, w) := rz_s1 fun _ => rfl
theorem g187_41 : rg Z d rx_m187 41 L S (rz_mk h ι, w) = rg Z d rx_m187 43 L (.int 27 :: S) (rz_mk h ι, w) := rz_s1 fun _ => rfl
theorem g187_43 : rg Z d rx_m187 43 [l0, l1, l2, l3, l4, l5, some (.int x)] S (rz_mk h ι, w) = rg Z d rx_m187 45 [l0, l1, l2, l3, l4, l5, some (.int x)] (.int x :: S) (rz_mk h ι, w) := rz_s1 fun _ => rfl
theorem g187_45 : rg Z d rx_m187 45 L (.int y :: .int x :: S) (rz_mk h ι, w) = rg Z d rx_m187 46 L (.int (x * y) :: S) (rz_mk h ι, w) := rz_s1 fun _ => rfl
theorem g187_46 : rg Z d rx_m187 46 [l0, l1, l2, l3, some (.int x), l5, l6] S (rz_mk h ι, w) = rg Z d rx_m187 48 [l0, l1, l2, l3, some (.int x), l5, l6] (.int x :: S) (rz_mk h ι, w) := rz_s1 fun _ => rfl
theorem g187_48 : rg Z d rx_m187 48 L (.int y :: .int x :: S) (rz_mk h ι, w) = rg Z d rx_m187 49 L (.int (x + y) :: S) (rz_mk h ι, w) := rz_s1 fun _ => rfl
theorem g187_49 : rg Z d rx_m187 49 [l0, l1, l2, l3, l4, some (.int z), l6] (.int x :: S) (rz_mk h ι, w) = rg Z d rx_m187 51 [l0, l1, l2, l3, l4, some (.int z), some (.int x)] S (rz_mk h ι, w) := rz_s1 fun _ => rfl
theorem g187_51 : rg Z d rx_m187 51 [l0, l1, l2, l3, l4, some (.int x), l6] S (rz_mk h ι, w) = rg Z d rx_m187 53 [l0, l1, l2, l3, l4, some (.int x), l6] (.int x :: S) (rz_mk h ι, w) := rz_s1 fun _ => rfl
theorem g187_53 : rg Z d rx_m187 53 L (.int x :: S) (rz_mk h ι, w) = if x = 0 then rg Z d rx_m187 56 L S (rz_mk h ι, w) else rg Z d rx_m187 61 L S (rz_mk h ι, w) := rz_if1 (pc := 53) (t := 61) (off := 8) (cc := .ne) (by decide) rfl
theorem g187_56 : rg Z d rx_m187 56 [l0, l1, l2, l3, l4, l5, some (.int x)] S (rz_mk h ι, w) = rg Z d rx_m187 58 [l0, l1, l2, l3, l4, l5, some (.int x)] (.int x :: S) (rz_mk h ι, w) := rz_s1 fun _ => rfl
theorem g187_58 : rg Z d rx_m187 58 L S (rz_mk h ι, w) = rg Z d rx_m187 69 L S (rz_mk h ι, w) := rz_s1 fun _ => rfl
theorem g187_61 : rg Z d rx_m187 61 L S (rz_mk h ι, w) = rg Z d rx_m187 63 L (.int 27 :: S) (rz_mk h ι, w) := rz_s1 fun _ => rfl
theorem g187_63 : rg Z d rx_m187 63 [l0, l1, l2, l3, l4, l5, some (.int x)] S (rz_mk h ι, w) = rg Z d rx_m187 65 [l0, l1, l2, l3, l4, l5, some (.int x)] (.int x :: S) (rz_mk h ι, w) := rz_s1 fun _ => rfl
theorem g187_65 : rg Z d rx_m187 65 L (.int y :: .int x :: S) (rz_mk h ι, w) = rg Z d rx_m187 66 L (.int (x * y) :: S) (rz_mk h ι, w) := rz_s1 fun _ => rfl
theorem g187_66 : rg Z d rx_m187 66 [l0, l1, l2, l3, l4, some (.int x), l6] S (rz_mk h ι, w) = rg Z d rx_m187 68 [l0, l1, l2, l3, l4, some (.int x), l6] (.int x :: S) (rz_mk h ι, w) := rz_s1 fun _ => rfl
theorem g187_68 : rg Z d rx_m187 68 L (.int y :: .int x :: S) (rz_mk h ι, w) = rg Z d rx_m187 69 L (.int (x + y) :: S) (rz_mk h ι, w) := rz_s1 fun _ => rfl
theorem g187_69 : rg Z d rx_m187 69 L [.int x] (rz_mk h ι, w) = some (.inl (some (.int x)), (rz_mk h ι, w)) := rz_reti rfl rfl rfl
theorem e187 : rz_f Z (d + 1) 187 [.int s0, .int s1, .int s2, .int s3, .int s4, .int s5] σ = rg Z d rx_m187 0 [some (.int s0), some (.int s1), some (.int s2), some (.int s3), some (.int s4), some (.int s5), none] [] σ := rz_f_eq rfl (Nat.le_of_ble_eq_true rfl)
theorem g188_0 : rg Z d rx_m188 0 [some (.ref a), l1, l2, l3, l4, l5, l6] S (rz_mk h ι, w) = rg Z d rx_m188 1 [some (.ref a), l1, l2, l3, l4, l5, l6] (.ref a :: S) (rz_mk h ι, w) := rz_s1 fun _ => rfl
theorem g188_1 (c : rz_fI h a 12 5) : rg Z d rx_m188 1 L (.ref a :: S) (rz_mk h ι, w) = rg Z d rx_m188 4 L (.int (ι a 5) :: S) (rz_mk h ι, w) := rz_gI rfl (by decide) c
theorem g188_4 : rg Z d rx_m188 4 L (.int x :: S) (rz_mk h ι, w) = if x = 0 then rg Z d rx_m188 7 L S (rz_mk h ι, w) else rg Z d rx_m188 30 L S (rz_mk h ι, w) := rz_if1 (pc := 4) (t := 30) (off := 26) (cc := .ne) (by decide) rfl
theorem g188_7 : rg Z d rx_m188 7 [some (.ref a), l1, l2, l3, l4, l5, l6] S (rz_mk h ι, w) = rg Z d rx_m188 8 [some (.ref a), l1, l2, l3, l4, l5, l6] (.ref a :: S) (rz_mk h ι, w) := rz_s1 fun _ => rfl
theorem g188_8 (c : rz_oc h a 12) : rg Z d rx_m188 8 L (.ref a :: []) (rz_mk h ι, w) = rz_k true (rz_f Z d 186 [.ref a] (rz_mk h ι, w)) (fun v σ' => rg Z d rx_m188 11 L (v.toList ++ []) σ') := rz_cv (pc := 8) (n := 0) (mi := 186) (S := .ref a :: []) (rest := []) rfl rfl (Nat.le_of_ble_eq_true rfl) (Nat.le_of_ble_eq_true rfl) c
theorem g188_11 : rg Z d rx_m188 11 [l0, some (.int x), l2, l3, l4, l5, l6] S (rz_mk h ι, w) = rg Z d rx_m188 12 [l0, some (.int x), l2, l3, l4, l5, l6] (.int x :: S) (rz_mk h ι, w) := rz_s1 fun _ => rfl
theorem g188_12 : rg Z d rx_m188 12 [l0, l1, some (.int x), l3, l4, l5, l6] S (rz_mk h ι, w) = rg Z d rx_m188 13 [l0, l1, some (.int x), l3, l4, l5, l6] (.int x :: S) (rz_mk h ι, w) := rz_s1 fun _ => rfl
theorem g188_13 : rg Z d rx_m188 13 [l0, l1, l2, some (.int x), l4, l5, l6] S (rz_mk h ι, w) = rg Z d rx_m188 14 [l0, l1, l2, some (.int x), l4, l5, l6] (.int x :: S) (rz_mk h ι, w) := rz_s1 fun _ => rfl
theorem g188_14 : rg Z d rx_m188 14 [l0, l1, l2, l3, some (.int x), l5, l6] S (rz_mk h ι, w) = rg Z d rx_m188 16 [l0, l1, l2, l3, some (.int x), l5, l6] (.int x :: S) (rz_mk h ι, w) := rz_s1 fun _ => rfl
theorem g188_16 : rg Z d rx_m188 16 [l0, l1, l2, l3, l4, some (.int x), l6] S (rz_mk h ι, w) = rg Z d rx_m188 18 [l0, l1, l2, l3, l4, some (.int x), l6] (.int x :: S) (rz_mk h ι, w) := rz_s1 fun _ => rfl
theorem g188_18 : rg Z d rx_m188 18 [l0, l1, l2, l3, l4, l5, some (.int x)] S (rz_mk h ι, w) = rg Z d rx_m188 20 [l0, l1, l2, l3, l4, l5, some (.int x)] (.int x :: S) (rz_mk h ι, w) := rz_s1 fun _ => rfl
theorem g188_20 : rg Z d rx_m188 20 L (v6 :: v5 :: v4 :: v3 :: v2 :: v1 :: [.int s0]) (rz_mk h ι, w) = rz_k true (rz_f Z d 187 [v1, v2, v3, v4, v5, v6] (rz_mk h ι, w)) (fun v σ' => rg Z d rx_m188 23 L (v.toList ++ [.int s0]) σ') := rz_cs (pc := 20) (n := 6) (mi := 187) (S := v6 :: v5 :: v4 :: v3 :: v2 :: v1 :: [.int s0]) (rest := [.int s0]) rfl rfl (Nat.le_of_ble_eq_true rfl) (Nat.le_of_ble_eq_true rfl)
theorem g188_23 : rg Z d rx_m188 23 L (.int y :: .int x :: S) (rz_mk h ι, w) = if x = y then rg Z d rx_m188 26 L S (rz_mk h ι, w) else rg Z d rx_m188 30 L S (rz_mk h ι, w) := rz_if2 (pc := 23) (t := 30) (off := 7) (cc := .ne) (by decide) rfl
theorem g188_26 : rg Z d rx_m188 26 L S (rz_mk h ι, w) = rg Z d rx_m188 27 L (.int 1 :: S) (rz_mk h ι, w) := rz_s1 fun _ => rfl
theorem g188_27 : rg Z d rx_m188 27 L S (rz_mk h ι, w) = rg Z d rx_m188 31 L S (rz_mk h ι, w) := rz_s1 fun _ => rfl
theorem g188_30 : rg Z d rx_m188 30 L S (rz_mk h ι, w) = rg Z d rx_m188 31 L (.int 0 :: S) (rz_mk h ι, w) := rz_s1 fun _ => rfl
theorem g188_31 (c : narrow .boolean (.int x) = .int x) : rg Z d rx_m188 31 L [.int x] (rz_mk h ι, w) = some (.inl (some (.int x)), (rz_mk h ι, w)) := rz_reti rfl rfl c
theorem e188 : rz_f Z (d + 1) 188 [.ref t0, .int s1, .int s2, .int s3, .int s4, .int s5, .int s6] σ = rg Z d rx_m188 0 [some (.ref t0), some (.int s1), some (.int s2), some (.int s3), some (.int s4), some (.int s5), some (.int s6)] [] σ := rz_f_eq rfl (Nat.le_of_ble_eq_true rfl)
theorem g189_0 : rg Z d rx_m189 0 [some (.ref a)] S (rz_mk h ι, w) = rg Z d rx_m189 1 [some (.ref a)] (.ref a :: S) (rz_mk h ι, w) := rz_s1 fun _ => rfl
theorem g189_1 : rg Z d rx_m189 1 [some (.ref a)] S (rz_mk h ι, w) = rg Z d rx_m189 2 [some (.ref a)] (.ref a :: S) (rz_mk h ι, w) := rz_s1 fun _ => rfl
theorem g189_2 (c : rz_fI h a 12 4) : rg Z d rx_m189 2 L (.ref a :: S) (rz_mk h ι, w) = rg Z d rx_m189 5 L (.int (ι a 4) :: S) (rz_mk h ι, w) := rz_gI rfl (by decide) c
theorem g189_5 (c : rz_oc h a 12) : rg Z d rx_m189 5 L (v1 :: .ref a :: []) (rz_mk h ι, w) = rz_k true (rz_f Z d 180 [.ref a, v1] (rz_mk h ι, w)) (fun v σ' => rg Z d rx_m189 8 L (v.toList ++ []) σ') := rz_cv (pc := 5) (n := 1) (mi := 180) (S := v1 :: .ref a :: []) (rest := []) rfl rfl (Nat.le_of_ble_eq_true rfl) (Nat.le_of_ble_eq_true rfl) c
theorem g189_8 : rg Z d rx_m189 8 L (v1 :: []) (rz_mk h ι, w) = rz_k true (rz_f Z d 184 [v1] (rz_mk h ι, w)) (fun v σ' => rg Z d rx_m189 11 L (v.toList ++ []) σ') := rz_cs (pc := 8) (n := 1) (mi := 184) (S := v1 :: []) (rest := []) rfl rfl (Nat.le_of_ble_eq_true rfl) (Nat.le_of_ble_eq_true rfl)
theorem g189_11 : rg Z d rx_m189 11 L (.int x :: S) (rz_mk h ι, w) = if x = 0 then rg Z d rx_m189 27 L S (rz_mk h ι, w) else rg Z d rx_m189 14 L S (rz_mk h ι, w) := rz_if1 (pc := 11) (t := 27) (off := 16) (cc := .eq) (by decide) rfl
theorem g189_14 : rg Z d rx_m189 14 [some (.ref a)] S (rz_mk h ι, w) = rg Z d rx_m189 15 [some (.ref a)] (.ref a :: S) (rz_mk h ι, w) := rz_s1 fun _ => rfl
theorem g189_15 : rg Z d rx_m189 15 L (.ref a :: S) (rz_mk h ι, w) = rg Z d rx_m189 16 L (.ref a :: .ref a :: S) (rz_mk h ι, w) := rz_s1 fun _ => rfl
theorem g189_16 (c : rz_fI h a 12 4) : rg Z d rx_m189 16 L (.ref a :: S) (rz_mk h ι, w) = rg Z d rx_m189 19 L (.int (ι a 4) :: S) (rz_mk h ι, w) := rz_gI rfl (by decide) c
theorem g189_19 : rg Z d rx_m189 19 L S (rz_mk h ι, w) = rg Z d rx_m189 20 L (.int 1 :: S) (rz_mk h ι, w) := rz_s1 fun _ => rfl
theorem g189_20 : rg Z d rx_m189 20 L (.int y :: .int x :: S) (rz_mk h ι, w) = rg Z d rx_m189 21 L (.int (x + y) :: S) (rz_mk h ι, w) := rz_s1 fun _ => rfl
theorem g189_21 (c : rz_fI h a 12 4) (hz : Z.2.1 ≤ a) : rg Z d rx_m189 21 L (.int x :: .ref a :: S) (rz_mk h ι, w) = rg Z d rx_m189 24 L S (rz_mk h (rz_up ι a 4 x), w) := rz_pI rfl c hz
theorem g189_24 : rg Z d rx_m189 24 L S (rz_mk h ι, w) = rg Z d rx_m189 0 L S (rz_mk h ι, w) := rz_s1 fun _ => rfl
theorem g189_27 : rg Z d rx_m189 27 L [] (rz_mk h ι, w) = some (.inl none, (rz_mk h ι, w)) := rz_r1 fun _ => rfl
theorem e189 : rz_f Z (d + 1) 189 [.ref t0] σ = rg Z d rx_m189 0 [some (.ref t0)] [] σ := rz_f_eq rfl (Nat.le_of_ble_eq_true rfl)
theorem g190_0 : rg Z d rx_m190 0 [some (.ref a), l1, l2, l3, l4, l5, l6, l7] S (rz_mk h ι, w) = rg Z d rx_m190 1 [some (.ref a), l1, l2, l3, l4, l5, l6, l7] (.ref a :: S) (rz_mk h ι, w) := rz_s1 fun _ => rfl
theorem g190_1 : rg Z d rx_m190 1 [l0, some (.int x), l2, l3, l4, l5, l6, l7] S (rz_mk h ι, w) = rg Z d rx_m190 2 [l0, some (.int x), l2, l3, l4, l5, l6, l7] (.int x :: S) (rz_mk h ι, w) := rz_s1 fun _ => rfl
theorem g190_2 : rg Z d rx_m190 2 [l0, l1, some (.int x), l3, l4, l5, l6, l7] S (rz_mk h ι, w) = rg Z d rx_m190 3 [l0, l1, some (.int x), l3, l4, l5, l6, l7] (.int x :: S) (rz_mk h ι, w) := rz_s1 fun _ => rfl
theorem g190_3 : rg Z d rx_m190 3 [l0, l1, l2, some (.int x), l4, l5, l6, l7] S (rz_mk h ι, w) = rg Z d rx_m190 4 [l0, l1, l2, some (.int x), l4, l5, l6, l7] (.int x :: S) (rz_mk h ι, w) := rz_s1 fun _ => rfl
theorem g190_4 : rg Z d rx_m190 4 [l0, l1, l2, l3, some (.int x), l5, l6, l7] S (rz_mk h ι, w) = rg Z d rx_m190 6 [l0, l1, l2, l3, some (.int x), l5, l6, l7] (.int x :: S) (rz_mk h ι, w) := rz_s1 fun _ => rfl
theorem g190_6 : rg Z d rx_m190 6 [l0, l1, l2, l3, l4, some (.int x), l6, l7] S (rz_mk h ι, w) = rg Z d rx_m190 8 [l0, l1, l2, l3, l4, some (.int x), l6, l7] (.int x :: S) (rz_mk h ι, w) := rz_s1 fun _ => rfl
theorem g190_8 : rg Z d rx_m190 8 [l0, l1, l2, l3, l4, l5, some (.int x), l7] S (rz_mk h ι, w) = rg Z d rx_m190 10 [l0, l1, l2, l3, l4, l5, some (.int x), l7] (.int x :: S) (rz_mk h ι, w) := rz_s1 fun _ => rfl
theorem g190_10 (c : rz_oc h a 12) : rg Z d rx_m190 10 L (v6 :: v5 :: v4 :: v3 :: v2 :: v1 :: .ref a :: []) (rz_mk h ι, w) = rz_k true (rz_f Z d 188 [.ref a, v1, v2, v3, v4, v5, v6] (rz_mk h ι, w)) (fun v σ' => rg Z d rx_m190 13 L (v.toList ++ []) σ') := rz_cv (pc := 10) (n := 6) (mi := 188) (S := v6 :: v5 :: v4 :: v3 :: v2 :: v1 :: .ref a :: []) (rest := []) rfl rfl (Nat.le_of_ble_eq_true rfl) (Nat.le_of_ble_eq_true rfl) c
theorem g190_13 : rg Z d rx_m190 13 [l0, l1, l2, l3, l4, l5, some (.int z), l7] (.int x :: S) (rz_mk h ι, w) = rg Z d rx_m190 15 [l0, l1, l2, l3, l4, l5, some (.int z), some (.int x)] S (rz_mk h ι, w) := rz_s1 fun _ => rfl
theorem g190_15 : rg Z d rx_m190 15 [l0, l1, l2, l3, l4, l5, l6, some (.int x)] S (rz_mk h ι, w) = rg Z d rx_m190 17 [l0, l1, l2, l3, l4, l5, l6, some (.int x)] (.int x :: S) (rz_mk h ι, w) := rz_s1 fun _ => rfl
theorem g190_17 : rg Z d rx_m190 17 L (.int x :: S) (rz_mk h ι, w) = if x = 0 then rg Z d rx_m190 24 L S (rz_mk h ι, w) else rg Z d rx_m190 20 L S (rz_mk h ι, w) := rz_if1 (pc := 17) (t := 24) (off := 7) (cc := .eq) (by decide) rfl
theorem g190_20 : rg Z d rx_m190 20 [some (.ref a), l1, l2, l3, l4, l5, l6, l7] S (rz_mk h ι, w) = rg Z d rx_m190 21 [some (.ref a), l1, l2, l3, l4, l5, l6, l7] (.ref a :: S) (rz_mk h ι, w) := rz_s1 fun _ => rfl
theorem g190_21 (c : rz_oc h a 12) : rg Z d rx_m190 21 L (.ref a :: []) (rz_mk h ι, w) = rz_k true (rz_f Z d 189 [.ref a] (rz_mk h ι, w)) (fun v σ' => rg Z d rx_m190 24 L (v.toList ++ []) σ') := rz_cv (pc := 21) (n := 0) (mi := 189) (S := .ref a :: []) (rest := []) rfl rfl (Nat.le_of_ble_eq_true rfl) (Nat.le_of_ble_eq_true rfl) c
theorem g190_24 : rg Z d rx_m190 24 [l0, l1, l2, l3, l4, l5, l6, some (.int x)] S (rz_mk h ι, w) = rg Z d rx_m190 26 [l0, l1, l2, l3, l4, l5, l6, some (.int x)] (.int x :: S) (rz_mk h ι, w) := rz_s1 fun _ => rfl
theorem g190_26 (c : narrow .boolean (.int x) = .int x) : rg Z d rx_m190 26 L [.int x] (rz_mk h ι, w) = some (.inl (some (.int x)), (rz_mk h ι, w)) := rz_reti rfl rfl c
theorem e190 : rz_f Z (d + 1) 190 [.ref t0, .int s1, .int s2, .int s3, .int s4, .int s5, .int s6] σ = rg Z d rx_m190 0 [some (.ref t0), some (.int s1), some (.int s2), some (.int s3), some (.int s4), some (.int s5), some (.int s6), none] [] σ := rz_f_eq rfl (Nat.le_of_ble_eq_true rfl)
theorem g191_0 : rg Z d rx_m191 0 [some (.ref a), l1] S (rz_mk h ι, w) = rg Z d rx_m191 1 [some (.ref a), l1] (.ref a :: S) (rz_mk h ι, w) := rz_s1 fun _ => rfl
theorem g191_1 (c : rz_fI h a 12 5) : rg Z d rx_m191 1 L (.ref a :: S) (rz_mk h ι, w) = rg Z d rx_m191 4 L (.int (ι a 5) :: S) (rz_mk h ι, w) := rz_gI rfl (by decide) c
theorem g191_4 : rg Z d rx_m191 4 L (.int x :: S) (rz_mk h ι, w) = if x = 0 then rg Z d rx_m191 8 L S (rz_mk h ι, w) else rg Z d rx_m191 7 L S (rz_mk h ι, w) := rz_if1 (pc := 4) (t := 8) (off := 4) (cc := .eq) (by decide) rfl
theorem g191_7 : rg Z d rx_m191 7 L [] (rz_mk h ι, w) = some (.inl none, (rz_mk h ι, w)) := rz_r1 fun _ => rfl
theorem g191_8 : rg Z d rx_m191 8 [some (.ref a), l1] S (rz_mk h ι, w) = rg Z d rx_m191 9 [some (.ref a), l1] (.ref a :: S) (rz_mk h ι, w) := rz_s1 fun _ => rfl
theorem g191_9 (c : rz_oc h a 12) : rg Z d rx_m191 9 L (.ref a :: []) (rz_mk h ι, w) = rz_k true (rz_f Z d 181 [.ref a] (rz_mk h ι, w)) (fun v σ' => rg Z d rx_m191 12 L (v.toList ++ []) σ') := rz_cv (pc := 9) (n := 0) (mi := 181) (S := .ref a :: []) (rest := []) rfl rfl (Nat.le_of_ble_eq_true rfl) (Nat.le_of_ble_eq_true rfl) c
theorem g191_12 : rg Z d rx_m191 12 [some (.ref a), l1] S (rz_mk h ι, w) = rg Z d rx_m191 13 [some (.ref a), l1] (.ref a :: S) (rz_mk h ι, w) := rz_s1 fun _ => rfl
theorem g191_13 : rg Z d rx_m191 13 [some (.ref a), l1] S (rz_mk h ι, w) = rg Z d rx_m191 14 [some (.ref a), l1] (.ref a :: S) (rz_mk h ι, w) := rz_s1 fun _ => rfl
theorem g191_14 (c : rz_fI h a 12 4) : rg Z d rx_m191 14 L (.ref a :: S) (rz_mk h ι, w) = rg Z d rx_m191 17 L (.int (ι a 4) :: S) (rz_mk h ι, w) := rz_gI rfl (by decide) c
theorem g191_17 (c : rz_oc h a 12) : rg Z d rx_m191 17 L (v1 :: .ref a :: []) (rz_mk h ι, w) = rz_k true (rz_f Z d 180 [.ref a, v1] (rz_mk h ι, w)) (fun v σ' => rg Z d rx_m191 20 L (v.toList ++ []) σ') := rz_cv (pc := 17) (n := 1) (mi := 180) (S := v1 :: .ref a :: []) (rest := []) rfl rfl (Nat.le_of_ble_eq_true rfl) (Nat.le_of_ble_eq_true rfl) c
theorem g191_20 : rg Z d rx_m191 20 [l0, some (.int x)] S (rz_mk h ι, w) = rg Z d rx_m191 21 [l0, some (.int x)] (.int x :: S) (rz_mk h ι, w) := rz_s1 fun _ => rfl
theorem g191_21 : rg Z d rx_m191 21 L (.int y :: .int x :: S) (rz_mk h ι, w) = if x = y then rg Z d rx_m191 24 L S (rz_mk h ι, w) else rg Z d rx_m191 37 L S (rz_mk h ι, w) := rz_if2 (pc := 21) (t := 37) (off := 16) (cc := .ne) (by decide) rfl
theorem g191_24 : rg Z d rx_m191 24 [some (.ref a), l1] S (rz_mk h ι, w) = rg Z d rx_m191 25 [some (.ref a), l1] (.ref a :: S) (rz_mk h ι, w) := rz_s1 fun _ => rfl
theorem g191_25 : rg Z d rx_m191 25 L (.ref a :: S) (rz_mk h ι, w) = rg Z d rx_m191 26 L (.ref a :: .ref a :: S) (rz_mk h ι, w) := rz_s1 fun _ => rfl
theorem g191_26 (c : rz_fI h a 12 4) : rg Z d rx_m191 26 L (.ref a :: S) (rz_mk h ι, w) = rg Z d rx_m191 29 L (.int (ι a 4) :: S) (rz_mk h ι, w) := rz_gI rfl (by decide) c
theorem g191_29 : rg Z d rx_m191 29 L S (rz_mk h ι, w) = rg Z d rx_m191 30 L (.int 1 :: S) (rz_mk h ι, w) := rz_s1 fun _ => rfl
theorem g191_30 : rg Z d rx_m191 30 L (.int y :: .int x :: S) (rz_mk h ι, w) = rg Z d rx_m191 31 L (.int (x + y) :: S) (rz_mk h ι, w) := rz_s1 fun _ => rfl
theorem g191_31 (c : rz_fI h a 12 4) (hz : Z.2.1 ≤ a) : rg Z d rx_m191 31 L (.int x :: .ref a :: S) (rz_mk h ι, w) = rg Z d rx_m191 34 L S (rz_mk h (rz_up ι a 4 x), w) := rz_pI rfl c hz
theorem g191_34 : rg Z d rx_m191 34 L S (rz_mk h ι, w) = rg Z d rx_m191 46 L S (rz_mk h ι, w) := rz_s1 fun _ => rfl
theorem g191_37 : rg Z d rx_m191 37 [some (.ref a), l1] S (rz_mk h ι, w) = rg Z d rx_m191 38 [some (.ref a), l1] (.ref a :: S) (rz_mk h ι, w) := rz_s1 fun _ => rfl
theorem g191_38 : rg Z d rx_m191 38 L S (rz_mk h ι, w) = rg Z d rx_m191 39 L (.int 1 :: S) (rz_mk h ι, w) := rz_s1 fun _ => rfl
theorem g191_39 : rg Z d rx_m191 39 [some (.ref a), l1] S (rz_mk h ι, w) = rg Z d rx_m191 40 [some (.ref a), l1] (.ref a :: S) (rz_mk h ι, w) := rz_s1 fun _ => rfl
theorem g191_40 (c : rz_fI h a 12 4) : rg Z d rx_m191 40 L (.ref a :: S) (rz_mk h ι, w) = rg Z d rx_m191 43 L (.int (ι a 4) :: S) (rz_mk h ι, w) := rz_gI rfl (by decide) c
theorem g191_43 (c : rz_oc h a 12) : rg Z d rx_m191 43 L (v2 :: v1 :: .ref a :: []) (rz_mk h ι, w) = rz_k true (rz_f Z d 182 [.ref a, v1, v2] (rz_mk h ι, w)) (fun v σ' => rg Z d rx_m191 46 L (v.toList ++ []) σ') := rz_cv (pc := 43) (n := 2) (mi := 182) (S := v2 :: v1 :: .ref a :: []) (rest := []) rfl rfl (Nat.le_of_ble_eq_true rfl) (Nat.le_of_ble_eq_true rfl) c
theorem g191_46 : rg Z d rx_m191 46 L [] (rz_mk h ι, w) = some (.inl none, (rz_mk h ι, w)) := rz_r1 fun _ => rfl
theorem e191 : rz_f Z (d + 1) 191 [.ref t0, .int s1] σ = rg Z d rx_m191 0 [some (.ref t0), some (.int s1)] [] σ := rz_f_eq rfl (Nat.le_of_ble_eq_true rfl)
theorem g192_0 : rg Z d rx_m192 0 [some (.ref a), l1, l2] S (rz_mk h ι, w) = rg Z d rx_m192 1 [some (.ref a), l1, l2] (.ref a :: S) (rz_mk h ι, w) := rz_s1 fun _ => rfl
theorem g192_1 (c : rz_fI h a 12 5) : rg Z d rx_m192 1 L (.ref a :: S) (rz_mk h ι, w) = rg Z d rx_m192 4 L (.int (ι a 5) :: S) (rz_mk h ι, w) := rz_gI rfl (by decide) c
theorem g192_4 : rg Z d rx_m192 4 L (.int x :: S) (rz_mk h ι, w) = if x = 0 then rg Z d rx_m192 9 L S (rz_mk h ι, w) else rg Z d rx_m192 7 L S (rz_mk h ι, w) := rz_if1 (pc := 4) (t := 9) (off := 5) (cc := .eq) (by decide) rfl
theorem g192_7 : rg Z d rx_m192 7 L S (rz_mk h ι, w) = rg Z d rx_m192 8 L (.int 0 :: S) (rz_mk h ι, w) := rz_s1 fun _ => rfl
theorem g192_8 (c : narrow .boolean (.int x) = .int x) : rg Z d rx_m192 8 L [.int x] (rz_mk h ι, w) = some (.inl (some (.int x)), (rz_mk h ι, w)) := rz_reti rfl rfl c
theorem g192_9 : rg Z d rx_m192 9 [some (.ref a), l1, l2] S (rz_mk h ι, w) = rg Z d rx_m192 10 [some (.ref a), l1, l2] (.ref a :: S) (rz_mk h ι, w) := rz_s1 fun _ => rfl
theorem g192_10 (c : rz_oc h a 12) : rg Z d rx_m192 10 L (.ref a :: []) (rz_mk h ι, w) = rz_k true (rz_f Z d 181 [.ref a] (rz_mk h ι, w)) (fun v σ' => rg Z d rx_m192 13 L (v.toList ++ []) σ') := rz_cv (pc := 10) (n := 0) (mi := 181) (S := .ref a :: []) (rest := []) rfl rfl (Nat.le_of_ble_eq_true rfl) (Nat.le_of_ble_eq_true rfl) c
theorem g192_13 : rg Z d rx_m192 13 [some (.ref a), l1, l2] S (rz_mk h ι, w) = rg Z d rx_m192 14 [some (.ref a), l1, l2] (.ref a :: S) (rz_mk h ι, w) := rz_s1 fun _ => rfl
theorem g192_14 : rg Z d rx_m192 14 [some (.ref a), l1, l2] S (rz_mk h ι, w) = rg Z d rx_m192 15 [some (.ref a), l1, l2] (.ref a :: S) (rz_mk h ι, w) := rz_s1 fun _ => rfl
theorem g192_15 (c : rz_fI h a 12 4) : rg Z d rx_m192 15 L (.ref a :: S) (rz_mk h ι, w) = rg Z d rx_m192 18 L (.int (ι a 4) :: S) (rz_mk h ι, w) := rz_gI rfl (by decide) c
theorem g192_18 (c : rz_oc h a 12) : rg Z d rx_m192 18 L (v1 :: .ref a :: []) (rz_mk h ι, w) = rz_k true (rz_f Z d 180 [.ref a, v1] (rz_mk h ι, w)) (fun v σ' => rg Z d rx_m192 21 L (v.toList ++ []) σ') := rz_cv (pc := 18) (n := 1) (mi := 180) (S := v1 :: .ref a :: []) (rest := []) rfl rfl (Nat.le_of_ble_eq_true rfl) (Nat.le_of_ble_eq_true rfl) c
theorem g192_21 : rg Z d rx_m192 21 [l0, some (.int x), l2] S (rz_mk h ι, w) = rg Z d rx_m192 22 [l0, some (.int x), l2] (.int x :: S) (rz_mk h ι, w) := rz_s1 fun _ => rfl
theorem g192_22 : rg Z d rx_m192 22 L (.int y :: .int x :: S) (rz_mk h ι, w) = if x = y then rg Z d rx_m192 25 L S (rz_mk h ι, w) else rg Z d rx_m192 29 L S (rz_mk h ι, w) := rz_if2 (pc := 22) (t := 29) (off := 7) (cc := .ne) (by decide) rfl
theorem g192_25 : rg Z d rx_m192 25 L S (rz_mk h ι, w) = rg Z d rx_m192 26 L (.int 1 :: S) (rz_mk h ι, w) := rz_s1 fun _ => rfl
theorem g192_26 : rg Z d rx_m192 26 L S (rz_mk h ι, w) = rg Z d rx_m192 30 L S (rz_mk h ι, w) := rz_s1 fun _ => rfl
theorem g192_29 : rg Z d rx_m192 29 L S (rz_mk h ι, w) = rg Z d rx_m192 30 L (.int 0 :: S) (rz_mk h ι, w) := rz_s1 fun _ => rfl
theorem g192_30 : rg Z d rx_m192 30 [l0, some (.int z), l2] (.int x :: S) (rz_mk h ι, w) = rg Z d rx_m192 31 [l0, some (.int z), some (.int x)] S (rz_mk h ι, w) := rz_s1 fun _ => rfl
theorem g192_31 : rg Z d rx_m192 31 [l0, l1, some (.int x)] S (rz_mk h ι, w) = rg Z d rx_m192 32 [l0, l1, some (.int x)] (.int x :: S) (rz_mk h ι, w) := rz_s1 fun _ => rfl
theorem g192_32 : rg Z d rx_m192 32 L (.int x :: S) (rz_mk h ι, w) = if x = 0 then rg Z d rx_m192 45 L S (rz_mk h ι, w) else rg Z d rx_m192 35 L S (rz_mk h ι, w) := rz_if1 (pc := 32) (t := 45) (off := 13) (cc := .eq) (by decide) rfl
theorem g192_35 : rg Z d rx_m192 35 [some (.ref a), l1, l2] S (rz_mk h ι, w) = rg Z d rx_m192 36 [some (.ref a), l1, l2] (.ref a :: S) (rz_mk h ι, w) := rz_s1 fun _ => rfl
theorem g192_36 : rg Z d rx_m192 36 L (.ref a :: S) (rz_mk h ι, w) = rg Z d rx_m192 37 L (.ref a :: .ref a :: S) (rz_mk h ι, w) := rz_s1 fun _ => rfl
theorem g192_37 (c : rz_fI h a 12 4) : rg Z d rx_m192 37 L (.ref a :: S) (rz_mk h ι, w) = rg Z d rx_m192 40 L (.int (ι a 4) :: S) (rz_mk h ι, w) := rz_gI rfl (by decide) c
theorem g192_40 : rg Z d rx_m192 40 L S (rz_mk h ι, w) = rg Z d rx_m192 41 L (.int 1 :: S) (rz_mk h ι, w) := rz_s1 fun _ => rfl
theorem g192_41 : rg Z d rx_m192 41 L (.int y :: .int x :: S) (rz_mk h ι, w) = rg Z d rx_m192 42 L (.int (x + y) :: S) (rz_mk h ι, w) := rz_s1 fun _ => rfl
theorem g192_42 (c : rz_fI h a 12 4) (hz : Z.2.1 ≤ a) : rg Z d rx_m192 42 L (.int x :: .ref a :: S) (rz_mk h ι, w) = rg Z d rx_m192 45 L S (rz_mk h (rz_up ι a 4 x), w) := rz_pI rfl c hz
theorem g192_45 : rg Z d rx_m192 45 [l0, l1, some (.int x)] S (rz_mk h ι, w) = rg Z d rx_m192 46 [l0, l1, some (.int x)] (.int x :: S) (rz_mk h ι, w) := rz_s1 fun _ => rfl
theorem g192_46 (c : narrow .boolean (.int x) = .int x) : rg Z d rx_m192 46 L [.int x] (rz_mk h ι, w) = some (.inl (some (.int x)), (rz_mk h ι, w)) := rz_reti rfl rfl c
theorem e192 : rz_f Z (d + 1) 192 [.ref t0, .int s1] σ = rg Z d rx_m192 0 [some (.ref t0), some (.int s1), none] [] σ := rz_f_eq rfl (Nat.le_of_ble_eq_true rfl)
theorem g193_0 : rg Z d rx_m193 0 [some (.ref a), l1] S (rz_mk h ι, w) = rg Z d rx_m193 1 [some (.ref a), l1] (.ref a :: S) (rz_mk h ι, w) := rz_s1 fun _ => rfl
theorem g193_1 : rg Z d rx_m193 1 L S (rz_mk h ι, w) = rg Z d rx_m193 2 L (.int 0 :: S) (rz_mk h ι, w) := rz_s1 fun _ => rfl
theorem g193_2 (c : rz_fI h a 12 1) (hz : Z.2.1 ≤ a) : rg Z d rx_m193 2 L (.int x :: .ref a :: S) (rz_mk h ι, w) = rg Z d rx_m193 5 L S (rz_mk h (rz_up ι a 1 x), w) := rz_pI rfl c hz
theorem g193_5 : rg Z d rx_m193 5 [some (.ref a), l1] S (rz_mk h ι, w) = rg Z d rx_m193 6 [some (.ref a), l1] (.ref a :: S) (rz_mk h ι, w) := rz_s1 fun _ => rfl
theorem g193_6 : rg Z d rx_m193 6 [l0, some (.int x)] S (rz_mk h ι, w) = rg Z d rx_m193 7 [l0, some (.int x)] (.int x :: S) (rz_mk h ι, w) := rz_s1 fun _ => rfl
theorem g193_7 (c : rz_fI h a 12 2) (hz : Z.2.1 ≤ a) : rg Z d rx_m193 7 L (.int x :: .ref a :: S) (rz_mk h ι, w) = rg Z d rx_m193 10 L S (rz_mk h (rz_up ι a 2 x), w) := rz_pI rfl c hz
theorem g193_10 : rg Z d rx_m193 10 [some (.ref a), l1] S (rz_mk h ι, w) = rg Z d rx_m193 11 [some (.ref a), l1] (.ref a :: S) (rz_mk h ι, w) := rz_s1 fun _ => rfl
theorem g193_11 : rg Z d rx_m193 11 L S (rz_mk h ι, w) = rg Z d rx_m193 12 L (.int 0 :: S) (rz_mk h ι, w) := rz_s1 fun _ => rfl
theorem g193_12 (c : rz_fI h a 12 4) (hz : Z.2.1 ≤ a) : rg Z d rx_m193 12 L (.int x :: .ref a :: S) (rz_mk h ι, w) = rg Z d rx_m193 15 L S (rz_mk h (rz_up ι a 4 x), w) := rz_pI rfl c hz
theorem g193_15 : rg Z d rx_m193 15 [some (.ref a), l1] S (rz_mk h ι, w) = rg Z d rx_m193 16 [some (.ref a), l1] (.ref a :: S) (rz_mk h ι, w) := rz_s1 fun _ => rfl
theorem g193_16 : rg Z d rx_m193 16 L S (rz_mk h ι, w) = rg Z d rx_m193 17 L (.int 0 :: S) (rz_mk h ι, w) := rz_s1 fun _ => rfl
theorem g193_17 (c : rz_fI h a 12 5) (hz : Z.2.1 ≤ a) : rg Z d rx_m193 17 L (.int x :: .ref a :: S) (rz_mk h ι, w) = rg Z d rx_m193 20 L S (rz_mk h (rz_up ι a 5 x), w) := rz_pI rfl c hz
theorem g193_20 : rg Z d rx_m193 20 [some (.ref a), l1] S (rz_mk h ι, w) = rg Z d rx_m193 21 [some (.ref a), l1] (.ref a :: S) (rz_mk h ι, w) := rz_s1 fun _ => rfl
theorem g193_21 : rg Z d rx_m193 21 L S (rz_mk h ι, w) = rg Z d rx_m193 22 L (.int (-1) :: S) (rz_mk h ι, w) := rz_s1 fun _ => rfl
theorem g193_22 (c : rz_fI h a 12 6) (hz : Z.2.1 ≤ a) : rg Z d rx_m193 22 L (.int x :: .ref a :: S) (rz_mk h ι, w) = rg Z d rx_m193 25 L S (rz_mk h (rz_up ι a 6 x), w) := rz_pI rfl c hz
theorem g193_25 : rg Z d rx_m193 25 [some (.ref a), l1] S (rz_mk h ι, w) = rg Z d rx_m193 26 [some (.ref a), l1] (.ref a :: S) (rz_mk h ι, w) := rz_s1 fun _ => rfl
theorem g193_26 : rg Z d rx_m193 26 L S (rz_mk h ι, w) = rg Z d rx_m193 27 L (.int 0 :: S) (rz_mk h ι, w) := rz_s1 fun _ => rfl
theorem g193_27 (c : rz_fI h a 12 7) (hz : Z.2.1 ≤ a) : rg Z d rx_m193 27 L (.int x :: .ref a :: S) (rz_mk h ι, w) = rg Z d rx_m193 30 L S (rz_mk h (rz_up ι a 7 x), w) := rz_pI rfl c hz
theorem g193_30 : rg Z d rx_m193 30 [some (.ref a), l1] S (rz_mk h ι, w) = rg Z d rx_m193 31 [some (.ref a), l1] (.ref a :: S) (rz_mk h ι, w) := rz_s1 fun _ => rfl
theorem g193_31 : rg Z d rx_m193 31 L S (rz_mk h ι, w) = rg Z d rx_m193 32 L (.int 0 :: S) (rz_mk h ι, w) := rz_s1 fun _ => rfl
theorem g193_32 (c : rz_fI h a 12 8) (hz : Z.2.1 ≤ a) : rg Z d rx_m193 32 L (.int x :: .ref a :: S) (rz_mk h ι, w) = rg Z d rx_m193 35 L S (rz_mk h (rz_up ι a 8 x), w) := rz_pI rfl c hz
theorem g193_35 : rg Z d rx_m193 35 [some (.ref a), l1] S (rz_mk h ι, w) = rg Z d rx_m193 36 [some (.ref a), l1] (.ref a :: S) (rz_mk h ι, w) := rz_s1 fun _ => rfl
theorem g193_36 (c : rz_oc h a 12) : rg Z d rx_m193 36 L (.ref a :: []) (rz_mk h ι, w) = rz_k true (rz_f Z d 181 [.ref a] (rz_mk h ι, w)) (fun v σ' => rg Z d rx_m193 39 L (v.toList ++ []) σ') := rz_cv (pc := 36) (n := 0) (mi := 181) (S := .ref a :: []) (rest := []) rfl rfl (Nat.le_of_ble_eq_true rfl) (Nat.le_of_ble_eq_true rfl) c
theorem g193_39 : rg Z d rx_m193 39 L [] (rz_mk h ι, w) = some (.inl none, (rz_mk h ι, w)) := rz_r1 fun _ => rfl
theorem e193 : rz_f Z (d + 1) 193 [.ref t0, .int s1] σ = rg Z d rx_m193 0 [some (.ref t0), some (.int s1)] [] σ := rz_f_eq rfl (Nat.le_of_ble_eq_true rfl)
theorem g194_0 : rg Z d rx_m194 0 [some (.ref a)] S (rz_mk h ι, w) = rg Z d rx_m194 1 [some (.ref a)] (.ref a :: S) (rz_mk h ι, w) := rz_s1 fun _ => rfl
theorem g194_1 : rg Z d rx_m194 1 [some (.ref a)] S (rz_mk h ι, w) = rg Z d rx_m194 2 [some (.ref a)] (.ref a :: S) (rz_mk h ι, w) := rz_s1 fun _ => rfl
theorem g194_2 (c : rz_fI h a 12 6) : rg Z d rx_m194 2 L (.ref a :: S) (rz_mk h ι, w) = rg Z d rx_m194 5 L (.int (ι a 6) :: S) (rz_mk h ι, w) := rz_gI rfl (by decide) c
theorem g194_5 (c : rz_fI h a 12 3) (hz : Z.2.1 ≤ a) : rg Z d rx_m194 5 L (.int x :: .ref a :: S) (rz_mk h ι, w) = rg Z d rx_m194 8 L S (rz_mk h (rz_up ι a 3 x), w) := rz_pI rfl c hz
theorem g194_8 : rg Z d rx_m194 8 [some (.ref a)] S (rz_mk h ι, w) = rg Z d rx_m194 9 [some (.ref a)] (.ref a :: S) (rz_mk h ι, w) := rz_s1 fun _ => rfl
theorem g194_9 (c : rz_fI h a 12 5) : rg Z d rx_m194 9 L (.ref a :: S) (rz_mk h ι, w) = rg Z d rx_m194 12 L (.int (ι a 5) :: S) (rz_mk h ι, w) := rz_gI rfl (by decide) c
theorem g194_12 : rg Z d rx_m194 12 L S (rz_mk h ι, w) = rg Z d rx_m194 14 L (.int 10 :: S) (rz_mk h ι, w) := rz_s1 fun _ => rfl
theorem g194_14 : rg Z d rx_m194 14 L (.int y :: .int x :: S) (rz_mk h ι, w) = rg Z d rx_m194 15 L (.int (x - y) :: S) (rz_mk h ι, w) := rz_s1 fun _ => rfl
theorem g194_15 : rg Z d rx_m194 15 L [.int x] (rz_mk h ι, w) = some (.inl (some (.int x)), (rz_mk h ι, w)) := rz_reti rfl rfl rfl
theorem e194 : rz_f Z (d + 1) 194 [.ref t0] σ = rg Z d rx_m194 0 [some (.ref t0)] [] σ := rz_f_eq rfl (Nat.le_of_ble_eq_true rfl)
theorem g195_0 : rg Z d rx_m195 0 [some (.ref a)] S (rz_mk h ι, w) = rg Z d rx_m195 1 [some (.ref a)] (.ref a :: S) (rz_mk h ι, w) := rz_s1 fun _ => rfl
theorem g195_1 : rg Z d rx_m195 1 L S (rz_mk h ι, w) = rg Z d rx_m195 3 L (.int 16 :: S) (rz_mk h ι, w) := rz_s1 fun _ => rfl
theorem g195_3 : rg Z d rx_m195 3 L S (rz_mk h ι, w) = rg Z d rx_m195 4 L (.int 5 :: S) (rz_mk h ι, w) := rz_s1 fun _ => rfl
theorem g195_4 : rg Z d rx_m195 4 L S (rz_mk h ι, w) = rg Z d rx_m195 6 L (.int 18 :: S) (rz_mk h ι, w) := rz_s1 fun _ => rfl
theorem g195_6 : rg Z d rx_m195 6 L S (rz_mk h ι, w) = rg Z d rx_m195 8 L (.int 19 :: S) (rz_mk h ι, w) := rz_s1 fun _ => rfl
theorem g195_8 : rg Z d rx_m195 8 L S (rz_mk h ι, w) = rg Z d rx_m195 10 L (.int 15 :: S) (rz_mk h ι, w) := rz_s1 fun _ => rfl
theorem g195_10 : rg Z d rx_m195 10 L S (rz_mk h ι, w) = rg Z d rx_m195 12 L (.int 14 :: S) (rz_mk h ι, w) := rz_s1 fun _ => rfl
theorem g195_12 (c : rz_oc h a 12) : rg Z d rx_m195 12 L (v6 :: v5 :: v4 :: v3 :: v2 :: v1 :: .ref a :: []) (rz_mk h ι, w) = rz_k true (rz_f Z d 188 [.ref a, v1, v2, v3, v4, v5, v6] (rz_mk h ι, w)) (fun v σ' => rg Z d rx_m195 15 L (v.toList ++ []) σ') := rz_cv (pc := 12) (n := 6) (mi := 188) (S := v6 :: v5 :: v4 :: v3 :: v2 :: v1 :: .ref a :: []) (rest := []) rfl rfl (Nat.le_of_ble_eq_true rfl) (Nat.le_of_ble_eq_true rfl) c
theorem g195_15 : rg Z d rx_m195 15 L (.int x :: S) (rz_mk h ι, w) = if x = 0 then rg Z d rx_m195 20 L S (rz_mk h ι, w) else rg Z d rx_m195 18 L S (rz_mk h ι, w) := rz_if1 (pc := 15) (t := 20) (off := 5) (cc := .eq) (by decide) rfl
theorem g195_18 : rg Z d rx_m195 18 L S (rz_mk h ι, w) = rg Z d rx_m195 19 L (.int 0 :: S) (rz_mk h ι, w) := rz_s1 fun _ => rfl
theorem g195_19 : rg Z d rx_m195 19 L [.int x] (rz_mk h ι, w) = some (.inl (some (.int x)), (rz_mk h ι, w)) := rz_reti rfl rfl rfl
theorem g195_20 : rg Z d rx_m195 20 [some (.ref a)] S (rz_mk h ι, w) = rg Z d rx_m195 21 [some (.ref a)] (.ref a :: S) (rz_mk h ι, w) := rz_s1 fun _ => rfl
theorem g195_21 : rg Z d rx_m195 21 L S (rz_mk h ι, w) = rg Z d rx_m195 22 L (.int 4 :: S) (rz_mk h ι, w) := rz_s1 fun _ => rfl
theorem g195_22 : rg Z d rx_m195 22 L S (rz_mk h ι, w) = rg Z d rx_m195 24 L (.int 21 :: S) (rz_mk h ι, w) := rz_s1 fun _ => rfl
theorem g195_24 : rg Z d rx_m195 24 L S (rz_mk h ι, w) = rg Z d rx_m195 26 L (.int 11 :: S) (rz_mk h ι, w) := rz_s1 fun _ => rfl
theorem g195_26 : rg Z d rx_m195 26 L S (rz_mk h ι, w) = rg Z d rx_m195 27 L (.int 5 :: S) (rz_mk h ι, w) := rz_s1 fun _ => rfl
theorem g195_27 : rg Z d rx_m195 27 L S (rz_mk h ι, w) = rg Z d rx_m195 28 L (.int 0 :: S) (rz_mk h ι, w) := rz_s1 fun _ => rfl
theorem g195_28 : rg Z d rx_m195 28 L S (rz_mk h ι, w) = rg Z d rx_m195 29 L (.int 0 :: S) (rz_mk h ι, w) := rz_s1 fun _ => rfl
theorem g195_29 (c : rz_oc h a 12) : rg Z d rx_m195 29 L (v6 :: v5 :: v4 :: v3 :: v2 :: v1 :: .ref a :: []) (rz_mk h ι, w) = rz_k true (rz_f Z d 188 [.ref a, v1, v2, v3, v4, v5, v6] (rz_mk h ι, w)) (fun v σ' => rg Z d rx_m195 32 L (v.toList ++ []) σ') := rz_cv (pc := 29) (n := 6) (mi := 188) (S := v6 :: v5 :: v4 :: v3 :: v2 :: v1 :: .ref a :: []) (rest := []) rfl rfl (Nat.le_of_ble_eq_true rfl) (Nat.le_of_ble_eq_true rfl) c
theorem g195_32 : rg Z d rx_m195 32 L (.int x :: S) (rz_mk h ι, w) = if x = 0 then rg Z d rx_m195 37 L S (rz_mk h ι, w) else rg Z d rx_m195 35 L S (rz_mk h ι, w) := rz_if1 (pc := 32) (t := 37) (off := 5) (cc := .eq) (by decide) rfl
theorem g195_35 : rg Z d rx_m195 35 L S (rz_mk h ι, w) = rg Z d rx_m195 36 L (.int 1 :: S) (rz_mk h ι, w) := rz_s1 fun _ => rfl
theorem g195_36 : rg Z d rx_m195 36 L [.int x] (rz_mk h ι, w) = some (.inl (some (.int x)), (rz_mk h ι, w)) := rz_reti rfl rfl rfl
theorem g195_37 : rg Z d rx_m195 37 [some (.ref a)] S (rz_mk h ι, w) = rg Z d rx_m195 38 [some (.ref a)] (.ref a :: S) (rz_mk h ι, w) := rz_s1 fun _ => rfl
theorem g195_38 : rg Z d rx_m195 38 L S (rz_mk h ι, w) = rg Z d rx_m195 40 L (.int 12 :: S) (rz_mk h ι, w) := rz_s1 fun _ => rfl
theorem g195_40 : rg Z d rx_m195 40 L S (rz_mk h ι, w) = rg Z d rx_m195 41 L (.int 1 :: S) (rz_mk h ι, w) := rz_s1 fun _ => rfl
theorem g195_41 : rg Z d rx_m195 41 L S (rz_mk h ι, w) = rg Z d rx_m195 43 L (.int 14 :: S) (rz_mk h ι, w) := rz_s1 fun _ => rfl
theorem g195_43 : rg Z d rx_m195 43 L S (rz_mk h ι, w) = rg Z d rx_m195 44 L (.int 4 :: S) (rz_mk h ι, w) := rz_s1 fun _ => rfl
theorem g195_44 : rg Z d rx_m195 44 L S (rz_mk h ι, w) = rg Z d rx_m195 45 L (.int 0 :: S) (rz_mk h ι, w) := rz_s1 fun _ => rfl
theorem g195_45 : rg Z d rx_m195 45 L S (rz_mk h ι, w) = rg Z d rx_m195 46 L (.int 0 :: S) (rz_mk h ι, w) := rz_s1 fun _ => rfl
theorem g195_46 (c : rz_oc h a 12) : rg Z d rx_m195 46 L (v6 :: v5 :: v4 :: v3 :: v2 :: v1 :: .ref a :: []) (rz_mk h ι, w) = rz_k true (rz_f Z d 188 [.ref a, v1, v2, v3, v4, v5, v6] (rz_mk h ι, w)) (fun v σ' => rg Z d rx_m195 49 L (v.toList ++ []) σ') := rz_cv (pc := 46) (n := 6) (mi := 188) (S := v6 :: v5 :: v4 :: v3 :: v2 :: v1 :: .ref a :: []) (rest := []) rfl rfl (Nat.le_of_ble_eq_true rfl) (Nat.le_of_ble_eq_true rfl) c
theorem g195_49 : rg Z d rx_m195 49 L (.int x :: S) (rz_mk h ι, w) = if x = 0 then rg Z d rx_m195 56 L S (rz_mk h ι, w) else rg Z d rx_m195 52 L S (rz_mk h ι, w) := rz_if1 (pc := 49) (t := 56) (off := 7) (cc := .eq) (by decide) rfl
theorem g195_52 : rg Z d rx_m195 52 L S (rz_mk h ι, w) = rg Z d rx_m195 53 L (.int 2 :: S) (rz_mk h ι, w) := rz_s1 fun _ => rfl
theorem g195_53 : rg Z d rx_m195 53 L S (rz_mk h ι, w) = rg Z d rx_m195 57 L S (rz_mk h ι, w) := rz_s1 fun _ => rfl
theorem g195_56 : rg Z d rx_m195 56 L S (rz_mk h ι, w) = rg Z d rx_m195 57 L (.int (-1) :: S) (rz_mk h ι, w) := rz_s1 fun _ => rfl
theorem g195_57 : rg Z d rx_m195 57 L [.int x] (rz_mk h ι, w) = some (.inl (some (.int x)), (rz_mk h ι, w)) := rz_reti rfl rfl rfl
theorem e195 : rz_f Z (d + 1) 195 [.ref t0] σ = rg Z d rx_m195 0 [some (.ref t0)] [] σ := rz_f_eq rfl (Nat.le_of_ble_eq_true rfl)
theorem g196_0 : rg Z d rx_m196 0 [some (.ref a), l1, l2] S (rz_mk h ι, w) = rg Z d rx_m196 1 [some (.ref a), l1, l2] (.ref a :: S) (rz_mk h ι, w) := rz_s1 fun _ => rfl
theorem g196_1 (c : rz_oc h a 12) : rg Z d rx_m196 1 L (.ref a :: []) (rz_mk h ι, w) = rz_k true (rz_f Z d 195 [.ref a] (rz_mk h ι, w)) (fun v σ' => rg Z d rx_m196 4 L (v.toList ++ []) σ') := rz_cv (pc := 1) (n := 0) (mi := 195) (S := .ref a :: []) (rest := []) rfl rfl (Nat.le_of_ble_eq_true rfl) (Nat.le_of_ble_eq_true rfl) c
theorem g196_4 : rg Z d rx_m196 4 [some (.ref b), l1, l2] (.int x :: S) (rz_mk h ι, w) = rg Z d rx_m196 5 [some (.ref b), some (.int x), l2] S (rz_mk h ι, w) := rz_s1 fun _ => rfl
theorem g196_5 : rg Z d rx_m196 5 [l0, some (.int x), l2] S (rz_mk h ι, w) = rg Z d rx_m196 6 [l0, some (.int x), l2] (.int x :: S) (rz_mk h ι, w) := rz_s1 fun _ => rfl
theorem g196_6 : rg Z d rx_m196 6 L S (rz_mk h ι, w) = rg Z d rx_m196 7 L (.int (-1) :: S) (rz_mk h ι, w) := rz_s1 fun _ => rfl
theorem g196_7 : rg Z d rx_m196 7 L (.int y :: .int x :: S) (rz_mk h ι, w) = if x = y then rg Z d rx_m196 10 L S (rz_mk h ι, w) else rg Z d rx_m196 22 L S (rz_mk h ι, w) := rz_if2 (pc := 7) (t := 22) (off := 15) (cc := .ne) (by decide) rfl
theorem g196_10 : rg Z d rx_m196 10 [some (.ref a), l1, l2] S (rz_mk h ι, w) = rg Z d rx_m196 11 [some (.ref a), l1, l2] (.ref a :: S) (rz_mk h ι, w) := rz_s1 fun _ => rfl
theorem g196_11 : rg Z d rx_m196 11 L S (rz_mk h ι, w) = rg Z d rx_m196 12 L (.int 1 :: S) (rz_mk h ι, w) := rz_s1 fun _ => rfl
theorem g196_12 : rg Z d rx_m196 12 [some (.ref a), l1, l2] S (rz_mk h ι, w) = rg Z d rx_m196 13 [some (.ref a), l1, l2] (.ref a :: S) (rz_mk h ι, w) := rz_s1 fun _ => rfl
theorem g196_13 (c : rz_fI h a 12 4) : rg Z d rx_m196 13 L (.ref a :: S) (rz_mk h ι, w) = rg Z d rx_m196 16 L (.int (ι a 4) :: S) (rz_mk h ι, w) := rz_gI rfl (by decide) c
theorem g196_16 (c : rz_oc h a 12) : rg Z d rx_m196 16 L (v2 :: v1 :: .ref a :: []) (rz_mk h ι, w) = rz_k true (rz_f Z d 182 [.ref a, v1, v2] (rz_mk h ι, w)) (fun v σ' => rg Z d rx_m196 19 L (v.toList ++ []) σ') := rz_cv (pc := 16) (n := 2) (mi := 182) (S := v2 :: v1 :: .ref a :: []) (rest := []) rfl rfl (Nat.le_of_ble_eq_true rfl) (Nat.le_of_ble_eq_true rfl) c
theorem g196_19 : rg Z d rx_m196 19 L S (rz_mk h ι, w) = rg Z d rx_m196 55 L S (rz_mk h ι, w) := rz_s1 fun _ => rfl
theorem g196_22 : rg Z d rx_m196 22 [some (.ref a), l1, l2] S (rz_mk h ι, w) = rg Z d rx_m196 23 [some (.ref a), l1, l2] (.ref a :: S) (rz_mk h ι, w) := rz_s1 fun _ => rfl
theorem g196_23 (c : rz_fI h a 12 7) : rg Z d rx_m196 23 L (.ref a :: S) (rz_mk h ι, w) = rg Z d rx_m196 26 L (.int (ι a 7) :: S) (rz_mk h ι, w) := rz_gI rfl (by decide) c
theorem g196_26 : rg Z d rx_m196 26 L S (rz_mk h ι, w) = rg Z d rx_m196 28 L (.int 60 :: S) (rz_mk h ι, w) := rz_s1 fun _ => rfl
theorem g196_28 : rg Z d rx_m196 28 L (.int y :: .int x :: S) (rz_mk h ι, w) = if x = y then rg Z d rx_m196 46 L S (rz_mk h ι, w) else rg Z d rx_m196 31 L S (rz_mk h ι, w) := rz_if2 (pc := 28) (t := 46) (off := 18) (cc := .eq) (by decide) rfl
theorem g196_31 : rg Z d rx_m196 31 [l0, some (.int x), l2] S (rz_mk h ι, w) = rg Z d rx_m196 32 [l0, some (.int x), l2] (.int x :: S) (rz_mk h ι, w) := rz_s1 fun _ => rfl
theorem g196_32 : rg Z d rx_m196 32 L (.int x :: S) (rz_mk h ι, w) = if x = 0 then rg Z d rx_m196 35 L S (rz_mk h ι, w) else rg Z d rx_m196 55 L S (rz_mk h ι, w) := rz_if1 (pc := 32) (t := 55) (off := 23) (cc := .ne) (by decide) rfl
theorem g196_35 : rg Z d rx_m196 35 [some (.ref a), l1, l2] S (rz_mk h ι, w) = rg Z d rx_m196 36 [some (.ref a), l1, l2] (.ref a :: S) (rz_mk h ι, w) := rz_s1 fun _ => rfl
theorem g196_36 (c : rz_fR h a 12 11) : rg Z d rx_m196 36 L (.ref a :: S) (rz_mk h ι, w) = rg Z d rx_m196 39 L (rz_rv h a 11 :: S) (rz_mk h ι, w) := rz_gR rfl (by decide) c
theorem g196_39 : rg Z d rx_m196 39 L S (rz_mk h ι, w) = rg Z d rx_m196 40 L (.int 0 :: S) (rz_mk h ι, w) := rz_s1 fun _ => rfl
theorem g196_40 (c : rz_ar h a 0) (hi : rz_ix x (rz_ln h a)) : rg Z d rx_m196 40 L (.int x :: .ref a :: S) (rz_mk h ι, w) = rg Z d rx_m196 41 L (.int (ι a x.toNatClampNeg) :: S) (rz_mk h ι, w) := rz_iald rfl c hi
theorem g196_41 : rg Z d rx_m196 41 L S (rz_mk h ι, w) = rg Z d rx_m196 43 L (.int 8 :: S) (rz_mk h ι, w) := rz_s1 fun _ => rfl
theorem g196_43 : rg Z d rx_m196 43 L (.int y :: .int x :: S) (rz_mk h ι, w) = if x = y then rg Z d rx_m196 46 L S (rz_mk h ι, w) else rg Z d rx_m196 55 L S (rz_mk h ι, w) := rz_if2 (pc := 43) (t := 55) (off := 12) (cc := .ne) (by decide) rfl
theorem g196_46 : rg Z d rx_m196 46 [some (.ref a), l1, l2] S (rz_mk h ι, w) = rg Z d rx_m196 47 [some (.ref a), l1, l2] (.ref a :: S) (rz_mk h ι, w) := rz_s1 fun _ => rfl
theorem g196_47 : rg Z d rx_m196 47 L S (rz_mk h ι, w) = rg Z d rx_m196 48 L (.int 3 :: S) (rz_mk h ι, w) := rz_s1 fun _ => rfl
theorem g196_48 : rg Z d rx_m196 48 [some (.ref a), l1, l2] S (rz_mk h ι, w) = rg Z d rx_m196 49 [some (.ref a), l1, l2] (.ref a :: S) (rz_mk h ι, w) := rz_s1 fun _ => rfl
theorem g196_49 (c : rz_fI h a 12 4) : rg Z d rx_m196 49 L (.ref a :: S) (rz_mk h ι, w) = rg Z d rx_m196 52 L (.int (ι a 4) :: S) (rz_mk h ι, w) := rz_gI rfl (by decide) c
theorem g196_52 (c : rz_oc h a 12) : rg Z d rx_m196 52 L (v2 :: v1 :: .ref a :: []) (rz_mk h ι, w) = rz_k true (rz_f Z d 182 [.ref a, v1, v2] (rz_mk h ι, w)) (fun v σ' => rg Z d rx_m196 55 L (v.toList ++ []) σ') := rz_cv (pc := 52) (n := 2) (mi := 182) (S := v2 :: v1 :: .ref a :: []) (rest := []) rfl rfl (Nat.le_of_ble_eq_true rfl) (Nat.le_of_ble_eq_true rfl) c
theorem g196_55 : rg Z d rx_m196 55 [some (.ref a), l1, l2] S (rz_mk h ι, w) = rg Z d rx_m196 56 [some (.ref a), l1, l2] (.ref a :: S) (rz_mk h ι, w) := rz_s1 fun _ => rfl
theorem g196_56 (c : rz_fI h a 12 5) : rg Z d rx_m196 56 L (.ref a :: S) (rz_mk h ι, w) = rg Z d rx_m196 59 L (.int (ι a 5) :: S) (rz_mk h ι, w) := rz_gI rfl (by decide) c
theorem g196_59 : rg Z d rx_m196 59 L (.int x :: S) (rz_mk h ι, w) = if x = 0 then rg Z d rx_m196 63 L S (rz_mk h ι, w) else rg Z d rx_m196 62 L S (rz_mk h ι, w) := rz_if1 (pc := 59) (t := 63) (off := 4) (cc := .eq) (by decide) rfl
theorem g196_62 : rg Z d rx_m196 62 L [] (rz_mk h ι, w) = some (.inl none, (rz_mk h ι, w)) := rz_r1 fun _ => rfl
theorem g196_63 : rg Z d rx_m196 63 [some (.ref a), l1, l2] S (rz_mk h ι, w) = rg Z d rx_m196 64 [some (.ref a), l1, l2] (.ref a :: S) (rz_mk h ι, w) := rz_s1 fun _ => rfl
theorem g196_64 (c : rz_oc h a 12) : rg Z d rx_m196 64 L (.ref a :: []) (rz_mk h ι, w) = rz_k true (rz_f Z d 189 [.ref a] (rz_mk h ι, w)) (fun v σ' => rg Z d rx_m196 67 L (v.toList ++ []) σ') := rz_cv (pc := 64) (n := 0) (mi := 189) (S := .ref a :: []) (rest := []) rfl rfl (Nat.le_of_ble_eq_true rfl) (Nat.le_of_ble_eq_true rfl) c
theorem g196_67 : rg Z d rx_m196 67 [some (.ref a), l1, l2] S (rz_mk h ι, w) = rg Z d rx_m196 68 [some (.ref a), l1, l2] (.ref a :: S) (rz_mk h ι, w) := rz_s1 fun _ => rfl
theorem g196_68 : rg Z d rx_m196 68 L (.ref a :: S) (rz_mk h ι, w) = rg Z d rx_m196 69 L (.ref a :: .ref a :: S) (rz_mk h ι, w) := rz_s1 fun _ => rfl
theorem g196_69 (c : rz_fI h a 12 7) : rg Z d rx_m196 69 L (.ref a :: S) (rz_mk h ι, w) = rg Z d rx_m196 72 L (.int (ι a 7) :: S) (rz_mk h ι, w) := rz_gI rfl (by decide) c
theorem g196_72 : rg Z d rx_m196 72 L S (rz_mk h ι, w) = rg Z d rx_m196 73 L (.int 1 :: S) (rz_mk h ι, w) := rz_s1 fun _ => rfl
theorem g196_73 : rg Z d rx_m196 73 L (.int y :: .int x :: S) (rz_mk h ι, w) = rg Z d rx_m196 74 L (.int (x + y) :: S) (rz_mk h ι, w) := rz_s1 fun _ => rfl
theorem g196_74 (c : rz_fI h a 12 7) (hz : Z.2.1 ≤ a) : rg Z d rx_m196 74 L (.int x :: .ref a :: S) (rz_mk h ι, w) = rg Z d rx_m196 77 L S (rz_mk h (rz_up ι a 7 x), w) := rz_pI rfl c hz
theorem g196_77 : rg Z d rx_m196 77 [l0, some (.int x), l2] S (rz_mk h ι, w) = rg Z d rx_m196 78 [l0, some (.int x), l2] (.int x :: S) (rz_mk h ι, w) := rz_s1 fun _ => rfl
theorem g196_78 : rg Z d rx_m196 78 L (.int x :: S) (rz_mk h ι, w) = if x = 0 then rg Z d rx_m196 81 L S (rz_mk h ι, w) else rg Z d rx_m196 117 L S (rz_mk h ι, w) := rz_if1 (pc := 78) (t := 117) (off := 39) (cc := .ne) (by decide) rfl
theorem g196_81 : rg Z d rx_m196 81 L S (rz_mk h ι, w) = rg Z d rx_m196 82 L (.int 0 :: S) (rz_mk h ι, w) := rz_s1 fun _ => rfl
theorem g196_82 : rg Z d rx_m196 82 [l0, some (.int z), l2] (.int x :: S) (rz_mk h ι, w) = rg Z d rx_m196 83 [l0, some (.int z), some (.int x)] S (rz_mk h ι, w) := rz_s1 fun _ => rfl
theorem g196_83 : rg Z d rx_m196 83 [l0, l1, some (.int x)] S (rz_mk h ι, w) = rg Z d rx_m196 84 [l0, l1, some (.int x)] (.int x :: S) (rz_mk h ι, w) := rz_s1 fun _ => rfl
theorem g196_84 : rg Z d rx_m196 84 L S (rz_mk h ι, w) = rg Z d rx_m196 85 L (.int 3 :: S) (rz_mk h ι, w) := rz_s1 fun _ => rfl
theorem g196_85 : rg Z d rx_m196 85 L (.int y :: .int x :: S) (rz_mk h ι, w) = if x < y then rg Z d rx_m196 88 L S (rz_mk h ι, w) else rg Z d rx_m196 114 L S (rz_mk h ι, w) := rz_if2 (pc := 85) (t := 114) (off := 29) (cc := .ge) (by decide) rfl
theorem g196_88 : rg Z d rx_m196 88 [some (.ref a), l1, l2] S (rz_mk h ι, w) = rg Z d rx_m196 89 [some (.ref a), l1, l2] (.ref a :: S) (rz_mk h ι, w) := rz_s1 fun _ => rfl
theorem g196_89 (c : rz_fR h a 12 13) : rg Z d rx_m196 89 L (.ref a :: S) (rz_mk h ι, w) = rg Z d rx_m196 92 L (rz_rv h a 13 :: S) (rz_mk h ι, w) := rz_gR rfl (by decide) c
theorem g196_92 : rg Z d rx_m196 92 [some (.ref a), l1, l2] S (rz_mk h ι, w) = rg Z d rx_m196 93 [some (.ref a), l1, l2] (.ref a :: S) (rz_mk h ι, w) := rz_s1 fun _ => rfl
theorem g196_93 (c : rz_fR h a 12 11) : rg Z d rx_m196 93 L (.ref a :: S) (rz_mk h ι, w) = rg Z d rx_m196 96 L (rz_rv h a 11 :: S) (rz_mk h ι, w) := rz_gR rfl (by decide) c
theorem g196_96 : rg Z d rx_m196 96 L S (rz_mk h ι, w) = rg Z d rx_m196 97 L (.int 0 :: S) (rz_mk h ι, w) := rz_s1 fun _ => rfl
theorem g196_97 (c : rz_ar h a 0) (hi : rz_ix x (rz_ln h a)) : rg Z d rx_m196 97 L (.int x :: .ref a :: S) (rz_mk h ι, w) = rg Z d rx_m196 98 L (.int (ι a x.toNatClampNeg) :: S) (rz_mk h ι, w) := rz_iald rfl c hi
theorem g196_98 (c : rz_ar h a 3) (hi : rz_ix x (rz_ln h a)) : rg Z d rx_m196 98 L (.int x :: .ref a :: S) (rz_mk h ι, w) = rg Z d rx_m196 99 L (rz_el h a x.toNatClampNeg :: S) (rz_mk h ι, w) := rz_aald (by decide) rfl c hi
theorem g196_99 : rg Z d rx_m196 99 [l0, l1, some (.int x)] S (rz_mk h ι, w) = rg Z d rx_m196 100 [l0, l1, some (.int x)] (.int x :: S) (rz_mk h ι, w) := rz_s1 fun _ => rfl
theorem g196_100 : rg Z d rx_m196 100 [some (.ref a), l1, l2] S (rz_mk h ι, w) = rg Z d rx_m196 101 [some (.ref a), l1, l2] (.ref a :: S) (rz_mk h ι, w) := rz_s1 fun _ => rfl
theorem g196_101 : rg Z d rx_m196 101 L S (rz_mk h ι, w) = rg Z d rx_m196 102 L (.int 0 :: S) (rz_mk h ι, w) := rz_s1 fun _ => rfl
theorem g196_102 : rg Z d rx_m196 102 L S (rz_mk h ι, w) = rg Z d rx_m196 104 L (.int 9 :: S) (rz_mk h ι, w) := rz_s1 fun _ => rfl
theorem g196_104 (c : rz_oc h a 12) : rg Z d rx_m196 104 L (v2 :: v1 :: .ref a :: [.int s0, .ref t1]) (rz_mk h ι, w) = rz_k true (rz_f Z d 185 [.ref a, v1, v2] (rz_mk h ι, w)) (fun v σ' => rg Z d rx_m196 107 L (v.toList ++ [.int s0, .ref t1]) σ') := rz_cv (pc := 104) (n := 2) (mi := 185) (S := v2 :: v1 :: .ref a :: [.int s0, .ref t1]) (rest := [.int s0, .ref t1]) rfl rfl (Nat.le_of_ble_eq_true rfl) (Nat.le_of_ble_eq_true rfl) c
theorem g196_107 (c : rz_ar h a 0) (hi : rz_ix x (rz_ln h a)) (hz : Z.2.1 ≤ a) : rg Z d rx_m196 107 L (.int y :: .int x :: .ref a :: S) (rz_mk h ι, w) = rg Z d rx_m196 108 L S (rz_mk h (rz_up ι a x.toNatClampNeg y), w) := rz_iast rfl c hi hz
theorem g196_108 : rg Z d rx_m196 108 [l0, some (.int z), some (.int x)] S (rz_mk h ι, w) = rg Z d rx_m196 111 [l0, some (.int z), some (.int (x + 1))] S (rz_mk h ι, w) := rz_s1 fun _ => rfl
theorem g196_111 : rg Z d rx_m196 111 L S (rz_mk h ι, w) = rg Z d rx_m196 83 L S (rz_mk h ι, w) := rz_s1 fun _ => rfl
theorem g196_114 : rg Z d rx_m196 114 L S (rz_mk h ι, w) = rg Z d rx_m196 155 L S (rz_mk h ι, w) := rz_s1 fun _ => rfl
theorem g196_117 : rg Z d rx_m196 117 [some (.ref a), l1, l2] S (rz_mk h ι, w) = rg Z d rx_m196 118 [some (.ref a), l1, l2] (.ref a :: S) (rz_mk h ι, w) := rz_s1 fun _ => rfl
theorem g196_118 : rg Z d rx_m196 118 L S (rz_mk h ι, w) = rg Z d rx_m196 119 L (.int 0 :: S) (rz_mk h ι, w) := rz_s1 fun _ => rfl
theorem g196_119 : rg Z d rx_m196 119 [l0, some (.int x), l2] S (rz_mk h ι, w) = rg Z d rx_m196 120 [l0, some (.int x), l2] (.int x :: S) (rz_mk h ι, w) := rz_s1 fun _ => rfl
theorem g196_120 : rg Z d rx_m196 120 L S (rz_mk h ι, w) = rg Z d rx_m196 121 L (.int 1 :: S) (rz_mk h ι, w) := rz_s1 fun _ => rfl
theorem g196_121 : rg Z d rx_m196 121 L (.int y :: .int x :: S) (rz_mk h ι, w) = if x = y then rg Z d rx_m196 124 L S (rz_mk h ι, w) else rg Z d rx_m196 135 L S (rz_mk h ι, w) := rz_if2 (pc := 121) (t := 135) (off := 14) (cc := .ne) (by decide) rfl
theorem g196_124 : rg Z d rx_m196 124 [some (.ref a), l1, l2] S (rz_mk h ι, w) = rg Z d rx_m196 125 [some (.ref a), l1, l2] (.ref a :: S) (rz_mk h ι, w) := rz_s1 fun _ => rfl
theorem g196_125 (c : rz_fR h a 12 11) : rg Z d rx_m196 125 L (.ref a :: S) (rz_mk h ι, w) = rg Z d rx_m196 128 L (rz_rv h a 11 :: S) (rz_mk h ι, w) := rz_gR rfl (by decide) c
theorem g196_128 : rg Z d rx_m196 128 L S (rz_mk h ι, w) = rg Z d rx_m196 129 L (.int 0 :: S) (rz_mk h ι, w) := rz_s1 fun _ => rfl
theorem g196_129 (c : rz_ar h a 0) (hi : rz_ix x (rz_ln h a)) : rg Z d rx_m196 129 L (.int x :: .ref a :: S) (rz_mk h ι, w) = rg Z d rx_m196 130 L (.int (ι a x.toNatClampNeg) :: S) (rz_mk h ι, w) := rz_iald rfl c hi
theorem g196_130 : rg Z d rx_m196 130 L S (rz_mk h ι, w) = rg Z d rx_m196 131 L (.int 1 :: S) (rz_mk h ι, w) := rz_s1 fun _ => rfl
theorem g196_131 : rg Z d rx_m196 131 L (.int y :: .int x :: S) (rz_mk h ι, w) = rg Z d rx_m196 132 L (.int (x - y) :: S) (rz_mk h ι, w) := rz_s1 fun _ => rfl
theorem g196_132 : rg Z d rx_m196 132 L S (rz_mk h ι, w) = rg Z d rx_m196 137 L S (rz_mk h ι, w) := rz_s1 fun _ => rfl
theorem g196_135 : rg Z d rx_m196 135 L S (rz_mk h ι, w) = rg Z d rx_m196 137 L (.int 99 :: S) (rz_mk h ι, w) := rz_s1 fun _ => rfl
theorem g196_137 (c : rz_oc h a 12) : rg Z d rx_m196 137 L (v2 :: v1 :: .ref a :: []) (rz_mk h ι, w) = rz_k true (rz_f Z d 185 [.ref a, v1, v2] (rz_mk h ι, w)) (fun v σ' => rg Z d rx_m196 140 L (v.toList ++ []) σ') := rz_cv (pc := 137) (n := 2) (mi := 185) (S := v2 :: v1 :: .ref a :: []) (rest := []) rfl rfl (Nat.le_of_ble_eq_true rfl) (Nat.le_of_ble_eq_true rfl) c
theorem g196_140 : rg Z d rx_m196 140 [l0, some (.int z), l2] (.int x :: S) (rz_mk h ι, w) = rg Z d rx_m196 141 [l0, some (.int z), some (.int x)] S (rz_mk h ι, w) := rz_s1 fun _ => rfl
theorem g196_141 : rg Z d rx_m196 141 [some (.ref a), l1, l2] S (rz_mk h ι, w) = rg Z d rx_m196 142 [some (.ref a), l1, l2] (.ref a :: S) (rz_mk h ι, w) := rz_s1 fun _ => rfl
theorem g196_142 (c : rz_fI h a 12 5) : rg Z d rx_m196 142 L (.ref a :: S) (rz_mk h ι, w) = rg Z d rx_m196 145 L (.int (ι a 5) :: S) (rz_mk h ι, w) := rz_gI rfl (by decide) c
theorem g196_145 : rg Z d rx_m196 145 L (.int x :: S) (rz_mk h ι, w) = if x = 0 then rg Z d rx_m196 148 L S (rz_mk h ι, w) else rg Z d rx_m196 155 L S (rz_mk h ι, w) := rz_if1 (pc := 145) (t := 155) (off := 10) (cc := .ne) (by decide) rfl
theorem g196_148 : rg Z d rx_m196 148 [some (.ref a), l1, l2] S (rz_mk h ι, w) = rg Z d rx_m196 149 [some (.ref a), l1, l2] (.ref a :: S) (rz_mk h ι, w) := rz_s1 fun _ => rfl
theorem g196_149 (c : rz_fR h a 12 11) : rg Z d rx_m196 149 L (.ref a :: S) (rz_mk h ι, w) = rg Z d rx_m196 152 L (rz_rv h a 11 :: S) (rz_mk h ι, w) := rz_gR rfl (by decide) c
theorem g196_152 : rg Z d rx_m196 152 [l0, some (.int x), l2] S (rz_mk h ι, w) = rg Z d rx_m196 153 [l0, some (.int x), l2] (.int x :: S) (rz_mk h ι, w) := rz_s1 fun _ => rfl
theorem g196_153 : rg Z d rx_m196 153 [l0, l1, some (.int x)] S (rz_mk h ι, w) = rg Z d rx_m196 154 [l0, l1, some (.int x)] (.int x :: S) (rz_mk h ι, w) := rz_s1 fun _ => rfl
theorem g196_154 (c : rz_ar h a 0) (hi : rz_ix x (rz_ln h a)) (hz : Z.2.1 ≤ a) : rg Z d rx_m196 154 L (.int y :: .int x :: .ref a :: S) (rz_mk h ι, w) = rg Z d rx_m196 155 L S (rz_mk h (rz_up ι a x.toNatClampNeg y), w) := rz_iast rfl c hi hz
theorem g196_155 : rg Z d rx_m196 155 [some (.ref a), l1, l2] S (rz_mk h ι, w) = rg Z d rx_m196 156 [some (.ref a), l1, l2] (.ref a :: S) (rz_mk h ι, w) := rz_s1 fun _ => rfl
theorem g196_156 : rg Z d rx_m196 156 L S (rz_mk h ι, w) = rg Z d rx_m196 158 L (.int 59 :: S) (rz_mk h ι, w) := rz_s1 fun _ => rfl
theorem g196_158 (c : rz_oc h a 12) : rg Z d rx_m196 158 L (v1 :: .ref a :: []) (rz_mk h ι, w) = rz_k true (rz_f Z d 191 [.ref a, v1] (rz_mk h ι, w)) (fun v σ' => rg Z d rx_m196 161 L (v.toList ++ []) σ') := rz_cv (pc := 158) (n := 1) (mi := 191) (S := v1 :: .ref a :: []) (rest := []) rfl rfl (Nat.le_of_ble_eq_true rfl) (Nat.le_of_ble_eq_true rfl) c
theorem g196_161 : rg Z d rx_m196 161 [l0, some (.int x), l2] S (rz_mk h ι, w) = rg Z d rx_m196 162 [l0, some (.int x), l2] (.int x :: S) (rz_mk h ι, w) := rz_s1 fun _ => rfl
theorem g196_162 : rg Z d rx_m196 162 L (.int x :: S) (rz_mk h ι, w) = if x = 0 then rg Z d rx_m196 165 L S (rz_mk h ι, w) else rg Z d rx_m196 186 L S (rz_mk h ι, w) := rz_if1 (pc := 162) (t := 186) (off := 24) (cc := .ne) (by decide) rfl
theorem g196_165 : rg Z d rx_m196 165 [some (.ref a), l1, l2] S (rz_mk h ι, w) = rg Z d rx_m196 166 [some (.ref a), l1, l2] (.ref a :: S) (rz_mk h ι, w) := rz_s1 fun _ => rfl
theorem g196_166 (c : rz_fR h a 12 11) : rg Z d rx_m196 166 L (.ref a :: S) (rz_mk h ι, w) = rg Z d rx_m196 169 L (rz_rv h a 11 :: S) (rz_mk h ι, w) := rz_gR rfl (by decide) c
theorem g196_169 : rg Z d rx_m196 169 L S (rz_mk h ι, w) = rg Z d rx_m196 170 L (.int 0 :: S) (rz_mk h ι, w) := rz_s1 fun _ => rfl
theorem g196_170 : rg Z d rx_m196 170 L (.int x :: .ref b :: S) (rz_mk h ι, w) = rg Z d rx_m196 171 L (.int x :: .ref b :: .int x :: .ref b :: S) (rz_mk h ι, w) := rz_s1 fun _ => rfl
theorem g196_171 (c : rz_ar h a 0) (hi : rz_ix x (rz_ln h a)) : rg Z d rx_m196 171 L (.int x :: .ref a :: S) (rz_mk h ι, w) = rg Z d rx_m196 172 L (.int (ι a x.toNatClampNeg) :: S) (rz_mk h ι, w) := rz_iald rfl c hi
theorem g196_172 : rg Z d rx_m196 172 [some (.ref a), l1, l2] S (rz_mk h ι, w) = rg Z d rx_m196 173 [some (.ref a), l1, l2] (.ref a :: S) (rz_mk h ι, w) := rz_s1 fun _ => rfl
theorem g196_173 (c : rz_fI h a 12 5) : rg Z d rx_m196 173 L (.ref a :: S) (rz_mk h ι, w) = rg Z d rx_m196 176 L (.int (ι a 5) :: S) (rz_mk h ι, w) := rz_gI rfl (by decide) c
theorem g196_176 : rg Z d rx_m196 176 L (.int x :: S) (rz_mk h ι, w) = if x = 0 then rg Z d rx_m196 179 L S (rz_mk h ι, w) else rg Z d rx_m196 183 L S (rz_mk h ι, w) := rz_if1 (pc := 176) (t := 183) (off := 7) (cc := .ne) (by decide) rfl
theorem g196_179 : rg Z d rx_m196 179 L S (rz_mk h ι, w) = rg Z d rx_m196 180 L (.int 1 :: S) (rz_mk h ι, w) := rz_s1 fun _ => rfl
theorem g196_180 : rg Z d rx_m196 180 L S (rz_mk h ι, w) = rg Z d rx_m196 184 L S (rz_mk h ι, w) := rz_s1 fun _ => rfl
theorem g196_183 : rg Z d rx_m196 183 L S (rz_mk h ι, w) = rg Z d rx_m196 184 L (.int 0 :: S) (rz_mk h ι, w) := rz_s1 fun _ => rfl
theorem g196_184 : rg Z d rx_m196 184 L (.int y :: .int x :: S) (rz_mk h ι, w) = rg Z d rx_m196 185 L (.int (x + y) :: S) (rz_mk h ι, w) := rz_s1 fun _ => rfl
theorem g196_185 (c : rz_ar h a 0) (hi : rz_ix x (rz_ln h a)) (hz : Z.2.1 ≤ a) : rg Z d rx_m196 185 L (.int y :: .int x :: .ref a :: S) (rz_mk h ι, w) = rg Z d rx_m196 186 L S (rz_mk h (rz_up ι a x.toNatClampNeg y), w) := rz_iast rfl c hi hz
theorem g196_186 : rg Z d rx_m196 186 L [] (rz_mk h ι, w) = some (.inl none, (rz_mk h ι, w)) := rz_r1 fun _ => rfl
theorem e196 : rz_f Z (d + 1) 196 [.ref t0] σ = rg Z d rx_m196 0 [some (.ref t0), none, none] [] σ := rz_f_eq rfl (Nat.le_of_ble_eq_true rfl)
theorem g197_0 : rg Z d rx_m197 0 [some (.ref a), l1] S (rz_mk h ι, w) = rg Z d rx_m197 1 [some (.ref a), l1] (.ref a :: S) (rz_mk h ι, w) := rz_s1 fun _ => rfl
theorem g197_1 : rg Z d rx_m197 1 L S (rz_mk h ι, w) = rg Z d rx_m197 2 L (.int 0 :: S) (rz_mk h ι, w) := rz_s1 fun _ => rfl
theorem g197_2 (c : rz_fI h a 12 0) (hz : Z.2.1 ≤ a) : rg Z d rx_m197 2 L (.int x :: .ref a :: S) (rz_mk h ι, w) = rg Z d rx_m197 5 L S (rz_mk h (rz_up ι a 0 x), w) := rz_pI rfl c hz
theorem g197_5 : rg Z d rx_m197 5 [some (.ref a), l1] S (rz_mk h ι, w) = rg Z d rx_m197 6 [some (.ref a), l1] (.ref a :: S) (rz_mk h ι, w) := rz_s1 fun _ => rfl
theorem g197_6 : rg Z d rx_m197 6 [l0, some (.int x)] S (rz_mk h ι, w) = rg Z d rx_m197 7 [l0, some (.int x)] (.int x :: S) (rz_mk h ι, w) := rz_s1 fun _ => rfl
theorem g197_7 : rg Z d rx_m197 7 L S (rz_mk h ι, w) = rg Z d rx_m197 8 L (.int 0 :: S) (rz_mk h ι, w) := rz_s1 fun _ => rfl
theorem g197_8 : rg Z d rx_m197 8 [some (.ref a), l1] S (rz_mk h ι, w) = rg Z d rx_m197 9 [some (.ref a), l1] (.ref a :: S) (rz_mk h ι, w) := rz_s1 fun _ => rfl
theorem g197_9 (c : rz_fI h a 12 1) : rg Z d rx_m197 9 L (.ref a :: S) (rz_mk h ι, w) = rg Z d rx_m197 12 L (.int (ι a 1) :: S) (rz_mk h ι, w) := rz_gI rfl (by decide) c
theorem g197_12 : rg Z d rx_m197 12 L (v3 :: v2 :: v1 :: [.ref t0]) (rz_mk h ι, w) = rz_k true (rz_f Z d 175 [v1, v2, v3] (rz_mk h ι, w)) (fun v σ' => rg Z d rx_m197 15 L (v.toList ++ [.ref t0]) σ') := rz_cs (pc := 12) (n := 3) (mi := 175) (S := v3 :: v2 :: v1 :: [.ref t0]) (rest := [.ref t0]) rfl rfl (Nat.le_of_ble_eq_true rfl) (Nat.le_of_ble_eq_true rfl)
theorem g197_15 : rg Z d rx_m197 15 L (.int x :: S) (rz_mk h ι, w) = if x = 0 then rg Z d rx_m197 18 L S (rz_mk h ι, w) else rg Z d rx_m197 22 L S (rz_mk h ι, w) := rz_if1 (pc := 15) (t := 22) (off := 7) (cc := .ne) (by decide) rfl
theorem g197_18 : rg Z d rx_m197 18 L S (rz_mk h ι, w) = rg Z d rx_m197 19 L (.int 1 :: S) (rz_mk h ι, w) := rz_s1 fun _ => rfl
theorem g197_19 : rg Z d rx_m197 19 L S (rz_mk h ι, w) = rg Z d rx_m197 23 L S (rz_mk h ι, w) := rz_s1 fun _ => rfl
theorem g197_22 : rg Z d rx_m197 22 L S (rz_mk h ι, w) = rg Z d rx_m197 23 L (.int 0 :: S) (rz_mk h ι, w) := rz_s1 fun _ => rfl
theorem g197_23 : rg Z d rx_m197 23 L S (rz_mk h ι, w) = rg Z d rx_m197 24 L (.int 1 :: S) (rz_mk h ι, w) := rz_s1 fun _ => rfl
theorem g197_24 : rg Z d rx_m197 24 L S (rz_mk h ι, w) = rg Z d rx_m197 25 L (.int 1 :: S) (rz_mk h ι, w) := rz_s1 fun _ => rfl
theorem g197_25 (c : rz_oc h a 12) : rg Z d rx_m197 25 L (v3 :: v2 :: v1 :: .ref a :: []) (rz_mk h ι, w) = rz_k true (rz_f Z d 174 [.ref a, v1, v2, v3] (rz_mk h ι, w)) (fun v σ' => rg Z d rx_m197 28 L (v.toList ++ []) σ') := rz_cv (pc := 25) (n := 3) (mi := 174) (S := v3 :: v2 :: v1 :: .ref a :: []) (rest := []) rfl rfl (Nat.le_of_ble_eq_true rfl) (Nat.le_of_ble_eq_true rfl) c
theorem g197_28 : rg Z d rx_m197 28 L (.int x :: S) (rz_mk h ι, w) = if x = 0 then rg Z d rx_m197 33 L S (rz_mk h ι, w) else rg Z d rx_m197 31 L S (rz_mk h ι, w) := rz_if1 (pc := 28) (t := 33) (off := 5) (cc := .eq) (by decide) rfl
theorem g197_31 : rg Z d rx_m197 31 L S (rz_mk h ι, w) = rg Z d rx_m197 32 L (.int 0 :: S) (rz_mk h ι, w) := rz_s1 fun _ => rfl
theorem g197_32 : rg Z d rx_m197 32 L [.int x] (rz_mk h ι, w) = some (.inl (some (.int x)), (rz_mk h ι, w)) := rz_reti rfl rfl rfl
theorem g197_33 : rg Z d rx_m197 33 [some (.ref a), l1] S (rz_mk h ι, w) = rg Z d rx_m197 34 [some (.ref a), l1] (.ref a :: S) (rz_mk h ι, w) := rz_s1 fun _ => rfl
theorem g197_34 : rg Z d rx_m197 34 [l0, some (.int x)] S (rz_mk h ι, w) = rg Z d rx_m197 35 [l0, some (.int x)] (.int x :: S) (rz_mk h ι, w) := rz_s1 fun _ => rfl
theorem g197_35 (c : rz_oc h a 12) : rg Z d rx_m197 35 L (v1 :: .ref a :: []) (rz_mk h ι, w) = rz_k true (rz_f Z d 193 [.ref a, v1] (rz_mk h ι, w)) (fun v σ' => rg Z d rx_m197 38 L (v.toList ++ []) σ') := rz_cv (pc := 35) (n := 1) (mi := 193) (S := v1 :: .ref a :: []) (rest := []) rfl rfl (Nat.le_of_ble_eq_true rfl) (Nat.le_of_ble_eq_true rfl) c
theorem g197_38 : rg Z d rx_m197 38 [some (.ref a), l1] S (rz_mk h ι, w) = rg Z d rx_m197 39 [some (.ref a), l1] (.ref a :: S) (rz_mk h ι, w) := rz_s1 fun _ => rfl
theorem g197_39 (c : rz_oc h a 12) : rg Z d rx_m197 39 L (.ref a :: []) (rz_mk h ι, w) = rz_k true (rz_f Z d 172 [.ref a] (rz_mk h ι, w)) (fun v σ' => rg Z d rx_m197 42 L (v.toList ++ []) σ') := rz_cv (pc := 39) (n := 0) (mi := 172) (S := .ref a :: []) (rest := []) rfl rfl (Nat.le_of_ble_eq_true rfl) (Nat.le_of_ble_eq_true rfl) c
theorem g197_42 : rg Z d rx_m197 42 [some (.ref a), l1] S (rz_mk h ι, w) = rg Z d rx_m197 43 [some (.ref a), l1] (.ref a :: S) (rz_mk h ι, w) := rz_s1 fun _ => rfl
theorem g197_43 (c : rz_fI h a 12 5) : rg Z d rx_m197 43 L (.ref a :: S) (rz_mk h ι, w) = rg Z d rx_m197 46 L (.int (ι a 5) :: S) (rz_mk h ι, w) := rz_gI rfl (by decide) c
theorem g197_46 : rg Z d rx_m197 46 L (.int x :: S) (rz_mk h ι, w) = if x = 0 then rg Z d rx_m197 49 L S (rz_mk h ι, w) else rg Z d rx_m197 71 L S (rz_mk h ι, w) := rz_if1 (pc := 46) (t := 71) (off := 25) (cc := .ne) (by decide) rfl
theorem g197_49 : rg Z d rx_m197 49 [some (.ref a), l1] S (rz_mk h ι, w) = rg Z d rx_m197 50 [some (.ref a), l1] (.ref a :: S) (rz_mk h ι, w) := rz_s1 fun _ => rfl
theorem g197_50 (c : rz_fI h a 12 4) : rg Z d rx_m197 50 L (.ref a :: S) (rz_mk h ι, w) = rg Z d rx_m197 53 L (.int (ι a 4) :: S) (rz_mk h ι, w) := rz_gI rfl (by decide) c
theorem g197_53 : rg Z d rx_m197 53 [some (.ref a), l1] S (rz_mk h ι, w) = rg Z d rx_m197 54 [some (.ref a), l1] (.ref a :: S) (rz_mk h ι, w) := rz_s1 fun _ => rfl
theorem g197_54 (c : rz_fI h a 12 2) : rg Z d rx_m197 54 L (.ref a :: S) (rz_mk h ι, w) = rg Z d rx_m197 57 L (.int (ι a 2) :: S) (rz_mk h ι, w) := rz_gI rfl (by decide) c
theorem g197_57 : rg Z d rx_m197 57 L (.int y :: .int x :: S) (rz_mk h ι, w) = if x < y then rg Z d rx_m197 60 L S (rz_mk h ι, w) else rg Z d rx_m197 71 L S (rz_mk h ι, w) := rz_if2 (pc := 57) (t := 71) (off := 14) (cc := .ge) (by decide) rfl
theorem g197_60 : rg Z d rx_m197 60 [some (.ref a), l1] S (rz_mk h ι, w) = rg Z d rx_m197 61 [some (.ref a), l1] (.ref a :: S) (rz_mk h ι, w) := rz_s1 fun _ => rfl
theorem g197_61 (c : rz_oc h a 12) : rg Z d rx_m197 61 L (.ref a :: []) (rz_mk h ι, w) = rz_k true (rz_f Z d 196 [.ref a] (rz_mk h ι, w)) (fun v σ' => rg Z d rx_m197 64 L (v.toList ++ []) σ') := rz_cv (pc := 61) (n := 0) (mi := 196) (S := .ref a :: []) (rest := []) rfl rfl (Nat.le_of_ble_eq_true rfl) (Nat.le_of_ble_eq_true rfl) c
theorem g197_64 : rg Z d rx_m197 64 [some (.ref a), l1] S (rz_mk h ι, w) = rg Z d rx_m197 65 [some (.ref a), l1] (.ref a :: S) (rz_mk h ι, w) := rz_s1 fun _ => rfl
theorem g197_65 (c : rz_oc h a 12) : rg Z d rx_m197 65 L (.ref a :: []) (rz_mk h ι, w) = rz_k true (rz_f Z d 181 [.ref a] (rz_mk h ι, w)) (fun v σ' => rg Z d rx_m197 68 L (v.toList ++ []) σ') := rz_cv (pc := 65) (n := 0) (mi := 181) (S := .ref a :: []) (rest := []) rfl rfl (Nat.le_of_ble_eq_true rfl) (Nat.le_of_ble_eq_true rfl) c
theorem g197_68 : rg Z d rx_m197 68 L S (rz_mk h ι, w) = rg Z d rx_m197 42 L S (rz_mk h ι, w) := rz_s1 fun _ => rfl
theorem g197_71 : rg Z d rx_m197 71 [some (.ref a), l1] S (rz_mk h ι, w) = rg Z d rx_m197 72 [some (.ref a), l1] (.ref a :: S) (rz_mk h ι, w) := rz_s1 fun _ => rfl
theorem g197_72 (c : rz_fI h a 12 5) : rg Z d rx_m197 72 L (.ref a :: S) (rz_mk h ι, w) = rg Z d rx_m197 75 L (.int (ι a 5) :: S) (rz_mk h ι, w) := rz_gI rfl (by decide) c
theorem g197_75 : rg Z d rx_m197 75 L (.int x :: S) (rz_mk h ι, w) = if x = 0 then rg Z d rx_m197 83 L S (rz_mk h ι, w) else rg Z d rx_m197 78 L S (rz_mk h ι, w) := rz_if1 (pc := 75) (t := 83) (off := 8) (cc := .eq) (by decide) rfl
theorem g197_78 : rg Z d rx_m197 78 [some (.ref a), l1] S (rz_mk h ι, w) = rg Z d rx_m197 79 [some (.ref a), l1] (.ref a :: S) (rz_mk h ι, w) := rz_s1 fun _ => rfl
theorem g197_79 (c : rz_oc h a 12) : rg Z d rx_m197 79 L (.ref a :: []) (rz_mk h ι, w) = rz_k true (rz_f Z d 194 [.ref a] (rz_mk h ι, w)) (fun v σ' => rg Z d rx_m197 82 L (v.toList ++ []) σ') := rz_cv (pc := 79) (n := 0) (mi := 194) (S := .ref a :: []) (rest := []) rfl rfl (Nat.le_of_ble_eq_true rfl) (Nat.le_of_ble_eq_true rfl) c
theorem g197_82 : rg Z d rx_m197 82 L [.int x] (rz_mk h ι, w) = some (.inl (some (.int x)), (rz_mk h ι, w)) := rz_reti rfl rfl rfl
theorem g197_83 : rg Z d rx_m197 83 [some (.ref a), l1] S (rz_mk h ι, w) = rg Z d rx_m197 84 [some (.ref a), l1] (.ref a :: S) (rz_mk h ι, w) := rz_s1 fun _ => rfl
theorem g197_84 : rg Z d rx_m197 84 L S (rz_mk h ι, w) = rg Z d rx_m197 85 L (.int (-1) :: S) (rz_mk h ι, w) := rz_s1 fun _ => rfl
theorem g197_85 (c : rz_fI h a 12 3) (hz : Z.2.1 ≤ a) : rg Z d rx_m197 85 L (.int x :: .ref a :: S) (rz_mk h ι, w) = rg Z d rx_m197 88 L S (rz_mk h (rz_up ι a 3 x), w) := rz_pI rfl c hz
theorem g197_88 : rg Z d rx_m197 88 [some (.ref a), l1] S (rz_mk h ι, w) = rg Z d rx_m197 89 [some (.ref a), l1] (.ref a :: S) (rz_mk h ι, w) := rz_s1 fun _ => rfl
theorem g197_89 (c : rz_oc h a 12) : rg Z d rx_m197 89 L (.ref a :: []) (rz_mk h ι, w) = rz_k true (rz_f Z d 200 [.ref a] (rz_mk h ι, w)) (fun v σ' => rg Z d rx_m197 92 L (v.toList ++ []) σ') := rz_cv (pc := 89) (n := 0) (mi := 200) (S := .ref a :: []) (rest := []) rfl rfl (Nat.le_of_ble_eq_true rfl) (Nat.le_of_ble_eq_true rfl) c
theorem g197_92 : rg Z d rx_m197 92 [some (.ref a), l1] S (rz_mk h ι, w) = rg Z d rx_m197 93 [some (.ref a), l1] (.ref a :: S) (rz_mk h ι, w) := rz_s1 fun _ => rfl
theorem g197_93 (c : rz_fR h a 12 12) : rg Z d rx_m197 93 L (.ref a :: S) (rz_mk h ι, w) = rg Z d rx_m197 96 L (rz_rv h a 12 :: S) (rz_mk h ι, w) := rz_gR rfl (by decide) c
theorem g197_96 : rg Z d rx_m197 96 L S (rz_mk h ι, w) = rg Z d rx_m197 97 L (.int 0 :: S) (rz_mk h ι, w) := rz_s1 fun _ => rfl
theorem g197_97 (c : rz_ar h a 0) (hi : rz_ix x (rz_ln h a)) : rg Z d rx_m197 97 L (.int x :: .ref a :: S) (rz_mk h ι, w) = rg Z d rx_m197 98 L (.int (ι a x.toNatClampNeg) :: S) (rz_mk h ι, w) := rz_iald rfl c hi
theorem g197_98 : rg Z d rx_m197 98 L [.int x] (rz_mk h ι, w) = some (.inl (some (.int x)), (rz_mk h ι, w)) := rz_reti rfl rfl rfl
theorem e197 : rz_f Z (d + 1) 197 [.ref t0, .int s1] σ = rg Z d rx_m197 0 [some (.ref t0), some (.int s1)] [] σ := rz_f_eq rfl (Nat.le_of_ble_eq_true rfl)
theorem g198_0 : rg Z d rx_m198 0 L S (rz_mk h ι, w) = rg Z d rx_m198 1 L (.int 0 :: S) (rz_mk h ι, w) := rz_s1 fun _ => rfl
theorem g198_1 : rg Z d rx_m198 1 [l0, l1, some (.int z), l3, l4] (.int x :: S) (rz_mk h ι, w) = rg Z d rx_m198 2 [l0, l1, some (.int z), some (.int x), l4] S (rz_mk h ι, w) := rz_s1 fun _ => rfl
theorem g198_2 : rg Z d rx_m198 2 [l0, l1, l2, some (.int x), l4] S (rz_mk h ι, w) = rg Z d rx_m198 3 [l0, l1, l2, some (.int x), l4] (.int x :: S) (rz_mk h ι, w) := rz_s1 fun _ => rfl
theorem g198_3 : rg Z d rx_m198 3 [l0, l1, some (.int x), l3, l4] S (rz_mk h ι, w) = rg Z d rx_m198 4 [l0, l1, some (.int x), l3, l4] (.int x :: S) (rz_mk h ι, w) := rz_s1 fun _ => rfl
theorem g198_4 : rg Z d rx_m198 4 L (.int y :: .int x :: S) (rz_mk h ι, w) = if x < y then rg Z d rx_m198 7 L S (rz_mk h ι, w) else rg Z d rx_m198 43 L S (rz_mk h ι, w) := rz_if2 (pc := 4) (t := 43) (off := 39) (cc := .ge) (by decide) rfl
theorem g198_7 : rg Z d rx_m198 7 L S (rz_mk h ι, w) = rg Z d rx_m198 8 L (.int 0 :: S) (rz_mk h ι, w) := rz_s1 fun _ => rfl
theorem g198_8 : rg Z d rx_m198 8 [l0, l1, l2, some (.int z), l4] (.int x :: S) (rz_mk h ι, w) = rg Z d rx_m198 10 [l0, l1, l2, some (.int z), some (.int x)] S (rz_mk h ι, w) := rz_s1 fun _ => rfl
theorem g198_10 : rg Z d rx_m198 10 [l0, l1, l2, l3, some (.int x)] S (rz_mk h ι, w) = rg Z d rx_m198 12 [l0, l1, l2, l3, some (.int x)] (.int x :: S) (rz_mk h ι, w) := rz_s1 fun _ => rfl
theorem g198_12 : rg Z d rx_m198 12 [l0, some (.ref a), l2, l3, l4] S (rz_mk h ι, w) = rg Z d rx_m198 13 [l0, some (.ref a), l2, l3, l4] (.ref a :: S) (rz_mk h ι, w) := rz_s1 fun _ => rfl
theorem g198_13 : rg Z d rx_m198 13 [l0, l1, l2, some (.int x), l4] S (rz_mk h ι, w) = rg Z d rx_m198 14 [l0, l1, l2, some (.int x), l4] (.int x :: S) (rz_mk h ι, w) := rz_s1 fun _ => rfl
theorem g198_14 (c : rz_ar h a 3) (hi : rz_ix x (rz_ln h a)) : rg Z d rx_m198 14 L (.int x :: .ref a :: S) (rz_mk h ι, w) = rg Z d rx_m198 15 L (rz_el h a x.toNatClampNeg :: S) (rz_mk h ι, w) := rz_aald (by decide) rfl c hi
theorem g198_15 (c : rz_ar h a 0) : rg Z d rx_m198 15 L (.ref a :: S) (rz_mk h ι, w) = rg Z d rx_m198 16 L (.int (Int32.ofNat (rz_ln h a)) :: S) (rz_mk h ι, w) := rz_alen (by decide) rfl c
theorem g198_16 : rg Z d rx_m198 16 L (.int y :: .int x :: S) (rz_mk h ι, w) = if x < y then rg Z d rx_m198 19 L S (rz_mk h ι, w) else rg Z d rx_m198 37 L S (rz_mk h ι, w) := rz_if2 (pc := 16) (t := 37) (off := 21) (cc := .ge) (by decide) rfl
theorem g198_19 : rg Z d rx_m198 19 [l0, some (.ref a), l2, l3, l4] S (rz_mk h ι, w) = rg Z d rx_m198 20 [l0, some (.ref a), l2, l3, l4] (.ref a :: S) (rz_mk h ι, w) := rz_s1 fun _ => rfl
theorem g198_20 : rg Z d rx_m198 20 [l0, l1, l2, some (.int x), l4] S (rz_mk h ι, w) = rg Z d rx_m198 21 [l0, l1, l2, some (.int x), l4] (.int x :: S) (rz_mk h ι, w) := rz_s1 fun _ => rfl
theorem g198_21 (c : rz_ar h a 3) (hi : rz_ix x (rz_ln h a)) : rg Z d rx_m198 21 L (.int x :: .ref a :: S) (rz_mk h ι, w) = rg Z d rx_m198 22 L (rz_el h a x.toNatClampNeg :: S) (rz_mk h ι, w) := rz_aald (by decide) rfl c hi
theorem g198_22 : rg Z d rx_m198 22 [l0, l1, l2, l3, some (.int x)] S (rz_mk h ι, w) = rg Z d rx_m198 24 [l0, l1, l2, l3, some (.int x)] (.int x :: S) (rz_mk h ι, w) := rz_s1 fun _ => rfl
theorem g198_24 : rg Z d rx_m198 24 [some (.ref a), l1, l2, l3, l4] S (rz_mk h ι, w) = rg Z d rx_m198 25 [some (.ref a), l1, l2, l3, l4] (.ref a :: S) (rz_mk h ι, w) := rz_s1 fun _ => rfl
theorem g198_25 : rg Z d rx_m198 25 [l0, l1, l2, some (.int x), l4] S (rz_mk h ι, w) = rg Z d rx_m198 26 [l0, l1, l2, some (.int x), l4] (.int x :: S) (rz_mk h ι, w) := rz_s1 fun _ => rfl
theorem g198_26 (c : rz_ar h a 3) (hi : rz_ix x (rz_ln h a)) : rg Z d rx_m198 26 L (.int x :: .ref a :: S) (rz_mk h ι, w) = rg Z d rx_m198 27 L (rz_el h a x.toNatClampNeg :: S) (rz_mk h ι, w) := rz_aald (by decide) rfl c hi
theorem g198_27 : rg Z d rx_m198 27 [l0, l1, l2, l3, some (.int x)] S (rz_mk h ι, w) = rg Z d rx_m198 29 [l0, l1, l2, l3, some (.int x)] (.int x :: S) (rz_mk h ι, w) := rz_s1 fun _ => rfl
theorem g198_29 (c : rz_ar h a 0) (hi : rz_ix x (rz_ln h a)) : rg Z d rx_m198 29 L (.int x :: .ref a :: S) (rz_mk h ι, w) = rg Z d rx_m198 30 L (.int (ι a x.toNatClampNeg) :: S) (rz_mk h ι, w) := rz_iald rfl c hi
theorem g198_30 (c : rz_ar h a 0) (hi : rz_ix x (rz_ln h a)) (hz : Z.2.1 ≤ a) : rg Z d rx_m198 30 L (.int y :: .int x :: .ref a :: S) (rz_mk h ι, w) = rg Z d rx_m198 31 L S (rz_mk h (rz_up ι a x.toNatClampNeg y), w) := rz_iast rfl c hi hz
theorem g198_31 : rg Z d rx_m198 31 [l0, l1, l2, some (.int z), some (.int x)] S (rz_mk h ι, w) = rg Z d rx_m198 34 [l0, l1, l2, some (.int z), some (.int (x + 1))] S (rz_mk h ι, w) := rz_s1 fun _ => rfl
theorem g198_34 : rg Z d rx_m198 34 L S (rz_mk h ι, w) = rg Z d rx_m198 10 L S (rz_mk h ι, w) := rz_s1 fun _ => rfl
theorem g198_37 : rg Z d rx_m198 37 [l0, l1, some (.int z), some (.int x), l4] S (rz_mk h ι, w) = rg Z d rx_m198 40 [l0, l1, some (.int z), some (.int (x + 1)), l4] S (rz_mk h ι, w) := rz_s1 fun _ => rfl
theorem g198_40 : rg Z d rx_m198 40 L S (rz_mk h ι, w) = rg Z d rx_m198 2 L S (rz_mk h ι, w) := rz_s1 fun _ => rfl
theorem g198_43 : rg Z d rx_m198 43 L [] (rz_mk h ι, w) = some (.inl none, (rz_mk h ι, w)) := rz_r1 fun _ => rfl
theorem e198 : rz_f Z (d + 1) 198 [.ref t0, .ref t1, .int s2] σ = rg Z d rx_m198 0 [some (.ref t0), some (.ref t1), some (.int s2), none, none] [] σ := rz_f_eq rfl (Nat.le_of_ble_eq_true rfl)
theorem g199_0 : rg Z d rx_m199 0 L S (rz_mk h ι, w) = rg Z d rx_m199 1 L (.int 0 :: S) (rz_mk h ι, w) := rz_s1 fun _ => rfl
theorem g199_1 : rg Z d rx_m199 1 [l0, some (.ref b), l2] (.int x :: S) (rz_mk h ι, w) = rg Z d rx_m199 2 [l0, some (.ref b), some (.int x)] S (rz_mk h ι, w) := rz_s1 fun _ => rfl
theorem g199_2 : rg Z d rx_m199 2 [l0, l1, some (.int x)] S (rz_mk h ι, w) = rg Z d rx_m199 3 [l0, l1, some (.int x)] (.int x :: S) (rz_mk h ι, w) := rz_s1 fun _ => rfl
theorem g199_3 : rg Z d rx_m199 3 L S (rz_mk h ι, w) = rg Z d rx_m199 5 L (.int 62 :: S) (rz_mk h ι, w) := rz_s1 fun _ => rfl
theorem g199_5 : rg Z d rx_m199 5 L (.int y :: .int x :: S) (rz_mk h ι, w) = if x < y then rg Z d rx_m199 8 L S (rz_mk h ι, w) else rg Z d rx_m199 20 L S (rz_mk h ι, w) := rz_if2 (pc := 5) (t := 20) (off := 15) (cc := .ge) (by decide) rfl
theorem g199_8 : rg Z d rx_m199 8 [l0, some (.ref a), l2] S (rz_mk h ι, w) = rg Z d rx_m199 9 [l0, some (.ref a), l2] (.ref a :: S) (rz_mk h ι, w) := rz_s1 fun _ => rfl
theorem g199_9 : rg Z d rx_m199 9 [l0, l1, some (.int x)] S (rz_mk h ι, w) = rg Z d rx_m199 10 [l0, l1, some (.int x)] (.int x :: S) (rz_mk h ι, w) := rz_s1 fun _ => rfl
theorem g199_10 : rg Z d rx_m199 10 [some (.ref a), l1, l2] S (rz_mk h ι, w) = rg Z d rx_m199 11 [some (.ref a), l1, l2] (.ref a :: S) (rz_mk h ι, w) := rz_s1 fun _ => rfl
theorem g199_11 : rg Z d rx_m199 11 [l0, l1, some (.int x)] S (rz_mk h ι, w) = rg Z d rx_m199 12 [l0, l1, some (.int x)] (.int x :: S) (rz_mk h ι, w) := rz_s1 fun _ => rfl
theorem g199_12 (c : rz_ar h a 0) (hi : rz_ix x (rz_ln h a)) : rg Z d rx_m199 12 L (.int x :: .ref a :: S) (rz_mk h ι, w) = rg Z d rx_m199 13 L (.int (ι a x.toNatClampNeg) :: S) (rz_mk h ι, w) := rz_iald rfl c hi
theorem g199_13 (c : rz_ar h a 0) (hi : rz_ix x (rz_ln h a)) (hz : Z.2.1 ≤ a) : rg Z d rx_m199 13 L (.int y :: .int x :: .ref a :: S) (rz_mk h ι, w) = rg Z d rx_m199 14 L S (rz_mk h (rz_up ι a x.toNatClampNeg y), w) := rz_iast rfl c hi hz
theorem g199_14 : rg Z d rx_m199 14 [l0, some (.ref b), some (.int x)] S (rz_mk h ι, w) = rg Z d rx_m199 17 [l0, some (.ref b), some (.int (x + 1))] S (rz_mk h ι, w) := rz_s1 fun _ => rfl
theorem g199_17 : rg Z d rx_m199 17 L S (rz_mk h ι, w) = rg Z d rx_m199 2 L S (rz_mk h ι, w) := rz_s1 fun _ => rfl
theorem g199_20 : rg Z d rx_m199 20 L [] (rz_mk h ι, w) = some (.inl none, (rz_mk h ι, w)) := rz_r1 fun _ => rfl
theorem e199 : rz_f Z (d + 1) 199 [.ref t0, .ref t1] σ = rg Z d rx_m199 0 [some (.ref t0), some (.ref t1), none] [] σ := rz_f_eq rfl (Nat.le_of_ble_eq_true rfl)
theorem g200_0 : rg Z d rx_m200 0 L S (rz_mk h ι, w) = rg Z d rx_m200 1 L (.int 0 :: S) (rz_mk h ι, w) := rz_s1 fun _ => rfl
theorem g200_1 : rg Z d rx_m200 1 [some (.ref b), l1, l2] (.int x :: S) (rz_mk h ι, w) = rg Z d rx_m200 2 [some (.ref b), some (.int x), l2] S (rz_mk h ι, w) := rz_s1 fun _ => rfl
theorem g200_2 : rg Z d rx_m200 2 [l0, some (.int x), l2] S (rz_mk h ι, w) = rg Z d rx_m200 3 [l0, some (.int x), l2] (.int x :: S) (rz_mk h ι, w) := rz_s1 fun _ => rfl
theorem g200_3 : rg Z d rx_m200 3 L S (rz_mk h ι, w) = rg Z d rx_m200 4 L (.int 3 :: S) (rz_mk h ι, w) := rz_s1 fun _ => rfl
theorem g200_4 : rg Z d rx_m200 4 L (.int y :: .int x :: S) (rz_mk h ι, w) = if x < y then rg Z d rx_m200 7 L S (rz_mk h ι, w) else rg Z d rx_m200 25 L S (rz_mk h ι, w) := rz_if2 (pc := 4) (t := 25) (off := 21) (cc := .ge) (by decide) rfl
theorem g200_7 : rg Z d rx_m200 7 [some (.ref a), l1, l2] S (rz_mk h ι, w) = rg Z d rx_m200 8 [some (.ref a), l1, l2] (.ref a :: S) (rz_mk h ι, w) := rz_s1 fun _ => rfl
theorem g200_8 (c : rz_fR h a 12 12) : rg Z d rx_m200 8 L (.ref a :: S) (rz_mk h ι, w) = rg Z d rx_m200 11 L (rz_rv h a 12 :: S) (rz_mk h ι, w) := rz_gR rfl (by decide) c
theorem g200_11 : rg Z d rx_m200 11 [l0, some (.int x), l2] S (rz_mk h ι, w) = rg Z d rx_m200 12 [l0, some (.int x), l2] (.int x :: S) (rz_mk h ι, w) := rz_s1 fun _ => rfl
theorem g200_12 : rg Z d rx_m200 12 [some (.ref a), l1, l2] S (rz_mk h ι, w) = rg Z d rx_m200 13 [some (.ref a), l1, l2] (.ref a :: S) (rz_mk h ι, w) := rz_s1 fun _ => rfl
theorem g200_13 (c : rz_fR h a 12 11) : rg Z d rx_m200 13 L (.ref a :: S) (rz_mk h ι, w) = rg Z d rx_m200 16 L (rz_rv h a 11 :: S) (rz_mk h ι, w) := rz_gR rfl (by decide) c
theorem g200_16 : rg Z d rx_m200 16 [l0, some (.int x), l2] S (rz_mk h ι, w) = rg Z d rx_m200 17 [l0, some (.int x), l2] (.int x :: S) (rz_mk h ι, w) := rz_s1 fun _ => rfl
theorem g200_17 (c : rz_ar h a 0) (hi : rz_ix x (rz_ln h a)) : rg Z d rx_m200 17 L (.int x :: .ref a :: S) (rz_mk h ι, w) = rg Z d rx_m200 18 L (.int (ι a x.toNatClampNeg) :: S) (rz_mk h ι, w) := rz_iald rfl c hi
theorem g200_18 (c : rz_ar h a 0) (hi : rz_ix x (rz_ln h a)) (hz : Z.2.1 ≤ a) : rg Z d rx_m200 18 L (.int y :: .int x :: .ref a :: S) (rz_mk h ι, w) = rg Z d rx_m200 19 L S (rz_mk h (rz_up ι a x.toNatClampNeg y), w) := rz_iast rfl c hi hz
theorem g200_19 : rg Z d rx_m200 19 [some (.ref b), some (.int x), l2] S (rz_mk h ι, w) = rg Z d rx_m200 22 [some (.ref b), some (.int (x + 1)), l2] S (rz_mk h ι, w) := rz_s1 fun _ => rfl
theorem g200_22 : rg Z d rx_m200 22 L S (rz_mk h ι, w) = rg Z d rx_m200 2 L S (rz_mk h ι, w) := rz_s1 fun _ => rfl
theorem g200_25 : rg Z d rx_m200 25 [some (.ref a), l1, l2] S (rz_mk h ι, w) = rg Z d rx_m200 26 [some (.ref a), l1, l2] (.ref a :: S) (rz_mk h ι, w) := rz_s1 fun _ => rfl
theorem g200_26 (c : rz_fR h a 12 13) : rg Z d rx_m200 26 L (.ref a :: S) (rz_mk h ι, w) = rg Z d rx_m200 29 L (rz_rv h a 13 :: S) (rz_mk h ι, w) := rz_gR rfl (by decide) c
theorem g200_29 : rg Z d rx_m200 29 [some (.ref a), l1, l2] S (rz_mk h ι, w) = rg Z d rx_m200 30 [some (.ref a), l1, l2] (.ref a :: S) (rz_mk h ι, w) := rz_s1 fun _ => rfl
theorem g200_30 (c : rz_fR h a 12 14) : rg Z d rx_m200 30 L (.ref a :: S) (rz_mk h ι, w) = rg Z d rx_m200 33 L (rz_rv h a 14 :: S) (rz_mk h ι, w) := rz_gR rfl (by decide) c
theorem g200_33 : rg Z d rx_m200 33 [some (.ref a), l1, l2] S (rz_mk h ι, w) = rg Z d rx_m200 34 [some (.ref a), l1, l2] (.ref a :: S) (rz_mk h ι, w) := rz_s1 fun _ => rfl
theorem g200_34 (c : rz_fR h a 12 12) : rg Z d rx_m200 34 L (.ref a :: S) (rz_mk h ι, w) = rg Z d rx_m200 37 L (rz_rv h a 12 :: S) (rz_mk h ι, w) := rz_gR rfl (by decide) c
theorem g200_37 : rg Z d rx_m200 37 L S (rz_mk h ι, w) = rg Z d rx_m200 38 L (.int 0 :: S) (rz_mk h ι, w) := rz_s1 fun _ => rfl
theorem g200_38 (c : rz_ar h a 0) (hi : rz_ix x (rz_ln h a)) : rg Z d rx_m200 38 L (.int x :: .ref a :: S) (rz_mk h ι, w) = rg Z d rx_m200 39 L (.int (ι a x.toNatClampNeg) :: S) (rz_mk h ι, w) := rz_iald rfl c hi
theorem g200_39 : rg Z d rx_m200 39 L (v3 :: v2 :: v1 :: []) (rz_mk h ι, w) = rz_k true (rz_f Z d 198 [v1, v2, v3] (rz_mk h ι, w)) (fun v σ' => rg Z d rx_m200 42 L (v.toList ++ []) σ') := rz_cs (pc := 39) (n := 3) (mi := 198) (S := v3 :: v2 :: v1 :: []) (rest := []) rfl rfl (Nat.le_of_ble_eq_true rfl) (Nat.le_of_ble_eq_true rfl)
theorem g200_42 : rg Z d rx_m200 42 L S (rz_mk h ι, w) = rg Z d rx_m200 43 L (.int 0 :: S) (rz_mk h ι, w) := rz_s1 fun _ => rfl
theorem g200_43 : rg Z d rx_m200 43 [some (.ref b), l1, l2] (.int x :: S) (rz_mk h ι, w) = rg Z d rx_m200 44 [some (.ref b), some (.int x), l2] S (rz_mk h ι, w) := rz_s1 fun _ => rfl
theorem g200_44 : rg Z d rx_m200 44 [l0, some (.int x), l2] S (rz_mk h ι, w) = rg Z d rx_m200 45 [l0, some (.int x), l2] (.int x :: S) (rz_mk h ι, w) := rz_s1 fun _ => rfl
theorem g200_45 : rg Z d rx_m200 45 L S (rz_mk h ι, w) = rg Z d rx_m200 47 L (.int 62 :: S) (rz_mk h ι, w) := rz_s1 fun _ => rfl
theorem g200_47 : rg Z d rx_m200 47 L (.int y :: .int x :: S) (rz_mk h ι, w) = if x < y then rg Z d rx_m200 50 L S (rz_mk h ι, w) else rg Z d rx_m200 63 L S (rz_mk h ι, w) := rz_if2 (pc := 47) (t := 63) (off := 16) (cc := .ge) (by decide) rfl
theorem g200_50 : rg Z d rx_m200 50 [some (.ref a), l1, l2] S (rz_mk h ι, w) = rg Z d rx_m200 51 [some (.ref a), l1, l2] (.ref a :: S) (rz_mk h ι, w) := rz_s1 fun _ => rfl
theorem g200_51 (c : rz_fR h a 12 25) : rg Z d rx_m200 51 L (.ref a :: S) (rz_mk h ι, w) = rg Z d rx_m200 54 L (rz_rv h a 25 :: S) (rz_mk h ι, w) := rz_gR rfl (by decide) c
theorem g200_54 : rg Z d rx_m200 54 [l0, some (.int x), l2] S (rz_mk h ι, w) = rg Z d rx_m200 55 [l0, some (.int x), l2] (.int x :: S) (rz_mk h ι, w) := rz_s1 fun _ => rfl
theorem g200_55 : rg Z d rx_m200 55 L S (rz_mk h ι, w) = rg Z d rx_m200 56 L (.int 0 :: S) (rz_mk h ι, w) := rz_s1 fun _ => rfl
theorem g200_56 (c : rz_ar h a 0) (hi : rz_ix x (rz_ln h a)) (hz : Z.2.1 ≤ a) : rg Z d rx_m200 56 L (.int y :: .int x :: .ref a :: S) (rz_mk h ι, w) = rg Z d rx_m200 57 L S (rz_mk h (rz_up ι a x.toNatClampNeg y), w) := rz_iast rfl c hi hz
theorem g200_57 : rg Z d rx_m200 57 [some (.ref b), some (.int x), l2] S (rz_mk h ι, w) = rg Z d rx_m200 60 [some (.ref b), some (.int (x + 1)), l2] S (rz_mk h ι, w) := rz_s1 fun _ => rfl
theorem g200_60 : rg Z d rx_m200 60 L S (rz_mk h ι, w) = rg Z d rx_m200 44 L S (rz_mk h ι, w) := rz_s1 fun _ => rfl
theorem g200_63 : rg Z d rx_m200 63 L S (rz_mk h ι, w) = rg Z d rx_m200 64 L (.int 0 :: S) (rz_mk h ι, w) := rz_s1 fun _ => rfl
theorem g200_64 : rg Z d rx_m200 64 [some (.ref b), l1, l2] (.int x :: S) (rz_mk h ι, w) = rg Z d rx_m200 65 [some (.ref b), some (.int x), l2] S (rz_mk h ι, w) := rz_s1 fun _ => rfl
theorem g200_65 : rg Z d rx_m200 65 [l0, some (.int x), l2] S (rz_mk h ι, w) = rg Z d rx_m200 66 [l0, some (.int x), l2] (.int x :: S) (rz_mk h ι, w) := rz_s1 fun _ => rfl
theorem g200_66 : rg Z d rx_m200 66 [some (.ref a), l1, l2] S (rz_mk h ι, w) = rg Z d rx_m200 67 [some (.ref a), l1, l2] (.ref a :: S) (rz_mk h ι, w) := rz_s1 fun _ => rfl
theorem g200_67 (c : rz_fR h a 12 12) : rg Z d rx_m200 67 L (.ref a :: S) (rz_mk h ι, w) = rg Z d rx_m200 70 L (rz_rv h a 12 :: S) (rz_mk h ι, w) := rz_gR rfl (by decide) c
theorem g200_70 : rg Z d rx_m200 70 L S (rz_mk h ι, w) = rg Z d rx_m200 71 L (.int 0 :: S) (rz_mk h ι, w) := rz_s1 fun _ => rfl
theorem g200_71 (c : rz_ar h a 0) (hi : rz_ix x (rz_ln h a)) : rg Z d rx_m200 71 L (.int x :: .ref a :: S) (rz_mk h ι, w) = rg Z d rx_m200 72 L (.int (ι a x.toNatClampNeg) :: S) (rz_mk h ι, w) := rz_iald rfl c hi
theorem g200_72 : rg Z d rx_m200 72 L (.int y :: .int x :: S) (rz_mk h ι, w) = if x < y then rg Z d rx_m200 75 L S (rz_mk h ι, w) else rg Z d rx_m200 146 L S (rz_mk h ι, w) := rz_if2 (pc := 72) (t := 146) (off := 74) (cc := .ge) (by decide) rfl
theorem g200_75 : rg Z d rx_m200 75 [some (.ref a), l1, l2] S (rz_mk h ι, w) = rg Z d rx_m200 76 [some (.ref a), l1, l2] (.ref a :: S) (rz_mk h ι, w) := rz_s1 fun _ => rfl
theorem g200_76 (c : rz_fR h a 12 25) : rg Z d rx_m200 76 L (.ref a :: S) (rz_mk h ι, w) = rg Z d rx_m200 79 L (rz_rv h a 25 :: S) (rz_mk h ι, w) := rz_gR rfl (by decide) c
theorem g200_79 : rg Z d rx_m200 79 L S (rz_mk h ι, w) = rg Z d rx_m200 81 L (.int 48 :: S) (rz_mk h ι, w) := rz_s1 fun _ => rfl
theorem g200_81 : rg Z d rx_m200 81 [l0, some (.int x), l2] S (rz_mk h ι, w) = rg Z d rx_m200 82 [l0, some (.int x), l2] (.int x :: S) (rz_mk h ι, w) := rz_s1 fun _ => rfl
theorem g200_82 : rg Z d rx_m200 82 L (.int y :: .int x :: S) (rz_mk h ι, w) = rg Z d rx_m200 83 L (.int (x + y) :: S) (rz_mk h ι, w) := rz_s1 fun _ => rfl
theorem g200_83 : rg Z d rx_m200 83 L S (rz_mk h ι, w) = rg Z d rx_m200 85 L (.int 20 :: S) (rz_mk h ι, w) := rz_s1 fun _ => rfl
theorem g200_85 (c : rz_ar h a 0) (hi : rz_ix x (rz_ln h a)) (hz : Z.2.1 ≤ a) : rg Z d rx_m200 85 L (.int y :: .int x :: .ref a :: S) (rz_mk h ι, w) = rg Z d rx_m200 86 L S (rz_mk h (rz_up ι a x.toNatClampNeg y), w) := rz_iast rfl c hi hz
theorem g200_86 : rg Z d rx_m200 86 L S (rz_mk h ι, w) = rg Z d rx_m200 87 L (.int 0 :: S) (rz_mk h ι, w) := rz_s1 fun _ => rfl
theorem g200_87 : rg Z d rx_m200 87 [l0, some (.int z), l2] (.int x :: S) (rz_mk h ι, w) = rg Z d rx_m200 88 [l0, some (.int z), some (.int x)] S (rz_mk h ι, w) := rz_s1 fun _ => rfl
theorem g200_88 : rg Z d rx_m200 88 [l0, l1, some (.int x)] S (rz_mk h ι, w) = rg Z d rx_m200 89 [l0, l1, some (.int x)] (.int x :: S) (rz_mk h ι, w) := rz_s1 fun _ => rfl
theorem g200_89 : rg Z d rx_m200 89 L S (rz_mk h ι, w) = rg Z d rx_m200 90 L (.int 3 :: S) (rz_mk h ι, w) := rz_s1 fun _ => rfl
theorem g200_90 : rg Z d rx_m200 90 L (.int y :: .int x :: S) (rz_mk h ι, w) = if x < y then rg Z d rx_m200 93 L S (rz_mk h ι, w) else rg Z d rx_m200 140 L S (rz_mk h ι, w) := rz_if2 (pc := 90) (t := 140) (off := 50) (cc := .ge) (by decide) rfl
theorem g200_93 : rg Z d rx_m200 93 [some (.ref a), l1, l2] S (rz_mk h ι, w) = rg Z d rx_m200 94 [some (.ref a), l1, l2] (.ref a :: S) (rz_mk h ι, w) := rz_s1 fun _ => rfl
theorem g200_94 (c : rz_fR h a 12 25) : rg Z d rx_m200 94 L (.ref a :: S) (rz_mk h ι, w) = rg Z d rx_m200 97 L (rz_rv h a 25 :: S) (rz_mk h ι, w) := rz_gR rfl (by decide) c
theorem g200_97 : rg Z d rx_m200 97 L S (rz_mk h ι, w) = rg Z d rx_m200 98 L (.int 0 :: S) (rz_mk h ι, w) := rz_s1 fun _ => rfl
theorem g200_98 : rg Z d rx_m200 98 L S (rz_mk h ι, w) = rg Z d rx_m200 99 L (.int 3 :: S) (rz_mk h ι, w) := rz_s1 fun _ => rfl
theorem g200_99 : rg Z d rx_m200 99 [l0, some (.int x), l2] S (rz_mk h ι, w) = rg Z d rx_m200 100 [l0, some (.int x), l2] (.int x :: S) (rz_mk h ι, w) := rz_s1 fun _ => rfl
theorem g200_100 : rg Z d rx_m200 100 L (.int y :: .int x :: S) (rz_mk h ι, w) = rg Z d rx_m200 101 L (.int (x * y) :: S) (rz_mk h ι, w) := rz_s1 fun _ => rfl
theorem g200_101 : rg Z d rx_m200 101 L (.int y :: .int x :: S) (rz_mk h ι, w) = rg Z d rx_m200 102 L (.int (x + y) :: S) (rz_mk h ι, w) := rz_s1 fun _ => rfl
theorem g200_102 : rg Z d rx_m200 102 [l0, l1, some (.int x)] S (rz_mk h ι, w) = rg Z d rx_m200 103 [l0, l1, some (.int x)] (.int x :: S) (rz_mk h ι, w) := rz_s1 fun _ => rfl
theorem g200_103 : rg Z d rx_m200 103 L (.int y :: .int x :: S) (rz_mk h ι, w) = rg Z d rx_m200 104 L (.int (x + y) :: S) (rz_mk h ι, w) := rz_s1 fun _ => rfl
theorem g200_104 : rg Z d rx_m200 104 [some (.ref a), l1, l2] S (rz_mk h ι, w) = rg Z d rx_m200 105 [some (.ref a), l1, l2] (.ref a :: S) (rz_mk h ι, w) := rz_s1 fun _ => rfl
theorem g200_105 (c : rz_fR h a 12 14) : rg Z d rx_m200 105 L (.ref a :: S) (rz_mk h ι, w) = rg Z d rx_m200 108 L (rz_rv h a 14 :: S) (rz_mk h ι, w) := rz_gR rfl (by decide) c
theorem g200_108 : rg Z d rx_m200 108 [l0, some (.int x), l2] S (rz_mk h ι, w) = rg Z d rx_m200 109 [l0, some (.int x), l2] (.int x :: S) (rz_mk h ι, w) := rz_s1 fun _ => rfl
theorem g200_109 (c : rz_ar h a 3) (hi : rz_ix x (rz_ln h a)) : rg Z d rx_m200 109 L (.int x :: .ref a :: S) (rz_mk h ι, w) = rg Z d rx_m200 110 L (rz_el h a x.toNatClampNeg :: S) (rz_mk h ι, w) := rz_aald (by decide) rfl c hi
theorem g200_110 : rg Z d rx_m200 110 [l0, l1, some (.int x)] S (rz_mk h ι, w) = rg Z d rx_m200 111 [l0, l1, some (.int x)] (.int x :: S) (rz_mk h ι, w) := rz_s1 fun _ => rfl
theorem g200_111 (c : rz_ar h a 0) (hi : rz_ix x (rz_ln h a)) : rg Z d rx_m200 111 L (.int x :: .ref a :: S) (rz_mk h ι, w) = rg Z d rx_m200 112 L (.int (ι a x.toNatClampNeg) :: S) (rz_mk h ι, w) := rz_iald rfl c hi
theorem g200_112 (c : rz_ar h a 0) (hi : rz_ix x (rz_ln h a)) (hz : Z.2.1 ≤ a) : rg Z d rx_m200 112 L (.int y :: .int x :: .ref a :: S) (rz_mk h ι, w) = rg Z d rx_m200 113 L S (rz_mk h (rz_up ι a x.toNatClampNeg y), w) := rz_iast rfl c hi hz
theorem g200_113 : rg Z d rx_m200 113 [some (.ref a), l1, l2] S (rz_mk h ι, w) = rg Z d rx_m200 114 [some (.ref a), l1, l2] (.ref a :: S) (rz_mk h ι, w) := rz_s1 fun _ => rfl
theorem g200_114 (c : rz_fR h a 12 25) : rg Z d rx_m200 114 L (.ref a :: S) (rz_mk h ι, w) = rg Z d rx_m200 117 L (rz_rv h a 25 :: S) (rz_mk h ι, w) := rz_gR rfl (by decide) c
theorem g200_117 : rg Z d rx_m200 117 L S (rz_mk h ι, w) = rg Z d rx_m200 119 L (.int 24 :: S) (rz_mk h ι, w) := rz_s1 fun _ => rfl
theorem g200_119 : rg Z d rx_m200 119 L S (rz_mk h ι, w) = rg Z d rx_m200 120 L (.int 3 :: S) (rz_mk h ι, w) := rz_s1 fun _ => rfl
theorem g200_120 : rg Z d rx_m200 120 [l0, some (.int x), l2] S (rz_mk h ι, w) = rg Z d rx_m200 121 [l0, some (.int x), l2] (.int x :: S) (rz_mk h ι, w) := rz_s1 fun _ => rfl
theorem g200_121 : rg Z d rx_m200 121 L (.int y :: .int x :: S) (rz_mk h ι, w) = rg Z d rx_m200 122 L (.int (x * y) :: S) (rz_mk h ι, w) := rz_s1 fun _ => rfl
theorem g200_122 : rg Z d rx_m200 122 L (.int y :: .int x :: S) (rz_mk h ι, w) = rg Z d rx_m200 123 L (.int (x + y) :: S) (rz_mk h ι, w) := rz_s1 fun _ => rfl
theorem g200_123 : rg Z d rx_m200 123 [l0, l1, some (.int x)] S (rz_mk h ι, w) = rg Z d rx_m200 124 [l0, l1, some (.int x)] (.int x :: S) (rz_mk h ι, w) := rz_s1 fun _ => rfl
theorem g200_124 : rg Z d rx_m200 124 L (.int y :: .int x :: S) (rz_mk h ι, w) = rg Z d rx_m200 125 L (.int (x + y) :: S) (rz_mk h ι, w) := rz_s1 fun _ => rfl
theorem g200_125 : rg Z d rx_m200 125 [some (.ref a), l1, l2] S (rz_mk h ι, w) = rg Z d rx_m200 126 [some (.ref a), l1, l2] (.ref a :: S) (rz_mk h ι, w) := rz_s1 fun _ => rfl
theorem g200_126 (c : rz_fR h a 12 14) : rg Z d rx_m200 126 L (.ref a :: S) (rz_mk h ι, w) = rg Z d rx_m200 129 L (rz_rv h a 14 :: S) (rz_mk h ι, w) := rz_gR rfl (by decide) c
theorem g200_129 : rg Z d rx_m200 129 [l0, some (.int x), l2] S (rz_mk h ι, w) = rg Z d rx_m200 130 [l0, some (.int x), l2] (.int x :: S) (rz_mk h ι, w) := rz_s1 fun _ => rfl
theorem g200_130 (c : rz_ar h a 3) (hi : rz_ix x (rz_ln h a)) : rg Z d rx_m200 130 L (.int x :: .ref a :: S) (rz_mk h ι, w) = rg Z d rx_m200 131 L (rz_el h a x.toNatClampNeg :: S) (rz_mk h ι, w) := rz_aald (by decide) rfl c hi
theorem g200_131 : rg Z d rx_m200 131 [l0, l1, some (.int x)] S (rz_mk h ι, w) = rg Z d rx_m200 132 [l0, l1, some (.int x)] (.int x :: S) (rz_mk h ι, w) := rz_s1 fun _ => rfl
theorem g200_132 (c : rz_ar h a 0) (hi : rz_ix x (rz_ln h a)) : rg Z d rx_m200 132 L (.int x :: .ref a :: S) (rz_mk h ι, w) = rg Z d rx_m200 133 L (.int (ι a x.toNatClampNeg) :: S) (rz_mk h ι, w) := rz_iald rfl c hi
theorem g200_133 (c : rz_ar h a 0) (hi : rz_ix x (rz_ln h a)) (hz : Z.2.1 ≤ a) : rg Z d rx_m200 133 L (.int y :: .int x :: .ref a :: S) (rz_mk h ι, w) = rg Z d rx_m200 134 L S (rz_mk h (rz_up ι a x.toNatClampNeg y), w) := rz_iast rfl c hi hz
theorem g200_134 : rg Z d rx_m200 134 [l0, some (.int z), some (.int x)] S (rz_mk h ι, w) = rg Z d rx_m200 137 [l0, some (.int z), some (.int (x + 1))] S (rz_mk h ι, w) := rz_s1 fun _ => rfl
theorem g200_137 : rg Z d rx_m200 137 L S (rz_mk h ι, w) = rg Z d rx_m200 88 L S (rz_mk h ι, w) := rz_s1 fun _ => rfl
theorem g200_140 : rg Z d rx_m200 140 [some (.ref b), some (.int x), l2] S (rz_mk h ι, w) = rg Z d rx_m200 143 [some (.ref b), some (.int (x + 1)), l2] S (rz_mk h ι, w) := rz_s1 fun _ => rfl
theorem g200_143 : rg Z d rx_m200 143 L S (rz_mk h ι, w) = rg Z d rx_m200 65 L S (rz_mk h ι, w) := rz_s1 fun _ => rfl
theorem g200_146 : rg Z d rx_m200 146 [some (.ref a), l1, l2] S (rz_mk h ι, w) = rg Z d rx_m200 147 [some (.ref a), l1, l2] (.ref a :: S) (rz_mk h ι, w) := rz_s1 fun _ => rfl
theorem g200_147 (c : rz_fR h a 12 25) : rg Z d rx_m200 147 L (.ref a :: S) (rz_mk h ι, w) = rg Z d rx_m200 150 L (rz_rv h a 25 :: S) (rz_mk h ι, w) := rz_gR rfl (by decide) c
theorem g200_150 : rg Z d rx_m200 150 L S (rz_mk h ι, w) = rg Z d rx_m200 152 L (.int 56 :: S) (rz_mk h ι, w) := rz_s1 fun _ => rfl
theorem g200_152 : rg Z d rx_m200 152 L S (rz_mk h ι, w) = rg Z d rx_m200 153 L (.int 1 :: S) (rz_mk h ι, w) := rz_s1 fun _ => rfl
theorem g200_153 : rg Z d rx_m200 153 [some (.ref a), l1, l2] S (rz_mk h ι, w) = rg Z d rx_m200 154 [some (.ref a), l1, l2] (.ref a :: S) (rz_mk h ι, w) := rz_s1 fun _ => rfl
theorem g200_154 (c : rz_fR h a 12 12) : rg Z d rx_m200 154 L (.ref a :: S) (rz_mk h ι, w) = rg Z d rx_m200 157 L (rz_rv h a 12 :: S) (rz_mk h ι, w) := rz_gR rfl (by decide) c
theorem g200_157 : rg Z d rx_m200 157 L S (rz_mk h ι, w) = rg Z d rx_m200 158 L (.int 0 :: S) (rz_mk h ι, w) := rz_s1 fun _ => rfl
theorem g200_158 (c : rz_ar h a 0) (hi : rz_ix x (rz_ln h a)) : rg Z d rx_m200 158 L (.int x :: .ref a :: S) (rz_mk h ι, w) = rg Z d rx_m200 159 L (.int (ι a x.toNatClampNeg) :: S) (rz_mk h ι, w) := rz_iald rfl c hi
theorem g200_159 : rg Z d rx_m200 159 L (.int y :: .int x :: S) (rz_mk h ι, w) = rg Z d rx_m200 160 L (.int (x <<< (y &&& 31)) :: S) (rz_mk h ι, w) := rz_s1 fun _ => rfl
theorem g200_160 : rg Z d rx_m200 160 L S (rz_mk h ι, w) = rg Z d rx_m200 161 L (.int 1 :: S) (rz_mk h ι, w) := rz_s1 fun _ => rfl
theorem g200_161 : rg Z d rx_m200 161 L (.int y :: .int x :: S) (rz_mk h ι, w) = rg Z d rx_m200 162 L (.int (x - y) :: S) (rz_mk h ι, w) := rz_s1 fun _ => rfl
theorem g200_162 (c : rz_ar h a 0) (hi : rz_ix x (rz_ln h a)) (hz : Z.2.1 ≤ a) : rg Z d rx_m200 162 L (.int y :: .int x :: .ref a :: S) (rz_mk h ι, w) = rg Z d rx_m200 163 L S (rz_mk h (rz_up ι a x.toNatClampNeg y), w) := rz_iast rfl c hi hz
theorem g200_163 : rg Z d rx_m200 163 [some (.ref a), l1, l2] S (rz_mk h ι, w) = rg Z d rx_m200 164 [some (.ref a), l1, l2] (.ref a :: S) (rz_mk h ι, w) := rz_s1 fun _ => rfl
theorem g200_164 (c : rz_fR h a 12 25) : rg Z d rx_m200 164 L (.ref a :: S) (rz_mk h ι, w) = rg Z d rx_m200 167 L (rz_rv h a 25 :: S) (rz_mk h ι, w) := rz_gR rfl (by decide) c
theorem g200_167 : rg Z d rx_m200 167 L S (rz_mk h ι, w) = rg Z d rx_m200 169 L (.int 57 :: S) (rz_mk h ι, w) := rz_s1 fun _ => rfl
theorem g200_169 : rg Z d rx_m200 169 [some (.ref a), l1, l2] S (rz_mk h ι, w) = rg Z d rx_m200 170 [some (.ref a), l1, l2] (.ref a :: S) (rz_mk h ι, w) := rz_s1 fun _ => rfl
theorem g200_170 (c : rz_fR h a 12 12) : rg Z d rx_m200 170 L (.ref a :: S) (rz_mk h ι, w) = rg Z d rx_m200 173 L (rz_rv h a 12 :: S) (rz_mk h ι, w) := rz_gR rfl (by decide) c
theorem g200_173 : rg Z d rx_m200 173 L S (rz_mk h ι, w) = rg Z d rx_m200 174 L (.int 0 :: S) (rz_mk h ι, w) := rz_s1 fun _ => rfl
theorem g200_174 (c : rz_ar h a 0) (hi : rz_ix x (rz_ln h a)) : rg Z d rx_m200 174 L (.int x :: .ref a :: S) (rz_mk h ι, w) = rg Z d rx_m200 175 L (.int (ι a x.toNatClampNeg) :: S) (rz_mk h ι, w) := rz_iald rfl c hi
theorem g200_175 (c : rz_ar h a 0) (hi : rz_ix x (rz_ln h a)) (hz : Z.2.1 ≤ a) : rg Z d rx_m200 175 L (.int y :: .int x :: .ref a :: S) (rz_mk h ι, w) = rg Z d rx_m200 176 L S (rz_mk h (rz_up ι a x.toNatClampNeg y), w) := rz_iast rfl c hi hz
theorem g200_176 : rg Z d rx_m200 176 [some (.ref a), l1, l2] S (rz_mk h ι, w) = rg Z d rx_m200 177 [some (.ref a), l1, l2] (.ref a :: S) (rz_mk h ι, w) := rz_s1 fun _ => rfl
theorem g200_177 (c : rz_fR h a 12 25) : rg Z d rx_m200 177 L (.ref a :: S) (rz_mk h ι, w) = rg Z d rx_m200 180 L (rz_rv h a 25 :: S) (rz_mk h ι, w) := rz_gR rfl (by decide) c
theorem g200_180 : rg Z d rx_m200 180 L S (rz_mk h ι, w) = rg Z d rx_m200 182 L (.int 58 :: S) (rz_mk h ι, w) := rz_s1 fun _ => rfl
theorem g200_182 : rg Z d rx_m200 182 [some (.ref a), l1, l2] S (rz_mk h ι, w) = rg Z d rx_m200 183 [some (.ref a), l1, l2] (.ref a :: S) (rz_mk h ι, w) := rz_s1 fun _ => rfl
theorem g200_183 (c : rz_fR h a 12 12) : rg Z d rx_m200 183 L (.ref a :: S) (rz_mk h ι, w) = rg Z d rx_m200 186 L (rz_rv h a 12 :: S) (rz_mk h ι, w) := rz_gR rfl (by decide) c
theorem g200_186 : rg Z d rx_m200 186 L S (rz_mk h ι, w) = rg Z d rx_m200 187 L (.int 0 :: S) (rz_mk h ι, w) := rz_s1 fun _ => rfl
theorem g200_187 (c : rz_ar h a 0) (hi : rz_ix x (rz_ln h a)) : rg Z d rx_m200 187 L (.int x :: .ref a :: S) (rz_mk h ι, w) = rg Z d rx_m200 188 L (.int (ι a x.toNatClampNeg) :: S) (rz_mk h ι, w) := rz_iald rfl c hi
theorem g200_188 : rg Z d rx_m200 188 L (.int x :: S) (rz_mk h ι, w) = if x = 0 then rg Z d rx_m200 191 L S (rz_mk h ι, w) else rg Z d rx_m200 195 L S (rz_mk h ι, w) := rz_if1 (pc := 188) (t := 195) (off := 7) (cc := .ne) (by decide) rfl
theorem g200_191 : rg Z d rx_m200 191 L S (rz_mk h ι, w) = rg Z d rx_m200 192 L (.int (-1) :: S) (rz_mk h ι, w) := rz_s1 fun _ => rfl
theorem g200_192 : rg Z d rx_m200 192 L S (rz_mk h ι, w) = rg Z d rx_m200 201 L S (rz_mk h ι, w) := rz_s1 fun _ => rfl
theorem g200_195 : rg Z d rx_m200 195 [some (.ref a), l1, l2] S (rz_mk h ι, w) = rg Z d rx_m200 196 [some (.ref a), l1, l2] (.ref a :: S) (rz_mk h ι, w) := rz_s1 fun _ => rfl
theorem g200_196 (c : rz_fR h a 12 12) : rg Z d rx_m200 196 L (.ref a :: S) (rz_mk h ι, w) = rg Z d rx_m200 199 L (rz_rv h a 12 :: S) (rz_mk h ι, w) := rz_gR rfl (by decide) c
theorem g200_199 : rg Z d rx_m200 199 L S (rz_mk h ι, w) = rg Z d rx_m200 200 L (.int 1 :: S) (rz_mk h ι, w) := rz_s1 fun _ => rfl
theorem g200_200 (c : rz_ar h a 0) (hi : rz_ix x (rz_ln h a)) : rg Z d rx_m200 200 L (.int x :: .ref a :: S) (rz_mk h ι, w) = rg Z d rx_m200 201 L (.int (ι a x.toNatClampNeg) :: S) (rz_mk h ι, w) := rz_iald rfl c hi
theorem g200_201 (c : rz_ar h a 0) (hi : rz_ix x (rz_ln h a)) (hz : Z.2.1 ≤ a) : rg Z d rx_m200 201 L (.int y :: .int x :: .ref a :: S) (rz_mk h ι, w) = rg Z d rx_m200 202 L S (rz_mk h (rz_up ι a x.toNatClampNeg y), w) := rz_iast rfl c hi hz
theorem g200_202 : rg Z d rx_m200 202 [some (.ref a), l1, l2] S (rz_mk h ι, w) = rg Z d rx_m200 203 [some (.ref a), l1, l2] (.ref a :: S) (rz_mk h ι, w) := rz_s1 fun _ => rfl
theorem g200_203 (c : rz_fR h a 12 25) : rg Z d rx_m200 203 L (.ref a :: S) (rz_mk h ι, w) = rg Z d rx_m200 206 L (rz_rv h a 25 :: S) (rz_mk h ι, w) := rz_gR rfl (by decide) c
theorem g200_206 : rg Z d rx_m200 206 L S (rz_mk h ι, w) = rg Z d rx_m200 208 L (.int 60 :: S) (rz_mk h ι, w) := rz_s1 fun _ => rfl
theorem g200_208 : rg Z d rx_m200 208 [some (.ref a), l1, l2] S (rz_mk h ι, w) = rg Z d rx_m200 209 [some (.ref a), l1, l2] (.ref a :: S) (rz_mk h ι, w) := rz_s1 fun _ => rfl
theorem g200_209 (c : rz_fR h a 12 12) : rg Z d rx_m200 209 L (.ref a :: S) (rz_mk h ι, w) = rg Z d rx_m200 212 L (rz_rv h a 12 :: S) (rz_mk h ι, w) := rz_gR rfl (by decide) c
theorem g200_212 : rg Z d rx_m200 212 L S (rz_mk h ι, w) = rg Z d rx_m200 213 L (.int 0 :: S) (rz_mk h ι, w) := rz_s1 fun _ => rfl
theorem g200_213 (c : rz_ar h a 0) (hi : rz_ix x (rz_ln h a)) : rg Z d rx_m200 213 L (.int x :: .ref a :: S) (rz_mk h ι, w) = rg Z d rx_m200 214 L (.int (ι a x.toNatClampNeg) :: S) (rz_mk h ι, w) := rz_iald rfl c hi
theorem g200_214 : rg Z d rx_m200 214 L (.int x :: S) (rz_mk h ι, w) = if x = 0 then rg Z d rx_m200 217 L S (rz_mk h ι, w) else rg Z d rx_m200 221 L S (rz_mk h ι, w) := rz_if1 (pc := 214) (t := 221) (off := 7) (cc := .ne) (by decide) rfl
theorem g200_217 : rg Z d rx_m200 217 L S (rz_mk h ι, w) = rg Z d rx_m200 218 L (.int 0 :: S) (rz_mk h ι, w) := rz_s1 fun _ => rfl
theorem g200_218 : rg Z d rx_m200 218 L S (rz_mk h ι, w) = rg Z d rx_m200 222 L S (rz_mk h ι, w) := rz_s1 fun _ => rfl
theorem g200_221 : rg Z d rx_m200 221 L S (rz_mk h ι, w) = rg Z d rx_m200 222 L (.int 1 :: S) (rz_mk h ι, w) := rz_s1 fun _ => rfl
theorem g200_222 (c : rz_ar h a 0) (hi : rz_ix x (rz_ln h a)) (hz : Z.2.1 ≤ a) : rg Z d rx_m200 222 L (.int y :: .int x :: .ref a :: S) (rz_mk h ι, w) = rg Z d rx_m200 223 L S (rz_mk h (rz_up ι a x.toNatClampNeg y), w) := rz_iast rfl c hi hz
theorem g200_223 : rg Z d rx_m200 223 [some (.ref a), l1, l2] S (rz_mk h ι, w) = rg Z d rx_m200 224 [some (.ref a), l1, l2] (.ref a :: S) (rz_mk h ι, w) := rz_s1 fun _ => rfl
theorem g200_224 : rg Z d rx_m200 224 L S (rz_mk h ι, w) = rg Z d rx_m200 225 L (.int 0 :: S) (rz_mk h ι, w) := rz_s1 fun _ => rfl
theorem g200_225 (c : rz_fI h a 12 15) (hz : Z.2.1 ≤ a) : rg Z d rx_m200 225 L (.int x :: .ref a :: S) (rz_mk h ι, w) = rg Z d rx_m200 228 L S (rz_mk h (rz_up ι a 15 x), w) := rz_pI rfl c hz
theorem g200_228 : rg Z d rx_m200 228 [some (.ref a), l1, l2] S (rz_mk h ι, w) = rg Z d rx_m200 229 [some (.ref a), l1, l2] (.ref a :: S) (rz_mk h ι, w) := rz_s1 fun _ => rfl
theorem g200_229 : rg Z d rx_m200 229 L S (rz_mk h ι, w) = rg Z d rx_m200 230 L (.int 0 :: S) (rz_mk h ι, w) := rz_s1 fun _ => rfl
theorem g200_230 (c : rz_fI h a 12 29) (hz : Z.2.1 ≤ a) : rg Z d rx_m200 230 L (.int x :: .ref a :: S) (rz_mk h ι, w) = rg Z d rx_m200 233 L S (rz_mk h (rz_up ι a 29 x), w) := rz_pI rfl c hz
theorem g200_233 : rg Z d rx_m200 233 [some (.ref a), l1, l2] S (rz_mk h ι, w) = rg Z d rx_m200 234 [some (.ref a), l1, l2] (.ref a :: S) (rz_mk h ι, w) := rz_s1 fun _ => rfl
theorem g200_234 : rg Z d rx_m200 234 L S (rz_mk h ι, w) = rg Z d rx_m200 235 L (.int 0 :: S) (rz_mk h ι, w) := rz_s1 fun _ => rfl
theorem g200_235 (c : rz_fI h a 12 30) (hz : Z.2.1 ≤ a) : rg Z d rx_m200 235 L (.int x :: .ref a :: S) (rz_mk h ι, w) = rg Z d rx_m200 238 L S (rz_mk h (rz_up ι a 30 x), w) := rz_pI rfl c hz
theorem g200_238 : rg Z d rx_m200 238 [some (.ref a), l1, l2] S (rz_mk h ι, w) = rg Z d rx_m200 239 [some (.ref a), l1, l2] (.ref a :: S) (rz_mk h ι, w) := rz_s1 fun _ => rfl
theorem g200_239 : rg Z d rx_m200 239 L S (rz_mk h ι, w) = rg Z d rx_m200 240 L (.int 0 :: S) (rz_mk h ι, w) := rz_s1 fun _ => rfl
theorem g200_240 (c : rz_fI h a 12 31) (hz : Z.2.1 ≤ a) : rg Z d rx_m200 240 L (.int x :: .ref a :: S) (rz_mk h ι, w) = rg Z d rx_m200 243 L S (rz_mk h (rz_up ι a 31 x), w) := rz_pI rfl c hz
theorem g200_243 : rg Z d rx_m200 243 [some (.ref a), l1, l2] S (rz_mk h ι, w) = rg Z d rx_m200 244 [some (.ref a), l1, l2] (.ref a :: S) (rz_mk h ι, w) := rz_s1 fun _ => rfl
theorem g200_244 : rg Z d rx_m200 244 L S (rz_mk h ι, w) = rg Z d rx_m200 245 L (.int 0 :: S) (rz_mk h ι, w) := rz_s1 fun _ => rfl
theorem g200_245 (c : rz_fI h a 12 32) (hz : Z.2.1 ≤ a) : rg Z d rx_m200 245 L (.int x :: .ref a :: S) (rz_mk h ι, w) = rg Z d rx_m200 248 L S (rz_mk h (rz_up ι a 32 x), w) := rz_pI rfl c hz
theorem g200_248 : rg Z d rx_m200 248 L [] (rz_mk h ι, w) = some (.inl none, (rz_mk h ι, w)) := rz_r1 fun _ => rfl
theorem e200 : rz_f Z (d + 1) 200 [.ref t0] σ = rg Z d rx_m200 0 [some (.ref t0), none, none] [] σ := rz_f_eq rfl (Nat.le_of_ble_eq_true rfl)
theorem g201_0 : rg Z d rx_m201 0 [some (.ref a), l1, l2] S (rz_mk h ι, w) = rg Z d rx_m201 1 [some (.ref a), l1, l2] (.ref a :: S) (rz_mk h ι, w) := rz_s1 fun _ => rfl
theorem g201_1 (c : rz_fI h a 12 5) : rg Z d rx_m201 1 L (.ref a :: S) (rz_mk h ι, w) = rg Z d rx_m201 4 L (.int (ι a 5) :: S) (rz_mk h ι, w) := rz_gI rfl (by decide) c
theorem g201_4 : rg Z d rx_m201 4 L (.int x :: S) (rz_mk h ι, w) = if x = 0 then rg Z d rx_m201 8 L S (rz_mk h ι, w) else rg Z d rx_m201 7 L S (rz_mk h ι, w) := rz_if1 (pc := 4) (t := 8) (off := 4) (cc := .eq) (by decide) rfl
theorem g201_7 : rg Z d rx_m201 7 L [] (rz_mk h ι, w) = some (.inl none, (rz_mk h ι, w)) := rz_r1 fun _ => rfl
theorem g201_8 : rg Z d rx_m201 8 [some (.ref a), l1, l2] S (rz_mk h ι, w) = rg Z d rx_m201 9 [some (.ref a), l1, l2] (.ref a :: S) (rz_mk h ι, w) := rz_s1 fun _ => rfl
theorem g201_9 (c : rz_fR h a 12 18) : rg Z d rx_m201 9 L (.ref a :: S) (rz_mk h ι, w) = rg Z d rx_m201 12 L (rz_rv h a 18 :: S) (rz_mk h ι, w) := rz_gR rfl (by decide) c
theorem g201_12 : rg Z d rx_m201 12 [some (.ref a), l1, l2] S (rz_mk h ι, w) = rg Z d rx_m201 13 [some (.ref a), l1, l2] (.ref a :: S) (rz_mk h ι, w) := rz_s1 fun _ => rfl
theorem g201_13 (c : rz_fI h a 12 16) : rg Z d rx_m201 13 L (.ref a :: S) (rz_mk h ι, w) = rg Z d rx_m201 16 L (.int (ι a 16) :: S) (rz_mk h ι, w) := rz_gI rfl (by decide) c
theorem g201_16 (c : rz_ar h a 3) (hi : rz_ix x (rz_ln h a)) : rg Z d rx_m201 16 L (.int x :: .ref a :: S) (rz_mk h ι, w) = rg Z d rx_m201 17 L (rz_el h a x.toNatClampNeg :: S) (rz_mk h ι, w) := rz_aald (by decide) rfl c hi
theorem g201_17 : rg Z d rx_m201 17 L S (rz_mk h ι, w) = rg Z d rx_m201 18 L (.int 0 :: S) (rz_mk h ι, w) := rz_s1 fun _ => rfl
theorem g201_18 : rg Z d rx_m201 18 [l0, some (.int x), l2] S (rz_mk h ι, w) = rg Z d rx_m201 19 [l0, some (.int x), l2] (.int x :: S) (rz_mk h ι, w) := rz_s1 fun _ => rfl
theorem g201_19 (c : rz_ar h a 0) (hi : rz_ix x (rz_ln h a)) (hz : Z.2.1 ≤ a) : rg Z d rx_m201 19 L (.int y :: .int x :: .ref a :: S) (rz_mk h ι, w) = rg Z d rx_m201 20 L S (rz_mk h (rz_up ι a x.toNatClampNeg y), w) := rz_iast rfl c hi hz
theorem g201_20 : rg Z d rx_m201 20 [some (.ref a), l1, l2] S (rz_mk h ι, w) = rg Z d rx_m201 21 [some (.ref a), l1, l2] (.ref a :: S) (rz_mk h ι, w) := rz_s1 fun _ => rfl
theorem g201_21 (c : rz_fR h a 12 18) : rg Z d rx_m201 21 L (.ref a :: S) (rz_mk h ι, w) = rg Z d rx_m201 24 L (rz_rv h a 18 :: S) (rz_mk h ι, w) := rz_gR rfl (by decide) c
theorem g201_24 : rg Z d rx_m201 24 [some (.ref a), l1, l2] S (rz_mk h ι, w) = rg Z d rx_m201 25 [some (.ref a), l1, l2] (.ref a :: S) (rz_mk h ι, w) := rz_s1 fun _ => rfl
theorem g201_25 (c : rz_fI h a 12 16) : rg Z d rx_m201 25 L (.ref a :: S) (rz_mk h ι, w) = rg Z d rx_m201 28 L (.int (ι a 16) :: S) (rz_mk h ι, w) := rz_gI rfl (by decide) c
theorem g201_28 (c : rz_ar h a 3) (hi : rz_ix x (rz_ln h a)) : rg Z d rx_m201 28 L (.int x :: .ref a :: S) (rz_mk h ι, w) = rg Z d rx_m201 29 L (rz_el h a x.toNatClampNeg :: S) (rz_mk h ι, w) := rz_aald (by decide) rfl c hi
theorem g201_29 : rg Z d rx_m201 29 L S (rz_mk h ι, w) = rg Z d rx_m201 30 L (.int 1 :: S) (rz_mk h ι, w) := rz_s1 fun _ => rfl
theorem g201_30 : rg Z d rx_m201 30 [l0, l1, some (.int x)] S (rz_mk h ι, w) = rg Z d rx_m201 31 [l0, l1, some (.int x)] (.int x :: S) (rz_mk h ι, w) := rz_s1 fun _ => rfl
theorem g201_31 (c : rz_ar h a 0) (hi : rz_ix x (rz_ln h a)) (hz : Z.2.1 ≤ a) : rg Z d rx_m201 31 L (.int y :: .int x :: .ref a :: S) (rz_mk h ι, w) = rg Z d rx_m201 32 L S (rz_mk h (rz_up ι a x.toNatClampNeg y), w) := rz_iast rfl c hi hz
theorem g201_32 : rg Z d rx_m201 32 [some (.ref a), l1, l2] S (rz_mk h ι, w) = rg Z d rx_m201 33 [some (.ref a), l1, l2] (.ref a :: S) (rz_mk h ι, w) := rz_s1 fun _ => rfl
theorem g201_33 : rg Z d rx_m201 33 L (.ref a :: S) (rz_mk h ι, w) = rg Z d rx_m201 34 L (.ref a :: .ref a :: S) (rz_mk h ι, w) := rz_s1 fun _ => rfl
theorem g201_34 (c : rz_fI h a 12 16) : rg Z d rx_m201 34 L (.ref a :: S) (rz_mk h ι, w) = rg Z d rx_m201 37 L (.int (ι a 16) :: S) (rz_mk h ι, w) := rz_gI rfl (by decide) c
theorem g201_37 : rg Z d rx_m201 37 L S (rz_mk h ι, w) = rg Z d rx_m201 38 L (.int 1 :: S) (rz_mk h ι, w) := rz_s1 fun _ => rfl
theorem g201_38 : rg Z d rx_m201 38 L (.int y :: .int x :: S) (rz_mk h ι, w) = rg Z d rx_m201 39 L (.int (x + y) :: S) (rz_mk h ι, w) := rz_s1 fun _ => rfl
theorem g201_39 (c : rz_fI h a 12 16) (hz : Z.2.1 ≤ a) : rg Z d rx_m201 39 L (.int x :: .ref a :: S) (rz_mk h ι, w) = rg Z d rx_m201 42 L S (rz_mk h (rz_up ι a 16 x), w) := rz_pI rfl c hz
theorem g201_42 : rg Z d rx_m201 42 L [] (rz_mk h ι, w) = some (.inl none, (rz_mk h ι, w)) := rz_r1 fun _ => rfl
theorem e201 : rz_f Z (d + 1) 201 [.ref t0, .int s1, .int s2] σ = rg Z d rx_m201 0 [some (.ref t0), some (.int s1), some (.int s2)] [] σ := rz_f_eq rfl (Nat.le_of_ble_eq_true rfl)
theorem g202_0 : rg Z d rx_m202 0 [some (.ref a)] S (rz_mk h ι, w) = rg Z d rx_m202 1 [some (.ref a)] (.ref a :: S) (rz_mk h ι, w) := rz_s1 fun _ => rfl
theorem g202_1 (c : rz_fI h a 12 5) : rg Z d rx_m202 1 L (.ref a :: S) (rz_mk h ι, w) = rg Z d rx_m202 4 L (.int (ι a 5) :: S) (rz_mk h ι, w) := rz_gI rfl (by decide) c
theorem g202_4 : rg Z d rx_m202 4 L (.int x :: S) (rz_mk h ι, w) = if x = 0 then rg Z d rx_m202 7 L S (rz_mk h ι, w) else rg Z d rx_m202 28 L S (rz_mk h ι, w) := rz_if1 (pc := 4) (t := 28) (off := 24) (cc := .ne) (by decide) rfl
theorem g202_7 : rg Z d rx_m202 7 [some (.ref a)] S (rz_mk h ι, w) = rg Z d rx_m202 8 [some (.ref a)] (.ref a :: S) (rz_mk h ι, w) := rz_s1 fun _ => rfl
theorem g202_8 (c : rz_fI h a 12 8) : rg Z d rx_m202 8 L (.ref a :: S) (rz_mk h ι, w) = rg Z d rx_m202 11 L (.int (ι a 8) :: S) (rz_mk h ι, w) := rz_gI rfl (by decide) c
theorem g202_11 : rg Z d rx_m202 11 L S (rz_mk h ι, w) = rg Z d rx_m202 13 L (.int 6 :: S) (rz_mk h ι, w) := rz_s1 fun _ => rfl
theorem g202_13 : rg Z d rx_m202 13 L (.int y :: .int x :: S) (rz_mk h ι, w) = if x = y then rg Z d rx_m202 16 L S (rz_mk h ι, w) else rg Z d rx_m202 28 L S (rz_mk h ι, w) := rz_if2 (pc := 13) (t := 28) (off := 15) (cc := .ne) (by decide) rfl
theorem g202_16 : rg Z d rx_m202 16 [some (.ref a)] S (rz_mk h ι, w) = rg Z d rx_m202 17 [some (.ref a)] (.ref a :: S) (rz_mk h ι, w) := rz_s1 fun _ => rfl
theorem g202_17 : rg Z d rx_m202 17 L S (rz_mk h ι, w) = rg Z d rx_m202 18 L (.int 3 :: S) (rz_mk h ι, w) := rz_s1 fun _ => rfl
theorem g202_18 : rg Z d rx_m202 18 [some (.ref a)] S (rz_mk h ι, w) = rg Z d rx_m202 19 [some (.ref a)] (.ref a :: S) (rz_mk h ι, w) := rz_s1 fun _ => rfl
theorem g202_19 (c : rz_fI h a 12 4) : rg Z d rx_m202 19 L (.ref a :: S) (rz_mk h ι, w) = rg Z d rx_m202 22 L (.int (ι a 4) :: S) (rz_mk h ι, w) := rz_gI rfl (by decide) c
theorem g202_22 (c : rz_oc h a 12) : rg Z d rx_m202 22 L (v2 :: v1 :: .ref a :: []) (rz_mk h ι, w) = rz_k true (rz_f Z d 182 [.ref a, v1, v2] (rz_mk h ι, w)) (fun v σ' => rg Z d rx_m202 25 L (v.toList ++ []) σ') := rz_cv (pc := 22) (n := 2) (mi := 182) (S := v2 :: v1 :: .ref a :: []) (rest := []) rfl rfl (Nat.le_of_ble_eq_true rfl) (Nat.le_of_ble_eq_true rfl) c
theorem g202_25 : rg Z d rx_m202 25 L S (rz_mk h ι, w) = rg Z d rx_m202 45 L S (rz_mk h ι, w) := rz_s1 fun _ => rfl
theorem g202_28 : rg Z d rx_m202 28 [some (.ref a)] S (rz_mk h ι, w) = rg Z d rx_m202 29 [some (.ref a)] (.ref a :: S) (rz_mk h ι, w) := rz_s1 fun _ => rfl
theorem g202_29 (c : rz_fI h a 12 5) : rg Z d rx_m202 29 L (.ref a :: S) (rz_mk h ι, w) = rg Z d rx_m202 32 L (.int (ι a 5) :: S) (rz_mk h ι, w) := rz_gI rfl (by decide) c
theorem g202_32 : rg Z d rx_m202 32 L (.int x :: S) (rz_mk h ι, w) = if x = 0 then rg Z d rx_m202 35 L S (rz_mk h ι, w) else rg Z d rx_m202 45 L S (rz_mk h ι, w) := rz_if1 (pc := 32) (t := 45) (off := 13) (cc := .ne) (by decide) rfl
theorem g202_35 : rg Z d rx_m202 35 [some (.ref a)] S (rz_mk h ι, w) = rg Z d rx_m202 36 [some (.ref a)] (.ref a :: S) (rz_mk h ι, w) := rz_s1 fun _ => rfl
theorem g202_36 : rg Z d rx_m202 36 L (.ref a :: S) (rz_mk h ι, w) = rg Z d rx_m202 37 L (.ref a :: .ref a :: S) (rz_mk h ι, w) := rz_s1 fun _ => rfl
theorem g202_37 (c : rz_fI h a 12 8) : rg Z d rx_m202 37 L (.ref a :: S) (rz_mk h ι, w) = rg Z d rx_m202 40 L (.int (ι a 8) :: S) (rz_mk h ι, w) := rz_gI rfl (by decide) c
theorem g202_40 : rg Z d rx_m202 40 L S (rz_mk h ι, w) = rg Z d rx_m202 41 L (.int 1 :: S) (rz_mk h ι, w) := rz_s1 fun _ => rfl
theorem g202_41 : rg Z d rx_m202 41 L (.int y :: .int x :: S) (rz_mk h ι, w) = rg Z d rx_m202 42 L (.int (x + y) :: S) (rz_mk h ι, w) := rz_s1 fun _ => rfl
theorem g202_42 (c : rz_fI h a 12 8) (hz : Z.2.1 ≤ a) : rg Z d rx_m202 42 L (.int x :: .ref a :: S) (rz_mk h ι, w) = rg Z d rx_m202 45 L S (rz_mk h (rz_up ι a 8 x), w) := rz_pI rfl c hz
theorem g202_45 : rg Z d rx_m202 45 [some (.ref a)] S (rz_mk h ι, w) = rg Z d rx_m202 46 [some (.ref a)] (.ref a :: S) (rz_mk h ι, w) := rz_s1 fun _ => rfl
theorem g202_46 (c : rz_fI h a 12 5) : rg Z d rx_m202 46 L (.ref a :: S) (rz_mk h ι, w) = rg Z d rx_m202 49 L (.int (ι a 5) :: S) (rz_mk h ι, w) := rz_gI rfl (by decide) c
theorem g202_49 : rg Z d rx_m202 49 L (.int x :: S) (rz_mk h ι, w) = if x = 0 then rg Z d rx_m202 52 L S (rz_mk h ι, w) else rg Z d rx_m202 56 L S (rz_mk h ι, w) := rz_if1 (pc := 49) (t := 56) (off := 7) (cc := .ne) (by decide) rfl
theorem g202_52 : rg Z d rx_m202 52 L S (rz_mk h ι, w) = rg Z d rx_m202 53 L (.int 1 :: S) (rz_mk h ι, w) := rz_s1 fun _ => rfl
theorem g202_53 : rg Z d rx_m202 53 L S (rz_mk h ι, w) = rg Z d rx_m202 57 L S (rz_mk h ι, w) := rz_s1 fun _ => rfl
theorem g202_56 : rg Z d rx_m202 56 L S (rz_mk h ι, w) = rg Z d rx_m202 57 L (.int 0 :: S) (rz_mk h ι, w) := rz_s1 fun _ => rfl
theorem g202_57 (c : narrow .boolean (.int x) = .int x) : rg Z d rx_m202 57 L [.int x] (rz_mk h ι, w) = some (.inl (some (.int x)), (rz_mk h ι, w)) := rz_reti rfl rfl c
theorem e202 : rz_f Z (d + 1) 202 [.ref t0] σ = rg Z d rx_m202 0 [some (.ref t0)] [] σ := rz_f_eq rfl (Nat.le_of_ble_eq_true rfl)
theorem g203_0 : rg Z d rx_m203 0 [some (.ref a), l1] S (rz_mk h ι, w) = rg Z d rx_m203 1 [some (.ref a), l1] (.ref a :: S) (rz_mk h ι, w) := rz_s1 fun _ => rfl
theorem g203_1 (c : rz_oc h a 12) : rg Z d rx_m203 1 L (.ref a :: []) (rz_mk h ι, w) = rz_k true (rz_f Z d 204 [.ref a] (rz_mk h ι, w)) (fun v σ' => rg Z d rx_m203 4 L (v.toList ++ []) σ') := rz_cv (pc := 1) (n := 0) (mi := 204) (S := .ref a :: []) (rest := []) rfl rfl (Nat.le_of_ble_eq_true rfl) (Nat.le_of_ble_eq_true rfl) c
theorem g203_4 : rg Z d rx_m203 4 [some (.ref a), l1] S (rz_mk h ι, w) = rg Z d rx_m203 5 [some (.ref a), l1] (.ref a :: S) (rz_mk h ι, w) := rz_s1 fun _ => rfl
theorem g203_5 (c : rz_fI h a 12 5) : rg Z d rx_m203 5 L (.ref a :: S) (rz_mk h ι, w) = rg Z d rx_m203 8 L (.int (ι a 5) :: S) (rz_mk h ι, w) := rz_gI rfl (by decide) c
theorem g203_8 : rg Z d rx_m203 8 L (.int x :: S) (rz_mk h ι, w) = if x = 0 then rg Z d rx_m203 11 L S (rz_mk h ι, w) else rg Z d rx_m203 58 L S (rz_mk h ι, w) := rz_if1 (pc := 8) (t := 58) (off := 50) (cc := .ne) (by decide) rfl
theorem g203_11 : rg Z d rx_m203 11 [some (.ref a), l1] S (rz_mk h ι, w) = rg Z d rx_m203 12 [some (.ref a), l1] (.ref a :: S) (rz_mk h ι, w) := rz_s1 fun _ => rfl
theorem g203_12 : rg Z d rx_m203 12 L S (rz_mk h ι, w) = rg Z d rx_m203 14 L (.int 43 :: S) (rz_mk h ι, w) := rz_s1 fun _ => rfl
theorem g203_14 (c : rz_oc h a 12) : rg Z d rx_m203 14 L (v1 :: .ref a :: []) (rz_mk h ι, w) = rz_k true (rz_f Z d 192 [.ref a, v1] (rz_mk h ι, w)) (fun v σ' => rg Z d rx_m203 17 L (v.toList ++ []) σ') := rz_cv (pc := 14) (n := 1) (mi := 192) (S := v1 :: .ref a :: []) (rest := []) rfl rfl (Nat.le_of_ble_eq_true rfl) (Nat.le_of_ble_eq_true rfl) c
theorem g203_17 : rg Z d rx_m203 17 L (.int x :: S) (rz_mk h ι, w) = if x = 0 then rg Z d rx_m203 24 L S (rz_mk h ι, w) else rg Z d rx_m203 20 L S (rz_mk h ι, w) := rz_if1 (pc := 17) (t := 24) (off := 7) (cc := .eq) (by decide) rfl
theorem g203_20 : rg Z d rx_m203 20 L S (rz_mk h ι, w) = rg Z d rx_m203 21 L (.int 2 :: S) (rz_mk h ι, w) := rz_s1 fun _ => rfl
theorem g203_21 : rg Z d rx_m203 21 L S (rz_mk h ι, w) = rg Z d rx_m203 38 L S (rz_mk h ι, w) := rz_s1 fun _ => rfl
theorem g203_24 : rg Z d rx_m203 24 [some (.ref a), l1] S (rz_mk h ι, w) = rg Z d rx_m203 25 [some (.ref a), l1] (.ref a :: S) (rz_mk h ι, w) := rz_s1 fun _ => rfl
theorem g203_25 : rg Z d rx_m203 25 L S (rz_mk h ι, w) = rg Z d rx_m203 27 L (.int 45 :: S) (rz_mk h ι, w) := rz_s1 fun _ => rfl
theorem g203_27 (c : rz_oc h a 12) : rg Z d rx_m203 27 L (v1 :: .ref a :: []) (rz_mk h ι, w) = rz_k true (rz_f Z d 192 [.ref a, v1] (rz_mk h ι, w)) (fun v σ' => rg Z d rx_m203 30 L (v.toList ++ []) σ') := rz_cv (pc := 27) (n := 1) (mi := 192) (S := v1 :: .ref a :: []) (rest := []) rfl rfl (Nat.le_of_ble_eq_true rfl) (Nat.le_of_ble_eq_true rfl) c
theorem g203_30 : rg Z d rx_m203 30 L (.int x :: S) (rz_mk h ι, w) = if x = 0 then rg Z d rx_m203 37 L S (rz_mk h ι, w) else rg Z d rx_m203 33 L S (rz_mk h ι, w) := rz_if1 (pc := 30) (t := 37) (off := 7) (cc := .eq) (by decide) rfl
theorem g203_33 : rg Z d rx_m203 33 L S (rz_mk h ι, w) = rg Z d rx_m203 34 L (.int 3 :: S) (rz_mk h ι, w) := rz_s1 fun _ => rfl
theorem g203_34 : rg Z d rx_m203 34 L S (rz_mk h ι, w) = rg Z d rx_m203 38 L S (rz_mk h ι, w) := rz_s1 fun _ => rfl
theorem g203_37 : rg Z d rx_m203 37 L S (rz_mk h ι, w) = rg Z d rx_m203 38 L (.int (-1) :: S) (rz_mk h ι, w) := rz_s1 fun _ => rfl
theorem g203_38 : rg Z d rx_m203 38 [some (.ref b), l1] (.int x :: S) (rz_mk h ι, w) = rg Z d rx_m203 39 [some (.ref b), some (.int x)] S (rz_mk h ι, w) := rz_s1 fun _ => rfl
theorem g203_39 : rg Z d rx_m203 39 [l0, some (.int x)] S (rz_mk h ι, w) = rg Z d rx_m203 40 [l0, some (.int x)] (.int x :: S) (rz_mk h ι, w) := rz_s1 fun _ => rfl
theorem g203_40 : rg Z d rx_m203 40 L S (rz_mk h ι, w) = rg Z d rx_m203 41 L (.int (-1) :: S) (rz_mk h ι, w) := rz_s1 fun _ => rfl
theorem g203_41 : rg Z d rx_m203 41 L (.int y :: .int x :: S) (rz_mk h ι, w) = if x = y then rg Z d rx_m203 44 L S (rz_mk h ι, w) else rg Z d rx_m203 45 L S (rz_mk h ι, w) := rz_if2 (pc := 41) (t := 45) (off := 4) (cc := .ne) (by decide) rfl
theorem g203_44 : rg Z d rx_m203 44 L [] (rz_mk h ι, w) = some (.inl none, (rz_mk h ι, w)) := rz_r1 fun _ => rfl
theorem g203_45 : rg Z d rx_m203 45 [some (.ref a), l1] S (rz_mk h ι, w) = rg Z d rx_m203 46 [some (.ref a), l1] (.ref a :: S) (rz_mk h ι, w) := rz_s1 fun _ => rfl
theorem g203_46 (c : rz_oc h a 12) : rg Z d rx_m203 46 L (.ref a :: []) (rz_mk h ι, w) = rz_k true (rz_f Z d 204 [.ref a] (rz_mk h ι, w)) (fun v σ' => rg Z d rx_m203 49 L (v.toList ++ []) σ') := rz_cv (pc := 46) (n := 0) (mi := 204) (S := .ref a :: []) (rest := []) rfl rfl (Nat.le_of_ble_eq_true rfl) (Nat.le_of_ble_eq_true rfl) c
theorem g203_49 : rg Z d rx_m203 49 [some (.ref a), l1] S (rz_mk h ι, w) = rg Z d rx_m203 50 [some (.ref a), l1] (.ref a :: S) (rz_mk h ι, w) := rz_s1 fun _ => rfl
theorem g203_50 : rg Z d rx_m203 50 [l0, some (.int x)] S (rz_mk h ι, w) = rg Z d rx_m203 51 [l0, some (.int x)] (.int x :: S) (rz_mk h ι, w) := rz_s1 fun _ => rfl
theorem g203_51 : rg Z d rx_m203 51 L S (rz_mk h ι, w) = rg Z d rx_m203 52 L (.int 0 :: S) (rz_mk h ι, w) := rz_s1 fun _ => rfl
theorem g203_52 (c : rz_oc h a 12) : rg Z d rx_m203 52 L (v2 :: v1 :: .ref a :: []) (rz_mk h ι, w) = rz_k true (rz_f Z d 201 [.ref a, v1, v2] (rz_mk h ι, w)) (fun v σ' => rg Z d rx_m203 55 L (v.toList ++ []) σ') := rz_cv (pc := 52) (n := 2) (mi := 201) (S := v2 :: v1 :: .ref a :: []) (rest := []) rfl rfl (Nat.le_of_ble_eq_true rfl) (Nat.le_of_ble_eq_true rfl) c
theorem g203_55 : rg Z d rx_m203 55 L S (rz_mk h ι, w) = rg Z d rx_m203 4 L S (rz_mk h ι, w) := rz_s1 fun _ => rfl
theorem g203_58 : rg Z d rx_m203 58 L [] (rz_mk h ι, w) = some (.inl none, (rz_mk h ι, w)) := rz_r1 fun _ => rfl
theorem e203 : rz_f Z (d + 1) 203 [.ref t0] σ = rg Z d rx_m203 0 [some (.ref t0), none] [] σ := rz_f_eq rfl (Nat.le_of_ble_eq_true rfl)
theorem g204_0 : rg Z d rx_m204 0 [some (.ref a), l1] S (rz_mk h ι, w) = rg Z d rx_m204 1 [some (.ref a), l1] (.ref a :: S) (rz_mk h ι, w) := rz_s1 fun _ => rfl
theorem g204_1 (c : rz_oc h a 12) : rg Z d rx_m204 1 L (.ref a :: []) (rz_mk h ι, w) = rz_k true (rz_f Z d 206 [.ref a] (rz_mk h ι, w)) (fun v σ' => rg Z d rx_m204 4 L (v.toList ++ []) σ') := rz_cv (pc := 1) (n := 0) (mi := 206) (S := .ref a :: []) (rest := []) rfl rfl (Nat.le_of_ble_eq_true rfl) (Nat.le_of_ble_eq_true rfl) c
theorem g204_4 : rg Z d rx_m204 4 [some (.ref a), l1] S (rz_mk h ι, w) = rg Z d rx_m204 5 [some (.ref a), l1] (.ref a :: S) (rz_mk h ι, w) := rz_s1 fun _ => rfl
theorem g204_5 (c : rz_fI h a 12 5) : rg Z d rx_m204 5 L (.ref a :: S) (rz_mk h ι, w) = rg Z d rx_m204 8 L (.int (ι a 5) :: S) (rz_mk h ι, w) := rz_gI rfl (by decide) c
theorem g204_8 : rg Z d rx_m204 8 L (.int x :: S) (rz_mk h ι, w) = if x = 0 then rg Z d rx_m204 11 L S (rz_mk h ι, w) else rg Z d rx_m204 72 L S (rz_mk h ι, w) := rz_if1 (pc := 8) (t := 72) (off := 64) (cc := .ne) (by decide) rfl
theorem g204_11 : rg Z d rx_m204 11 [some (.ref a), l1] S (rz_mk h ι, w) = rg Z d rx_m204 12 [some (.ref a), l1] (.ref a :: S) (rz_mk h ι, w) := rz_s1 fun _ => rfl
theorem g204_12 : rg Z d rx_m204 12 L S (rz_mk h ι, w) = rg Z d rx_m204 14 L (.int 42 :: S) (rz_mk h ι, w) := rz_s1 fun _ => rfl
theorem g204_14 (c : rz_oc h a 12) : rg Z d rx_m204 14 L (v1 :: .ref a :: []) (rz_mk h ι, w) = rz_k true (rz_f Z d 192 [.ref a, v1] (rz_mk h ι, w)) (fun v σ' => rg Z d rx_m204 17 L (v.toList ++ []) σ') := rz_cv (pc := 14) (n := 1) (mi := 192) (S := v1 :: .ref a :: []) (rest := []) rfl rfl (Nat.le_of_ble_eq_true rfl) (Nat.le_of_ble_eq_true rfl) c
theorem g204_17 : rg Z d rx_m204 17 L (.int x :: S) (rz_mk h ι, w) = if x = 0 then rg Z d rx_m204 24 L S (rz_mk h ι, w) else rg Z d rx_m204 20 L S (rz_mk h ι, w) := rz_if1 (pc := 17) (t := 24) (off := 7) (cc := .eq) (by decide) rfl
theorem g204_20 : rg Z d rx_m204 20 L S (rz_mk h ι, w) = rg Z d rx_m204 21 L (.int 4 :: S) (rz_mk h ι, w) := rz_s1 fun _ => rfl
theorem g204_21 : rg Z d rx_m204 21 L S (rz_mk h ι, w) = rg Z d rx_m204 52 L S (rz_mk h ι, w) := rz_s1 fun _ => rfl
theorem g204_24 : rg Z d rx_m204 24 [some (.ref a), l1] S (rz_mk h ι, w) = rg Z d rx_m204 25 [some (.ref a), l1] (.ref a :: S) (rz_mk h ι, w) := rz_s1 fun _ => rfl
theorem g204_25 : rg Z d rx_m204 25 L S (rz_mk h ι, w) = rg Z d rx_m204 27 L (.int 47 :: S) (rz_mk h ι, w) := rz_s1 fun _ => rfl
theorem g204_27 (c : rz_oc h a 12) : rg Z d rx_m204 27 L (v1 :: .ref a :: []) (rz_mk h ι, w) = rz_k true (rz_f Z d 192 [.ref a, v1] (rz_mk h ι, w)) (fun v σ' => rg Z d rx_m204 30 L (v.toList ++ []) σ') := rz_cv (pc := 27) (n := 1) (mi := 192) (S := v1 :: .ref a :: []) (rest := []) rfl rfl (Nat.le_of_ble_eq_true rfl) (Nat.le_of_ble_eq_true rfl) c
theorem g204_30 : rg Z d rx_m204 30 L (.int x :: S) (rz_mk h ι, w) = if x = 0 then rg Z d rx_m204 37 L S (rz_mk h ι, w) else rg Z d rx_m204 33 L S (rz_mk h ι, w) := rz_if1 (pc := 30) (t := 37) (off := 7) (cc := .eq) (by decide) rfl
theorem g204_33 : rg Z d rx_m204 33 L S (rz_mk h ι, w) = rg Z d rx_m204 34 L (.int 5 :: S) (rz_mk h ι, w) := rz_s1 fun _ => rfl
theorem g204_34 : rg Z d rx_m204 34 L S (rz_mk h ι, w) = rg Z d rx_m204 52 L S (rz_mk h ι, w) := rz_s1 fun _ => rfl
theorem g204_37 : rg Z d rx_m204 37 [some (.ref a), l1] S (rz_mk h ι, w) = rg Z d rx_m204 38 [some (.ref a), l1] (.ref a :: S) (rz_mk h ι, w) := rz_s1 fun _ => rfl
theorem g204_38 : rg Z d rx_m204 38 L S (rz_mk h ι, w) = rg Z d rx_m204 40 L (.int 37 :: S) (rz_mk h ι, w) := rz_s1 fun _ => rfl
theorem g204_40 (c : rz_oc h a 12) : rg Z d rx_m204 40 L (v1 :: .ref a :: []) (rz_mk h ι, w) = rz_k true (rz_f Z d 192 [.ref a, v1] (rz_mk h ι, w)) (fun v σ' => rg Z d rx_m204 43 L (v.toList ++ []) σ') := rz_cv (pc := 40) (n := 1) (mi := 192) (S := v1 :: .ref a :: []) (rest := []) rfl rfl (Nat.le_of_ble_eq_true rfl) (Nat.le_of_ble_eq_true rfl) c
theorem g204_43 : rg Z d rx_m204 43 L (.int x :: S) (rz_mk h ι, w) = if x = 0 then rg Z d rx_m204 51 L S (rz_mk h ι, w) else rg Z d rx_m204 46 L S (rz_mk h ι, w) := rz_if1 (pc := 43) (t := 51) (off := 8) (cc := .eq) (by decide) rfl
theorem g204_46 : rg Z d rx_m204 46 L S (rz_mk h ι, w) = rg Z d rx_m204 48 L (.int 6 :: S) (rz_mk h ι, w) := rz_s1 fun _ => rfl
theorem g204_48 : rg Z d rx_m204 48 L S (rz_mk h ι, w) = rg Z d rx_m204 52 L S (rz_mk h ι, w) := rz_s1 fun _ => rfl
theorem g204_51 : rg Z d rx_m204 51 L S (rz_mk h ι, w) = rg Z d rx_m204 52 L (.int (-1) :: S) (rz_mk h ι, w) := rz_s1 fun _ => rfl
theorem g204_52 : rg Z d rx_m204 52 [some (.ref b), l1] (.int x :: S) (rz_mk h ι, w) = rg Z d rx_m204 53 [some (.ref b), some (.int x)] S (rz_mk h ι, w) := rz_s1 fun _ => rfl
theorem g204_53 : rg Z d rx_m204 53 [l0, some (.int x)] S (rz_mk h ι, w) = rg Z d rx_m204 54 [l0, some (.int x)] (.int x :: S) (rz_mk h ι, w) := rz_s1 fun _ => rfl
theorem g204_54 : rg Z d rx_m204 54 L S (rz_mk h ι, w) = rg Z d rx_m204 55 L (.int (-1) :: S) (rz_mk h ι, w) := rz_s1 fun _ => rfl
theorem g204_55 : rg Z d rx_m204 55 L (.int y :: .int x :: S) (rz_mk h ι, w) = if x = y then rg Z d rx_m204 58 L S (rz_mk h ι, w) else rg Z d rx_m204 59 L S (rz_mk h ι, w) := rz_if2 (pc := 55) (t := 59) (off := 4) (cc := .ne) (by decide) rfl
theorem g204_58 : rg Z d rx_m204 58 L [] (rz_mk h ι, w) = some (.inl none, (rz_mk h ι, w)) := rz_r1 fun _ => rfl
theorem g204_59 : rg Z d rx_m204 59 [some (.ref a), l1] S (rz_mk h ι, w) = rg Z d rx_m204 60 [some (.ref a), l1] (.ref a :: S) (rz_mk h ι, w) := rz_s1 fun _ => rfl
theorem g204_60 (c : rz_oc h a 12) : rg Z d rx_m204 60 L (.ref a :: []) (rz_mk h ι, w) = rz_k true (rz_f Z d 206 [.ref a] (rz_mk h ι, w)) (fun v σ' => rg Z d rx_m204 63 L (v.toList ++ []) σ') := rz_cv (pc := 60) (n := 0) (mi := 206) (S := .ref a :: []) (rest := []) rfl rfl (Nat.le_of_ble_eq_true rfl) (Nat.le_of_ble_eq_true rfl) c
theorem g204_63 : rg Z d rx_m204 63 [some (.ref a), l1] S (rz_mk h ι, w) = rg Z d rx_m204 64 [some (.ref a), l1] (.ref a :: S) (rz_mk h ι, w) := rz_s1 fun _ => rfl
theorem g204_64 : rg Z d rx_m204 64 [l0, some (.int x)] S (rz_mk h ι, w) = rg Z d rx_m204 65 [l0, some (.int x)] (.int x :: S) (rz_mk h ι, w) := rz_s1 fun _ => rfl
theorem g204_65 : rg Z d rx_m204 65 L S (rz_mk h ι, w) = rg Z d rx_m204 66 L (.int 0 :: S) (rz_mk h ι, w) := rz_s1 fun _ => rfl
theorem g204_66 (c : rz_oc h a 12) : rg Z d rx_m204 66 L (v2 :: v1 :: .ref a :: []) (rz_mk h ι, w) = rz_k true (rz_f Z d 201 [.ref a, v1, v2] (rz_mk h ι, w)) (fun v σ' => rg Z d rx_m204 69 L (v.toList ++ []) σ') := rz_cv (pc := 66) (n := 2) (mi := 201) (S := v2 :: v1 :: .ref a :: []) (rest := []) rfl rfl (Nat.le_of_ble_eq_true rfl) (Nat.le_of_ble_eq_true rfl) c
theorem g204_69 : rg Z d rx_m204 69 L S (rz_mk h ι, w) = rg Z d rx_m204 4 L S (rz_mk h ι, w) := rz_s1 fun _ => rfl
theorem g204_72 : rg Z d rx_m204 72 L [] (rz_mk h ι, w) = some (.inl none, (rz_mk h ι, w)) := rz_r1 fun _ => rfl
theorem e204 : rz_f Z (d + 1) 204 [.ref t0] σ = rg Z d rx_m204 0 [some (.ref t0), none] [] σ := rz_f_eq rfl (Nat.le_of_ble_eq_true rfl)
theorem g205_0 : rg Z d rx_m205 0 [some (.ref a)] S (rz_mk h ι, w) = rg Z d rx_m205 1 [some (.ref a)] (.ref a :: S) (rz_mk h ι, w) := rz_s1 fun _ => rfl
theorem g205_1 : rg Z d rx_m205 1 L S (rz_mk h ι, w) = rg Z d rx_m205 3 L (.int 14 :: S) (rz_mk h ι, w) := rz_s1 fun _ => rfl
theorem g205_3 : rg Z d rx_m205 3 L S (rz_mk h ι, w) = rg Z d rx_m205 5 L (.int 15 :: S) (rz_mk h ι, w) := rz_s1 fun _ => rfl
theorem g205_5 : rg Z d rx_m205 5 L S (rz_mk h ι, w) = rg Z d rx_m205 7 L (.int 19 :: S) (rz_mk h ι, w) := rz_s1 fun _ => rfl
theorem g205_7 : rg Z d rx_m205 7 L S (rz_mk h ι, w) = rg Z d rx_m205 8 L (.int 5 :: S) (rz_mk h ι, w) := rz_s1 fun _ => rfl
theorem g205_8 : rg Z d rx_m205 8 L S (rz_mk h ι, w) = rg Z d rx_m205 9 L (.int 0 :: S) (rz_mk h ι, w) := rz_s1 fun _ => rfl
theorem g205_9 : rg Z d rx_m205 9 L S (rz_mk h ι, w) = rg Z d rx_m205 10 L (.int 0 :: S) (rz_mk h ι, w) := rz_s1 fun _ => rfl
theorem g205_10 (c : rz_oc h a 12) : rg Z d rx_m205 10 L (v6 :: v5 :: v4 :: v3 :: v2 :: v1 :: .ref a :: []) (rz_mk h ι, w) = rz_k true (rz_f Z d 190 [.ref a, v1, v2, v3, v4, v5, v6] (rz_mk h ι, w)) (fun v σ' => rg Z d rx_m205 13 L (v.toList ++ []) σ') := rz_cv (pc := 10) (n := 6) (mi := 190) (S := v6 :: v5 :: v4 :: v3 :: v2 :: v1 :: .ref a :: []) (rest := []) rfl rfl (Nat.le_of_ble_eq_true rfl) (Nat.le_of_ble_eq_true rfl) c
theorem g205_13 : rg Z d rx_m205 13 L (.int x :: S) (rz_mk h ι, w) = if x = 0 then rg Z d rx_m205 18 L S (rz_mk h ι, w) else rg Z d rx_m205 16 L S (rz_mk h ι, w) := rz_if1 (pc := 13) (t := 18) (off := 5) (cc := .eq) (by decide) rfl
theorem g205_16 : rg Z d rx_m205 16 L S (rz_mk h ι, w) = rg Z d rx_m205 17 L (.int 0 :: S) (rz_mk h ι, w) := rz_s1 fun _ => rfl
theorem g205_17 : rg Z d rx_m205 17 L [.int x] (rz_mk h ι, w) = some (.inl (some (.int x)), (rz_mk h ι, w)) := rz_reti rfl rfl rfl
theorem g205_18 : rg Z d rx_m205 18 [some (.ref a)] S (rz_mk h ι, w) = rg Z d rx_m205 19 [some (.ref a)] (.ref a :: S) (rz_mk h ι, w) := rz_s1 fun _ => rfl
theorem g205_19 : rg Z d rx_m205 19 L S (rz_mk h ι, w) = rg Z d rx_m205 21 L (.int 20 :: S) (rz_mk h ι, w) := rz_s1 fun _ => rfl
theorem g205_21 : rg Z d rx_m205 21 L S (rz_mk h ι, w) = rg Z d rx_m205 22 L (.int 5 :: S) (rz_mk h ι, w) := rz_s1 fun _ => rfl
theorem g205_22 : rg Z d rx_m205 22 L S (rz_mk h ι, w) = rg Z d rx_m205 24 L (.int 13 :: S) (rz_mk h ι, w) := rz_s1 fun _ => rfl
theorem g205_24 : rg Z d rx_m205 24 L S (rz_mk h ι, w) = rg Z d rx_m205 26 L (.int 16 :: S) (rz_mk h ι, w) := rz_s1 fun _ => rfl
theorem g205_26 : rg Z d rx_m205 26 L S (rz_mk h ι, w) = rg Z d rx_m205 27 L (.int 5 :: S) (rz_mk h ι, w) := rz_s1 fun _ => rfl
theorem g205_27 : rg Z d rx_m205 27 L S (rz_mk h ι, w) = rg Z d rx_m205 29 L (.int 18 :: S) (rz_mk h ι, w) := rz_s1 fun _ => rfl
theorem g205_29 (c : rz_oc h a 12) : rg Z d rx_m205 29 L (v6 :: v5 :: v4 :: v3 :: v2 :: v1 :: .ref a :: []) (rz_mk h ι, w) = rz_k true (rz_f Z d 190 [.ref a, v1, v2, v3, v4, v5, v6] (rz_mk h ι, w)) (fun v σ' => rg Z d rx_m205 32 L (v.toList ++ []) σ') := rz_cv (pc := 29) (n := 6) (mi := 190) (S := v6 :: v5 :: v4 :: v3 :: v2 :: v1 :: .ref a :: []) (rest := []) rfl rfl (Nat.le_of_ble_eq_true rfl) (Nat.le_of_ble_eq_true rfl) c
theorem g205_32 : rg Z d rx_m205 32 L (.int x :: S) (rz_mk h ι, w) = if x = 0 then rg Z d rx_m205 37 L S (rz_mk h ι, w) else rg Z d rx_m205 35 L S (rz_mk h ι, w) := rz_if1 (pc := 32) (t := 37) (off := 5) (cc := .eq) (by decide) rfl
theorem g205_35 : rg Z d rx_m205 35 L S (rz_mk h ι, w) = rg Z d rx_m205 36 L (.int 1 :: S) (rz_mk h ι, w) := rz_s1 fun _ => rfl
theorem g205_36 : rg Z d rx_m205 36 L [.int x] (rz_mk h ι, w) = some (.inl (some (.int x)), (rz_mk h ι, w)) := rz_reti rfl rfl rfl
theorem g205_37 : rg Z d rx_m205 37 [some (.ref a)] S (rz_mk h ι, w) = rg Z d rx_m205 38 [some (.ref a)] (.ref a :: S) (rz_mk h ι, w) := rz_s1 fun _ => rfl
theorem g205_38 : rg Z d rx_m205 38 L S (rz_mk h ι, w) = rg Z d rx_m205 39 L (.int 3 :: S) (rz_mk h ι, w) := rz_s1 fun _ => rfl
theorem g205_39 : rg Z d rx_m205 39 L S (rz_mk h ι, w) = rg Z d rx_m205 40 L (.int 1 :: S) (rz_mk h ι, w) := rz_s1 fun _ => rfl
theorem g205_40 : rg Z d rx_m205 40 L S (rz_mk h ι, w) = rg Z d rx_m205 42 L (.int 20 :: S) (rz_mk h ι, w) := rz_s1 fun _ => rfl
theorem g205_42 : rg Z d rx_m205 42 L S (rz_mk h ι, w) = rg Z d rx_m205 43 L (.int 0 :: S) (rz_mk h ι, w) := rz_s1 fun _ => rfl
theorem g205_43 : rg Z d rx_m205 43 L S (rz_mk h ι, w) = rg Z d rx_m205 44 L (.int 0 :: S) (rz_mk h ι, w) := rz_s1 fun _ => rfl
theorem g205_44 : rg Z d rx_m205 44 L S (rz_mk h ι, w) = rg Z d rx_m205 45 L (.int 0 :: S) (rz_mk h ι, w) := rz_s1 fun _ => rfl
theorem g205_45 (c : rz_oc h a 12) : rg Z d rx_m205 45 L (v6 :: v5 :: v4 :: v3 :: v2 :: v1 :: .ref a :: []) (rz_mk h ι, w) = rz_k true (rz_f Z d 190 [.ref a, v1, v2, v3, v4, v5, v6] (rz_mk h ι, w)) (fun v σ' => rg Z d rx_m205 48 L (v.toList ++ []) σ') := rz_cv (pc := 45) (n := 6) (mi := 190) (S := v6 :: v5 :: v4 :: v3 :: v2 :: v1 :: .ref a :: []) (rest := []) rfl rfl (Nat.le_of_ble_eq_true rfl) (Nat.le_of_ble_eq_true rfl) c
theorem g205_48 : rg Z d rx_m205 48 L (.int x :: S) (rz_mk h ι, w) = if x = 0 then rg Z d rx_m205 53 L S (rz_mk h ι, w) else rg Z d rx_m205 51 L S (rz_mk h ι, w) := rz_if1 (pc := 48) (t := 53) (off := 5) (cc := .eq) (by decide) rfl
theorem g205_51 : rg Z d rx_m205 51 L S (rz_mk h ι, w) = rg Z d rx_m205 52 L (.int 2 :: S) (rz_mk h ι, w) := rz_s1 fun _ => rfl
theorem g205_52 : rg Z d rx_m205 52 L [.int x] (rz_mk h ι, w) = some (.inl (some (.int x)), (rz_mk h ι, w)) := rz_reti rfl rfl rfl
theorem g205_53 : rg Z d rx_m205 53 [some (.ref a)] S (rz_mk h ι, w) = rg Z d rx_m205 54 [some (.ref a)] (.ref a :: S) (rz_mk h ι, w) := rz_s1 fun _ => rfl
theorem g205_54 : rg Z d rx_m205 54 L S (rz_mk h ι, w) = rg Z d rx_m205 56 L (.int 6 :: S) (rz_mk h ι, w) := rz_s1 fun _ => rfl
theorem g205_56 : rg Z d rx_m205 56 L S (rz_mk h ι, w) = rg Z d rx_m205 57 L (.int 5 :: S) (rz_mk h ι, w) := rz_s1 fun _ => rfl
theorem g205_57 : rg Z d rx_m205 57 L S (rz_mk h ι, w) = rg Z d rx_m205 59 L (.int 9 :: S) (rz_mk h ι, w) := rz_s1 fun _ => rfl
theorem g205_59 : rg Z d rx_m205 59 L S (rz_mk h ι, w) = rg Z d rx_m205 61 L (.int 14 :: S) (rz_mk h ι, w) := rz_s1 fun _ => rfl
theorem g205_61 : rg Z d rx_m205 61 L S (rz_mk h ι, w) = rg Z d rx_m205 63 L (.int 20 :: S) (rz_mk h ι, w) := rz_s1 fun _ => rfl
theorem g205_63 : rg Z d rx_m205 63 L S (rz_mk h ι, w) = rg Z d rx_m205 65 L (.int 19 :: S) (rz_mk h ι, w) := rz_s1 fun _ => rfl
theorem g205_65 (c : rz_oc h a 12) : rg Z d rx_m205 65 L (v6 :: v5 :: v4 :: v3 :: v2 :: v1 :: .ref a :: []) (rz_mk h ι, w) = rz_k true (rz_f Z d 190 [.ref a, v1, v2, v3, v4, v5, v6] (rz_mk h ι, w)) (fun v σ' => rg Z d rx_m205 68 L (v.toList ++ []) σ') := rz_cv (pc := 65) (n := 6) (mi := 190) (S := v6 :: v5 :: v4 :: v3 :: v2 :: v1 :: .ref a :: []) (rest := []) rfl rfl (Nat.le_of_ble_eq_true rfl) (Nat.le_of_ble_eq_true rfl) c
theorem g205_68 : rg Z d rx_m205 68 L (.int x :: S) (rz_mk h ι, w) = if x = 0 then rg Z d rx_m205 73 L S (rz_mk h ι, w) else rg Z d rx_m205 71 L S (rz_mk h ι, w) := rz_if1 (pc := 68) (t := 73) (off := 5) (cc := .eq) (by decide) rfl
theorem g205_71 : rg Z d rx_m205 71 L S (rz_mk h ι, w) = rg Z d rx_m205 72 L (.int 3 :: S) (rz_mk h ι, w) := rz_s1 fun _ => rfl
theorem g205_72 : rg Z d rx_m205 72 L [.int x] (rz_mk h ι, w) = some (.inl (some (.int x)), (rz_mk h ι, w)) := rz_reti rfl rfl rfl
theorem g205_73 : rg Z d rx_m205 73 [some (.ref a)] S (rz_mk h ι, w) = rg Z d rx_m205 74 [some (.ref a)] (.ref a :: S) (rz_mk h ι, w) := rz_s1 fun _ => rfl
theorem g205_74 : rg Z d rx_m205 74 L S (rz_mk h ι, w) = rg Z d rx_m205 75 L (.int 1 :: S) (rz_mk h ι, w) := rz_s1 fun _ => rfl
theorem g205_75 : rg Z d rx_m205 75 L S (rz_mk h ι, w) = rg Z d rx_m205 77 L (.int 7 :: S) (rz_mk h ι, w) := rz_s1 fun _ => rfl
theorem g205_77 : rg Z d rx_m205 77 L S (rz_mk h ι, w) = rg Z d rx_m205 78 L (.int 5 :: S) (rz_mk h ι, w) := rz_s1 fun _ => rfl
theorem g205_78 : rg Z d rx_m205 78 L S (rz_mk h ι, w) = rg Z d rx_m205 79 L (.int 0 :: S) (rz_mk h ι, w) := rz_s1 fun _ => rfl
theorem g205_79 : rg Z d rx_m205 79 L S (rz_mk h ι, w) = rg Z d rx_m205 80 L (.int 0 :: S) (rz_mk h ι, w) := rz_s1 fun _ => rfl
theorem g205_80 : rg Z d rx_m205 80 L S (rz_mk h ι, w) = rg Z d rx_m205 81 L (.int 0 :: S) (rz_mk h ι, w) := rz_s1 fun _ => rfl
theorem g205_81 (c : rz_oc h a 12) : rg Z d rx_m205 81 L (v6 :: v5 :: v4 :: v3 :: v2 :: v1 :: .ref a :: []) (rz_mk h ι, w) = rz_k true (rz_f Z d 190 [.ref a, v1, v2, v3, v4, v5, v6] (rz_mk h ι, w)) (fun v σ' => rg Z d rx_m205 84 L (v.toList ++ []) σ') := rz_cv (pc := 81) (n := 6) (mi := 190) (S := v6 :: v5 :: v4 :: v3 :: v2 :: v1 :: .ref a :: []) (rest := []) rfl rfl (Nat.le_of_ble_eq_true rfl) (Nat.le_of_ble_eq_true rfl) c
theorem g205_84 : rg Z d rx_m205 84 L (.int x :: S) (rz_mk h ι, w) = if x = 0 then rg Z d rx_m205 89 L S (rz_mk h ι, w) else rg Z d rx_m205 87 L S (rz_mk h ι, w) := rz_if1 (pc := 84) (t := 89) (off := 5) (cc := .eq) (by decide) rfl
theorem g205_87 : rg Z d rx_m205 87 L S (rz_mk h ι, w) = rg Z d rx_m205 88 L (.int 4 :: S) (rz_mk h ι, w) := rz_s1 fun _ => rfl
theorem g205_88 : rg Z d rx_m205 88 L [.int x] (rz_mk h ι, w) = some (.inl (some (.int x)), (rz_mk h ι, w)) := rz_reti rfl rfl rfl
theorem g205_89 : rg Z d rx_m205 89 [some (.ref a)] S (rz_mk h ι, w) = rg Z d rx_m205 90 [some (.ref a)] (.ref a :: S) (rz_mk h ι, w) := rz_s1 fun _ => rfl
theorem g205_90 : rg Z d rx_m205 90 L S (rz_mk h ι, w) = rg Z d rx_m205 92 L (.int 18 :: S) (rz_mk h ι, w) := rz_s1 fun _ => rfl
theorem g205_92 : rg Z d rx_m205 92 L S (rz_mk h ι, w) = rg Z d rx_m205 93 L (.int 5 :: S) (rz_mk h ι, w) := rz_s1 fun _ => rfl
theorem g205_93 : rg Z d rx_m205 93 L S (rz_mk h ι, w) = rg Z d rx_m205 95 L (.int 9 :: S) (rz_mk h ι, w) := rz_s1 fun _ => rfl
theorem g205_95 : rg Z d rx_m205 95 L S (rz_mk h ι, w) = rg Z d rx_m205 97 L (.int 7 :: S) (rz_mk h ι, w) := rz_s1 fun _ => rfl
theorem g205_97 : rg Z d rx_m205 97 L S (rz_mk h ι, w) = rg Z d rx_m205 99 L (.int 14 :: S) (rz_mk h ι, w) := rz_s1 fun _ => rfl
theorem g205_99 : rg Z d rx_m205 99 L S (rz_mk h ι, w) = rg Z d rx_m205 100 L (.int 0 :: S) (rz_mk h ι, w) := rz_s1 fun _ => rfl
theorem g205_100 (c : rz_oc h a 12) : rg Z d rx_m205 100 L (v6 :: v5 :: v4 :: v3 :: v2 :: v1 :: .ref a :: []) (rz_mk h ι, w) = rz_k true (rz_f Z d 190 [.ref a, v1, v2, v3, v4, v5, v6] (rz_mk h ι, w)) (fun v σ' => rg Z d rx_m205 103 L (v.toList ++ []) σ') := rz_cv (pc := 100) (n := 6) (mi := 190) (S := v6 :: v5 :: v4 :: v3 :: v2 :: v1 :: .ref a :: []) (rest := []) rfl rfl (Nat.le_of_ble_eq_true rfl) (Nat.le_of_ble_eq_true rfl) c
theorem g205_103 : rg Z d rx_m205 103 L (.int x :: S) (rz_mk h ι, w) = if x = 0 then rg Z d rx_m205 108 L S (rz_mk h ι, w) else rg Z d rx_m205 106 L S (rz_mk h ι, w) := rz_if1 (pc := 103) (t := 108) (off := 5) (cc := .eq) (by decide) rfl
theorem g205_106 : rg Z d rx_m205 106 L S (rz_mk h ι, w) = rg Z d rx_m205 107 L (.int 5 :: S) (rz_mk h ι, w) := rz_s1 fun _ => rfl
theorem g205_107 : rg Z d rx_m205 107 L [.int x] (rz_mk h ι, w) = some (.inl (some (.int x)), (rz_mk h ι, w)) := rz_reti rfl rfl rfl
theorem g205_108 : rg Z d rx_m205 108 [some (.ref a)] S (rz_mk h ι, w) = rg Z d rx_m205 109 [some (.ref a)] (.ref a :: S) (rz_mk h ι, w) := rz_s1 fun _ => rfl
theorem g205_109 : rg Z d rx_m205 109 L S (rz_mk h ι, w) = rg Z d rx_m205 111 L (.int 25 :: S) (rz_mk h ι, w) := rz_s1 fun _ => rfl
theorem g205_111 : rg Z d rx_m205 111 L S (rz_mk h ι, w) = rg Z d rx_m205 112 L (.int 5 :: S) (rz_mk h ι, w) := rz_s1 fun _ => rfl
theorem g205_112 : rg Z d rx_m205 112 L S (rz_mk h ι, w) = rg Z d rx_m205 113 L (.int 1 :: S) (rz_mk h ι, w) := rz_s1 fun _ => rfl
theorem g205_113 : rg Z d rx_m205 113 L S (rz_mk h ι, w) = rg Z d rx_m205 115 L (.int 18 :: S) (rz_mk h ι, w) := rz_s1 fun _ => rfl
theorem g205_115 : rg Z d rx_m205 115 L S (rz_mk h ι, w) = rg Z d rx_m205 116 L (.int 0 :: S) (rz_mk h ι, w) := rz_s1 fun _ => rfl
theorem g205_116 : rg Z d rx_m205 116 L S (rz_mk h ι, w) = rg Z d rx_m205 117 L (.int 0 :: S) (rz_mk h ι, w) := rz_s1 fun _ => rfl
theorem g205_117 (c : rz_oc h a 12) : rg Z d rx_m205 117 L (v6 :: v5 :: v4 :: v3 :: v2 :: v1 :: .ref a :: []) (rz_mk h ι, w) = rz_k true (rz_f Z d 190 [.ref a, v1, v2, v3, v4, v5, v6] (rz_mk h ι, w)) (fun v σ' => rg Z d rx_m205 120 L (v.toList ++ []) σ') := rz_cv (pc := 117) (n := 6) (mi := 190) (S := v6 :: v5 :: v4 :: v3 :: v2 :: v1 :: .ref a :: []) (rest := []) rfl rfl (Nat.le_of_ble_eq_true rfl) (Nat.le_of_ble_eq_true rfl) c
theorem g205_120 : rg Z d rx_m205 120 L (.int x :: S) (rz_mk h ι, w) = if x = 0 then rg Z d rx_m205 126 L S (rz_mk h ι, w) else rg Z d rx_m205 123 L S (rz_mk h ι, w) := rz_if1 (pc := 120) (t := 126) (off := 6) (cc := .eq) (by decide) rfl
theorem g205_123 : rg Z d rx_m205 123 L S (rz_mk h ι, w) = rg Z d rx_m205 125 L (.int 6 :: S) (rz_mk h ι, w) := rz_s1 fun _ => rfl
theorem g205_125 : rg Z d rx_m205 125 L [.int x] (rz_mk h ι, w) = some (.inl (some (.int x)), (rz_mk h ι, w)) := rz_reti rfl rfl rfl
theorem g205_126 : rg Z d rx_m205 126 [some (.ref a)] S (rz_mk h ι, w) = rg Z d rx_m205 127 [some (.ref a)] (.ref a :: S) (rz_mk h ι, w) := rz_s1 fun _ => rfl
theorem g205_127 : rg Z d rx_m205 127 L S (rz_mk h ι, w) = rg Z d rx_m205 129 L (.int 16 :: S) (rz_mk h ι, w) := rz_s1 fun _ => rfl
theorem g205_129 : rg Z d rx_m205 129 L S (rz_mk h ι, w) = rg Z d rx_m205 130 L (.int 5 :: S) (rz_mk h ι, w) := rz_s1 fun _ => rfl
theorem g205_130 : rg Z d rx_m205 130 L S (rz_mk h ι, w) = rg Z d rx_m205 132 L (.int 18 :: S) (rz_mk h ι, w) := rz_s1 fun _ => rfl
theorem g205_132 : rg Z d rx_m205 132 L S (rz_mk h ι, w) = rg Z d rx_m205 134 L (.int 19 :: S) (rz_mk h ι, w) := rz_s1 fun _ => rfl
theorem g205_134 : rg Z d rx_m205 134 L S (rz_mk h ι, w) = rg Z d rx_m205 136 L (.int 15 :: S) (rz_mk h ι, w) := rz_s1 fun _ => rfl
theorem g205_136 : rg Z d rx_m205 136 L S (rz_mk h ι, w) = rg Z d rx_m205 138 L (.int 14 :: S) (rz_mk h ι, w) := rz_s1 fun _ => rfl
theorem g205_138 (c : rz_oc h a 12) : rg Z d rx_m205 138 L (v6 :: v5 :: v4 :: v3 :: v2 :: v1 :: .ref a :: []) (rz_mk h ι, w) = rz_k true (rz_f Z d 190 [.ref a, v1, v2, v3, v4, v5, v6] (rz_mk h ι, w)) (fun v σ' => rg Z d rx_m205 141 L (v.toList ++ []) σ') := rz_cv (pc := 138) (n := 6) (mi := 190) (S := v6 :: v5 :: v4 :: v3 :: v2 :: v1 :: .ref a :: []) (rest := []) rfl rfl (Nat.le_of_ble_eq_true rfl) (Nat.le_of_ble_eq_true rfl) c
theorem g205_141 : rg Z d rx_m205 141 L (.int x :: S) (rz_mk h ι, w) = if x = 0 then rg Z d rx_m205 149 L S (rz_mk h ι, w) else rg Z d rx_m205 144 L S (rz_mk h ι, w) := rz_if1 (pc := 141) (t := 149) (off := 8) (cc := .eq) (by decide) rfl
theorem g205_144 : rg Z d rx_m205 144 L S (rz_mk h ι, w) = rg Z d rx_m205 146 L (.int 7 :: S) (rz_mk h ι, w) := rz_s1 fun _ => rfl
theorem g205_146 : rg Z d rx_m205 146 L S (rz_mk h ι, w) = rg Z d rx_m205 150 L S (rz_mk h ι, w) := rz_s1 fun _ => rfl
theorem g205_149 : rg Z d rx_m205 149 L S (rz_mk h ι, w) = rg Z d rx_m205 150 L (.int (-1) :: S) (rz_mk h ι, w) := rz_s1 fun _ => rfl
theorem g205_150 : rg Z d rx_m205 150 L [.int x] (rz_mk h ι, w) = some (.inl (some (.int x)), (rz_mk h ι, w)) := rz_reti rfl rfl rfl
theorem e205 : rz_f Z (d + 1) 205 [.ref t0] σ = rg Z d rx_m205 0 [some (.ref t0)] [] σ := rz_f_eq rfl (Nat.le_of_ble_eq_true rfl)
theorem g206_0 : rg Z d rx_m206 0 [some (.ref a), l1, l2] S (rz_mk h ι, w) = rg Z d rx_m206 1 [some (.ref a), l1, l2] (.ref a :: S) (rz_mk h ι, w) := rz_s1 fun _ => rfl
theorem g206_1 (c : rz_fI h a 12 5) : rg Z d rx_m206 1 L (.ref a :: S) (rz_mk h ι, w) = rg Z d rx_m206 4 L (.int (ι a 5) :: S) (rz_mk h ι, w) := rz_gI rfl (by decide) c
theorem g206_4 : rg Z d rx_m206 4 L (.int x :: S) (rz_mk h ι, w) = if x = 0 then rg Z d rx_m206 8 L S (rz_mk h ι, w) else rg Z d rx_m206 7 L S (rz_mk h ι, w) := rz_if1 (pc := 4) (t := 8) (off := 4) (cc := .eq) (by decide) rfl
theorem g206_7 : rg Z d rx_m206 7 L [] (rz_mk h ι, w) = some (.inl none, (rz_mk h ι, w)) := rz_r1 fun _ => rfl
theorem g206_8 : rg Z d rx_m206 8 [some (.ref a), l1, l2] S (rz_mk h ι, w) = rg Z d rx_m206 9 [some (.ref a), l1, l2] (.ref a :: S) (rz_mk h ι, w) := rz_s1 fun _ => rfl
theorem g206_9 (c : rz_oc h a 12) : rg Z d rx_m206 9 L (.ref a :: []) (rz_mk h ι, w) = rz_k true (rz_f Z d 181 [.ref a] (rz_mk h ι, w)) (fun v σ' => rg Z d rx_m206 12 L (v.toList ++ []) σ') := rz_cv (pc := 9) (n := 0) (mi := 181) (S := .ref a :: []) (rest := []) rfl rfl (Nat.le_of_ble_eq_true rfl) (Nat.le_of_ble_eq_true rfl) c
theorem g206_12 : rg Z d rx_m206 12 [some (.ref a), l1, l2] S (rz_mk h ι, w) = rg Z d rx_m206 13 [some (.ref a), l1, l2] (.ref a :: S) (rz_mk h ι, w) := rz_s1 fun _ => rfl
theorem g206_13 : rg Z d rx_m206 13 L S (rz_mk h ι, w) = rg Z d rx_m206 15 L (.int 12 :: S) (rz_mk h ι, w) := rz_s1 fun _ => rfl
theorem g206_15 : rg Z d rx_m206 15 L S (rz_mk h ι, w) = rg Z d rx_m206 16 L (.int 5 :: S) (rz_mk h ι, w) := rz_s1 fun _ => rfl
theorem g206_16 : rg Z d rx_m206 16 L S (rz_mk h ι, w) = rg Z d rx_m206 17 L (.int 1 :: S) (rz_mk h ι, w) := rz_s1 fun _ => rfl
theorem g206_17 : rg Z d rx_m206 17 L S (rz_mk h ι, w) = rg Z d rx_m206 19 L (.int 19 :: S) (rz_mk h ι, w) := rz_s1 fun _ => rfl
theorem g206_19 : rg Z d rx_m206 19 L S (rz_mk h ι, w) = rg Z d rx_m206 21 L (.int 20 :: S) (rz_mk h ι, w) := rz_s1 fun _ => rfl
theorem g206_21 : rg Z d rx_m206 21 L S (rz_mk h ι, w) = rg Z d rx_m206 22 L (.int 0 :: S) (rz_mk h ι, w) := rz_s1 fun _ => rfl
theorem g206_22 (c : rz_oc h a 12) : rg Z d rx_m206 22 L (v6 :: v5 :: v4 :: v3 :: v2 :: v1 :: .ref a :: []) (rz_mk h ι, w) = rz_k true (rz_f Z d 188 [.ref a, v1, v2, v3, v4, v5, v6] (rz_mk h ι, w)) (fun v σ' => rg Z d rx_m206 25 L (v.toList ++ []) σ') := rz_cv (pc := 22) (n := 6) (mi := 188) (S := v6 :: v5 :: v4 :: v3 :: v2 :: v1 :: .ref a :: []) (rest := []) rfl rfl (Nat.le_of_ble_eq_true rfl) (Nat.le_of_ble_eq_true rfl) c
theorem g206_25 : rg Z d rx_m206 25 L (.int x :: S) (rz_mk h ι, w) = if x = 0 then rg Z d rx_m206 33 L S (rz_mk h ι, w) else rg Z d rx_m206 28 L S (rz_mk h ι, w) := rz_if1 (pc := 25) (t := 33) (off := 8) (cc := .eq) (by decide) rfl
theorem g206_28 : rg Z d rx_m206 28 L S (rz_mk h ι, w) = rg Z d rx_m206 30 L (.int 7 :: S) (rz_mk h ι, w) := rz_s1 fun _ => rfl
theorem g206_30 : rg Z d rx_m206 30 L S (rz_mk h ι, w) = rg Z d rx_m206 56 L S (rz_mk h ι, w) := rz_s1 fun _ => rfl
theorem g206_33 : rg Z d rx_m206 33 [some (.ref a), l1, l2] S (rz_mk h ι, w) = rg Z d rx_m206 34 [some (.ref a), l1, l2] (.ref a :: S) (rz_mk h ι, w) := rz_s1 fun _ => rfl
theorem g206_34 : rg Z d rx_m206 34 L S (rz_mk h ι, w) = rg Z d rx_m206 36 L (.int 13 :: S) (rz_mk h ι, w) := rz_s1 fun _ => rfl
theorem g206_36 : rg Z d rx_m206 36 L S (rz_mk h ι, w) = rg Z d rx_m206 38 L (.int 15 :: S) (rz_mk h ι, w) := rz_s1 fun _ => rfl
theorem g206_38 : rg Z d rx_m206 38 L S (rz_mk h ι, w) = rg Z d rx_m206 40 L (.int 19 :: S) (rz_mk h ι, w) := rz_s1 fun _ => rfl
theorem g206_40 : rg Z d rx_m206 40 L S (rz_mk h ι, w) = rg Z d rx_m206 42 L (.int 20 :: S) (rz_mk h ι, w) := rz_s1 fun _ => rfl
theorem g206_42 : rg Z d rx_m206 42 L S (rz_mk h ι, w) = rg Z d rx_m206 43 L (.int 0 :: S) (rz_mk h ι, w) := rz_s1 fun _ => rfl
theorem g206_43 : rg Z d rx_m206 43 L S (rz_mk h ι, w) = rg Z d rx_m206 44 L (.int 0 :: S) (rz_mk h ι, w) := rz_s1 fun _ => rfl
theorem g206_44 (c : rz_oc h a 12) : rg Z d rx_m206 44 L (v6 :: v5 :: v4 :: v3 :: v2 :: v1 :: .ref a :: []) (rz_mk h ι, w) = rz_k true (rz_f Z d 188 [.ref a, v1, v2, v3, v4, v5, v6] (rz_mk h ι, w)) (fun v σ' => rg Z d rx_m206 47 L (v.toList ++ []) σ') := rz_cv (pc := 44) (n := 6) (mi := 188) (S := v6 :: v5 :: v4 :: v3 :: v2 :: v1 :: .ref a :: []) (rest := []) rfl rfl (Nat.le_of_ble_eq_true rfl) (Nat.le_of_ble_eq_true rfl) c
theorem g206_47 : rg Z d rx_m206 47 L (.int x :: S) (rz_mk h ι, w) = if x = 0 then rg Z d rx_m206 55 L S (rz_mk h ι, w) else rg Z d rx_m206 50 L S (rz_mk h ι, w) := rz_if1 (pc := 47) (t := 55) (off := 8) (cc := .eq) (by decide) rfl
theorem g206_50 : rg Z d rx_m206 50 L S (rz_mk h ι, w) = rg Z d rx_m206 52 L (.int 8 :: S) (rz_mk h ι, w) := rz_s1 fun _ => rfl
theorem g206_52 : rg Z d rx_m206 52 L S (rz_mk h ι, w) = rg Z d rx_m206 56 L S (rz_mk h ι, w) := rz_s1 fun _ => rfl
theorem g206_55 : rg Z d rx_m206 55 L S (rz_mk h ι, w) = rg Z d rx_m206 56 L (.int (-1) :: S) (rz_mk h ι, w) := rz_s1 fun _ => rfl
theorem g206_56 : rg Z d rx_m206 56 [some (.ref b), l1, l2] (.int x :: S) (rz_mk h ι, w) = rg Z d rx_m206 57 [some (.ref b), some (.int x), l2] S (rz_mk h ι, w) := rz_s1 fun _ => rfl
theorem g206_57 : rg Z d rx_m206 57 [l0, some (.int x), l2] S (rz_mk h ι, w) = rg Z d rx_m206 58 [l0, some (.int x), l2] (.int x :: S) (rz_mk h ι, w) := rz_s1 fun _ => rfl
theorem g206_58 : rg Z d rx_m206 58 L S (rz_mk h ι, w) = rg Z d rx_m206 59 L (.int (-1) :: S) (rz_mk h ι, w) := rz_s1 fun _ => rfl
theorem g206_59 : rg Z d rx_m206 59 L (.int y :: .int x :: S) (rz_mk h ι, w) = if x = y then rg Z d rx_m206 117 L S (rz_mk h ι, w) else rg Z d rx_m206 62 L S (rz_mk h ι, w) := rz_if2 (pc := 59) (t := 117) (off := 58) (cc := .eq) (by decide) rfl
theorem g206_62 : rg Z d rx_m206 62 [some (.ref a), l1, l2] S (rz_mk h ι, w) = rg Z d rx_m206 63 [some (.ref a), l1, l2] (.ref a :: S) (rz_mk h ι, w) := rz_s1 fun _ => rfl
theorem g206_63 (c : rz_oc h a 12) : rg Z d rx_m206 63 L (.ref a :: []) (rz_mk h ι, w) = rz_k true (rz_f Z d 202 [.ref a] (rz_mk h ι, w)) (fun v σ' => rg Z d rx_m206 66 L (v.toList ++ []) σ') := rz_cv (pc := 63) (n := 0) (mi := 202) (S := .ref a :: []) (rest := []) rfl rfl (Nat.le_of_ble_eq_true rfl) (Nat.le_of_ble_eq_true rfl) c
theorem g206_66 : rg Z d rx_m206 66 L (.int x :: S) (rz_mk h ι, w) = if x = 0 then rg Z d rx_m206 69 L S (rz_mk h ι, w) else rg Z d rx_m206 70 L S (rz_mk h ι, w) := rz_if1 (pc := 66) (t := 70) (off := 4) (cc := .ne) (by decide) rfl
theorem g206_69 : rg Z d rx_m206 69 L [] (rz_mk h ι, w) = some (.inl none, (rz_mk h ι, w)) := rz_r1 fun _ => rfl
theorem g206_70 : rg Z d rx_m206 70 [some (.ref a), l1, l2] S (rz_mk h ι, w) = rg Z d rx_m206 71 [some (.ref a), l1, l2] (.ref a :: S) (rz_mk h ι, w) := rz_s1 fun _ => rfl
theorem g206_71 (c : rz_oc h a 12) : rg Z d rx_m206 71 L (.ref a :: []) (rz_mk h ι, w) = rz_k true (rz_f Z d 189 [.ref a] (rz_mk h ι, w)) (fun v σ' => rg Z d rx_m206 74 L (v.toList ++ []) σ') := rz_cv (pc := 71) (n := 0) (mi := 189) (S := .ref a :: []) (rest := []) rfl rfl (Nat.le_of_ble_eq_true rfl) (Nat.le_of_ble_eq_true rfl) c
theorem g206_74 : rg Z d rx_m206 74 [some (.ref a), l1, l2] S (rz_mk h ι, w) = rg Z d rx_m206 75 [some (.ref a), l1, l2] (.ref a :: S) (rz_mk h ι, w) := rz_s1 fun _ => rfl
theorem g206_75 : rg Z d rx_m206 75 L S (rz_mk h ι, w) = rg Z d rx_m206 77 L (.int 91 :: S) (rz_mk h ι, w) := rz_s1 fun _ => rfl
theorem g206_77 (c : rz_oc h a 12) : rg Z d rx_m206 77 L (v1 :: .ref a :: []) (rz_mk h ι, w) = rz_k true (rz_f Z d 191 [.ref a, v1] (rz_mk h ι, w)) (fun v σ' => rg Z d rx_m206 80 L (v.toList ++ []) σ') := rz_cv (pc := 77) (n := 1) (mi := 191) (S := v1 :: .ref a :: []) (rest := []) rfl rfl (Nat.le_of_ble_eq_true rfl) (Nat.le_of_ble_eq_true rfl) c
theorem g206_80 : rg Z d rx_m206 80 [some (.ref a), l1, l2] S (rz_mk h ι, w) = rg Z d rx_m206 81 [some (.ref a), l1, l2] (.ref a :: S) (rz_mk h ι, w) := rz_s1 fun _ => rfl
theorem g206_81 (c : rz_oc h a 12) : rg Z d rx_m206 81 L (.ref a :: []) (rz_mk h ι, w) = rz_k true (rz_f Z d 203 [.ref a] (rz_mk h ι, w)) (fun v σ' => rg Z d rx_m206 84 L (v.toList ++ []) σ') := rz_cv (pc := 81) (n := 0) (mi := 203) (S := .ref a :: []) (rest := []) rfl rfl (Nat.le_of_ble_eq_true rfl) (Nat.le_of_ble_eq_true rfl) c
theorem g206_84 : rg Z d rx_m206 84 [some (.ref a), l1, l2] S (rz_mk h ι, w) = rg Z d rx_m206 85 [some (.ref a), l1, l2] (.ref a :: S) (rz_mk h ι, w) := rz_s1 fun _ => rfl
theorem g206_85 : rg Z d rx_m206 85 L S (rz_mk h ι, w) = rg Z d rx_m206 87 L (.int 44 :: S) (rz_mk h ι, w) := rz_s1 fun _ => rfl
theorem g206_87 (c : rz_oc h a 12) : rg Z d rx_m206 87 L (v1 :: .ref a :: []) (rz_mk h ι, w) = rz_k true (rz_f Z d 191 [.ref a, v1] (rz_mk h ι, w)) (fun v σ' => rg Z d rx_m206 90 L (v.toList ++ []) σ') := rz_cv (pc := 87) (n := 1) (mi := 191) (S := v1 :: .ref a :: []) (rest := []) rfl rfl (Nat.le_of_ble_eq_true rfl) (Nat.le_of_ble_eq_true rfl) c
theorem g206_90 : rg Z d rx_m206 90 [some (.ref a), l1, l2] S (rz_mk h ι, w) = rg Z d rx_m206 91 [some (.ref a), l1, l2] (.ref a :: S) (rz_mk h ι, w) := rz_s1 fun _ => rfl
theorem g206_91 (c : rz_oc h a 12) : rg Z d rx_m206 91 L (.ref a :: []) (rz_mk h ι, w) = rz_k true (rz_f Z d 203 [.ref a] (rz_mk h ι, w)) (fun v σ' => rg Z d rx_m206 94 L (v.toList ++ []) σ') := rz_cv (pc := 91) (n := 0) (mi := 203) (S := .ref a :: []) (rest := []) rfl rfl (Nat.le_of_ble_eq_true rfl) (Nat.le_of_ble_eq_true rfl) c
theorem g206_94 : rg Z d rx_m206 94 [some (.ref a), l1, l2] S (rz_mk h ι, w) = rg Z d rx_m206 95 [some (.ref a), l1, l2] (.ref a :: S) (rz_mk h ι, w) := rz_s1 fun _ => rfl
theorem g206_95 : rg Z d rx_m206 95 L S (rz_mk h ι, w) = rg Z d rx_m206 97 L (.int 93 :: S) (rz_mk h ι, w) := rz_s1 fun _ => rfl
theorem g206_97 (c : rz_oc h a 12) : rg Z d rx_m206 97 L (v1 :: .ref a :: []) (rz_mk h ι, w) = rz_k true (rz_f Z d 191 [.ref a, v1] (rz_mk h ι, w)) (fun v σ' => rg Z d rx_m206 100 L (v.toList ++ []) σ') := rz_cv (pc := 97) (n := 1) (mi := 191) (S := v1 :: .ref a :: []) (rest := []) rfl rfl (Nat.le_of_ble_eq_true rfl) (Nat.le_of_ble_eq_true rfl) c
theorem g206_100 : rg Z d rx_m206 100 [some (.ref a), l1, l2] S (rz_mk h ι, w) = rg Z d rx_m206 101 [some (.ref a), l1, l2] (.ref a :: S) (rz_mk h ι, w) := rz_s1 fun _ => rfl
theorem g206_101 : rg Z d rx_m206 101 [l0, some (.int x), l2] S (rz_mk h ι, w) = rg Z d rx_m206 102 [l0, some (.int x), l2] (.int x :: S) (rz_mk h ι, w) := rz_s1 fun _ => rfl
theorem g206_102 : rg Z d rx_m206 102 L S (rz_mk h ι, w) = rg Z d rx_m206 103 L (.int 0 :: S) (rz_mk h ι, w) := rz_s1 fun _ => rfl
theorem g206_103 (c : rz_oc h a 12) : rg Z d rx_m206 103 L (v2 :: v1 :: .ref a :: []) (rz_mk h ι, w) = rz_k true (rz_f Z d 201 [.ref a, v1, v2] (rz_mk h ι, w)) (fun v σ' => rg Z d rx_m206 106 L (v.toList ++ []) σ') := rz_cv (pc := 103) (n := 2) (mi := 201) (S := v2 :: v1 :: .ref a :: []) (rest := []) rfl rfl (Nat.le_of_ble_eq_true rfl) (Nat.le_of_ble_eq_true rfl) c
theorem g206_106 : rg Z d rx_m206 106 [some (.ref a), l1, l2] S (rz_mk h ι, w) = rg Z d rx_m206 107 [some (.ref a), l1, l2] (.ref a :: S) (rz_mk h ι, w) := rz_s1 fun _ => rfl
theorem g206_107 : rg Z d rx_m206 107 L (.ref a :: S) (rz_mk h ι, w) = rg Z d rx_m206 108 L (.ref a :: .ref a :: S) (rz_mk h ι, w) := rz_s1 fun _ => rfl
theorem g206_108 (c : rz_fI h a 12 8) : rg Z d rx_m206 108 L (.ref a :: S) (rz_mk h ι, w) = rg Z d rx_m206 111 L (.int (ι a 8) :: S) (rz_mk h ι, w) := rz_gI rfl (by decide) c
theorem g206_111 : rg Z d rx_m206 111 L S (rz_mk h ι, w) = rg Z d rx_m206 112 L (.int 1 :: S) (rz_mk h ι, w) := rz_s1 fun _ => rfl
theorem g206_112 : rg Z d rx_m206 112 L (.int y :: .int x :: S) (rz_mk h ι, w) = rg Z d rx_m206 113 L (.int (x - y) :: S) (rz_mk h ι, w) := rz_s1 fun _ => rfl
theorem g206_113 (c : rz_fI h a 12 8) (hz : Z.2.1 ≤ a) : rg Z d rx_m206 113 L (.int x :: .ref a :: S) (rz_mk h ι, w) = rg Z d rx_m206 116 L S (rz_mk h (rz_up ι a 8 x), w) := rz_pI rfl c hz
theorem g206_116 : rg Z d rx_m206 116 L [] (rz_mk h ι, w) = some (.inl none, (rz_mk h ι, w)) := rz_r1 fun _ => rfl
theorem g206_117 : rg Z d rx_m206 117 [some (.ref a), l1, l2] S (rz_mk h ι, w) = rg Z d rx_m206 118 [some (.ref a), l1, l2] (.ref a :: S) (rz_mk h ι, w) := rz_s1 fun _ => rfl
theorem g206_118 : rg Z d rx_m206 118 [some (.ref a), l1, l2] S (rz_mk h ι, w) = rg Z d rx_m206 119 [some (.ref a), l1, l2] (.ref a :: S) (rz_mk h ι, w) := rz_s1 fun _ => rfl
theorem g206_119 (c : rz_fI h a 12 4) : rg Z d rx_m206 119 L (.ref a :: S) (rz_mk h ι, w) = rg Z d rx_m206 122 L (.int (ι a 4) :: S) (rz_mk h ι, w) := rz_gI rfl (by decide) c
theorem g206_122 (c : rz_oc h a 12) : rg Z d rx_m206 122 L (v1 :: .ref a :: []) (rz_mk h ι, w) = rz_k true (rz_f Z d 180 [.ref a, v1] (rz_mk h ι, w)) (fun v σ' => rg Z d rx_m206 125 L (v.toList ++ []) σ') := rz_cv (pc := 122) (n := 1) (mi := 180) (S := v1 :: .ref a :: []) (rest := []) rfl rfl (Nat.le_of_ble_eq_true rfl) (Nat.le_of_ble_eq_true rfl) c
theorem g206_125 : rg Z d rx_m206 125 L S (rz_mk h ι, w) = rg Z d rx_m206 127 L (.int 40 :: S) (rz_mk h ι, w) := rz_s1 fun _ => rfl
theorem g206_127 : rg Z d rx_m206 127 L (.int y :: .int x :: S) (rz_mk h ι, w) = if x = y then rg Z d rx_m206 130 L S (rz_mk h ι, w) else rg Z d rx_m206 169 L S (rz_mk h ι, w) := rz_if2 (pc := 127) (t := 169) (off := 42) (cc := .ne) (by decide) rfl
theorem g206_130 : rg Z d rx_m206 130 [some (.ref a), l1, l2] S (rz_mk h ι, w) = rg Z d rx_m206 131 [some (.ref a), l1, l2] (.ref a :: S) (rz_mk h ι, w) := rz_s1 fun _ => rfl
theorem g206_131 (c : rz_oc h a 12) : rg Z d rx_m206 131 L (.ref a :: []) (rz_mk h ι, w) = rz_k true (rz_f Z d 202 [.ref a] (rz_mk h ι, w)) (fun v σ' => rg Z d rx_m206 134 L (v.toList ++ []) σ') := rz_cv (pc := 131) (n := 0) (mi := 202) (S := .ref a :: []) (rest := []) rfl rfl (Nat.le_of_ble_eq_true rfl) (Nat.le_of_ble_eq_true rfl) c
theorem g206_134 : rg Z d rx_m206 134 L (.int x :: S) (rz_mk h ι, w) = if x = 0 then rg Z d rx_m206 137 L S (rz_mk h ι, w) else rg Z d rx_m206 138 L S (rz_mk h ι, w) := rz_if1 (pc := 134) (t := 138) (off := 4) (cc := .ne) (by decide) rfl
theorem g206_137 : rg Z d rx_m206 137 L [] (rz_mk h ι, w) = some (.inl none, (rz_mk h ι, w)) := rz_r1 fun _ => rfl
theorem g206_138 : rg Z d rx_m206 138 [some (.ref a), l1, l2] S (rz_mk h ι, w) = rg Z d rx_m206 139 [some (.ref a), l1, l2] (.ref a :: S) (rz_mk h ι, w) := rz_s1 fun _ => rfl
theorem g206_139 : rg Z d rx_m206 139 L (.ref a :: S) (rz_mk h ι, w) = rg Z d rx_m206 140 L (.ref a :: .ref a :: S) (rz_mk h ι, w) := rz_s1 fun _ => rfl
theorem g206_140 (c : rz_fI h a 12 4) : rg Z d rx_m206 140 L (.ref a :: S) (rz_mk h ι, w) = rg Z d rx_m206 143 L (.int (ι a 4) :: S) (rz_mk h ι, w) := rz_gI rfl (by decide) c
theorem g206_143 : rg Z d rx_m206 143 L S (rz_mk h ι, w) = rg Z d rx_m206 144 L (.int 1 :: S) (rz_mk h ι, w) := rz_s1 fun _ => rfl
theorem g206_144 : rg Z d rx_m206 144 L (.int y :: .int x :: S) (rz_mk h ι, w) = rg Z d rx_m206 145 L (.int (x + y) :: S) (rz_mk h ι, w) := rz_s1 fun _ => rfl
theorem g206_145 (c : rz_fI h a 12 4) (hz : Z.2.1 ≤ a) : rg Z d rx_m206 145 L (.int x :: .ref a :: S) (rz_mk h ι, w) = rg Z d rx_m206 148 L S (rz_mk h (rz_up ι a 4 x), w) := rz_pI rfl c hz
theorem g206_148 : rg Z d rx_m206 148 [some (.ref a), l1, l2] S (rz_mk h ι, w) = rg Z d rx_m206 149 [some (.ref a), l1, l2] (.ref a :: S) (rz_mk h ι, w) := rz_s1 fun _ => rfl
theorem g206_149 (c : rz_oc h a 12) : rg Z d rx_m206 149 L (.ref a :: []) (rz_mk h ι, w) = rz_k true (rz_f Z d 203 [.ref a] (rz_mk h ι, w)) (fun v σ' => rg Z d rx_m206 152 L (v.toList ++ []) σ') := rz_cv (pc := 149) (n := 0) (mi := 203) (S := .ref a :: []) (rest := []) rfl rfl (Nat.le_of_ble_eq_true rfl) (Nat.le_of_ble_eq_true rfl) c
theorem g206_152 : rg Z d rx_m206 152 [some (.ref a), l1, l2] S (rz_mk h ι, w) = rg Z d rx_m206 153 [some (.ref a), l1, l2] (.ref a :: S) (rz_mk h ι, w) := rz_s1 fun _ => rfl
theorem g206_153 : rg Z d rx_m206 153 L S (rz_mk h ι, w) = rg Z d rx_m206 155 L (.int 41 :: S) (rz_mk h ι, w) := rz_s1 fun _ => rfl
theorem g206_155 (c : rz_oc h a 12) : rg Z d rx_m206 155 L (v1 :: .ref a :: []) (rz_mk h ι, w) = rz_k true (rz_f Z d 191 [.ref a, v1] (rz_mk h ι, w)) (fun v σ' => rg Z d rx_m206 158 L (v.toList ++ []) σ') := rz_cv (pc := 155) (n := 1) (mi := 191) (S := v1 :: .ref a :: []) (rest := []) rfl rfl (Nat.le_of_ble_eq_true rfl) (Nat.le_of_ble_eq_true rfl) c
theorem g206_158 : rg Z d rx_m206 158 [some (.ref a), l1, l2] S (rz_mk h ι, w) = rg Z d rx_m206 159 [some (.ref a), l1, l2] (.ref a :: S) (rz_mk h ι, w) := rz_s1 fun _ => rfl
theorem g206_159 : rg Z d rx_m206 159 L (.ref a :: S) (rz_mk h ι, w) = rg Z d rx_m206 160 L (.ref a :: .ref a :: S) (rz_mk h ι, w) := rz_s1 fun _ => rfl
theorem g206_160 (c : rz_fI h a 12 8) : rg Z d rx_m206 160 L (.ref a :: S) (rz_mk h ι, w) = rg Z d rx_m206 163 L (.int (ι a 8) :: S) (rz_mk h ι, w) := rz_gI rfl (by decide) c
theorem g206_163 : rg Z d rx_m206 163 L S (rz_mk h ι, w) = rg Z d rx_m206 164 L (.int 1 :: S) (rz_mk h ι, w) := rz_s1 fun _ => rfl
theorem g206_164 : rg Z d rx_m206 164 L (.int y :: .int x :: S) (rz_mk h ι, w) = rg Z d rx_m206 165 L (.int (x - y) :: S) (rz_mk h ι, w) := rz_s1 fun _ => rfl
theorem g206_165 (c : rz_fI h a 12 8) (hz : Z.2.1 ≤ a) : rg Z d rx_m206 165 L (.int x :: .ref a :: S) (rz_mk h ι, w) = rg Z d rx_m206 168 L S (rz_mk h (rz_up ι a 8 x), w) := rz_pI rfl c hz
theorem g206_168 : rg Z d rx_m206 168 L [] (rz_mk h ι, w) = some (.inl none, (rz_mk h ι, w)) := rz_r1 fun _ => rfl
theorem g206_169 : rg Z d rx_m206 169 [some (.ref a), l1, l2] S (rz_mk h ι, w) = rg Z d rx_m206 170 [some (.ref a), l1, l2] (.ref a :: S) (rz_mk h ι, w) := rz_s1 fun _ => rfl
theorem g206_170 (c : rz_oc h a 12) : rg Z d rx_m206 170 L (.ref a :: []) (rz_mk h ι, w) = rz_k true (rz_f Z d 205 [.ref a] (rz_mk h ι, w)) (fun v σ' => rg Z d rx_m206 173 L (v.toList ++ []) σ') := rz_cv (pc := 170) (n := 0) (mi := 205) (S := .ref a :: []) (rest := []) rfl rfl (Nat.le_of_ble_eq_true rfl) (Nat.le_of_ble_eq_true rfl) c
theorem g206_173 : rg Z d rx_m206 173 [l0, some (.int z), l2] (.int x :: S) (rz_mk h ι, w) = rg Z d rx_m206 174 [l0, some (.int z), some (.int x)] S (rz_mk h ι, w) := rz_s1 fun _ => rfl
theorem g206_174 : rg Z d rx_m206 174 [l0, l1, some (.int x)] S (rz_mk h ι, w) = rg Z d rx_m206 175 [l0, l1, some (.int x)] (.int x :: S) (rz_mk h ι, w) := rz_s1 fun _ => rfl
theorem g206_175 : rg Z d rx_m206 175 L S (rz_mk h ι, w) = rg Z d rx_m206 176 L (.int (-1) :: S) (rz_mk h ι, w) := rz_s1 fun _ => rfl
theorem g206_176 : rg Z d rx_m206 176 L (.int y :: .int x :: S) (rz_mk h ι, w) = if x = y then rg Z d rx_m206 188 L S (rz_mk h ι, w) else rg Z d rx_m206 179 L S (rz_mk h ι, w) := rz_if2 (pc := 176) (t := 188) (off := 12) (cc := .eq) (by decide) rfl
theorem g206_179 : rg Z d rx_m206 179 [some (.ref a), l1, l2] S (rz_mk h ι, w) = rg Z d rx_m206 180 [some (.ref a), l1, l2] (.ref a :: S) (rz_mk h ι, w) := rz_s1 fun _ => rfl
theorem g206_180 : rg Z d rx_m206 180 L S (rz_mk h ι, w) = rg Z d rx_m206 181 L (.int 1 :: S) (rz_mk h ι, w) := rz_s1 fun _ => rfl
theorem g206_181 : rg Z d rx_m206 181 [l0, l1, some (.int x)] S (rz_mk h ι, w) = rg Z d rx_m206 182 [l0, l1, some (.int x)] (.int x :: S) (rz_mk h ι, w) := rz_s1 fun _ => rfl
theorem g206_182 (c : rz_oc h a 12) : rg Z d rx_m206 182 L (v2 :: v1 :: .ref a :: []) (rz_mk h ι, w) = rz_k true (rz_f Z d 201 [.ref a, v1, v2] (rz_mk h ι, w)) (fun v σ' => rg Z d rx_m206 185 L (v.toList ++ []) σ') := rz_cv (pc := 182) (n := 2) (mi := 201) (S := v2 :: v1 :: .ref a :: []) (rest := []) rfl rfl (Nat.le_of_ble_eq_true rfl) (Nat.le_of_ble_eq_true rfl) c
theorem g206_185 : rg Z d rx_m206 185 L S (rz_mk h ι, w) = rg Z d rx_m206 201 L S (rz_mk h ι, w) := rz_s1 fun _ => rfl
theorem g206_188 : rg Z d rx_m206 188 [some (.ref a), l1, l2] S (rz_mk h ι, w) = rg Z d rx_m206 189 [some (.ref a), l1, l2] (.ref a :: S) (rz_mk h ι, w) := rz_s1 fun _ => rfl
theorem g206_189 : rg Z d rx_m206 189 L S (rz_mk h ι, w) = rg Z d rx_m206 190 L (.int 0 :: S) (rz_mk h ι, w) := rz_s1 fun _ => rfl
theorem g206_190 : rg Z d rx_m206 190 [some (.ref a), l1, l2] S (rz_mk h ι, w) = rg Z d rx_m206 191 [some (.ref a), l1, l2] (.ref a :: S) (rz_mk h ι, w) := rz_s1 fun _ => rfl
theorem g206_191 : rg Z d rx_m206 191 L S (rz_mk h ι, w) = rg Z d rx_m206 192 L (.int 0 :: S) (rz_mk h ι, w) := rz_s1 fun _ => rfl
theorem g206_192 : rg Z d rx_m206 192 L S (rz_mk h ι, w) = rg Z d rx_m206 195 L (.int 999 :: S) (rz_mk h ι, w) := rz_s1 fun _ => rfl
theorem g206_195 (c : rz_oc h a 12) : rg Z d rx_m206 195 L (v2 :: v1 :: .ref a :: [.int s0, .ref t1]) (rz_mk h ι, w) = rz_k true (rz_f Z d 185 [.ref a, v1, v2] (rz_mk h ι, w)) (fun v σ' => rg Z d rx_m206 198 L (v.toList ++ [.int s0, .ref t1]) σ') := rz_cv (pc := 195) (n := 2) (mi := 185) (S := v2 :: v1 :: .ref a :: [.int s0, .ref t1]) (rest := [.int s0, .ref t1]) rfl rfl (Nat.le_of_ble_eq_true rfl) (Nat.le_of_ble_eq_true rfl) c
theorem g206_198 (c : rz_oc h a 12) : rg Z d rx_m206 198 L (v2 :: v1 :: .ref a :: []) (rz_mk h ι, w) = rz_k true (rz_f Z d 201 [.ref a, v1, v2] (rz_mk h ι, w)) (fun v σ' => rg Z d rx_m206 201 L (v.toList ++ []) σ') := rz_cv (pc := 198) (n := 2) (mi := 201) (S := v2 :: v1 :: .ref a :: []) (rest := []) rfl rfl (Nat.le_of_ble_eq_true rfl) (Nat.le_of_ble_eq_true rfl) c
theorem g206_201 : rg Z d rx_m206 201 L [] (rz_mk h ι, w) = some (.inl none, (rz_mk h ι, w)) := rz_r1 fun _ => rfl
theorem e206 : rz_f Z (d + 1) 206 [.ref t0] σ = rg Z d rx_m206 0 [some (.ref t0), none, none] [] σ := rz_f_eq rfl (Nat.le_of_ble_eq_true rfl)
theorem g207_0 : rg Z d rx_m207 0 [some (.ref a), l1] S (rz_mk h ι, w) = rg Z d rx_m207 1 [some (.ref a), l1] (.ref a :: S) (rz_mk h ι, w) := rz_s1 fun _ => rfl
theorem g207_1 : rg Z d rx_m207 1 L S (rz_mk h ι, w) = rg Z d rx_m207 2 L (.int 0 :: S) (rz_mk h ι, w) := rz_s1 fun _ => rfl
theorem g207_2 (c : rz_fI h a 12 0) (hz : Z.2.1 ≤ a) : rg Z d rx_m207 2 L (.int x :: .ref a :: S) (rz_mk h ι, w) = rg Z d rx_m207 5 L S (rz_mk h (rz_up ι a 0 x), w) := rz_pI rfl c hz
theorem g207_5 : rg Z d rx_m207 5 [some (.ref a), l1] S (rz_mk h ι, w) = rg Z d rx_m207 6 [some (.ref a), l1] (.ref a :: S) (rz_mk h ι, w) := rz_s1 fun _ => rfl
theorem g207_6 : rg Z d rx_m207 6 [l0, some (.int x)] S (rz_mk h ι, w) = rg Z d rx_m207 7 [l0, some (.int x)] (.int x :: S) (rz_mk h ι, w) := rz_s1 fun _ => rfl
theorem g207_7 : rg Z d rx_m207 7 L S (rz_mk h ι, w) = rg Z d rx_m207 8 L (.int 0 :: S) (rz_mk h ι, w) := rz_s1 fun _ => rfl
theorem g207_8 : rg Z d rx_m207 8 [some (.ref a), l1] S (rz_mk h ι, w) = rg Z d rx_m207 9 [some (.ref a), l1] (.ref a :: S) (rz_mk h ι, w) := rz_s1 fun _ => rfl
theorem g207_9 (c : rz_fI h a 12 1) : rg Z d rx_m207 9 L (.ref a :: S) (rz_mk h ι, w) = rg Z d rx_m207 12 L (.int (ι a 1) :: S) (rz_mk h ι, w) := rz_gI rfl (by decide) c
theorem g207_12 : rg Z d rx_m207 12 L (v3 :: v2 :: v1 :: [.ref t0]) (rz_mk h ι, w) = rz_k true (rz_f Z d 175 [v1, v2, v3] (rz_mk h ι, w)) (fun v σ' => rg Z d rx_m207 15 L (v.toList ++ [.ref t0]) σ') := rz_cs (pc := 12) (n := 3) (mi := 175) (S := v3 :: v2 :: v1 :: [.ref t0]) (rest := [.ref t0]) rfl rfl (Nat.le_of_ble_eq_true rfl) (Nat.le_of_ble_eq_true rfl)
theorem g207_15 : rg Z d rx_m207 15 L (.int x :: S) (rz_mk h ι, w) = if x = 0 then rg Z d rx_m207 25 L S (rz_mk h ι, w) else rg Z d rx_m207 18 L S (rz_mk h ι, w) := rz_if1 (pc := 15) (t := 25) (off := 10) (cc := .eq) (by decide) rfl
theorem g207_18 : rg Z d rx_m207 18 [l0, some (.int x)] S (rz_mk h ι, w) = rg Z d rx_m207 19 [l0, some (.int x)] (.int x :: S) (rz_mk h ι, w) := rz_s1 fun _ => rfl
theorem g207_19 : rg Z d rx_m207 19 L S (rz_mk h ι, w) = rg Z d rx_m207 22 L (.int 150 :: S) (rz_mk h ι, w) := rz_s1 fun _ => rfl
theorem g207_22 : rg Z d rx_m207 22 L (.int y :: .int x :: S) (rz_mk h ι, w) = if y < x then rg Z d rx_m207 25 L S (rz_mk h ι, w) else rg Z d rx_m207 29 L S (rz_mk h ι, w) := rz_if2 (pc := 22) (t := 29) (off := 7) (cc := .le) (by decide) rfl
theorem g207_25 : rg Z d rx_m207 25 L S (rz_mk h ι, w) = rg Z d rx_m207 26 L (.int 1 :: S) (rz_mk h ι, w) := rz_s1 fun _ => rfl
theorem g207_26 : rg Z d rx_m207 26 L S (rz_mk h ι, w) = rg Z d rx_m207 30 L S (rz_mk h ι, w) := rz_s1 fun _ => rfl
theorem g207_29 : rg Z d rx_m207 29 L S (rz_mk h ι, w) = rg Z d rx_m207 30 L (.int 0 :: S) (rz_mk h ι, w) := rz_s1 fun _ => rfl
theorem g207_30 : rg Z d rx_m207 30 L S (rz_mk h ι, w) = rg Z d rx_m207 31 L (.int 1 :: S) (rz_mk h ι, w) := rz_s1 fun _ => rfl
theorem g207_31 : rg Z d rx_m207 31 L S (rz_mk h ι, w) = rg Z d rx_m207 32 L (.int 1 :: S) (rz_mk h ι, w) := rz_s1 fun _ => rfl
theorem g207_32 (c : rz_oc h a 12) : rg Z d rx_m207 32 L (v3 :: v2 :: v1 :: .ref a :: []) (rz_mk h ι, w) = rz_k true (rz_f Z d 174 [.ref a, v1, v2, v3] (rz_mk h ι, w)) (fun v σ' => rg Z d rx_m207 35 L (v.toList ++ []) σ') := rz_cv (pc := 32) (n := 3) (mi := 174) (S := v3 :: v2 :: v1 :: .ref a :: []) (rest := []) rfl rfl (Nat.le_of_ble_eq_true rfl) (Nat.le_of_ble_eq_true rfl) c
theorem g207_35 : rg Z d rx_m207 35 L (.int x :: S) (rz_mk h ι, w) = if x = 0 then rg Z d rx_m207 40 L S (rz_mk h ι, w) else rg Z d rx_m207 38 L S (rz_mk h ι, w) := rz_if1 (pc := 35) (t := 40) (off := 5) (cc := .eq) (by decide) rfl
theorem g207_38 : rg Z d rx_m207 38 L S (rz_mk h ι, w) = rg Z d rx_m207 39 L (.int 0 :: S) (rz_mk h ι, w) := rz_s1 fun _ => rfl
theorem g207_39 : rg Z d rx_m207 39 L [.int x] (rz_mk h ι, w) = some (.inl (some (.int x)), (rz_mk h ι, w)) := rz_reti rfl rfl rfl
theorem g207_40 : rg Z d rx_m207 40 [some (.ref a), l1] S (rz_mk h ι, w) = rg Z d rx_m207 41 [some (.ref a), l1] (.ref a :: S) (rz_mk h ι, w) := rz_s1 fun _ => rfl
theorem g207_41 : rg Z d rx_m207 41 [l0, some (.int x)] S (rz_mk h ι, w) = rg Z d rx_m207 42 [l0, some (.int x)] (.int x :: S) (rz_mk h ι, w) := rz_s1 fun _ => rfl
theorem g207_42 (c : rz_oc h a 12) : rg Z d rx_m207 42 L (v1 :: .ref a :: []) (rz_mk h ι, w) = rz_k true (rz_f Z d 193 [.ref a, v1] (rz_mk h ι, w)) (fun v σ' => rg Z d rx_m207 45 L (v.toList ++ []) σ') := rz_cv (pc := 42) (n := 1) (mi := 193) (S := v1 :: .ref a :: []) (rest := []) rfl rfl (Nat.le_of_ble_eq_true rfl) (Nat.le_of_ble_eq_true rfl) c
theorem g207_45 : rg Z d rx_m207 45 [some (.ref a), l1] S (rz_mk h ι, w) = rg Z d rx_m207 46 [some (.ref a), l1] (.ref a :: S) (rz_mk h ι, w) := rz_s1 fun _ => rfl
theorem g207_46 : rg Z d rx_m207 46 L S (rz_mk h ι, w) = rg Z d rx_m207 47 L (.int 0 :: S) (rz_mk h ι, w) := rz_s1 fun _ => rfl
theorem g207_47 (c : rz_fI h a 12 16) (hz : Z.2.1 ≤ a) : rg Z d rx_m207 47 L (.int x :: .ref a :: S) (rz_mk h ι, w) = rg Z d rx_m207 50 L S (rz_mk h (rz_up ι a 16 x), w) := rz_pI rfl c hz
theorem g207_50 : rg Z d rx_m207 50 [some (.ref a), l1] S (rz_mk h ι, w) = rg Z d rx_m207 51 [some (.ref a), l1] (.ref a :: S) (rz_mk h ι, w) := rz_s1 fun _ => rfl
theorem g207_51 (c : rz_oc h a 12) : rg Z d rx_m207 51 L (.ref a :: []) (rz_mk h ι, w) = rz_k true (rz_f Z d 203 [.ref a] (rz_mk h ι, w)) (fun v σ' => rg Z d rx_m207 54 L (v.toList ++ []) σ') := rz_cv (pc := 51) (n := 0) (mi := 203) (S := .ref a :: []) (rest := []) rfl rfl (Nat.le_of_ble_eq_true rfl) (Nat.le_of_ble_eq_true rfl) c
theorem g207_54 : rg Z d rx_m207 54 [some (.ref a), l1] S (rz_mk h ι, w) = rg Z d rx_m207 55 [some (.ref a), l1] (.ref a :: S) (rz_mk h ι, w) := rz_s1 fun _ => rfl
theorem g207_55 (c : rz_oc h a 12) : rg Z d rx_m207 55 L (.ref a :: []) (rz_mk h ι, w) = rz_k true (rz_f Z d 181 [.ref a] (rz_mk h ι, w)) (fun v σ' => rg Z d rx_m207 58 L (v.toList ++ []) σ') := rz_cv (pc := 55) (n := 0) (mi := 181) (S := .ref a :: []) (rest := []) rfl rfl (Nat.le_of_ble_eq_true rfl) (Nat.le_of_ble_eq_true rfl) c
theorem g207_58 : rg Z d rx_m207 58 [some (.ref a), l1] S (rz_mk h ι, w) = rg Z d rx_m207 59 [some (.ref a), l1] (.ref a :: S) (rz_mk h ι, w) := rz_s1 fun _ => rfl
theorem g207_59 (c : rz_fI h a 12 5) : rg Z d rx_m207 59 L (.ref a :: S) (rz_mk h ι, w) = rg Z d rx_m207 62 L (.int (ι a 5) :: S) (rz_mk h ι, w) := rz_gI rfl (by decide) c
theorem g207_62 : rg Z d rx_m207 62 L (.int x :: S) (rz_mk h ι, w) = if x = 0 then rg Z d rx_m207 65 L S (rz_mk h ι, w) else rg Z d rx_m207 85 L S (rz_mk h ι, w) := rz_if1 (pc := 62) (t := 85) (off := 23) (cc := .ne) (by decide) rfl
theorem g207_65 : rg Z d rx_m207 65 [some (.ref a), l1] S (rz_mk h ι, w) = rg Z d rx_m207 66 [some (.ref a), l1] (.ref a :: S) (rz_mk h ι, w) := rz_s1 fun _ => rfl
theorem g207_66 (c : rz_fI h a 12 4) : rg Z d rx_m207 66 L (.ref a :: S) (rz_mk h ι, w) = rg Z d rx_m207 69 L (.int (ι a 4) :: S) (rz_mk h ι, w) := rz_gI rfl (by decide) c
theorem g207_69 : rg Z d rx_m207 69 [some (.ref a), l1] S (rz_mk h ι, w) = rg Z d rx_m207 70 [some (.ref a), l1] (.ref a :: S) (rz_mk h ι, w) := rz_s1 fun _ => rfl
theorem g207_70 (c : rz_fI h a 12 2) : rg Z d rx_m207 70 L (.ref a :: S) (rz_mk h ι, w) = rg Z d rx_m207 73 L (.int (ι a 2) :: S) (rz_mk h ι, w) := rz_gI rfl (by decide) c
theorem g207_73 : rg Z d rx_m207 73 L (.int y :: .int x :: S) (rz_mk h ι, w) = if x < y then rg Z d rx_m207 76 L S (rz_mk h ι, w) else rg Z d rx_m207 85 L S (rz_mk h ι, w) := rz_if2 (pc := 73) (t := 85) (off := 12) (cc := .ge) (by decide) rfl
theorem g207_76 : rg Z d rx_m207 76 [some (.ref a), l1] S (rz_mk h ι, w) = rg Z d rx_m207 77 [some (.ref a), l1] (.ref a :: S) (rz_mk h ι, w) := rz_s1 fun _ => rfl
theorem g207_77 : rg Z d rx_m207 77 L S (rz_mk h ι, w) = rg Z d rx_m207 78 L (.int 1 :: S) (rz_mk h ι, w) := rz_s1 fun _ => rfl
theorem g207_78 : rg Z d rx_m207 78 [some (.ref a), l1] S (rz_mk h ι, w) = rg Z d rx_m207 79 [some (.ref a), l1] (.ref a :: S) (rz_mk h ι, w) := rz_s1 fun _ => rfl
theorem g207_79 (c : rz_fI h a 12 4) : rg Z d rx_m207 79 L (.ref a :: S) (rz_mk h ι, w) = rg Z d rx_m207 82 L (.int (ι a 4) :: S) (rz_mk h ι, w) := rz_gI rfl (by decide) c
theorem g207_82 (c : rz_oc h a 12) : rg Z d rx_m207 82 L (v2 :: v1 :: .ref a :: []) (rz_mk h ι, w) = rz_k true (rz_f Z d 182 [.ref a, v1, v2] (rz_mk h ι, w)) (fun v σ' => rg Z d rx_m207 85 L (v.toList ++ []) σ') := rz_cv (pc := 82) (n := 2) (mi := 182) (S := v2 :: v1 :: .ref a :: []) (rest := []) rfl rfl (Nat.le_of_ble_eq_true rfl) (Nat.le_of_ble_eq_true rfl) c
theorem g207_85 : rg Z d rx_m207 85 [some (.ref a), l1] S (rz_mk h ι, w) = rg Z d rx_m207 86 [some (.ref a), l1] (.ref a :: S) (rz_mk h ι, w) := rz_s1 fun _ => rfl
theorem g207_86 (c : rz_fI h a 12 5) : rg Z d rx_m207 86 L (.ref a :: S) (rz_mk h ι, w) = rg Z d rx_m207 89 L (.int (ι a 5) :: S) (rz_mk h ι, w) := rz_gI rfl (by decide) c
theorem g207_89 : rg Z d rx_m207 89 L (.int x :: S) (rz_mk h ι, w) = if x = 0 then rg Z d rx_m207 97 L S (rz_mk h ι, w) else rg Z d rx_m207 92 L S (rz_mk h ι, w) := rz_if1 (pc := 89) (t := 97) (off := 8) (cc := .eq) (by decide) rfl
theorem g207_92 : rg Z d rx_m207 92 [some (.ref a), l1] S (rz_mk h ι, w) = rg Z d rx_m207 93 [some (.ref a), l1] (.ref a :: S) (rz_mk h ι, w) := rz_s1 fun _ => rfl
theorem g207_93 (c : rz_oc h a 12) : rg Z d rx_m207 93 L (.ref a :: []) (rz_mk h ι, w) = rz_k true (rz_f Z d 194 [.ref a] (rz_mk h ι, w)) (fun v σ' => rg Z d rx_m207 96 L (v.toList ++ []) σ') := rz_cv (pc := 93) (n := 0) (mi := 194) (S := .ref a :: []) (rest := []) rfl rfl (Nat.le_of_ble_eq_true rfl) (Nat.le_of_ble_eq_true rfl) c
theorem g207_96 : rg Z d rx_m207 96 L [.int x] (rz_mk h ι, w) = some (.inl (some (.int x)), (rz_mk h ι, w)) := rz_reti rfl rfl rfl
theorem g207_97 : rg Z d rx_m207 97 [some (.ref a), l1] S (rz_mk h ι, w) = rg Z d rx_m207 98 [some (.ref a), l1] (.ref a :: S) (rz_mk h ι, w) := rz_s1 fun _ => rfl
theorem g207_98 : rg Z d rx_m207 98 L S (rz_mk h ι, w) = rg Z d rx_m207 99 L (.int (-1) :: S) (rz_mk h ι, w) := rz_s1 fun _ => rfl
theorem g207_99 (c : rz_fI h a 12 3) (hz : Z.2.1 ≤ a) : rg Z d rx_m207 99 L (.int x :: .ref a :: S) (rz_mk h ι, w) = rg Z d rx_m207 102 L S (rz_mk h (rz_up ι a 3 x), w) := rz_pI rfl c hz
theorem g207_102 : rg Z d rx_m207 102 [some (.ref a), l1] S (rz_mk h ι, w) = rg Z d rx_m207 103 [some (.ref a), l1] (.ref a :: S) (rz_mk h ι, w) := rz_s1 fun _ => rfl
theorem g207_103 : rg Z d rx_m207 103 [some (.ref a), l1] S (rz_mk h ι, w) = rg Z d rx_m207 104 [some (.ref a), l1] (.ref a :: S) (rz_mk h ι, w) := rz_s1 fun _ => rfl
theorem g207_104 (c : rz_fI h a 12 16) : rg Z d rx_m207 104 L (.ref a :: S) (rz_mk h ι, w) = rg Z d rx_m207 107 L (.int (ι a 16) :: S) (rz_mk h ι, w) := rz_gI rfl (by decide) c
theorem g207_107 (c : rz_fI h a 12 15) (hz : Z.2.1 ≤ a) : rg Z d rx_m207 107 L (.int x :: .ref a :: S) (rz_mk h ι, w) = rg Z d rx_m207 110 L S (rz_mk h (rz_up ι a 15 x), w) := rz_pI rfl c hz
theorem g207_110 : rg Z d rx_m207 110 [some (.ref a), l1] S (rz_mk h ι, w) = rg Z d rx_m207 111 [some (.ref a), l1] (.ref a :: S) (rz_mk h ι, w) := rz_s1 fun _ => rfl
theorem g207_111 (c : rz_fR h a 12 18) : rg Z d rx_m207 111 L (.ref a :: S) (rz_mk h ι, w) = rg Z d rx_m207 114 L (rz_rv h a 18 :: S) (rz_mk h ι, w) := rz_gR rfl (by decide) c
theorem g207_114 : rg Z d rx_m207 114 [some (.ref a), l1] S (rz_mk h ι, w) = rg Z d rx_m207 115 [some (.ref a), l1] (.ref a :: S) (rz_mk h ι, w) := rz_s1 fun _ => rfl
theorem g207_115 (c : rz_fR h a 12 17) : rg Z d rx_m207 115 L (.ref a :: S) (rz_mk h ι, w) = rg Z d rx_m207 118 L (rz_rv h a 17 :: S) (rz_mk h ι, w) := rz_gR rfl (by decide) c
theorem g207_118 : rg Z d rx_m207 118 [some (.ref a), l1] S (rz_mk h ι, w) = rg Z d rx_m207 119 [some (.ref a), l1] (.ref a :: S) (rz_mk h ι, w) := rz_s1 fun _ => rfl
theorem g207_119 (c : rz_fI h a 12 15) : rg Z d rx_m207 119 L (.ref a :: S) (rz_mk h ι, w) = rg Z d rx_m207 122 L (.int (ι a 15) :: S) (rz_mk h ι, w) := rz_gI rfl (by decide) c
theorem g207_122 : rg Z d rx_m207 122 L (v3 :: v2 :: v1 :: []) (rz_mk h ι, w) = rz_k true (rz_f Z d 198 [v1, v2, v3] (rz_mk h ι, w)) (fun v σ' => rg Z d rx_m207 125 L (v.toList ++ []) σ') := rz_cs (pc := 122) (n := 3) (mi := 198) (S := v3 :: v2 :: v1 :: []) (rest := []) rfl rfl (Nat.le_of_ble_eq_true rfl) (Nat.le_of_ble_eq_true rfl)
theorem g207_125 : rg Z d rx_m207 125 L S (rz_mk h ι, w) = rg Z d rx_m207 126 L (.int 1 :: S) (rz_mk h ι, w) := rz_s1 fun _ => rfl
theorem g207_126 : rg Z d rx_m207 126 L [.int x] (rz_mk h ι, w) = some (.inl (some (.int x)), (rz_mk h ι, w)) := rz_reti rfl rfl rfl
theorem e207 : rz_f Z (d + 1) 207 [.ref t0, .int s1] σ = rg Z d rx_m207 0 [some (.ref t0), some (.int s1)] [] σ := rz_f_eq rfl (Nat.le_of_ble_eq_true rfl)
theorem g208_0 : rg Z d rx_m208 0 [some (.int x), l1, l2] S (rz_mk h ι, w) = rg Z d rx_m208 1 [some (.int x), l1, l2] (.int x :: S) (rz_mk h ι, w) := rz_s1 fun _ => rfl
theorem g208_1 : rg Z d rx_m208 1 L (.int x :: S) (rz_mk h ι, w) = if x = 2 then rg Z d rx_m208 40 L S (rz_mk h ι, w) else if x = 3 then rg Z d rx_m208 44 L S (rz_mk h ι, w) else if x = 4 then rg Z d rx_m208 48 L S (rz_mk h ι, w) else if x = 5 then rg Z d rx_m208 52 L S (rz_mk h ι, w) else if x = 6 then rg Z d rx_m208 74 L S (rz_mk h ι, w) else if x = 7 then rg Z d rx_m208 91 L S (rz_mk h ι, w) else rg Z d rx_m208 97 L S (rz_mk h ι, w) := by
  by_cases c0 : x = 2
  · rw [if_pos c0, c0]; exact rz_s1 fun _ => rfl
  rw [if_neg c0]
  by_cases c1 : x = 3
  · rw [if_pos c1, c1]; exact rz_s1 fun _ => rfl
  rw [if_neg c1]
  by_cases c2 : x = 4
  · rw [if_pos c2, c2]; exact rz_s1 fun _ => rfl
  rw [if_neg c2]
  by_cases c3 : x = 5
  · rw [if_pos c3, c3]; exact rz_s1 fun _ => rfl
  rw [if_neg c3]
  by_cases c4 : x = 6
  · rw [if_pos c4, c4]; exact rz_s1 fun _ => rfl
  rw [if_neg c4]
  by_cases c5 : x = 7
  · rw [if_pos c5, c5]; exact rz_s1 fun _ => rfl
  rw [if_neg c5]
  refine rz_s1 fun c => ?_
  unfold rx_at1
  show ((if x.toInt < 2 ∨ 7 < x.toInt then rx_jmp _ _ _ _ else _) : rx_P).map _ = _
  rw [if_pos]
  · rfl
  · apply Decidable.byContradiction
    intro hc
    have hn : x.toInt = 2 ∨ x.toInt = 3 ∨ x.toInt = 4 ∨ x.toInt = 5 ∨ x.toInt = 6 ∨ x.toInt = 7 := by omega
    rcases hn with hn | hn | hn | hn | hn | hn
    · exact c0 (Int32.toInt_inj.mp (hn.trans (by decide)))
    · exact c1 (Int32.toInt_inj.mp (hn.trans (by decide)))
    · exact c2 (Int32.toInt_inj.mp (hn.trans (by decide)))
    · exact c3 (Int32.toInt_inj.mp (hn.trans (by decide)))
    · exact c4 (Int32.toInt_inj.mp (hn.trans (by decide)))
    · exact c5 (Int32.toInt_inj.mp (hn.trans (by decide)))
theorem g208_40 : rg Z d rx_m208 40 [l0, some (.int x), l2] S (rz_mk h ι, w) = rg Z d rx_m208 41 [l0, some (.int x), l2] (.int x :: S) (rz_mk h ι, w) := rz_s1 fun _ => rfl
theorem g208_41 : rg Z d rx_m208 41 [l0, l1, some (.int x)] S (rz_mk h ι, w) = rg Z d rx_m208 42 [l0, l1, some (.int x)] (.int x :: S) (rz_mk h ι, w) := rz_s1 fun _ => rfl
theorem g208_42 : rg Z d rx_m208 42 L (.int y :: .int x :: S) (rz_mk h ι, w) = rg Z d rx_m208 43 L (.int (x + y) :: S) (rz_mk h ι, w) := rz_s1 fun _ => rfl
theorem g208_43 : rg Z d rx_m208 43 L [.int x] (rz_mk h ι, w) = some (.inl (some (.int x)), (rz_mk h ι, w)) := rz_reti rfl rfl rfl
theorem g208_44 : rg Z d rx_m208 44 [l0, some (.int x), l2] S (rz_mk h ι, w) = rg Z d rx_m208 45 [l0, some (.int x), l2] (.int x :: S) (rz_mk h ι, w) := rz_s1 fun _ => rfl
theorem g208_45 : rg Z d rx_m208 45 [l0, l1, some (.int x)] S (rz_mk h ι, w) = rg Z d rx_m208 46 [l0, l1, some (.int x)] (.int x :: S) (rz_mk h ι, w) := rz_s1 fun _ => rfl
theorem g208_46 : rg Z d rx_m208 46 L (.int y :: .int x :: S) (rz_mk h ι, w) = rg Z d rx_m208 47 L (.int (x - y) :: S) (rz_mk h ι, w) := rz_s1 fun _ => rfl
theorem g208_47 : rg Z d rx_m208 47 L [.int x] (rz_mk h ι, w) = some (.inl (some (.int x)), (rz_mk h ι, w)) := rz_reti rfl rfl rfl
theorem g208_48 : rg Z d rx_m208 48 [l0, some (.int x), l2] S (rz_mk h ι, w) = rg Z d rx_m208 49 [l0, some (.int x), l2] (.int x :: S) (rz_mk h ι, w) := rz_s1 fun _ => rfl
theorem g208_49 : rg Z d rx_m208 49 [l0, l1, some (.int x)] S (rz_mk h ι, w) = rg Z d rx_m208 50 [l0, l1, some (.int x)] (.int x :: S) (rz_mk h ι, w) := rz_s1 fun _ => rfl
theorem g208_50 : rg Z d rx_m208 50 L (.int y :: .int x :: S) (rz_mk h ι, w) = rg Z d rx_m208 51 L (.int (x * y) :: S) (rz_mk h ι, w) := rz_s1 fun _ => rfl
theorem g208_51 : rg Z d rx_m208 51 L [.int x] (rz_mk h ι, w) = some (.inl (some (.int x)), (rz_mk h ι, w)) := rz_reti rfl rfl rfl
theorem g208_52 : rg Z d rx_m208 52 [l0, l1, some (.int x)] S (rz_mk h ι, w) = rg Z d rx_m208 53 [l0, l1, some (.int x)] (.int x :: S) (rz_mk h ι, w) := rz_s1 fun _ => rfl
theorem g208_53 : rg Z d rx_m208 53 L (.int x :: S) (rz_mk h ι, w) = if x = 0 then rg Z d rx_m208 56 L S (rz_mk h ι, w) else rg Z d rx_m208 60 L S (rz_mk h ι, w) := rz_if1 (pc := 53) (t := 60) (off := 7) (cc := .ne) (by decide) rfl
theorem g208_56 : rg Z d rx_m208 56 L S (rz_mk h ι, w) = rg Z d rx_m208 57 L (.int 0 :: S) (rz_mk h ι, w) := rz_s1 fun _ => rfl
theorem g208_57 : rg Z d rx_m208 57 L S (rz_mk h ι, w) = rg Z d rx_m208 73 L S (rz_mk h ι, w) := rz_s1 fun _ => rfl
theorem g208_60 : rg Z d rx_m208 60 [l0, l1, some (.int x)] S (rz_mk h ι, w) = rg Z d rx_m208 61 [l0, l1, some (.int x)] (.int x :: S) (rz_mk h ι, w) := rz_s1 fun _ => rfl
theorem g208_61 : rg Z d rx_m208 61 L S (rz_mk h ι, w) = rg Z d rx_m208 62 L (.int (-1) :: S) (rz_mk h ι, w) := rz_s1 fun _ => rfl
theorem g208_62 : rg Z d rx_m208 62 L (.int y :: .int x :: S) (rz_mk h ι, w) = if x = y then rg Z d rx_m208 65 L S (rz_mk h ι, w) else rg Z d rx_m208 70 L S (rz_mk h ι, w) := rz_if2 (pc := 62) (t := 70) (off := 8) (cc := .ne) (by decide) rfl
theorem g208_65 : rg Z d rx_m208 65 [l0, some (.int x), l2] S (rz_mk h ι, w) = rg Z d rx_m208 66 [l0, some (.int x), l2] (.int x :: S) (rz_mk h ι, w) := rz_s1 fun _ => rfl
theorem g208_66 : rg Z d rx_m208 66 L (.int x :: S) (rz_mk h ι, w) = rg Z d rx_m208 67 L (.int (-x) :: S) (rz_mk h ι, w) := rz_s1 fun _ => rfl
theorem g208_67 : rg Z d rx_m208 67 L S (rz_mk h ι, w) = rg Z d rx_m208 73 L S (rz_mk h ι, w) := rz_s1 fun _ => rfl
theorem g208_70 : rg Z d rx_m208 70 [l0, some (.int x), l2] S (rz_mk h ι, w) = rg Z d rx_m208 71 [l0, some (.int x), l2] (.int x :: S) (rz_mk h ι, w) := rz_s1 fun _ => rfl
theorem g208_71 : rg Z d rx_m208 71 [l0, l1, some (.int x)] S (rz_mk h ι, w) = rg Z d rx_m208 72 [l0, l1, some (.int x)] (.int x :: S) (rz_mk h ι, w) := rz_s1 fun _ => rfl
theorem g208_72 (c : ¬ y = 0) : rg Z d rx_m208 72 L (.int y :: .int x :: S) (rz_mk h ι, w) = rg Z d rx_m208 73 L (.int (x / y) :: S) (rz_mk h ι, w) := rz_div rfl c
theorem g208_73 : rg Z d rx_m208 73 L [.int x] (rz_mk h ι, w) = some (.inl (some (.int x)), (rz_mk h ι, w)) := rz_reti rfl rfl rfl
theorem g208_74 : rg Z d rx_m208 74 [l0, l1, some (.int x)] S (rz_mk h ι, w) = rg Z d rx_m208 75 [l0, l1, some (.int x)] (.int x :: S) (rz_mk h ι, w) := rz_s1 fun _ => rfl
theorem g208_75 : rg Z d rx_m208 75 L (.int x :: S) (rz_mk h ι, w) = if x = 0 then rg Z d rx_m208 83 L S (rz_mk h ι, w) else rg Z d rx_m208 78 L S (rz_mk h ι, w) := rz_if1 (pc := 75) (t := 83) (off := 8) (cc := .eq) (by decide) rfl
theorem g208_78 : rg Z d rx_m208 78 [l0, l1, some (.int x)] S (rz_mk h ι, w) = rg Z d rx_m208 79 [l0, l1, some (.int x)] (.int x :: S) (rz_mk h ι, w) := rz_s1 fun _ => rfl
theorem g208_79 : rg Z d rx_m208 79 L S (rz_mk h ι, w) = rg Z d rx_m208 80 L (.int (-1) :: S) (rz_mk h ι, w) := rz_s1 fun _ => rfl
theorem g208_80 : rg Z d rx_m208 80 L (.int y :: .int x :: S) (rz_mk h ι, w) = if x = y then rg Z d rx_m208 83 L S (rz_mk h ι, w) else rg Z d rx_m208 87 L S (rz_mk h ι, w) := rz_if2 (pc := 80) (t := 87) (off := 7) (cc := .ne) (by decide) rfl
theorem g208_83 : rg Z d rx_m208 83 L S (rz_mk h ι, w) = rg Z d rx_m208 84 L (.int 0 :: S) (rz_mk h ι, w) := rz_s1 fun _ => rfl
theorem g208_84 : rg Z d rx_m208 84 L S (rz_mk h ι, w) = rg Z d rx_m208 90 L S (rz_mk h ι, w) := rz_s1 fun _ => rfl
theorem g208_87 : rg Z d rx_m208 87 [l0, some (.int x), l2] S (rz_mk h ι, w) = rg Z d rx_m208 88 [l0, some (.int x), l2] (.int x :: S) (rz_mk h ι, w) := rz_s1 fun _ => rfl
theorem g208_88 : rg Z d rx_m208 88 [l0, l1, some (.int x)] S (rz_mk h ι, w) = rg Z d rx_m208 89 [l0, l1, some (.int x)] (.int x :: S) (rz_mk h ι, w) := rz_s1 fun _ => rfl
theorem g208_89 (c : ¬ y = 0) : rg Z d rx_m208 89 L (.int y :: .int x :: S) (rz_mk h ι, w) = rg Z d rx_m208 90 L (.int (x - x / y * y) :: S) (rz_mk h ι, w) := rz_rem rfl c
theorem g208_90 : rg Z d rx_m208 90 L [.int x] (rz_mk h ι, w) = some (.inl (some (.int x)), (rz_mk h ι, w)) := rz_reti rfl rfl rfl
theorem g208_91 : rg Z d rx_m208 91 [l0, some (.int x), l2] S (rz_mk h ι, w) = rg Z d rx_m208 92 [l0, some (.int x), l2] (.int x :: S) (rz_mk h ι, w) := rz_s1 fun _ => rfl
theorem g208_92 : rg Z d rx_m208 92 [l0, l1, some (.int x)] S (rz_mk h ι, w) = rg Z d rx_m208 93 [l0, l1, some (.int x)] (.int x :: S) (rz_mk h ι, w) := rz_s1 fun _ => rfl
theorem g208_93 : rg Z d rx_m208 93 L (v2 :: v1 :: []) (rz_mk h ι, w) = rz_k true (rz_f Z d 176 [v1, v2] (rz_mk h ι, w)) (fun v σ' => rg Z d rx_m208 96 L (v.toList ++ []) σ') := rz_cs (pc := 93) (n := 2) (mi := 176) (S := v2 :: v1 :: []) (rest := []) rfl rfl (Nat.le_of_ble_eq_true rfl) (Nat.le_of_ble_eq_true rfl)
theorem g208_96 : rg Z d rx_m208 96 L [.int x] (rz_mk h ι, w) = some (.inl (some (.int x)), (rz_mk h ι, w)) := rz_reti rfl rfl rfl
theorem g208_97 : rg Z d rx_m208 97 [l0, some (.int x), l2] S (rz_mk h ι, w) = rg Z d rx_m208 98 [l0, some (.int x), l2] (.int x :: S) (rz_mk h ι, w) := rz_s1 fun _ => rfl
theorem g208_98 : rg Z d rx_m208 98 [l0, l1, some (.int x)] S (rz_mk h ι, w) = rg Z d rx_m208 99 [l0, l1, some (.int x)] (.int x :: S) (rz_mk h ι, w) := rz_s1 fun _ => rfl
theorem g208_99 : rg Z d rx_m208 99 L (v2 :: v1 :: []) (rz_mk h ι, w) = rz_k true (rz_f Z d 177 [v1, v2] (rz_mk h ι, w)) (fun v σ' => rg Z d rx_m208 102 L (v.toList ++ []) σ') := rz_cs (pc := 99) (n := 2) (mi := 177) (S := v2 :: v1 :: []) (rest := []) rfl rfl (Nat.le_of_ble_eq_true rfl) (Nat.le_of_ble_eq_true rfl)
theorem g208_102 : rg Z d rx_m208 102 L [.int x] (rz_mk h ι, w) = some (.inl (some (.int x)), (rz_mk h ι, w)) := rz_reti rfl rfl rfl
theorem e208 : rz_f Z (d + 1) 208 [.int s0, .int s1, .int s2] σ = rg Z d rx_m208 0 [some (.int s0), some (.int s1), some (.int s2)] [] σ := rz_f_eq rfl (Nat.le_of_ble_eq_true rfl)
theorem g209_0 : rg Z d rx_m209 0 L S (rz_mk h ι, w) = rg Z d rx_m209 1 L (.int 0 :: S) (rz_mk h ι, w) := rz_s1 fun _ => rfl
theorem g209_1 : rg Z d rx_m209 1 [some (.ref b), l1, l2] (.int x :: S) (rz_mk h ι, w) = rg Z d rx_m209 2 [some (.ref b), some (.int x), l2] S (rz_mk h ι, w) := rz_s1 fun _ => rfl
theorem g209_2 : rg Z d rx_m209 2 [some (.ref a), l1, l2] S (rz_mk h ι, w) = rg Z d rx_m209 3 [some (.ref a), l1, l2] (.ref a :: S) (rz_mk h ι, w) := rz_s1 fun _ => rfl
theorem g209_3 (c : rz_fR h a 12 21) : rg Z d rx_m209 3 L (.ref a :: S) (rz_mk h ι, w) = rg Z d rx_m209 6 L (rz_rv h a 21 :: S) (rz_mk h ι, w) := rz_gR rfl (by decide) c
theorem g209_6 : rg Z d rx_m209 6 L S (rz_mk h ι, w) = rg Z d rx_m209 7 L (.int 0 :: S) (rz_mk h ι, w) := rz_s1 fun _ => rfl
theorem g209_7 : rg Z d rx_m209 7 [some (.ref a), l1, l2] S (rz_mk h ι, w) = rg Z d rx_m209 8 [some (.ref a), l1, l2] (.ref a :: S) (rz_mk h ι, w) := rz_s1 fun _ => rfl
theorem g209_8 (c : rz_fR h a 12 22) : rg Z d rx_m209 8 L (.ref a :: S) (rz_mk h ι, w) = rg Z d rx_m209 11 L (rz_rv h a 22 :: S) (rz_mk h ι, w) := rz_gR rfl (by decide) c
theorem g209_11 : rg Z d rx_m209 11 L S (rz_mk h ι, w) = rg Z d rx_m209 12 L (.int 0 :: S) (rz_mk h ι, w) := rz_s1 fun _ => rfl
theorem g209_12 (c : rz_ar h a 0) (hi : rz_ix x (rz_ln h a)) : rg Z d rx_m209 12 L (.int x :: .ref a :: S) (rz_mk h ι, w) = rg Z d rx_m209 13 L (.int (ι a x.toNatClampNeg) :: S) (rz_mk h ι, w) := rz_iald rfl c hi
theorem g209_13 : rg Z d rx_m209 13 L S (rz_mk h ι, w) = rg Z d rx_m209 14 L (.int 2 :: S) (rz_mk h ι, w) := rz_s1 fun _ => rfl
theorem g209_14 : rg Z d rx_m209 14 [some (.ref a), l1, l2] S (rz_mk h ι, w) = rg Z d rx_m209 15 [some (.ref a), l1, l2] (.ref a :: S) (rz_mk h ι, w) := rz_s1 fun _ => rfl
theorem g209_15 (c : rz_fR h a 12 22) : rg Z d rx_m209 15 L (.ref a :: S) (rz_mk h ι, w) = rg Z d rx_m209 18 L (rz_rv h a 22 :: S) (rz_mk h ι, w) := rz_gR rfl (by decide) c
theorem g209_18 : rg Z d rx_m209 18 L S (rz_mk h ι, w) = rg Z d rx_m209 19 L (.int 1 :: S) (rz_mk h ι, w) := rz_s1 fun _ => rfl
theorem g209_19 (c : rz_ar h a 0) (hi : rz_ix x (rz_ln h a)) : rg Z d rx_m209 19 L (.int x :: .ref a :: S) (rz_mk h ι, w) = rg Z d rx_m209 20 L (.int (ι a x.toNatClampNeg) :: S) (rz_mk h ι, w) := rz_iald rfl c hi
theorem g209_20 : rg Z d rx_m209 20 L (.int y :: .int x :: S) (rz_mk h ι, w) = rg Z d rx_m209 21 L (.int (x * y) :: S) (rz_mk h ι, w) := rz_s1 fun _ => rfl
theorem g209_21 : rg Z d rx_m209 21 L (.int y :: .int x :: S) (rz_mk h ι, w) = rg Z d rx_m209 22 L (.int (x + y) :: S) (rz_mk h ι, w) := rz_s1 fun _ => rfl
theorem g209_22 : rg Z d rx_m209 22 [some (.ref a), l1, l2] S (rz_mk h ι, w) = rg Z d rx_m209 23 [some (.ref a), l1, l2] (.ref a :: S) (rz_mk h ι, w) := rz_s1 fun _ => rfl
theorem g209_23 (c : rz_fR h a 12 22) : rg Z d rx_m209 23 L (.ref a :: S) (rz_mk h ι, w) = rg Z d rx_m209 26 L (rz_rv h a 22 :: S) (rz_mk h ι, w) := rz_gR rfl (by decide) c
theorem g209_26 : rg Z d rx_m209 26 L S (rz_mk h ι, w) = rg Z d rx_m209 27 L (.int 2 :: S) (rz_mk h ι, w) := rz_s1 fun _ => rfl
theorem g209_27 (c : rz_ar h a 0) (hi : rz_ix x (rz_ln h a)) : rg Z d rx_m209 27 L (.int x :: .ref a :: S) (rz_mk h ι, w) = rg Z d rx_m209 28 L (.int (ι a x.toNatClampNeg) :: S) (rz_mk h ι, w) := rz_iald rfl c hi
theorem g209_28 : rg Z d rx_m209 28 L (.int y :: .int x :: S) (rz_mk h ι, w) = rg Z d rx_m209 29 L (.int (x + y) :: S) (rz_mk h ι, w) := rz_s1 fun _ => rfl
theorem g209_29 (c : rz_ar h a 0) (hi : rz_ix x (rz_ln h a)) (hz : Z.2.1 ≤ a) : rg Z d rx_m209 29 L (.int y :: .int x :: .ref a :: S) (rz_mk h ι, w) = rg Z d rx_m209 30 L S (rz_mk h (rz_up ι a x.toNatClampNeg y), w) := rz_iast rfl c hi hz
theorem g209_30 : rg Z d rx_m209 30 L S (rz_mk h ι, w) = rg Z d rx_m209 31 L (.int 0 :: S) (rz_mk h ι, w) := rz_s1 fun _ => rfl
theorem g209_31 : rg Z d rx_m209 31 [l0, some (.int z), l2] (.int x :: S) (rz_mk h ι, w) = rg Z d rx_m209 32 [l0, some (.int z), some (.int x)] S (rz_mk h ι, w) := rz_s1 fun _ => rfl
theorem g209_32 : rg Z d rx_m209 32 [l0, l1, some (.int x)] S (rz_mk h ι, w) = rg Z d rx_m209 33 [l0, l1, some (.int x)] (.int x :: S) (rz_mk h ι, w) := rz_s1 fun _ => rfl
theorem g209_33 : rg Z d rx_m209 33 [some (.ref a), l1, l2] S (rz_mk h ι, w) = rg Z d rx_m209 34 [some (.ref a), l1, l2] (.ref a :: S) (rz_mk h ι, w) := rz_s1 fun _ => rfl
theorem g209_34 (c : rz_fI h a 12 15) : rg Z d rx_m209 34 L (.ref a :: S) (rz_mk h ι, w) = rg Z d rx_m209 37 L (.int (ι a 15) :: S) (rz_mk h ι, w) := rz_gI rfl (by decide) c
theorem g209_37 : rg Z d rx_m209 37 L (.int y :: .int x :: S) (rz_mk h ι, w) = if x < y then rg Z d rx_m209 40 L S (rz_mk h ι, w) else rg Z d rx_m209 141 L S (rz_mk h ι, w) := rz_if2 (pc := 37) (t := 141) (off := 104) (cc := .ge) (by decide) rfl
theorem g209_40 : rg Z d rx_m209 40 [some (.ref a), l1, l2] S (rz_mk h ι, w) = rg Z d rx_m209 41 [some (.ref a), l1, l2] (.ref a :: S) (rz_mk h ι, w) := rz_s1 fun _ => rfl
theorem g209_41 (c : rz_fR h a 12 17) : rg Z d rx_m209 41 L (.ref a :: S) (rz_mk h ι, w) = rg Z d rx_m209 44 L (rz_rv h a 17 :: S) (rz_mk h ι, w) := rz_gR rfl (by decide) c
theorem g209_44 : rg Z d rx_m209 44 [l0, l1, some (.int x)] S (rz_mk h ι, w) = rg Z d rx_m209 45 [l0, l1, some (.int x)] (.int x :: S) (rz_mk h ι, w) := rz_s1 fun _ => rfl
theorem g209_45 (c : rz_ar h a 3) (hi : rz_ix x (rz_ln h a)) : rg Z d rx_m209 45 L (.int x :: .ref a :: S) (rz_mk h ι, w) = rg Z d rx_m209 46 L (rz_el h a x.toNatClampNeg :: S) (rz_mk h ι, w) := rz_aald (by decide) rfl c hi
theorem g209_46 : rg Z d rx_m209 46 L S (rz_mk h ι, w) = rg Z d rx_m209 47 L (.int 0 :: S) (rz_mk h ι, w) := rz_s1 fun _ => rfl
theorem g209_47 (c : rz_ar h a 0) (hi : rz_ix x (rz_ln h a)) : rg Z d rx_m209 47 L (.int x :: .ref a :: S) (rz_mk h ι, w) = rg Z d rx_m209 48 L (.int (ι a x.toNatClampNeg) :: S) (rz_mk h ι, w) := rz_iald rfl c hi
theorem g209_48 : rg Z d rx_m209 48 L S (rz_mk h ι, w) = rg Z d rx_m209 49 L (.int 2 :: S) (rz_mk h ι, w) := rz_s1 fun _ => rfl
theorem g209_49 : rg Z d rx_m209 49 L (.int y :: .int x :: S) (rz_mk h ι, w) = if x < y then rg Z d rx_m209 52 L S (rz_mk h ι, w) else rg Z d rx_m209 99 L S (rz_mk h ι, w) := rz_if2 (pc := 49) (t := 99) (off := 50) (cc := .ge) (by decide) rfl
theorem g209_52 : rg Z d rx_m209 52 [some (.ref a), l1, l2] S (rz_mk h ι, w) = rg Z d rx_m209 53 [some (.ref a), l1, l2] (.ref a :: S) (rz_mk h ι, w) := rz_s1 fun _ => rfl
theorem g209_53 (c : rz_fR h a 12 21) : rg Z d rx_m209 53 L (.ref a :: S) (rz_mk h ι, w) = rg Z d rx_m209 56 L (rz_rv h a 21 :: S) (rz_mk h ι, w) := rz_gR rfl (by decide) c
theorem g209_56 : rg Z d rx_m209 56 [l0, some (.int x), l2] S (rz_mk h ι, w) = rg Z d rx_m209 57 [l0, some (.int x), l2] (.int x :: S) (rz_mk h ι, w) := rz_s1 fun _ => rfl
theorem g209_57 : rg Z d rx_m209 57 [some (.ref a), l1, l2] S (rz_mk h ι, w) = rg Z d rx_m209 58 [some (.ref a), l1, l2] (.ref a :: S) (rz_mk h ι, w) := rz_s1 fun _ => rfl
theorem g209_58 (c : rz_fR h a 12 17) : rg Z d rx_m209 58 L (.ref a :: S) (rz_mk h ι, w) = rg Z d rx_m209 61 L (rz_rv h a 17 :: S) (rz_mk h ι, w) := rz_gR rfl (by decide) c
theorem g209_61 : rg Z d rx_m209 61 [l0, l1, some (.int x)] S (rz_mk h ι, w) = rg Z d rx_m209 62 [l0, l1, some (.int x)] (.int x :: S) (rz_mk h ι, w) := rz_s1 fun _ => rfl
theorem g209_62 (c : rz_ar h a 3) (hi : rz_ix x (rz_ln h a)) : rg Z d rx_m209 62 L (.int x :: .ref a :: S) (rz_mk h ι, w) = rg Z d rx_m209 63 L (rz_el h a x.toNatClampNeg :: S) (rz_mk h ι, w) := rz_aald (by decide) rfl c hi
theorem g209_63 : rg Z d rx_m209 63 L S (rz_mk h ι, w) = rg Z d rx_m209 64 L (.int 0 :: S) (rz_mk h ι, w) := rz_s1 fun _ => rfl
theorem g209_64 (c : rz_ar h a 0) (hi : rz_ix x (rz_ln h a)) : rg Z d rx_m209 64 L (.int x :: .ref a :: S) (rz_mk h ι, w) = rg Z d rx_m209 65 L (.int (ι a x.toNatClampNeg) :: S) (rz_mk h ι, w) := rz_iald rfl c hi
theorem g209_65 : rg Z d rx_m209 65 L (.int x :: S) (rz_mk h ι, w) = if x = 0 then rg Z d rx_m209 68 L S (rz_mk h ι, w) else rg Z d rx_m209 79 L S (rz_mk h ι, w) := rz_if1 (pc := 65) (t := 79) (off := 14) (cc := .ne) (by decide) rfl
theorem g209_68 : rg Z d rx_m209 68 [some (.ref a), l1, l2] S (rz_mk h ι, w) = rg Z d rx_m209 69 [some (.ref a), l1, l2] (.ref a :: S) (rz_mk h ι, w) := rz_s1 fun _ => rfl
theorem g209_69 (c : rz_fR h a 12 17) : rg Z d rx_m209 69 L (.ref a :: S) (rz_mk h ι, w) = rg Z d rx_m209 72 L (rz_rv h a 17 :: S) (rz_mk h ι, w) := rz_gR rfl (by decide) c
theorem g209_72 : rg Z d rx_m209 72 [l0, l1, some (.int x)] S (rz_mk h ι, w) = rg Z d rx_m209 73 [l0, l1, some (.int x)] (.int x :: S) (rz_mk h ι, w) := rz_s1 fun _ => rfl
theorem g209_73 (c : rz_ar h a 3) (hi : rz_ix x (rz_ln h a)) : rg Z d rx_m209 73 L (.int x :: .ref a :: S) (rz_mk h ι, w) = rg Z d rx_m209 74 L (rz_el h a x.toNatClampNeg :: S) (rz_mk h ι, w) := rz_aald (by decide) rfl c hi
theorem g209_74 : rg Z d rx_m209 74 L S (rz_mk h ι, w) = rg Z d rx_m209 75 L (.int 1 :: S) (rz_mk h ι, w) := rz_s1 fun _ => rfl
theorem g209_75 (c : rz_ar h a 0) (hi : rz_ix x (rz_ln h a)) : rg Z d rx_m209 75 L (.int x :: .ref a :: S) (rz_mk h ι, w) = rg Z d rx_m209 76 L (.int (ι a x.toNatClampNeg) :: S) (rz_mk h ι, w) := rz_iald rfl c hi
theorem g209_76 : rg Z d rx_m209 76 L S (rz_mk h ι, w) = rg Z d rx_m209 92 L S (rz_mk h ι, w) := rz_s1 fun _ => rfl
theorem g209_79 : rg Z d rx_m209 79 [some (.ref a), l1, l2] S (rz_mk h ι, w) = rg Z d rx_m209 80 [some (.ref a), l1, l2] (.ref a :: S) (rz_mk h ι, w) := rz_s1 fun _ => rfl
theorem g209_80 (c : rz_fR h a 12 22) : rg Z d rx_m209 80 L (.ref a :: S) (rz_mk h ι, w) = rg Z d rx_m209 83 L (rz_rv h a 22 :: S) (rz_mk h ι, w) := rz_gR rfl (by decide) c
theorem g209_83 : rg Z d rx_m209 83 [some (.ref a), l1, l2] S (rz_mk h ι, w) = rg Z d rx_m209 84 [some (.ref a), l1, l2] (.ref a :: S) (rz_mk h ι, w) := rz_s1 fun _ => rfl
theorem g209_84 (c : rz_fR h a 12 17) : rg Z d rx_m209 84 L (.ref a :: S) (rz_mk h ι, w) = rg Z d rx_m209 87 L (rz_rv h a 17 :: S) (rz_mk h ι, w) := rz_gR rfl (by decide) c
theorem g209_87 : rg Z d rx_m209 87 [l0, l1, some (.int x)] S (rz_mk h ι, w) = rg Z d rx_m209 88 [l0, l1, some (.int x)] (.int x :: S) (rz_mk h ι, w) := rz_s1 fun _ => rfl
theorem g209_88 (c : rz_ar h a 3) (hi : rz_ix x (rz_ln h a)) : rg Z d rx_m209 88 L (.int x :: .ref a :: S) (rz_mk h ι, w) = rg Z d rx_m209 89 L (rz_el h a x.toNatClampNeg :: S) (rz_mk h ι, w) := rz_aald (by decide) rfl c hi
theorem g209_89 : rg Z d rx_m209 89 L S (rz_mk h ι, w) = rg Z d rx_m209 90 L (.int 1 :: S) (rz_mk h ι, w) := rz_s1 fun _ => rfl
theorem g209_90 (c : rz_ar h a 0) (hi : rz_ix x (rz_ln h a)) : rg Z d rx_m209 90 L (.int x :: .ref a :: S) (rz_mk h ι, w) = rg Z d rx_m209 91 L (.int (ι a x.toNatClampNeg) :: S) (rz_mk h ι, w) := rz_iald rfl c hi
theorem g209_91 (c : rz_ar h a 0) (hi : rz_ix x (rz_ln h a)) : rg Z d rx_m209 91 L (.int x :: .ref a :: S) (rz_mk h ι, w) = rg Z d rx_m209 92 L (.int (ι a x.toNatClampNeg) :: S) (rz_mk h ι, w) := rz_iald rfl c hi
theorem g209_92 (c : rz_ar h a 0) (hi : rz_ix x (rz_ln h a)) (hz : Z.2.1 ≤ a) : rg Z d rx_m209 92 L (.int y :: .int x :: .ref a :: S) (rz_mk h ι, w) = rg Z d rx_m209 93 L S (rz_mk h (rz_up ι a x.toNatClampNeg y), w) := rz_iast rfl c hi hz
theorem g209_93 : rg Z d rx_m209 93 [some (.ref b), some (.int x), l2] S (rz_mk h ι, w) = rg Z d rx_m209 96 [some (.ref b), some (.int (x + 1)), l2] S (rz_mk h ι, w) := rz_s1 fun _ => rfl
theorem g209_96 : rg Z d rx_m209 96 L S (rz_mk h ι, w) = rg Z d rx_m209 135 L S (rz_mk h ι, w) := rz_s1 fun _ => rfl
theorem g209_99 : rg Z d rx_m209 99 [some (.ref b), some (.int x), l2] S (rz_mk h ι, w) = rg Z d rx_m209 102 [some (.ref b), some (.int (x + (-1))), l2] S (rz_mk h ι, w) := rz_s1 fun _ => rfl
theorem g209_102 : rg Z d rx_m209 102 [some (.ref a), l1, l2] S (rz_mk h ι, w) = rg Z d rx_m209 103 [some (.ref a), l1, l2] (.ref a :: S) (rz_mk h ι, w) := rz_s1 fun _ => rfl
theorem g209_103 (c : rz_fR h a 12 21) : rg Z d rx_m209 103 L (.ref a :: S) (rz_mk h ι, w) = rg Z d rx_m209 106 L (rz_rv h a 21 :: S) (rz_mk h ι, w) := rz_gR rfl (by decide) c
theorem g209_106 : rg Z d rx_m209 106 [l0, some (.int x), l2] S (rz_mk h ι, w) = rg Z d rx_m209 107 [l0, some (.int x), l2] (.int x :: S) (rz_mk h ι, w) := rz_s1 fun _ => rfl
theorem g209_107 : rg Z d rx_m209 107 L S (rz_mk h ι, w) = rg Z d rx_m209 108 L (.int 1 :: S) (rz_mk h ι, w) := rz_s1 fun _ => rfl
theorem g209_108 : rg Z d rx_m209 108 L (.int y :: .int x :: S) (rz_mk h ι, w) = rg Z d rx_m209 109 L (.int (x - y) :: S) (rz_mk h ι, w) := rz_s1 fun _ => rfl
theorem g209_109 : rg Z d rx_m209 109 [some (.ref a), l1, l2] S (rz_mk h ι, w) = rg Z d rx_m209 110 [some (.ref a), l1, l2] (.ref a :: S) (rz_mk h ι, w) := rz_s1 fun _ => rfl
theorem g209_110 (c : rz_fR h a 12 17) : rg Z d rx_m209 110 L (.ref a :: S) (rz_mk h ι, w) = rg Z d rx_m209 113 L (rz_rv h a 17 :: S) (rz_mk h ι, w) := rz_gR rfl (by decide) c
theorem g209_113 : rg Z d rx_m209 113 [l0, l1, some (.int x)] S (rz_mk h ι, w) = rg Z d rx_m209 114 [l0, l1, some (.int x)] (.int x :: S) (rz_mk h ι, w) := rz_s1 fun _ => rfl
theorem g209_114 (c : rz_ar h a 3) (hi : rz_ix x (rz_ln h a)) : rg Z d rx_m209 114 L (.int x :: .ref a :: S) (rz_mk h ι, w) = rg Z d rx_m209 115 L (rz_el h a x.toNatClampNeg :: S) (rz_mk h ι, w) := rz_aald (by decide) rfl c hi
theorem g209_115 : rg Z d rx_m209 115 L S (rz_mk h ι, w) = rg Z d rx_m209 116 L (.int 0 :: S) (rz_mk h ι, w) := rz_s1 fun _ => rfl
theorem g209_116 (c : rz_ar h a 0) (hi : rz_ix x (rz_ln h a)) : rg Z d rx_m209 116 L (.int x :: .ref a :: S) (rz_mk h ι, w) = rg Z d rx_m209 117 L (.int (ι a x.toNatClampNeg) :: S) (rz_mk h ι, w) := rz_iald rfl c hi
theorem g209_117 : rg Z d rx_m209 117 [some (.ref a), l1, l2] S (rz_mk h ι, w) = rg Z d rx_m209 118 [some (.ref a), l1, l2] (.ref a :: S) (rz_mk h ι, w) := rz_s1 fun _ => rfl
theorem g209_118 (c : rz_fR h a 12 21) : rg Z d rx_m209 118 L (.ref a :: S) (rz_mk h ι, w) = rg Z d rx_m209 121 L (rz_rv h a 21 :: S) (rz_mk h ι, w) := rz_gR rfl (by decide) c
theorem g209_121 : rg Z d rx_m209 121 [l0, some (.int x), l2] S (rz_mk h ι, w) = rg Z d rx_m209 122 [l0, some (.int x), l2] (.int x :: S) (rz_mk h ι, w) := rz_s1 fun _ => rfl
theorem g209_122 : rg Z d rx_m209 122 L S (rz_mk h ι, w) = rg Z d rx_m209 123 L (.int 1 :: S) (rz_mk h ι, w) := rz_s1 fun _ => rfl
theorem g209_123 : rg Z d rx_m209 123 L (.int y :: .int x :: S) (rz_mk h ι, w) = rg Z d rx_m209 124 L (.int (x - y) :: S) (rz_mk h ι, w) := rz_s1 fun _ => rfl
theorem g209_124 (c : rz_ar h a 0) (hi : rz_ix x (rz_ln h a)) : rg Z d rx_m209 124 L (.int x :: .ref a :: S) (rz_mk h ι, w) = rg Z d rx_m209 125 L (.int (ι a x.toNatClampNeg) :: S) (rz_mk h ι, w) := rz_iald rfl c hi
theorem g209_125 : rg Z d rx_m209 125 [some (.ref a), l1, l2] S (rz_mk h ι, w) = rg Z d rx_m209 126 [some (.ref a), l1, l2] (.ref a :: S) (rz_mk h ι, w) := rz_s1 fun _ => rfl
theorem g209_126 (c : rz_fR h a 12 21) : rg Z d rx_m209 126 L (.ref a :: S) (rz_mk h ι, w) = rg Z d rx_m209 129 L (rz_rv h a 21 :: S) (rz_mk h ι, w) := rz_gR rfl (by decide) c
theorem g209_129 : rg Z d rx_m209 129 [l0, some (.int x), l2] S (rz_mk h ι, w) = rg Z d rx_m209 130 [l0, some (.int x), l2] (.int x :: S) (rz_mk h ι, w) := rz_s1 fun _ => rfl
theorem g209_130 (c : rz_ar h a 0) (hi : rz_ix x (rz_ln h a)) : rg Z d rx_m209 130 L (.int x :: .ref a :: S) (rz_mk h ι, w) = rg Z d rx_m209 131 L (.int (ι a x.toNatClampNeg) :: S) (rz_mk h ι, w) := rz_iald rfl c hi
theorem g209_131 : rg Z d rx_m209 131 L (v3 :: v2 :: v1 :: [.int s0, .ref t1]) (rz_mk h ι, w) = rz_k true (rz_f Z d 208 [v1, v2, v3] (rz_mk h ι, w)) (fun v σ' => rg Z d rx_m209 134 L (v.toList ++ [.int s0, .ref t1]) σ') := rz_cs (pc := 131) (n := 3) (mi := 208) (S := v3 :: v2 :: v1 :: [.int s0, .ref t1]) (rest := [.int s0, .ref t1]) rfl rfl (Nat.le_of_ble_eq_true rfl) (Nat.le_of_ble_eq_true rfl)
theorem g209_134 (c : rz_ar h a 0) (hi : rz_ix x (rz_ln h a)) (hz : Z.2.1 ≤ a) : rg Z d rx_m209 134 L (.int y :: .int x :: .ref a :: S) (rz_mk h ι, w) = rg Z d rx_m209 135 L S (rz_mk h (rz_up ι a x.toNatClampNeg y), w) := rz_iast rfl c hi hz
theorem g209_135 : rg Z d rx_m209 135 [l0, some (.int z), some (.int x)] S (rz_mk h ι, w) = rg Z d rx_m209 138 [l0, some (.int z), some (.int (x + 1))] S (rz_mk h ι, w) := rz_s1 fun _ => rfl
theorem g209_138 : rg Z d rx_m209 138 L S (rz_mk h ι, w) = rg Z d rx_m209 32 L S (rz_mk h ι, w) := rz_s1 fun _ => rfl
theorem g209_141 : rg Z d rx_m209 141 L S (rz_mk h ι, w) = rg Z d rx_m209 143 L (.int 99 :: S) (rz_mk h ι, w) := rz_s1 fun _ => rfl
theorem g209_143 : rg Z d rx_m209 143 L S (rz_mk h ι, w) = rg Z d rx_m209 144 L (.int 0 :: S) (rz_mk h ι, w) := rz_s1 fun _ => rfl
theorem g209_144 : rg Z d rx_m209 144 [some (.ref a), l1, l2] S (rz_mk h ι, w) = rg Z d rx_m209 145 [some (.ref a), l1, l2] (.ref a :: S) (rz_mk h ι, w) := rz_s1 fun _ => rfl
theorem g209_145 (c : rz_fR h a 12 21) : rg Z d rx_m209 145 L (.ref a :: S) (rz_mk h ι, w) = rg Z d rx_m209 148 L (rz_rv h a 21 :: S) (rz_mk h ι, w) := rz_gR rfl (by decide) c
theorem g209_148 : rg Z d rx_m209 148 L S (rz_mk h ι, w) = rg Z d rx_m209 149 L (.int 0 :: S) (rz_mk h ι, w) := rz_s1 fun _ => rfl
theorem g209_149 (c : rz_ar h a 0) (hi : rz_ix x (rz_ln h a)) : rg Z d rx_m209 149 L (.int x :: .ref a :: S) (rz_mk h ι, w) = rg Z d rx_m209 150 L (.int (ι a x.toNatClampNeg) :: S) (rz_mk h ι, w) := rz_iald rfl c hi
theorem g209_150 : rg Z d rx_m209 150 L (v2 :: v1 :: [.int s0]) (rz_mk h ι, w) = rz_k true (rz_f Z d 177 [v1, v2] (rz_mk h ι, w)) (fun v σ' => rg Z d rx_m209 153 L (v.toList ++ [.int s0]) σ') := rz_cs (pc := 150) (n := 2) (mi := 177) (S := v2 :: v1 :: [.int s0]) (rest := [.int s0]) rfl rfl (Nat.le_of_ble_eq_true rfl) (Nat.le_of_ble_eq_true rfl)
theorem g209_153 : rg Z d rx_m209 153 L (v2 :: v1 :: []) (rz_mk h ι, w) = rz_k true (rz_f Z d 176 [v1, v2] (rz_mk h ι, w)) (fun v σ' => rg Z d rx_m209 156 L (v.toList ++ []) σ') := rz_cs (pc := 153) (n := 2) (mi := 176) (S := v2 :: v1 :: []) (rest := []) rfl rfl (Nat.le_of_ble_eq_true rfl) (Nat.le_of_ble_eq_true rfl)
theorem g209_156 : rg Z d rx_m209 156 L [.int x] (rz_mk h ι, w) = some (.inl (some (.int x)), (rz_mk h ι, w)) := rz_reti rfl rfl rfl
theorem e209 : rz_f Z (d + 1) 209 [.ref t0] σ = rg Z d rx_m209 0 [some (.ref t0), none, none] [] σ := rz_f_eq rfl (Nat.le_of_ble_eq_true rfl)
theorem g210_0 : rg Z d rx_m210 0 [some (.ref a)] S (rz_mk h ι, w) = rg Z d rx_m210 1 [some (.ref a)] (.ref a :: S) (rz_mk h ι, w) := rz_s1 fun _ => rfl
theorem g210_1 : rg Z d rx_m210 1 L S (rz_mk h ι, w) = rg Z d rx_m210 3 L (.int 6 :: S) (rz_mk h ι, w) := rz_s1 fun _ => rfl
theorem g210_3 : rg Z d rx_m210 3 L S (rz_mk h ι, w) = rg Z d rx_m210 4 L (.int 5 :: S) (rz_mk h ι, w) := rz_s1 fun _ => rfl
theorem g210_4 : rg Z d rx_m210 4 L S (rz_mk h ι, w) = rg Z d rx_m210 6 L (.int 9 :: S) (rz_mk h ι, w) := rz_s1 fun _ => rfl
theorem g210_6 : rg Z d rx_m210 6 L S (rz_mk h ι, w) = rg Z d rx_m210 8 L (.int 7 :: S) (rz_mk h ι, w) := rz_s1 fun _ => rfl
theorem g210_8 : rg Z d rx_m210 8 L S (rz_mk h ι, w) = rg Z d rx_m210 10 L (.int 14 :: S) (rz_mk h ι, w) := rz_s1 fun _ => rfl
theorem g210_10 : rg Z d rx_m210 10 L S (rz_mk h ι, w) = rg Z d rx_m210 11 L (.int 0 :: S) (rz_mk h ι, w) := rz_s1 fun _ => rfl
theorem g210_11 (c : rz_oc h a 12) : rg Z d rx_m210 11 L (v6 :: v5 :: v4 :: v3 :: v2 :: v1 :: .ref a :: []) (rz_mk h ι, w) = rz_k true (rz_f Z d 188 [.ref a, v1, v2, v3, v4, v5, v6] (rz_mk h ι, w)) (fun v σ' => rg Z d rx_m210 14 L (v.toList ++ []) σ') := rz_cv (pc := 11) (n := 6) (mi := 188) (S := v6 :: v5 :: v4 :: v3 :: v2 :: v1 :: .ref a :: []) (rest := []) rfl rfl (Nat.le_of_ble_eq_true rfl) (Nat.le_of_ble_eq_true rfl) c
theorem g210_14 : rg Z d rx_m210 14 L (.int x :: S) (rz_mk h ι, w) = if x = 0 then rg Z d rx_m210 19 L S (rz_mk h ι, w) else rg Z d rx_m210 17 L S (rz_mk h ι, w) := rz_if1 (pc := 14) (t := 19) (off := 5) (cc := .eq) (by decide) rfl
theorem g210_17 : rg Z d rx_m210 17 L S (rz_mk h ι, w) = rg Z d rx_m210 18 L (.int 0 :: S) (rz_mk h ι, w) := rz_s1 fun _ => rfl
theorem g210_18 : rg Z d rx_m210 18 L [.int x] (rz_mk h ι, w) = some (.inl (some (.int x)), (rz_mk h ι, w)) := rz_reti rfl rfl rfl
theorem g210_19 : rg Z d rx_m210 19 [some (.ref a)] S (rz_mk h ι, w) = rg Z d rx_m210 20 [some (.ref a)] (.ref a :: S) (rz_mk h ι, w) := rz_s1 fun _ => rfl
theorem g210_20 : rg Z d rx_m210 20 L S (rz_mk h ι, w) = rg Z d rx_m210 21 L (.int 4 :: S) (rz_mk h ι, w) := rz_s1 fun _ => rfl
theorem g210_21 : rg Z d rx_m210 21 L S (rz_mk h ι, w) = rg Z d rx_m210 23 L (.int 18 :: S) (rz_mk h ι, w) := rz_s1 fun _ => rfl
theorem g210_23 : rg Z d rx_m210 23 L S (rz_mk h ι, w) = rg Z d rx_m210 25 L (.int 15 :: S) (rz_mk h ι, w) := rz_s1 fun _ => rfl
theorem g210_25 : rg Z d rx_m210 25 L S (rz_mk h ι, w) = rg Z d rx_m210 27 L (.int 16 :: S) (rz_mk h ι, w) := rz_s1 fun _ => rfl
theorem g210_27 : rg Z d rx_m210 27 L S (rz_mk h ι, w) = rg Z d rx_m210 28 L (.int 0 :: S) (rz_mk h ι, w) := rz_s1 fun _ => rfl
theorem g210_28 : rg Z d rx_m210 28 L S (rz_mk h ι, w) = rg Z d rx_m210 29 L (.int 0 :: S) (rz_mk h ι, w) := rz_s1 fun _ => rfl
theorem g210_29 (c : rz_oc h a 12) : rg Z d rx_m210 29 L (v6 :: v5 :: v4 :: v3 :: v2 :: v1 :: .ref a :: []) (rz_mk h ι, w) = rz_k true (rz_f Z d 188 [.ref a, v1, v2, v3, v4, v5, v6] (rz_mk h ι, w)) (fun v σ' => rg Z d rx_m210 32 L (v.toList ++ []) σ') := rz_cv (pc := 29) (n := 6) (mi := 188) (S := v6 :: v5 :: v4 :: v3 :: v2 :: v1 :: .ref a :: []) (rest := []) rfl rfl (Nat.le_of_ble_eq_true rfl) (Nat.le_of_ble_eq_true rfl) c
theorem g210_32 : rg Z d rx_m210 32 L (.int x :: S) (rz_mk h ι, w) = if x = 0 then rg Z d rx_m210 37 L S (rz_mk h ι, w) else rg Z d rx_m210 35 L S (rz_mk h ι, w) := rz_if1 (pc := 32) (t := 37) (off := 5) (cc := .eq) (by decide) rfl
theorem g210_35 : rg Z d rx_m210 35 L S (rz_mk h ι, w) = rg Z d rx_m210 36 L (.int 1 :: S) (rz_mk h ι, w) := rz_s1 fun _ => rfl
theorem g210_36 : rg Z d rx_m210 36 L [.int x] (rz_mk h ι, w) = some (.inl (some (.int x)), (rz_mk h ι, w)) := rz_reti rfl rfl rfl
theorem g210_37 : rg Z d rx_m210 37 [some (.ref a)] S (rz_mk h ι, w) = rg Z d rx_m210 38 [some (.ref a)] (.ref a :: S) (rz_mk h ι, w) := rz_s1 fun _ => rfl
theorem g210_38 : rg Z d rx_m210 38 L S (rz_mk h ι, w) = rg Z d rx_m210 39 L (.int 2 :: S) (rz_mk h ι, w) := rz_s1 fun _ => rfl
theorem g210_39 : rg Z d rx_m210 39 L S (rz_mk h ι, w) = rg Z d rx_m210 41 L (.int 9 :: S) (rz_mk h ι, w) := rz_s1 fun _ => rfl
theorem g210_41 : rg Z d rx_m210 41 L S (rz_mk h ι, w) = rg Z d rx_m210 43 L (.int 18 :: S) (rz_mk h ι, w) := rz_s1 fun _ => rfl
theorem g210_43 : rg Z d rx_m210 43 L S (rz_mk h ι, w) = rg Z d rx_m210 45 L (.int 20 :: S) (rz_mk h ι, w) := rz_s1 fun _ => rfl
theorem g210_45 : rg Z d rx_m210 45 L S (rz_mk h ι, w) = rg Z d rx_m210 47 L (.int 8 :: S) (rz_mk h ι, w) := rz_s1 fun _ => rfl
theorem g210_47 : rg Z d rx_m210 47 L S (rz_mk h ι, w) = rg Z d rx_m210 48 L (.int 0 :: S) (rz_mk h ι, w) := rz_s1 fun _ => rfl
theorem g210_48 (c : rz_oc h a 12) : rg Z d rx_m210 48 L (v6 :: v5 :: v4 :: v3 :: v2 :: v1 :: .ref a :: []) (rz_mk h ι, w) = rz_k true (rz_f Z d 188 [.ref a, v1, v2, v3, v4, v5, v6] (rz_mk h ι, w)) (fun v σ' => rg Z d rx_m210 51 L (v.toList ++ []) σ') := rz_cv (pc := 48) (n := 6) (mi := 188) (S := v6 :: v5 :: v4 :: v3 :: v2 :: v1 :: .ref a :: []) (rest := []) rfl rfl (Nat.le_of_ble_eq_true rfl) (Nat.le_of_ble_eq_true rfl) c
theorem g210_51 : rg Z d rx_m210 51 L (.int x :: S) (rz_mk h ι, w) = if x = 0 then rg Z d rx_m210 56 L S (rz_mk h ι, w) else rg Z d rx_m210 54 L S (rz_mk h ι, w) := rz_if1 (pc := 51) (t := 56) (off := 5) (cc := .eq) (by decide) rfl
theorem g210_54 : rg Z d rx_m210 54 L S (rz_mk h ι, w) = rg Z d rx_m210 55 L (.int 2 :: S) (rz_mk h ι, w) := rz_s1 fun _ => rfl
theorem g210_55 : rg Z d rx_m210 55 L [.int x] (rz_mk h ι, w) = some (.inl (some (.int x)), (rz_mk h ι, w)) := rz_reti rfl rfl rfl
theorem g210_56 : rg Z d rx_m210 56 [some (.ref a)] S (rz_mk h ι, w) = rg Z d rx_m210 57 [some (.ref a)] (.ref a :: S) (rz_mk h ι, w) := rz_s1 fun _ => rfl
theorem g210_57 : rg Z d rx_m210 57 L S (rz_mk h ι, w) = rg Z d rx_m210 58 L (.int 4 :: S) (rz_mk h ι, w) := rz_s1 fun _ => rfl
theorem g210_58 : rg Z d rx_m210 58 L S (rz_mk h ι, w) = rg Z d rx_m210 60 L (.int 9 :: S) (rz_mk h ι, w) := rz_s1 fun _ => rfl
theorem g210_60 : rg Z d rx_m210 60 L S (rz_mk h ι, w) = rg Z d rx_m210 61 L (.int 5 :: S) (rz_mk h ι, w) := rz_s1 fun _ => rfl
theorem g210_61 : rg Z d rx_m210 61 L S (rz_mk h ι, w) = rg Z d rx_m210 62 L (.int 0 :: S) (rz_mk h ι, w) := rz_s1 fun _ => rfl
theorem g210_62 : rg Z d rx_m210 62 L S (rz_mk h ι, w) = rg Z d rx_m210 63 L (.int 0 :: S) (rz_mk h ι, w) := rz_s1 fun _ => rfl
theorem g210_63 : rg Z d rx_m210 63 L S (rz_mk h ι, w) = rg Z d rx_m210 64 L (.int 0 :: S) (rz_mk h ι, w) := rz_s1 fun _ => rfl
theorem g210_64 (c : rz_oc h a 12) : rg Z d rx_m210 64 L (v6 :: v5 :: v4 :: v3 :: v2 :: v1 :: .ref a :: []) (rz_mk h ι, w) = rz_k true (rz_f Z d 188 [.ref a, v1, v2, v3, v4, v5, v6] (rz_mk h ι, w)) (fun v σ' => rg Z d rx_m210 67 L (v.toList ++ []) σ') := rz_cv (pc := 64) (n := 6) (mi := 188) (S := v6 :: v5 :: v4 :: v3 :: v2 :: v1 :: .ref a :: []) (rest := []) rfl rfl (Nat.le_of_ble_eq_true rfl) (Nat.le_of_ble_eq_true rfl) c
theorem g210_67 : rg Z d rx_m210 67 L (.int x :: S) (rz_mk h ι, w) = if x = 0 then rg Z d rx_m210 72 L S (rz_mk h ι, w) else rg Z d rx_m210 70 L S (rz_mk h ι, w) := rz_if1 (pc := 67) (t := 72) (off := 5) (cc := .eq) (by decide) rfl
theorem g210_70 : rg Z d rx_m210 70 L S (rz_mk h ι, w) = rg Z d rx_m210 71 L (.int 3 :: S) (rz_mk h ι, w) := rz_s1 fun _ => rfl
theorem g210_71 : rg Z d rx_m210 71 L [.int x] (rz_mk h ι, w) = some (.inl (some (.int x)), (rz_mk h ι, w)) := rz_reti rfl rfl rfl
theorem g210_72 : rg Z d rx_m210 72 [some (.ref a)] S (rz_mk h ι, w) = rg Z d rx_m210 73 [some (.ref a)] (.ref a :: S) (rz_mk h ι, w) := rz_s1 fun _ => rfl
theorem g210_73 : rg Z d rx_m210 73 L S (rz_mk h ι, w) = rg Z d rx_m210 75 L (.int 25 :: S) (rz_mk h ι, w) := rz_s1 fun _ => rfl
theorem g210_75 : rg Z d rx_m210 75 L S (rz_mk h ι, w) = rg Z d rx_m210 76 L (.int 5 :: S) (rz_mk h ι, w) := rz_s1 fun _ => rfl
theorem g210_76 : rg Z d rx_m210 76 L S (rz_mk h ι, w) = rg Z d rx_m210 77 L (.int 1 :: S) (rz_mk h ι, w) := rz_s1 fun _ => rfl
theorem g210_77 : rg Z d rx_m210 77 L S (rz_mk h ι, w) = rg Z d rx_m210 79 L (.int 18 :: S) (rz_mk h ι, w) := rz_s1 fun _ => rfl
theorem g210_79 : rg Z d rx_m210 79 L S (rz_mk h ι, w) = rg Z d rx_m210 80 L (.int 0 :: S) (rz_mk h ι, w) := rz_s1 fun _ => rfl
theorem g210_80 : rg Z d rx_m210 80 L S (rz_mk h ι, w) = rg Z d rx_m210 81 L (.int 0 :: S) (rz_mk h ι, w) := rz_s1 fun _ => rfl
theorem g210_81 (c : rz_oc h a 12) : rg Z d rx_m210 81 L (v6 :: v5 :: v4 :: v3 :: v2 :: v1 :: .ref a :: []) (rz_mk h ι, w) = rz_k true (rz_f Z d 188 [.ref a, v1, v2, v3, v4, v5, v6] (rz_mk h ι, w)) (fun v σ' => rg Z d rx_m210 84 L (v.toList ++ []) σ') := rz_cv (pc := 81) (n := 6) (mi := 188) (S := v6 :: v5 :: v4 :: v3 :: v2 :: v1 :: .ref a :: []) (rest := []) rfl rfl (Nat.le_of_ble_eq_true rfl) (Nat.le_of_ble_eq_true rfl) c
theorem g210_84 : rg Z d rx_m210 84 L (.int x :: S) (rz_mk h ι, w) = if x = 0 then rg Z d rx_m210 89 L S (rz_mk h ι, w) else rg Z d rx_m210 87 L S (rz_mk h ι, w) := rz_if1 (pc := 84) (t := 89) (off := 5) (cc := .eq) (by decide) rfl
theorem g210_87 : rg Z d rx_m210 87 L S (rz_mk h ι, w) = rg Z d rx_m210 88 L (.int 4 :: S) (rz_mk h ι, w) := rz_s1 fun _ => rfl
theorem g210_88 : rg Z d rx_m210 88 L [.int x] (rz_mk h ι, w) = some (.inl (some (.int x)), (rz_mk h ι, w)) := rz_reti rfl rfl rfl
theorem g210_89 : rg Z d rx_m210 89 [some (.ref a)] S (rz_mk h ι, w) = rg Z d rx_m210 90 [some (.ref a)] (.ref a :: S) (rz_mk h ι, w) := rz_s1 fun _ => rfl
theorem g210_90 : rg Z d rx_m210 90 L S (rz_mk h ι, w) = rg Z d rx_m210 91 L (.int 1 :: S) (rz_mk h ι, w) := rz_s1 fun _ => rfl
theorem g210_91 : rg Z d rx_m210 91 L S (rz_mk h ι, w) = rg Z d rx_m210 93 L (.int 7 :: S) (rz_mk h ι, w) := rz_s1 fun _ => rfl
theorem g210_93 : rg Z d rx_m210 93 L S (rz_mk h ι, w) = rg Z d rx_m210 94 L (.int 1 :: S) (rz_mk h ι, w) := rz_s1 fun _ => rfl
theorem g210_94 : rg Z d rx_m210 94 L S (rz_mk h ι, w) = rg Z d rx_m210 96 L (.int 9 :: S) (rz_mk h ι, w) := rz_s1 fun _ => rfl
theorem g210_96 : rg Z d rx_m210 96 L S (rz_mk h ι, w) = rg Z d rx_m210 98 L (.int 14 :: S) (rz_mk h ι, w) := rz_s1 fun _ => rfl
theorem g210_98 : rg Z d rx_m210 98 L S (rz_mk h ι, w) = rg Z d rx_m210 99 L (.int 0 :: S) (rz_mk h ι, w) := rz_s1 fun _ => rfl
theorem g210_99 (c : rz_oc h a 12) : rg Z d rx_m210 99 L (v6 :: v5 :: v4 :: v3 :: v2 :: v1 :: .ref a :: []) (rz_mk h ι, w) = rz_k true (rz_f Z d 188 [.ref a, v1, v2, v3, v4, v5, v6] (rz_mk h ι, w)) (fun v σ' => rg Z d rx_m210 102 L (v.toList ++ []) σ') := rz_cv (pc := 99) (n := 6) (mi := 188) (S := v6 :: v5 :: v4 :: v3 :: v2 :: v1 :: .ref a :: []) (rest := []) rfl rfl (Nat.le_of_ble_eq_true rfl) (Nat.le_of_ble_eq_true rfl) c
theorem g210_102 : rg Z d rx_m210 102 L (.int x :: S) (rz_mk h ι, w) = if x = 0 then rg Z d rx_m210 109 L S (rz_mk h ι, w) else rg Z d rx_m210 105 L S (rz_mk h ι, w) := rz_if1 (pc := 102) (t := 109) (off := 7) (cc := .eq) (by decide) rfl
theorem g210_105 : rg Z d rx_m210 105 L S (rz_mk h ι, w) = rg Z d rx_m210 106 L (.int 5 :: S) (rz_mk h ι, w) := rz_s1 fun _ => rfl
theorem g210_106 : rg Z d rx_m210 106 L S (rz_mk h ι, w) = rg Z d rx_m210 110 L S (rz_mk h ι, w) := rz_s1 fun _ => rfl
theorem g210_109 : rg Z d rx_m210 109 L S (rz_mk h ι, w) = rg Z d rx_m210 110 L (.int (-1) :: S) (rz_mk h ι, w) := rz_s1 fun _ => rfl
theorem g210_110 : rg Z d rx_m210 110 L [.int x] (rz_mk h ι, w) = some (.inl (some (.int x)), (rz_mk h ι, w)) := rz_reti rfl rfl rfl
theorem e210 : rz_f Z (d + 1) 210 [.ref t0] σ = rg Z d rx_m210 0 [some (.ref t0)] [] σ := rz_f_eq rfl (Nat.le_of_ble_eq_true rfl)
end RZG
